set_option maxRecDepth 100000 in
set_option maxHeartbeats 4000000 in
theorem c_X3_lies {l : Launch} {δ : Dl} {b : Nat} {μ : Mm} (W : WX μ.2.2) {o : Nat} (hF : FA o) {V : Vt} (hV : HV μ o V) {c k : Nat} (hc : c < V 0 2) (hk : k < 12) : MCX l δ b yX3_lies cX3_lies 3 (some .boolean) 1 [.ref (b + o), .int (nI c), .int (nI k)] μ (pI fun r μ' => r = bI (lies V c k) ∧ μ' = μ) := by
  have bn := hi_n hV.1
  have bg := hi_gap hV.1 hc
  have bo := hi_go hV.1 hk
  refine MC.intro ([some (.ref (b + o)), some (.int (nI c)), some (.int (nI k))]) (by decide) rfl rfl fun κ Qc hl hQ X => ?_
  subst hl
  refine AW.aload_n X dX3_lies_0 (i := 0) rfl rfl ?_
  refine AW.getR X dX3_lies_1 fX3_31 rfl (fa_ob hF) (wx_gap W hF) ?_
  refine AW.iload_n X dX3_lies_4 (i := 1) rfl rfl ?_
  refine AW.iaload X dX3_lies_5 (fa_4 hF) (n2_in (by omega) (by decide)) (v := (nI (V 4 c))) (by rw [n2_clamp (by omega)]; exact hv_4 hV (by omega)) ?_
  refine AW.iload_n X dX3_lies_6 (i := 2) rfl rfl ?_
  refine AW.icmp_eqN X (tgt := 27) dX3_lies_7 (by decide) (by omega) (by omega) (fun h7 => ?_) (fun h7 => ?_)
  · refine AW.iconstN X 0 dX3_lies_27 rfl ?_
    refine AW.zret X rfl hQ dX3_lies_28 ⟨_, rfl, ?_⟩
    have e : (lies V c k) = false := by simp [lies, *]
    exact ⟨by rw [e]; rfl, rfl⟩
  · refine AW.aload_n X dX3_lies_10 (i := 0) rfl rfl ?_
    refine AW.getR X dX3_lies_11 fX3_37 rfl (fa_ob hF) (wx_gone W hF) ?_
    refine AW.iload_n X dX3_lies_14 (i := 2) rfl rfl ?_
    refine AW.iaload X dX3_lies_15 (fa_6 hF) (n2_in (by omega) (by decide)) (v := (nI (V 6 k))) (by rw [n2_clamp (by omega)]; exact hv_6 hV (by omega)) ?_
    refine AW.iload_n X dX3_lies_16 (i := 1) rfl rfl ?_
    refine AW.hasN X dX3_lies_17 dX3_lies_18 dX3_lies_19 (by omega) (by omega) ?_
    refine AW.if_neB X (tgt := 27) dX3_lies_20 (by decide) (fun h20 => ?_) (fun h20 => ?_)
    · refine AW.iconstN X 0 dX3_lies_27 rfl ?_
      refine AW.zret X rfl hQ dX3_lies_28 ⟨_, rfl, ?_⟩
      have e : (lies V c k) = false := by simp [lies, *]
      exact ⟨by rw [e]; rfl, rfl⟩
    · refine AW.iconstN X 1 dX3_lies_23 rfl ?_
      refine AW.goto X (tgt := 28) dX3_lies_24 (by decide) ?_
      refine AW.zret X rfl hQ dX3_lies_28 ⟨_, rfl, ?_⟩
      have e : (lies V c k) = true := by simp [lies, *]
      exact ⟨by rw [e]; rfl, rfl⟩
set_option maxRecDepth 100000 in
set_option maxHeartbeats 4000000 in
theorem c_X3_lyingIn {l : Launch} {δ : Dl} {b : Nat} {μ : Mm} (W : WX μ.2.2) {o : Nat} (hF : FA o) {V : Vt} (hV : HV μ o V) {k : Nat} (hk : k < 12) : MCX l δ b yX3_lyingIn cX3_lyingIn 4 (some .int) 2 [.ref (b + o), .int (nI k)] μ (pI fun r μ' => r = nI (lyA V k) ∧ μ' = μ) := by
  have bn := hi_n hV.1
  refine MC.intro ([some (.ref (b + o)), some (.int (nI k)), none, none]) (by decide) rfl rfl fun κ Qc hl hQ X => ?_
  subst hl
  have L4 : ∀ (m i : Nat), V 0 2 - i < m → i ≤ V 0 2 → AW κ (δ, b, NX, 4, shX, False, Qc, 0, 0) NX 0 0 4 [some (.ref (b + o)), some (.int (nI k)), some (.int (nI (ly V k i))), some (.int (nI i))] [] μ := by
    intro m
    induction m with
    | zero => intro i hm; exact absurd hm (Nat.not_lt_zero _)
    | succ m ih =>
      intro i hm hi 
      have b1 := ly_lt8 V k (i := i) (by omega)
      refine AW.iload_n X dX3_lyingIn_4 (i := 3) rfl rfl ?_
      refine AW.aload_n X dX3_lyingIn_5 (i := 0) rfl rfl ?_
      refine AW.getI X dX3_lyingIn_6 fX3_18 rfl (fa_ob hF) (hv_n hV) ?_
      refine AW.icmp_geN X (tgt := 33) dX3_lyingIn_9 (by decide) (by omega) (by omega) (fun h9 => ?_) (fun h9 => ?_)
      · obtain rfl : i = V 0 2 := by omega
        refine AW.iload_n X dX3_lyingIn_33 (i := 2) rfl rfl ?_
        refine AW.iret X hQ dX3_lyingIn_34 ⟨_, rfl, ?_⟩
        exact ⟨rfl, rfl⟩
      · refine AW.aload_n X dX3_lyingIn_12 (i := 0) rfl rfl ?_
        refine AW.iload_n X dX3_lyingIn_13 (i := 3) rfl rfl ?_
        refine AW.iload_n X dX3_lyingIn_14 (i := 1) rfl rfl ?_
        refine AW.callV X dX3_lyingIn_15 lX3_50 cfX3 (c_X3_lies W hF hV (by omega) (by omega)) (fa_ob hF) rfl rfl rfl rfl ⟨rfl, rfl⟩ (pR_k ?_)
        refine AW.if_eqB X (tgt := 27) dX3_lyingIn_18 (by decide) (fun h18 => ?_) (fun h18 => ?_)
        · refine AW.iincN X (c := (i + 1)) dX3_lyingIn_27 rfl (inc_1 _) rfl ?_
          refine AW.goto X (tgt := 4) dX3_lyingIn_30 (by decide) ?_
          refine AW.cg ?_ (ih (i + 1) (by omega) (by omega))
          simp [ly, *]
        · refine AW.iload_n X dX3_lyingIn_21 (i := 2) rfl rfl ?_
          refine AW.iconstN X 1 dX3_lyingIn_22 rfl ?_
          refine AW.iload_n X dX3_lyingIn_23 (i := 3) rfl rfl ?_
          refine AW.shl1 X dX3_lyingIn_24 (by omega) ?_
          refine AW.iorN X dX3_lyingIn_25 ?_
          refine AW.istore_n X dX3_lyingIn_26 (i := 2) rfl rfl ?_
          refine AW.iincN X (c := (i + 1)) dX3_lyingIn_27 rfl (inc_1 _) rfl ?_
          refine AW.goto X (tgt := 4) dX3_lyingIn_30 (by decide) ?_
          refine AW.cg ?_ (ih (i + 1) (by omega) (by omega))
          simp [ly, *]
  refine AW.iconstN X 0 dX3_lyingIn_0 rfl ?_
  refine AW.istore_n X dX3_lyingIn_1 (i := 2) rfl rfl ?_
  refine AW.iconstN X 0 dX3_lyingIn_2 rfl ?_
  refine AW.istore_n X dX3_lyingIn_3 (i := 3) rfl rfl ?_
  exact L4 _ 0 (Nat.lt_succ_self _) (by omega)
set_option maxRecDepth 100000 in
set_option maxHeartbeats 4000000 in
theorem c_X3_cellsOf {l : Launch} {δ : Dl} {b : Nat} {μ : Mm} (W : WX μ.2.2) {o : Nat} (hF : FA o) {V : Vt} (hV : HV μ o V) {c : Nat} (hc : c < V 0 2) : MCX l δ b yX3_cellsOf cX3_cellsOf 4 (some .int) 2 [.ref (b + o), .int (nI c)] μ (pI fun r μ' => r = nI (cellsTo V c 12) ∧ μ' = μ) := by
  have bn := hi_n hV.1
  refine MC.intro ([some (.ref (b + o)), some (.int (nI c)), none, none]) (by decide) rfl rfl fun κ Qc hl hQ X => ?_
  subst hl
  have L4 : ∀ (m i : Nat), 12 - i < m → i ≤ 12 → AW κ (δ, b, NX, 4, shX, False, Qc, 0, 0) NX 0 0 4 [some (.ref (b + o)), some (.int (nI c)), some (.int (nI (cellsTo V c i))), some (.int (nI i))] [] μ := by
    intro m
    induction m with
    | zero => intro i hm; exact absurd hm (Nat.not_lt_zero _)
    | succ m ih =>
      intro i hm hi 
      refine AW.iload_n X dX3_cellsOf_4 (i := 3) rfl rfl ?_
      refine AW.bipushN X 12 dX3_cellsOf_5 rfl ?_
      refine AW.icmp_geN X (tgt := 31) dX3_cellsOf_7 (by decide) (by omega) (by omega) (fun h7 => ?_) (fun h7 => ?_)
      · obtain rfl : i = 12 := by omega
        refine AW.iload_n X dX3_cellsOf_31 (i := 2) rfl rfl ?_
        refine AW.iret X hQ dX3_cellsOf_32 ⟨_, rfl, ?_⟩
        exact ⟨rfl, rfl⟩
      · refine AW.aload_n X dX3_cellsOf_10 (i := 0) rfl rfl ?_
        refine AW.iload_n X dX3_cellsOf_11 (i := 1) rfl rfl ?_
        refine AW.iload_n X dX3_cellsOf_12 (i := 3) rfl rfl ?_
        refine AW.callV X dX3_cellsOf_13 lX3_50 cfX3 (c_X3_lies W hF hV (by omega) (by omega)) (fa_ob hF) rfl rfl rfl rfl ⟨rfl, rfl⟩ (pR_k ?_)
        refine AW.if_eqB X (tgt := 25) dX3_cellsOf_16 (by decide) (fun h16 => ?_) (fun h16 => ?_)
        · refine AW.iincN X (c := (i + 1)) dX3_cellsOf_25 rfl (inc_1 _) rfl ?_
          refine AW.goto X (tgt := 4) dX3_cellsOf_28 (by decide) ?_
          refine AW.cg ?_ (ih (i + 1) (by omega) (by omega))
          simp [cellsTo, *]
        · refine AW.iload_n X dX3_cellsOf_19 (i := 2) rfl rfl ?_
          refine AW.iconstN X 1 dX3_cellsOf_20 rfl ?_
          refine AW.iload_n X dX3_cellsOf_21 (i := 3) rfl rfl ?_
          refine AW.shl1 X dX3_cellsOf_22 (by omega) ?_
          refine AW.iorN X dX3_cellsOf_23 ?_
          refine AW.istore_n X dX3_cellsOf_24 (i := 2) rfl rfl ?_
          refine AW.iincN X (c := (i + 1)) dX3_cellsOf_25 rfl (inc_1 _) rfl ?_
          refine AW.goto X (tgt := 4) dX3_cellsOf_28 (by decide) ?_
          refine AW.cg ?_ (ih (i + 1) (by omega) (by omega))
          simp [cellsTo, *]
  refine AW.iconstN X 0 dX3_cellsOf_0 rfl ?_
  refine AW.istore_n X dX3_cellsOf_1 (i := 2) rfl rfl ?_
  refine AW.iconstN X 0 dX3_cellsOf_2 rfl ?_
  refine AW.istore_n X dX3_cellsOf_3 (i := 3) rfl rfl ?_
  exact L4 _ 0 (Nat.lt_succ_self _) (by omega)
set_option maxRecDepth 100000 in
set_option maxHeartbeats 4000000 in
theorem c_X3_depthFrom {l : Launch} {δ : Dl} {b : Nat} {μ : Mm} (W : WX μ.2.2) {o : Nat} (hF : FA o) {V : Vt} (hV : HV μ o V) {lo k : Nat} (hlo : lo ≤ V 0 2) (hk : k < 12) : MCX l δ b yX3_depthFrom cX3_depthFrom 5 (some .int) 2 [.ref (b + o), .int (nI lo), .int (nI k)] μ (pI fun r μ' => r = nI (dsum V k lo (V 0 2)) ∧ μ' = μ) := by
  have bn := hi_n hV.1
  refine MC.intro ([some (.ref (b + o)), some (.int (nI lo)), some (.int (nI k)), none, none]) (by decide) rfl rfl fun κ Qc hl hQ X => ?_
  subst hl
  have L5 : ∀ (m i : Nat), V 0 2 - i < m → i ≤ V 0 2 → lo ≤ i → AW κ (δ, b, NX, 5, shX, False, Qc, 0, 0) NX 0 0 5 [some (.ref (b + o)), some (.int (nI lo)), some (.int (nI k)), some (.int (nI (dsum V k lo i))), some (.int (nI i))] [] μ := by
    intro m
    induction m with
    | zero => intro i hm; exact absurd hm (Nat.not_lt_zero _)
    | succ m ih =>
      intro i hm hi 
      intro hl2
      have b1 := dsum_le hV.1 k lo i (by omega)
      refine AW.iload X dX3_depthFrom_5 rfl ?_
      refine AW.aload_n X dX3_depthFrom_7 (i := 0) rfl rfl ?_
      refine AW.getI X dX3_depthFrom_8 fX3_18 rfl (fa_ob hF) (hv_n hV) ?_
      refine AW.icmp_geN X (tgt := 40) dX3_depthFrom_11 (by decide) (by omega) (by omega) (fun h11 => ?_) (fun h11 => ?_)
      · obtain rfl : i = V 0 2 := by omega
        refine AW.iload_n X dX3_depthFrom_40 (i := 3) rfl rfl ?_
        refine AW.iret X hQ dX3_depthFrom_41 ⟨_, rfl, ?_⟩
        exact ⟨rfl, rfl⟩
      · refine AW.aload_n X dX3_depthFrom_14 (i := 0) rfl rfl ?_
        refine AW.iload X dX3_depthFrom_15 rfl ?_
        refine AW.iload_n X dX3_depthFrom_17 (i := 2) rfl rfl ?_
        refine AW.callV X dX3_depthFrom_18 lX3_50 cfX3 (c_X3_lies W hF hV (by omega) (by omega)) (fa_ob hF) rfl rfl rfl rfl ⟨rfl, rfl⟩ (pR_k ?_)
        refine AW.if_eqB X (tgt := 34) dX3_depthFrom_21 (by decide) (fun h21 => ?_) (fun h21 => ?_)
        · refine AW.iincN X (c := (i + 1)) dX3_depthFrom_34 rfl (inc_1 _) rfl ?_
          refine AW.goto X (tgt := 5) dX3_depthFrom_37 (by decide) ?_
          refine AW.cg ?_ (ih (i + 1) (by omega) (by omega) (by omega))
          simp [dsum, *]
        · refine AW.iload_n X dX3_depthFrom_24 (i := 3) rfl rfl ?_
          refine AW.aload_n X dX3_depthFrom_25 (i := 0) rfl rfl ?_
          refine AW.getR X dX3_depthFrom_26 fX3_28 rfl (fa_ob hF) (wx_thick W hF) ?_
          refine AW.iload X dX3_depthFrom_29 rfl ?_
          refine AW.iaload X dX3_depthFrom_31 (fa_3 hF) (n2_in (by omega) (by decide)) (v := (nI (V 3 i))) (by rw [n2_clamp (by omega)]; exact hv_3 hV (by omega)) ?_
          refine AW.iaddN X dX3_depthFrom_32 ?_
          refine AW.istore_n X dX3_depthFrom_33 (i := 3) rfl rfl ?_
          refine AW.iincN X (c := (i + 1)) dX3_depthFrom_34 rfl (inc_1 _) rfl ?_
          refine AW.goto X (tgt := 5) dX3_depthFrom_37 (by decide) ?_
          refine AW.cg ?_ (ih (i + 1) (by omega) (by omega) (by omega))
          simp [dsum, *]
  refine AW.iconstN X 0 dX3_depthFrom_0 rfl ?_
  refine AW.istore_n X dX3_depthFrom_1 (i := 3) rfl rfl ?_
  refine AW.iload_n X dX3_depthFrom_2 (i := 1) rfl rfl ?_
  refine AW.istore X dX3_depthFrom_3 rfl ?_
  have e0 := dsum_0 V k lo lo (Nat.le_refl _)
  refine AW.cg ?_ (L5 _ lo (Nat.lt_succ_self _) hlo (Nat.le_refl _))
  simp [e0]
set_option maxRecDepth 100000 in
set_option maxHeartbeats 4000000 in
theorem c_X3_depth {l : Launch} {δ : Dl} {b : Nat} {μ : Mm} (W : WX μ.2.2) {o : Nat} (hF : FA o) {V : Vt} (hV : HV μ o V) {k : Nat} (hk : k < 12) : MCX l δ b yX3_depth cX3_depth 2 (some .int) 3 [.ref (b + o), .int (nI k)] μ (pI fun r μ' => r = nI (depth V k) ∧ μ' = μ) := by
  have bn := hi_n hV.1
  refine MC.intro ([some (.ref (b + o)), some (.int (nI k))]) (by decide) rfl rfl fun κ Qc hl hQ X => ?_
  subst hl
  refine AW.aload_n X dX3_depth_0 (i := 0) rfl rfl ?_
  refine AW.iconstN X 0 dX3_depth_1 rfl ?_
  refine AW.iload_n X dX3_depth_2 (i := 1) rfl rfl ?_
  refine AW.callV X dX3_depth_3 lX3_54 cfX3 (c_X3_depthFrom W hF hV (by omega) (by omega)) (fa_ob hF) rfl rfl rfl rfl ⟨rfl, rfl⟩ (pR_k ?_)
  refine AW.iret X hQ dX3_depth_6 ⟨_, rfl, ?_⟩
  exact ⟨rfl, rfl⟩
set_option maxRecDepth 100000 in
set_option maxHeartbeats 4000000 in
theorem c_X3_wholeSkin {l : Launch} {δ : Dl} {b : Nat} {μ : Mm} (W : WX μ.2.2) {o : Nat} (hF : FA o) {V : Vt} (hV : HV μ o V)  : MCX l δ b yX3_wholeSkin cX3_wholeSkin 3 (some .int) 4 [.ref (b + o)] μ (pI fun r μ' => r = nI (skin V) ∧ μ' = μ) := by
  have bn := hi_n hV.1
  refine MC.intro ([some (.ref (b + o)), none, none]) (by decide) rfl rfl fun κ Qc hl hQ X => ?_
  subst hl
  have L4 : ∀ (m i : Nat), 12 - i < m → i ≤ 12 → AW κ (δ, b, NX, 3, shX, False, Qc, 0, 0) NX 0 0 4 [some (.ref (b + o)), some (.int (nI (skinTo V i))), some (.int (nI i))] [] μ := by
    intro m
    induction m with
    | zero => intro i hm; exact absurd hm (Nat.not_lt_zero _)
    | succ m ih =>
      intro i hm hi 
      have b1 := skinTo_le hV.1 i
      refine AW.iload_n X dX3_wholeSkin_4 (i := 2) rfl rfl ?_
      refine AW.bipushN X 12 dX3_wholeSkin_5 rfl ?_
      refine AW.icmp_geN X (tgt := 24) dX3_wholeSkin_7 (by decide) (by omega) (by omega) (fun h7 => ?_) (fun h7 => ?_)
      · obtain rfl : i = 12 := by omega
        refine AW.iload_n X dX3_wholeSkin_24 (i := 1) rfl rfl ?_
        refine AW.iret X hQ dX3_wholeSkin_25 ⟨_, rfl, ?_⟩
        exact ⟨rfl, rfl⟩
      · refine AW.iload_n X dX3_wholeSkin_10 (i := 1) rfl rfl ?_
        refine AW.aload_n X dX3_wholeSkin_11 (i := 0) rfl rfl ?_
        refine AW.iload_n X dX3_wholeSkin_12 (i := 2) rfl rfl ?_
        refine AW.callV X dX3_wholeSkin_13 lX3_58 cfX3 (c_X3_depth W hF hV (by omega)) (fa_ob hF) rfl rfl rfl rfl ⟨rfl, rfl⟩ (pR_k ?_)
        refine AW.iaddN X dX3_wholeSkin_16 ?_
        refine AW.istore_n X dX3_wholeSkin_17 (i := 1) rfl rfl ?_
        refine AW.iincN X (c := (i + 1)) dX3_wholeSkin_18 rfl (inc_1 _) rfl ?_
        refine AW.goto X (tgt := 4) dX3_wholeSkin_21 (by decide) ?_
        refine AW.cg ?_ (ih (i + 1) (by omega) (by omega))
        simp [skinTo, *]
  refine AW.iconstN X 0 dX3_wholeSkin_0 rfl ?_
  refine AW.istore_n X dX3_wholeSkin_1 (i := 1) rfl rfl ?_
  refine AW.iconstN X 0 dX3_wholeSkin_2 rfl ?_
  refine AW.istore_n X dX3_wholeSkin_3 (i := 2) rfl rfl ?_
  exact L4 _ 0 (Nat.lt_succ_self _) (by omega)
set_option maxRecDepth 100000 in
set_option maxHeartbeats 4000000 in
theorem c_X3_greatestDepth {l : Launch} {δ : Dl} {b : Nat} {μ : Mm} (W : WX μ.2.2) {o : Nat} (hF : FA o) {V : Vt} (hV : HV μ o V)  : MCX l δ b yX3_greatestDepth cX3_greatestDepth 3 (some .int) 4 [.ref (b + o)] μ (pI fun r μ' => r = nI (deepTo V 12) ∧ μ' = μ) := by
  have bn := hi_n hV.1
  refine MC.intro ([some (.ref (b + o)), none, none]) (by decide) rfl rfl fun κ Qc hl hQ X => ?_
  subst hl
  have L4 : ∀ (m i : Nat), 12 - i < m → i ≤ 12 → AW κ (δ, b, NX, 3, shX, False, Qc, 0, 0) NX 0 0 4 [some (.ref (b + o)), some (.int (nI (deepTo V i))), some (.int (nI i))] [] μ := by
    intro m
    induction m with
    | zero => intro i hm; exact absurd hm (Nat.not_lt_zero _)
    | succ m ih =>
      intro i hm hi 
      have b1 := deepTo_le hV.1 i
      have b2 := depth_le hV.1 i
      refine AW.iload_n X dX3_greatestDepth_4 (i := 2) rfl rfl ?_
      refine AW.bipushN X 12 dX3_greatestDepth_5 rfl ?_
      refine AW.icmp_geN X (tgt := 26) dX3_greatestDepth_7 (by decide) (by omega) (by omega) (fun h7 => ?_) (fun h7 => ?_)
      · obtain rfl : i = 12 := by omega
        refine AW.iload_n X dX3_greatestDepth_26 (i := 1) rfl rfl ?_
        refine AW.iret X hQ dX3_greatestDepth_27 ⟨_, rfl, ?_⟩
        exact ⟨rfl, rfl⟩
      · refine AW.iload_n X dX3_greatestDepth_10 (i := 1) rfl rfl ?_
        refine AW.aload_n X dX3_greatestDepth_11 (i := 0) rfl rfl ?_
        refine AW.iload_n X dX3_greatestDepth_12 (i := 2) rfl rfl ?_
        refine AW.callV X dX3_greatestDepth_13 lX3_58 cfX3 (c_X3_depth W hF hV (by omega)) (fa_ob hF) rfl rfl rfl rfl ⟨rfl, rfl⟩ (pR_k ?_)
        refine AW.maxN X dX3_greatestDepth_16 (by omega) (by omega) lX3_max (by decide) ?_
        refine AW.istore_n X dX3_greatestDepth_19 (i := 1) rfl rfl ?_
        refine AW.iincN X (c := (i + 1)) dX3_greatestDepth_20 rfl (inc_1 _) rfl ?_
        refine AW.goto X (tgt := 4) dX3_greatestDepth_23 (by decide) ?_
        refine AW.cg ?_ (ih (i + 1) (by omega) (by omega))
        simp [deepTo, *]
  refine AW.iconstN X 0 dX3_greatestDepth_0 rfl ?_
  refine AW.istore_n X dX3_greatestDepth_1 (i := 1) rfl rfl ?_
  refine AW.iconstN X 0 dX3_greatestDepth_2 rfl ?_
  refine AW.istore_n X dX3_greatestDepth_3 (i := 2) rfl rfl ?_
  exact L4 _ 0 (Nat.lt_succ_self _) (by omega)
set_option maxRecDepth 100000 in
set_option maxHeartbeats 4000000 in
theorem c_X3_lived {l : Launch} {δ : Dl} {b : Nat} {μ : Mm} (W : WX μ.2.2) {o : Nat} (hF : FA o) {V : Vt} (hV : HV μ o V)  : MCX l δ b yX3_lived cX3_lived 3 (some .int) 1 [.ref (b + o)] μ (pI fun r μ' => r = nI (livedTo V (V 0 2)) ∧ μ' = μ) := by
  have bn := hi_n hV.1
  refine MC.intro ([some (.ref (b + o)), none, none]) (by decide) rfl rfl fun κ Qc hl hQ X => ?_
  subst hl
  have L4 : ∀ (m i : Nat), V 0 2 - i < m → i ≤ V 0 2 → AW κ (δ, b, NX, 3, shX, False, Qc, 0, 0) NX 0 0 4 [some (.ref (b + o)), some (.int (nI (livedTo V i))), some (.int (nI i))] [] μ := by
    intro m
    induction m with
    | zero => intro i hm; exact absurd hm (Nat.not_lt_zero _)
    | succ m ih =>
      intro i hm hi 
      refine AW.iload_n X dX3_lived_4 (i := 2) rfl rfl ?_
      refine AW.aload_n X dX3_lived_5 (i := 0) rfl rfl ?_
      refine AW.getI X dX3_lived_6 fX3_18 rfl (fa_ob hF) (hv_n hV) ?_
      refine AW.icmp_geN X (tgt := 29) dX3_lived_9 (by decide) (by omega) (by omega) (fun h9 => ?_) (fun h9 => ?_)
      · obtain rfl : i = V 0 2 := by omega
        refine AW.iload_n X dX3_lived_29 (i := 1) rfl rfl ?_
        refine AW.iret X hQ dX3_lived_30 ⟨_, rfl, ?_⟩
        exact ⟨rfl, rfl⟩
      · have bt := hi_ten hV.1 h9
        refine AW.iload_n X dX3_lived_12 (i := 1) rfl rfl ?_
        refine AW.iconstN X 1 dX3_lived_13 rfl ?_
        refine AW.aload_n X dX3_lived_14 (i := 0) rfl rfl ?_
        refine AW.getR X dX3_lived_15 fX3_21 rfl (fa_ob hF) (wx_tenant W hF) ?_
        refine AW.iload_n X dX3_lived_18 (i := 2) rfl rfl ?_
        refine AW.iaload X dX3_lived_19 (fa_1 hF) (n2_in (by omega) (by decide)) (v := (nI (V 1 i))) (by rw [n2_clamp (by omega)]; exact hv_1 hV (by omega)) ?_
        refine AW.shl1 X dX3_lived_20 (by omega) ?_
        refine AW.iorN X dX3_lived_21 ?_
        refine AW.istore_n X dX3_lived_22 (i := 1) rfl rfl ?_
        refine AW.iincN X (c := (i + 1)) dX3_lived_23 rfl (inc_1 _) rfl ?_
        refine AW.goto X (tgt := 4) dX3_lived_26 (by decide) ?_
        refine AW.cg ?_ (ih (i + 1) (by omega) (by omega))
        simp [livedTo, *]
  refine AW.iconstN X 0 dX3_lived_0 rfl ?_
  refine AW.istore_n X dX3_lived_1 (i := 1) rfl rfl ?_
  refine AW.iconstN X 0 dX3_lived_2 rfl ?_
  refine AW.istore_n X dX3_lived_3 (i := 2) rfl rfl ?_
  exact L4 _ 0 (Nat.lt_succ_self _) (by omega)
set_option maxRecDepth 100000 in
set_option maxHeartbeats 4000000 in
theorem c_X3_coatsOf {l : Launch} {δ : Dl} {b : Nat} {μ : Mm} (W : WX μ.2.2) {o : Nat} (hF : FA o) {V : Vt} (hV : HV μ o V) {t : Nat} (ht : t < 8) : MCX l δ b yX3_coatsOf cX3_coatsOf 4 (some .int) 1 [.ref (b + o), .int (nI t)] μ (pI fun r μ' => r = nI (coatsTo V t (V 0 2)) ∧ μ' = μ) := by
  have bn := hi_n hV.1
  refine MC.intro ([some (.ref (b + o)), some (.int (nI t)), none, none]) (by decide) rfl rfl fun κ Qc hl hQ X => ?_
  subst hl
  have L4 : ∀ (m i : Nat), V 0 2 - i < m → i ≤ V 0 2 → AW κ (δ, b, NX, 4, shX, False, Qc, 0, 0) NX 0 0 4 [some (.ref (b + o)), some (.int (nI t)), some (.int (nI (coatsTo V t i))), some (.int (nI i))] [] μ := by
    intro m
    induction m with
    | zero => intro i hm; exact absurd hm (Nat.not_lt_zero _)
    | succ m ih =>
      intro i hm hi 
      refine AW.iload_n X dX3_coatsOf_4 (i := 3) rfl rfl ?_
      refine AW.aload_n X dX3_coatsOf_5 (i := 0) rfl rfl ?_
      refine AW.getI X dX3_coatsOf_6 fX3_18 rfl (fa_ob hF) (hv_n hV) ?_
      refine AW.icmp_geN X (tgt := 31) dX3_coatsOf_9 (by decide) (by omega) (by omega) (fun h9 => ?_) (fun h9 => ?_)
      · obtain rfl : i = V 0 2 := by omega
        refine AW.iload_n X dX3_coatsOf_31 (i := 2) rfl rfl ?_
        refine AW.iret X hQ dX3_coatsOf_32 ⟨_, rfl, ?_⟩
        exact ⟨rfl, rfl⟩
      · have bt := hi_ten hV.1 h9
        refine AW.aload_n X dX3_coatsOf_12 (i := 0) rfl rfl ?_
        refine AW.getR X dX3_coatsOf_13 fX3_21 rfl (fa_ob hF) (wx_tenant W hF) ?_
        refine AW.iload_n X dX3_coatsOf_16 (i := 3) rfl rfl ?_
        refine AW.iaload X dX3_coatsOf_17 (fa_1 hF) (n2_in (by omega) (by decide)) (v := (nI (V 1 i))) (by rw [n2_clamp (by omega)]; exact hv_1 hV (by omega)) ?_
        refine AW.iload_n X dX3_coatsOf_18 (i := 1) rfl rfl ?_
        refine AW.icmp_neN X (tgt := 25) dX3_coatsOf_19 (by decide) (by omega) (by omega) (fun h19 => ?_) (fun h19 => ?_)
        · refine AW.iincN X (c := (i + 1)) dX3_coatsOf_25 rfl (inc_1 _) rfl ?_
          refine AW.goto X (tgt := 4) dX3_coatsOf_28 (by decide) ?_
          refine AW.cg ?_ (ih (i + 1) (by omega) (by omega))
          simp [coatsTo, *]
        · refine AW.iincN X (c := ((coatsTo V t i) + 1)) dX3_coatsOf_22 rfl (inc_1 _) rfl ?_
          refine AW.iincN X (c := (i + 1)) dX3_coatsOf_25 rfl (inc_1 _) rfl ?_
          refine AW.goto X (tgt := 4) dX3_coatsOf_28 (by decide) ?_
          refine AW.cg ?_ (ih (i + 1) (by omega) (by omega))
          simp [coatsTo, *]
  refine AW.iconstN X 0 dX3_coatsOf_0 rfl ?_
  refine AW.istore_n X dX3_coatsOf_1 (i := 2) rfl rfl ?_
  refine AW.iconstN X 0 dX3_coatsOf_2 rfl ?_
  refine AW.istore_n X dX3_coatsOf_3 (i := 3) rfl rfl ?_
  exact L4 _ 0 (Nat.lt_succ_self _) (by omega)
