set_option maxRecDepth 100000 in
set_option maxHeartbeats 4000000 in
theorem c_X3_clear {l : Launch} {δ : Dl} {b : Nat} {μ : Mm} (W : WX μ.2.2) {o : Nat} (hF : FA o) : MCX l δ b yX3_clear cX3_clear 2 none 1 [.ref (b + o)] μ (pV fun μ' => μ' = clrM μ o 12) := by
  refine MC.intro ([some (.ref (b + o)), none]) (by decide) rfl rfl fun κ Qc hl hQ X => ?_
  subst hl
  have L7 : ∀ (m i : Nat), 12 - i < m → i ≤ 12 → AW κ (δ, b, NX, 2, shX, False, Qc, 0, 0) NX 0 0 7 [some (.ref (b + o)), some (.int (nI i))] [] (clrM μ o i) := by
    intro m
    induction m with
    | zero => intro i hm; exact absurd hm (Nat.not_lt_zero _)
    | succ m ih =>
      intro i hm hi
      refine AW.iload_n X dX3_clear_7 (i := 1) rfl rfl ?_
      refine AW.bipushN X 12 dX3_clear_8 rfl ?_
      refine AW.icmp_geN X (tgt := 26) dX3_clear_10 (by decide) (by omega) (by omega) (fun h10 => ?_) (fun h10 => ?_)
      · obtain rfl : i = 12 := by omega
        refine AW.vret X hQ dX3_clear_26 ⟨rfl, ?_⟩
        rfl
      · refine AW.aload_n X dX3_clear_13 (i := 0) rfl rfl ?_
        refine AW.getR X dX3_clear_14 fX3_37 rfl (fa_ob hF) (wx_gone W hF) ?_
        refine AW.iload_n X dX3_clear_17 (i := 1) rfl rfl ?_
        refine AW.iconstN X 0 dX3_clear_18 rfl ?_
        refine AW.iastore X dX3_clear_19 (by decide) (fa_6 hF) (n2_in (by omega) (by decide)) ?_
        rw [n2_clamp (by omega)]
        refine AW.iincN X (c := (i + 1)) dX3_clear_20 rfl (inc_1 _) rfl ?_
        refine AW.goto X (tgt := 7) dX3_clear_23 (by decide) ?_
        exact AW.cgm (clr_s μ o i) (ih (i + 1) (by omega) (by omega))
  refine AW.aload_n X dX3_clear_0 (i := 0) rfl rfl ?_
  refine AW.iconstN X 0 dX3_clear_1 rfl ?_
  refine AW.putI X dX3_clear_2 fX3_18 rfl rfl ⟨rfl, rfl⟩ (by decide) (fa_ob hF) ?_
  refine AW.iconstN X 0 dX3_clear_5 rfl ?_
  refine AW.istore_n X dX3_clear_6 (i := 1) rfl rfl ?_
  exact AW.cgm (clr_0 μ o) (L7 _ 0 (Nat.lt_succ_self _) (by omega))
set_option maxRecDepth 100000 in
set_option maxHeartbeats 4000000 in
theorem c_X3_putOn {l : Launch} {δ : Dl} {b : Nat} {μ : Mm} (W : WX μ.2.2) {o : Nat} (hF : FA o) {V : Vt} (hV : HV μ o V) {t c th g y : Nat} (hn : V 0 2 < 8) : MCX l δ b yX3_putOn cX3_putOn 7 (some .int) 1 [.ref (b + o), .int (nI t), .int (nI c), .int (nI th), .int (nI g), .int (nI y)] μ (pI fun r μ' => r = nI (V 0 2) ∧ μ' = putM μ o (V 0 2) t c th g y) := by
  refine MC.intro ([some (.ref (b + o)), some (.int (nI t)), some (.int (nI c)), some (.int (nI th)), some (.int (nI g)), some (.int (nI y)), none]) (by decide) rfl rfl fun κ Qc hl hQ X => ?_
  subst hl
  refine AW.aload_n X dX3_putOn_0 (i := 0) rfl rfl ?_
  refine AW.getI X dX3_putOn_1 fX3_18 rfl (fa_ob hF) (hv_n hV) ?_
  refine AW.bipushN X 8 dX3_putOn_4 rfl ?_
  refine AW.icmp_ltN X (tgt := 11) dX3_putOn_6 (by decide) (by omega) (by omega) (fun h6 => ?_) (fun h6 => ?_)
  · refine AW.aload_n X dX3_putOn_11 (i := 0) rfl rfl ?_
    refine AW.getI X dX3_putOn_12 fX3_18 rfl (fa_ob hF) (hv_n hV) ?_
    refine AW.istore X dX3_putOn_15 rfl ?_
    refine AW.aload_n X dX3_putOn_17 (i := 0) rfl rfl ?_
    refine AW.getR X dX3_putOn_18 fX3_21 rfl (fa_ob hF) (wx_tenant W hF) ?_
    refine AW.iload X dX3_putOn_21 rfl ?_
    refine AW.iload_n X dX3_putOn_23 (i := 1) rfl rfl ?_
    refine AW.iastore X dX3_putOn_24 (by decide) (fa_1 hF) (n2_in (by omega) (by decide)) ?_
    rw [n2_clamp (by omega)]
    refine AW.aload_n X dX3_putOn_25 (i := 0) rfl rfl ?_
    refine AW.getR X dX3_putOn_26 fX3_25 rfl (fa_ob hF) (wx_colour W hF) ?_
    refine AW.iload X dX3_putOn_29 rfl ?_
    refine AW.iload_n X dX3_putOn_31 (i := 2) rfl rfl ?_
    refine AW.iastore X dX3_putOn_32 (by decide) (fa_2 hF) (n2_in (by omega) (by decide)) ?_
    rw [n2_clamp (by omega)]
    refine AW.aload_n X dX3_putOn_33 (i := 0) rfl rfl ?_
    refine AW.getR X dX3_putOn_34 fX3_28 rfl (fa_ob hF) (wx_thick W hF) ?_
    refine AW.iload X dX3_putOn_37 rfl ?_
    refine AW.iload_n X dX3_putOn_39 (i := 3) rfl rfl ?_
    refine AW.iastore X dX3_putOn_40 (by decide) (fa_3 hF) (n2_in (by omega) (by decide)) ?_
    rw [n2_clamp (by omega)]
    refine AW.aload_n X dX3_putOn_41 (i := 0) rfl rfl ?_
    refine AW.getR X dX3_putOn_42 fX3_31 rfl (fa_ob hF) (wx_gap W hF) ?_
    refine AW.iload X dX3_putOn_45 rfl ?_
    refine AW.iload X dX3_putOn_47 rfl ?_
    refine AW.iastore X dX3_putOn_49 (by decide) (fa_4 hF) (n2_in (by omega) (by decide)) ?_
    rw [n2_clamp (by omega)]
    refine AW.aload_n X dX3_putOn_50 (i := 0) rfl rfl ?_
    refine AW.getR X dX3_putOn_51 fX3_34 rfl (fa_ob hF) (wx_year W hF) ?_
    refine AW.iload X dX3_putOn_54 rfl ?_
    refine AW.iload X dX3_putOn_56 rfl ?_
    refine AW.iastore X dX3_putOn_58 (by decide) (fa_5 hF) (n2_in (by omega) (by decide)) ?_
    rw [n2_clamp (by omega)]
    refine AW.aload_n X dX3_putOn_59 (i := 0) rfl rfl ?_
    refine AW.dup X dX3_putOn_60 rfl ?_
    refine AW.getI X dX3_putOn_61 fX3_18 rfl (fa_ob hF) (v := (nI (V 0 2))) (by simpa [wI] using hv_n hV) ?_
    refine AW.iconstN X 1 dX3_putOn_64 rfl ?_
    refine AW.iaddN X dX3_putOn_65 ?_
    refine AW.putI X dX3_putOn_66 fX3_18 rfl rfl ⟨rfl, rfl⟩ (by decide) (fa_ob hF) ?_
    refine AW.iload X dX3_putOn_69 rfl ?_
    refine AW.iret X hQ dX3_putOn_71 ⟨_, rfl, ?_⟩
    exact ⟨rfl, rfl⟩
  · omega
set_option maxRecDepth 100000 in
set_option maxHeartbeats 4000000 in
theorem c_X3_putOn_full {l : Launch} {δ : Dl} {b : Nat} {μ : Mm} (W : WX μ.2.2) {o : Nat} (hF : FA o) {V : Vt} (hV : HV μ o V) {t c th g y : Nat} (hn : V 0 2 = 8) : MCX l δ b yX3_putOn cX3_putOn 7 (some .int) 1 [.ref (b + o), .int (nI t), .int (nI c), .int (nI th), .int (nI g), .int (nI y)] μ (pI fun r μ' => r = -1 ∧ μ' = μ) := by
  refine MC.intro ([some (.ref (b + o)), some (.int (nI t)), some (.int (nI c)), some (.int (nI th)), some (.int (nI g)), some (.int (nI y)), none]) (by decide) rfl rfl fun κ Qc hl hQ X => ?_
  subst hl
  refine AW.aload_n X dX3_putOn_0 (i := 0) rfl rfl ?_
  refine AW.getI X dX3_putOn_1 fX3_18 rfl (fa_ob hF) (hv_n hV) ?_
  refine AW.bipushN X 8 dX3_putOn_4 rfl ?_
  refine AW.icmp_ltN X (tgt := 11) dX3_putOn_6 (by decide) (by omega) (by omega) (fun h6 => ?_) (fun h6 => ?_)
  · omega
  · refine AW.iconst X (v := -1) dX3_putOn_9 rfl ?_
    refine AW.iret X hQ dX3_putOn_10 ⟨_, rfl, ?_⟩
    exact ⟨rfl, rfl⟩
def went (V : Vt) (k h : Nat) : Nat := andN (lyA V k) (behindH V k h)
theorem andN_lt {a c : Nat} (ha : a < 256) : andN a c < 256 := Nat.xor_lt_two_pow (n := 8) ha (Nat.lt_of_le_of_lt Nat.and_le_left ha)
theorem went_lt {V : Vt} (hV : HI V) (k h : Nat) : went V k h < 256 := andN_lt (lyN hV k)
theorem behindH_lt {V : Vt} (hV : HI V) (k h : Nat) : behindH V k h < 256 := behind_lt hV _ _ _ (Nat.le_refl _) (lyN hV k)
set_option maxRecDepth 100000 in
set_option maxHeartbeats 4000000 in
theorem c_X3_hailInTruth {l : Launch} {δ : Dl} {b : Nat} {μ : Mm} (W : WX μ.2.2) {o : Nat} (hF : FA o) {V : Vt} (hV : HV μ o V) {k h : Nat} (hk : k < 12) (hh : h < 100) : MCX l δ b yX3_hailInTruth cX3_hailInTruth 4 (some .int) 4 [.ref (b + o), .int (nI k), .int (nI h)] μ (pI fun r μ' => r = nI (pcnt (went V k h)) ∧ μ' = wI μ (o + 6) k (nI (V 6 k ||| went V k h))) := by
  have bn := hi_n hV.1
  have b1 := lyN hV.1 k
  have b2 := behindH_lt hV.1 k h
  refine MC.intro ([some (.ref (b + o)), some (.int (nI k)), some (.int (nI h)), none]) (by decide) rfl rfl fun κ Qc hl hQ X => ?_
  subst hl
  refine AW.aload_n X dX3_hailInTruth_0 (i := 0) rfl rfl ?_
  refine AW.iload_n X dX3_hailInTruth_1 (i := 1) rfl rfl ?_
  refine AW.callV X dX3_hailInTruth_2 lX3_78 cfX3 (c_X3_lyingIn W hF hV (by omega)) (fa_ob hF) rfl rfl rfl rfl ⟨rfl, rfl⟩ (pR_k ?_)
  refine AW.aload_n X dX3_hailInTruth_5 (i := 0) rfl rfl ?_
  refine AW.iload_n X dX3_hailInTruth_6 (i := 1) rfl rfl ?_
  refine AW.iload_n X dX3_hailInTruth_7 (i := 2) rfl rfl ?_
  refine AW.callV X dX3_hailInTruth_8 lX3_81 cfX3 (c_X3_behindHail W hF hV (by omega) (by omega)) (fa_ob hF) rfl rfl rfl rfl ⟨rfl, rfl⟩ (pR_k ?_)
  refine AW.andNotN X dX3_hailInTruth_11 dX3_hailInTruth_12 dX3_hailInTruth_13 ?_
  refine AW.istore_n X dX3_hailInTruth_14 (i := 3) rfl rfl ?_
  refine AW.aload_n X dX3_hailInTruth_15 (i := 0) rfl rfl ?_
  refine AW.getR X dX3_hailInTruth_16 fX3_37 rfl (fa_ob hF) (wx_gone W hF) ?_
  refine AW.iload_n X dX3_hailInTruth_19 (i := 1) rfl rfl ?_
  refine AW.dup2 X dX3_hailInTruth_20 rfl rfl ?_
  refine AW.iaload X dX3_hailInTruth_21 (fa_6 hF) (n2_in (by omega) (by decide)) (v := (nI (V 6 k))) (by rw [n2_clamp (by omega)]; exact hv_6 hV (by omega)) ?_
  refine AW.iload_n X dX3_hailInTruth_22 (i := 3) rfl rfl ?_
  refine AW.iorN X dX3_hailInTruth_23 ?_
  refine AW.iastore X dX3_hailInTruth_24 (by decide) (fa_6 hF) (n2_in (by omega) (by decide)) ?_
  rw [n2_clamp (by omega)]
  refine AW.iload_n X dX3_hailInTruth_25 (i := 3) rfl rfl ?_
  refine AW.callS X dX3_hailInTruth_26 lX3_84 (c_J6_bitCount_0f7a4) rfl rfl rfl rfl ⟨rfl, rfl⟩ (pR_k ?_)
  refine AW.iret X hQ dX3_hailInTruth_29 ⟨_, rfl, ?_⟩
  exact ⟨bc_n _ (went_lt hV.1 k h), rfl⟩
/-- the uppermost coat below i that lies in cell k -/
def upmost (V : Vt) (k : Nat) : Nat → Option Nat
  | 0 => none
  | c + 1 => if lies V c k then some c else upmost V k c
theorem upmost_lt {V : Vt} {k : Nat} : ∀ {i c : Nat}, upmost V k i = some c → c < i
  | 0, c, h => by cases h
  | i + 1, c, h => by
    unfold upmost at h
    split at h
    · cases h; omega
    · have := upmost_lt h; omega
set_option maxRecDepth 100000 in
set_option maxHeartbeats 4000000 in
theorem c_X3_takeUppermost {l : Launch} {δ : Dl} {b : Nat} {μ : Mm} (W : WX μ.2.2) {o : Nat} (hF : FA o) {V : Vt} (hV : HV μ o V) {k : Nat} (hk : k < 12) : MCX l δ b yX3_takeUppermost cX3_takeUppermost 3 (some .int) 2 [.ref (b + o), .int (nI k)] μ (pI fun r μ' => match upmost V k (V 0 2) with
  | none => r = -1 ∧ μ' = μ
  | some c => r = nI c ∧ μ' = wI μ (o + 6) k (nI (V 6 k ||| 2 ^ c))) := by
  have bn := hi_n hV.1
  refine MC.intro ([some (.ref (b + o)), some (.int (nI k)), none]) (by decide) rfl rfl fun κ Qc hl hQ X => ?_
  subst hl
  have L7 : ∀ i : Nat, i ≤ V 0 2 → upmost V k (V 0 2) = upmost V k i → AW κ (δ, b, NX, 3, shX, False, Qc, 0, 0) NX 0 0 7 [some (.ref (b + o)), some (.int (nI k)), some (.int (dn i))] [] μ := by
    intro i
    induction i with
    | zero =>
      intro hi hr
      rw [dn_0]
      refine AW.iload_n X dX3_takeUppermost_7 (i := 2) rfl rfl ?_
      refine AW.if_lt X (tgt := 40) dX3_takeUppermost_8 (by decide) (fun h8 => ?_) (fun h8 => ?_)
      · refine AW.iconst X (v := -1) dX3_takeUppermost_40 rfl ?_
        refine AW.iret X hQ dX3_takeUppermost_41 ⟨_, rfl, ?_⟩
        rw [hr]
        exact ⟨rfl, rfl⟩
      · exact absurd (by decide) h8
    | succ c ih =>
      intro hi hr
      rw [dn_s]
      refine AW.iload_n X dX3_takeUppermost_7 (i := 2) rfl rfl ?_
      refine AW.if_ltN X (tgt := 40) dX3_takeUppermost_8 (by decide) (by omega) (fun h8 => ?_) (fun h8 => ?_)
      · exact h8.elim
      · refine AW.aload_n X dX3_takeUppermost_11 (i := 0) rfl rfl ?_
        refine AW.iload_n X dX3_takeUppermost_12 (i := 2) rfl rfl ?_
        refine AW.iload_n X dX3_takeUppermost_13 (i := 1) rfl rfl ?_
        refine AW.callV X dX3_takeUppermost_14 lX3_50 cfX3 (c_X3_lies W hF hV (by omega) (by omega)) (fa_ob hF) rfl rfl rfl rfl ⟨rfl, rfl⟩ (pR_k ?_)
        refine AW.if_eqB X (tgt := 34) dX3_takeUppermost_17 (by decide) (fun h17 => ?_) (fun h17 => ?_)
        · refine AW.iinc X (v := -1) dX3_takeUppermost_34 rfl rfl rfl ?_
          refine AW.goto X (tgt := 7) dX3_takeUppermost_37 (by decide) ?_
          exact ih (by omega) (hr.trans (by rw [upmost, if_neg (by simp [h17])]))
        · refine AW.aload_n X dX3_takeUppermost_20 (i := 0) rfl rfl ?_
          refine AW.getR X dX3_takeUppermost_21 fX3_37 rfl (fa_ob hF) (wx_gone W hF) ?_
          refine AW.iload_n X dX3_takeUppermost_24 (i := 1) rfl rfl ?_
          refine AW.dup2 X dX3_takeUppermost_25 rfl rfl ?_
          refine AW.iaload X dX3_takeUppermost_26 (fa_6 hF) (n2_in (by omega) (by decide)) (v := (nI (V 6 k))) (by rw [n2_clamp (by omega)]; exact hv_6 hV (by omega)) ?_
          refine AW.iconstN X 1 dX3_takeUppermost_27 rfl ?_
          refine AW.iload_n X dX3_takeUppermost_28 (i := 2) rfl rfl ?_
          refine AW.shl1 X dX3_takeUppermost_29 (by omega) ?_
          refine AW.iorN X dX3_takeUppermost_30 ?_
          refine AW.iastore X dX3_takeUppermost_31 (by decide) (fa_6 hF) (n2_in (by omega) (by decide)) ?_
          rw [n2_clamp (by omega)]
          refine AW.iload_n X dX3_takeUppermost_32 (i := 2) rfl rfl ?_
          refine AW.iret X hQ dX3_takeUppermost_33 ⟨_, rfl, ?_⟩
          rw [hr, upmost, if_pos h17]
          exact ⟨rfl, rfl⟩
  refine AW.aload_n X dX3_takeUppermost_0 (i := 0) rfl rfl ?_
  refine AW.getI X dX3_takeUppermost_1 fX3_18 rfl (fa_ob hF) (hv_n hV) ?_
  refine AW.iconstN X 1 dX3_takeUppermost_4 rfl ?_
  refine AW.isub X dX3_takeUppermost_5 ?_
  rw [dn_sub]
  refine AW.istore_n X dX3_takeUppermost_6 (i := 2) rfl rfl ?_
  exact L7 _ (Nat.le_refl _) rfl
