set_option maxRecDepth 100000 in
set_option maxHeartbeats 4000000 in
theorem c_X9_strength {l : Launch} {δ : Dl} {b : Nat} {μ : Mm} (W : WX μ.2.2) {B o : Nat} (hB : TA B) {τ : Tt} (hT : TX μ B τ) (hF : FA o) {V : Vt} (hV : HV μ o V) {c t : Nat} (hc : c < 6) (ht : t ≤ 9) : MCX l δ b yX9_strength cX9_strength 4 (some .int) 2 [.ref (b + B), .ref (b + o), .int (nI c), .int (nI t)] μ (pI fun r μ' => r = nI (counted V (τ 6 1 c) * t) ∧ μ' = μ) := by
  have b1 := ti_hid hT.1 hc
  refine MC.intro ([some (.ref (b + B)), some (.ref (b + o)), some (.int (nI c)), some (.int (nI t))]) (by decide) rfl rfl fun κ Qc hl hQ X => ?_
  subst hl
  refine AW.aload_n X dX9_strength_0 (i := 1) rfl rfl ?_
  refine AW.getR X dX9_strength_1 fX9_67 rfl (fa_ob hF) (hv_kind hV) ?_
  refine AW.aload_n X dX9_strength_4 (i := 0) rfl rfl ?_
  refine AW.getR X dX9_strength_5 fX9_21 rfl (ta_ob hB) (wx_hides W hB) ?_
  refine AW.iload_n X dX9_strength_8 (i := 2) rfl rfl ?_
  refine AW.iaload X dX9_strength_9 (ta_h hB) (n2_in (by omega) (by decide)) (v := (nI (τ 6 1 c))) (by rw [n2_clamp (by omega)]; exact tx_hid hT (by omega)) ?_
  refine seven (hi_k hV.1) (fun e => ?_) (fun e => ?_) (fun e => ?_) (fun e => ?_) (fun e => ?_) (fun e => ?_) (fun e => ?_)
  · have ez : (τ 6 1 c) = (counted V (τ 6 1 c)) := by simp [counted, e]
    refine AW.callV X dX9_strength_10 lX9_80 cfX4 (c_X4_counted (o := 19 + V 0 0)) (by rw [e]; exact ox_k0 : OX (19 + V 0 0) 4) rfl rfl rfl rfl ⟨rfl, rfl⟩ (pR_ke (congrArg nI ez) ?_)
    refine AW.iload_n X dX9_strength_13 (i := 3) rfl rfl ?_
    refine AW.imulN X dX9_strength_14 ?_
    refine AW.iret X hQ dX9_strength_15 ⟨_, rfl, ?_⟩
    exact ⟨rfl, rfl⟩
  · have ez : (τ 6 1 c) = (counted V (τ 6 1 c)) := by simp [counted, e]
    refine AW.callU X dX9_strength_10 lX9_80_X2 cfX2 (c_X4_counted (o := 19 + V 0 0)) (by rw [e]; exact ox_k1 : OX (19 + V 0 0) 2) rfl rfl rfl rfl ⟨rfl, rfl⟩ (pR_ke (congrArg nI ez) ?_)
    refine AW.iload_n X dX9_strength_13 (i := 3) rfl rfl ?_
    refine AW.imulN X dX9_strength_14 ?_
    refine AW.iret X hQ dX9_strength_15 ⟨_, rfl, ?_⟩
    exact ⟨rfl, rfl⟩
  · have ez : (τ 6 1 c) = (counted V (τ 6 1 c)) := by simp [counted, e]
    refine AW.callU X dX9_strength_10 lX9_80_X5 cfX5 (c_X4_counted (o := 19 + V 0 0)) (by rw [e]; exact ox_k2 : OX (19 + V 0 0) 5) rfl rfl rfl rfl ⟨rfl, rfl⟩ (pR_ke (congrArg nI ez) ?_)
    refine AW.iload_n X dX9_strength_13 (i := 3) rfl rfl ?_
    refine AW.imulN X dX9_strength_14 ?_
    refine AW.iret X hQ dX9_strength_15 ⟨_, rfl, ?_⟩
    exact ⟨rfl, rfl⟩
  · have ez : (τ 6 1 c) = (counted V (τ 6 1 c)) := by simp [counted, e]
    refine AW.callU X dX9_strength_10 lX9_80_X1 cfX1 (c_X4_counted (o := 19 + V 0 0)) (by rw [e]; exact ox_k3 : OX (19 + V 0 0) 1) rfl rfl rfl rfl ⟨rfl, rfl⟩ (pR_ke (congrArg nI ez) ?_)
    refine AW.iload_n X dX9_strength_13 (i := 3) rfl rfl ?_
    refine AW.imulN X dX9_strength_14 ?_
    refine AW.iret X hQ dX9_strength_15 ⟨_, rfl, ?_⟩
    exact ⟨rfl, rfl⟩
  · have ez : ((τ 6 1 c) - 1) = (counted V (τ 6 1 c)) := by simp [counted, e]
    refine AW.callU X dX9_strength_10 lX9_80_X7 cfX7 (c_X7_counted (o := 19 + V 0 0) (by omega)) (by rw [e]; exact ox_k4 : OX (19 + V 0 0) 7) rfl rfl rfl rfl ⟨rfl, rfl⟩ (pR_ke (congrArg nI ez) ?_)
    refine AW.iload_n X dX9_strength_13 (i := 3) rfl rfl ?_
    refine AW.imulN X dX9_strength_14 ?_
    refine AW.iret X hQ dX9_strength_15 ⟨_, rfl, ?_⟩
    exact ⟨rfl, rfl⟩
  · have ez : (τ 6 1 c) = (counted V (τ 6 1 c)) := by simp [counted, e]
    refine AW.callU X dX9_strength_10 lX9_80_X8 cfX8 (c_X4_counted (o := 19 + V 0 0)) (by rw [e]; exact ox_k5 : OX (19 + V 0 0) 8) rfl rfl rfl rfl ⟨rfl, rfl⟩ (pR_ke (congrArg nI ez) ?_)
    refine AW.iload_n X dX9_strength_13 (i := 3) rfl rfl ?_
    refine AW.imulN X dX9_strength_14 ?_
    refine AW.iret X hQ dX9_strength_15 ⟨_, rfl, ?_⟩
    exact ⟨rfl, rfl⟩
  · have ez : (τ 6 1 c) = (counted V (τ 6 1 c)) := by simp [counted, e]
    refine AW.callU X dX9_strength_10 lX9_80_X0 cfX0 (c_X4_counted (o := 19 + V 0 0)) (by rw [e]; exact ox_k6 : OX (19 + V 0 0) 0) rfl rfl rfl rfl ⟨rfl, rfl⟩ (pR_ke (congrArg nI ez) ?_)
    refine AW.iload_n X dX9_strength_13 (i := 3) rfl rfl ?_
    refine AW.imulN X dX9_strength_14 ?_
    refine AW.iret X hQ dX9_strength_15 ⟨_, rfl, ?_⟩
    exact ⟨rfl, rfl⟩
theorem lyN {V : Vt} (hV : HI V) (k : Nat) : lyA V k < 256 := ly_lt8 V k (hi_n hV)
set_option maxRecDepth 100000 in
set_option maxHeartbeats 4000000 in
theorem c_X9_seenAmong {l : Launch} {δ : Dl} {b : Nat} {μ : Mm} (W : WX μ.2.2) {B o : Nat} (hB : TA B) {τ : Tt} (hT : TX μ B τ) (hF : FA o) {V : Vt} (hV : HV μ o V) {bits k d : Nat} (hb : bits < 256) (hk : k < 12) (hd : d < 100) : MCX l δ b yX9_seenAmong cX9_seenAmong 8 (some .int) 4 [.ref (b + B), .ref (b + o), .int (nI bits), .int (nI k), .int (nI d)] μ (pI fun r μ' => r = oI (seenIn (τ 6 1) V bits (wet V k d) (V 0 2)) ∧ μ' = μ) := by
  have bn := hi_n hV.1
  refine MC.intro ([some (.ref (b + B)), some (.ref (b + o)), some (.int (nI bits)), some (.int (nI k)), some (.int (nI d)), none, none, none]) (by decide) rfl rfl fun κ Qc hl hQ X => ?_
  subst hl
  have bw := wet_le hV.1 k hd
  have L17 : ∀ i : Nat, i ≤ V 0 2 → seenIn (τ 6 1) V bits (wet V k d) (V 0 2) = seenIn (τ 6 1) V bits (wet V k d) i → AW κ (δ, b, NX, 8, shX, False, Qc, 0, 0) NX 0 0 17 [some (.ref (b + B)), some (.ref (b + o)), some (.int (nI bits)), some (.int (nI k)), some (.int (nI d)), some (.int (nI (wet V k d))), some (.int (dn i)), none] [] μ := by
    intro i
    induction i with
    | zero =>
      intro hi hr
      rw [dn_0]
      refine AW.iload X dX9_seenAmong_17 rfl ?_
      refine AW.if_lt X (tgt := 76) dX9_seenAmong_19 (by decide) (fun h19 => ?_) (fun h19 => ?_)
      · refine AW.iconst X (v := -1) dX9_seenAmong_76 rfl ?_
        refine AW.iret X hQ dX9_seenAmong_77 ⟨_, rfl, ?_⟩
        exact ⟨by rw [hr]; rfl, rfl⟩
      · exact absurd (by decide) h19
    | succ c ih =>
      intro hi hr
      rw [dn_s]
      have b2 := (hi_th hV.1 (c := c) (by omega)).2
      have b3 := hi_col hV.1 (c := c) (by omega)
      have b5 := strength_le (hd := τ 6 1) (V := V) (c := c) (ti_hid hT.1 b3) b2
      unfold strength at b5
      refine AW.iload X dX9_seenAmong_17 rfl ?_
      refine AW.if_ltN X (tgt := 76) dX9_seenAmong_19 (by decide) (by omega) (fun h19 => ?_) (fun h19 => ?_)
      · exact h19.elim
      · refine AW.iload_n X dX9_seenAmong_22 (i := 2) rfl rfl ?_
        refine AW.iload X dX9_seenAmong_23 rfl ?_
        refine AW.hasN X dX9_seenAmong_25 dX9_seenAmong_26 dX9_seenAmong_27 (by omega) (by omega) ?_
        refine AW.if_eqB X (tgt := 35) dX9_seenAmong_28 (by decide) (fun h28 => ?_) (fun h28 => ?_)
        · refine AW.iconstN X 0 dX9_seenAmong_35 rfl ?_
          refine AW.istore X dX9_seenAmong_36 rfl ?_
          refine AW.iload X dX9_seenAmong_38 rfl ?_
          refine AW.if_eqN X (tgt := 70) dX9_seenAmong_40 (by decide) (by omega) (fun h40 => ?_) (fun h40 => ?_)
          · refine AW.iinc X (v := -1) dX9_seenAmong_70 rfl rfl rfl ?_
            refine AW.goto X (tgt := 17) dX9_seenAmong_73 (by decide) ?_
            refine AW.cgw (ih (by omega) (hr.trans ?_)) ⟨rfl, rfl, rfl, rfl, rfl, rfl, rfl, trivial⟩
            rw [seenIn, if_neg (by simp [strength, *] <;> omega)]
          · refine AW.aload_n X dX9_seenAmong_43 (i := 0) rfl rfl ?_
            refine AW.aload_n X dX9_seenAmong_44 (i := 1) rfl rfl ?_
            refine AW.aload_n X dX9_seenAmong_45 (i := 1) rfl rfl ?_
            refine AW.getR X dX9_seenAmong_46 fX9_90 rfl (fa_ob hF) (wx_colour W hF) ?_
            refine AW.iload X dX9_seenAmong_49 rfl ?_
            refine AW.iaload X dX9_seenAmong_51 (fa_2 hF) (n2_in (by omega) (by decide)) (v := (nI (V 2 c))) (by rw [n2_clamp (by omega)]; exact hv_2 hV (by omega)) ?_
            refine AW.aload_n X dX9_seenAmong_52 (i := 1) rfl rfl ?_
            refine AW.getR X dX9_seenAmong_53 fX9_93 rfl (fa_ob hF) (wx_thick W hF) ?_
            refine AW.iload X dX9_seenAmong_56 rfl ?_
            refine AW.iaload X dX9_seenAmong_58 (fa_3 hF) (n2_in (by omega) (by decide)) (v := (nI (V 3 c))) (by rw [n2_clamp (by omega)]; exact hv_3 hV (by omega)) ?_
            refine AW.callV X dX9_seenAmong_59 lX9_96 cfX9 (c_X9_strength W hB hT hF hV (by omega) (by omega)) (ta_ob hB) rfl rfl rfl rfl ⟨rfl, rfl⟩ (pR_k ?_)
            refine AW.iload X dX9_seenAmong_62 rfl ?_
            refine AW.icmp_ltN X (tgt := 70) dX9_seenAmong_64 (by decide) (by omega) (by omega) (fun h64 => ?_) (fun h64 => ?_)
            · refine AW.iinc X (v := -1) dX9_seenAmong_70 rfl rfl rfl ?_
              refine AW.goto X (tgt := 17) dX9_seenAmong_73 (by decide) ?_
              refine AW.cgw (ih (by omega) (hr.trans ?_)) ⟨rfl, rfl, rfl, rfl, rfl, rfl, rfl, trivial⟩
              rw [seenIn, if_neg (by simp [strength, *] <;> omega)]
            · refine AW.iload X dX9_seenAmong_67 rfl ?_
              refine AW.iret X hQ dX9_seenAmong_69 ⟨_, rfl, ?_⟩
              exact ⟨by rw [hr, seenIn, if_pos (by simp [strength, *] <;> omega)]; rfl, rfl⟩
        · refine AW.iconstN X 1 dX9_seenAmong_31 rfl ?_
          refine AW.goto X (tgt := 36) dX9_seenAmong_32 (by decide) ?_
          refine AW.istore X dX9_seenAmong_36 rfl ?_
          refine AW.iload X dX9_seenAmong_38 rfl ?_
          refine AW.if_eqN X (tgt := 70) dX9_seenAmong_40 (by decide) (by omega) (fun h40 => ?_) (fun h40 => ?_)
          · refine AW.iinc X (v := -1) dX9_seenAmong_70 rfl rfl rfl ?_
            refine AW.goto X (tgt := 17) dX9_seenAmong_73 (by decide) ?_
            refine AW.cgw (ih (by omega) (hr.trans ?_)) ⟨rfl, rfl, rfl, rfl, rfl, rfl, rfl, trivial⟩
            rw [seenIn, if_neg (by simp [strength, *] <;> omega)]
          · refine AW.aload_n X dX9_seenAmong_43 (i := 0) rfl rfl ?_
            refine AW.aload_n X dX9_seenAmong_44 (i := 1) rfl rfl ?_
            refine AW.aload_n X dX9_seenAmong_45 (i := 1) rfl rfl ?_
            refine AW.getR X dX9_seenAmong_46 fX9_90 rfl (fa_ob hF) (wx_colour W hF) ?_
            refine AW.iload X dX9_seenAmong_49 rfl ?_
            refine AW.iaload X dX9_seenAmong_51 (fa_2 hF) (n2_in (by omega) (by decide)) (v := (nI (V 2 c))) (by rw [n2_clamp (by omega)]; exact hv_2 hV (by omega)) ?_
            refine AW.aload_n X dX9_seenAmong_52 (i := 1) rfl rfl ?_
            refine AW.getR X dX9_seenAmong_53 fX9_93 rfl (fa_ob hF) (wx_thick W hF) ?_
            refine AW.iload X dX9_seenAmong_56 rfl ?_
            refine AW.iaload X dX9_seenAmong_58 (fa_3 hF) (n2_in (by omega) (by decide)) (v := (nI (V 3 c))) (by rw [n2_clamp (by omega)]; exact hv_3 hV (by omega)) ?_
            refine AW.callV X dX9_seenAmong_59 lX9_96 cfX9 (c_X9_strength W hB hT hF hV (by omega) (by omega)) (ta_ob hB) rfl rfl rfl rfl ⟨rfl, rfl⟩ (pR_k ?_)
            refine AW.iload X dX9_seenAmong_62 rfl ?_
            refine AW.icmp_ltN X (tgt := 70) dX9_seenAmong_64 (by decide) (by omega) (by omega) (fun h64 => ?_) (fun h64 => ?_)
            · refine AW.iinc X (v := -1) dX9_seenAmong_70 rfl rfl rfl ?_
              refine AW.goto X (tgt := 17) dX9_seenAmong_73 (by decide) ?_
              refine AW.cgw (ih (by omega) (hr.trans ?_)) ⟨rfl, rfl, rfl, rfl, rfl, rfl, rfl, trivial⟩
              rw [seenIn, if_neg (by simp [strength, *] <;> omega)]
            · refine AW.iload X dX9_seenAmong_67 rfl ?_
              refine AW.iret X hQ dX9_seenAmong_69 ⟨_, rfl, ?_⟩
              exact ⟨by rw [hr, seenIn, if_pos (by simp [strength, *] <;> omega)]; rfl, rfl⟩
  refine AW.aload_n X dX9_seenAmong_0 (i := 1) rfl rfl ?_
  refine AW.iload_n X dX9_seenAmong_1 (i := 3) rfl rfl ?_
  refine AW.iload X dX9_seenAmong_2 rfl ?_
  refine AW.callV X dX9_seenAmong_4 lX9_86 cfX3 (c_X3_wetness W hF hV (by omega) (by omega)) (fa_ob hF) rfl rfl rfl rfl ⟨rfl, rfl⟩ (pR_k ?_)
  refine AW.istore X dX9_seenAmong_7 rfl ?_
  refine AW.aload_n X dX9_seenAmong_9 (i := 1) rfl rfl ?_
  refine AW.getI X dX9_seenAmong_10 fX9_77 rfl (fa_ob hF) (hv_n hV) ?_
  refine AW.iconstN X 1 dX9_seenAmong_13 rfl ?_
  refine AW.isub X dX9_seenAmong_14 ?_
  rw [dn_sub]
  refine AW.istore X dX9_seenAmong_15 rfl ?_
  exact AW.cgw (L17 _ (Nat.le_refl _) rfl) ⟨rfl, rfl, rfl, rfl, rfl, rfl, rfl, trivial⟩
theorem nI_m1 {a : Nat} (h : a < 2147483648) : ¬ nI a = -1 := by
  intro q
  have h1 := congrArg Int32.toInt q
  rw [nI_toInt h] at h1
  have h2 : (-1 : Int32).toInt = -1 := by decide
  omega
set_option maxRecDepth 100000 in
set_option maxHeartbeats 4000000 in
theorem c_X9_seenSomewhere {l : Launch} {δ : Dl} {b : Nat} {μ : Mm} (W : WX μ.2.2) {B o : Nat} (hB : TA B) {τ : Tt} (hT : TX μ B τ) (hF : FA o) {V : Vt} (hV : HV μ o V) {d : Nat} (hd : d < 100) : MCX l δ b yX9_seenSomewhere cX9_seenSomewhere 6 (some .int) 5 [.ref (b + B), .ref (b + o), .int (nI d)] μ (pI fun r μ' => r = nI (seenTo (τ 6 1) V d 12) ∧ μ' = μ) := by
  have bn := hi_n hV.1
  refine MC.intro ([some (.ref (b + B)), some (.ref (b + o)), some (.int (nI d)), none, none, none]) (by decide) rfl rfl fun κ Qc hl hQ X => ?_
  subst hl
  have L5 : ∀ (m i : Nat), 12 - i < m → i ≤ 12 → AW κ (δ, b, NX, 6, shX, False, Qc, 0, 0) NX 0 0 5 [some (.ref (b + B)), some (.ref (b + o)), some (.int (nI d)), some (.int (nI (seenTo (τ 6 1) V d i))), some (.int (nI i)), none] [] μ := by
    intro m
    induction m with
    | zero => intro i hm; exact absurd hm (Nat.not_lt_zero _)
    | succ m ih =>
      intro i hm hi 
      have b1 := seenTo_lt (hd := τ 6 1) hV.1 d i
      refine AW.iload X dX9_seenSomewhere_5 rfl ?_
      refine AW.bipushN X 12 dX9_seenSomewhere_7 rfl ?_
      refine AW.icmp_geN X (tgt := 47) dX9_seenSomewhere_9 (by decide) (by omega) (by omega) (fun h9 => ?_) (fun h9 => ?_)
      · obtain rfl : i = 12 := by omega
        refine AW.iload_n X dX9_seenSomewhere_47 (i := 3) rfl rfl ?_
        refine AW.iret X hQ dX9_seenSomewhere_48 ⟨_, rfl, ?_⟩
        exact ⟨rfl, rfl⟩
      · refine AW.aload_n X dX9_seenSomewhere_12 (i := 0) rfl rfl ?_
        refine AW.aload_n X dX9_seenSomewhere_13 (i := 1) rfl rfl ?_
        refine AW.aload_n X dX9_seenSomewhere_14 (i := 1) rfl rfl ?_
        refine AW.iload X dX9_seenSomewhere_15 rfl ?_
        refine AW.callV X dX9_seenSomewhere_17 lX9_100 cfX3 (c_X3_lyingIn W hF hV (by omega)) (fa_ob hF) rfl rfl rfl rfl ⟨rfl, rfl⟩ (pR_k ?_)
        refine AW.iload X dX9_seenSomewhere_20 rfl ?_
        refine AW.iload_n X dX9_seenSomewhere_22 (i := 2) rfl rfl ?_
        refine AW.callV X dX9_seenSomewhere_23 lX9_103 cfX9 (c_X9_seenAmong W hB hT hF hV (lyN hV.1 i) (by omega) (by omega)) (ta_ob hB) rfl rfl rfl rfl ⟨rfl, rfl⟩ (pR_k ?_)
        rcases hx23 : seenIn (τ 6 1) V (lyA V i) (wet V i d) (V 0 2) with _ | c
        · show AW κ _ _ _ _ _ _ (.int (-1) :: _) _
          refine AW.istore X dX9_seenSomewhere_26 rfl ?_
          refine AW.iload X dX9_seenSomewhere_28 rfl ?_
          refine AW.iconst X (v := -1) dX9_seenSomewhere_30 rfl ?_
          refine AW.icmp_eq X (tgt := 41) dX9_seenSomewhere_31 (by decide) (fun h31 => ?_) (fun h31 => ?_)
          · refine AW.iincN X (c := (i + 1)) dX9_seenSomewhere_41 rfl (inc_1 _) rfl ?_
            refine AW.goto X (tgt := 5) dX9_seenSomewhere_44 (by decide) ?_
            refine AW.cgw (ih (i + 1) (by omega) (by omega)) ⟨rfl, rfl, rfl, ?_, rfl, trivial⟩
            simp [seenTo, seenAt, hx23, oBit]
          · exact absurd rfl h31
        · show AW κ _ _ _ _ _ _ (.int (nI c) :: _) _
          have b4 := seenIn_lt hx23
          refine AW.istore X dX9_seenSomewhere_26 rfl ?_
          refine AW.iload X dX9_seenSomewhere_28 rfl ?_
          refine AW.iconst X (v := -1) dX9_seenSomewhere_30 rfl ?_
          refine AW.icmp_eq X (tgt := 41) dX9_seenSomewhere_31 (by decide) (fun h31 => ?_) (fun h31 => ?_)
          · exact absurd h31 (nI_m1 (by omega))
          · refine AW.iload_n X dX9_seenSomewhere_34 (i := 3) rfl rfl ?_
            refine AW.iconstN X 1 dX9_seenSomewhere_35 rfl ?_
            refine AW.iload X dX9_seenSomewhere_36 rfl ?_
            refine AW.shl1 X dX9_seenSomewhere_38 (by omega) ?_
            refine AW.iorN X dX9_seenSomewhere_39 ?_
            refine AW.istore_n X dX9_seenSomewhere_40 (i := 3) rfl rfl ?_
            refine AW.iincN X (c := (i + 1)) dX9_seenSomewhere_41 rfl (inc_1 _) rfl ?_
            refine AW.goto X (tgt := 5) dX9_seenSomewhere_44 (by decide) ?_
            refine AW.cgw (ih (i + 1) (by omega) (by omega)) ⟨rfl, rfl, rfl, ?_, rfl, trivial⟩
            simp [seenTo, seenAt, hx23, oBit]
  refine AW.iconstN X 0 dX9_seenSomewhere_0 rfl ?_
  refine AW.istore_n X dX9_seenSomewhere_1 (i := 3) rfl rfl ?_
  refine AW.iconstN X 0 dX9_seenSomewhere_2 rfl ?_
  refine AW.istore X dX9_seenSomewhere_3 rfl ?_
  exact L5 _ 0 (Nat.lt_succ_self _) (by omega)
def coatsAll (τ : Tt) : Nat → Nat
  | 0 => 0
  | h + 1 => coatsAll τ h + τ h 0 2
theorem coatsAll_le {τ : Tt} (hT : TI τ) : ∀ h, h ≤ τ 6 0 0 → coatsAll τ h ≤ 8 * h
  | 0, _ => by simp [coatsAll]
  | h + 1, q => by
    have := coatsAll_le hT h (by omega)
    have := hi_n (hT.2.2.2.2 h (by omega))
    unfold coatsAll
    omega
set_option maxRecDepth 100000 in
set_option maxHeartbeats 4000000 in
theorem c_X9_coatsInAll {l : Launch} {δ : Dl} {b : Nat} {μ : Mm} (W : WX μ.2.2) {B : Nat} (hB : TA B) {τ : Tt} (hT : TX μ B τ)  : MCX l δ b yX9_coatsInAll cX9_coatsInAll 3 (some .int) 1 [.ref (b + B)] μ (pI fun r μ' => r = nI (coatsAll τ (τ 6 0 0)) ∧ μ' = μ) := by
  have bn := ti_n hT.1
  refine MC.intro ([some (.ref (b + B)), none, none]) (by decide) rfl rfl fun κ Qc hl hQ X => ?_
  subst hl
  have L4 : ∀ (m i : Nat), τ 6 0 0 - i < m → i ≤ τ 6 0 0 → AW κ (δ, b, NX, 3, shX, False, Qc, 0, 0) NX 0 0 4 [some (.ref (b + B)), some (.int (nI (coatsAll τ i))), some (.int (nI i))] [] μ := by
    intro m
    induction m with
    | zero => intro i hm; exact absurd hm (Nat.not_lt_zero _)
    | succ m ih =>
      intro i hm hi 
      have b1 := coatsAll_le hT.1 i (by omega)
      refine AW.iload_n X dX9_coatsInAll_4 (i := 2) rfl rfl ?_
      refine AW.aload_n X dX9_coatsInAll_5 (i := 0) rfl rfl ?_
      refine AW.getI X dX9_coatsInAll_6 fX9_17 rfl (ta_ob hB) (tx_n hT) ?_
      refine AW.icmp_geN X (tgt := 30) dX9_coatsInAll_9 (by decide) (by omega) (by omega) (fun h9 => ?_) (fun h9 => ?_)
      · obtain rfl : i = τ 6 0 0 := by omega
        refine AW.iload_n X dX9_coatsInAll_30 (i := 1) rfl rfl ?_
        refine AW.iret X hQ dX9_coatsInAll_31 ⟨_, rfl, ?_⟩
        exact ⟨rfl, rfl⟩
      · refine AW.iload_n X dX9_coatsInAll_12 (i := 1) rfl rfl ?_
        refine AW.aload_n X dX9_coatsInAll_13 (i := 0) rfl rfl ?_
        refine AW.getR X dX9_coatsInAll_14 fX9_11 rfl (ta_ob hB) (wx_fronts W hB) ?_
        refine AW.iload_n X dX9_coatsInAll_17 (i := 2) rfl rfl ?_
        refine AW.aaload X (r := (B + 4 + 7 * i)) dX9_coatsInAll_18 rfl rfl (ta_f hB) (n2_in (by omega) (by decide)) (by rw [n2_clamp (by omega)]; exact wx_front W hB (by omega)) ?_
        refine AW.getI X dX9_coatsInAll_19 fX9_77 rfl (fa_ob (fa_of hB (by omega))) (hv_n (tx_h hT (by omega))) ?_
        refine AW.iaddN X dX9_coatsInAll_22 ?_
        refine AW.istore_n X dX9_coatsInAll_23 (i := 1) rfl rfl ?_
        refine AW.iincN X (c := (i + 1)) dX9_coatsInAll_24 rfl (inc_1 _) rfl ?_
        refine AW.goto X (tgt := 4) dX9_coatsInAll_27 (by decide) ?_
        refine AW.cg ?_ (ih (i + 1) (by omega) (by omega))
        simp [coatsAll]
  refine AW.iconstN X 0 dX9_coatsInAll_0 rfl ?_
  refine AW.istore_n X dX9_coatsInAll_1 (i := 1) rfl rfl ?_
  refine AW.iconstN X 0 dX9_coatsInAll_2 rfl ?_
  refine AW.istore_n X dX9_coatsInAll_3 (i := 2) rfl rfl ?_
  exact L4 _ 0 (Nat.lt_succ_self _) (by omega)
theorem behind_lt {V : Vt} (hV : HI V) : ∀ (i bits x : Nat), i ≤ V 0 2 → bits < 256 → behind V i bits x < 256
  | 0, bits, x, _, hb => by unfold behind; exact hb
  | c + 1, bits, x, hi, hb => by
    unfold behind
    split
    · split
      · exact hb
      · exact behind_lt hV c _ _ (by omega) (Nat.xor_lt_two_pow (n := 8) hb (pow_lt8 (by have := hi_n hV; omega)))
    · exact behind_lt hV c _ _ (by omega) hb
def behindH (V : Vt) (k h : Nat) : Nat := behind V (V 0 2) (lyA V k) (hard V k h)
set_option maxRecDepth 100000 in
set_option maxHeartbeats 4000000 in
theorem c_X3_behindHail {l : Launch} {δ : Dl} {b : Nat} {μ : Mm} (W : WX μ.2.2) {o : Nat} (hF : FA o) {V : Vt} (hV : HV μ o V) {k h : Nat} (hk : k < 12) (hh : h < 100) : MCX l δ b yX3_behindHail cX3_behindHail 6 (some .int) 3 [.ref (b + o), .int (nI k), .int (nI h)] μ (pI fun r μ' => r = nI (behindH V k h) ∧ μ' = μ) := by
  have bn := hi_n hV.1
  have ba := hi_a hV.1
  refine MC.intro ([some (.ref (b + o)), some (.int (nI k)), some (.int (nI h)), none, none, none]) (by decide) rfl rfl fun κ Qc hl hQ X => ?_
  subst hl
  have bw := hard_le V k hh
  have bl := lyN hV.1 k
  have L29 : ∀ i : Nat, i ≤ V 0 2 → ∀ bits x : Nat, bits < 256 → x ≤ 198 → behindH V k h = behind V i bits x → AW κ (δ, b, NX, 6, shX, False, Qc, 0, 0) NX 0 0 29 [some (.ref (b + o)), some (.int (nI k)), some (.int (nI h)), some (.int (nI x)), some (.int (nI bits)), some (.int (dn i))] [] μ := by
    intro i
    induction i with
    | zero =>
      intro hi bits x hb hx hr
      rw [dn_0]
      refine AW.iload X dX3_behindHail_29 rfl ?_
      refine AW.if_lt X (tgt := 85) dX3_behindHail_31 (by decide) (fun h31 => ?_) (fun h31 => ?_)
      · refine AW.iload X dX3_behindHail_85 rfl ?_
        refine AW.iret X hQ dX3_behindHail_87 ⟨_, rfl, ?_⟩
        exact ⟨by rw [hr]; rfl, rfl⟩
      · exact absurd (by decide) h31
    | succ c ih =>
      intro hi bits x hb hx hr
      rw [dn_s]
      have b2 := (hi_th hV.1 (c := c) (by omega))
      refine AW.iload X dX3_behindHail_29 rfl ?_
      refine AW.if_ltN X (tgt := 85) dX3_behindHail_31 (by decide) (by omega) (fun h31 => ?_) (fun h31 => ?_)
      · exact h31.elim
      · refine AW.iload X dX3_behindHail_34 rfl ?_
        refine AW.iload X dX3_behindHail_36 rfl ?_
        refine AW.hasN X dX3_behindHail_38 dX3_behindHail_39 dX3_behindHail_40 (by omega) (by omega) ?_
        refine AW.if_eqB X (tgt := 79) dX3_behindHail_41 (by decide) (fun h41 => ?_) (fun h41 => ?_)
        · refine AW.iinc X (v := -1) dX3_behindHail_79 rfl rfl rfl ?_
          refine AW.goto X (tgt := 29) dX3_behindHail_82 (by decide) ?_
          exact ih (by omega) bits x hb hx (hr.trans (by rw [behind, if_neg (by simp [h41])]))
        · refine AW.aload_n X dX3_behindHail_44 (i := 0) rfl rfl ?_
          refine AW.getR X dX3_behindHail_45 fX3_28 rfl (fa_ob hF) (wx_thick W hF) ?_
          refine AW.iload X dX3_behindHail_48 rfl ?_
          refine AW.iaload X dX3_behindHail_50 (fa_3 hF) (n2_in (by omega) (by decide)) (v := (nI (V 3 c))) (by rw [n2_clamp (by omega)]; exact hv_3 hV (by omega)) ?_
          refine AW.iload_n X dX3_behindHail_51 (i := 3) rfl rfl ?_
          refine AW.icmp_leN X (tgt := 58) dX3_behindHail_52 (by decide) (by omega) (by omega) (fun h52 => ?_) (fun h52 => ?_)
          · have b6 := pow_lt8 (c := c) (by omega)
            have b7 := Nat.xor_lt_two_pow (n := 8) hb b6
            have e8 := andN_pow h41
            refine AW.iload_n X dX3_behindHail_58 (i := 3) rfl rfl ?_
            refine AW.aload_n X dX3_behindHail_59 (i := 0) rfl rfl ?_
            refine AW.getR X dX3_behindHail_60 fX3_28 rfl (fa_ob hF) (wx_thick W hF) ?_
            refine AW.iload X dX3_behindHail_63 rfl ?_
            refine AW.iaload X dX3_behindHail_65 (fa_3 hF) (n2_in (by omega) (by decide)) (v := (nI (V 3 c))) (by rw [n2_clamp (by omega)]; exact hv_3 hV (by omega)) ?_
            refine AW.isubN X dX3_behindHail_66 (by omega) ?_
            refine AW.istore_n X dX3_behindHail_67 (i := 3) rfl rfl ?_
            refine AW.iload X dX3_behindHail_68 rfl ?_
            refine AW.iconstN X 1 dX3_behindHail_70 rfl ?_
            refine AW.iload X dX3_behindHail_71 rfl ?_
            refine AW.shl1 X dX3_behindHail_73 (by omega) ?_
            refine AW.andNotN X dX3_behindHail_74 dX3_behindHail_75 dX3_behindHail_76 ?_
            refine AW.istore X dX3_behindHail_77 rfl ?_
            refine AW.iinc X (v := -1) dX3_behindHail_79 rfl rfl rfl ?_
            refine AW.goto X (tgt := 29) dX3_behindHail_82 (by decide) ?_
            rw [e8]
            exact ih (by omega) _ _ b7 (by omega) (hr.trans (by rw [behind, if_pos h41, if_neg (by omega)]))
          · refine AW.iload X dX3_behindHail_55 rfl ?_
            refine AW.iret X hQ dX3_behindHail_57 ⟨_, rfl, ?_⟩
            exact ⟨by rw [hr, behind, if_pos h41, if_pos (by omega)], rfl⟩
  refine AW.aload_n X dX3_behindHail_0 (i := 0) rfl rfl ?_
  refine AW.getR X dX3_behindHail_1 fX3_40 rfl (fa_ob hF) (hv_kind hV) ?_
  refine AW.aload_n X dX3_behindHail_4 (i := 0) rfl rfl ?_
  refine AW.getI X dX3_behindHail_5 fX3_15 rfl (fa_ob hF) (hv_a hV) ?_
  refine AW.iload_n X dX3_behindHail_8 (i := 1) rfl rfl ?_
  refine AW.iload_n X dX3_behindHail_9 (i := 2) rfl rfl ?_
  refine seven (hi_k hV.1) (fun e => ?_) (fun e => ?_) (fun e => ?_) (fun e => ?_) (fun e => ?_) (fun e => ?_) (fun e => ?_)
  · have ez : h = (hard V k h) := by simp [hard, e]
    refine AW.callV X dX3_behindHail_10 lX3_73 cfX4 (c_X4_hardness (o := 19 + V 0 0)) (by rw [e]; exact ox_k0 : OX (19 + V 0 0) 4) rfl rfl rfl rfl ⟨rfl, rfl⟩ (pR_ke (congrArg nI ez) ?_)
    refine AW.istore_n X dX3_behindHail_13 (i := 3) rfl rfl ?_
    refine AW.aload_n X dX3_behindHail_14 (i := 0) rfl rfl ?_
    refine AW.iload_n X dX3_behindHail_15 (i := 1) rfl rfl ?_
    refine AW.callV X dX3_behindHail_16 lX3_78 cfX3 (c_X3_lyingIn W hF hV (by omega)) (fa_ob hF) rfl rfl rfl rfl ⟨rfl, rfl⟩ (pR_k ?_)
    refine AW.istore X dX3_behindHail_19 rfl ?_
    refine AW.aload_n X dX3_behindHail_21 (i := 0) rfl rfl ?_
    refine AW.getI X dX3_behindHail_22 fX3_18 rfl (fa_ob hF) (hv_n hV) ?_
    refine AW.iconstN X 1 dX3_behindHail_25 rfl ?_
    refine AW.isub X dX3_behindHail_26 ?_
    rw [dn_sub]
    refine AW.istore X dX3_behindHail_27 rfl ?_
    exact L29 _ (Nat.le_refl _) _ _ bl bw rfl
  · have ez : h = (hard V k h) := by simp [hard, e]
    refine AW.callU X dX3_behindHail_10 lX3_73_X2 cfX2 (c_X4_hardness (o := 19 + V 0 0)) (by rw [e]; exact ox_k1 : OX (19 + V 0 0) 2) rfl rfl rfl rfl ⟨rfl, rfl⟩ (pR_ke (congrArg nI ez) ?_)
    refine AW.istore_n X dX3_behindHail_13 (i := 3) rfl rfl ?_
    refine AW.aload_n X dX3_behindHail_14 (i := 0) rfl rfl ?_
    refine AW.iload_n X dX3_behindHail_15 (i := 1) rfl rfl ?_
    refine AW.callV X dX3_behindHail_16 lX3_78 cfX3 (c_X3_lyingIn W hF hV (by omega)) (fa_ob hF) rfl rfl rfl rfl ⟨rfl, rfl⟩ (pR_k ?_)
    refine AW.istore X dX3_behindHail_19 rfl ?_
    refine AW.aload_n X dX3_behindHail_21 (i := 0) rfl rfl ?_
    refine AW.getI X dX3_behindHail_22 fX3_18 rfl (fa_ob hF) (hv_n hV) ?_
    refine AW.iconstN X 1 dX3_behindHail_25 rfl ?_
    refine AW.isub X dX3_behindHail_26 ?_
    rw [dn_sub]
    refine AW.istore X dX3_behindHail_27 rfl ?_
    exact L29 _ (Nat.le_refl _) _ _ bl bw rfl
  · have ez : (h - (V 0 1)) = (hard V k h) := by simp [hard, e]
    refine AW.callU X dX3_behindHail_10 lX3_73_X5 cfX5 (c_X5_hardness (o := 19 + V 0 0) (by omega) (by omega) (by omega)) (by rw [e]; exact ox_k2 : OX (19 + V 0 0) 5) rfl rfl rfl rfl ⟨rfl, rfl⟩ (pR_ke (congrArg nI ez) ?_)
    refine AW.istore_n X dX3_behindHail_13 (i := 3) rfl rfl ?_
    refine AW.aload_n X dX3_behindHail_14 (i := 0) rfl rfl ?_
    refine AW.iload_n X dX3_behindHail_15 (i := 1) rfl rfl ?_
    refine AW.callV X dX3_behindHail_16 lX3_78 cfX3 (c_X3_lyingIn W hF hV (by omega)) (fa_ob hF) rfl rfl rfl rfl ⟨rfl, rfl⟩ (pR_k ?_)
    refine AW.istore X dX3_behindHail_19 rfl ?_
    refine AW.aload_n X dX3_behindHail_21 (i := 0) rfl rfl ?_
    refine AW.getI X dX3_behindHail_22 fX3_18 rfl (fa_ob hF) (hv_n hV) ?_
    refine AW.iconstN X 1 dX3_behindHail_25 rfl ?_
    refine AW.isub X dX3_behindHail_26 ?_
    rw [dn_sub]
    refine AW.istore X dX3_behindHail_27 rfl ?_
    exact L29 _ (Nat.le_refl _) _ _ bl bw rfl
  · have ez : h = (hard V k h) := by simp [hard, e]
    refine AW.callU X dX3_behindHail_10 lX3_73_X1 cfX1 (c_X4_hardness (o := 19 + V 0 0)) (by rw [e]; exact ox_k3 : OX (19 + V 0 0) 1) rfl rfl rfl rfl ⟨rfl, rfl⟩ (pR_ke (congrArg nI ez) ?_)
    refine AW.istore_n X dX3_behindHail_13 (i := 3) rfl rfl ?_
    refine AW.aload_n X dX3_behindHail_14 (i := 0) rfl rfl ?_
    refine AW.iload_n X dX3_behindHail_15 (i := 1) rfl rfl ?_
    refine AW.callV X dX3_behindHail_16 lX3_78 cfX3 (c_X3_lyingIn W hF hV (by omega)) (fa_ob hF) rfl rfl rfl rfl ⟨rfl, rfl⟩ (pR_k ?_)
    refine AW.istore X dX3_behindHail_19 rfl ?_
    refine AW.aload_n X dX3_behindHail_21 (i := 0) rfl rfl ?_
    refine AW.getI X dX3_behindHail_22 fX3_18 rfl (fa_ob hF) (hv_n hV) ?_
    refine AW.iconstN X 1 dX3_behindHail_25 rfl ?_
    refine AW.isub X dX3_behindHail_26 ?_
    rw [dn_sub]
    refine AW.istore X dX3_behindHail_27 rfl ?_
    exact L29 _ (Nat.le_refl _) _ _ bl bw rfl
  · have ez : h = (hard V k h) := by simp [hard, e]
    refine AW.callU X dX3_behindHail_10 lX3_73_X7 cfX7 (c_X4_hardness (o := 19 + V 0 0)) (by rw [e]; exact ox_k4 : OX (19 + V 0 0) 7) rfl rfl rfl rfl ⟨rfl, rfl⟩ (pR_ke (congrArg nI ez) ?_)
    refine AW.istore_n X dX3_behindHail_13 (i := 3) rfl rfl ?_
    refine AW.aload_n X dX3_behindHail_14 (i := 0) rfl rfl ?_
    refine AW.iload_n X dX3_behindHail_15 (i := 1) rfl rfl ?_
    refine AW.callV X dX3_behindHail_16 lX3_78 cfX3 (c_X3_lyingIn W hF hV (by omega)) (fa_ob hF) rfl rfl rfl rfl ⟨rfl, rfl⟩ (pR_k ?_)
    refine AW.istore X dX3_behindHail_19 rfl ?_
    refine AW.aload_n X dX3_behindHail_21 (i := 0) rfl rfl ?_
    refine AW.getI X dX3_behindHail_22 fX3_18 rfl (fa_ob hF) (hv_n hV) ?_
    refine AW.iconstN X 1 dX3_behindHail_25 rfl ?_
    refine AW.isub X dX3_behindHail_26 ?_
    rw [dn_sub]
    refine AW.istore X dX3_behindHail_27 rfl ?_
    exact L29 _ (Nat.le_refl _) _ _ bl bw rfl
  · have ez : (if k < 4 then 0 else h - (V 0 1)) = (hard V k h) := by simp [hard, e]
    refine AW.callU X dX3_behindHail_10 lX3_73_X8 cfX8 (c_X8_hardness (o := 19 + V 0 0) (by omega) (by omega) (by omega) (by rw [e]; exact ox_k5)) (by rw [e]; exact ox_k5 : OX (19 + V 0 0) 8) rfl rfl rfl rfl ⟨rfl, rfl⟩ (pR_ke (congrArg nI ez) ?_)
    refine AW.istore_n X dX3_behindHail_13 (i := 3) rfl rfl ?_
    refine AW.aload_n X dX3_behindHail_14 (i := 0) rfl rfl ?_
    refine AW.iload_n X dX3_behindHail_15 (i := 1) rfl rfl ?_
    refine AW.callV X dX3_behindHail_16 lX3_78 cfX3 (c_X3_lyingIn W hF hV (by omega)) (fa_ob hF) rfl rfl rfl rfl ⟨rfl, rfl⟩ (pR_k ?_)
    refine AW.istore X dX3_behindHail_19 rfl ?_
    refine AW.aload_n X dX3_behindHail_21 (i := 0) rfl rfl ?_
    refine AW.getI X dX3_behindHail_22 fX3_18 rfl (fa_ob hF) (hv_n hV) ?_
    refine AW.iconstN X 1 dX3_behindHail_25 rfl ?_
    refine AW.isub X dX3_behindHail_26 ?_
    rw [dn_sub]
    refine AW.istore X dX3_behindHail_27 rfl ?_
    exact L29 _ (Nat.le_refl _) _ _ bl bw rfl
  · have ez : (2 * (h - (V 0 1))) = (hard V k h) := by simp [hard, e]
    refine AW.callU X dX3_behindHail_10 lX3_73_X0 cfX0 (c_X0_hardness (o := 19 + V 0 0) (by omega) (by omega) (by omega) (by rw [e]; exact ox_k6)) (by rw [e]; exact ox_k6 : OX (19 + V 0 0) 0) rfl rfl rfl rfl ⟨rfl, rfl⟩ (pR_ke (congrArg nI ez) ?_)
    refine AW.istore_n X dX3_behindHail_13 (i := 3) rfl rfl ?_
    refine AW.aload_n X dX3_behindHail_14 (i := 0) rfl rfl ?_
    refine AW.iload_n X dX3_behindHail_15 (i := 1) rfl rfl ?_
    refine AW.callV X dX3_behindHail_16 lX3_78 cfX3 (c_X3_lyingIn W hF hV (by omega)) (fa_ob hF) rfl rfl rfl rfl ⟨rfl, rfl⟩ (pR_k ?_)
    refine AW.istore X dX3_behindHail_19 rfl ?_
    refine AW.aload_n X dX3_behindHail_21 (i := 0) rfl rfl ?_
    refine AW.getI X dX3_behindHail_22 fX3_18 rfl (fa_ob hF) (hv_n hV) ?_
    refine AW.iconstN X 1 dX3_behindHail_25 rfl ?_
    refine AW.isub X dX3_behindHail_26 ?_
    rw [dn_sub]
    refine AW.istore X dX3_behindHail_27 rfl ?_
    exact L29 _ (Nat.le_refl _) _ _ bl bw rfl
