set_option maxRecDepth 100000 in
set_option maxHeartbeats 4000000 in
theorem c_X9_strength {l : Launch} {δ : Dl} {b : Nat} {μ : Mm} (W : WX μ.2.2) {B o : Nat} (hB : TA B) {τ : Tt} (hT : TX μ B τ) (hF : FA o) {V : Vt} (hV : HV μ o V) {c t : Nat} (hc : c < 6) (ht : t ≤ 9) : MCX l δ b yX9_strength cX9_strength 4 (some .int) 2 [.ref (b + B), .ref (b + o), .int (nI c), .int (nI t)] μ (pI fun r μ' => r = nI (counted V (τ 6 1 c) * t) ∧ μ' = μ) := by
  have b1 := ti_hid hT.1 hc
  refine MC.intro ([some (.ref (b + B)), some (.ref (b + o)), some (.int (nI c)), some (.int (nI t))]) (by decide) rfl rfl fun κ Qc hl hQ X => ?_
  subst hl
  refine AW.aload_n X dX9_strength_0 (i := 1) rfl rfl ?_
  refine AW.getR X dX9_strength_1 fX9_67 rfl (fa_ob hF) (hv_kind hV) ?_
  refine AW.aload_n X dX9_strength_4 (i := 0) rfl rfl ?_
  refine AW.getR X dX9_strength_5 fX9_21 rfl (ta_ob hB) (wx_hides W hB) ?_
  refine AW.iload_n X dX9_strength_8 (i := 2) rfl rfl ?_
  refine AW.iaload X dX9_strength_9 (ta_h hB) (n2_in (by omega) (by decide)) (v := (nI (τ 6 1 c))) (by rw [n2_clamp (by omega)]; exact tx_hid hT (by omega)) ?_
  refine seven (hi_k hV.1) (fun e => ?_) (fun e => ?_) (fun e => ?_) (fun e => ?_) (fun e => ?_) (fun e => ?_) (fun e => ?_)
  · have ez : (τ 6 1 c) = (counted V (τ 6 1 c)) := by simp [counted, e]
    refine AW.callV X dX9_strength_10 lX9_80 cfX4 (c_X4_counted (o := 19 + V 0 0)) (by rw [e]; exact ox_k0 : OX (19 + V 0 0) 4) rfl rfl rfl rfl ⟨rfl, rfl⟩ (pR_k ?_)
    rw [ez]
    refine AW.iload_n X dX9_strength_13 (i := 3) rfl rfl ?_
    refine AW.imulN X dX9_strength_14 ?_
    refine AW.iret X hQ dX9_strength_15 ⟨_, rfl, ?_⟩
    exact ⟨rfl, rfl⟩
  · have ez : (τ 6 1 c) = (counted V (τ 6 1 c)) := by simp [counted, e]
    refine AW.callU X dX9_strength_10 lX9_80_X2 cfX2 (c_X4_counted (o := 19 + V 0 0)) (by rw [e]; exact ox_k1 : OX (19 + V 0 0) 2) rfl rfl rfl rfl ⟨rfl, rfl⟩ (pR_k ?_)
    rw [ez]
    refine AW.iload_n X dX9_strength_13 (i := 3) rfl rfl ?_
    refine AW.imulN X dX9_strength_14 ?_
    refine AW.iret X hQ dX9_strength_15 ⟨_, rfl, ?_⟩
    exact ⟨rfl, rfl⟩
  · have ez : (τ 6 1 c) = (counted V (τ 6 1 c)) := by simp [counted, e]
    refine AW.callU X dX9_strength_10 lX9_80_X5 cfX5 (c_X4_counted (o := 19 + V 0 0)) (by rw [e]; exact ox_k2 : OX (19 + V 0 0) 5) rfl rfl rfl rfl ⟨rfl, rfl⟩ (pR_k ?_)
    rw [ez]
    refine AW.iload_n X dX9_strength_13 (i := 3) rfl rfl ?_
    refine AW.imulN X dX9_strength_14 ?_
    refine AW.iret X hQ dX9_strength_15 ⟨_, rfl, ?_⟩
    exact ⟨rfl, rfl⟩
  · have ez : (τ 6 1 c) = (counted V (τ 6 1 c)) := by simp [counted, e]
    refine AW.callU X dX9_strength_10 lX9_80_X1 cfX1 (c_X4_counted (o := 19 + V 0 0)) (by rw [e]; exact ox_k3 : OX (19 + V 0 0) 1) rfl rfl rfl rfl ⟨rfl, rfl⟩ (pR_k ?_)
    rw [ez]
    refine AW.iload_n X dX9_strength_13 (i := 3) rfl rfl ?_
    refine AW.imulN X dX9_strength_14 ?_
    refine AW.iret X hQ dX9_strength_15 ⟨_, rfl, ?_⟩
    exact ⟨rfl, rfl⟩
  · have ez : ((τ 6 1 c) - 1) = (counted V (τ 6 1 c)) := by simp [counted, e]
    refine AW.callU X dX9_strength_10 lX9_80_X7 cfX7 (c_X7_counted (o := 19 + V 0 0) (by omega)) (by rw [e]; exact ox_k4 : OX (19 + V 0 0) 7) rfl rfl rfl rfl ⟨rfl, rfl⟩ (pR_k ?_)
    rw [ez]
    refine AW.iload_n X dX9_strength_13 (i := 3) rfl rfl ?_
    refine AW.imulN X dX9_strength_14 ?_
    refine AW.iret X hQ dX9_strength_15 ⟨_, rfl, ?_⟩
    exact ⟨rfl, rfl⟩
  · have ez : (τ 6 1 c) = (counted V (τ 6 1 c)) := by simp [counted, e]
    refine AW.callU X dX9_strength_10 lX9_80_X8 cfX8 (c_X4_counted (o := 19 + V 0 0)) (by rw [e]; exact ox_k5 : OX (19 + V 0 0) 8) rfl rfl rfl rfl ⟨rfl, rfl⟩ (pR_k ?_)
    rw [ez]
    refine AW.iload_n X dX9_strength_13 (i := 3) rfl rfl ?_
    refine AW.imulN X dX9_strength_14 ?_
    refine AW.iret X hQ dX9_strength_15 ⟨_, rfl, ?_⟩
    exact ⟨rfl, rfl⟩
  · have ez : (τ 6 1 c) = (counted V (τ 6 1 c)) := by simp [counted, e]
    refine AW.callU X dX9_strength_10 lX9_80_X0 cfX0 (c_X4_counted (o := 19 + V 0 0)) (by rw [e]; exact ox_k6 : OX (19 + V 0 0) 0) rfl rfl rfl rfl ⟨rfl, rfl⟩ (pR_k ?_)
    rw [ez]
    refine AW.iload_n X dX9_strength_13 (i := 3) rfl rfl ?_
    refine AW.imulN X dX9_strength_14 ?_
    refine AW.iret X hQ dX9_strength_15 ⟨_, rfl, ?_⟩
    exact ⟨rfl, rfl⟩
theorem lyN {V : Vt} (hV : HI V) (k : Nat) : lyA V k < 256 := ly_lt8 V k (hi_n hV)
set_option maxRecDepth 100000 in
set_option maxHeartbeats 4000000 in
theorem c_X9_seenAmong {l : Launch} {δ : Dl} {b : Nat} {μ : Mm} (W : WX μ.2.2) {B o : Nat} (hB : TA B) {τ : Tt} (hT : TX μ B τ) (hF : FA o) {V : Vt} (hV : HV μ o V) {bits k d : Nat} (hb : bits < 256) (hk : k < 12) (hd : d < 100) : MCX l δ b yX9_seenAmong cX9_seenAmong 8 (some .int) 4 [.ref (b + B), .ref (b + o), .int (nI bits), .int (nI k), .int (nI d)] μ (pI fun r μ' => r = oI (seenIn (τ 6 1) V bits (wet V k d) (V 0 2)) ∧ μ' = μ) := by
  have bn := hi_n hV.1
  refine MC.intro ([some (.ref (b + B)), some (.ref (b + o)), some (.int (nI bits)), some (.int (nI k)), some (.int (nI d)), none, none, none]) (by decide) rfl rfl fun κ Qc hl hQ X => ?_
  subst hl
  have bw := wet_le hV.1 k hd
  have L17 : ∀ i : Nat, i ≤ V 0 2 → seenIn (τ 6 1) V bits (wet V k d) (V 0 2) = seenIn (τ 6 1) V bits (wet V k d) i → AW κ (δ, b, NX, 8, shX, False, Qc, 0, 0) NX 0 0 17 [some (.ref (b + B)), some (.ref (b + o)), some (.int (nI bits)), some (.int (nI k)), some (.int (nI d)), some (.int (nI (wet V k d))), some (.int (dn i)), none] [] μ := by
    intro i
    induction i with
    | zero =>
      intro hi hr
      rw [dn_0]
      refine AW.iload X dX9_seenAmong_17 rfl ?_
      refine AW.if_lt X (tgt := 76) dX9_seenAmong_19 (by decide) (fun h19 => ?_) (fun h19 => ?_)
      · refine AW.iconst X (v := -1) dX9_seenAmong_76 rfl ?_
        refine AW.iret X hQ dX9_seenAmong_77 ⟨_, rfl, ?_⟩
        exact ⟨by rw [hr]; rfl, rfl⟩
      · exact absurd (by decide) h19
    | succ c ih =>
      intro hi hr
      rw [dn_s]
      have b2 := (hi_th hV.1 (c := c) (by omega)).2
      have b3 := hi_col hV.1 (c := c) (by omega)
      have b5 := strength_le (hd := τ 6 1) (V := V) (c := c) (ti_hid hT.1 b3) b2
      unfold strength at b5
      refine AW.iload X dX9_seenAmong_17 rfl ?_
      refine AW.if_ltN X (tgt := 76) dX9_seenAmong_19 (by decide) (by omega) (fun h19 => ?_) (fun h19 => ?_)
      · exact h19.elim
      · refine AW.iload_n X dX9_seenAmong_22 (i := 2) rfl rfl ?_
        refine AW.iload X dX9_seenAmong_23 rfl ?_
        refine AW.hasN X dX9_seenAmong_25 dX9_seenAmong_26 dX9_seenAmong_27 (by omega) (by omega) ?_
        refine AW.if_eqB X (tgt := 35) dX9_seenAmong_28 (by decide) (fun h28 => ?_) (fun h28 => ?_)
        · refine AW.iconstN X 0 dX9_seenAmong_35 rfl ?_
          refine AW.istore X dX9_seenAmong_36 rfl ?_
          refine AW.iload X dX9_seenAmong_38 rfl ?_
          refine AW.if_eqN X (tgt := 70) dX9_seenAmong_40 (by decide) (by omega) (fun h40 => ?_) (fun h40 => ?_)
          · refine AW.iinc X (v := -1) dX9_seenAmong_70 rfl rfl rfl ?_
            refine AW.goto X (tgt := 17) dX9_seenAmong_73 (by decide) ?_
            refine AW.cgw (ih (by omega) (hr.trans ?_)) ⟨rfl, rfl, rfl, rfl, rfl, rfl, rfl, trivial⟩
            rw [seenIn, if_neg (by simp [strength, *] <;> omega)]
          · refine AW.aload_n X dX9_seenAmong_43 (i := 0) rfl rfl ?_
            refine AW.aload_n X dX9_seenAmong_44 (i := 1) rfl rfl ?_
            refine AW.aload_n X dX9_seenAmong_45 (i := 1) rfl rfl ?_
            refine AW.getR X dX9_seenAmong_46 fX9_90 rfl (fa_ob hF) (wx_colour W hF) ?_
            refine AW.iload X dX9_seenAmong_49 rfl ?_
            refine AW.iaload X dX9_seenAmong_51 (fa_2 hF) (n2_in (by omega) (by decide)) (v := (nI (V 2 c))) (by rw [n2_clamp (by omega)]; exact hv_2 hV (by omega)) ?_
            refine AW.aload_n X dX9_seenAmong_52 (i := 1) rfl rfl ?_
            refine AW.getR X dX9_seenAmong_53 fX9_93 rfl (fa_ob hF) (wx_thick W hF) ?_
            refine AW.iload X dX9_seenAmong_56 rfl ?_
            refine AW.iaload X dX9_seenAmong_58 (fa_3 hF) (n2_in (by omega) (by decide)) (v := (nI (V 3 c))) (by rw [n2_clamp (by omega)]; exact hv_3 hV (by omega)) ?_
            refine AW.callV X dX9_seenAmong_59 lX9_96 cfX9 (c_X9_strength W hB hT hF hV (by omega) (by omega)) (ta_ob hB) rfl rfl rfl rfl ⟨rfl, rfl⟩ (pR_k ?_)
            refine AW.iload X dX9_seenAmong_62 rfl ?_
            refine AW.icmp_ltN X (tgt := 70) dX9_seenAmong_64 (by decide) (by omega) (by omega) (fun h64 => ?_) (fun h64 => ?_)
            · refine AW.iinc X (v := -1) dX9_seenAmong_70 rfl rfl rfl ?_
              refine AW.goto X (tgt := 17) dX9_seenAmong_73 (by decide) ?_
              refine AW.cgw (ih (by omega) (hr.trans ?_)) ⟨rfl, rfl, rfl, rfl, rfl, rfl, rfl, trivial⟩
              rw [seenIn, if_neg (by simp [strength, *] <;> omega)]
            · refine AW.iload X dX9_seenAmong_67 rfl ?_
              refine AW.iret X hQ dX9_seenAmong_69 ⟨_, rfl, ?_⟩
              exact ⟨by rw [hr, seenIn, if_pos (by simp [strength, *] <;> omega)]; rfl, rfl⟩
        · refine AW.iconstN X 1 dX9_seenAmong_31 rfl ?_
          refine AW.goto X (tgt := 36) dX9_seenAmong_32 (by decide) ?_
          refine AW.istore X dX9_seenAmong_36 rfl ?_
          refine AW.iload X dX9_seenAmong_38 rfl ?_
          refine AW.if_eqN X (tgt := 70) dX9_seenAmong_40 (by decide) (by omega) (fun h40 => ?_) (fun h40 => ?_)
          · refine AW.iinc X (v := -1) dX9_seenAmong_70 rfl rfl rfl ?_
            refine AW.goto X (tgt := 17) dX9_seenAmong_73 (by decide) ?_
            refine AW.cgw (ih (by omega) (hr.trans ?_)) ⟨rfl, rfl, rfl, rfl, rfl, rfl, rfl, trivial⟩
            rw [seenIn, if_neg (by simp [strength, *] <;> omega)]
          · refine AW.aload_n X dX9_seenAmong_43 (i := 0) rfl rfl ?_
            refine AW.aload_n X dX9_seenAmong_44 (i := 1) rfl rfl ?_
            refine AW.aload_n X dX9_seenAmong_45 (i := 1) rfl rfl ?_
            refine AW.getR X dX9_seenAmong_46 fX9_90 rfl (fa_ob hF) (wx_colour W hF) ?_
            refine AW.iload X dX9_seenAmong_49 rfl ?_
            refine AW.iaload X dX9_seenAmong_51 (fa_2 hF) (n2_in (by omega) (by decide)) (v := (nI (V 2 c))) (by rw [n2_clamp (by omega)]; exact hv_2 hV (by omega)) ?_
            refine AW.aload_n X dX9_seenAmong_52 (i := 1) rfl rfl ?_
            refine AW.getR X dX9_seenAmong_53 fX9_93 rfl (fa_ob hF) (wx_thick W hF) ?_
            refine AW.iload X dX9_seenAmong_56 rfl ?_
            refine AW.iaload X dX9_seenAmong_58 (fa_3 hF) (n2_in (by omega) (by decide)) (v := (nI (V 3 c))) (by rw [n2_clamp (by omega)]; exact hv_3 hV (by omega)) ?_
            refine AW.callV X dX9_seenAmong_59 lX9_96 cfX9 (c_X9_strength W hB hT hF hV (by omega) (by omega)) (ta_ob hB) rfl rfl rfl rfl ⟨rfl, rfl⟩ (pR_k ?_)
            refine AW.iload X dX9_seenAmong_62 rfl ?_
            refine AW.icmp_ltN X (tgt := 70) dX9_seenAmong_64 (by decide) (by omega) (by omega) (fun h64 => ?_) (fun h64 => ?_)
            · refine AW.iinc X (v := -1) dX9_seenAmong_70 rfl rfl rfl ?_
              refine AW.goto X (tgt := 17) dX9_seenAmong_73 (by decide) ?_
              refine AW.cgw (ih (by omega) (hr.trans ?_)) ⟨rfl, rfl, rfl, rfl, rfl, rfl, rfl, trivial⟩
              rw [seenIn, if_neg (by simp [strength, *] <;> omega)]
            · refine AW.iload X dX9_seenAmong_67 rfl ?_
              refine AW.iret X hQ dX9_seenAmong_69 ⟨_, rfl, ?_⟩
              exact ⟨by rw [hr, seenIn, if_pos (by simp [strength, *] <;> omega)]; rfl, rfl⟩
  refine AW.aload_n X dX9_seenAmong_0 (i := 1) rfl rfl ?_
  refine AW.iload_n X dX9_seenAmong_1 (i := 3) rfl rfl ?_
  refine AW.iload X dX9_seenAmong_2 rfl ?_
  refine AW.callV X dX9_seenAmong_4 lX9_86 cfX3 (c_X3_wetness W hF hV (by omega) (by omega)) (fa_ob hF) rfl rfl rfl rfl ⟨rfl, rfl⟩ (pR_k ?_)
  refine AW.istore X dX9_seenAmong_7 rfl ?_
  refine AW.aload_n X dX9_seenAmong_9 (i := 1) rfl rfl ?_
  refine AW.getI X dX9_seenAmong_10 fX9_77 rfl (fa_ob hF) (hv_n hV) ?_
  refine AW.iconstN X 1 dX9_seenAmong_13 rfl ?_
  refine AW.isub X dX9_seenAmong_14 ?_
  rw [dn_sub]
  refine AW.istore X dX9_seenAmong_15 rfl ?_
  exact AW.cgw (L17 _ (Nat.le_refl _) rfl) ⟨rfl, rfl, rfl, rfl, rfl, rfl, rfl, trivial⟩
