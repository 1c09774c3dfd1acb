theorem fallTo_n {τ : Tt} {i : Nat} (hi : i ≤ 6) : fallTo τ i 6 0 0 = τ 6 0 0 := fallTo_6 τ i hi 0 0 (by decide)
set_option maxRecDepth 100000 in
set_option maxHeartbeats 4000000 in
theorem c_X9_letFall {l : Launch} {δ : Dl} {b : Nat} {μ : Mm} (W : WX μ.2.2) {B : Nat} (hB : TA B) {τ : Tt} (hT : TX μ B τ)  : MCX l δ b yX9_letFall cX9_letFall 3 (some .int) 5 [.ref (b + B)] μ (pI fun r μ' => r = nI (fallB τ (τ 6 0 0)) ∧ TX μ' B (fallTo τ (τ 6 0 0)) ∧ SameI (TR B) μ μ') := by
  have bn := ti_n hT.1
  refine MC.intro ([some (.ref (b + B)), none, none]) (by decide) rfl rfl fun κ Qc hl hQ X => ?_
  subst hl
  have L4 : ∀ (m i : Nat) (μ1 : Mm), τ 6 0 0 - i < m → i ≤ τ 6 0 0 → TX μ1 B (fallTo τ i) → SameI (TR B) μ μ1 → AW κ (δ, b, NX, 3, shX, False, Qc, 0, 0) NX 0 0 4 [some (.ref (b + B)), some (.int (nI (fallB τ i))), some (.int (nI i))] [] μ1 := by
    intro m
    induction m with
    | zero => intro i μ1 hm; exact absurd hm (Nat.not_lt_zero _)
    | succ m ih =>
      intro i μ1 hm hi hT1 hs1
      have W1 := wx_same W hs1
      have e6 : fallTo τ i 6 0 0 = τ 6 0 0 := fallTo_n (by omega)
      have b1 : fallB τ i < 64 := Nat.lt_of_lt_of_le (fallB_lt τ i) (Nat.pow_le_pow_right (n := 2) (by decide) (by omega : i ≤ 6))
      refine AW.iload_n X dX9_letFall_4 (i := 2) rfl rfl ?_
      refine AW.aload_n X dX9_letFall_5 (i := 0) rfl rfl ?_
      refine AW.getI X dX9_letFall_6 fX9_17 rfl (ta_ob hB) (v := (nI (τ 6 0 0))) (by rw [tx_n hT1, e6]) ?_
      refine AW.icmp_geN X (tgt := 59) dX9_letFall_9 (by decide) (by omega) (by omega) (fun h9 => ?_) (fun h9 => ?_)
      · obtain rfl : i = τ 6 0 0 := by omega
        refine AW.iload_n X dX9_letFall_59 (i := 1) rfl rfl ?_
        refine AW.iret X hQ dX9_letFall_60 ⟨_, rfl, ?_⟩
        exact ⟨rfl, hT1, hs1⟩
      · have hv := tx_h hT1 (h := i) (by omega)
        have b2 : skin (fallTo τ i i) ≤ 864 := skinTo_le hv.1 12
        have b3 := hT1.1.2.1.2
        refine AW.aload_n X dX9_letFall_12 (i := 0) rfl rfl ?_
        refine AW.getR X dX9_letFall_13 fX9_11 rfl (ta_ob hB) (wx_fronts W1 hB) ?_
        refine AW.iload_n X dX9_letFall_16 (i := 2) rfl rfl ?_
        refine AW.aaload X (r := (B + 4 + 7 * i)) dX9_letFall_17 rfl rfl (ta_f hB) (n2_in (by omega) (by decide)) (by rw [n2_clamp (by omega)]; exact wx_front W1 hB (by omega)) ?_
        refine AW.callV X dX9_letFall_18 lX9_110 cfX3 (c_X3_wholeSkin W1 (fa_of hB (by omega)) hv) (fa_ob (fa_of hB (by omega))) rfl rfl rfl rfl ⟨rfl, rfl⟩ (pR_k ?_)
        refine AW.aload_n X dX9_letFall_21 (i := 0) rfl rfl ?_
        refine AW.getI X dX9_letFall_22 fX9_28 rfl (ta_ob hB) (tx_lim hT1) ?_
        refine AW.icmp_leN X (tgt := 53) dX9_letFall_25 (by decide) (by omega) (by omega) (fun h25 => ?_) (fun h25 => ?_)
        · refine AW.iincN X (c := (i + 1)) dX9_letFall_53 rfl (inc_1 _) rfl ?_
          refine AW.goto X (tgt := 4) dX9_letFall_56 (by decide) ?_
          refine AW.cg ?_ (ih (i + 1) μ1 (by omega) (by omega) (by rw [fallTo, if_neg (by omega)]; exact hT1) hs1)
          rw [fallB, if_neg (by omega)]
          rfl
        · refine AW.aload_n X dX9_letFall_28 (i := 0) rfl rfl ?_
          refine AW.getR X dX9_letFall_29 fX9_11 rfl (ta_ob hB) (wx_fronts W1 hB) ?_
          refine AW.iload_n X dX9_letFall_32 (i := 2) rfl rfl ?_
          refine AW.aaload X (r := (B + 4 + 7 * i)) dX9_letFall_33 rfl rfl (ta_f hB) (n2_in (by omega) (by decide)) (by rw [n2_clamp (by omega)]; exact wx_front W1 hB (by omega)) ?_
          refine AW.callV X dX9_letFall_34 lX9_64 cfX3 (c_X3_clear W1 (fa_of hB (by omega))) (fa_ob (fa_of hB (by omega))) rfl rfl rfl rfl ⟨rfl, rfl⟩ (pV_k fun μ2 hr => ?_)
          subst hr
          have s2 : SameI (FR (B + 4 + 7 * i)) μ1 (clrM μ1 (B + 4 + 7 * i) 12) := clr_same _ _ _
          have hT2 := tx_house hT1 (h := i) (by omega) s2.same (hv_clear hv)
          refine AW.iload_n X dX9_letFall_37 (i := 1) rfl rfl ?_
          refine AW.iconstN X 1 dX9_letFall_38 rfl ?_
          refine AW.iload_n X dX9_letFall_39 (i := 2) rfl rfl ?_
          refine AW.shl1 X dX9_letFall_40 (by omega) ?_
          refine AW.iorN X dX9_letFall_41 ?_
          refine AW.istore_n X dX9_letFall_42 (i := 1) rfl rfl ?_
          refine AW.aload_n X dX9_letFall_43 (i := 0) rfl rfl ?_
          refine AW.dup X dX9_letFall_44 rfl ?_
          refine AW.getI X dX9_letFall_45 fX9_37 rfl (ta_ob hB) (v := (nI (fallTo τ i 6 0 4))) (by rw [tx_fal hT2, upH_n (by omega)]) ?_
          refine AW.iconstN X 1 dX9_letFall_48 rfl ?_
          refine AW.iaddN X dX9_letFall_49 ?_
          refine AW.putI X dX9_letFall_50 fX9_37 rfl rfl ⟨rfl, rfl⟩ (by decide) (ta_ob hB) ?_
          refine AW.iincN X (c := (i + 1)) dX9_letFall_53 rfl (inc_1 _) rfl ?_
          refine AW.goto X (tgt := 4) dX9_letFall_56 (by decide) ?_
          refine AW.cg ?_ (ih (i + 1) _ (by omega) (by omega) (by rw [fallTo, if_pos (by omega)]; exact tx_num hT2 4 _ (by decide) (by decide)) ((hs1.tr (s2.mono (fr_tr (by omega)))).tr (SameI.wI ⟨by omega, by omega⟩)))
          rw [fallB, if_pos (by omega)]
          rfl
  refine AW.iconstN X 0 dX9_letFall_0 rfl ?_
  refine AW.istore_n X dX9_letFall_1 (i := 1) rfl rfl ?_
  refine AW.iconstN X 0 dX9_letFall_2 rfl ?_
  refine AW.istore_n X dX9_letFall_3 (i := 2) rfl rfl ?_
  exact AW.cgw (L4 _ 0 μ (Nat.lt_succ_self _) (by omega) hT SameI.rf) ⟨rfl, rfl, rfl, trivial⟩
def newV (k a : Nat) : Vt := fun j i => if j = 0 ∧ i = 0 then k else if j = 0 ∧ i = 1 then a else 0
def buildT (τ : Tt) (k a : Nat) : Tt := fun h => if h = 6 then upV (τ 6) 0 0 (τ 6 0 0 + 1) else upH τ (τ 6 0 0) (newV k a) h
theorem hi_new {k a : Nat} (hk : k < 7) (ha : a ≤ 9) : HI (newV k a) := ⟨hk, ha, Nat.zero_le _, fun c hc => absurd hc (Nat.not_lt_zero c), fun k _ => (by decide : (0 : Nat) < 256)⟩
theorem tx_build {μ μ' : Mm} {B k a : Nat} {τ : Tt} (hT : TX μ B τ) (hk : k < 7) (ha : a ≤ 9) (hn : τ 6 0 0 < 6) (hs : Same (fun q => q = B ∨ FR (B + 4 + 7 * τ 6 0 0) q) μ μ') (hB : ∀ i, i ≠ 2 → μ'.1 B i = μ.1 B i) (h2 : μ'.1 B 2 = nI (τ 6 0 0 + 1)) (hv : HV μ' (B + 4 + 7 * τ 6 0 0) (newV k a)) : TX μ' B (buildT τ k a) := by
  have e6 : ∀ j i, ¬ (j = 0 ∧ i = 0) → buildT τ k a 6 j i = τ 6 j i := fun j i q => by simp only [buildT, upV, if_true, if_neg q]
  have e0 : buildT τ k a 6 0 0 = τ 6 0 0 + 1 := by simp [buildT, upV]
  have eh : ∀ h, h < 6 → buildT τ k a h = upH τ (τ 6 0 0) (newV k a) h := fun h q => if_neg (by omega)
  have ht : ∀ j, j = 2 ∨ j = 3 → μ'.1 (B + j) = μ.1 (B + j) := fun j hj => (hs.1 (B + j) (fun z => by rcases z with z | z; omega; have := z.1; omega)).1
  have hI : TI (buildT τ k a) := by
    refine ⟨by rw [e0]; omega, by rw [e6 0 1 (by decide)]; exact hT.1.2.1, by rw [e6 0 2 (by decide)]; exact hT.1.2.2.1, fun c hc => by rw [e6 1 c (by simp), e6 2 c (by simp)]; exact hT.1.2.2.2.1 c hc, fun h hh => ?_⟩
    rw [e0] at hh
    rw [eh h (by omega)]
    by_cases z : h = τ 6 0 0
    · rw [z, upH_s]; exact hi_new hk ha
    · rw [upH_n z]; exact hT.1.2.2.2.2 h (by omega)
  refine ⟨hI, ⟨by rw [e0]; exact h2, by rw [e6 0 1 (by decide), hB 5 (by decide)]; exact tx_lim hT, by rw [e6 0 2 (by decide), hB 6 (by decide)]; exact tx_wid hT, by rw [e6 0 3 (by decide), hB 7 (by decide)]; exact tx_yr hT, by rw [e6 0 4 (by decide), hB 8 (by decide)]; exact tx_fal hT, by rw [e6 0 5 (by decide), hB 9 (by decide)]; exact tx_seed hT⟩, fun c hc => ?_, fun h hh => ?_⟩
  · rw [ht 2 (Or.inl rfl), ht 3 (Or.inr rfl), e6 1 c (by simp), e6 2 c (by simp)]
    exact hT.2.2.1 c hc
  · rw [e0] at hh
    rw [eh h (by omega)]
    by_cases z : h = τ 6 0 0
    · rw [z, upH_s]; exact hv
    · rw [upH_n z]
      refine hv_same (hT.2.2.2 h (by omega)) hs (fun q hq hz => ?_)
      obtain ⟨q1, q2⟩ := hq
      rcases hz with hz | hz
      · omega
      · obtain ⟨q3, q4⟩ := hz
        omega
def bldM (μ : Mm) (B o n k a : Nat) : Mm := wI (wI (wI (wR (clrM μ o 12) o 0 (some (19 + k))) o 1 (nI k)) o 2 (nI a)) B 2 (nI (n + 1))
theorem bld_same (μ : Mm) (B o n k a : Nat) : Same (fun q => q = B ∨ FR o q) μ (bldM μ B o n k a) := by
  have h0 : FR o o := ⟨by omega, by omega⟩
  exact (((((clr_same μ o 12).same.mono (fun q h => Or.inr h)).tr (Same.wR (Or.inr h0))).tr (SameI.wI (Or.inr h0)).same).tr (SameI.wI (Or.inr h0)).same).tr (SameI.wI (Or.inl rfl)).same
theorem bld_hv {μ : Mm} {B o n k a : Nat} (hk : k < 7) (ha : a ≤ 9) (hne : o ≠ B) (hne6 : o + 6 ≠ B) : HV (bldM μ B o n k a) o (newV k a) := by
  refine ⟨hi_new hk ha, ?_, ?_, ?_, ?_, fun c hc => absurd hc (Nat.not_lt_zero c), fun i hi => ?_⟩
  · simp [bldM, wI, wR, newV]
  · simp [bldM, wI, wR, newV, hne]
  · simp [bldM, wI, wR, newV, hne]
  · simp [bldM, wI, wR, newV, hne, clrM]
  · simp [bldM, wI, wR, newV, hne6, clrM, hi]
set_option maxRecDepth 100000 in
set_option maxHeartbeats 4000000 in
theorem c_X9_build {l : Launch} {δ : Dl} {b : Nat} {μ : Mm} (W : WX μ.2.2) {B : Nat} (hB : TA B) {τ : Tt} (hT : TX μ B τ) {k a : Nat} (hk : k < 7) (ha : a ≤ 9) (hn : τ 6 0 0 < 6) : MCX l δ b yX9_build cX9_build 4 (some .int) 2 [.ref (b + B), .int (nI k), .int (nI a)] μ (pI fun r μ' => r = nI (τ 6 0 0) ∧ TX μ' B (buildT τ k a) ∧ Same (TR B) μ μ' ∧ WX μ'.2.2) := by
  refine MC.intro ([some (.ref (b + B)), some (.int (nI k)), some (.int (nI a)), none]) (by decide) rfl rfl fun κ Qc hl hQ X => ?_
  subst hl
  have hF := fa_of (h := τ 6 0 0) hB (by omega)
  have hoB : (B + 4 + 7 * τ 6 0 0) ≠ B := by omega
  have W1 : WX (wR (clrM μ (B + 4 + 7 * τ 6 0 0) 12) (B + 4 + 7 * τ 6 0 0) 0 (some (19 + k))).2.2 := wx_wR (r := clrM μ (B + 4 + 7 * τ 6 0 0) 12) W hF
  refine AW.aload_n X dX9_build_0 (i := 0) rfl rfl ?_
  refine AW.getI X dX9_build_1 fX9_17 rfl (ta_ob hB) (tx_n hT) ?_
  refine AW.bipushN X 6 dX9_build_4 rfl ?_
  refine AW.icmp_geN X (tgt := 18) dX9_build_6 (by decide) (by omega) (by omega) (fun h6 => ?_) (fun h6 => ?_)
  · omega
  · refine AW.iload_n X dX9_build_9 (i := 1) rfl rfl ?_
    refine AW.bipushN X 7 dX9_build_10 rfl ?_
    refine AW.callSN X dX9_build_12 lX9_60 (c_X11_outside) rfl rfl rfl rfl ⟨rfl, rfl⟩ (pR_k ?_)
    refine AW.if_eqB X (tgt := 20) dX9_build_15 (by decide) (fun h15 => ?_) (fun h15 => ?_)
    · simp only [Bool.not_eq_true', Bool.not_eq_false'] at h15
      refine AW.aload_n X dX9_build_20 (i := 0) rfl rfl ?_
      refine AW.getR X dX9_build_21 fX9_11 rfl (ta_ob hB) (wx_fronts W hB) ?_
      refine AW.aload_n X dX9_build_24 (i := 0) rfl rfl ?_
      refine AW.getI X dX9_build_25 fX9_17 rfl (ta_ob hB) (v := (nI (τ 6 0 0))) (tx_n hT) ?_
      refine AW.aaload X (r := (B + 4 + 7 * τ 6 0 0)) dX9_build_28 rfl rfl (ta_f hB) (n2_in (by omega) (by decide)) (by rw [n2_clamp (by omega)]; exact wx_front W hB (by omega)) ?_
      refine AW.astore_n X dX9_build_29 (i := 3) rfl rfl ?_
      refine AW.aload_n X dX9_build_30 (i := 3) rfl rfl ?_
      refine AW.callV X dX9_build_31 lX9_64 cfX3 (c_X3_clear W hF) (fa_ob hF) rfl rfl rfl rfl ⟨rfl, rfl⟩ (pV_k fun μ2 hr => ?_)
      subst hr
      refine AW.aload_n X dX9_build_34 (i := 3) rfl rfl ?_
      refine AW.aload_n X dX9_build_35 (i := 0) rfl rfl ?_
      refine AW.getR X dX9_build_36 fX9_43 rfl (ta_ob hB) (wx_kinds W hB) ?_
      refine AW.iload_n X dX9_build_39 (i := 1) rfl rfl ?_
      refine AW.aaload X (r := (19 + k)) dX9_build_40 rfl rfl ax18 (n2_in (by omega) (by decide)) (by rw [n2_clamp (by omega)]; exact wx_kind W hk) ?_
      refine AW.putR X dX9_build_41 fX9_67 rfl rfl (by decide) (fa_ob hF) ?_
      refine AW.aload_n X dX9_build_44 (i := 3) rfl rfl ?_
      refine AW.iload_n X dX9_build_45 (i := 1) rfl rfl ?_
      refine AW.putI X dX9_build_46 fX9_71 rfl rfl ⟨rfl, rfl⟩ (by decide) (fa_ob hF) ?_
      refine AW.aload_n X dX9_build_49 (i := 3) rfl rfl ?_
      refine AW.iload_n X dX9_build_50 (i := 2) rfl rfl ?_
      refine AW.putI X dX9_build_51 fX9_74 rfl rfl ⟨rfl, rfl⟩ (by decide) (fa_ob hF) ?_
      refine AW.aload_n X dX9_build_54 (i := 0) rfl rfl ?_
      refine AW.dup X dX9_build_55 rfl ?_
      refine AW.getI X dX9_build_56 fX9_17 rfl (ta_ob hB) (v := (nI (τ 6 0 0))) (by simp [wI, wR, clrM, Ne.symm hoB, show ¬ B = (B + 4 + 7 * τ 6 0 0) + 6 by omega]; exact tx_n hT) ?_
      refine AW.iconstN X 1 dX9_build_59 rfl ?_
      refine AW.iaddN X dX9_build_60 ?_
      refine AW.putI X dX9_build_61 fX9_17 rfl rfl ⟨rfl, rfl⟩ (by decide) (ta_ob hB) ?_
      refine AW.aload_n X dX9_build_64 (i := 0) rfl rfl ?_
      refine AW.getI X dX9_build_65 fX9_17 rfl (ta_ob hB) (v := (nI (τ 6 0 0 + 1))) (by simp [wI]) ?_
      refine AW.iconstN X 1 dX9_build_68 rfl ?_
      refine AW.isubN X dX9_build_69 (by omega) ?_
      refine AW.iret X hQ dX9_build_70 ⟨_, rfl, ?_⟩
      refine ⟨congrArg nI (by omega), ?_, bld_same μ B _ _ k a |>.mono ?_, W1⟩
      · exact tx_build hT hk ha hn (bld_same μ B _ _ k a) (fun i hi => by simp [bldM, wI, wR, clrM, hi, Ne.symm hoB, show ¬ B = (B + 4 + 7 * τ 6 0 0) + 6 by omega]) (by simp [bldM, wI]) (bld_hv hk ha hoB (by omega))
      · rintro q (rfl | h)
        · exact ⟨by omega, by omega⟩
        · exact fr_tr (by omega) q h
    · simp only [Bool.not_eq_true', Bool.not_eq_false'] at h15
      (rw [inr_n (by omega) (by decide)] at h15; simp [hk] at h15)
