theorem cells_l (V : Vt) (c : Nat) (hc : c < V 0 2) : ∀ k, cellsTo V c (k + 1) = if (lyA V k).testBit c = true then cellsTo V c k ||| 2 ^ k else cellsTo V c k := fun k => by rw [cellsTo, lyA_bit hc]
set_option maxRecDepth 100000 in
set_option maxHeartbeats 4000000 in
theorem c_X12_coatOf {l : Launch} {δ : Dl} {b : Nat} {μ : Mm} {S : St} (hR : RMX μ S) {x : Int32} {y : Int32} {z : Int32} : MCM l δ b yX12_coatOf cX12_coatOf 7 (some .int) 4 [.ref (b + 0), .int x, .int y, .int z] μ (pI fun r μ' => r = (S_coatOf S x y z).1 ∧ RMX μ' (S_coatOf S x y z).2) := by
  have hT := rm_t hR
  have W := rm_w hR
  have bn := ti_n hT.1
  refine MC.intro ([some (.ref (b + 0)), some (.int x), some (.int y), some (.int z), none, none, none]) (by decide) rfl rfl fun κ Qc hl hQ X => ?_
  subst hl
  refine AW.aload_n X dX12_coatOf_0 (i := 0) rfl rfl ?_
  refine AW.iload_n X dX12_coatOf_1 (i := 1) rfl rfl ?_
  refine AW.iload_n X dX12_coatOf_2 (i := 2) rfl rfl ?_
  refine AW.callV X dX12_coatOf_3 lX12_149 cfX12 (c_X12_isCoat W hT) om0 rfl rfl rfl rfl ⟨rfl, rfl⟩ (pR_k ?_)
  refine AW.if_eqB X (tgt := 19) dX12_coatOf_6 (by decide) (fun h6 => ?_) (fun h6 => ?_)
  · refine AW.aload_n X dX12_coatOf_19 (i := 0) rfl rfl ?_
    refine AW.bipush X (v := -5) dX12_coatOf_20 rfl ?_
    refine AW.callV X dX12_coatOf_22 lX12_98 cfX12 (c_X12_no (k := 5) hR (by decide) (by decide)) om0 rfl rfl rfl rfl ⟨rfl, rfl⟩ (pI_k fun r μ1 hr => ?_)
    refine AW.iret X hQ dX12_coatOf_25 ⟨_, rfl, ?_⟩
    refine rm_of ?_ hr
    rcases Bool.and_eq_false_iff.mp h6 with hA | hA <;> simp [S_coatOf, hA]
  · obtain ⟨hA, hB⟩ := Bool.and_eq_true_iff.mp h6
    obtain ⟨h, hh, eh⟩ := inr_of (x := x) (m := (S.1 6 0 0)) (by omega) hA
    subst eh
    have ch := cl_n (show h < 2147483648 by omega)
    have hIh := tm_hi hT hh
    have bnh := hi_n hIh
    have bah := hi_a hIh
    rw [ch] at hB
    obtain ⟨c, hc, ec⟩ := inr_of (x := y) (m := (S.1 h 0 2)) (by omega) hB
    subst ec
    have cc := cl_n (show c < 2147483648 by omega)
    refine AW.iload_n X dX12_coatOf_9 (i := 3) rfl rfl ?_
    refine AW.iconstN X 0 dX12_coatOf_10 rfl ?_
    refine AW.bipushN X 6 dX12_coatOf_11 rfl ?_
    refine AW.callS X dX12_coatOf_13 lX12_90 (c_within (m := 7) (dn_s 6).symm (by decide)) rfl rfl rfl rfl ⟨rfl, rfl⟩ (pR_k ?_)
    refine AW.if_neB X (tgt := 26) dX12_coatOf_16 (by decide) (fun h16 => ?_) (fun h16 => ?_)
    · obtain ⟨w, hw, ew⟩ := inr_of (x := z) (m := 7) (by omega) h16
      subst ew
      have cw := cl_n (show w < 2147483648 by omega)
      refine AW.bipushN X 8 dX12_coatOf_26 rfl ?_
      refine AW.iload_n X dX12_coatOf_28 (i := 1) rfl rfl ?_
      refine AW.imulN X dX12_coatOf_29 ?_
      refine AW.iload_n X dX12_coatOf_30 (i := 2) rfl rfl ?_
      refine AW.iaddN X dX12_coatOf_31 ?_
      refine AW.istore X dX12_coatOf_32 rfl ?_
      refine AW.iload_n X dX12_coatOf_34 (i := 3) rfl rfl ?_
      have hsw : w = 0 ∨ w = 1 ∨ w = 2 ∨ w = 3 ∨ w = 4 ∨ w = 5 ∨ w = 6 := by omega
      rcases hsw with rfl | rfl | rfl | rfl | rfl | rfl | rfl
      · refine AW.tableIn X (tgt := 72) dX12_coatOf_35 (by decide) (by decide) rfl (by decide) ?_
        refine AW.aload_n X dX12_coatOf_72 (i := 0) rfl rfl ?_
        refine AW.getR X dX12_coatOf_73 fX12_29 rfl om0 (wm_at W 6 rfl) ?_
        refine AW.iload X dX12_coatOf_76 rfl ?_
        refine AW.iaload X dX12_coatOf_78 (am_at 6 rfl) (n2_in (by omega) (by decide)) (v := (nI (S.1 h 1 c))) (by rw [n2_clamp (by omega)]; exact tm_1 hT (by omega) (by omega)) ?_
        refine AW.iret X hQ dX12_coatOf_79 ⟨_, rfl, ?_⟩
        refine rm_val ?_ hR
        simp [S_coatOf, cOf, cls, *]
      · refine AW.tableIn X (tgt := 80) dX12_coatOf_35 (by decide) (by decide) rfl (by decide) ?_
        refine AW.aload_n X dX12_coatOf_80 (i := 0) rfl rfl ?_
        refine AW.getR X dX12_coatOf_81 fX12_32 rfl om0 (wm_at W 7 rfl) ?_
        refine AW.iload X dX12_coatOf_84 rfl ?_
        refine AW.iaload X dX12_coatOf_86 (am_at 7 rfl) (n2_in (by omega) (by decide)) (v := (nI (S.1 h 2 c))) (by rw [n2_clamp (by omega)]; exact tm_2 hT (by omega) (by omega)) ?_
        refine AW.iret X hQ dX12_coatOf_87 ⟨_, rfl, ?_⟩
        refine rm_val ?_ hR
        simp [S_coatOf, cOf, cls, *]
      · refine AW.tableIn X (tgt := 88) dX12_coatOf_35 (by decide) (by decide) rfl (by decide) ?_
        refine AW.aload_n X dX12_coatOf_88 (i := 0) rfl rfl ?_
        refine AW.getR X dX12_coatOf_89 fX12_35 rfl om0 (wm_at W 8 rfl) ?_
        refine AW.iload X dX12_coatOf_92 rfl ?_
        refine AW.iaload X dX12_coatOf_94 (am_at 8 rfl) (n2_in (by omega) (by decide)) (v := (nI (S.1 h 3 c))) (by rw [n2_clamp (by omega)]; exact tm_3 hT (by omega) (by omega)) ?_
        refine AW.iret X hQ dX12_coatOf_95 ⟨_, rfl, ?_⟩
        refine rm_val ?_ hR
        simp [S_coatOf, cOf, cls, *]
      · refine AW.tableIn X (tgt := 96) dX12_coatOf_35 (by decide) (by decide) rfl (by decide) ?_
        refine AW.aload_n X dX12_coatOf_96 (i := 0) rfl rfl ?_
        refine AW.getR X dX12_coatOf_97 fX12_38 rfl om0 (wm_at W 9 rfl) ?_
        refine AW.iload X dX12_coatOf_100 rfl ?_
        refine AW.iaload X dX12_coatOf_102 (am_at 9 rfl) (n2_in (by omega) (by decide)) (v := (nI (S.1 h 4 c))) (by rw [n2_clamp (by omega)]; exact tm_4 hT (by omega) (by omega)) ?_
        refine AW.iret X hQ dX12_coatOf_103 ⟨_, rfl, ?_⟩
        refine rm_val ?_ hR
        simp [S_coatOf, cOf, cls, *]
      · refine AW.tableIn X (tgt := 104) dX12_coatOf_35 (by decide) (by decide) rfl (by decide) ?_
        refine AW.aload_n X dX12_coatOf_104 (i := 0) rfl rfl ?_
        refine AW.getR X dX12_coatOf_105 fX12_41 rfl om0 (wm_at W 10 rfl) ?_
        refine AW.iload X dX12_coatOf_108 rfl ?_
        refine AW.iaload X dX12_coatOf_110 (am_at 10 rfl) (n2_in (by omega) (by decide)) (v := (nI (S.1 h 5 c))) (by rw [n2_clamp (by omega)]; exact tm_5 hT (by omega) (by omega)) ?_
        refine AW.iret X hQ dX12_coatOf_111 ⟨_, rfl, ?_⟩
        refine rm_val ?_ hR
        simp [S_coatOf, cOf, cls, *]
      · refine AW.tableIn X (tgt := 112) dX12_coatOf_35 (by decide) (by decide) rfl (by decide) ?_
        refine AW.aload_n X dX12_coatOf_112 (i := 0) rfl rfl ?_
        refine AW.iload_n X dX12_coatOf_113 (i := 1) rfl rfl ?_
        refine AW.iload_n X dX12_coatOf_114 (i := 2) rfl rfl ?_
        refine AW.callV X dX12_coatOf_115 lX12_125 cfX12 (c_X12_strength W hT (by omega) (by omega)) om0 rfl rfl rfl rfl ⟨rfl, rfl⟩ (pR_k ?_)
        refine AW.iret X hQ dX12_coatOf_118 ⟨_, rfl, ?_⟩
        refine rm_val ?_ hR
        simp [S_coatOf, cOf, cls, *]
      · refine AW.tableOut X (tgt := 119) dX12_coatOf_35 (by decide) (by decide) ?_
        refine AW.iconstN X 0 dX12_coatOf_119 rfl ?_
        refine AW.istore X dX12_coatOf_120 rfl ?_
        refine AW.iconstN X 0 dX12_coatOf_122 rfl ?_
        refine AW.istore X dX12_coatOf_123 rfl ?_
        have L125 : ∀ (m125 ix : Nat), 12 - ix < m125 → ix ≤ 12 → AW κ (δ, b, NM, 7, shM, False, Qc, 0, 0) NM 0 0 125 [some (.ref (b + 0)), some (.int (nI h)), some (.int (nI c)), some (.int (nI 6)), some (.int (nI ((8 * h) + c))), some (.int (nI (cellsTo (S.1 h) c ix))), some (.int (nI ix))] [] μ := by
          intro m125
          induction m125 with
          | zero => intro ix hm; exact absurd hm (Nat.not_lt_zero _)
          | succ m125 ih125 =>
            intro ix hm125 hi125 
            refine AW.iload X dX12_coatOf_125 rfl ?_
            refine AW.bipushN X 12 dX12_coatOf_127 rfl ?_
            refine AW.icmp_geN X (tgt := 161) dX12_coatOf_129 (by decide) (by omega) (by omega) (fun h129 => ?_) (fun h129 => ?_)
            · obtain rfl : 12 = ix := by omega
              have n129 := Nat.not_lt_of_le h129
              refine AW.iload X dX12_coatOf_161 rfl ?_
              refine AW.iret X hQ dX12_coatOf_163 ⟨_, rfl, ?_⟩
              refine rm_val ?_ hR
              simp [S_coatOf, cOf, cls, *]
            · have n129 := Nat.not_le_of_lt h129
              refine AW.aload_n X dX12_coatOf_132 (i := 0) rfl rfl ?_
              refine AW.iload_n X dX12_coatOf_133 (i := 1) rfl rfl ?_
              refine AW.iload X dX12_coatOf_134 rfl ?_
              refine AW.callV X dX12_coatOf_136 lX12_152 cfX12 (c_X12_lies W hT (by omega) (by omega)) om0 rfl rfl rfl rfl ⟨rfl, rfl⟩ (pR_k ?_)
              have by_ := lyN hIh ix
              refine AW.iload_n X dX12_coatOf_139 (i := 2) rfl rfl ?_
              refine AW.callS X dX12_coatOf_140 lX12_155 (c_X12_has (by omega) (by omega)) rfl rfl rfl rfl ⟨rfl, rfl⟩ (pR_k ?_)
              refine AW.if_eqB X (tgt := 155) dX12_coatOf_143 (by decide) (fun h143 => ?_) (fun h143 => ?_)
              · refine AW.iincN X (c := (ix + 1)) dX12_coatOf_155 rfl (inc_1 _) rfl ?_
                refine AW.goto X (tgt := 125) dX12_coatOf_158 (by decide) ?_
                refine AW.cgw (ih125 (ix + 1) (by omega) (by omega)) ⟨rfl, rfl, rfl, rfl, rfl, ?_, rfl, trivial⟩
                · simp [cells_l _ _ hc, *]
              · refine AW.iload X dX12_coatOf_146 rfl ?_
                refine AW.iconstN X 1 dX12_coatOf_148 rfl ?_
                refine AW.iload X dX12_coatOf_149 rfl ?_
                refine AW.shl1 X dX12_coatOf_151 (by omega) ?_
                refine AW.iorN X dX12_coatOf_152 ?_
                refine AW.istore X dX12_coatOf_153 rfl ?_
                refine AW.iincN X (c := (ix + 1)) dX12_coatOf_155 rfl (inc_1 _) rfl ?_
                refine AW.goto X (tgt := 125) dX12_coatOf_158 (by decide) ?_
                refine AW.cgw (ih125 (ix + 1) (by omega) (by omega)) ⟨rfl, rfl, rfl, rfl, rfl, ?_, rfl, trivial⟩
                · simp [cells_l _ _ hc, *]
        refine AW.cgw (L125 _ 0 (Nat.lt_succ_self _) (by omega)) ⟨rfl, rfl, rfl, rfl, rfl, ?_, rfl, trivial⟩
        · simp [cellsTo]
    · refine AW.aload_n X dX12_coatOf_19 (i := 0) rfl rfl ?_
      refine AW.bipush X (v := -5) dX12_coatOf_20 rfl ?_
      refine AW.callV X dX12_coatOf_22 lX12_98 cfX12 (c_X12_no (k := 5) hR (by decide) (by decide)) om0 rfl rfl rfl rfl ⟨rfl, rfl⟩ (pI_k fun r μ1 hr => ?_)
      refine AW.iret X hQ dX12_coatOf_25 ⟨_, rfl, ?_⟩
      refine rm_of ?_ hr
      simp [S_coatOf, *]
def nhM (μ : Mm) (m k a : Nat) : Mm := wI (bareM (wI (wI μ 4 m (nI k)) 5 m (nI a)) m 12) 0 3 (nI (m + 1))
theorem tmx_build {μ : Mm} {τ : Tt} {k a : Nat} (q : TMX μ τ) (hk : k < 7) (ha : a ≤ 9) (hn : τ 6 0 0 < 6) : TMX (nhM μ (τ 6 0 0) k a) (buildT τ k a) := by
  have e6 : ∀ j i, ¬ (j = 0 ∧ i = 0) → buildT τ k a 6 j i = τ 6 j i := fun j i z => by simp only [buildT, upV, if_true, if_neg z]
  have e0 : buildT τ k a 6 0 0 = τ 6 0 0 + 1 := by simp [buildT, upV]
  have eh : ∀ h, h < 6 → buildT τ k a h = upH τ (τ 6 0 0) (newV k a) h := fun h z => if_neg (by omega)
  have w0 : ∀ i, i ≠ 3 → (nhM μ (τ 6 0 0) k a).1 0 i = μ.1 0 i := fun i hi => by simp [nhM, bareM, wI, hi]
  have w1 : ∀ o i, 13 ≤ o → (nhM μ (τ 6 0 0) k a).1 o i = μ.1 o i := fun o i ho => by
    have h1 : ¬ o = 0 := by omega
    have h2 : ¬ o = 4 := by omega
    have h3 : ¬ o = 5 := by omega
    have h4 : ¬ o = 6 := by omega
    have h5 : ¬ o = 12 := by omega
    simp [nhM, bareM, wI, h1, h2, h3, h4, h5]
  have sm : SmM (fun o i => HPl (τ 6 0 0) o i ∨ (o = 0 ∧ i = 3)) μ (nhM μ (τ 6 0 0) k a) := by
    refine SmM.trn (SmM.trn (SmM.trn (SmM.w (Or.inl (Or.inl ⟨by omega, rfl⟩))) (SmM.w (Or.inl (Or.inl ⟨by omega, rfl⟩)))) ((bare_sm (Nat.le_refl 12)).mono (fun _ _ z => Or.inl z))) (SmM.w (Or.inr ⟨rfl, rfl⟩))
  have nb : HMX (nhM μ (τ 6 0 0) k a) (τ 6 0 0) (newV k a) := by
    refine ⟨hi_new hk ha, ⟨?_, ?_, ?_⟩, fun c hc => absurd hc (Nat.not_lt_zero c), fun i hi => ?_⟩
    · simp [nhM, bareM, wI, newV]
    · simp [nhM, bareM, wI, newV]
    · simp [nhM, bareM, wI, newV]
    · show (if 12 = 0 ∧ 12 * τ 6 0 0 + i = 3 then nI (τ 6 0 0 + 1) else if 12 = 6 ∧ 12 * τ 6 0 0 + i = τ 6 0 0 then nI 0 else if 12 = 12 ∧ 12 * τ 6 0 0 ≤ 12 * τ 6 0 0 + i ∧ 12 * τ 6 0 0 + i < 12 * τ 6 0 0 + 12 then nI 0 else (wI (wI μ 4 (τ 6 0 0) (nI k)) 5 (τ 6 0 0) (nI a)).1 12 (12 * τ 6 0 0 + i)) = nI 0
      rw [if_neg (by omega), if_neg (by omega), if_pos (by omega)]
  refine ⟨⟨by rw [e0]; omega, by rw [e6 0 1 (by omega)]; exact q.1.2.1, by rw [e6 0 2 (by omega)]; exact q.1.2.2.1, fun c hc => by rw [e6 1 c (by omega), e6 2 c (by omega)]; exact q.1.2.2.2.1 c hc, fun h hh => ?_⟩, ⟨by rw [e0]; simp [nhM, wI], by rw [e6 0 1 (by omega), w0 15 (by decide)]; exact q.2.1.2.1, by rw [e6 0 2 (by omega), w0 16 (by decide)]; exact q.2.1.2.2.1, by rw [e6 0 3 (by omega), w0 17 (by decide)]; exact q.2.1.2.2.2.1, by rw [e6 0 4 (by omega), w0 18 (by decide)]; exact q.2.1.2.2.2.2.1, by rw [e6 0 5 (by omega), w0 19 (by decide)]; exact q.2.1.2.2.2.2.2⟩, fun c hc => by rw [e6 1 c (by omega), e6 2 c (by omega), w1 13 c (by decide), w1 14 c (by decide)]; exact q.2.2.1 c hc, fun h hh => ?_⟩
  · rw [e0] at hh
    rw [eh h (by omega)]
    by_cases z : h = τ 6 0 0
    · rw [upH, if_pos z]; exact nb.1
    · rw [upH, if_neg z]; exact q.1.2.2.2.2 h (by omega)
  · rw [e0] at hh
    rw [eh h (by omega)]
    by_cases z : h = τ 6 0 0
    · rw [z, upH, if_pos rfl]; exact nb
    · rw [upH, if_neg z]
      exact hmx_same (q.2.2.2 h (by omega)) sm (fun o i a c => by unfold HPl at a c; omega)
theorem nh_tp {μ : Mm} {m k a : Nat} : SmM TPl μ (nhM μ m k a) :=
  SmM.trn (SmM.trn (SmM.trn (SmM.w (Or.inl ⟨by decide, by decide⟩)) (SmM.w (Or.inl ⟨by decide, by decide⟩))) ((bare_sm (Nat.le_refl 12)).mono (fun _ _ z => hpl_t z))) (SmM.w (Or.inr ⟨rfl, Or.inl rfl⟩))
set_option maxRecDepth 100000 in
set_option maxHeartbeats 4000000 in
theorem c_X12_newHouse {l : Launch} {δ : Dl} {b : Nat} {μ : Mm} (W : WM μ.2.2) {τ : Tt} (hT : TMX μ τ) {k a : Nat} (hn6 : τ 6 0 0 < 6)  : MCM l δ b yX12_newHouse cX12_newHouse 3 (some .int) 2 [.ref (b + 0), .int (nI k), .int (nI a)] μ (pI fun r μ' => r = nI (τ 6 0 0) ∧ μ' = nhM μ (τ 6 0 0) k a) := by
  have bn := ti_n hT.1
  refine MC.intro ([some (.ref (b + 0)), some (.int (nI k)), some (.int (nI a))]) (by decide) rfl rfl fun κ Qc hl hQ X => ?_
  subst hl
  refine AW.aload_n X dX12_newHouse_0 (i := 0) rfl rfl ?_
  refine AW.getR X dX12_newHouse_1 fX12_20 rfl om0 (wm_at W 3 rfl) ?_
  refine AW.aload_n X dX12_newHouse_4 (i := 0) rfl rfl ?_
  refine AW.getI X dX12_newHouse_5 fX12_87 rfl om0 (v := (nI (τ 6 0 0))) (by first | exact tm_0 hT | (simp [wI, bareM]; exact tm_0 hT)) ?_
  refine AW.iload_n X dX12_newHouse_8 (i := 1) rfl rfl ?_
  refine AW.iastore X dX12_newHouse_9 (by decide) (am_at 3 rfl) (n2_in (by omega) (by decide)) ?_
  rw [n2_clamp (by omega)]
  refine AW.aload_n X dX12_newHouse_10 (i := 0) rfl rfl ?_
  refine AW.getR X dX12_newHouse_11 fX12_23 rfl om0 (wm_at W 4 rfl) ?_
  refine AW.aload_n X dX12_newHouse_14 (i := 0) rfl rfl ?_
  refine AW.getI X dX12_newHouse_15 fX12_87 rfl om0 (v := (nI (τ 6 0 0))) (by first | exact tm_0 hT | (simp [wI, bareM]; exact tm_0 hT)) ?_
  refine AW.iload_n X dX12_newHouse_18 (i := 2) rfl rfl ?_
  refine AW.iastore X dX12_newHouse_19 (by decide) (am_at 4 rfl) (n2_in (by omega) (by decide)) ?_
  rw [n2_clamp (by omega)]
  refine AW.aload_n X dX12_newHouse_20 (i := 0) rfl rfl ?_
  refine AW.aload_n X dX12_newHouse_21 (i := 0) rfl rfl ?_
  refine AW.getI X dX12_newHouse_22 fX12_87 rfl om0 (v := (nI (τ 6 0 0))) (by first | exact tm_0 hT | (simp [wI, bareM]; exact tm_0 hT)) ?_
  refine AW.callV X dX12_newHouse_25 lX12_129 cfX12 (c_X12_bare (μ := wI (wI μ 4 (τ 6 0 0) (nI k)) 5 (τ 6 0 0) (nI a)) W (by omega)) om0 rfl rfl rfl rfl ⟨rfl, rfl⟩ (pV_k fun μb hb => ?_)
  subst hb
  refine AW.aload_n X dX12_newHouse_28 (i := 0) rfl rfl ?_
  refine AW.dup X dX12_newHouse_29 rfl ?_
  refine AW.getI X dX12_newHouse_30 fX12_87 rfl om0 (v := (nI (τ 6 0 0))) (by first | exact tm_0 hT | (simp [wI, bareM]; exact tm_0 hT)) ?_
  refine AW.dup_x1 X dX12_newHouse_33 rfl rfl ?_
  refine AW.iconstN X 1 dX12_newHouse_34 rfl ?_
  refine AW.iaddN X dX12_newHouse_35 ?_
  refine AW.putI X dX12_newHouse_36 fX12_87 rfl rfl ⟨rfl, rfl⟩ (by decide) om0 ?_
  refine AW.iret X hQ dX12_newHouse_39 ⟨_, rfl, ?_⟩
  exact ⟨rfl, rfl⟩
theorem not_inr {x : Int32} {m : Nat} (hm : m + 1 < 2147483648) (h : inr x (m + 1) = false) : x < 0 ∨ nI m < x := by
  by_cases q : x < 0
  · exact Or.inl q
  · obtain ⟨j, hj, rfl⟩ := nI_of q
    rw [inr_n hj (by omega)] at h
    have := of_decide_eq_false h
    exact Or.inr ((n2_lt (by omega) hj).mpr (by omega))
set_option maxRecDepth 100000 in
set_option maxHeartbeats 4000000 in
theorem c_X12_house {l : Launch} {δ : Dl} {b : Nat} {μ : Mm} {S : St} (hR : RMX μ S) {x : Int32} {y : Int32} : MCM l δ b yX12_house cX12_house 3 (some .int) 3 [.ref (b + 0), .int x, .int y] μ (pI fun r μ' => r = (S_house S x y).1 ∧ RMX μ' (S_house S x y).2) := by
  have hT := rm_t hR
  have W := rm_w hR
  have bn := ti_n hT.1
  refine MC.intro ([some (.ref (b + 0)), some (.int x), some (.int y)]) (by decide) rfl rfl fun κ Qc hl hQ X => ?_
  subst hl
  refine AW.iload_n X dX12_house_0 (i := 1) rfl rfl ?_
  refine AW.iconstN X 0 dX12_house_1 rfl ?_
  refine AW.bipushN X 6 dX12_house_2 rfl ?_
  refine AW.callS X dX12_house_4 lX12_90 (c_within (m := 7) (dn_s 6).symm (by decide)) rfl rfl rfl rfl ⟨rfl, rfl⟩ (pR_k ?_)
  refine AW.if_neB X (tgt := 16) dX12_house_7 (by decide) (fun h7 => ?_) (fun h7 => ?_)
  · obtain ⟨k, hk, ek⟩ := inr_of (x := x) (m := 7) (by omega) h7
    subst ek
    have ck := cl_n (show k < 2147483648 by omega)
    refine AW.iload_n X dX12_house_16 (i := 2) rfl rfl ?_
    refine AW.iconstN X 0 dX12_house_17 rfl ?_
    refine AW.bipushN X 9 dX12_house_18 rfl ?_
    refine AW.callS X dX12_house_20 lX12_90 (c_within (m := 10) (dn_s 9).symm (by decide)) rfl rfl rfl rfl ⟨rfl, rfl⟩ (pR_k ?_)
    refine AW.if_neB X (tgt := 33) dX12_house_23 (by decide) (fun h23 => ?_) (fun h23 => ?_)
    · obtain ⟨a, ha, ea⟩ := inr_of (x := y) (m := 10) (by omega) h23
      subst ea
      have ca := cl_n (show a < 2147483648 by omega)
      have g23 : ¬ nI a < 0 := pos_n (by omega)
      have k23 : ¬ nI 9 < nI a := by rw [n2_lt (by decide) (by omega)]; omega
      refine AW.aload_n X dX12_house_33 (i := 0) rfl rfl ?_
      refine AW.getI X dX12_house_34 fX12_87 rfl om0 (tm_0 hT) ?_
      refine AW.bipushN X 6 dX12_house_37 rfl ?_
      refine AW.icmp_neN X (tgt := 51) dX12_house_39 (by decide) (by omega) (by omega) (fun h39 => ?_) (fun h39 => ?_)
      · have g39 : ¬ 6 ≤ S.1 6 0 0 := by omega
        refine AW.aload_n X dX12_house_51 (i := 0) rfl rfl ?_
        refine AW.iload_n X dX12_house_52 (i := 1) rfl rfl ?_
        refine AW.iload_n X dX12_house_53 (i := 2) rfl rfl ?_
        refine AW.callV X dX12_house_54 lX12_133 cfX12 (c_X12_newHouse W hT (by omega)) om0 rfl rfl rfl rfl ⟨rfl, rfl⟩ (pI_k fun rb μb hb => ?_)
        refine AW.iret X hQ dX12_house_57 ⟨_, rfl, ?_⟩
        obtain ⟨rfl, rfl⟩ := hb
        have f := tmx_build (k := k) (a := a) hT hk (by omega) (by omega)
        exact rm_val (by simp [S_house, *]) (rm_town hR nh_tp f (by simp [buildT, upV]))
      · have g39 : 6 ≤ S.1 6 0 0 := by omega
        refine AW.aload_n X dX12_house_42 (i := 0) rfl rfl ?_
        refine AW.bipush X (v := -7) dX12_house_43 rfl ?_
        refine AW.callV X dX12_house_45 lX12_98 cfX12 (c_X12_no (k := 7) hR (by decide) (by decide)) om0 rfl rfl rfl rfl ⟨rfl, rfl⟩ (pI_k fun r μ1 hr => ?_)
        refine AW.goto X (tgt := 57) dX12_house_48 (by decide) ?_
        refine AW.iret X hQ dX12_house_57 ⟨_, rfl, ?_⟩
        refine rm_of ?_ hr
        simp [S_house, *]
    · have g23 := not_inr (m := 9) (by decide) h23
      refine AW.aload_n X dX12_house_26 (i := 0) rfl rfl ?_
      refine AW.bipush X (v := -6) dX12_house_27 rfl ?_
      refine AW.callV X dX12_house_29 lX12_98 cfX12 (c_X12_no (k := 6) hR (by decide) (by decide)) om0 rfl rfl rfl rfl ⟨rfl, rfl⟩ (pI_k fun r μ1 hr => ?_)
      refine AW.iret X hQ dX12_house_32 ⟨_, rfl, ?_⟩
      refine rm_of ?_ hr
      simp [S_house, *]
  · refine AW.aload_n X dX12_house_10 (i := 0) rfl rfl ?_
    refine AW.iconst X (v := -1) dX12_house_11 rfl ?_
    refine AW.callV X dX12_house_12 lX12_98 cfX12 (c_X12_no (k := 1) hR (by decide) (by decide)) om0 rfl rfl rfl rfl ⟨rfl, rfl⟩ (pI_k fun r μ1 hr => ?_)
    refine AW.iret X hQ dX12_house_15 ⟨_, rfl, ?_⟩
    refine rm_of ?_ hr
    simp [S_house, *]
set_option maxRecDepth 100000 in
set_option maxHeartbeats 4000000 in
theorem c_X12_seed {l : Launch} {δ : Dl} {b : Nat} {μ : Mm} {S : St} (hR : RMX μ S) {x : Int32} : MCM l δ b yX12_seed cX12_seed 3 (some .int) 1 [.ref (b + 0), .int x] μ (pI fun r μ' => r = (S_seed S x).1 ∧ RMX μ' (S_seed S x).2) := by
  have hT := rm_t hR
  have W := rm_w hR
  have bn := ti_n hT.1
  refine MC.intro ([some (.ref (b + 0)), some (.int x), none]) (by decide) rfl rfl fun κ Qc hl hQ X => ?_
  subst hl
  refine AW.aload_n X dX12_seed_0 (i := 0) rfl rfl ?_
  refine AW.getI X dX12_seed_1 fX12_81 rfl om0 (tm_s hT) ?_
  refine AW.istore_n X dX12_seed_4 (i := 2) rfl rfl ?_
  refine AW.aload_n X dX12_seed_5 (i := 0) rfl rfl ?_
  refine AW.iload_n X dX12_seed_6 (i := 1) rfl rfl ?_
  refine AW.putI X dX12_seed_7 fX12_81 rfl rfl ⟨rfl, rfl⟩ (by decide) om0 ?_
  refine AW.iload_n X dX12_seed_10 (i := 2) rfl rfl ?_
  refine AW.iret X hQ dX12_seed_11 ⟨_, rfl, ?_⟩
  have f := tmx_num hT 5 x.toUInt32.toNat (by decide) (by decide)
  rw [nI_raw] at f
  exact rm_val (by simp [S_seed]) (rm_town hR (SmM.w (Or.inr ⟨rfl, Or.inr ⟨by decide, by decide⟩⟩)) f (by rw [upS_6]; simp))
set_option maxRecDepth 100000 in
set_option maxHeartbeats 4000000 in
theorem c_X12_coat {l : Launch} {δ : Dl} {b : Nat} {μ : Mm} {S : St} (hR : RMX μ S) {x : Int32} {y : Int32} {z : Int32} {u : Int32} {w : Int32} : MCM l δ b yX12_coat cX12_coat 6 (some .int) 3 [.ref (b + 0), .int x, .int y, .int z, .int u, .int w] μ (pI fun r μ' => r = (S_coat S x y z u w).1 ∧ RMX μ' (S_coat S x y z u w).2) := by
  have hT := rm_t hR
  have W := rm_w hR
  have bn := ti_n hT.1
  refine MC.intro ([some (.ref (b + 0)), some (.int x), some (.int y), some (.int z), some (.int u), some (.int w)]) (by decide) rfl rfl fun κ Qc hl hQ X => ?_
  subst hl
  refine AW.aload_n X dX12_coat_0 (i := 0) rfl rfl ?_
  refine AW.iload_n X dX12_coat_1 (i := 1) rfl rfl ?_
  refine AW.callV X dX12_coat_2 lX12_94 cfX12 (c_X12_isHouse W hT) om0 rfl rfl rfl rfl ⟨rfl, rfl⟩ (pR_k ?_)
  refine AW.if_eqB X (tgt := 27) dX12_coat_5 (by decide) (fun h5 => ?_) (fun h5 => ?_)
  · refine AW.aload_n X dX12_coat_27 (i := 0) rfl rfl ?_
    refine AW.iconst X (v := -1) dX12_coat_28 rfl ?_
    refine AW.callV X dX12_coat_29 lX12_98 cfX12 (c_X12_no (k := 1) hR (by decide) (by decide)) om0 rfl rfl rfl rfl ⟨rfl, rfl⟩ (pI_k fun r μ1 hr => ?_)
    refine AW.iret X hQ dX12_coat_32 ⟨_, rfl, ?_⟩
    refine rm_of ?_ hr
    simp [S_coat, *]
  · obtain ⟨h, hh, eh⟩ := inr_of (x := x) (m := (S.1 6 0 0)) (by omega) h5
    subst eh
    have ch := cl_n (show h < 2147483648 by omega)
    have hIh := tm_hi hT hh
    have bnh := hi_n hIh
    have bah := hi_a hIh
    refine AW.iload_n X dX12_coat_8 (i := 2) rfl rfl ?_
    refine AW.iconstN X 0 dX12_coat_9 rfl ?_
    refine AW.bipushN X 7 dX12_coat_10 rfl ?_
    refine AW.callS X dX12_coat_12 lX12_90 (c_within (m := 8) (dn_s 7).symm (by decide)) rfl rfl rfl rfl ⟨rfl, rfl⟩ (pR_k ?_)
    refine AW.if_eqB X (tgt := 27) dX12_coat_15 (by decide) (fun h15 => ?_) (fun h15 => ?_)
    · refine AW.aload_n X dX12_coat_27 (i := 0) rfl rfl ?_
      refine AW.iconst X (v := -1) dX12_coat_28 rfl ?_
      refine AW.callV X dX12_coat_29 lX12_98 cfX12 (c_X12_no (k := 1) hR (by decide) (by decide)) om0 rfl rfl rfl rfl ⟨rfl, rfl⟩ (pI_k fun r μ1 hr => ?_)
      refine AW.iret X hQ dX12_coat_32 ⟨_, rfl, ?_⟩
      refine rm_of ?_ hr
      simp [S_coat, *]
    · obtain ⟨t, ht, et⟩ := inr_of (x := y) (m := 8) (by omega) h15
      subst et
      have ct := cl_n (show t < 2147483648 by omega)
      refine AW.iload_n X dX12_coat_18 (i := 3) rfl rfl ?_
      refine AW.iconstN X 0 dX12_coat_19 rfl ?_
      refine AW.iconstN X 5 dX12_coat_20 rfl ?_
      refine AW.callS X dX12_coat_21 lX12_90 (c_within (m := 6) (dn_s 5).symm (by decide)) rfl rfl rfl rfl ⟨rfl, rfl⟩ (pR_k ?_)
      refine AW.if_neB X (tgt := 33) dX12_coat_24 (by decide) (fun h24 => ?_) (fun h24 => ?_)
      · obtain ⟨c, hc, ec⟩ := inr_of (x := z) (m := 6) (by omega) h24
        subst ec
        have cc := cl_n (show c < 2147483648 by omega)
        refine AW.iload X dX12_coat_33 rfl ?_
        refine AW.iconstN X 1 dX12_coat_35 rfl ?_
        refine AW.bipushN X 9 dX12_coat_36 rfl ?_
        refine AW.callS X dX12_coat_38 lX12_90 (c_X12_within) rfl rfl rfl rfl ⟨rfl, rfl⟩ (pR_k ?_)
        refine AW.if_eqB X (tgt := 52) dX12_coat_41 (by decide) (fun h41 => ?_) (fun h41 => ?_)
        · have g41 : u < nI 1 ∨ nI 9 < u := by have := of_decide_eq_false h41; by_cases q : u < nI 1; exact Or.inl q; exact Or.inr (Classical.byContradiction (fun z => this ⟨q, z⟩))
          refine AW.aload_n X dX12_coat_52 (i := 0) rfl rfl ?_
          refine AW.bipush X (v := -6) dX12_coat_53 rfl ?_
          refine AW.callV X dX12_coat_55 lX12_98 cfX12 (c_X12_no (k := 6) hR (by decide) (by decide)) om0 rfl rfl rfl rfl ⟨rfl, rfl⟩ (pI_k fun r μ1 hr => ?_)
          refine AW.iret X hQ dX12_coat_58 ⟨_, rfl, ?_⟩
          refine rm_of ?_ hr
          rcases g41 with z | z <;> simp [S_coat, *]
        · obtain ⟨hA1, hA2⟩ := of_decide_eq_true h41
          obtain ⟨v, hv, ev, lv⟩ := ge_of (by decide) hA1
          subst ev
          have cv := cl_n (show v < 2147483648 by omega)
          have g9 := hA2
          rw [n2_lt (by decide) hv] at hA2
          have g8 := hA1
          refine AW.iload X dX12_coat_44 rfl ?_
          refine AW.callS X dX12_coat_46 lX12_142 (c_X12_isCell) rfl rfl rfl rfl ⟨rfl, rfl⟩ (pR_k ?_)
          refine AW.if_neB X (tgt := 59) dX12_coat_49 (by decide) (fun h49 => ?_) (fun h49 => ?_)
          · obtain ⟨gq, hgq, egq⟩ := inr_of (x := w) (m := 12) (by omega) h49
            subst egq
            have cgq := cl_n (show gq < 2147483648 by omega)
            refine AW.aload_n X dX12_coat_59 (i := 0) rfl rfl ?_
            refine AW.getR X dX12_coat_60 fX12_26 rfl om0 (wm_at W 5 rfl) ?_
            refine AW.iload_n X dX12_coat_63 (i := 1) rfl rfl ?_
            refine AW.iaload X dX12_coat_64 (am_at 5 rfl) (n2_in (by omega) (by decide)) (v := (nI (S.1 h 0 2))) (by rw [n2_clamp (by omega)]; exact tm_n hT (by omega)) ?_
            refine AW.bipushN X 8 dX12_coat_65 rfl ?_
            refine AW.icmp_neN X (tgt := 79) dX12_coat_67 (by decide) (by omega) (by omega) (fun h67 => ?_) (fun h67 => ?_)
            · have g67 : ¬ 8 ≤ S.1 h 0 2 := by omega
              refine AW.aload_n X dX12_coat_79 (i := 0) rfl rfl ?_
              refine AW.iload_n X dX12_coat_80 (i := 1) rfl rfl ?_
              refine AW.iload_n X dX12_coat_81 (i := 2) rfl rfl ?_
              refine AW.iload_n X dX12_coat_82 (i := 3) rfl rfl ?_
              refine AW.iload X dX12_coat_83 rfl ?_
              refine AW.iload X dX12_coat_85 rfl ?_
              refine AW.callV X dX12_coat_87 lX12_145 cfX12 (c_X12_paints W hT hh (by omega)) om0 rfl rfl rfl rfl ⟨rfl, rfl⟩ (pI_k fun rp μp hp => ?_)
              refine AW.iret X hQ dX12_coat_90 ⟨_, rfl, ?_⟩
              obtain ⟨rfl, rfl⟩ := hp
              have f := tmx_up hT (by omega) (pm_sm (t := t) (c := c) (th := v) (g := gq) (y := S.1 6 0 3) (by omega)) (hmx_put (S.1 6 0 3) (tm_h hT hh) (by omega) ht hc (by omega) (by omega) hgq)
              exact rm_val (by simp [S_coat, *]) (rm_town hR ((pm_sm (by omega)).mono (fun _ _ z => hpl_t z)) f (by rw [upH_6 (by omega)]; exact Nat.le_refl _))
            · have g67 : 8 ≤ S.1 h 0 2 := by omega
              refine AW.aload_n X dX12_coat_70 (i := 0) rfl rfl ?_
              refine AW.bipush X (v := -7) dX12_coat_71 rfl ?_
              refine AW.callV X dX12_coat_73 lX12_98 cfX12 (c_X12_no (k := 7) hR (by decide) (by decide)) om0 rfl rfl rfl rfl ⟨rfl, rfl⟩ (pI_k fun r μ1 hr => ?_)
              refine AW.goto X (tgt := 90) dX12_coat_76 (by decide) ?_
              refine AW.iret X hQ dX12_coat_90 ⟨_, rfl, ?_⟩
              refine rm_of ?_ hr
              simp [S_coat, *]
          · refine AW.aload_n X dX12_coat_52 (i := 0) rfl rfl ?_
            refine AW.bipush X (v := -6) dX12_coat_53 rfl ?_
            refine AW.callV X dX12_coat_55 lX12_98 cfX12 (c_X12_no (k := 6) hR (by decide) (by decide)) om0 rfl rfl rfl rfl ⟨rfl, rfl⟩ (pI_k fun r μ1 hr => ?_)
            refine AW.iret X hQ dX12_coat_58 ⟨_, rfl, ?_⟩
            refine rm_of ?_ hr
            simp [S_coat, *]
      · refine AW.aload_n X dX12_coat_27 (i := 0) rfl rfl ?_
        refine AW.iconst X (v := -1) dX12_coat_28 rfl ?_
        refine AW.callV X dX12_coat_29 lX12_98 cfX12 (c_X12_no (k := 1) hR (by decide) (by decide)) om0 rfl rfl rfl rfl ⟨rfl, rfl⟩ (pI_k fun r μ1 hr => ?_)
        refine AW.iret X hQ dX12_coat_32 ⟨_, rfl, ?_⟩
        refine rm_of ?_ hr
        simp [S_coat, *]
