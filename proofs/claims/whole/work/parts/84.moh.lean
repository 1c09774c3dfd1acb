def abv (k : Nat) : Nat := if k = 3 then 1 else if 4 < k then 2 else 0
theorem abv_lt : ∀ k, k < 7 → 0 < k → abv k < k := by decide
theorem abv_un : ∀ k, k < 7 → ∀ w, w < 7 → k ≠ w → 0 < k → under k w = under (abv k) w := by decide
theorem un_self : ∀ k, k < 7 → under k k = true := by decide
theorem un_zero : ∀ w, w < 7 → 0 ≠ w → under 0 w = false := by decide
set_option maxRecDepth 100000 in
set_option maxHeartbeats 4000000 in
theorem c_X12_above {l : Launch} {δ : Dl} {b : Nat} {μ : Mm} {ix : Nat} (hi : ix < 7) : MCM l δ b yX12_above cX12_above 1 (some .int) 1 [.int (nI ix)] μ (pI fun r μ' => r = nI (abv ix) ∧ μ' = μ) := by
  refine MC.intro ([some (.int (nI ix))]) (by decide) rfl rfl fun κ Qc hl hQ X => ?_
  subst hl
  refine AW.iload_n X dX12_above_0 (i := 0) rfl rfl ?_
  refine AW.iconstN X 3 dX12_above_1 rfl ?_
  refine AW.icmp_neN X (tgt := 9) dX12_above_2 (by decide) (by omega) (by omega) (fun h2 => ?_) (fun h2 => ?_)
  · refine AW.iload_n X dX12_above_9 (i := 0) rfl rfl ?_
    refine AW.iconstN X 4 dX12_above_10 rfl ?_
    refine AW.icmp_leN X (tgt := 18) dX12_above_11 (by decide) (by omega) (by omega) (fun h11 => ?_) (fun h11 => ?_)
    · have n11 := Nat.not_lt_of_le h11
      refine AW.iconstN X 0 dX12_above_18 rfl ?_
      refine AW.iret X hQ dX12_above_19 ⟨_, rfl, ?_⟩
      exact ⟨congrArg nI (by simp [abv, *]), rfl⟩
    · have n11 := Nat.not_le_of_lt h11
      refine AW.iconstN X 2 dX12_above_14 rfl ?_
      refine AW.goto X (tgt := 19) dX12_above_15 (by decide) ?_
      refine AW.iret X hQ dX12_above_19 ⟨_, rfl, ?_⟩
      exact ⟨congrArg nI (by simp [abv, *]), rfl⟩
  · refine AW.iconstN X 1 dX12_above_5 rfl ?_
    refine AW.goto X (tgt := 19) dX12_above_6 (by decide) ?_
    refine AW.iret X hQ dX12_above_19 ⟨_, rfl, ?_⟩
    exact ⟨congrArg nI (by simp [abv, *]), rfl⟩
set_option maxRecDepth 100000 in
set_option maxHeartbeats 4000000 in
theorem c_X12_isUnder {l : Launch} {δ : Dl} {b : Nat} {μ : Mm} {k w : Nat} (hk : k < 7) (hw : w < 7) : MCM l δ b yX12_isUnder cX12_isUnder 3 (some .boolean) 2 [.int (nI k), .int (nI w)] μ (pI fun r μ' => r = bI (under k w) ∧ μ' = μ) := by
  refine MC.intro ([some (.int (nI k)), some (.int (nI w)), none]) (by decide) rfl rfl fun κ Qc hl hQ X => ?_
  subst hl
  refine AW.iload_n X dX12_isUnder_0 (i := 0) rfl rfl ?_
  refine AW.istore_n X dX12_isUnder_1 (i := 2) rfl rfl ?_
  have L2 : ∀ (m2 ix : Nat), ix < m2 → ix < 7 → under k w = under ix w → AW κ (δ, b, NM, 3, shM, False, Qc, 0, 0) NM 0 0 2 [some (.int (nI k)), some (.int (nI w)), some (.int (nI ix))] [] μ := by
    intro m2
    induction m2 with
    | zero => intro ix hm; exact absurd hm (Nat.not_lt_zero _)
    | succ m2 ih2 =>
      intro ix hm2 hi2 hu
      refine AW.iload_n X dX12_isUnder_2 (i := 2) rfl rfl ?_
      refine AW.iload_n X dX12_isUnder_3 (i := 1) rfl rfl ?_
      refine AW.icmp_eqN X (tgt := 19) dX12_isUnder_4 (by decide) (by omega) (by omega) (fun h4 => ?_) (fun h4 => ?_)
      · refine AW.iload_n X dX12_isUnder_19 (i := 2) rfl rfl ?_
        refine AW.iload_n X dX12_isUnder_20 (i := 1) rfl rfl ?_
        refine AW.icmp_neN X (tgt := 28) dX12_isUnder_21 (by decide) (by omega) (by omega) (fun h21 => ?_) (fun h21 => ?_)
        · refine AW.iconstN X 0 dX12_isUnder_28 rfl ?_
          refine AW.zret X rfl hQ dX12_isUnder_29 ⟨_, rfl, ?_⟩
          exact ⟨by rw [hu, show under ix w = false from (by first | (subst h4; exact un_self _ hi2) | (subst h21; exact un_self _ hi2) | (have z9 : ix = 0 := (by omega); subst z9; exact un_zero w hw (by omega)))]; rfl, rfl⟩
        · refine AW.iconstN X 1 dX12_isUnder_24 rfl ?_
          refine AW.goto X (tgt := 29) dX12_isUnder_25 (by decide) ?_
          refine AW.zret X rfl hQ dX12_isUnder_29 ⟨_, rfl, ?_⟩
          exact ⟨by rw [hu, show under ix w = true from (by first | (subst h4; exact un_self _ hi2) | (subst h21; exact un_self _ hi2) | (have z9 : ix = 0 := (by omega); subst z9; exact un_zero w hw (by omega)))]; rfl, rfl⟩
      · refine AW.iload_n X dX12_isUnder_7 (i := 2) rfl rfl ?_
        refine AW.if_leN X (tgt := 19) dX12_isUnder_8 (by decide) (by omega) (fun h8 => ?_) (fun h8 => ?_)
        · refine AW.iload_n X dX12_isUnder_19 (i := 2) rfl rfl ?_
          refine AW.iload_n X dX12_isUnder_20 (i := 1) rfl rfl ?_
          refine AW.icmp_neN X (tgt := 28) dX12_isUnder_21 (by decide) (by omega) (by omega) (fun h21 => ?_) (fun h21 => ?_)
          · refine AW.iconstN X 0 dX12_isUnder_28 rfl ?_
            refine AW.zret X rfl hQ dX12_isUnder_29 ⟨_, rfl, ?_⟩
            exact ⟨by rw [hu, show under ix w = false from (by first | (subst h4; exact un_self _ hi2) | (subst h21; exact un_self _ hi2) | (have z9 : ix = 0 := (by omega); subst z9; exact un_zero w hw (by omega)))]; rfl, rfl⟩
          · refine AW.iconstN X 1 dX12_isUnder_24 rfl ?_
            refine AW.goto X (tgt := 29) dX12_isUnder_25 (by decide) ?_
            refine AW.zret X rfl hQ dX12_isUnder_29 ⟨_, rfl, ?_⟩
            exact ⟨by rw [hu, show under ix w = true from (by first | (subst h4; exact un_self _ hi2) | (subst h21; exact un_self _ hi2) | (have z9 : ix = 0 := (by omega); subst z9; exact un_zero w hw (by omega)))]; rfl, rfl⟩
        · refine AW.iload_n X dX12_isUnder_11 (i := 2) rfl rfl ?_
          refine AW.callS X dX12_isUnder_12 lX12_108 (c_X12_above (by omega)) rfl rfl rfl rfl ⟨rfl, rfl⟩ (pR_k ?_)
          refine AW.istore_n X dX12_isUnder_15 (i := 2) rfl rfl ?_
          refine AW.goto X (tgt := 2) dX12_isUnder_16 (by decide) ?_
          refine AW.cgw (ih2 (abv ix) (by have := abv_lt ix hi2 (by omega); omega) (by have := abv_lt ix hi2 (by omega); omega) (hu.trans (abv_un ix hi2 w hw h4 (by omega)))) ⟨rfl, rfl, rfl, trivial⟩
  refine AW.cgw (L2 _ k (Nat.lt_succ_self _) hk rfl) ⟨rfl, rfl, rfl, trivial⟩
set_option maxRecDepth 100000 in
set_option maxHeartbeats 4000000 in
theorem c_X12_says {l : Launch} {δ : Dl} {b : Nat} {μ : Mm} {S : St} (hR : RMX μ S) {x : Int32} {y : Int32} : MCM l δ b yX12_says cX12_says 4 (some .int) 5 [.ref (b + 0), .int x, .int y] μ (pI fun r μ' => r = (S_says S x y).1 ∧ RMX μ' (S_says S x y).2) := by
  have hT := rm_t hR
  have W := rm_w hR
  have bn := ti_n hT.1
  refine MC.intro ([some (.ref (b + 0)), some (.int x), some (.int y), none]) (by decide) rfl rfl fun κ Qc hl hQ X => ?_
  subst hl
  refine AW.iload_n X dX12_says_0 (i := 1) rfl rfl ?_
  refine AW.iconstN X 0 dX12_says_1 rfl ?_
  refine AW.bipushN X 7 dX12_says_2 rfl ?_
  refine AW.callS X dX12_says_4 lX12_90 (c_within (m := 8) (dn_s 7).symm (by decide)) rfl rfl rfl rfl ⟨rfl, rfl⟩ (pR_k ?_)
  refine AW.if_eqB X (tgt := 20) dX12_says_7 (by decide) (fun h7 => ?_) (fun h7 => ?_)
  · refine AW.aload_n X dX12_says_20 (i := 0) rfl rfl ?_
    refine AW.iconst X (v := -1) dX12_says_21 rfl ?_
    refine AW.callV X dX12_says_22 lX12_98 cfX12 (c_X12_no (k := 1) hR (by decide) (by decide)) om0 rfl rfl rfl rfl ⟨rfl, rfl⟩ (pI_k fun r μ1 hr => ?_)
    refine AW.iret X hQ dX12_says_25 ⟨_, rfl, ?_⟩
    refine rm_of ?_ hr
    simp [S_says, saidBy, topStr, Nat.add_sub_cancel, *]
  · obtain ⟨s, hs, es⟩ := inr_of (x := x) (m := 8) (by omega) h7
    subst es
    have cs := cl_n (show s < 2147483648 by omega)
    refine AW.iload_n X dX12_says_10 (i := 2) rfl rfl ?_
    refine AW.iconstN X 0 dX12_says_11 rfl ?_
    refine AW.bipushN X 6 dX12_says_12 rfl ?_
    refine AW.callS X dX12_says_14 lX12_90 (c_within (m := 7) (dn_s 6).symm (by decide)) rfl rfl rfl rfl ⟨rfl, rfl⟩ (pR_k ?_)
    refine AW.if_neB X (tgt := 26) dX12_says_17 (by decide) (fun h17 => ?_) (fun h17 => ?_)
    · obtain ⟨k, hk, ek⟩ := inr_of (x := y) (m := 7) (by omega) h17
      subst ek
      have ck := cl_n (show k < 2147483648 by omega)
      have bk := hR.1.2.2.1 s hs
      refine AW.aload_n X dX12_says_26 (i := 0) rfl rfl ?_
      refine AW.getR X dX12_says_27 fX12_7 rfl om0 (wm_at W 0 rfl) ?_
      refine AW.iload_n X dX12_says_30 (i := 1) rfl rfl ?_
      refine AW.iaload X dX12_says_31 (am_at 0 rfl) (n2_in (by omega) (by decide)) (v := (dn (kk S 0 s))) (by rw [n2_clamp (by omega)]; exact rm_held hR (by omega)) ?_
      refine AW.istore_n X dX12_says_32 (i := 3) rfl rfl ?_
      refine AW.iload_n X dX12_says_33 (i := 3) rfl rfl ?_
      refine AW.if_lt X (tgt := 65) dX12_says_34 (by decide) (fun h34 => ?_) (fun h34 => ?_)
      · rw [dn_neg (by omega)] at h34
        have gi : isH S s = false := decide_eq_false (by omega)
        have gr : isRw S s = false := decide_eq_false (by omega)
        refine AW.iload_n X dX12_says_65 (i := 3) rfl rfl ?_
        refine AW.if_ge X (tgt := 76) dX12_says_66 (by decide) (fun h66 => ?_) (fun h66 => ?_)
        · replace h66 := Int32.not_lt.mpr h66
          exact absurd h66 (by rw [h34]; decide)
        · replace h66 := Int32.not_le.mp h66
          refine AW.aload_n X dX12_says_69 (i := 0) rfl rfl ?_
          refine AW.bipush X (v := -3) dX12_says_70 rfl ?_
          refine AW.callV X dX12_says_72 lX12_98 cfX12 (c_X12_no (k := 3) hR (by decide) (by decide)) om0 rfl rfl rfl rfl ⟨rfl, rfl⟩ (pI_k fun r μ1 hr => ?_)
          refine AW.iret X hQ dX12_says_75 ⟨_, rfl, ?_⟩
          refine rm_of ?_ hr
          simp [S_says, saidBy, topStr, Nat.add_sub_cancel, *]
      · rw [dn_neg (by omega)] at h34
        obtain ⟨v, hv⟩ : ∃ v, kk S 0 s = v + 1 := ⟨kk S 0 s - 1, by omega⟩
        rw [hv, dn_s]
        refine AW.aload_n X dX12_says_37 (i := 0) rfl rfl ?_
        refine AW.iload_n X dX12_says_38 (i := 1) rfl rfl ?_
        refine AW.callV X dX12_says_39 lX12_102 cfX12 (c_X12_isRow hR (by omega)) om0 rfl rfl rfl rfl ⟨rfl, rfl⟩ (pR_k ?_)
        refine AW.if_neB X (tgt := 58) dX12_says_42 (by decide) (fun h42 => ?_) (fun h42 => ?_)
        · refine AW.aload_n X dX12_says_58 (i := 0) rfl rfl ?_
          refine AW.bipush X (v := -2) dX12_says_59 rfl ?_
          refine AW.callV X dX12_says_61 lX12_98 cfX12 (c_X12_no (k := 2) hR (by decide) (by decide)) om0 rfl rfl rfl rfl ⟨rfl, rfl⟩ (pI_k fun r μ1 hr => ?_)
          refine AW.iret X hQ dX12_says_64 ⟨_, rfl, ?_⟩
          refine rm_of ?_ hr
          simp [S_says, saidBy, topStr, Nat.add_sub_cancel, *]
        · have gi : isH S s = true := by have := of_decide_eq_false h42; exact decide_eq_true ⟨by omega, by omega⟩
          have hvh : v < S.1 6 0 0 := by have := of_decide_eq_false h42; omega
          have hIh := tm_hi hT hvh
          have bkd := hi_k hIh
          have bnh := hi_n hIh
          have bah := hi_a hIh
          refine AW.aload_n X dX12_says_45 (i := 0) rfl rfl ?_
          refine AW.getR X dX12_says_46 fX12_20 rfl om0 (wm_at W 3 rfl) ?_
          refine AW.iload_n X dX12_says_49 (i := 3) rfl rfl ?_
          refine AW.iaload X dX12_says_50 (am_at 3 rfl) (n2_in (by omega) (by decide)) (v := (nI (S.1 v 0 0))) (by rw [n2_clamp (by omega)]; exact tm_k hT (by omega)) ?_
          refine AW.iload_n X dX12_says_51 (i := 2) rfl rfl ?_
          refine AW.callS X dX12_says_52 lX12_111 (c_X12_isUnder (by omega) (by omega)) rfl rfl rfl rfl ⟨rfl, rfl⟩ (pR_k ?_)
          refine AW.if_neB X (tgt := 65) dX12_says_55 (by decide) (fun h55 => ?_) (fun h55 => ?_)
          · refine AW.iload_n X dX12_says_65 (i := 3) rfl rfl ?_
            refine AW.if_geN X (tgt := 76) dX12_says_66 (by decide) (by omega) (fun h66 => ?_) (fun h66 => ?_)
            · refine AW.iload_n X dX12_says_76 (i := 2) rfl rfl ?_
              have hsw : k = 0 ∨ k = 1 ∨ k = 2 ∨ k = 3 ∨ k = 4 ∨ k = 5 ∨ k = 6 := by omega
              rcases hsw with rfl | rfl | rfl | rfl | rfl | rfl | rfl
              · refine AW.tableIn X (tgt := 116) dX12_says_77 (by decide) (by decide) rfl (by decide) ?_
                refine AW.aload_n X dX12_says_116 (i := 0) rfl rfl ?_
                refine AW.iload_n X dX12_says_117 (i := 3) rfl rfl ?_
                refine AW.callV X dX12_says_118 lX12_115 cfX12 (c_X12_skinOf W hT (by omega)) om0 rfl rfl rfl rfl ⟨rfl, rfl⟩ (pR_k ?_)
                refine AW.iret X hQ dX12_says_121 ⟨_, rfl, ?_⟩
                refine rm_val ?_ hR
                simp [S_says, saidBy, topStr, Nat.add_sub_cancel, *]
              · refine AW.tableIn X (tgt := 122) dX12_says_77 (by decide) (by decide) rfl (by decide) ?_
                refine AW.aload_n X dX12_says_122 (i := 0) rfl rfl ?_
                refine AW.iload_n X dX12_says_123 (i := 3) rfl rfl ?_
                refine AW.iconstN X 0 dX12_says_124 rfl ?_
                refine AW.bipushN X 10 dX12_says_125 rfl ?_
                refine AW.callV X dX12_says_127 lX12_118 cfX12 (c_X12_wetOf W hT (by omega) (by omega) (by omega)) om0 rfl rfl rfl rfl ⟨rfl, rfl⟩ (pR_k ?_)
                refine AW.iret X hQ dX12_says_130 ⟨_, rfl, ?_⟩
                refine rm_val ?_ hR
                simp [S_says, saidBy, topStr, Nat.add_sub_cancel, *]
              · refine AW.tableIn X (tgt := 131) dX12_says_77 (by decide) (by decide) rfl (by decide) ?_
                refine AW.aload_n X dX12_says_131 (i := 0) rfl rfl ?_
                refine AW.iload_n X dX12_says_132 (i := 3) rfl rfl ?_
                refine AW.iconstN X 0 dX12_says_133 rfl ?_
                refine AW.bipushN X 10 dX12_says_134 rfl ?_
                refine AW.callV X dX12_says_136 lX12_122 cfX12 (c_X12_hard W hT (by omega) (by omega) (by omega)) om0 rfl rfl rfl rfl ⟨rfl, rfl⟩ (pR_k ?_)
                refine AW.iret X hQ dX12_says_139 ⟨_, rfl, ?_⟩
                refine rm_val ?_ hR
                simp [S_says, saidBy, topStr, Nat.add_sub_cancel, *]
              · refine AW.tableIn X (tgt := 140) dX12_says_77 (by decide) (by decide) rfl (by decide) ?_
                refine AW.aload_n X dX12_says_140 (i := 0) rfl rfl ?_
                refine AW.iload_n X dX12_says_141 (i := 3) rfl rfl ?_
                refine AW.bipushN X 8 dX12_says_142 rfl ?_
                refine AW.bipushN X 10 dX12_says_144 rfl ?_
                refine AW.callV X dX12_says_146 lX12_118 cfX12 (c_X12_wetOf W hT (by omega) (by omega) (by omega)) om0 rfl rfl rfl rfl ⟨rfl, rfl⟩ (pR_k ?_)
                refine AW.iret X hQ dX12_says_149 ⟨_, rfl, ?_⟩
                refine rm_val ?_ hR
                simp [S_says, saidBy, topStr, Nat.add_sub_cancel, *]
              · refine AW.tableIn X (tgt := 150) dX12_says_77 (by decide) (by decide) rfl (by decide) ?_
                refine AW.aload_n X dX12_says_150 (i := 0) rfl rfl ?_
                refine AW.getR X dX12_says_151 fX12_26 rfl om0 (wm_at W 5 rfl) ?_
                refine AW.iload_n X dX12_says_154 (i := 3) rfl rfl ?_
                refine AW.iaload X dX12_says_155 (am_at 5 rfl) (n2_in (by omega) (by decide)) (v := (nI (S.1 v 0 2))) (by rw [n2_clamp (by omega)]; exact tm_n hT (by omega)) ?_
                refine AW.if_neN X (tgt := 163) dX12_says_156 (by decide) (by omega) (fun h156 => ?_) (fun h156 => ?_)
                · refine AW.aload_n X dX12_says_163 (i := 0) rfl rfl ?_
                  refine AW.iload_n X dX12_says_164 (i := 3) rfl rfl ?_
                  refine AW.aload_n X dX12_says_165 (i := 0) rfl rfl ?_
                  refine AW.getR X dX12_says_166 fX12_26 rfl om0 (wm_at W 5 rfl) ?_
                  refine AW.iload_n X dX12_says_169 (i := 3) rfl rfl ?_
                  refine AW.iaload X dX12_says_170 (am_at 5 rfl) (n2_in (by omega) (by decide)) (v := (nI (S.1 v 0 2))) (by rw [n2_clamp (by omega)]; exact tm_n hT (by omega)) ?_
                  refine AW.iconstN X 1 dX12_says_171 rfl ?_
                  refine AW.isubN X dX12_says_172 (by omega) ?_
                  refine AW.callV X dX12_says_173 lX12_125 cfX12 (c_X12_strength W hT (by omega) (by omega)) om0 rfl rfl rfl rfl ⟨rfl, rfl⟩ (pR_k ?_)
                  refine AW.iret X hQ dX12_says_176 ⟨_, rfl, ?_⟩
                  refine rm_val ?_ hR
                  simp [S_says, saidBy, topStr, Nat.add_sub_cancel, *]
                · refine AW.iconstN X 0 dX12_says_159 rfl ?_
                  refine AW.goto X (tgt := 176) dX12_says_160 (by decide) ?_
                  refine AW.iret X hQ dX12_says_176 ⟨_, rfl, ?_⟩
                  refine rm_val ?_ hR
                  simp [S_says, saidBy, topStr, Nat.add_sub_cancel, *]
              · refine AW.tableIn X (tgt := 177) dX12_says_77 (by decide) (by decide) rfl (by decide) ?_
                refine AW.aload_n X dX12_says_177 (i := 0) rfl rfl ?_
                refine AW.iload_n X dX12_says_178 (i := 3) rfl rfl ?_
                refine AW.iconstN X 4 dX12_says_179 rfl ?_
                refine AW.bipushN X 10 dX12_says_180 rfl ?_
                refine AW.callV X dX12_says_182 lX12_122 cfX12 (c_X12_hard W hT (by omega) (by omega) (by omega)) om0 rfl rfl rfl rfl ⟨rfl, rfl⟩ (pR_k ?_)
                refine AW.iret X hQ dX12_says_185 ⟨_, rfl, ?_⟩
                refine rm_val ?_ hR
                simp [S_says, saidBy, topStr, Nat.add_sub_cancel, *]
              · refine AW.tableOut X (tgt := 186) dX12_says_77 (by decide) (by decide) ?_
                refine AW.aload_n X dX12_says_186 (i := 0) rfl rfl ?_
                refine AW.getR X dX12_says_187 fX12_23 rfl om0 (wm_at W 4 rfl) ?_
                refine AW.iload_n X dX12_says_190 (i := 3) rfl rfl ?_
                refine AW.iaload X dX12_says_191 (am_at 4 rfl) (n2_in (by omega) (by decide)) (v := (nI (S.1 v 0 1))) (by rw [n2_clamp (by omega)]; exact tm_a hT (by omega)) ?_
                refine AW.iret X hQ dX12_says_192 ⟨_, rfl, ?_⟩
                refine rm_val ?_ hR
                simp [S_says, saidBy, topStr, Nat.add_sub_cancel, *]
            · exact h66.elim
          · refine AW.aload_n X dX12_says_58 (i := 0) rfl rfl ?_
            refine AW.bipush X (v := -2) dX12_says_59 rfl ?_
            refine AW.callV X dX12_says_61 lX12_98 cfX12 (c_X12_no (k := 2) hR (by decide) (by decide)) om0 rfl rfl rfl rfl ⟨rfl, rfl⟩ (pI_k fun r μ1 hr => ?_)
            refine AW.iret X hQ dX12_says_64 ⟨_, rfl, ?_⟩
            refine rm_of ?_ hr
            simp [S_says, saidBy, topStr, Nat.add_sub_cancel, *]
    · refine AW.aload_n X dX12_says_20 (i := 0) rfl rfl ?_
      refine AW.iconst X (v := -1) dX12_says_21 rfl ?_
      refine AW.callV X dX12_says_22 lX12_98 cfX12 (c_X12_no (k := 1) hR (by decide) (by decide)) om0 rfl rfl rfl rfl ⟨rfl, rfl⟩ (pI_k fun r μ1 hr => ?_)
      refine AW.iret X hQ dX12_says_25 ⟨_, rfl, ?_⟩
      refine rm_of ?_ hr
      simp [S_says, saidBy, topStr, Nat.add_sub_cancel, *]
