theorem win_st {x : Int32} (h : win x (nI 11) (nI 17) = true) : ∃ j : Nat, j < 2147483648 ∧ x = nI j ∧ 11 ≤ j ∧ j ≤ 17 := by
  have h := of_decide_eq_true h
  obtain ⟨j, hj, rfl, h1⟩ := ge_of (by decide) h.1
  have h2 := h.2
  rw [n2_lt (by decide) hj] at h2
  exact ⟨j, hj, rfl, h1, by omega⟩
theorem win_nst {x : Int32} (h : win x (nI 11) (nI 17) = false) : ¬ nI 10 < x ∨ nI 17 < x := by
  have h := of_decide_eq_false h
  by_cases q : nI 17 < x
  · exact Or.inr q
  · refine Or.inl (fun z => h ⟨?_, q⟩)
    obtain ⟨j, hj, rfl, h1⟩ := ge_of (k := 10) (by decide) (Int32.not_lt.mpr (Int32.le_of_lt z))
    have := (n2_lt (by decide) hj).mp z
    rw [n2_lt hj (by decide)]
    omega
set_option maxRecDepth 100000 in
set_option maxHeartbeats 4000000 in
theorem c_X12_status {l : Launch} {δ : Dl} {b : Nat} {μ : Mm} {S : St} (hR : RMX μ S) {xa : Int32} : MCM l δ b yX12_status cX12_status 4 (some .int) 2 [.ref (b + 0), .int xa] μ (pI fun r μ' => r = S_status S xa ∧ μ' = μ) := by
  have hT := rm_t hR
  have W := rm_w hR
  have bn := ti_n hT.1
  refine MC.intro ([some (.ref (b + 0)), some (.int xa), none, none]) (by decide) rfl rfl fun κ Qc hl hQ X => ?_
  subst hl
  refine AW.iconstN X 0 dX12_status_0 rfl ?_
  refine AW.istore_n X dX12_status_1 (i := 2) rfl rfl ?_
  refine AW.iload_n X dX12_status_2 (i := 1) rfl rfl ?_
  rcases Bool.eq_false_or_eq_true (inr xa 8) with hin | hin
  · obtain ⟨jsw, hjsw, ejsw⟩ := inr_of (x := xa) (m := 8) (by decide) hin
    subst ejsw
    have hsw : jsw = 0 ∨ jsw = 1 ∨ jsw = 2 ∨ jsw = 3 ∨ jsw = 4 ∨ jsw = 5 ∨ jsw = 6 ∨ jsw = 7 := by omega
    rcases hsw with rfl | rfl | rfl | rfl | rfl | rfl | rfl | rfl
    · refine AW.tableIn X (tgt := 48) dX12_status_3 (by decide) (by decide) rfl (by decide) ?_
      refine AW.aload_n X dX12_status_48 (i := 0) rfl rfl ?_
      refine AW.getI X dX12_status_49 fX12_87 rfl om0 (tm_0 hT) ?_
      refine AW.iret X hQ dX12_status_52 ⟨_, rfl, ?_⟩
      exact ⟨by simp [S_status, stsB, stsO, cls, cl7, show ¬ nI 10 < nI 0 by decide, show ¬ nI 10 < nI 1 by decide, show ¬ nI 10 < nI 2 by decide, show ¬ nI 10 < nI 3 by decide, show ¬ nI 10 < nI 4 by decide, show ¬ nI 10 < nI 5 by decide, show ¬ nI 10 < nI 6 by decide, show ¬ nI 10 < nI 7 by decide, *], rfl⟩
    · refine AW.tableIn X (tgt := 53) dX12_status_3 (by decide) (by decide) rfl (by decide) ?_
      refine AW.iconstN X 0 dX12_status_53 rfl ?_
      refine AW.istore_n X dX12_status_54 (i := 3) rfl rfl ?_
      have L55 : ∀ (m55 ix : Nat), S.1 6 0 0 - ix < m55 → ix ≤ S.1 6 0 0 → AW κ (δ, b, NM, 4, shM, False, Qc, 0, 0) NM 0 0 55 [some (.ref (b + 0)), some (.int (nI 1)), some (.int (nI (coatsAll S.1 ix))), some (.int (nI ix))] [] μ := by
        intro m55
        induction m55 with
        | zero => intro ix hm; exact absurd hm (Nat.not_lt_zero _)
        | succ m55 ih55 =>
          intro ix hm55 hi55 
          have b1 := coatsAll_le hT.1 ix (by omega)
          refine AW.iload_n X dX12_status_55 (i := 3) rfl rfl ?_
          refine AW.aload_n X dX12_status_56 (i := 0) rfl rfl ?_
          refine AW.getI X dX12_status_57 fX12_87 rfl om0 (tm_0 hT) ?_
          refine AW.icmp_geN X (tgt := 78) dX12_status_60 (by decide) (by omega) (by omega) (fun h60 => ?_) (fun h60 => ?_)
          · obtain rfl : S.1 6 0 0 = ix := by omega
            have n60 := Nat.not_lt_of_le h60
            refine AW.iload_n X dX12_status_78 (i := 2) rfl rfl ?_
            refine AW.iret X hQ dX12_status_79 ⟨_, rfl, ?_⟩
            exact ⟨by simp [S_status, stsB, stsO, cls, cl7, show ¬ nI 10 < nI 0 by decide, show ¬ nI 10 < nI 1 by decide, show ¬ nI 10 < nI 2 by decide, show ¬ nI 10 < nI 3 by decide, show ¬ nI 10 < nI 4 by decide, show ¬ nI 10 < nI 5 by decide, show ¬ nI 10 < nI 6 by decide, show ¬ nI 10 < nI 7 by decide, *], rfl⟩
          · have n60 := Nat.not_le_of_lt h60
            have hI9 := tm_hi hT (h := ix) (by omega)
            refine AW.iload_n X dX12_status_63 (i := 2) rfl rfl ?_
            refine AW.aload_n X dX12_status_64 (i := 0) rfl rfl ?_
            refine AW.getR X dX12_status_65 fX12_26 rfl om0 (wm_at W 5 rfl) ?_
            refine AW.iload_n X dX12_status_68 (i := 3) rfl rfl ?_
            refine AW.iaload X dX12_status_69 (am_at 5 rfl) (n2_in (by omega) (by decide)) (v := (nI (S.1 ix 0 2))) (by rw [n2_clamp (by omega)]; exact tm_n hT (by omega)) ?_
            refine AW.iaddN X dX12_status_70 ?_
            refine AW.istore_n X dX12_status_71 (i := 2) rfl rfl ?_
            refine AW.iincN X (c := (ix + 1)) dX12_status_72 rfl (inc_1 _) rfl ?_
            refine AW.goto X (tgt := 55) dX12_status_75 (by decide) ?_
            refine AW.cgw (ih55 (ix + 1) (by omega) (by omega)) ⟨rfl, rfl, ?_, rfl, trivial⟩
            · simp [coatsAll]
      refine AW.cgw (L55 _ 0 (Nat.lt_succ_self _) (by omega)) ⟨rfl, rfl, ?_, rfl, trivial⟩
      · simp [coatsAll]
    · refine AW.tableIn X (tgt := 80) dX12_status_3 (by decide) (by decide) rfl (by decide) ?_
      refine AW.aload_n X dX12_status_80 (i := 0) rfl rfl ?_
      refine AW.getI X dX12_status_81 fX12_74 rfl om0 (tm_l hT) ?_
      refine AW.iret X hQ dX12_status_84 ⟨_, rfl, ?_⟩
      exact ⟨by simp [S_status, stsB, stsO, cls, cl7, show ¬ nI 10 < nI 0 by decide, show ¬ nI 10 < nI 1 by decide, show ¬ nI 10 < nI 2 by decide, show ¬ nI 10 < nI 3 by decide, show ¬ nI 10 < nI 4 by decide, show ¬ nI 10 < nI 5 by decide, show ¬ nI 10 < nI 6 by decide, show ¬ nI 10 < nI 7 by decide, *], rfl⟩
    · refine AW.tableIn X (tgt := 85) dX12_status_3 (by decide) (by decide) rfl (by decide) ?_
      refine AW.aload_n X dX12_status_85 (i := 0) rfl rfl ?_
      refine AW.getI X dX12_status_86 fX12_78 rfl om0 (tm_w hT) ?_
      refine AW.iret X hQ dX12_status_89 ⟨_, rfl, ?_⟩
      exact ⟨by simp [S_status, stsB, stsO, cls, cl7, show ¬ nI 10 < nI 0 by decide, show ¬ nI 10 < nI 1 by decide, show ¬ nI 10 < nI 2 by decide, show ¬ nI 10 < nI 3 by decide, show ¬ nI 10 < nI 4 by decide, show ¬ nI 10 < nI 5 by decide, show ¬ nI 10 < nI 6 by decide, show ¬ nI 10 < nI 7 by decide, *], rfl⟩
    · refine AW.tableIn X (tgt := 90) dX12_status_3 (by decide) (by decide) rfl (by decide) ?_
      refine AW.aload_n X dX12_status_90 (i := 0) rfl rfl ?_
      refine AW.getI X dX12_status_91 fX12_139 rfl om0 (tm_y hT) ?_
      refine AW.iret X hQ dX12_status_94 ⟨_, rfl, ?_⟩
      exact ⟨by simp [S_status, stsB, stsO, cls, cl7, show ¬ nI 10 < nI 0 by decide, show ¬ nI 10 < nI 1 by decide, show ¬ nI 10 < nI 2 by decide, show ¬ nI 10 < nI 3 by decide, show ¬ nI 10 < nI 4 by decide, show ¬ nI 10 < nI 5 by decide, show ¬ nI 10 < nI 6 by decide, show ¬ nI 10 < nI 7 by decide, *], rfl⟩
    · refine AW.tableIn X (tgt := 95) dX12_status_3 (by decide) (by decide) rfl (by decide) ?_
      refine AW.aload_n X dX12_status_95 (i := 0) rfl rfl ?_
      refine AW.getI X dX12_status_96 fX12_272 rfl om0 (tm_f hT) ?_
      refine AW.iret X hQ dX12_status_99 ⟨_, rfl, ?_⟩
      exact ⟨by simp [S_status, stsB, stsO, cls, cl7, show ¬ nI 10 < nI 0 by decide, show ¬ nI 10 < nI 1 by decide, show ¬ nI 10 < nI 2 by decide, show ¬ nI 10 < nI 3 by decide, show ¬ nI 10 < nI 4 by decide, show ¬ nI 10 < nI 5 by decide, show ¬ nI 10 < nI 6 by decide, show ¬ nI 10 < nI 7 by decide, *], rfl⟩
    · refine AW.tableIn X (tgt := 100) dX12_status_3 (by decide) (by decide) rfl (by decide) ?_
      refine AW.aload_n X dX12_status_100 (i := 0) rfl rfl ?_
      refine AW.getI X dX12_status_101 fX12_81 rfl om0 (tm_s hT) ?_
      refine AW.iret X hQ dX12_status_104 ⟨_, rfl, ?_⟩
      exact ⟨by simp [S_status, stsB, stsO, cls, cl7, show ¬ nI 10 < nI 0 by decide, show ¬ nI 10 < nI 1 by decide, show ¬ nI 10 < nI 2 by decide, show ¬ nI 10 < nI 3 by decide, show ¬ nI 10 < nI 4 by decide, show ¬ nI 10 < nI 5 by decide, show ¬ nI 10 < nI 6 by decide, show ¬ nI 10 < nI 7 by decide, *], rfl⟩
    · refine AW.tableIn X (tgt := 105) dX12_status_3 (by decide) (by decide) rfl (by decide) ?_
      refine AW.aload_n X dX12_status_105 (i := 0) rfl rfl ?_
      refine AW.getI X dX12_status_106 fX12_282 rfl om0 (rm_ran hR) ?_
      refine AW.iret X hQ dX12_status_109 ⟨_, rfl, ?_⟩
      exact ⟨by simp [S_status, stsB, stsO, cls, cl7, show ¬ nI 10 < nI 0 by decide, show ¬ nI 10 < nI 1 by decide, show ¬ nI 10 < nI 2 by decide, show ¬ nI 10 < nI 3 by decide, show ¬ nI 10 < nI 4 by decide, show ¬ nI 10 < nI 5 by decide, show ¬ nI 10 < nI 6 by decide, show ¬ nI 10 < nI 7 by decide, *], rfl⟩
  · refine AW.tableOut X (tgt := 110) dX12_status_3 (inr_out (m := 8) (by decide) hin) (by decide) ?_
    refine AW.iload_n X dX12_status_110 (i := 1) rfl rfl ?_
    refine AW.bipushN X 11 dX12_status_111 rfl ?_
    refine AW.bipushN X 17 dX12_status_113 rfl ?_
    refine AW.callS X dX12_status_115 lX12_90 (c_X12_within) rfl rfl rfl rfl ⟨rfl, rfl⟩ (pR_k ?_)
    refine AW.if_eqB X (tgt := 133) dX12_status_118 (by decide) (fun h118 => ?_) (fun h118 => ?_)
    · have g118 := win_nst h118
      refine AW.iconst X (v := -1) dX12_status_133 rfl ?_
      refine AW.iret X hQ dX12_status_134 ⟨_, rfl, ?_⟩
      refine ⟨?_, rfl⟩
      by_cases q1 : nI 10 < xa <;> by_cases q2 : nI 17 < xa <;> simp [S_status, stsB, q1, q2, hin]
      exact absurd g118 (by simp [q1, q2])
    · obtain ⟨jx, hjx, ejx, j1, j2⟩ := win_st h118
      subst ejx
      have cjx := cl_n hjx
      have g3 : nI 10 < nI jx := (n2_lt (by decide) hjx).mpr (by omega)
      have g9 : ¬ nI 17 < nI jx := by rw [n2_lt (by decide) hjx]; omega
      refine AW.aload_n X dX12_status_121 (i := 0) rfl rfl ?_
      refine AW.getR X dX12_status_122 fX12_53 rfl om0 (wm_at W 14 rfl) ?_
      refine AW.iload_n X dX12_status_125 (i := 1) rfl rfl ?_
      refine AW.bipushN X 10 dX12_status_126 rfl ?_
      refine AW.isubN X dX12_status_128 (by omega) ?_
      refine AW.iaload X dX12_status_129 (am_at 14 rfl) (n2_in (by omega) (by decide)) (v := (nI (kk S 2 (jx - 10)))) (by rw [n2_clamp (by omega)]; exact rm_refu hR (by omega)) ?_
      refine AW.goto X (tgt := 134) dX12_status_130 (by decide) ?_
      refine AW.iret X hQ dX12_status_134 ⟨_, rfl, ?_⟩
      exact ⟨by simp [S_status, stsB, *], rfl⟩
theorem mv_s {V : Vt} {t k B i : Nat} (h : V 1 k = t) : (if 0 < coatsTo V t (k + 1) then B ||| 2 ^ i else B) = (if 0 < coatsTo V t k then B ||| 2 ^ i else B) ||| 2 ^ i := by
  rw [coatsTo, if_pos h, if_pos (by omega)]
  split
  · rw [Nat.or_assoc, Nat.or_self]
  · rfl
theorem mv_n {V : Vt} {t k B i : Nat} (h : ¬ V 1 k = t) : (if 0 < coatsTo V t (k + 1) then B ||| 2 ^ i else B) = (if 0 < coatsTo V t k then B ||| 2 ^ i else B) := by rw [coatsTo, if_neg h]
set_option maxRecDepth 100000 in
set_option maxHeartbeats 4000000 in
theorem c_X12_moves {l : Launch} {δ : Dl} {b : Nat} {μ : Mm} {S : St} (hR : RMX μ S) {x : Int32} {z : Int32} : MCM l δ b yX12_moves cX12_moves 7 (some .int) 2 [.ref (b + 0), .int x, .int z] μ (pI fun r μ' => r = (S_moves S x z).1 ∧ RMX μ' (S_moves S x z).2) := by
  have hT := rm_t hR
  have W := rm_w hR
  have bn := ti_n hT.1
  refine MC.intro ([some (.ref (b + 0)), some (.int x), some (.int z), none, none, none, none]) (by decide) rfl rfl fun κ Qc hl hQ X => ?_
  subst hl
  refine AW.iload_n X dX12_moves_0 (i := 1) rfl rfl ?_
  refine AW.iconstN X 0 dX12_moves_1 rfl ?_
  refine AW.bipushN X 7 dX12_moves_2 rfl ?_
  refine AW.callS X dX12_moves_4 lX12_90 (c_within (m := 8) (dn_s 7).symm (by decide)) rfl rfl rfl rfl ⟨rfl, rfl⟩ (pR_k ?_)
  refine AW.if_neB X (tgt := 16) dX12_moves_7 (by decide) (fun h7 => ?_) (fun h7 => ?_)
  · obtain ⟨t, ht, et⟩ := inr_of (x := x) (m := 8) (by omega) h7
    subst et
    have ct := cl_n (show t < 2147483648 by omega)
    refine AW.iload_n X dX12_moves_16 (i := 2) rfl rfl ?_
    refine AW.iconstN X 0 dX12_moves_17 rfl ?_
    refine AW.iconstN X 1 dX12_moves_18 rfl ?_
    refine AW.callS X dX12_moves_19 lX12_90 (c_within (m := 2) (dn_s 1).symm (by decide)) rfl rfl rfl rfl ⟨rfl, rfl⟩ (pR_k ?_)
    refine AW.if_neB X (tgt := 32) dX12_moves_22 (by decide) (fun h22 => ?_) (fun h22 => ?_)
    · have hz2 := h22
      have z01 : z = nI 0 ∨ z = nI 1 := by obtain ⟨j9, h9, e9⟩ := inr_of (m := 2) (by decide) hz2; rcases (show j9 = 0 ∨ j9 = 1 by omega) with rfl | rfl; exact Or.inl e9; exact Or.inr e9
      rcases z01 with rfl | rfl
      · skip
        refine AW.iconstN X 0 dX12_moves_32 rfl ?_
        refine AW.istore_n X dX12_moves_33 (i := 3) rfl rfl ?_
        refine AW.iconstN X 0 dX12_moves_34 rfl ?_
        refine AW.istore X dX12_moves_35 rfl ?_
        refine AW.iconstN X 0 dX12_moves_37 rfl ?_
        refine AW.istore X dX12_moves_38 rfl ?_
        have L40 : ∀ (m40 ix : Nat), S.1 6 0 0 - ix < m40 → ix ≤ S.1 6 0 0 → AW κ (δ, b, NM, 7, shM, False, Qc, 0, 0) NM 0 0 40 [some (.ref (b + 0)), some (.int (nI t)), some (.int (nI 0)), some (.int (nI (movB S.1 t ix))), some (.int (nI (movC S.1 t ix))), some (.int (nI ix)), none] [] μ := by
          intro m40
          induction m40 with
          | zero => intro ix hm; exact absurd hm (Nat.not_lt_zero _)
          | succ m40 ih40 =>
            intro ix hm40 hi40 
            refine AW.iload X dX12_moves_40 rfl ?_
            refine AW.aload_n X dX12_moves_42 (i := 0) rfl rfl ?_
            refine AW.getI X dX12_moves_43 fX12_87 rfl om0 (tm_0 hT) ?_
            refine AW.icmp_geN X (tgt := 106) dX12_moves_46 (by decide) (by omega) (by omega) (fun h46 => ?_) (fun h46 => ?_)
            · obtain rfl : S.1 6 0 0 = ix := by omega
              have n46 := Nat.not_lt_of_le h46
              refine AW.iload_n X dX12_moves_106 (i := 2) rfl rfl ?_
              refine AW.if_neN X (tgt := 114) dX12_moves_107 (by decide) (by omega) (fun h107 => ?_) (fun h107 => ?_)
              · exact absurd h107 (by decide)
              · refine AW.iload_n X dX12_moves_110 (i := 3) rfl rfl ?_
                refine AW.goto X (tgt := 116) dX12_moves_111 (by decide) ?_
                refine AW.iret X hQ dX12_moves_116 ⟨_, rfl, ?_⟩
                refine rm_val ?_ hR
                simp [S_moves, n01, *]
            · have n46 := Nat.not_le_of_lt h46
              have hI9 := tm_hi hT (h := ix) (by omega)
              have bc9 := hi_n hI9
              refine AW.iconstN X 0 dX12_moves_49 rfl ?_
              refine AW.istore X dX12_moves_50 rfl ?_
              have L52 : ∀ (m52 kx : Nat), S.1 ix 0 2 - kx < m52 → kx ≤ S.1 ix 0 2 → AW κ (δ, b, NM, 7, shM, False, Qc, 0, 0) NM 0 0 52 [some (.ref (b + 0)), some (.int (nI t)), some (.int (nI 0)), some (.int (nI (if 0 < coatsTo (S.1 ix) t kx then movB S.1 t ix ||| 2 ^ ix else movB S.1 t ix))), some (.int (nI (movC S.1 t ix + coatsTo (S.1 ix) t kx))), some (.int (nI ix)), some (.int (nI kx))] [] μ := by
                intro m52
                induction m52 with
                | zero => intro kx hm; exact absurd hm (Nat.not_lt_zero _)
                | succ m52 ih52 =>
                  intro kx hm52 hi52 
                  refine AW.iload X dX12_moves_52 rfl ?_
                  refine AW.aload_n X dX12_moves_54 (i := 0) rfl rfl ?_
                  refine AW.getR X dX12_moves_55 fX12_26 rfl om0 (wm_at W 5 rfl) ?_
                  refine AW.iload X dX12_moves_58 rfl ?_
                  refine AW.iaload X dX12_moves_60 (am_at 5 rfl) (n2_in (by omega) (by decide)) (v := (nI (S.1 ix 0 2))) (by rw [n2_clamp (by omega)]; exact tm_n hT (by omega)) ?_
                  refine AW.icmp_geN X (tgt := 100) dX12_moves_61 (by decide) (by omega) (by omega) (fun h61 => ?_) (fun h61 => ?_)
                  · obtain rfl : S.1 ix 0 2 = kx := by omega
                    have n61 := Nat.not_lt_of_le h61
                    refine AW.iincN X (c := (ix + 1)) dX12_moves_100 rfl (inc_1 _) rfl ?_
                    refine AW.goto X (tgt := 40) dX12_moves_103 (by decide) ?_
                    refine AW.cgw (ih40 (ix + 1) (by omega) (by omega)) ⟨rfl, rfl, rfl, ?_, ?_, rfl, trivial⟩
                    · simp [movB, movC]
                    · simp [movB, movC]
                  · have n61 := Nat.not_le_of_lt h61
                    have bt9 := hi_ten hI9 (c := kx) (by omega)
                    refine AW.aload_n X dX12_moves_64 (i := 0) rfl rfl ?_
                    refine AW.getR X dX12_moves_65 fX12_29 rfl om0 (wm_at W 6 rfl) ?_
                    refine AW.bipushN X 8 dX12_moves_68 rfl ?_
                    refine AW.iload X dX12_moves_70 rfl ?_
                    refine AW.imulN X dX12_moves_72 ?_
                    refine AW.iload X dX12_moves_73 rfl ?_
                    refine AW.iaddN X dX12_moves_75 ?_
                    refine AW.iaload X dX12_moves_76 (am_at 6 rfl) (n2_in (by omega) (by decide)) (v := (nI (S.1 ix 1 kx))) (by rw [n2_clamp (by omega)]; exact tm_1 hT (by omega) (by omega)) ?_
                    refine AW.iload_n X dX12_moves_77 (i := 1) rfl rfl ?_
                    refine AW.icmp_eqN X (tgt := 84) dX12_moves_78 (by decide) (by omega) (by omega) (fun h78 => ?_) (fun h78 => ?_)
                    · refine AW.iload_n X dX12_moves_84 (i := 3) rfl rfl ?_
                      refine AW.iconstN X 1 dX12_moves_85 rfl ?_
                      refine AW.iload X dX12_moves_86 rfl ?_
                      refine AW.shl1 X dX12_moves_88 (by omega) ?_
                      refine AW.iorN X dX12_moves_89 ?_
                      refine AW.istore_n X dX12_moves_90 (i := 3) rfl rfl ?_
                      refine AW.iincN X (c := ((movC S.1 t ix + coatsTo (S.1 ix) t kx) + 1)) dX12_moves_91 rfl (inc_1 _) rfl ?_
                      refine AW.iincN X (c := (kx + 1)) dX12_moves_94 rfl (inc_1 _) rfl ?_
                      refine AW.goto X (tgt := 52) dX12_moves_97 (by decide) ?_
                      refine AW.cgw (ih52 (kx + 1) (by omega) (by omega)) ⟨rfl, rfl, rfl, ?_, ?_, rfl, rfl, trivial⟩
                      · first | (rw [mv_s (by omega)]; done) | (rw [mv_n (by omega)]; done)
                      · simp [coatsTo, Nat.add_assoc, *]
                    · refine AW.goto X (tgt := 94) dX12_moves_81 (by decide) ?_
                      refine AW.iincN X (c := (kx + 1)) dX12_moves_94 rfl (inc_1 _) rfl ?_
                      refine AW.goto X (tgt := 52) dX12_moves_97 (by decide) ?_
                      refine AW.cgw (ih52 (kx + 1) (by omega) (by omega)) ⟨rfl, rfl, rfl, ?_, ?_, rfl, rfl, trivial⟩
                      · first | (rw [mv_s (by omega)]; done) | (rw [mv_n (by omega)]; done)
                      · simp [coatsTo, Nat.add_assoc, *]
              refine AW.cgw (L52 _ 0 (Nat.lt_succ_self _) (by omega)) ⟨rfl, rfl, rfl, ?_, ?_, rfl, rfl, trivial⟩
              · simp [coatsTo]
              · simp [coatsTo]
        refine AW.cgw (L40 _ 0 (Nat.lt_succ_self _) (by omega)) ⟨rfl, rfl, rfl, ?_, ?_, rfl, trivial⟩
        · rfl
        · rfl
      · skip
        refine AW.iconstN X 0 dX12_moves_32 rfl ?_
        refine AW.istore_n X dX12_moves_33 (i := 3) rfl rfl ?_
        refine AW.iconstN X 0 dX12_moves_34 rfl ?_
        refine AW.istore X dX12_moves_35 rfl ?_
        refine AW.iconstN X 0 dX12_moves_37 rfl ?_
        refine AW.istore X dX12_moves_38 rfl ?_
        have L40 : ∀ (m40 ix : Nat), S.1 6 0 0 - ix < m40 → ix ≤ S.1 6 0 0 → AW κ (δ, b, NM, 7, shM, False, Qc, 0, 0) NM 0 0 40 [some (.ref (b + 0)), some (.int (nI t)), some (.int (nI 1)), some (.int (nI (movB S.1 t ix))), some (.int (nI (movC S.1 t ix))), some (.int (nI ix)), none] [] μ := by
          intro m40
          induction m40 with
          | zero => intro ix hm; exact absurd hm (Nat.not_lt_zero _)
          | succ m40 ih40 =>
            intro ix hm40 hi40 
            refine AW.iload X dX12_moves_40 rfl ?_
            refine AW.aload_n X dX12_moves_42 (i := 0) rfl rfl ?_
            refine AW.getI X dX12_moves_43 fX12_87 rfl om0 (tm_0 hT) ?_
            refine AW.icmp_geN X (tgt := 106) dX12_moves_46 (by decide) (by omega) (by omega) (fun h46 => ?_) (fun h46 => ?_)
            · obtain rfl : S.1 6 0 0 = ix := by omega
              have n46 := Nat.not_lt_of_le h46
              refine AW.iload_n X dX12_moves_106 (i := 2) rfl rfl ?_
              refine AW.if_neN X (tgt := 114) dX12_moves_107 (by decide) (by omega) (fun h107 => ?_) (fun h107 => ?_)
              · refine AW.iload X dX12_moves_114 rfl ?_
                refine AW.iret X hQ dX12_moves_116 ⟨_, rfl, ?_⟩
                refine rm_val ?_ hR
                simp [S_moves, n01, *]
              · exact absurd h107 (by decide)
            · have n46 := Nat.not_le_of_lt h46
              have hI9 := tm_hi hT (h := ix) (by omega)
              have bc9 := hi_n hI9
              refine AW.iconstN X 0 dX12_moves_49 rfl ?_
              refine AW.istore X dX12_moves_50 rfl ?_
              have L52 : ∀ (m52 kx : Nat), S.1 ix 0 2 - kx < m52 → kx ≤ S.1 ix 0 2 → AW κ (δ, b, NM, 7, shM, False, Qc, 0, 0) NM 0 0 52 [some (.ref (b + 0)), some (.int (nI t)), some (.int (nI 1)), some (.int (nI (if 0 < coatsTo (S.1 ix) t kx then movB S.1 t ix ||| 2 ^ ix else movB S.1 t ix))), some (.int (nI (movC S.1 t ix + coatsTo (S.1 ix) t kx))), some (.int (nI ix)), some (.int (nI kx))] [] μ := by
                intro m52
                induction m52 with
                | zero => intro kx hm; exact absurd hm (Nat.not_lt_zero _)
                | succ m52 ih52 =>
                  intro kx hm52 hi52 
                  refine AW.iload X dX12_moves_52 rfl ?_
                  refine AW.aload_n X dX12_moves_54 (i := 0) rfl rfl ?_
                  refine AW.getR X dX12_moves_55 fX12_26 rfl om0 (wm_at W 5 rfl) ?_
                  refine AW.iload X dX12_moves_58 rfl ?_
                  refine AW.iaload X dX12_moves_60 (am_at 5 rfl) (n2_in (by omega) (by decide)) (v := (nI (S.1 ix 0 2))) (by rw [n2_clamp (by omega)]; exact tm_n hT (by omega)) ?_
                  refine AW.icmp_geN X (tgt := 100) dX12_moves_61 (by decide) (by omega) (by omega) (fun h61 => ?_) (fun h61 => ?_)
                  · obtain rfl : S.1 ix 0 2 = kx := by omega
                    have n61 := Nat.not_lt_of_le h61
                    refine AW.iincN X (c := (ix + 1)) dX12_moves_100 rfl (inc_1 _) rfl ?_
                    refine AW.goto X (tgt := 40) dX12_moves_103 (by decide) ?_
                    refine AW.cgw (ih40 (ix + 1) (by omega) (by omega)) ⟨rfl, rfl, rfl, ?_, ?_, rfl, trivial⟩
                    · simp [movB, movC]
                    · simp [movB, movC]
                  · have n61 := Nat.not_le_of_lt h61
                    have bt9 := hi_ten hI9 (c := kx) (by omega)
                    refine AW.aload_n X dX12_moves_64 (i := 0) rfl rfl ?_
                    refine AW.getR X dX12_moves_65 fX12_29 rfl om0 (wm_at W 6 rfl) ?_
                    refine AW.bipushN X 8 dX12_moves_68 rfl ?_
                    refine AW.iload X dX12_moves_70 rfl ?_
                    refine AW.imulN X dX12_moves_72 ?_
                    refine AW.iload X dX12_moves_73 rfl ?_
                    refine AW.iaddN X dX12_moves_75 ?_
                    refine AW.iaload X dX12_moves_76 (am_at 6 rfl) (n2_in (by omega) (by decide)) (v := (nI (S.1 ix 1 kx))) (by rw [n2_clamp (by omega)]; exact tm_1 hT (by omega) (by omega)) ?_
                    refine AW.iload_n X dX12_moves_77 (i := 1) rfl rfl ?_
                    refine AW.icmp_eqN X (tgt := 84) dX12_moves_78 (by decide) (by omega) (by omega) (fun h78 => ?_) (fun h78 => ?_)
                    · refine AW.iload_n X dX12_moves_84 (i := 3) rfl rfl ?_
                      refine AW.iconstN X 1 dX12_moves_85 rfl ?_
                      refine AW.iload X dX12_moves_86 rfl ?_
                      refine AW.shl1 X dX12_moves_88 (by omega) ?_
                      refine AW.iorN X dX12_moves_89 ?_
                      refine AW.istore_n X dX12_moves_90 (i := 3) rfl rfl ?_
                      refine AW.iincN X (c := ((movC S.1 t ix + coatsTo (S.1 ix) t kx) + 1)) dX12_moves_91 rfl (inc_1 _) rfl ?_
                      refine AW.iincN X (c := (kx + 1)) dX12_moves_94 rfl (inc_1 _) rfl ?_
                      refine AW.goto X (tgt := 52) dX12_moves_97 (by decide) ?_
                      refine AW.cgw (ih52 (kx + 1) (by omega) (by omega)) ⟨rfl, rfl, rfl, ?_, ?_, rfl, rfl, trivial⟩
                      · first | (rw [mv_s (by omega)]; done) | (rw [mv_n (by omega)]; done)
                      · simp [coatsTo, Nat.add_assoc, *]
                    · refine AW.goto X (tgt := 94) dX12_moves_81 (by decide) ?_
                      refine AW.iincN X (c := (kx + 1)) dX12_moves_94 rfl (inc_1 _) rfl ?_
                      refine AW.goto X (tgt := 52) dX12_moves_97 (by decide) ?_
                      refine AW.cgw (ih52 (kx + 1) (by omega) (by omega)) ⟨rfl, rfl, rfl, ?_, ?_, rfl, rfl, trivial⟩
                      · first | (rw [mv_s (by omega)]; done) | (rw [mv_n (by omega)]; done)
                      · simp [coatsTo, Nat.add_assoc, *]
              refine AW.cgw (L52 _ 0 (Nat.lt_succ_self _) (by omega)) ⟨rfl, rfl, rfl, ?_, ?_, rfl, rfl, trivial⟩
              · simp [coatsTo]
              · simp [coatsTo]
        refine AW.cgw (L40 _ 0 (Nat.lt_succ_self _) (by omega)) ⟨rfl, rfl, rfl, ?_, ?_, rfl, trivial⟩
        · rfl
        · rfl
    · have gz : ¬ z = nI 0 ∧ ¬ z = nI 1 := ⟨by rintro rfl; exact absurd h22 (by decide), by rintro rfl; exact absurd h22 (by decide)⟩
      refine AW.aload_n X dX12_moves_25 (i := 0) rfl rfl ?_
      refine AW.bipush X (v := -5) dX12_moves_26 rfl ?_
      refine AW.callV X dX12_moves_28 lX12_98 cfX12 (c_X12_no (k := 5) hR (by decide) (by decide)) om0 rfl rfl rfl rfl ⟨rfl, rfl⟩ (pI_k fun r μ1 hr => ?_)
      refine AW.iret X hQ dX12_moves_31 ⟨_, rfl, ?_⟩
      refine rm_of ?_ hr
      obtain ⟨gz1, gz2⟩ := gz
      simp [S_moves, *]
  · refine AW.aload_n X dX12_moves_10 (i := 0) rfl rfl ?_
    refine AW.iconst X (v := -1) dX12_moves_11 rfl ?_
    refine AW.callV X dX12_moves_12 lX12_98 cfX12 (c_X12_no (k := 1) hR (by decide) (by decide)) om0 rfl rfl rfl rfl ⟨rfl, rfl⟩ (pI_k fun r μ1 hr => ?_)
    refine AW.iret X hQ dX12_moves_15 ⟨_, rfl, ?_⟩
    refine rm_of ?_ hr
    simp [S_moves, n01, *]
