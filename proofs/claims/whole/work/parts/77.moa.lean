theorem tmx_ask {μ : Mm} {τ : Tt} (q : TMX μ τ) (i x : Nat) (hi : i = 1 ∨ i = 2) (hI : (i = 1 → 1 ≤ x ∧ x ≤ 999) ∧ (i = 2 → 10 ≤ x ∧ x ≤ 99)) : TMX (wI μ 0 (i + 14) (nI x)) (upS τ 0 i x) := by
  have e : ∀ k', k' ≠ i → upS τ 0 i x 6 0 k' = τ 6 0 k' := fun k' h => by rw [upS_6, if_neg (fun z => h z.2)]
  have e1 : upS τ 0 i x 6 0 i = x := by rw [upS_6, if_pos ⟨rfl, rfl⟩]
  have e2 : ∀ j k', j ≠ 0 → upS τ 0 i x 6 j k' = τ 6 j k' := fun j k' h => by rw [upS_6, if_neg (fun z => h z.1)]
  have hw : ∀ k', k' ≠ i + 14 → (wI μ 0 (i + 14) (nI x)).1 0 k' = μ.1 0 k' := fun k' h => by simp [wI, h]
  have hw1 : (wI μ 0 (i + 14) (nI x)).1 0 (i + 14) = nI x := by simp [wI]
  have sm : SmM (fun o _ => o = 0) μ (wI μ 0 (i + 14) (nI x)) := SmM.w rfl
  refine ⟨⟨by rw [e 0 (by omega)]; exact q.1.1, ?_, ?_, fun c hc => by rw [e2 1 c (by decide), e2 2 c (by decide)]; exact q.1.2.2.2.1 c hc, fun h hh => ?_⟩, ⟨?_, ?_, ?_, ?_, ?_, ?_⟩, fun c hc => ?_, fun h hh => ?_⟩
  · by_cases z : i = 1
    · subst z; rw [e1]; exact hI.1 rfl
    · rw [e 1 (by omega)]; exact q.1.2.1
  · by_cases z : i = 2
    · subst z; rw [e1]; exact hI.2 rfl
    · rw [e 2 (by omega)]; exact q.1.2.2.1
  · rw [e 0 (by omega)] at hh
    have := q.1.1
    rw [upS_n (by omega)]
    exact q.1.2.2.2.2 h hh
  · rw [e 0 (by omega), hw 3 (by omega)]; exact q.2.1.1
  · by_cases z : i = 1
    · subst z; rw [e1]; exact hw1
    · rw [e 1 (by omega), hw 15 (by omega)]; exact q.2.1.2.1
  · by_cases z : i = 2
    · subst z; rw [e1]; exact hw1
    · rw [e 2 (by omega), hw 16 (by omega)]; exact q.2.1.2.2.1
  · rw [e 3 (by omega), hw 17 (by omega)]; exact q.2.1.2.2.2.1
  · rw [e 4 (by omega), hw 18 (by omega)]; exact q.2.1.2.2.2.2.1
  · rw [e 5 (by omega), hw 19 (by omega)]; exact q.2.1.2.2.2.2.2
  · rw [e2 1 c (by decide), e2 2 c (by decide), sm.2 13 c (show ¬ (13 : Nat) = 0 by decide), sm.2 14 c (show ¬ (14 : Nat) = 0 by decide)]; exact q.2.2.1 c hc
  · rw [e 0 (by omega)] at hh
    have := q.1.1
    rw [upS_n (by omega)]
    exact hmx_same (q.2.2.2 h hh) sm (fun o k a c => by unfold HPl at a; omega)
theorem tmx_pal {μ : Mm} {τ : Tt} (q : TMX μ τ) (j c x : Nat) (hj : j = 1 ∨ j = 2) (hc : c < 6) (hI : (j = 1 → x ≤ 9) ∧ (j = 2 → x ≤ 99)) : TMX (wI μ (j + 12) c (nI x)) (upS τ j c x) := by
  have e0 : ∀ k', upS τ j c x 6 0 k' = τ 6 0 k' := fun k' => by rw [upS_6, if_neg (fun z => by have := z.1; omega)]
  have e : ∀ i c', upS τ j c x 6 i c' = if i = j ∧ c' = c then x else τ 6 i c' := fun i c' => upS_6 _ _ _ _ _ _
  have sm : SmM (fun o _ => o = j + 12) μ (wI μ (j + 12) c (nI x)) := SmM.w rfl
  have hw : ∀ k, (wI μ (j + 12) c (nI x)).1 0 k = μ.1 0 k := fun k => sm.2 0 k (show ¬ 0 = j + 12 by omega)
  refine ⟨⟨by rw [e0]; exact q.1.1, by rw [e0]; exact q.1.2.1, by rw [e0]; exact q.1.2.2.1, fun c' hc' => ?_, fun h hh => ?_⟩, by rw [e0, e0, e0, e0, e0, e0, hw, hw, hw, hw, hw, hw]; exact q.2.1, fun c' hc' => ?_, fun h hh => ?_⟩
  · have := q.1.2.2.2.1 c' hc'
    rw [e, e]
    refine ⟨?_, ?_⟩
    · split
      · rename_i z; exact hI.1 z.1.symm
      · exact this.1
    · split
      · rename_i z; exact hI.2 z.1.symm
      · exact this.2
  · rw [e0] at hh
    have := q.1.1
    rw [upS_n (by omega)]
    exact q.1.2.2.2.2 h hh
  · have := q.2.2.1 c' hc'
    rw [e, e]
    rcases hj with rfl | rfl
    · refine ⟨?_, ?_⟩
      · by_cases z : c' = c
        · simp [wI, z]
        · simpa [wI, z] using this.1
      · simpa [wI] using this.2
    · refine ⟨?_, ?_⟩
      · simpa [wI] using this.1
      · by_cases z : c' = c
        · simp [wI, z]
        · simpa [wI, z] using this.2
  · rw [e0] at hh
    have := q.1.1
    rw [upS_n (by omega)]
    exact hmx_same (q.2.2.2 h hh) sm (fun o k a c => by unfold HPl at a; omega)
set_option maxRecDepth 100000 in
set_option maxHeartbeats 4000000 in
theorem c_X12_colour {l : Launch} {δ : Dl} {b : Nat} {μ : Mm} {S : St} (hR : RMX μ S) {x : Int32} {y : Int32} {z : Int32} : MCM l δ b yX12_colour cX12_colour 5 (some .int) 2 [.ref (b + 0), .int x, .int y, .int z] μ (pI fun r μ' => r = (S_colour S x y z).1 ∧ RMX μ' (S_colour S x y z).2) := by
  have hT := rm_t hR
  have W := rm_w hR
  have bn := ti_n hT.1
  refine MC.intro ([some (.ref (b + 0)), some (.int x), some (.int y), some (.int z), none]) (by decide) rfl rfl fun κ Qc hl hQ X => ?_
  subst hl
  refine AW.iload_n X dX12_colour_0 (i := 1) rfl rfl ?_
  refine AW.iconstN X 0 dX12_colour_1 rfl ?_
  refine AW.iconstN X 5 dX12_colour_2 rfl ?_
  refine AW.callS X dX12_colour_3 lX12_90 (c_within (m := 6) (dn_s 5).symm (by decide)) rfl rfl rfl rfl ⟨rfl, rfl⟩ (pR_k ?_)
  refine AW.if_neB X (tgt := 15) dX12_colour_6 (by decide) (fun h6 => ?_) (fun h6 => ?_)
  · obtain ⟨c, hc, ec⟩ := inr_of (x := x) (m := 6) (by omega) h6
    subst ec
    have cc := cl_n (show c < 2147483648 by omega)
    refine AW.iload_n X dX12_colour_15 (i := 2) rfl rfl ?_
    refine AW.iconstN X 0 dX12_colour_16 rfl ?_
    refine AW.iconstN X 1 dX12_colour_17 rfl ?_
    refine AW.callS X dX12_colour_18 lX12_90 (c_within (m := 2) (dn_s 1).symm (by decide)) rfl rfl rfl rfl ⟨rfl, rfl⟩ (pR_k ?_)
    refine AW.if_neB X (tgt := 31) dX12_colour_21 (by decide) (fun h21 => ?_) (fun h21 => ?_)
    · have hz2 := h21
      have z01 : y = nI 0 ∨ y = nI 1 := by obtain ⟨j9, h9, e9⟩ := inr_of (m := 2) (by decide) hz2; rcases (show j9 = 0 ∨ j9 = 1 by omega) with rfl | rfl; exact Or.inl e9; exact Or.inr e9
      rcases z01 with rfl | rfl
      · skip
        refine AW.iload_n X dX12_colour_31 (i := 3) rfl rfl ?_
        refine AW.iconstN X 0 dX12_colour_32 rfl ?_
        refine AW.iload_n X dX12_colour_33 (i := 2) rfl rfl ?_
        refine AW.if_neN X (tgt := 42) dX12_colour_34 (by decide) (by omega) (fun h34 => ?_) (fun h34 => ?_)
        · exact absurd h34 (by decide)
        · refine AW.bipushN X 9 dX12_colour_37 rfl ?_
          refine AW.goto X (tgt := 44) dX12_colour_39 (by decide) ?_
          refine AW.callS X dX12_colour_44 lX12_90 (c_within (m := 10) (dn_s 9).symm (by decide)) rfl rfl rfl rfl ⟨rfl, rfl⟩ (pR_k ?_)
          refine AW.if_neB X (tgt := 57) dX12_colour_47 (by decide) (fun h47 => ?_) (fun h47 => ?_)
          · obtain ⟨v, hv, ev⟩ := inr_of (x := z) (m := 10) (by omega) h47
            subst ev
            have cv := cl_n (show v < 2147483648 by omega)
            have g47 : ¬ nI v < 0 := pos_n (by omega)
            have k47 : ¬ nI 9 < nI v := by rw [n2_lt (by decide) (by omega)]; omega
            refine AW.iload_n X dX12_colour_57 (i := 2) rfl rfl ?_
            refine AW.if_neN X (tgt := 70) dX12_colour_58 (by decide) (by omega) (fun h58 => ?_) (fun h58 => ?_)
            · exact absurd h58 (by decide)
            · refine AW.aload_n X dX12_colour_61 (i := 0) rfl rfl ?_
              refine AW.getR X dX12_colour_62 fX12_47 rfl om0 (wm_at W 12 rfl) ?_
              refine AW.iload_n X dX12_colour_65 (i := 1) rfl rfl ?_
              refine AW.iaload X dX12_colour_66 (am_at 12 rfl) (n2_in (by omega) (by decide)) (v := (nI (S.1 6 1 c))) (by rw [n2_clamp (by omega)]; exact tm_hid hT (by omega)) ?_
              refine AW.goto X (tgt := 76) dX12_colour_67 (by decide) ?_
              refine AW.istore X dX12_colour_76 rfl ?_
              refine AW.iload_n X dX12_colour_78 (i := 2) rfl rfl ?_
              refine AW.if_neN X (tgt := 92) dX12_colour_79 (by decide) (by omega) (fun h79 => ?_) (fun h79 => ?_)
              · exact absurd h79 (by decide)
              · refine AW.aload_n X dX12_colour_82 (i := 0) rfl rfl ?_
                refine AW.getR X dX12_colour_83 fX12_47 rfl om0 (wm_at W 12 rfl) ?_
                refine AW.iload_n X dX12_colour_86 (i := 1) rfl rfl ?_
                refine AW.iload_n X dX12_colour_87 (i := 3) rfl rfl ?_
                refine AW.iastore X dX12_colour_88 (by decide) (am_at 12 rfl) (n2_in (by omega) (by decide)) ?_
                rw [n2_clamp (by omega)]
                refine AW.goto X (tgt := 99) dX12_colour_89 (by decide) ?_
                refine AW.iload X dX12_colour_99 rfl ?_
                refine AW.iret X hQ dX12_colour_101 ⟨_, rfl, ?_⟩
                have f := tmx_pal hT 1 c v (by decide) hc ⟨by intro _; omega, by intro z; exact absurd z (by decide)⟩
                exact rm_val (by simp [S_colour, n01, *]) (rm_town hR (SmM.w (Or.inl ⟨by decide, by decide⟩)) f (by rw [upS_6]; simp))
          · have g47 := not_inr (m := 9) (by decide) h47
            refine AW.aload_n X dX12_colour_50 (i := 0) rfl rfl ?_
            refine AW.bipush X (v := -6) dX12_colour_51 rfl ?_
            refine AW.callV X dX12_colour_53 lX12_98 cfX12 (c_X12_no (k := 6) hR (by decide) (by decide)) om0 rfl rfl rfl rfl ⟨rfl, rfl⟩ (pI_k fun r μ1 hr => ?_)
            refine AW.iret X hQ dX12_colour_56 ⟨_, rfl, ?_⟩
            refine rm_of ?_ hr
            rcases g47 with z9 | z9 <;> simp [S_colour, n01, *]
      · skip
        refine AW.iload_n X dX12_colour_31 (i := 3) rfl rfl ?_
        refine AW.iconstN X 0 dX12_colour_32 rfl ?_
        refine AW.iload_n X dX12_colour_33 (i := 2) rfl rfl ?_
        refine AW.if_neN X (tgt := 42) dX12_colour_34 (by decide) (by omega) (fun h34 => ?_) (fun h34 => ?_)
        · refine AW.bipushN X 99 dX12_colour_42 rfl ?_
          refine AW.callS X dX12_colour_44 lX12_90 (c_within (m := 100) (dn_s 99).symm (by decide)) rfl rfl rfl rfl ⟨rfl, rfl⟩ (pR_k ?_)
          refine AW.if_neB X (tgt := 57) dX12_colour_47 (by decide) (fun h47 => ?_) (fun h47 => ?_)
          · obtain ⟨v, hv, ev⟩ := inr_of (x := z) (m := 100) (by omega) h47
            subst ev
            have cv := cl_n (show v < 2147483648 by omega)
            have g47 : ¬ nI v < 0 := pos_n (by omega)
            have k47 : ¬ nI 99 < nI v := by rw [n2_lt (by decide) (by omega)]; omega
            refine AW.iload_n X dX12_colour_57 (i := 2) rfl rfl ?_
            refine AW.if_neN X (tgt := 70) dX12_colour_58 (by decide) (by omega) (fun h58 => ?_) (fun h58 => ?_)
            · refine AW.aload_n X dX12_colour_70 (i := 0) rfl rfl ?_
              refine AW.getR X dX12_colour_71 fX12_50 rfl om0 (wm_at W 13 rfl) ?_
              refine AW.iload_n X dX12_colour_74 (i := 1) rfl rfl ?_
              refine AW.iaload X dX12_colour_75 (am_at 13 rfl) (n2_in (by omega) (by decide)) (v := (nI (S.1 6 2 c))) (by rw [n2_clamp (by omega)]; exact tm_cos hT (by omega)) ?_
              refine AW.istore X dX12_colour_76 rfl ?_
              refine AW.iload_n X dX12_colour_78 (i := 2) rfl rfl ?_
              refine AW.if_neN X (tgt := 92) dX12_colour_79 (by decide) (by omega) (fun h79 => ?_) (fun h79 => ?_)
              · refine AW.aload_n X dX12_colour_92 (i := 0) rfl rfl ?_
                refine AW.getR X dX12_colour_93 fX12_50 rfl om0 (wm_at W 13 rfl) ?_
                refine AW.iload_n X dX12_colour_96 (i := 1) rfl rfl ?_
                refine AW.iload_n X dX12_colour_97 (i := 3) rfl rfl ?_
                refine AW.iastore X dX12_colour_98 (by decide) (am_at 13 rfl) (n2_in (by omega) (by decide)) ?_
                rw [n2_clamp (by omega)]
                refine AW.iload X dX12_colour_99 rfl ?_
                refine AW.iret X hQ dX12_colour_101 ⟨_, rfl, ?_⟩
                have f := tmx_pal hT 2 c v (by decide) hc ⟨by intro z; exact absurd z (by decide), by intro _; omega⟩
                exact rm_val (by simp [S_colour, n01, *]) (rm_town hR (SmM.w (Or.inl ⟨by decide, by decide⟩)) f (by rw [upS_6]; simp))
              · exact absurd h79 (by decide)
            · exact absurd h58 (by decide)
          · have g47 := not_inr (m := 99) (by decide) h47
            refine AW.aload_n X dX12_colour_50 (i := 0) rfl rfl ?_
            refine AW.bipush X (v := -6) dX12_colour_51 rfl ?_
            refine AW.callV X dX12_colour_53 lX12_98 cfX12 (c_X12_no (k := 6) hR (by decide) (by decide)) om0 rfl rfl rfl rfl ⟨rfl, rfl⟩ (pI_k fun r μ1 hr => ?_)
            refine AW.iret X hQ dX12_colour_56 ⟨_, rfl, ?_⟩
            refine rm_of ?_ hr
            rcases g47 with z9 | z9 <;> simp [S_colour, n01, *]
        · exact absurd h34 (by decide)
    · have gz : ¬ y = nI 0 ∧ ¬ y = nI 1 := ⟨by rintro rfl; exact absurd h21 (by decide), by rintro rfl; exact absurd h21 (by decide)⟩
      refine AW.aload_n X dX12_colour_24 (i := 0) rfl rfl ?_
      refine AW.bipush X (v := -5) dX12_colour_25 rfl ?_
      refine AW.callV X dX12_colour_27 lX12_98 cfX12 (c_X12_no (k := 5) hR (by decide) (by decide)) om0 rfl rfl rfl rfl ⟨rfl, rfl⟩ (pI_k fun r μ1 hr => ?_)
      refine AW.iret X hQ dX12_colour_30 ⟨_, rfl, ?_⟩
      refine rm_of ?_ hr
      simp [S_colour, n01, *]
  · refine AW.aload_n X dX12_colour_9 (i := 0) rfl rfl ?_
    refine AW.iconst X (v := -1) dX12_colour_10 rfl ?_
    refine AW.callV X dX12_colour_11 lX12_98 cfX12 (c_X12_no (k := 1) hR (by decide) (by decide)) om0 rfl rfl rfl rfl ⟨rfl, rfl⟩ (pI_k fun r μ1 hr => ?_)
    refine AW.iret X hQ dX12_colour_14 ⟨_, rfl, ?_⟩
    refine rm_of ?_ hr
    simp [S_colour, n01, *]
set_option maxRecDepth 100000 in
set_option maxHeartbeats 4000000 in
theorem c_X12_ask {l : Launch} {δ : Dl} {b : Nat} {μ : Mm} {S : St} (hR : RMX μ S) {y : Int32} {z : Int32} : MCM l δ b yX12_ask cX12_ask 4 (some .int) 2 [.ref (b + 0), .int y, .int z] μ (pI fun r μ' => r = (S_ask S y z).1 ∧ RMX μ' (S_ask S y z).2) := by
  have hT := rm_t hR
  have W := rm_w hR
  have bn := ti_n hT.1
  refine MC.intro ([some (.ref (b + 0)), some (.int y), some (.int z), none]) (by decide) rfl rfl fun κ Qc hl hQ X => ?_
  subst hl
  refine AW.iload_n X dX12_ask_0 (i := 1) rfl rfl ?_
  refine AW.iconstN X 0 dX12_ask_1 rfl ?_
  refine AW.iconstN X 1 dX12_ask_2 rfl ?_
  refine AW.callS X dX12_ask_3 lX12_90 (c_within (m := 2) (dn_s 1).symm (by decide)) rfl rfl rfl rfl ⟨rfl, rfl⟩ (pR_k ?_)
  refine AW.if_eqB X (tgt := 38) dX12_ask_6 (by decide) (fun h6 => ?_) (fun h6 => ?_)
  · have gz : ¬ y = nI 0 ∧ ¬ y = nI 1 := ⟨by rintro rfl; exact absurd h6 (by decide), by rintro rfl; exact absurd h6 (by decide)⟩
    refine AW.aload_n X dX12_ask_38 (i := 0) rfl rfl ?_
    refine AW.bipush X (v := -6) dX12_ask_39 rfl ?_
    refine AW.callV X dX12_ask_41 lX12_98 cfX12 (c_X12_no (k := 6) hR (by decide) (by decide)) om0 rfl rfl rfl rfl ⟨rfl, rfl⟩ (pI_k fun r μ1 hr => ?_)
    refine AW.iret X hQ dX12_ask_44 ⟨_, rfl, ?_⟩
    refine rm_of ?_ hr
    obtain ⟨gz1, gz2⟩ := gz
    simp [S_ask, n01, *]
  · have hz2 := h6
    have z01 : y = nI 0 ∨ y = nI 1 := by obtain ⟨j9, h9, e9⟩ := inr_of (m := 2) (by decide) hz2; rcases (show j9 = 0 ∨ j9 = 1 by omega) with rfl | rfl; exact Or.inl e9; exact Or.inr e9
    rcases z01 with rfl | rfl
    · skip
      refine AW.iload_n X dX12_ask_9 (i := 2) rfl rfl ?_
      refine AW.iload_n X dX12_ask_10 (i := 1) rfl rfl ?_
      refine AW.if_neN X (tgt := 18) dX12_ask_11 (by decide) (by omega) (fun h11 => ?_) (fun h11 => ?_)
      · exact absurd h11 (by decide)
      · refine AW.iconstN X 1 dX12_ask_14 rfl ?_
        refine AW.goto X (tgt := 20) dX12_ask_15 (by decide) ?_
        refine AW.iload_n X dX12_ask_20 (i := 1) rfl rfl ?_
        refine AW.if_neN X (tgt := 30) dX12_ask_21 (by decide) (by omega) (fun h21 => ?_) (fun h21 => ?_)
        · exact absurd h21 (by decide)
        · refine AW.sipushN X 999 dX12_ask_24 rfl ?_
          refine AW.goto X (tgt := 32) dX12_ask_27 (by decide) ?_
          refine AW.callS X dX12_ask_32 lX12_90 (c_X12_within) rfl rfl rfl rfl ⟨rfl, rfl⟩ (pR_k ?_)
          refine AW.if_neB X (tgt := 45) dX12_ask_35 (by decide) (fun h35 => ?_) (fun h35 => ?_)
          · obtain ⟨hA1, hA2⟩ := of_decide_eq_true h35
            obtain ⟨v, hv, ev, lv⟩ := ge_of (by decide) hA1
            subst ev
            have cv := cl_n (show v < 2147483648 by omega)
            have g8 := hA1
            have g9 := hA2
            rw [n2_lt (by decide) hv] at hA2
            refine AW.iload_n X dX12_ask_45 (i := 1) rfl rfl ?_
            refine AW.if_neN X (tgt := 56) dX12_ask_46 (by decide) (by omega) (fun h46 => ?_) (fun h46 => ?_)
            · exact absurd h46 (by decide)
            · refine AW.aload_n X dX12_ask_49 (i := 0) rfl rfl ?_
              refine AW.getI X dX12_ask_50 fX12_74 rfl om0 (tm_l hT) ?_
              refine AW.goto X (tgt := 60) dX12_ask_53 (by decide) ?_
              refine AW.istore_n X dX12_ask_60 (i := 3) rfl rfl ?_
              refine AW.iload_n X dX12_ask_61 (i := 1) rfl rfl ?_
              refine AW.if_neN X (tgt := 73) dX12_ask_62 (by decide) (by omega) (fun h62 => ?_) (fun h62 => ?_)
              · exact absurd h62 (by decide)
              · refine AW.aload_n X dX12_ask_65 (i := 0) rfl rfl ?_
                refine AW.iload_n X dX12_ask_66 (i := 2) rfl rfl ?_
                refine AW.putI X dX12_ask_67 fX12_74 rfl rfl ⟨rfl, rfl⟩ (by decide) om0 ?_
                refine AW.goto X (tgt := 78) dX12_ask_70 (by decide) ?_
                refine AW.iload_n X dX12_ask_78 (i := 3) rfl rfl ?_
                refine AW.iret X hQ dX12_ask_79 ⟨_, rfl, ?_⟩
                have f := tmx_ask hT 1 v (by decide) ⟨by intro _; exact ⟨by omega, by omega⟩, by intro w9; exact absurd w9 (by decide)⟩
                exact rm_val (by simp [S_ask, n01, *]) (rm_town hR (SmM.w (Or.inr ⟨rfl, Or.inr ⟨by decide, by decide⟩⟩)) f (by rw [upS_6]; simp))
          · have g35 : z < nI 1 ∨ nI 999 < z := by have := of_decide_eq_false h35; by_cases q : z < nI 1; exact Or.inl q; exact Or.inr (Classical.byContradiction (fun w9 => this ⟨q, w9⟩))
            refine AW.aload_n X dX12_ask_38 (i := 0) rfl rfl ?_
            refine AW.bipush X (v := -6) dX12_ask_39 rfl ?_
            refine AW.callV X dX12_ask_41 lX12_98 cfX12 (c_X12_no (k := 6) hR (by decide) (by decide)) om0 rfl rfl rfl rfl ⟨rfl, rfl⟩ (pI_k fun r μ1 hr => ?_)
            refine AW.iret X hQ dX12_ask_44 ⟨_, rfl, ?_⟩
            refine rm_of ?_ hr
            rcases g35 with z9 | z9 <;> simp [S_ask, n01, *]
    · skip
      refine AW.iload_n X dX12_ask_9 (i := 2) rfl rfl ?_
      refine AW.iload_n X dX12_ask_10 (i := 1) rfl rfl ?_
      refine AW.if_neN X (tgt := 18) dX12_ask_11 (by decide) (by omega) (fun h11 => ?_) (fun h11 => ?_)
      · refine AW.bipushN X 10 dX12_ask_18 rfl ?_
        refine AW.iload_n X dX12_ask_20 (i := 1) rfl rfl ?_
        refine AW.if_neN X (tgt := 30) dX12_ask_21 (by decide) (by omega) (fun h21 => ?_) (fun h21 => ?_)
        · refine AW.bipushN X 99 dX12_ask_30 rfl ?_
          refine AW.callS X dX12_ask_32 lX12_90 (c_X12_within) rfl rfl rfl rfl ⟨rfl, rfl⟩ (pR_k ?_)
          refine AW.if_neB X (tgt := 45) dX12_ask_35 (by decide) (fun h35 => ?_) (fun h35 => ?_)
          · obtain ⟨hA1, hA2⟩ := of_decide_eq_true h35
            obtain ⟨v, hv, ev, lv⟩ := ge_of (by decide) hA1
            subst ev
            have cv := cl_n (show v < 2147483648 by omega)
            have g8 := hA1
            have g9 := hA2
            rw [n2_lt (by decide) hv] at hA2
            refine AW.iload_n X dX12_ask_45 (i := 1) rfl rfl ?_
            refine AW.if_neN X (tgt := 56) dX12_ask_46 (by decide) (by omega) (fun h46 => ?_) (fun h46 => ?_)
            · refine AW.aload_n X dX12_ask_56 (i := 0) rfl rfl ?_
              refine AW.getI X dX12_ask_57 fX12_78 rfl om0 (tm_w hT) ?_
              refine AW.istore_n X dX12_ask_60 (i := 3) rfl rfl ?_
              refine AW.iload_n X dX12_ask_61 (i := 1) rfl rfl ?_
              refine AW.if_neN X (tgt := 73) dX12_ask_62 (by decide) (by omega) (fun h62 => ?_) (fun h62 => ?_)
              · refine AW.aload_n X dX12_ask_73 (i := 0) rfl rfl ?_
                refine AW.iload_n X dX12_ask_74 (i := 2) rfl rfl ?_
                refine AW.putI X dX12_ask_75 fX12_78 rfl rfl ⟨rfl, rfl⟩ (by decide) om0 ?_
                refine AW.iload_n X dX12_ask_78 (i := 3) rfl rfl ?_
                refine AW.iret X hQ dX12_ask_79 ⟨_, rfl, ?_⟩
                have f := tmx_ask hT 2 v (by decide) ⟨by intro w9; exact absurd w9 (by decide), by intro _; exact ⟨by omega, by omega⟩⟩
                exact rm_val (by simp [S_ask, n01, *]) (rm_town hR (SmM.w (Or.inr ⟨rfl, Or.inr ⟨by decide, by decide⟩⟩)) f (by rw [upS_6]; simp))
              · exact absurd h62 (by decide)
            · exact absurd h46 (by decide)
          · have g35 : z < nI 10 ∨ nI 99 < z := by have := of_decide_eq_false h35; by_cases q : z < nI 10; exact Or.inl q; exact Or.inr (Classical.byContradiction (fun w9 => this ⟨q, w9⟩))
            refine AW.aload_n X dX12_ask_38 (i := 0) rfl rfl ?_
            refine AW.bipush X (v := -6) dX12_ask_39 rfl ?_
            refine AW.callV X dX12_ask_41 lX12_98 cfX12 (c_X12_no (k := 6) hR (by decide) (by decide)) om0 rfl rfl rfl rfl ⟨rfl, rfl⟩ (pI_k fun r μ1 hr => ?_)
            refine AW.iret X hQ dX12_ask_44 ⟨_, rfl, ?_⟩
            refine rm_of ?_ hr
            rcases g35 with z9 | z9 <;> simp [S_ask, n01, *]
        · exact absurd h21 (by decide)
      · exact absurd h11 (by decide)
theorem upm_top {V : Vt} {k : Nat} (hV : HI V) (h : lyA V k ≠ 0) : upmost V k (V 0 2) = some (top (lyA V k)) := by
  have hb := lyN hV k
  have f := top_f _ hb (Nat.pos_of_ne_zero h)
  have hn := hi_n hV
  have key : ∀ i, i ≤ V 0 2 → top (lyA V k) < i → upmost V k i = some (top (lyA V k)) := by
    intro i
    induction i with
    | zero => intro _ q; exact absurd q (Nat.not_lt_zero _)
    | succ i ih =>
      intro hi q
      have e := lyA_bit (V := V) (k := k) (c := i) (by omega)
      by_cases z : i = top (lyA V k)
      · have t : lies V i k = true := by rw [← e, z]; exact f.1
        rw [upmost, if_pos t, z]
      · have t : lies V i k = false := by rw [← e]; exact f.2.2.2.2 i (by omega) (by omega)
        rw [upmost, if_neg (by rw [t]; decide)]
        exact ih (by omega) (by omega)
  refine key _ (Nat.le_refl _) ?_
  by_cases z : top (lyA V k) < V 0 2
  · exact z
  · have := ly_bit V k (V 0 2) (top (lyA V k))
    rw [decide_eq_false z, Bool.false_and] at this
    have t2 := f.1
    rw [lyA] at t2 this
    exact absurd (t2.symm.trans this) (by decide)
set_option maxRecDepth 100000 in
set_option maxHeartbeats 4000000 in
theorem c_X12_scratch {l : Launch} {δ : Dl} {b : Nat} {μ : Mm} {S : St} (hR : RMX μ S) {x : Int32} {y : Int32} : MCM l δ b yX12_scratch cX12_scratch 5 (some .int) 3 [.ref (b + 0), .int x, .int y] μ (pI fun r μ' => r = (S_scratch S x y).1 ∧ RMX μ' (S_scratch S x y).2) := by
  have hT := rm_t hR
  have W := rm_w hR
  have bn := ti_n hT.1
  refine MC.intro ([some (.ref (b + 0)), some (.int x), some (.int y), none, none]) (by decide) rfl rfl fun κ Qc hl hQ X => ?_
  subst hl
  refine AW.aload_n X dX12_scratch_0 (i := 0) rfl rfl ?_
  refine AW.iload_n X dX12_scratch_1 (i := 1) rfl rfl ?_
  refine AW.callV X dX12_scratch_2 lX12_94 cfX12 (c_X12_isHouse W hT) om0 rfl rfl rfl rfl ⟨rfl, rfl⟩ (pR_k ?_)
  refine AW.if_neB X (tgt := 14) dX12_scratch_5 (by decide) (fun h5 => ?_) (fun h5 => ?_)
  · obtain ⟨h, hh, eh⟩ := inr_of (x := x) (m := (S.1 6 0 0)) (by omega) h5
    subst eh
    have ch := cl_n (show h < 2147483648 by omega)
    have hIh := tm_hi hT hh
    have bnh := hi_n hIh
    have bah := hi_a hIh
    refine AW.iload_n X dX12_scratch_14 (i := 2) rfl rfl ?_
    refine AW.callS X dX12_scratch_15 lX12_142 (c_X12_isCell) rfl rfl rfl rfl ⟨rfl, rfl⟩ (pR_k ?_)
    refine AW.if_neB X (tgt := 28) dX12_scratch_18 (by decide) (fun h18 => ?_) (fun h18 => ?_)
    · obtain ⟨k, hk, ek⟩ := inr_of (x := y) (m := 12) (by omega) h18
      subst ek
      have ck := cl_n (show k < 2147483648 by omega)
      refine AW.aload_n X dX12_scratch_28 (i := 0) rfl rfl ?_
      refine AW.iload_n X dX12_scratch_29 (i := 1) rfl rfl ?_
      refine AW.iload_n X dX12_scratch_30 (i := 2) rfl rfl ?_
      refine AW.callV X dX12_scratch_31 lX12_152 cfX12 (c_X12_lies W hT (by omega) (by omega)) om0 rfl rfl rfl rfl ⟨rfl, rfl⟩ (pR_k ?_)
      refine AW.istore_n X dX12_scratch_34 (i := 3) rfl rfl ?_
      have by_ := lyN hIh k
      refine AW.iload_n X dX12_scratch_35 (i := 3) rfl rfl ?_
      refine AW.if_neN X (tgt := 46) dX12_scratch_36 (by decide) (by omega) (fun h36 => ?_) (fun h36 => ?_)
      · have ft := top_f _ by_ (Nat.pos_of_ne_zero h36)
        have f8 := ft.2.2.2.1
        refine AW.bipushN X 31 dX12_scratch_46 rfl ?_
        refine AW.iload_n X dX12_scratch_48 (i := 3) rfl rfl ?_
        refine AW.callS X dX12_scratch_49 lX12_228 (c_J6_numberOfLeadingZeros_0f7a4 (by omega) (by omega)) rfl rfl rfl rfl ⟨rfl, rfl⟩ (pR_k ?_)
        refine AW.isubN X dX12_scratch_52 (by omega) ?_
        rw [show 31 - (31 - top (lyA (S.1 h) k)) = top (lyA (S.1 h) k) from by omega]
        refine AW.istore X dX12_scratch_53 rfl ?_
        refine AW.aload_n X dX12_scratch_55 (i := 0) rfl rfl ?_
        refine AW.getR X dX12_scratch_56 fX12_44 rfl om0 (wm_at W 11 rfl) ?_
        refine AW.bipushN X 12 dX12_scratch_59 rfl ?_
        refine AW.iload_n X dX12_scratch_61 (i := 1) rfl rfl ?_
        refine AW.imulN X dX12_scratch_62 ?_
        refine AW.iload_n X dX12_scratch_63 (i := 2) rfl rfl ?_
        refine AW.iaddN X dX12_scratch_64 ?_
        refine AW.dup2 X dX12_scratch_65 rfl rfl ?_
        refine AW.iaload X dX12_scratch_66 (am_at 11 rfl) (n2_in (by omega) (by decide)) (v := (nI (S.1 h 6 k))) (by rw [n2_clamp (by omega)]; exact tm_6 hT (by omega) (by omega)) ?_
        refine AW.iconstN X 1 dX12_scratch_67 rfl ?_
        refine AW.iload X dX12_scratch_68 rfl ?_
        refine AW.shl1 X dX12_scratch_70 (by omega) ?_
        refine AW.iorN X dX12_scratch_71 ?_
        refine AW.iastore X dX12_scratch_72 (by decide) (am_at 11 rfl) (n2_in (by omega) (by decide)) ?_
        rw [n2_clamp (by omega)]
        refine AW.iload X dX12_scratch_73 rfl ?_
        refine AW.iret X hQ dX12_scratch_75 ⟨_, rfl, ?_⟩
        have gu := upm_top hIh h36
        have f := tmx_up hT (by omega) (gone_sm hk) (hmx_gone (k := k) (x := S.1 h 6 k ||| 2 ^ top (lyA (S.1 h) k)) (tm_h hT hh) (or_lt8 (hi_go hIh hk) (pow_lt8 (by omega))))
        exact rm_val (by simp [S_scratch, *]) (rm_town hR ((gone_sm hk).mono (fun _ _ z => hpl_t z)) f (by rw [upH_6 (by omega)]; exact Nat.le_refl _))
      · have gu := (upm_ly (S.1 h) k (S.1 h 0 2)).mp h36
        refine AW.aload_n X dX12_scratch_39 (i := 0) rfl rfl ?_
        refine AW.bipush X (v := -6) dX12_scratch_40 rfl ?_
        refine AW.callV X dX12_scratch_42 lX12_98 cfX12 (c_X12_no (k := 6) hR (by decide) (by decide)) om0 rfl rfl rfl rfl ⟨rfl, rfl⟩ (pI_k fun r μ1 hr => ?_)
        refine AW.iret X hQ dX12_scratch_45 ⟨_, rfl, ?_⟩
        refine rm_of ?_ hr
        simp [S_scratch, *]
    · refine AW.aload_n X dX12_scratch_21 (i := 0) rfl rfl ?_
      refine AW.bipush X (v := -5) dX12_scratch_22 rfl ?_
      refine AW.callV X dX12_scratch_24 lX12_98 cfX12 (c_X12_no (k := 5) hR (by decide) (by decide)) om0 rfl rfl rfl rfl ⟨rfl, rfl⟩ (pI_k fun r μ1 hr => ?_)
      refine AW.iret X hQ dX12_scratch_27 ⟨_, rfl, ?_⟩
      refine rm_of ?_ hr
      simp [S_scratch, *]
  · refine AW.aload_n X dX12_scratch_8 (i := 0) rfl rfl ?_
    refine AW.iconst X (v := -1) dX12_scratch_9 rfl ?_
    refine AW.callV X dX12_scratch_10 lX12_98 cfX12 (c_X12_no (k := 1) hR (by decide) (by decide)) om0 rfl rfl rfl rfl ⟨rfl, rfl⟩ (pI_k fun r μ1 hr => ?_)
    refine AW.iret X hQ dX12_scratch_13 ⟨_, rfl, ?_⟩
    refine rm_of ?_ hr
    simp [S_scratch, *]
