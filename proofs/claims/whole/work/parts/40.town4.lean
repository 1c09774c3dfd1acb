set_option maxRecDepth 100000 in
set_option maxHeartbeats 4000000 in
theorem c_X9_passYear {l : Launch} {δ : Dl} {b : Nat} {μ : Mm} (W : WX μ.2.2) {B : Nat} (hB : TA B) {τ : Tt} (hT : TX μ B τ) (hn : 0 < τ 6 0 0) : MCX l δ b yX9_passYear cX9_passYear 6 none 6 [.ref (b + B)] μ (pV fun μ' => TX μ' B (yearT τ) ∧ SameI (TR B) μ μ') := by
  have bn := ti_n hT.1
  refine MC.intro ([some (.ref (b + B)), none, none, none, none, none]) (by decide) rfl rfl fun κ Qc hl hQ X => ?_
  subst hl
  have hT5 : TX (wI μ B 9 (nI (sd (sd (sd (sd (sd (τ 6 0 5)))))))) B (yr1 τ) := tx_num hT 5 _ (by decide) (by decide)
  have hh : (dv (τ 6 0 5) (τ 6 0 0)) < τ 6 0 0 := dv_lt hn
  have t1 := dv_lt (s := (sd (τ 6 0 5))) (n := 8) (by decide)
  have t2 := dv_lt (s := (sd (sd (τ 6 0 5)))) (n := 6) (by decide)
  have t3 := dv_lt (s := (sd (sd (sd (τ 6 0 5))))) (n := 9) (by decide)
  have t4 := dv_lt (s := (sd (sd (sd (sd (τ 6 0 5)))))) (n := 12) (by decide)
  have e1 : yr1 τ (dv (τ 6 0 5) (τ 6 0 0)) = τ (dv (τ 6 0 5) (τ 6 0 0)) := upS_n (by omega)
  have hv := tx_h hT5 (h := (dv (τ 6 0 5) (τ 6 0 0))) (by show _ < τ 6 0 0; omega)
  have h8 := hi_n hv.1
  refine AW.aload_n X dX9_passYear_0 (i := 0) rfl rfl ?_
  refine AW.aload_n X dX9_passYear_1 (i := 0) rfl rfl ?_
  refine AW.getI X dX9_passYear_2 fX9_17 rfl (ta_ob hB) (v := (nI (τ 6 0 0))) (tx_n hT) ?_
  refine AW.callV X dX9_passYear_5 lX9_115 cfX9 (c_X9_draw (μ := μ) (s := (τ 6 0 5)) (m := (τ 6 0 0)) hB (tx_seed hT) (by omega) (by omega)) (ta_ob hB) rfl rfl rfl rfl ⟨rfl, rfl⟩ (pI_k fun r0 μ1 hr0 => ?_)
  obtain ⟨rfl, rfl⟩ := hr0
  refine AW.istore_n X dX9_passYear_8 (i := 1) rfl rfl ?_
  refine AW.aload_n X dX9_passYear_9 (i := 0) rfl rfl ?_
  refine AW.bipushN X 8 dX9_passYear_10 rfl ?_
  refine AW.callV X dX9_passYear_12 lX9_115 cfX9 (c_X9_draw (μ := (wI μ B 9 (nI (sd (τ 6 0 5))))) (s := (sd (τ 6 0 5))) (m := 8) hB (by simp [wI]) (by omega) (by omega)) (ta_ob hB) rfl rfl rfl rfl ⟨rfl, rfl⟩ (pI_k fun r1 μ2 hr1 => ?_)
  obtain ⟨rfl, rfl⟩ := hr1
  rw [wI_wI]
  refine AW.istore_n X dX9_passYear_15 (i := 2) rfl rfl ?_
  refine AW.aload_n X dX9_passYear_16 (i := 0) rfl rfl ?_
  refine AW.bipushN X 6 dX9_passYear_17 rfl ?_
  refine AW.callV X dX9_passYear_19 lX9_115 cfX9 (c_X9_draw (μ := (wI μ B 9 (nI (sd (sd (τ 6 0 5)))))) (s := (sd (sd (τ 6 0 5)))) (m := 6) hB (by simp [wI]) (by omega) (by omega)) (ta_ob hB) rfl rfl rfl rfl ⟨rfl, rfl⟩ (pI_k fun r2 μ3 hr2 => ?_)
  obtain ⟨rfl, rfl⟩ := hr2
  rw [wI_wI]
  refine AW.istore_n X dX9_passYear_22 (i := 3) rfl rfl ?_
  refine AW.aload_n X dX9_passYear_23 (i := 0) rfl rfl ?_
  refine AW.bipushN X 9 dX9_passYear_24 rfl ?_
  refine AW.callV X dX9_passYear_26 lX9_115 cfX9 (c_X9_draw (μ := (wI μ B 9 (nI (sd (sd (sd (τ 6 0 5))))))) (s := (sd (sd (sd (τ 6 0 5))))) (m := 9) hB (by simp [wI]) (by omega) (by omega)) (ta_ob hB) rfl rfl rfl rfl ⟨rfl, rfl⟩ (pI_k fun r3 μ4 hr3 => ?_)
  obtain ⟨rfl, rfl⟩ := hr3
  rw [wI_wI]
  refine AW.iconstN X 1 dX9_passYear_29 rfl ?_
  refine AW.iaddN X dX9_passYear_30 ?_
  refine AW.istore X dX9_passYear_31 rfl ?_
  refine AW.aload_n X dX9_passYear_33 (i := 0) rfl rfl ?_
  refine AW.bipushN X 12 dX9_passYear_34 rfl ?_
  refine AW.callV X dX9_passYear_36 lX9_115 cfX9 (c_X9_draw (μ := (wI μ B 9 (nI (sd (sd (sd (sd (τ 6 0 5)))))))) (s := (sd (sd (sd (sd (τ 6 0 5)))))) (m := 12) hB (by simp [wI]) (by omega) (by omega)) (ta_ob hB) rfl rfl rfl rfl ⟨rfl, rfl⟩ (pI_k fun r4 μ5 hr4 => ?_)
  obtain ⟨rfl, rfl⟩ := hr4
  rw [wI_wI]
  refine AW.istore X dX9_passYear_39 rfl ?_
  refine AW.iload_n X dX9_passYear_41 (i := 1) rfl rfl ?_
  refine AW.aload_n X dX9_passYear_42 (i := 0) rfl rfl ?_
  refine AW.getI X dX9_passYear_43 fX9_17 rfl (ta_ob hB) (v := (nI (τ 6 0 0))) (by simp [wI, tx_n hT]) ?_
  refine AW.icmp_geN X (tgt := 69) dX9_passYear_46 (by decide) (by omega) (by omega) (fun h46 => ?_) (fun h46 => ?_)
  · omega
  · refine AW.aload_n X dX9_passYear_49 (i := 0) rfl rfl ?_
    refine AW.getR X dX9_passYear_50 fX9_11 rfl (ta_ob hB) (wx_fronts W hB) ?_
    refine AW.iload_n X dX9_passYear_53 (i := 1) rfl rfl ?_
    refine AW.aaload X (r := (B + 4 + 7 * (dv (τ 6 0 5) (τ 6 0 0)))) dX9_passYear_54 rfl rfl (ta_f hB) (n2_in (by omega) (by decide)) (by rw [n2_clamp (by omega)]; exact wx_front W hB (by omega)) ?_
    refine AW.iload_n X dX9_passYear_55 (i := 2) rfl rfl ?_
    refine AW.iload_n X dX9_passYear_56 (i := 3) rfl rfl ?_
    refine AW.iload X dX9_passYear_57 rfl ?_
    refine AW.iload X dX9_passYear_59 rfl ?_
    refine AW.aload_n X dX9_passYear_61 (i := 0) rfl rfl ?_
    refine AW.getI X dX9_passYear_62 fX9_34 rfl (ta_ob hB) (v := (nI (yr1 τ 6 0 3))) (tx_yr hT5) ?_
    rcases Nat.lt_or_ge (yr1 τ (dv (τ 6 0 5) (τ 6 0 0)) 0 2) 8 with q8 | q8
    · refine AW.callV X dX9_passYear_65 lX9_118 cfX3 (c_X3_putOn (μ := (wI μ B 9 (nI (sd (sd (sd (sd (sd (τ 6 0 5))))))))) W (fa_of hB (by omega)) hv (by omega)) (fa_ob (fa_of hB (by omega))) rfl rfl rfl rfl ⟨rfl, rfl⟩ (pI_k fun rp μp hp => ?_)
      obtain ⟨rfl, rfl⟩ := hp
      have e2 : yr2 τ = upH (yr1 τ) (dv (τ 6 0 5) (τ 6 0 0)) (putV (yr1 τ (dv (τ 6 0 5) (τ 6 0 0))) (dv (sd (τ 6 0 5)) 8) (dv (sd (sd (τ 6 0 5))) 6) (dv (sd (sd (sd (τ 6 0 5)))) 9 + 1) (dv (sd (sd (sd (sd (τ 6 0 5))))) 12) (yr1 τ 6 0 3)) := if_pos q8
      have hT6 : TX (putM (wI μ B 9 (nI (sd (sd (sd (sd (sd (τ 6 0 5)))))))) (B + 4 + 7 * (dv (τ 6 0 5) (τ 6 0 0))) (yr1 τ (dv (τ 6 0 5) (τ 6 0 0)) 0 2) (dv (sd (τ 6 0 5)) 8) (dv (sd (sd (τ 6 0 5))) 6) (dv (sd (sd (sd (τ 6 0 5)))) 9 + 1) (dv (sd (sd (sd (sd (τ 6 0 5))))) 12) (yr1 τ 6 0 3)) B (yr2 τ) := by rw [e2]; exact tx_house hT5 (by omega) (put_same _ _ _ _ _ _ _ _).same (hv_put _ hv q8 t1 t2 (by omega) (by omega) t4)
      have s6 : SameI (TR B) μ (putM (wI μ B 9 (nI (sd (sd (sd (sd (sd (τ 6 0 5)))))))) (B + 4 + 7 * (dv (τ 6 0 5) (τ 6 0 0))) (yr1 τ (dv (τ 6 0 5) (τ 6 0 0)) 0 2) (dv (sd (τ 6 0 5)) 8) (dv (sd (sd (τ 6 0 5))) 6) (dv (sd (sd (sd (τ 6 0 5)))) 9 + 1) (dv (sd (sd (sd (sd (τ 6 0 5))))) 12) (yr1 τ 6 0 3)) := (SameI.wI ⟨by omega, by omega⟩).tr ((put_same _ _ _ _ _ _ _ _).mono (fr_tr (by omega)))
      generalize (putM (wI μ B 9 (nI (sd (sd (sd (sd (sd (τ 6 0 5)))))))) (B + 4 + 7 * (dv (τ 6 0 5) (τ 6 0 0))) (yr1 τ (dv (τ 6 0 5) (τ 6 0 0)) 0 2) (dv (sd (τ 6 0 5)) 8) (dv (sd (sd (τ 6 0 5))) 6) (dv (sd (sd (sd (τ 6 0 5)))) 9 + 1) (dv (sd (sd (sd (sd (τ 6 0 5))))) 12) (yr1 τ 6 0 3)) = μ6 at hT6 s6 ⊢
      refine AW.pop X dX9_passYear_68 rfl ?_
      refine AW.aload_n X dX9_passYear_69 (i := 0) rfl rfl ?_
      refine AW.aload_n X dX9_passYear_70 (i := 0) rfl rfl ?_
      refine AW.bipushN X 8 dX9_passYear_71 rfl ?_
      refine AW.callV X dX9_passYear_73 lX9_115 cfX9 (c_X9_draw (μ := μ6) (s := yr2 τ 6 0 5) (m := 8) hB (tx_seed hT6) (by decide) (by decide)) (ta_ob hB) rfl rfl rfl rfl ⟨rfl, rfl⟩ (pI_k fun r7 μ7 hr7 => ?_)
      obtain ⟨rfl, rfl⟩ := hr7
      have hT7 : TX (wI μ6 B 9 (nI (sd (yr2 τ 6 0 5)))) B (yr3 τ) := tx_num hT6 5 _ (by decide) (by decide)
      have s7 : SameI (TR B) μ (wI μ6 B 9 (nI (sd (yr2 τ 6 0 5)))) := s6.tr (SameI.wI ⟨by omega, by omega⟩)
      have t5 := dv_lt (s := yr2 τ 6 0 5) (n := 8) (by decide)
      generalize (wI μ6 B 9 (nI (sd (yr2 τ 6 0 5)))) = μ7 at hT7 s7 ⊢
      refine AW.callV X dX9_passYear_76 lX9_122 cfX9 (c_X9_hailOnAll (wx_same W s7) hB hT7 (by omega)) (ta_ob hB) rfl rfl rfl rfl ⟨rfl, rfl⟩ (pI_k fun r8 μ8 hr8 => ?_)
      obtain ⟨rfl, hT8, s8⟩ := hr8
      replace hT8 : TX μ8 B (yr4 τ) := hT8
      replace s8 := s7.tr s8
      refine AW.pop X dX9_passYear_79 rfl ?_
      refine AW.aload_n X dX9_passYear_80 (i := 0) rfl rfl ?_
      refine AW.callV X dX9_passYear_81 lX9_125 cfX9 (c_X9_letFall (wx_same W s8) hB hT8) (ta_ob hB) rfl rfl rfl rfl ⟨rfl, rfl⟩ (pI_k fun r9 μ9 hr9 => ?_)
      obtain ⟨rfl, hT9, s9⟩ := hr9
      replace hT9 : TX μ9 B (yr5 τ) := hT9
      replace s9 := s8.tr s9
      refine AW.pop X dX9_passYear_84 rfl ?_
      refine AW.aload_n X dX9_passYear_85 (i := 0) rfl rfl ?_
      refine AW.dup X dX9_passYear_86 rfl ?_
      refine AW.getI X dX9_passYear_87 fX9_34 rfl (ta_ob hB) (v := (nI (yr5 τ 6 0 3))) (tx_yr hT9) ?_
      refine AW.iconstN X 1 dX9_passYear_90 rfl ?_
      refine AW.iaddN X dX9_passYear_91 ?_
      refine AW.putI X dX9_passYear_92 fX9_34 rfl rfl ⟨rfl, rfl⟩ (by decide) (ta_ob hB) ?_
      refine AW.vret X hQ dX9_passYear_95 ⟨rfl, ?_⟩
      exact ⟨tx_num hT9 3 _ (by decide) (by decide), s9.tr (SameI.wI ⟨by omega, by omega⟩)⟩
    · refine AW.callV X dX9_passYear_65 lX9_118 cfX3 (c_X3_putOn_full (μ := (wI μ B 9 (nI (sd (sd (sd (sd (sd (τ 6 0 5))))))))) W (fa_of hB (by omega)) hv (by omega)) (fa_ob (fa_of hB (by omega))) rfl rfl rfl rfl ⟨rfl, rfl⟩ (pI_k fun rp μp hp => ?_)
      obtain ⟨rfl, rfl⟩ := hp
      have e2 : yr2 τ = yr1 τ := if_neg (by omega)
      have hT6 : TX (wI μ B 9 (nI (sd (sd (sd (sd (sd (τ 6 0 5)))))))) B (yr2 τ) := by rw [e2]; exact hT5
      have s6 : SameI (TR B) μ (wI μ B 9 (nI (sd (sd (sd (sd (sd (τ 6 0 5)))))))) := SameI.wI ⟨by omega, by omega⟩
      generalize (wI μ B 9 (nI (sd (sd (sd (sd (sd (τ 6 0 5)))))))) = μ6 at hT6 s6 ⊢
      refine AW.pop X dX9_passYear_68 rfl ?_
      refine AW.aload_n X dX9_passYear_69 (i := 0) rfl rfl ?_
      refine AW.aload_n X dX9_passYear_70 (i := 0) rfl rfl ?_
      refine AW.bipushN X 8 dX9_passYear_71 rfl ?_
      refine AW.callV X dX9_passYear_73 lX9_115 cfX9 (c_X9_draw (μ := μ6) (s := yr2 τ 6 0 5) (m := 8) hB (tx_seed hT6) (by decide) (by decide)) (ta_ob hB) rfl rfl rfl rfl ⟨rfl, rfl⟩ (pI_k fun r7 μ7 hr7 => ?_)
      obtain ⟨rfl, rfl⟩ := hr7
      have hT7 : TX (wI μ6 B 9 (nI (sd (yr2 τ 6 0 5)))) B (yr3 τ) := tx_num hT6 5 _ (by decide) (by decide)
      have s7 : SameI (TR B) μ (wI μ6 B 9 (nI (sd (yr2 τ 6 0 5)))) := s6.tr (SameI.wI ⟨by omega, by omega⟩)
      have t5 := dv_lt (s := yr2 τ 6 0 5) (n := 8) (by decide)
      generalize (wI μ6 B 9 (nI (sd (yr2 τ 6 0 5)))) = μ7 at hT7 s7 ⊢
      refine AW.callV X dX9_passYear_76 lX9_122 cfX9 (c_X9_hailOnAll (wx_same W s7) hB hT7 (by omega)) (ta_ob hB) rfl rfl rfl rfl ⟨rfl, rfl⟩ (pI_k fun r8 μ8 hr8 => ?_)
      obtain ⟨rfl, hT8, s8⟩ := hr8
      replace hT8 : TX μ8 B (yr4 τ) := hT8
      replace s8 := s7.tr s8
      refine AW.pop X dX9_passYear_79 rfl ?_
      refine AW.aload_n X dX9_passYear_80 (i := 0) rfl rfl ?_
      refine AW.callV X dX9_passYear_81 lX9_125 cfX9 (c_X9_letFall (wx_same W s8) hB hT8) (ta_ob hB) rfl rfl rfl rfl ⟨rfl, rfl⟩ (pI_k fun r9 μ9 hr9 => ?_)
      obtain ⟨rfl, hT9, s9⟩ := hr9
      replace hT9 : TX μ9 B (yr5 τ) := hT9
      replace s9 := s8.tr s9
      refine AW.pop X dX9_passYear_84 rfl ?_
      refine AW.aload_n X dX9_passYear_85 (i := 0) rfl rfl ?_
      refine AW.dup X dX9_passYear_86 rfl ?_
      refine AW.getI X dX9_passYear_87 fX9_34 rfl (ta_ob hB) (v := (nI (yr5 τ 6 0 3))) (tx_yr hT9) ?_
      refine AW.iconstN X 1 dX9_passYear_90 rfl ?_
      refine AW.iaddN X dX9_passYear_91 ?_
      refine AW.putI X dX9_passYear_92 fX9_34 rfl rfl ⟨rfl, rfl⟩ (by decide) (ta_ob hB) ?_
      refine AW.vret X hQ dX9_passYear_95 ⟨rfl, ?_⟩
      exact ⟨tx_num hT9 3 _ (by decide) (by decide), s9.tr (SameI.wI ⟨by omega, by omega⟩)⟩
theorem ta_far {B B2 : Nat} (h : TA B) (h2 : TA B2) (hne : B ≠ B2) : B + 46 ≤ B2 ∨ B2 + 46 ≤ B := by
  rcases h with rfl | rfl | rfl <;> rcases h2 with rfl | rfl | rfl <;> omega
theorem tr_apart {B B2 : Nat} (h : B + 46 ≤ B2 ∨ B2 + 46 ≤ B) : ∀ x, TR B2 x → ¬ TR B x := fun x hx hy => by
  obtain ⟨h1, h2⟩ := hx
  obtain ⟨h3, h4⟩ := hy
  omega
theorem wx_bc {μ : Mm} {o o2 kd : Nat} (W : WX μ.2.2) (hF : FA o) : WX (bcM μ o o2 kd).2.2 := wx_wR W hF
theorem bec_end {μ μ1 : Mm} {B B2 : Nat} {τ : Tt} (hI : TI τ) (hT1 : TX μ1 B2 τ) (hs1 : Same (TR B) μ μ1) (W1 : WX μ1.2.2) (hn1 : μ1.1 B 2 = nI (τ 6 0 0)) (hh1 : ∀ h, h < τ 6 0 0 → HV μ1 (B + 4 + 7 * h) (τ h)) (far : B + 46 ≤ B2 ∨ B2 + 46 ≤ B) :
    TX (wI (wI (wI (wI (wI (cpI (cpI μ1 (B2 + 2) (B + 2) 0 0 6) (B2 + 3) (B + 3) 0 0 6) B 5 (nI (τ 6 0 1))) B 6 (nI (τ 6 0 2))) B 7 (nI (τ 6 0 3))) B 8 (nI (τ 6 0 4))) B 9 (nI (τ 6 0 5))) B τ ∧ Same (TR B) μ (wI (wI (wI (wI (wI (cpI (cpI μ1 (B2 + 2) (B + 2) 0 0 6) (B2 + 3) (B + 3) 0 0 6) B 5 (nI (τ 6 0 1))) B 6 (nI (τ 6 0 2))) B 7 (nI (τ 6 0 3))) B 8 (nI (τ 6 0 4))) B 9 (nI (τ 6 0 5))) ∧ WX (wI (wI (wI (wI (wI (cpI (cpI μ1 (B2 + 2) (B + 2) 0 0 6) (B2 + 3) (B + 3) 0 0 6) B 5 (nI (τ 6 0 1))) B 6 (nI (τ 6 0 2))) B 7 (nI (τ 6 0 3))) B 8 (nI (τ 6 0 4))) B 9 (nI (τ 6 0 5))).2.2 := by
  have t : ∀ j, j < 46 → TR B (B + j) := fun j hj => ⟨by omega, by omega⟩
  have t0 : TR B B := t 0 (by omega)
  have s : SameI (fun q => q = B ∨ q = B + 2 ∨ q = B + 3) μ1 (wI (wI (wI (wI (wI (cpI (cpI μ1 (B2 + 2) (B + 2) 0 0 6) (B2 + 3) (B + 3) 0 0 6) B 5 (nI (τ 6 0 1))) B 6 (nI (τ 6 0 2))) B 7 (nI (τ 6 0 3))) B 8 (nI (τ 6 0 4))) B 9 (nI (τ 6 0 5))) :=
    ((((((SameI.cpI (Or.inr (Or.inl rfl))).tr (SameI.cpI (Or.inr (Or.inr rfl)))).tr (SameI.wI (Or.inl rfl))).tr (SameI.wI (Or.inl rfl))).tr (SameI.wI (Or.inl rfl))).tr (SameI.wI (Or.inl rfl))).tr (SameI.wI (Or.inl rfl))
  refine ⟨⟨hI, ⟨?_, ?_, ?_, ?_, ?_, ?_⟩, fun c hc => ?_, fun h hh => ?_⟩, hs1.tr (s.same.mono ?_), W1⟩
  · simpa [wI, cpI] using hn1
  · simp [wI]
  · simp [wI]
  · simp [wI]
  · simp [wI]
  · simp [wI]
  · have h1 := hT1.2.2.1 c hc
    simp [wI, cpI, va_cpy, hc, show ¬ B2 + 3 = B + 2 by omega]
    exact h1
  · refine hv_same (hh1 h hh) s.same (fun q hq hz => ?_)
    have := hq.1
    rcases hz with hz | hz | hz <;> omega
  · rintro q (rfl | rfl | rfl)
    · exact t0
    · exact t 2 (by omega)
    · exact t 3 (by omega)
set_option maxRecDepth 100000 in
set_option maxHeartbeats 4000000 in
theorem c_X9_become {l : Launch} {δ : Dl} {b : Nat} {μ : Mm} (W : WX μ.2.2) {B B2 : Nat} (hB : TA B) (hB2 : TA B2) {τ : Tt} (hT : TX μ B2 τ) (hne : B ≠ B2) : MCX l δ b yX9_become cX9_become 3 none 2 [.ref (b + B), .ref (b + B2)] μ (pV fun μ' => TX μ' B τ ∧ Same (TR B) μ μ' ∧ WX μ'.2.2) := by
  have bn := ti_n hT.1
  refine MC.intro ([some (.ref (b + B)), some (.ref (b + B2)), none]) (by decide) rfl rfl fun κ Qc hl hQ X => ?_
  subst hl
  have far := ta_far hB hB2 hne
  have L10 : ∀ (m i : Nat) (μ1 : Mm), τ 6 0 0 - i < m → i ≤ τ 6 0 0 → Same (TR B) μ μ1 → WX μ1.2.2 → μ1.1 B 2 = nI (τ 6 0 0) → (∀ h, h < i → HV μ1 (B + 4 + 7 * h) (τ h)) → AW κ (δ, b, NX, 3, shX, False, Qc, 0, 0) NX 0 0 10 [some (.ref (b + B)), some (.ref (b + B2)), some (.int (nI i))] [] μ1 := by
    intro m
    induction m with
    | zero => intro i μ1 hm; exact absurd hm (Nat.not_lt_zero _)
    | succ m ih =>
      intro i μ1 hm hi hs1 W1 hn1 hh1
      have hT1 := tx_same hT hs1 (tr_apart (by omega))
      refine AW.iload_n X dX9_become_10 (i := 2) rfl rfl ?_
      refine AW.aload_n X dX9_become_11 (i := 0) rfl rfl ?_
      refine AW.getI X dX9_become_12 fX9_17 rfl (ta_ob hB) (v := (nI (τ 6 0 0))) hn1 ?_
      refine AW.icmp_geN X (tgt := 39) dX9_become_15 (by decide) (by omega) (by omega) (fun h15 => ?_) (fun h15 => ?_)
      · obtain rfl : i = τ 6 0 0 := by omega
        refine AW.aload_n X dX9_become_39 (i := 1) rfl rfl ?_
        refine AW.getR X dX9_become_40 fX9_21 rfl (ta_ob hB2) (wx_hides W1 hB2) ?_
        refine AW.iconstN X 0 dX9_become_43 rfl ?_
        refine AW.aload_n X dX9_become_44 (i := 0) rfl rfl ?_
        refine AW.getR X dX9_become_45 fX9_21 rfl (ta_ob hB) (wx_hides W1 hB) ?_
        refine AW.iconstN X 0 dX9_become_48 rfl ?_
        refine AW.bipushN X 6 dX9_become_49 rfl ?_
        refine AW.acopyI X dX9_become_51 lX9_copy (ta_h hB2) (ta_h hB) (by omega) (by omega) (by decide) (by decide) ⟨rfl, rfl⟩ ?_
        refine AW.aload_n X dX9_become_54 (i := 1) rfl rfl ?_
        refine AW.getR X dX9_become_55 fX9_25 rfl (ta_ob hB2) (wx_costs W1 hB2) ?_
        refine AW.iconstN X 0 dX9_become_58 rfl ?_
        refine AW.aload_n X dX9_become_59 (i := 0) rfl rfl ?_
        refine AW.getR X dX9_become_60 fX9_25 rfl (ta_ob hB) (wx_costs W1 hB) ?_
        refine AW.iconstN X 0 dX9_become_63 rfl ?_
        refine AW.bipushN X 6 dX9_become_64 rfl ?_
        refine AW.acopyI X dX9_become_66 lX9_copy (ta_c hB2) (ta_c hB) (by omega) (by omega) (by decide) (by decide) ⟨rfl, rfl⟩ ?_
        refine AW.aload_n X dX9_become_69 (i := 0) rfl rfl ?_
        refine AW.aload_n X dX9_become_70 (i := 1) rfl rfl ?_
        refine AW.getI X dX9_become_71 fX9_28 rfl (ta_ob hB2) (v := (nI (τ 6 0 1))) (by simp [wI, cpI, show ¬ B2 = B by omega, show ¬ B2 = B + 2 by omega, show ¬ B2 = B + 3 by omega]; exact tx_lim hT1) ?_
        refine AW.putI X dX9_become_74 fX9_28 rfl rfl ⟨rfl, rfl⟩ (by decide) (ta_ob hB) ?_
        refine AW.aload_n X dX9_become_77 (i := 0) rfl rfl ?_
        refine AW.aload_n X dX9_become_78 (i := 1) rfl rfl ?_
        refine AW.getI X dX9_become_79 fX9_31 rfl (ta_ob hB2) (v := (nI (τ 6 0 2))) (by simp [wI, cpI, show ¬ B2 = B by omega, show ¬ B2 = B + 2 by omega, show ¬ B2 = B + 3 by omega]; exact tx_wid hT1) ?_
        refine AW.putI X dX9_become_82 fX9_31 rfl rfl ⟨rfl, rfl⟩ (by decide) (ta_ob hB) ?_
        refine AW.aload_n X dX9_become_85 (i := 0) rfl rfl ?_
        refine AW.aload_n X dX9_become_86 (i := 1) rfl rfl ?_
        refine AW.getI X dX9_become_87 fX9_34 rfl (ta_ob hB2) (v := (nI (τ 6 0 3))) (by simp [wI, cpI, show ¬ B2 = B by omega, show ¬ B2 = B + 2 by omega, show ¬ B2 = B + 3 by omega]; exact tx_yr hT1) ?_
        refine AW.putI X dX9_become_90 fX9_34 rfl rfl ⟨rfl, rfl⟩ (by decide) (ta_ob hB) ?_
        refine AW.aload_n X dX9_become_93 (i := 0) rfl rfl ?_
        refine AW.aload_n X dX9_become_94 (i := 1) rfl rfl ?_
        refine AW.getI X dX9_become_95 fX9_37 rfl (ta_ob hB2) (v := (nI (τ 6 0 4))) (by simp [wI, cpI, show ¬ B2 = B by omega, show ¬ B2 = B + 2 by omega, show ¬ B2 = B + 3 by omega]; exact tx_fal hT1) ?_
        refine AW.putI X dX9_become_98 fX9_37 rfl rfl ⟨rfl, rfl⟩ (by decide) (ta_ob hB) ?_
        refine AW.aload_n X dX9_become_101 (i := 0) rfl rfl ?_
        refine AW.aload_n X dX9_become_102 (i := 1) rfl rfl ?_
        refine AW.getI X dX9_become_103 fX9_40 rfl (ta_ob hB2) (v := (nI (τ 6 0 5))) (by simp [wI, cpI, show ¬ B2 = B by omega, show ¬ B2 = B + 2 by omega, show ¬ B2 = B + 3 by omega]; exact tx_seed hT1) ?_
        refine AW.putI X dX9_become_106 fX9_40 rfl rfl ⟨rfl, rfl⟩ (by decide) (ta_ob hB) ?_
        refine AW.vret X hQ dX9_become_109 ⟨rfl, ?_⟩
        exact bec_end hT1.1 hT1 hs1 W1 hn1 hh1 (by omega)
      · refine AW.aload_n X dX9_become_18 (i := 0) rfl rfl ?_
        refine AW.getR X dX9_become_19 fX9_11 rfl (ta_ob hB) (wx_fronts W1 hB) ?_
        refine AW.iload_n X dX9_become_22 (i := 2) rfl rfl ?_
        refine AW.aaload X (r := (B + 4 + 7 * i)) dX9_become_23 rfl rfl (ta_f hB) (n2_in (by omega) (by decide)) (by rw [n2_clamp (by omega)]; exact wx_front W1 hB (by omega)) ?_
        refine AW.aload_n X dX9_become_24 (i := 1) rfl rfl ?_
        refine AW.getR X dX9_become_25 fX9_11 rfl (ta_ob hB2) (wx_fronts W1 hB2) ?_
        refine AW.iload_n X dX9_become_28 (i := 2) rfl rfl ?_
        refine AW.aaload X (r := (B2 + 4 + 7 * i)) dX9_become_29 rfl rfl (ta_f hB2) (n2_in (by omega) (by decide)) (by rw [n2_clamp (by omega)]; exact wx_front W1 hB2 (by omega)) ?_
        refine AW.callV X dX9_become_30 lX9_50 cfX3 (c_X3_become W1 (fa_of hB (by omega)) (fa_of hB2 (by omega)) (tx_h hT1 (h := i) (by omega)) (by omega)) (fa_ob (fa_of hB (by omega))) rfl rfl rfl rfl ⟨rfl, rfl⟩ (pV_k fun μ2 hr => ?_)
        subst hr
        refine AW.iincN X (c := (i + 1)) dX9_become_33 rfl (inc_1 _) rfl ?_
        refine AW.goto X (tgt := 10) dX9_become_36 (by decide) ?_
        have s2 := bc_same μ1 (B + 4 + 7 * i) (B2 + 4 + 7 * i) (19 + τ i 0 0)
        refine ih (i + 1) (bcM μ1 (B + 4 + 7 * i) (B2 + 4 + 7 * i) (19 + τ i 0 0)) (by omega) (by omega) (hs1.tr (s2.mono (fr_tr (by omega)))) (wx_bc W1 (fa_of hB (by omega))) ?_ ?_
        · rw [(s2.1 B (fun z => by have := z.1; omega)).1]; exact hn1
        · intro h hh
          by_cases z : h = i
          · subst z; exact hv_bc (by omega) (tx_h hT1 (by omega))
          · refine hv_same (hh1 h (by omega)) s2 (fun q hq hz => ?_)
            obtain ⟨q1, q2⟩ := hq
            obtain ⟨q3, q4⟩ := hz
            omega
  refine AW.aload_n X dX9_become_0 (i := 0) rfl rfl ?_
  refine AW.aload_n X dX9_become_1 (i := 1) rfl rfl ?_
  refine AW.getI X dX9_become_2 fX9_17 rfl (ta_ob hB2) (tx_n hT) ?_
  refine AW.putI X dX9_become_5 fX9_17 rfl rfl ⟨rfl, rfl⟩ (by decide) (ta_ob hB) ?_
  refine AW.iconstN X 0 dX9_become_8 rfl ?_
  refine AW.istore_n X dX9_become_9 (i := 2) rfl rfl ?_
  have s0 : SameI (TR B) μ (wI μ B 2 (nI (τ 6 0 0))) := SameI.wI ⟨by omega, by omega⟩
  exact AW.cgw (L10 _ 0 _ (Nat.lt_succ_self _) (by omega) s0.same W (by simp [wI]) (fun h hh => absurd hh (Nat.not_lt_zero h))) ⟨rfl, rfl, rfl, trivial⟩
