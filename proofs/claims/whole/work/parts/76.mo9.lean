theorem wI0 (μ : Mm) (v w : Int32) : wI (wI μ 0 19 v) 0 19 w = wI μ 0 19 w := wI_wI μ 0 19 v w
set_option maxRecDepth 100000 in
set_option maxHeartbeats 4000000 in
theorem c_X12_years {l : Launch} {δ : Dl} {b : Nat} {μ : Mm} {S : St} (hR : RMX μ S) {x : Int32} : MCM l δ b yX12_years cX12_years 9 (some .int) 6 [.ref (b + 0), .int x] μ (pI fun r μ' => r = (S_years S x).1 ∧ RMX μ' (S_years S x).2) := by
  have hT := rm_t hR
  have W := rm_w hR
  have bn := ti_n hT.1
  refine MC.intro ([some (.ref (b + 0)), some (.int x), none, none, none, none, none, none, none]) (by decide) rfl rfl fun κ Qc hl hQ X => ?_
  subst hl
  refine AW.aload_n X dX12_years_0 (i := 0) rfl rfl ?_
  refine AW.getI X dX12_years_1 fX12_87 rfl om0 (tm_0 hT) ?_
  refine AW.if_neN X (tgt := 14) dX12_years_4 (by decide) (by omega) (fun h4 => ?_) (fun h4 => ?_)
  · have g4 : ¬ S.1 6 0 0 = 0 := h4
    refine AW.iload_n X dX12_years_14 (i := 1) rfl rfl ?_
    refine AW.iconstN X 1 dX12_years_15 rfl ?_
    refine AW.bipushN X 40 dX12_years_16 rfl ?_
    refine AW.callS X dX12_years_18 lX12_90 (c_X12_within) rfl rfl rfl rfl ⟨rfl, rfl⟩ (pR_k ?_)
    refine AW.if_neB X (tgt := 31) dX12_years_21 (by decide) (fun h21 => ?_) (fun h21 => ?_)
    · obtain ⟨hA1, hA2⟩ := of_decide_eq_true h21
      obtain ⟨a, ha, ea, la⟩ := ge_of (by decide) hA1
      subst ea
      have ca := cl_n (show a < 2147483648 by omega)
      have g8 := hA1
      have g9 := hA2
      rw [n2_lt (by decide) ha] at hA2
      refine AW.aload_n X dX12_years_31 (i := 0) rfl rfl ?_
      refine AW.getI X dX12_years_32 fX12_272 rfl om0 (tm_f hT) ?_
      refine AW.istore_n X dX12_years_35 (i := 2) rfl rfl ?_
      refine AW.iconstN X 0 dX12_years_36 rfl ?_
      refine AW.istore_n X dX12_years_37 (i := 3) rfl rfl ?_
      have L38 : ∀ (m38 ix : Nat) (μc : Mm), a - ix < m38 → ix ≤ a → (TMX μc (yearsT S.1 ix)) → (SmM TPl μ μc) → AW κ (δ, b, NM, 9, shM, False, Qc, 0, 0) NM 0 0 38 [some (.ref (b + 0)), some (.int (nI a)), some (.int (nI (S.1 6 0 4))), some (.int (nI ix)), none, none, none, none, none] [] μc := by
        intro m38
        induction m38 with
        | zero => intro ix μc hm; exact absurd hm (Nat.not_lt_zero _)
        | succ m38 ih38 =>
          intro ix μc hm38 hi38 hTc hsc
          have yn := yearsT_n bn (by omega) ix
          have Wc := wm_same W hsc
          refine AW.iload_n X dX12_years_38 (i := 3) rfl rfl ?_
          refine AW.iload_n X dX12_years_39 (i := 1) rfl rfl ?_
          refine AW.icmp_geN X (tgt := 146) dX12_years_40 (by decide) (by omega) (by omega) (fun h40 => ?_) (fun h40 => ?_)
          · obtain rfl : a = ix := by omega
            have n40 := Nat.not_lt_of_le h40
            refine AW.aload_n X dX12_years_146 (i := 0) rfl rfl ?_
            refine AW.getI X dX12_years_147 fX12_272 rfl om0 (v := (nI (yearsT S.1 a 6 0 4))) (tm_f hTc) ?_
            refine AW.iload_n X dX12_years_150 (i := 2) rfl rfl ?_
            refine AW.isub X dX12_years_151 ?_
            refine AW.iret X hQ dX12_years_152 ⟨_, rfl, ?_⟩
            exact rm_val (by simp [S_years, *]) (rm_town hR hsc hTc (by omega))
          · have n40 := Nat.not_le_of_lt h40
            obtain ⟨τc, hτ⟩ : ∃ t, yearsT S.1 ix = t := ⟨_, rfl⟩
            rw [hτ] at hTc yn
            have bnc := ti_n hTc.1
            have hnc : 0 < τc 6 0 0 := by omega
            refine AW.aload_n X dX12_years_43 (i := 0) rfl rfl ?_
            refine AW.aload_n X dX12_years_44 (i := 0) rfl rfl ?_
            refine AW.getI X dX12_years_45 fX12_87 rfl om0 (v := (nI (τc 6 0 0))) (tm_0 hTc) ?_
            refine AW.callV X dX12_years_48 lX12_279 cfX12 (c_X12_draw (μ := μc) (s := (τc 6 0 5)) (m := (τc 6 0 0)) (tm_s hTc) (by omega) (by omega)) om0 rfl rfl rfl rfl ⟨rfl, rfl⟩ (pI_k fun rd0 μd1 hrd0 => ?_)
            obtain ⟨rfl, rfl⟩ := hrd0
            refine AW.istore X dX12_years_51 rfl ?_
            refine AW.aload_n X dX12_years_53 (i := 0) rfl rfl ?_
            refine AW.bipushN X 8 dX12_years_54 rfl ?_
            refine AW.callV X dX12_years_56 lX12_279 cfX12 (c_X12_draw (μ := (wI μc 0 19 (nI (sd (τc 6 0 5))))) (s := (sd (τc 6 0 5))) (m := 8) (by simp [wI]) (by omega) (by omega)) om0 rfl rfl rfl rfl ⟨rfl, rfl⟩ (pI_k fun rd1 μd2 hrd1 => ?_)
            obtain ⟨rfl, rfl⟩ := hrd1
            rw [wI0]
            refine AW.istore X dX12_years_59 rfl ?_
            refine AW.aload_n X dX12_years_61 (i := 0) rfl rfl ?_
            refine AW.bipushN X 6 dX12_years_62 rfl ?_
            refine AW.callV X dX12_years_64 lX12_279 cfX12 (c_X12_draw (μ := (wI μc 0 19 (nI (sd (sd (τc 6 0 5)))))) (s := (sd (sd (τc 6 0 5)))) (m := 6) (by simp [wI]) (by omega) (by omega)) om0 rfl rfl rfl rfl ⟨rfl, rfl⟩ (pI_k fun rd2 μd3 hrd2 => ?_)
            obtain ⟨rfl, rfl⟩ := hrd2
            rw [wI0]
            refine AW.istore X dX12_years_67 rfl ?_
            refine AW.aload_n X dX12_years_69 (i := 0) rfl rfl ?_
            refine AW.bipushN X 9 dX12_years_70 rfl ?_
            refine AW.callV X dX12_years_72 lX12_279 cfX12 (c_X12_draw (μ := (wI μc 0 19 (nI (sd (sd (sd (τc 6 0 5))))))) (s := (sd (sd (sd (τc 6 0 5))))) (m := 9) (by simp [wI]) (by omega) (by omega)) om0 rfl rfl rfl rfl ⟨rfl, rfl⟩ (pI_k fun rd3 μd4 hrd3 => ?_)
            obtain ⟨rfl, rfl⟩ := hrd3
            rw [wI0]
            refine AW.iconstN X 1 dX12_years_75 rfl ?_
            refine AW.iaddN X dX12_years_76 ?_
            refine AW.istore X dX12_years_77 rfl ?_
            refine AW.aload_n X dX12_years_79 (i := 0) rfl rfl ?_
            refine AW.bipushN X 12 dX12_years_80 rfl ?_
            refine AW.callV X dX12_years_82 lX12_279 cfX12 (c_X12_draw (μ := (wI μc 0 19 (nI (sd (sd (sd (sd (τc 6 0 5)))))))) (s := (sd (sd (sd (sd (τc 6 0 5)))))) (m := 12) (by simp [wI]) (by omega) (by omega)) om0 rfl rfl rfl rfl ⟨rfl, rfl⟩ (pI_k fun rd4 μd5 hrd4 => ?_)
            obtain ⟨rfl, rfl⟩ := hrd4
            rw [wI0]
            refine AW.istore X dX12_years_85 rfl ?_
            have hT5 : TMX (wI μc 0 19 (nI (sd (sd (sd (sd (sd (τc 6 0 5)))))))) (yr1 τc) := tmx_num hTc 5 _ (by decide) (by decide)
            have hh : (dv (τc 6 0 5) (τc 6 0 0)) < τc 6 0 0 := dv_lt hnc
            have t1 := dv_lt (s := (sd (τc 6 0 5))) (n := 8) (by decide)
            have t2 := dv_lt (s := (sd (sd (τc 6 0 5)))) (n := 6) (by decide)
            have t3 := dv_lt (s := (sd (sd (sd (τc 6 0 5))))) (n := 9) (by decide)
            have t4 := dv_lt (s := (sd (sd (sd (sd (τc 6 0 5)))))) (n := 12) (by decide)
            have e0 : yr1 τc 6 0 0 = τc 6 0 0 := by rw [yr1, upS_6]; simp
            have hh5 : (dv (τc 6 0 5) (τc 6 0 0)) < yr1 τc 6 0 0 := by omega
            have hv := tm_h hT5 hh5
            have h8 := hi_n hv.1
            have s5 : SmM TPl μ (wI μc 0 19 (nI (sd (sd (sd (sd (sd (τc 6 0 5)))))))) := hsc.trn (SmM.w (Or.inr ⟨rfl, Or.inr ⟨by decide, by decide⟩⟩))
            refine AW.aload_n X dX12_years_87 (i := 0) rfl rfl ?_
            refine AW.getR X dX12_years_88 fX12_26 rfl om0 (wm_at Wc 5 rfl) ?_
            refine AW.iload X dX12_years_91 rfl ?_
            refine AW.iaload X dX12_years_93 (am_at 5 rfl) (n2_in (by omega) (by decide)) (v := (nI (yr1 τc (dv (τc 6 0 5) (τc 6 0 0)) 0 2))) (by rw [n2_clamp (by omega)]; exact tm_n hT5 hh5) ?_
            refine AW.bipushN X 8 dX12_years_94 rfl ?_
            refine AW.icmp_geN X (tgt := 114) dX12_years_96 (by decide) (by omega) (by omega) (fun h96 => ?_) (fun h96 => ?_)
            · have e2 : yr2 τc = yr1 τc := if_neg (by omega)
              have hT6 : TMX (wI μc 0 19 (nI (sd (sd (sd (sd (sd (τc 6 0 5)))))))) (yr2 τc) := by rw [e2]; exact hT5
              have s6 := s5
              generalize (wI μc 0 19 (nI (sd (sd (sd (sd (sd (τc 6 0 5)))))))) = μ6 at hT6 s6 ⊢
              have n96 := Nat.not_lt_of_le h96
              refine AW.aload_n X dX12_years_114 (i := 0) rfl rfl ?_
              refine AW.aload_n X dX12_years_115 (i := 0) rfl rfl ?_
              refine AW.bipushN X 8 dX12_years_116 rfl ?_
              refine AW.callV X dX12_years_118 lX12_279 cfX12 (c_X12_draw (μ := μ6) (s := yr2 τc 6 0 5) (m := 8) (tm_s hT6) (by decide) (by decide)) om0 rfl rfl rfl rfl ⟨rfl, rfl⟩ (pI_k fun r7 μ7 hr7 => ?_)
              obtain ⟨rfl, rfl⟩ := hr7
              have hT7 : TMX (wI μ6 0 19 (nI (sd (yr2 τc 6 0 5)))) (yr3 τc) := tmx_num hT6 5 _ (by decide) (by decide)
              have s7 : SmM TPl μ (wI μ6 0 19 (nI (sd (yr2 τc 6 0 5)))) := s6.trn (SmM.w (Or.inr ⟨rfl, Or.inr ⟨by decide, by decide⟩⟩))
              have t5 := dv_lt (s := yr2 τc 6 0 5) (n := 8) (by decide)
              generalize (wI μ6 0 19 (nI (sd (yr2 τc 6 0 5)))) = μ7 at hT7 s7 ⊢
              refine AW.callV X dX12_years_121 lX12_204 cfX12 (c_X12_hailAll (wm_same W s7) hT7 (by omega)) om0 rfl rfl rfl rfl ⟨rfl, rfl⟩ (pI_k fun r8 μ8 hr8 => ?_)
              obtain ⟨rfl, hT8, s8⟩ := hr8
              replace hT8 : TMX μ8 (yr4 τc) := hT8
              replace s8 := s7.trn s8
              refine AW.pop X dX12_years_124 rfl ?_
              refine AW.aload_n X dX12_years_125 (i := 0) rfl rfl ?_
              refine AW.callV X dX12_years_126 lX12_275 cfX12 (c_X12_fall (wm_same W s8) hT8) om0 rfl rfl rfl rfl ⟨rfl, rfl⟩ (pI_k fun r9 μ9 hr9 => ?_)
              obtain ⟨rfl, hT9, s9⟩ := hr9
              replace hT9 : TMX μ9 (yr5 τc) := hT9
              replace s9 := s8.trn s9
              refine AW.pop X dX12_years_129 rfl ?_
              refine AW.aload_n X dX12_years_130 (i := 0) rfl rfl ?_
              refine AW.dup X dX12_years_131 rfl ?_
              refine AW.getI X dX12_years_132 fX12_139 rfl om0 (v := (nI (yr5 τc 6 0 3))) (tm_y hT9) ?_
              refine AW.iconstN X 1 dX12_years_135 rfl ?_
              refine AW.iaddN X dX12_years_136 ?_
              refine AW.putI X dX12_years_137 fX12_139 rfl rfl ⟨rfl, rfl⟩ (by decide) om0 ?_
              refine AW.iincN X (c := (ix + 1)) dX12_years_140 rfl (inc_1 _) rfl ?_
              refine AW.goto X (tgt := 38) dX12_years_143 (by decide) ?_
              refine AW.cgw (ih38 (ix + 1) (wI μ9 0 17 (nI ((yr5 τc 6 0 3) + 1))) (by omega) (by omega) (by rw [yearsT, hτ]; exact tmx_num hT9 3 _ (by decide) (by decide)) (s9.trn (SmM.w (Or.inr ⟨rfl, Or.inr ⟨by decide, by decide⟩⟩)))) ⟨rfl, rfl, rfl, rfl, trivial⟩
            · have n96 := Nat.not_le_of_lt h96
              have W5 : WM (wI μc 0 19 (nI (sd (sd (sd (sd (sd (τc 6 0 5)))))))).2.2 := wm_same W s5
              refine AW.aload_n X dX12_years_99 (i := 0) rfl rfl ?_
              refine AW.iload X dX12_years_100 rfl ?_
              refine AW.iload X dX12_years_102 rfl ?_
              refine AW.iload X dX12_years_104 rfl ?_
              refine AW.iload X dX12_years_106 rfl ?_
              refine AW.iload X dX12_years_108 rfl ?_
              refine AW.callV X dX12_years_110 lX12_145 cfX12 (c_X12_paints (μ := (wI μc 0 19 (nI (sd (sd (sd (sd (sd (τc 6 0 5))))))))) W5 hT5 hh5 (by omega)) om0 rfl rfl rfl rfl ⟨rfl, rfl⟩ (pI_k fun rp μp hp9 => ?_)
              obtain ⟨rfl, rfl⟩ := hp9
              have e2 : yr2 τc = upH (yr1 τc) (dv (τc 6 0 5) (τc 6 0 0)) (putV (yr1 τc (dv (τc 6 0 5) (τc 6 0 0))) (dv (sd (τc 6 0 5)) 8) (dv (sd (sd (τc 6 0 5))) 6) (dv (sd (sd (sd (τc 6 0 5)))) 9 + 1) (dv (sd (sd (sd (sd (τc 6 0 5))))) 12) (yr1 τc 6 0 3)) := if_pos (by omega)
              have hT6 : TMX (pmM (wI μc 0 19 (nI (sd (sd (sd (sd (sd (τc 6 0 5)))))))) (dv (τc 6 0 5) (τc 6 0 0)) (yr1 τc (dv (τc 6 0 5) (τc 6 0 0)) 0 2) (dv (sd (τc 6 0 5)) 8) (dv (sd (sd (τc 6 0 5))) 6) (dv (sd (sd (sd (τc 6 0 5)))) 9 + 1) (dv (sd (sd (sd (sd (τc 6 0 5))))) 12) (yr1 τc 6 0 3)) (yr2 τc) := by rw [e2]; exact tmx_up hT5 (by omega) (pm_sm (by omega)) (hmx_put _ hv (by omega) t1 t2 (by omega) (by omega) t4)
              have s6 : SmM TPl μ (pmM (wI μc 0 19 (nI (sd (sd (sd (sd (sd (τc 6 0 5)))))))) (dv (τc 6 0 5) (τc 6 0 0)) (yr1 τc (dv (τc 6 0 5) (τc 6 0 0)) 0 2) (dv (sd (τc 6 0 5)) 8) (dv (sd (sd (τc 6 0 5))) 6) (dv (sd (sd (sd (τc 6 0 5)))) 9 + 1) (dv (sd (sd (sd (sd (τc 6 0 5))))) 12) (yr1 τc 6 0 3)) := s5.trn ((pm_sm (by omega)).mono (fun _ _ z => hpl_t z))
              generalize (pmM (wI μc 0 19 (nI (sd (sd (sd (sd (sd (τc 6 0 5)))))))) (dv (τc 6 0 5) (τc 6 0 0)) (yr1 τc (dv (τc 6 0 5) (τc 6 0 0)) 0 2) (dv (sd (τc 6 0 5)) 8) (dv (sd (sd (τc 6 0 5))) 6) (dv (sd (sd (sd (τc 6 0 5)))) 9 + 1) (dv (sd (sd (sd (sd (τc 6 0 5))))) 12) (yr1 τc 6 0 3)) = μ6 at hT6 s6 ⊢
              refine AW.pop X dX12_years_113 rfl ?_
              refine AW.aload_n X dX12_years_114 (i := 0) rfl rfl ?_
              refine AW.aload_n X dX12_years_115 (i := 0) rfl rfl ?_
              refine AW.bipushN X 8 dX12_years_116 rfl ?_
              refine AW.callV X dX12_years_118 lX12_279 cfX12 (c_X12_draw (μ := μ6) (s := yr2 τc 6 0 5) (m := 8) (tm_s hT6) (by decide) (by decide)) om0 rfl rfl rfl rfl ⟨rfl, rfl⟩ (pI_k fun r7 μ7 hr7 => ?_)
              obtain ⟨rfl, rfl⟩ := hr7
              have hT7 : TMX (wI μ6 0 19 (nI (sd (yr2 τc 6 0 5)))) (yr3 τc) := tmx_num hT6 5 _ (by decide) (by decide)
              have s7 : SmM TPl μ (wI μ6 0 19 (nI (sd (yr2 τc 6 0 5)))) := s6.trn (SmM.w (Or.inr ⟨rfl, Or.inr ⟨by decide, by decide⟩⟩))
              have t5 := dv_lt (s := yr2 τc 6 0 5) (n := 8) (by decide)
              generalize (wI μ6 0 19 (nI (sd (yr2 τc 6 0 5)))) = μ7 at hT7 s7 ⊢
              refine AW.callV X dX12_years_121 lX12_204 cfX12 (c_X12_hailAll (wm_same W s7) hT7 (by omega)) om0 rfl rfl rfl rfl ⟨rfl, rfl⟩ (pI_k fun r8 μ8 hr8 => ?_)
              obtain ⟨rfl, hT8, s8⟩ := hr8
              replace hT8 : TMX μ8 (yr4 τc) := hT8
              replace s8 := s7.trn s8
              refine AW.pop X dX12_years_124 rfl ?_
              refine AW.aload_n X dX12_years_125 (i := 0) rfl rfl ?_
              refine AW.callV X dX12_years_126 lX12_275 cfX12 (c_X12_fall (wm_same W s8) hT8) om0 rfl rfl rfl rfl ⟨rfl, rfl⟩ (pI_k fun r9 μ9 hr9 => ?_)
              obtain ⟨rfl, hT9, s9⟩ := hr9
              replace hT9 : TMX μ9 (yr5 τc) := hT9
              replace s9 := s8.trn s9
              refine AW.pop X dX12_years_129 rfl ?_
              refine AW.aload_n X dX12_years_130 (i := 0) rfl rfl ?_
              refine AW.dup X dX12_years_131 rfl ?_
              refine AW.getI X dX12_years_132 fX12_139 rfl om0 (v := (nI (yr5 τc 6 0 3))) (tm_y hT9) ?_
              refine AW.iconstN X 1 dX12_years_135 rfl ?_
              refine AW.iaddN X dX12_years_136 ?_
              refine AW.putI X dX12_years_137 fX12_139 rfl rfl ⟨rfl, rfl⟩ (by decide) om0 ?_
              refine AW.iincN X (c := (ix + 1)) dX12_years_140 rfl (inc_1 _) rfl ?_
              refine AW.goto X (tgt := 38) dX12_years_143 (by decide) ?_
              refine AW.cgw (ih38 (ix + 1) (wI μ9 0 17 (nI ((yr5 τc 6 0 3) + 1))) (by omega) (by omega) (by rw [yearsT, hτ]; exact tmx_num hT9 3 _ (by decide) (by decide)) (s9.trn (SmM.w (Or.inr ⟨rfl, Or.inr ⟨by decide, by decide⟩⟩)))) ⟨rfl, rfl, rfl, rfl, trivial⟩
      refine AW.cgw (L38 _ 0 μ (Nat.lt_succ_self _) (by omega) hT SmM.rf) ⟨rfl, rfl, rfl, rfl, trivial⟩
    · have g21 : x < nI 1 ∨ nI 40 < x := by have := of_decide_eq_false h21; by_cases q : x < nI 1; exact Or.inl q; exact Or.inr (Classical.byContradiction (fun z => this ⟨q, z⟩))
      refine AW.aload_n X dX12_years_24 (i := 0) rfl rfl ?_
      refine AW.bipush X (v := -6) dX12_years_25 rfl ?_
      refine AW.callV X dX12_years_27 lX12_98 cfX12 (c_X12_no (k := 6) hR (by decide) (by decide)) om0 rfl rfl rfl rfl ⟨rfl, rfl⟩ (pI_k fun r μ1 hr => ?_)
      refine AW.iret X hQ dX12_years_30 ⟨_, rfl, ?_⟩
      refine rm_of ?_ hr
      rcases g21 with z | z <;> simp [S_years, *]
  · refine AW.aload_n X dX12_years_7 (i := 0) rfl rfl ?_
    refine AW.bipush X (v := -5) dX12_years_8 rfl ?_
    refine AW.callV X dX12_years_10 lX12_98 cfX12 (c_X12_no (k := 5) hR (by decide) (by decide)) om0 rfl rfl rfl rfl ⟨rfl, rfl⟩ (pI_k fun r μ1 hr => ?_)
    refine AW.iret X hQ dX12_years_13 ⟨_, rfl, ?_⟩
    refine rm_of ?_ hr
    simp [S_years, *]
