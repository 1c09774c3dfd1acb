set_option maxRecDepth 100000 in
set_option maxHeartbeats 4000000 in
theorem c_X12_hailAll {l : Launch} {δ : Dl} {b : Nat} {μ : Mm} (W : WM μ.2.2) {τ : Tt} (hT : TMX μ τ) {x : Nat} (hx : x < 100)  : MCM l δ b yX12_hailAll cX12_hailAll 6 (some .int) 4 [.ref (b + 0), .int (nI x)] μ (pI fun r μ' => r = nI (hailS τ x (τ 6 0 0)) ∧ TMX μ' (hailT τ x (τ 6 0 0)) ∧ SmM TPl μ μ') := by
  have bn := ti_n hT.1
  refine MC.intro ([some (.ref (b + 0)), some (.int (nI x)), none, none, none, none]) (by decide) rfl rfl fun κ Qc hl hQ X => ?_
  subst hl
  refine AW.iconstN X 0 dX12_hailAll_0 rfl ?_
  refine AW.istore_n X dX12_hailAll_1 (i := 2) rfl rfl ?_
  refine AW.iconstN X 0 dX12_hailAll_2 rfl ?_
  refine AW.istore_n X dX12_hailAll_3 (i := 3) rfl rfl ?_
  have L4 : ∀ (m4 ix : Nat) (μ1 : Mm), τ 6 0 0 - ix < m4 → ix ≤ τ 6 0 0 → (TMX μ1 (hailT τ x ix)) → (SmM TPl μ μ1) → AW κ (δ, b, NM, 6, shM, False, Qc, 0, 0) NM 0 0 4 [some (.ref (b + 0)), some (.int (nI x)), some (.int (nI (hailS τ x ix))), some (.int (nI ix)), none, none] [] μ1 := by
    intro m4
    induction m4 with
    | zero => intro ix μ1 hm; exact absurd hm (Nat.not_lt_zero _)
    | succ m4 ih4 =>
      intro ix μ1 hm4 hi4 hT1 hs1
      have W1 := wm_same W hs1
      have e6 := hailT_6 τ x ix (by omega)
      refine AW.iload_n X dX12_hailAll_4 (i := 3) rfl rfl ?_
      refine AW.aload_n X dX12_hailAll_5 (i := 0) rfl rfl ?_
      refine AW.getI X dX12_hailAll_6 fX12_87 rfl om0 (v := (nI (τ 6 0 0))) (by rw [tm_0 hT1, e6]) ?_
      refine AW.icmp_geN X (tgt := 79) dX12_hailAll_9 (by decide) (by omega) (by omega) (fun h9 => ?_) (fun h9 => ?_)
      · obtain rfl : τ 6 0 0 = ix := by omega
        have n9 := Nat.not_lt_of_le h9
        refine AW.iload_n X dX12_hailAll_79 (i := 2) rfl rfl ?_
        refine AW.iret X hQ dX12_hailAll_80 ⟨_, rfl, ?_⟩
        exact ⟨rfl, hT1, hs1⟩
      · have n9 := Nat.not_le_of_lt h9
        refine AW.iconstN X 0 dX12_hailAll_12 rfl ?_
        refine AW.istore X dX12_hailAll_13 rfl ?_
        have L15 : ∀ (m15 kx : Nat) (μ2 : Mm), 12 - kx < m15 → kx ≤ 12 → (TMX μ2 (upH (hailT τ x ix) ix (hailC (hailT τ x ix ix) x kx))) → (SmM TPl μ μ2) → AW κ (δ, b, NM, 6, shM, False, Qc, 0, 0) NM 0 0 15 [some (.ref (b + 0)), some (.int (nI x)), some (.int (nI (hailS τ x ix + hailK (hailT τ x ix ix) x kx))), some (.int (nI ix)), some (.int (nI kx)), none] [] μ2 := by
          intro m15
          induction m15 with
          | zero => intro kx μ2 hm; exact absurd hm (Nat.not_lt_zero _)
          | succ m15 ih15 =>
            intro kx μ2 hm15 hi15 hT2 hs2
            have W2 := wm_same W hs2
            have hi2 : ix < (upH (hailT τ x ix) ix (hailC (hailT τ x ix ix) x kx)) 6 0 0 := by rw [upH_6 (by omega), e6]; omega
            have hv : HMX μ2 ix (hailC (hailT τ x ix ix) x kx) := by have q := tm_h hT2 hi2; rwa [upH_s] at q
            have hw := went_lt hv.1 kx x
            refine AW.iload X dX12_hailAll_15 rfl ?_
            refine AW.bipushN X 12 dX12_hailAll_17 rfl ?_
            refine AW.icmp_geN X (tgt := 73) dX12_hailAll_19 (by decide) (by omega) (by omega) (fun h19 => ?_) (fun h19 => ?_)
            · obtain rfl : 12 = kx := by omega
              have n19 := Nat.not_lt_of_le h19
              refine AW.iincN X (c := (ix + 1)) dX12_hailAll_73 rfl (inc_1 _) rfl ?_
              refine AW.goto X (tgt := 4) dX12_hailAll_76 (by decide) ?_
              refine AW.cgw (ih4 (ix + 1) μ2 (by omega) (by omega) hT2 hs2) ⟨rfl, rfl, ?_, rfl, trivial⟩
              · rfl
            · have n19 := Nat.not_le_of_lt h19
              refine AW.aload_n X dX12_hailAll_22 (i := 0) rfl rfl ?_
              refine AW.iload_n X dX12_hailAll_23 (i := 3) rfl rfl ?_
              refine AW.iload X dX12_hailAll_24 rfl ?_
              refine AW.callV X dX12_hailAll_26 lX12_152 cfX12 (c_X12_lies W2 hT2 hi2 (by omega)) om0 rfl rfl rfl rfl ⟨rfl, rfl⟩ (pR_ke (congrArg nI (show lyA ((upH (hailT τ x ix) ix (hailC (hailT τ x ix ix) x kx)) ix) kx = lyA (hailC (hailT τ x ix ix) x kx) kx by rw [upH_s])) ?_)
              refine AW.aload_n X dX12_hailAll_29 (i := 0) rfl rfl ?_
              refine AW.iload_n X dX12_hailAll_30 (i := 3) rfl rfl ?_
              refine AW.iload X dX12_hailAll_31 rfl ?_
              refine AW.iload_n X dX12_hailAll_33 (i := 1) rfl rfl ?_
              refine AW.callV X dX12_hailAll_34 lX12_246 cfX12 (c_X12_behind W2 hT2 hi2 (by omega) hx) om0 rfl rfl rfl rfl ⟨rfl, rfl⟩ (pR_ke (congrArg nI (show behindH ((upH (hailT τ x ix) ix (hailC (hailT τ x ix ix) x kx)) ix) kx x = behindH (hailC (hailT τ x ix ix) x kx) kx x by rw [upH_s])) ?_)
              refine AW.andNotN X dX12_hailAll_37 dX12_hailAll_38 dX12_hailAll_39 ?_
              refine AW.istore X dX12_hailAll_40 rfl ?_
              refine AW.aload_n X dX12_hailAll_42 (i := 0) rfl rfl ?_
              refine AW.getR X dX12_hailAll_43 fX12_44 rfl om0 (wm_at W2 11 rfl) ?_
              refine AW.bipushN X 12 dX12_hailAll_46 rfl ?_
              refine AW.iload_n X dX12_hailAll_48 (i := 3) rfl rfl ?_
              refine AW.imulN X dX12_hailAll_49 ?_
              refine AW.iload X dX12_hailAll_50 rfl ?_
              refine AW.iaddN X dX12_hailAll_52 ?_
              refine AW.dup2 X dX12_hailAll_53 rfl rfl ?_
              refine AW.iaload X dX12_hailAll_54 (am_at 11 rfl) (n2_in (by omega) (by decide)) (v := (nI ((hailC (hailT τ x ix ix) x kx) 6 kx))) (by rw [n2_clamp (by omega), tm_6 hT2 hi2 (by omega), upH_s]) ?_
              refine AW.iload X dX12_hailAll_55 rfl ?_
              refine AW.iorN X dX12_hailAll_57 ?_
              refine AW.iastore X dX12_hailAll_58 (by decide) (am_at 11 rfl) (n2_in (by omega) (by decide)) ?_
              rw [n2_clamp (by omega)]
              have hT3 : TMX (wI μ2 12 (12 * ix + kx) (nI ((hailC (hailT τ x ix ix) x kx) 6 kx ||| went (hailC (hailT τ x ix ix) x kx) kx x))) (upH (hailT τ x ix) ix (hailC (hailT τ x ix ix) x (kx + 1))) := by have f := tmx_up hT2 (by omega) (gone_sm (by omega)) (hmx_gone (k := kx) (x := (hailC (hailT τ x ix ix) x kx) 6 kx ||| went (hailC (hailT τ x ix ix) x kx) kx x) hv (or_lt8 (hi_go hv.1 (by omega)) hw)); rwa [upH_up] at f
              refine AW.iload_n X dX12_hailAll_59 (i := 2) rfl rfl ?_
              refine AW.iload X dX12_hailAll_60 rfl ?_
              refine AW.callS X dX12_hailAll_62 lX12_266 (c_J6_bitCount_0f7a4) rfl rfl rfl rfl ⟨rfl, rfl⟩ (pR_k ?_)
              rw [bc_n (andN (lyA (hailC (hailT τ x ix ix) x kx) kx) (behindH (hailC (hailT τ x ix ix) x kx) kx x)) hw]
              refine AW.iaddN X dX12_hailAll_65 ?_
              refine AW.istore_n X dX12_hailAll_66 (i := 2) rfl rfl ?_
              refine AW.iincN X (c := (kx + 1)) dX12_hailAll_67 rfl (inc_1 _) rfl ?_
              refine AW.goto X (tgt := 15) dX12_hailAll_70 (by decide) ?_
              refine AW.cgw (ih15 (kx + 1) (wI μ2 12 ((12 * ix) + kx) (nI (((hailC (hailT τ x ix ix) x kx) 6 kx) ||| (andN (lyA (hailC (hailT τ x ix ix) x kx) kx) (behindH (hailC (hailT τ x ix ix) x kx) kx x))))) (by omega) (by omega) hT3 (hs2.trn ((gone_sm (by omega)).mono (fun _ _ z => hpl_t z)))) ⟨rfl, rfl, ?_, rfl, rfl, trivial⟩
              · simp [hailK, went, Nat.add_assoc]
        refine AW.cgw (L15 _ 0 μ1 (Nat.lt_succ_self _) (by omega) (by rw [hailC, upH_id]; exact hT1) hs1) ⟨rfl, rfl, ?_, rfl, rfl, trivial⟩
        · rfl
  refine AW.cgw (L4 _ 0 μ (Nat.lt_succ_self _) (by omega) hT SmM.rf) ⟨rfl, rfl, ?_, rfl, trivial⟩
  · rfl
set_option maxRecDepth 100000 in
set_option maxHeartbeats 4000000 in
theorem c_X12_hail {l : Launch} {δ : Dl} {b : Nat} {μ : Mm} {S : St} (hR : RMX μ S) {x : Int32} : MCM l δ b yX12_hail cX12_hail 2 (some .int) 5 [.ref (b + 0), .int x] μ (pI fun r μ' => r = (S_hail S x).1 ∧ RMX μ' (S_hail S x).2) := by
  have hT := rm_t hR
  have W := rm_w hR
  have bn := ti_n hT.1
  refine MC.intro ([some (.ref (b + 0)), some (.int x)]) (by decide) rfl rfl fun κ Qc hl hQ X => ?_
  subst hl
  refine AW.iload_n X dX12_hail_0 (i := 1) rfl rfl ?_
  refine AW.callS X dX12_hail_1 lX12_240 (c_X12_isWeather) rfl rfl rfl rfl ⟨rfl, rfl⟩ (pR_k ?_)
  refine AW.if_eqB X (tgt := 15) dX12_hail_4 (by decide) (fun h4 => ?_) (fun h4 => ?_)
  · refine AW.aload_n X dX12_hail_15 (i := 0) rfl rfl ?_
    refine AW.bipush X (v := -6) dX12_hail_16 rfl ?_
    refine AW.callV X dX12_hail_18 lX12_98 cfX12 (c_X12_no (k := 6) hR (by decide) (by decide)) om0 rfl rfl rfl rfl ⟨rfl, rfl⟩ (pI_k fun r μ1 hr => ?_)
    refine AW.iret X hQ dX12_hail_21 ⟨_, rfl, ?_⟩
    refine rm_of ?_ hr
    simp [S_hail, *]
  · obtain ⟨h, hh, eh⟩ := inr_of (x := x) (m := 100) (by omega) h4
    subst eh
    have ch := cl_n (show h < 2147483648 by omega)
    refine AW.aload_n X dX12_hail_7 (i := 0) rfl rfl ?_
    refine AW.iload_n X dX12_hail_8 (i := 1) rfl rfl ?_
    refine AW.callV X dX12_hail_9 lX12_204 cfX12 (c_X12_hailAll W hT (by omega)) om0 rfl rfl rfl rfl ⟨rfl, rfl⟩ (pI_k fun r2 μ2 hp => ?_)
    refine AW.goto X (tgt := 21) dX12_hail_12 (by decide) ?_
    refine AW.iret X hQ dX12_hail_21 ⟨_, rfl, ?_⟩
    obtain ⟨rfl, hT2, hs2⟩ := hp
    exact rm_val (by simp [S_hail, *]) (rm_town hR hs2 hT2 (by rw [hailT_6 _ _ _ bn]; exact Nat.le_refl _))
set_option maxRecDepth 100000 in
set_option maxHeartbeats 4000000 in
theorem c_X12_fall {l : Launch} {δ : Dl} {b : Nat} {μ : Mm} (W : WM μ.2.2) {τ : Tt} (hT : TMX μ τ)  : MCM l δ b yX12_fall cX12_fall 3 (some .int) 5 [.ref (b + 0)] μ (pI fun r μ' => r = nI (fallB τ (τ 6 0 0)) ∧ TMX μ' (fallTo τ (τ 6 0 0)) ∧ SmM TPl μ μ') := by
  have bn := ti_n hT.1
  refine MC.intro ([some (.ref (b + 0)), none, none]) (by decide) rfl rfl fun κ Qc hl hQ X => ?_
  subst hl
  refine AW.iconstN X 0 dX12_fall_0 rfl ?_
  refine AW.istore_n X dX12_fall_1 (i := 1) rfl rfl ?_
  refine AW.iconstN X 0 dX12_fall_2 rfl ?_
  refine AW.istore_n X dX12_fall_3 (i := 2) rfl rfl ?_
  have L4 : ∀ (m4 ix : Nat) (μ1 : Mm), τ 6 0 0 - ix < m4 → ix ≤ τ 6 0 0 → (TMX μ1 (fallTo τ ix)) → (SmM TPl μ μ1) → AW κ (δ, b, NM, 3, shM, False, Qc, 0, 0) NM 0 0 4 [some (.ref (b + 0)), some (.int (nI (fallB τ ix))), some (.int (nI ix))] [] μ1 := by
    intro m4
    induction m4 with
    | zero => intro ix μ1 hm; exact absurd hm (Nat.not_lt_zero _)
    | succ m4 ih4 =>
      intro ix μ1 hm4 hi4 hT1 hs1
      have W1 := wm_same W hs1
      have e6 := fallTo_n (τ := τ) (i := ix) (by omega)
      have e7 := hT1.1.2.1
      refine AW.iload_n X dX12_fall_4 (i := 2) rfl rfl ?_
      refine AW.aload_n X dX12_fall_5 (i := 0) rfl rfl ?_
      refine AW.getI X dX12_fall_6 fX12_87 rfl om0 (v := (nI (τ 6 0 0))) (by rw [tm_0 hT1, e6]) ?_
      refine AW.icmp_geN X (tgt := 54) dX12_fall_9 (by decide) (by omega) (by omega) (fun h9 => ?_) (fun h9 => ?_)
      · obtain rfl : τ 6 0 0 = ix := by omega
        have n9 := Nat.not_lt_of_le h9
        refine AW.iload_n X dX12_fall_54 (i := 1) rfl rfl ?_
        refine AW.iret X hQ dX12_fall_55 ⟨_, rfl, ?_⟩
        exact ⟨rfl, hT1, hs1⟩
      · have hi1 : ix < (fallTo τ ix) 6 0 0 := by rw [e6]; omega
        have b1 := skinTo_le (tm_hi hT1 hi1) 12
        have n9 := Nat.not_le_of_lt h9
        refine AW.aload_n X dX12_fall_12 (i := 0) rfl rfl ?_
        refine AW.iload_n X dX12_fall_13 (i := 2) rfl rfl ?_
        refine AW.callV X dX12_fall_14 lX12_115 cfX12 (c_X12_skinOf W1 hT1 hi1) om0 rfl rfl rfl rfl ⟨rfl, rfl⟩ (pR_k ?_)
        have b2 : skin ((fallTo τ ix) ix) < 2147483648 := by unfold skin; omega
        refine AW.aload_n X dX12_fall_17 (i := 0) rfl rfl ?_
        refine AW.getI X dX12_fall_18 fX12_74 rfl om0 (v := (nI ((fallTo τ ix) 6 0 1))) (tm_l hT1) ?_
        refine AW.icmp_gtN X (tgt := 27) dX12_fall_21 (by decide) (by omega) (by omega) (fun h21 => ?_) (fun h21 => ?_)
        · have n21 := Nat.not_le_of_lt h21
          refine AW.iload_n X dX12_fall_27 (i := 1) rfl rfl ?_
          refine AW.iconstN X 1 dX12_fall_28 rfl ?_
          refine AW.iload_n X dX12_fall_29 (i := 2) rfl rfl ?_
          refine AW.shl1 X dX12_fall_30 (by omega) ?_
          refine AW.iorN X dX12_fall_31 ?_
          refine AW.istore_n X dX12_fall_32 (i := 1) rfl rfl ?_
          refine AW.aload_n X dX12_fall_33 (i := 0) rfl rfl ?_
          refine AW.iload_n X dX12_fall_34 (i := 2) rfl rfl ?_
          refine AW.callV X dX12_fall_35 lX12_129 cfX12 (c_X12_bare W1 (by omega)) om0 rfl rfl rfl rfl ⟨rfl, rfl⟩ (pV_k fun μb hb => ?_)
          subst hb
          refine AW.aload_n X dX12_fall_38 (i := 0) rfl rfl ?_
          refine AW.dup X dX12_fall_39 rfl ?_
          refine AW.getI X dX12_fall_40 fX12_272 rfl om0 (v := (nI ((fallTo τ ix) 6 0 4))) (show (bareM μ1 ix 12).1 0 18 = _ by simp [bareM]; exact tm_f hT1) ?_
          refine AW.iconstN X 1 dX12_fall_43 rfl ?_
          refine AW.iaddN X dX12_fall_44 ?_
          refine AW.putI X dX12_fall_45 fX12_272 rfl rfl ⟨rfl, rfl⟩ (by decide) om0 ?_
          refine AW.iincN X (c := (ix + 1)) dX12_fall_48 rfl (inc_1 _) rfl ?_
          refine AW.goto X (tgt := 4) dX12_fall_51 (by decide) ?_
          refine AW.cgw (ih4 (ix + 1) (wI (bareM μ1 ix 12) 0 18 (nI (((fallTo τ ix) 6 0 4) + 1))) (by omega) (by omega) (by rw [fallTo, if_pos (by omega)]; exact tmx_num (tmx_up hT1 (by omega) (bare_sm (Nat.le_refl 12)) (hmx_bare (tm_h hT1 hi1))) 4 _ (by decide) (by decide)) (hs1.trn (((bare_sm (Nat.le_refl 12)).mono (fun _ _ z => hpl_t z)).trn (SmM.w (Or.inr ⟨rfl, Or.inr ⟨by decide, by decide⟩⟩))))) ⟨rfl, ?_, rfl, trivial⟩
          · simp [fallB, *]
        · have n21 := Nat.not_lt_of_le h21
          refine AW.goto X (tgt := 48) dX12_fall_24 (by decide) ?_
          refine AW.iincN X (c := (ix + 1)) dX12_fall_48 rfl (inc_1 _) rfl ?_
          refine AW.goto X (tgt := 4) dX12_fall_51 (by decide) ?_
          refine AW.cgw (ih4 (ix + 1) μ1 (by omega) (by omega) (by rw [fallTo, if_neg (by omega)]; exact hT1) hs1) ⟨rfl, ?_, rfl, trivial⟩
          · simp [fallB, *]
  refine AW.cgw (L4 _ 0 μ (Nat.lt_succ_self _) (by omega) hT SmM.rf) ⟨rfl, ?_, rfl, trivial⟩
  · simp [fallB, *]
set_option maxRecDepth 100000 in
set_option maxHeartbeats 4000000 in
theorem c_X12_falls {l : Launch} {δ : Dl} {b : Nat} {μ : Mm} {S : St} (hR : RMX μ S)  : MCM l δ b yX12_falls cX12_falls 1 (some .int) 6 [.ref (b + 0)] μ (pI fun r μ' => r = (S_falls S ).1 ∧ RMX μ' (S_falls S ).2) := by
  have hT := rm_t hR
  have W := rm_w hR
  have bn := ti_n hT.1
  refine MC.intro ([some (.ref (b + 0))]) (by decide) rfl rfl fun κ Qc hl hQ X => ?_
  subst hl
  refine AW.aload_n X dX12_falls_0 (i := 0) rfl rfl ?_
  refine AW.callV X dX12_falls_1 lX12_275 cfX12 (c_X12_fall W hT) om0 rfl rfl rfl rfl ⟨rfl, rfl⟩ (pI_k fun r2 μ2 hp => ?_)
  refine AW.iret X hQ dX12_falls_4 ⟨_, rfl, ?_⟩
  obtain ⟨rfl, hT2, hs2⟩ := hp
  exact rm_val (by simp [S_falls]) (rm_town hR hs2 hT2 (by rw [fallTo_n bn]; exact Nat.le_refl _))
set_option maxRecDepth 100000 in
set_option maxHeartbeats 4000000 in
theorem c_X12_draw {l : Launch} {δ : Dl} {b : Nat} {μ : Mm} {s m : Nat} (hs : μ.1 0 19 = nI s) (hm : 0 < m) (hm2 : m < 100) : MCM l δ b yX12_draw cX12_draw 2 (some .int) 1 [.ref (b + 0), .int (nI m)] μ (pI fun r μ' => r = nI (dv s m) ∧ μ' = wI μ 0 19 (nI (sd s))) := by
  have b1 := sd_lt s
  have b2 := sd_sh s
  refine MC.intro ([some (.ref (b + 0)), some (.int (nI m))]) (by decide) rfl rfl fun κ Qc hl hQ X => ?_
  subst hl
  refine AW.aload_n X dX12_draw_0 (i := 0) rfl rfl ?_
  refine AW.aload_n X dX12_draw_1 (i := 0) rfl rfl ?_
  refine AW.getI X dX12_draw_2 fX12_81 rfl om0 (v := (nI s)) hs ?_
  refine AW.ldciw X (v := 1103515245) dX12_draw_5 kX12_278 ?_
  refine AW.imul X dX12_draw_8 ?_
  refine AW.sipushN X 12345 dX12_draw_9 rfl ?_
  refine AW.iadd X dX12_draw_12 ?_
  rw [sd_n]
  refine AW.putI X dX12_draw_13 fX12_81 rfl rfl ⟨rfl, rfl⟩ (by decide) om0 ?_
  refine AW.aload_n X dX12_draw_16 (i := 0) rfl rfl ?_
  refine AW.getI X dX12_draw_17 fX12_81 rfl om0 (v := (nI (sd s))) (show (wI μ 0 19 (nI (sd s))).1 0 19 = nI (sd s) by simp [wI]) ?_
  refine AW.bipushN X 16 dX12_draw_20 rfl ?_
  refine AW.iushrN X dX12_draw_22 (by omega) (by decide) ?_
  refine AW.iload_n X dX12_draw_23 (i := 1) rfl rfl ?_
  refine AW.iremN X dX12_draw_24 (by omega) (by omega) (by omega) ?_
  refine AW.iret X hQ dX12_draw_25 ⟨_, rfl, ?_⟩
  exact ⟨rfl, rfl⟩
