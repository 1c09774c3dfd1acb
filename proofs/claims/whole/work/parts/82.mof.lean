set_option maxRecDepth 100000 in
set_option maxHeartbeats 4000000 in
theorem c_X12_noPairs {l : Launch} {δ : Dl} {b : Nat} {μ : Mm} {S : St} (hR : RMX μ S) {xa ya : Int32} {bad : Bool} : MCM l δ b yX12_noPairs cX12_noPairs 7 (some .int) 3 [.ref (b + 0), .int xa, .int ya, .int (bI bad)] μ (pI fun r μ' => r = -(nI (prT S xa ya bad)) ∧ μ' = μ) := by
  have hT := rm_t hR
  have W := rm_w hR
  have bn := ti_n hT.1
  refine MC.intro ([some (.ref (b + 0)), some (.int xa), some (.int ya), some (.int (bI bad)), none, none, none]) (by decide) rfl rfl fun κ Qc hl hQ X => ?_
  subst hl
  refine AW.aload_n X dX12_noPairs_0 (i := 0) rfl rfl ?_
  refine AW.iload_n X dX12_noPairs_1 (i := 1) rfl rfl ?_
  refine AW.callV X dX12_noPairs_2 lX12_105 cfX12 (c_X12_noRow hR) om0 rfl rfl rfl rfl ⟨rfl, rfl⟩ (pR_k ?_)
  refine AW.istore X dX12_noPairs_5 rfl ?_
  refine AW.iload X dX12_noPairs_7 rfl ?_
  refine AW.if_ge X (tgt := 15) dX12_noPairs_9 (by decide) (fun h9 => ?_) (fun h9 => ?_)
  · replace h9 := Int32.not_lt.mpr h9
    have hr0 := rowT_le S xa
    have hz0 : rowT S xa = 0 := by by_cases q : rowT S xa = 0; exact q; exact absurd ((rt_neg _ (by omega)).mpr q) h9
    obtain ⟨s, hs, es, hk⟩ := rowT_0 hz0
    subst es
    have cs := cl_n (show s < 2147483648 by omega)
    have hz := hR.1.2.2.2.1 s hs
    have bk := hR.1.2.2.1 s hs
    have gr : rowT S (nI s) = 0 := hz0
    refine AW.iload_n X dX12_noPairs_15 (i := 2) rfl rfl ?_
    refine AW.if_ge X (tgt := 22) dX12_noPairs_16 (by decide) (fun h16 => ?_) (fun h16 => ?_)
    · replace h16 := Int32.not_lt.mpr h16
      have g16 : ¬ ya < 0 := h16
      obtain ⟨m, hm, em⟩ := nI_of g16
      subst em
      have cm := cl_n hm
      refine AW.iload_n X dX12_noPairs_22 (i := 2) rfl rfl ?_
      refine AW.aload_n X dX12_noPairs_23 (i := 0) rfl rfl ?_
      refine AW.getR X dX12_noPairs_24 fX12_13 rfl om0 (wm_at W 1 rfl) ?_
      refine AW.iload_n X dX12_noPairs_27 (i := 1) rfl rfl ?_
      refine AW.iaload X dX12_noPairs_28 (am_at 1 rfl) (n2_in (by omega) (by decide)) (v := (nI (kk S 1 s))) (by rw [n2_clamp (by omega)]; exact rm_size hR (by omega)) ?_
      refine AW.icmp_gtN X (tgt := 36) dX12_noPairs_29 (by decide) (by omega) (by omega) (fun h29 => ?_) (fun h29 => ?_)
      · have g28 : nI (kk S 1 s) < nI m := (n2_lt (by omega) (by omega)).mpr h29
        have n29 := Nat.not_le_of_lt h29
        refine AW.bipush X (v := -5) dX12_noPairs_36 rfl ?_
        refine AW.iret X hQ dX12_noPairs_38 ⟨_, rfl, ?_⟩
        have e9 : prT S (nI s) (nI m) bad = 5 := by simp [prT, *]
        exact ⟨by rw [e9]; rfl, rfl⟩
      · have g28 : ¬ nI (kk S 1 s) < nI m := by rw [n2_lt (by omega) (by omega)]; omega
        have n29 := Nat.not_lt_of_le h29
        refine AW.iload_n X dX12_noPairs_32 (i := 3) rfl rfl ?_
        refine AW.if_eqB X (tgt := 39) dX12_noPairs_33 (by decide) (fun h33 => ?_) (fun h33 => ?_)
        · refine AW.iload_n X dX12_noPairs_39 (i := 2) rfl rfl ?_
          refine AW.bipushN X 20 dX12_noPairs_40 rfl ?_
          refine AW.icmp_leN X (tgt := 48) dX12_noPairs_42 (by decide) (by omega) (by omega) (fun h42 => ?_) (fun h42 => ?_)
          · have g40 : ¬ nI 20 < nI m := by rw [n2_lt (by decide) (by omega)]; omega
            have n42 := Nat.not_lt_of_le h42
            refine AW.iconstN X 0 dX12_noPairs_48 rfl ?_
            refine AW.istore X dX12_noPairs_49 rfl ?_
            have L51 : ∀ (m51 ix : Nat), m - ix < m51 → ix ≤ m → (prsOK S (nI s) ix = true) → AW κ (δ, b, NM, 7, shM, False, Qc, 0, 0) NM 0 0 51 [some (.ref (b + 0)), some (.int (nI s)), some (.int (nI m)), some (.int (bI bad)), some (.int (-(nI (rowT S (nI s))))), some (.int (nI ix)), none] [] μ := by
              intro m51
              induction m51 with
              | zero => intro ix hm; exact absurd hm (Nat.not_lt_zero _)
              | succ m51 ih51 =>
                intro ix hm51 hi51 hok
                refine AW.iload X dX12_noPairs_51 rfl ?_
                refine AW.iload_n X dX12_noPairs_53 (i := 2) rfl rfl ?_
                refine AW.icmp_geN X (tgt := 117) dX12_noPairs_54 (by decide) (by omega) (by omega) (fun h54 => ?_) (fun h54 => ?_)
                · obtain rfl : m = ix := by omega
                  have n54 := Nat.not_lt_of_le h54
                  refine AW.iconstN X 0 dX12_noPairs_117 rfl ?_
                  refine AW.iret X hQ dX12_noPairs_118 ⟨_, rfl, ?_⟩
                  have e9 : prT S (nI s) (nI m) bad = 0 := by simp [prT, *]
                  exact ⟨by rw [e9]; rfl, rfl⟩
                · have n54 := Nat.not_le_of_lt h54
                  refine AW.aload_n X dX12_noPairs_57 (i := 0) rfl rfl ?_
                  refine AW.getR X dX12_noPairs_58 fX12_16 rfl om0 (wm_at W 2 rfl) ?_
                  refine AW.sipushN X 160 dX12_noPairs_61 rfl ?_
                  refine AW.iload_n X dX12_noPairs_64 (i := 1) rfl rfl ?_
                  refine AW.imulN X dX12_noPairs_65 ?_
                  refine AW.iload X dX12_noPairs_66 rfl ?_
                  refine AW.iaddN X dX12_noPairs_68 ?_
                  refine AW.laload X dX12_noPairs_69 (am_at 2 rfl) (n2_in (by omega) (by decide)) (v := (S.2.2.2 s ix)) (by rw [n2_clamp (by omega)]; exact rm_elem hR hs (by omega)) ?_
                  refine AW.l2i X dX12_noPairs_70 ?_
                  refine AW.istore X dX12_noPairs_71 rfl ?_
                  refine AW.iload X dX12_noPairs_73 rfl ?_
                  refine AW.if_lt X (tgt := 108) dX12_noPairs_75 (by decide) (fun h75 => ?_) (fun h75 => ?_)
                  · have nok : prsOK S (nI s) m = false := by cases q : prsOK S (nI s) m; rfl; have q2 := prsOK_at q h54; rw [eP, cs, isP_iff] at q2; exact absurd h75 q2.1
                    refine AW.bipush X (v := -6) dX12_noPairs_108 rfl ?_
                    refine AW.iret X hQ dX12_noPairs_110 ⟨_, rfl, ?_⟩
                    have e9 : prT S (nI s) (nI m) bad = 6 := by simp [prT, *]
                    exact ⟨by rw [e9]; rfl, rfl⟩
                  · obtain ⟨v, hv, ev⟩ := nI_of h75
                    have cv := cl_n hv
                    rw [ev]
                    refine AW.iload X dX12_noPairs_78 rfl ?_
                    refine AW.bipushN X 77 dX12_noPairs_80 rfl ?_
                    refine AW.icmp_gtN X (tgt := 108) dX12_noPairs_82 (by decide) (by omega) (by omega) (fun h82 => ?_) (fun h82 => ?_)
                    · have nok : prsOK S (nI s) m = false := by cases q : prsOK S (nI s) m; rfl; have q2 := prsOK_at q h54; rw [eP, cs, isP_iff] at q2; rw [ev, n2_lt (by decide) hv] at q2; exact absurd h82 q2.2.1
                      have n82 := Nat.not_le_of_lt h82
                      refine AW.bipush X (v := -6) dX12_noPairs_108 rfl ?_
                      refine AW.iret X hQ dX12_noPairs_110 ⟨_, rfl, ?_⟩
                      have e9 : prT S (nI s) (nI m) bad = 6 := by simp [prT, *]
                      exact ⟨by rw [e9]; rfl, rfl⟩
                    · have n82 := Nat.not_lt_of_le h82
                      refine AW.iload X dX12_noPairs_85 rfl ?_
                      refine AW.bipushN X 10 dX12_noPairs_87 rfl ?_
                      refine AW.iremN X dX12_noPairs_89 (by omega) (by omega) (by omega) ?_
                      refine AW.bipushN X 7 dX12_noPairs_90 rfl ?_
                      refine AW.icmp_gtN X (tgt := 108) dX12_noPairs_92 (by decide) (by omega) (by omega) (fun h92 => ?_) (fun h92 => ?_)
                      · have nok : prsOK S (nI s) m = false := by cases q : prsOK S (nI s) m; rfl; have q2 := prsOK_at q h54; rw [eP, cs, isP_iff] at q2; rw [ev, cv] at q2; exact absurd q2.2.2.1 (by omega)
                        have n92 := Nat.not_le_of_lt h92
                        refine AW.bipush X (v := -6) dX12_noPairs_108 rfl ?_
                        refine AW.iret X hQ dX12_noPairs_110 ⟨_, rfl, ?_⟩
                        have e9 : prT S (nI s) (nI m) bad = 6 := by simp [prT, *]
                        exact ⟨by rw [e9]; rfl, rfl⟩
                      · have n92 := Nat.not_lt_of_le h92
                        refine AW.iload X dX12_noPairs_95 rfl ?_
                        refine AW.bipushN X 10 dX12_noPairs_97 rfl ?_
                        refine AW.idivN X dX12_noPairs_99 (by omega) (by omega) (by omega) ?_
                        refine AW.iload X dX12_noPairs_100 rfl ?_
                        refine AW.bipushN X 10 dX12_noPairs_102 rfl ?_
                        refine AW.iremN X dX12_noPairs_104 (by omega) (by omega) (by omega) ?_
                        refine AW.icmp_neN X (tgt := 111) dX12_noPairs_105 (by decide) (by omega) (by omega) (fun h105 => ?_) (fun h105 => ?_)
                        · refine AW.iincN X (c := (ix + 1)) dX12_noPairs_111 rfl (inc_1 _) rfl ?_
                          refine AW.goto X (tgt := 51) dX12_noPairs_114 (by decide) ?_
                          refine AW.cgw (ih51 (ix + 1) (by omega) (by omega) (by rw [prsOK, hok, eP, cs, Bool.true_and, isP_iff, ev, cv]; exact ⟨by rw [← ev]; exact h75, by rw [n2_lt (by decide) hv]; omega, by omega, h105⟩)) ⟨rfl, rfl, rfl, rfl, rfl, rfl, trivial⟩
                        · have nok : prsOK S (nI s) m = false := by cases q : prsOK S (nI s) m; rfl; have q2 := prsOK_at q h54; rw [eP, cs, isP_iff] at q2; rw [ev, cv] at q2; exact absurd h105 q2.2.2.2
                          refine AW.bipush X (v := -6) dX12_noPairs_108 rfl ?_
                          refine AW.iret X hQ dX12_noPairs_110 ⟨_, rfl, ?_⟩
                          have e9 : prT S (nI s) (nI m) bad = 6 := by simp [prT, *]
                          exact ⟨by rw [e9]; rfl, rfl⟩
            refine AW.cgw (L51 _ 0 (Nat.lt_succ_self _) (by omega) rfl) ⟨rfl, rfl, rfl, rfl, rfl, rfl, trivial⟩
          · have g40 : nI 20 < nI m := (n2_lt (by decide) (by omega)).mpr h42
            have n42 := Nat.not_le_of_lt h42
            refine AW.bipush X (v := -6) dX12_noPairs_45 rfl ?_
            refine AW.iret X hQ dX12_noPairs_47 ⟨_, rfl, ?_⟩
            have e9 : prT S (nI s) (nI m) bad = 6 := by simp [prT, *]
            exact ⟨by rw [e9]; rfl, rfl⟩
        · refine AW.bipush X (v := -5) dX12_noPairs_36 rfl ?_
          refine AW.iret X hQ dX12_noPairs_38 ⟨_, rfl, ?_⟩
          have e9 : prT S (nI s) (nI m) bad = 5 := by simp [prT, *]
          exact ⟨by rw [e9]; rfl, rfl⟩
    · replace h16 := Int32.not_le.mp h16
      refine AW.bipush X (v := -4) dX12_noPairs_19 rfl ?_
      refine AW.iret X hQ dX12_noPairs_21 ⟨_, rfl, ?_⟩
      have e9 : prT S (nI s) ya bad = 4 := by simp [prT, *]
      exact ⟨by rw [e9]; rfl, rfl⟩
  · replace h9 := Int32.not_le.mp h9
    have hr0 := rowT_le S xa
    have gr : ¬ rowT S xa = 0 := (rt_neg _ (by omega)).mp h9
    refine AW.iload X dX12_noPairs_12 rfl ?_
    refine AW.iret X hQ dX12_noPairs_14 ⟨_, rfl, ?_⟩
    have e9 : prT S xa ya bad = rowT S xa := by rw [prT, if_pos gr]
    exact ⟨by rw [e9], rfl⟩
