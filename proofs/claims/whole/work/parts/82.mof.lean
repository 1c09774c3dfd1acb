set_option maxRecDepth 100000 in
set_option maxHeartbeats 4000000 in
theorem c_X12_noPairs {l : Launch} {δ : Dl} {b : Nat} {μ : Mm} {S : St} (hR : RMX μ S) {xa ya : Int32} {bad : Bool} : MCM l δ b yX12_noPairs cX12_noPairs 7 (some .int) 3 [.ref (b + 0), .int xa, .int ya, .int (bI bad)] μ (pI fun r μ' => r = -(nI (prT S xa ya bad)) ∧ μ' = μ) := by
  have hT := rm_t hR
  have W := rm_w hR
  have bn := ti_n hT.1
  refine MC.intro ([some (.ref (b + 0)), some (.int xa), some (.int ya), some (.int (bI bad)), none, none, none]) (by decide) rfl rfl fun κ Qc hl hQ X => ?_
  subst hl
  refine AW.aload_n X dX12_noPairs_0 (i := 0) rfl rfl ?_
  refine AW.iload_n X dX12_noPairs_1 (i := 1) rfl rfl ?_
  refine AW.callV X dX12_noPairs_2 lX12_105 cfX12 (c_X12_noRow hR) om0 rfl rfl rfl rfl ⟨rfl, rfl⟩ (pR_k ?_)
  refine AW.istore X dX12_noPairs_5 rfl ?_
  refine AW.iload X dX12_noPairs_7 rfl ?_
  refine AW.if_ge X (tgt := 15) dX12_noPairs_9 (by decide) (fun h9 => ?_) (fun h9 => ?_)
  · replace h9 := Int32.not_lt.mpr h9
    have hr0 := rowT_le S xa
    have hz0 : rowT S xa = 0 := by by_cases q : rowT S xa = 0; exact q; exact absurd ((rt_neg _ (by omega)).mpr q) h9
    obtain ⟨s, hs, es, hk⟩ := rowT_0 hz0
    subst es
    have cs := cl_n (show s < 2147483648 by omega)
    have hz := hR.1.2.2.2.1 s hs
    have bk := hR.1.2.2.1 s hs
    have gr : rowT S (nI s) = 0 := hz0
    refine AW.iload_n X dX12_noPairs_15 (i := 2) rfl rfl ?_
    refine AW.if_ge X (tgt := 22) dX12_noPairs_16 (by decide) (fun h16 => ?_) (fun h16 => ?_)
    · replace h16 := Int32.not_lt.mpr h16
      have g16 : ¬ ya < 0 := h16
      obtain ⟨m, hm, em⟩ := nI_of g16
      subst em
      have cm := cl_n hm
      refine AW.iload_n X dX12_noPairs_22 (i := 2) rfl rfl ?_
      refine AW.aload_n X dX12_noPairs_23 (i := 0) rfl rfl ?_
      refine AW.getR X dX12_noPairs_24 fX12_13 rfl om0 (wm_at W 1 rfl) ?_
      refine AW.iload_n X dX12_noPairs_27 (i := 1) rfl rfl ?_
      refine AW.iaload X dX12_noPairs_28 (am_at 1 rfl) (n2_in (by omega) (by decide)) (v := (nI (kk S 1 s))) (by rw [n2_clamp (by omega)]; exact rm_size hR (by omega)) ?_
      refine AW.icmp_gtN X (tgt := 36) dX12_noPairs_29 (by decide) (by omega) (by omega) (fun h29 => ?_) (fun h29 => ?_)
      · have g28 : nI (kk S 1 s) < nI m := (n2_lt (by omega) (by omega)).mpr h29
        have n29 := Nat.not_le_of_lt h29
        refine AW.bipush X (v := -5) dX12_noPairs_36 rfl ?_
        refine AW.iret X hQ dX12_noPairs_38 ⟨_, rfl, ?_⟩
        have e9 : prT S (nI s) (nI m) bad = 5 := by simp [prT, *]
        exact ⟨by rw [e9]; rfl, rfl⟩
      · have g28 : ¬ nI (kk S 1 s) < nI m := by rw [n2_lt (by omega) (by omega)]; omega
        have n29 := Nat.not_lt_of_le h29
        refine AW.iload_n X dX12_noPairs_32 (i := 3) rfl rfl ?_
        refine AW.if_eqB X (tgt := 39) dX12_noPairs_33 (by decide) (fun h33 => ?_) (fun h33 => ?_)
        · refine AW.iload_n X dX12_noPairs_39 (i := 2) rfl rfl ?_
          refine AW.bipushN X 20 dX12_noPairs_40 rfl ?_
          refine AW.icmp_leN X (tgt := 48) dX12_noPairs_42 (by decide) (by omega) (by omega) (fun h42 => ?_) (fun h42 => ?_)
          · have g40 : ¬ nI 20 < nI m := by rw [n2_lt (by decide) (by omega)]; omega
            have n42 := Nat.not_lt_of_le h42
            refine AW.iconstN X 0 dX12_noPairs_48 rfl ?_
            refine AW.istore X dX12_noPairs_49 rfl ?_
            have L51 : ∀ (m51 ix : Nat), m - ix < m51 → ix ≤ m → (prsOK S (nI s) ix = true) → AW κ (δ, b, NM, 7, shM, False, Qc, 0, 0) NM 0 0 51 [some (.ref (b + 0)), some (.int (nI s)), some (.int (nI m)), some (.int (bI bad)), some (.int (-(nI (rowT S (nI s))))), some (.int (nI ix)), none] [] μ := by
              intro m51
              induction m51 with
              | zero => intro ix hm; exact absurd hm (Nat.not_lt_zero _)
              | succ m51 ih51 =>
                intro ix hm51 hi51 hok
                refine AW.iload X dX12_noPairs_51 rfl ?_
                refine AW.iload_n X dX12_noPairs_53 (i := 2) rfl rfl ?_
                refine AW.icmp_geN X (tgt := 117) dX12_noPairs_54 (by decide) (by omega) (by omega) (fun h54 => ?_) (fun h54 => ?_)
                · obtain rfl : m = ix := by omega
                  have n54 := Nat.not_lt_of_le h54
                  refine AW.iconstN X 0 dX12_noPairs_117 rfl ?_
                  refine AW.iret X hQ dX12_noPairs_118 ⟨_, rfl, ?_⟩
                  have e9 : prT S (nI s) (nI m) bad = 0 := by simp [prT, *]
                  exact ⟨by rw [e9]; rfl, rfl⟩
                · have n54 := Nat.not_le_of_lt h54
                  refine AW.aload_n X dX12_noPairs_57 (i := 0) rfl rfl ?_
                  refine AW.getR X dX12_noPairs_58 fX12_16 rfl om0 (wm_at W 2 rfl) ?_
                  refine AW.sipushN X 160 dX12_noPairs_61 rfl ?_
                  refine AW.iload_n X dX12_noPairs_64 (i := 1) rfl rfl ?_
                  refine AW.imulN X dX12_noPairs_65 ?_
                  refine AW.iload X dX12_noPairs_66 rfl ?_
                  refine AW.iaddN X dX12_noPairs_68 ?_
                  refine AW.laload X dX12_noPairs_69 (am_at 2 rfl) (n2_in (by omega) (by decide)) (v := (S.2.2.2 s ix)) (by rw [n2_clamp (by omega)]; exact rm_elem hR hs (by omega)) ?_
                  refine AW.l2i X dX12_noPairs_70 ?_
                  refine AW.istore X dX12_noPairs_71 rfl ?_
                  refine AW.iload X dX12_noPairs_73 rfl ?_
                  refine AW.if_lt X (tgt := 108) dX12_noPairs_75 (by decide) (fun h75 => ?_) (fun h75 => ?_)
                  · have nok : prsOK S (nI s) m = false := by cases q : prsOK S (nI s) m; rfl; have q2 := prsOK_at q h54; rw [eP, cs, isP_iff] at q2; exact absurd h75 q2.1
                    refine AW.bipush X (v := -6) dX12_noPairs_108 rfl ?_
                    refine AW.iret X hQ dX12_noPairs_110 ⟨_, rfl, ?_⟩
                    have e9 : prT S (nI s) (nI m) bad = 6 := by simp [prT, *]
                    exact ⟨by rw [e9]; rfl, rfl⟩
                  · obtain ⟨v, hv, ev⟩ := nI_of h75
                    have cv := cl_n hv
                    rw [ev]
                    refine AW.iload X dX12_noPairs_78 rfl ?_
                    refine AW.bipushN X 77 dX12_noPairs_80 rfl ?_
                    refine AW.icmp_gtN X (tgt := 108) dX12_noPairs_82 (by decide) (by omega) (by omega) (fun h82 => ?_) (fun h82 => ?_)
                    · have nok : prsOK S (nI s) m = false := by cases q : prsOK S (nI s) m; rfl; have q2 := prsOK_at q h54; rw [eP, cs, isP_iff] at q2; rw [ev, n2_lt (by decide) hv] at q2; exact absurd h82 q2.2.1
                      have n82 := Nat.not_le_of_lt h82
                      refine AW.bipush X (v := -6) dX12_noPairs_108 rfl ?_
                      refine AW.iret X hQ dX12_noPairs_110 ⟨_, rfl, ?_⟩
                      have e9 : prT S (nI s) (nI m) bad = 6 := by simp [prT, *]
                      exact ⟨by rw [e9]; rfl, rfl⟩
                    · have n82 := Nat.not_lt_of_le h82
                      refine AW.iload X dX12_noPairs_85 rfl ?_
                      refine AW.bipushN X 10 dX12_noPairs_87 rfl ?_
                      refine AW.iremN X dX12_noPairs_89 (by omega) (by omega) (by omega) ?_
                      refine AW.bipushN X 7 dX12_noPairs_90 rfl ?_
                      refine AW.icmp_gtN X (tgt := 108) dX12_noPairs_92 (by decide) (by omega) (by omega) (fun h92 => ?_) (fun h92 => ?_)
                      · have nok : prsOK S (nI s) m = false := by cases q : prsOK S (nI s) m; rfl; have q2 := prsOK_at q h54; rw [eP, cs, isP_iff] at q2; rw [ev, cv] at q2; exact absurd q2.2.2.1 (by omega)
                        have n92 := Nat.not_le_of_lt h92
                        refine AW.bipush X (v := -6) dX12_noPairs_108 rfl ?_
                        refine AW.iret X hQ dX12_noPairs_110 ⟨_, rfl, ?_⟩
                        have e9 : prT S (nI s) (nI m) bad = 6 := by simp [prT, *]
                        exact ⟨by rw [e9]; rfl, rfl⟩
                      · have n92 := Nat.not_lt_of_le h92
                        refine AW.iload X dX12_noPairs_95 rfl ?_
                        refine AW.bipushN X 10 dX12_noPairs_97 rfl ?_
                        refine AW.idivN X dX12_noPairs_99 (by omega) (by omega) (by omega) ?_
                        refine AW.iload X dX12_noPairs_100 rfl ?_
                        refine AW.bipushN X 10 dX12_noPairs_102 rfl ?_
                        refine AW.iremN X dX12_noPairs_104 (by omega) (by omega) (by omega) ?_
                        refine AW.icmp_neN X (tgt := 111) dX12_noPairs_105 (by decide) (by omega) (by omega) (fun h105 => ?_) (fun h105 => ?_)
                        · refine AW.iincN X (c := (ix + 1)) dX12_noPairs_111 rfl (inc_1 _) rfl ?_
                          refine AW.goto X (tgt := 51) dX12_noPairs_114 (by decide) ?_
                          refine AW.cgw (ih51 (ix + 1) (by omega) (by omega) (by rw [prsOK, hok, eP, cs, Bool.true_and, isP_iff, ev, cv]; exact ⟨by rw [← ev]; exact h75, by rw [n2_lt (by decide) hv]; omega, by omega, h105⟩)) ⟨rfl, rfl, rfl, rfl, rfl, rfl, trivial⟩
                        · have nok : prsOK S (nI s) m = false := by cases q : prsOK S (nI s) m; rfl; have q2 := prsOK_at q h54; rw [eP, cs, isP_iff] at q2; rw [ev, cv] at q2; exact absurd h105 q2.2.2.2
                          refine AW.bipush X (v := -6) dX12_noPairs_108 rfl ?_
                          refine AW.iret X hQ dX12_noPairs_110 ⟨_, rfl, ?_⟩
                          have e9 : prT S (nI s) (nI m) bad = 6 := by simp [prT, *]
                          exact ⟨by rw [e9]; rfl, rfl⟩
            refine AW.cgw (L51 _ 0 (Nat.lt_succ_self _) (by omega) rfl) ⟨rfl, rfl, rfl, rfl, rfl, rfl, trivial⟩
          · have g40 : nI 20 < nI m := (n2_lt (by decide) (by omega)).mpr h42
            have n42 := Nat.not_le_of_lt h42
            refine AW.bipush X (v := -6) dX12_noPairs_45 rfl ?_
            refine AW.iret X hQ dX12_noPairs_47 ⟨_, rfl, ?_⟩
            have e9 : prT S (nI s) (nI m) bad = 6 := by simp [prT, *]
            exact ⟨by rw [e9]; rfl, rfl⟩
        · refine AW.bipush X (v := -5) dX12_noPairs_36 rfl ?_
          refine AW.iret X hQ dX12_noPairs_38 ⟨_, rfl, ?_⟩
          have e9 : prT S (nI s) (nI m) bad = 5 := by simp [prT, *]
          exact ⟨by rw [e9]; rfl, rfl⟩
    · replace h16 := Int32.not_le.mp h16
      refine AW.bipush X (v := -4) dX12_noPairs_19 rfl ?_
      refine AW.iret X hQ dX12_noPairs_21 ⟨_, rfl, ?_⟩
      have e9 : prT S (nI s) ya bad = 4 := by simp [prT, *]
      exact ⟨by rw [e9]; rfl, rfl⟩
  · replace h9 := Int32.not_le.mp h9
    have hr0 := rowT_le S xa
    have gr : ¬ rowT S xa = 0 := (rt_neg _ (by omega)).mp h9
    refine AW.iload X dX12_noPairs_12 rfl ?_
    refine AW.iret X hQ dX12_noPairs_14 ⟨_, rfl, ?_⟩
    have e9 : prT S xa ya bad = rowT S xa := by rw [prT, if_pos gr]
    exact ⟨by rw [e9], rfl⟩
theorem ge0_ofM {x : Int32} (h : ¬ x < -1) (h1 : ¬ x = -1) : ¬ x < 0 := ge0_of h h1
theorem prm_same {μ μ' : Mm} {N : Nat} {U : Nat → Nat} (h : PRM μ N U) (e1 : μ'.1 0 31 = μ.1 0 31) (e2 : ∀ t, μ'.1 20 t = μ.1 20 t) : PRM μ' N U := ⟨by rw [e1]; exact h.1, h.2.1, fun t ht => by rw [e2]; exact h.2.2 t ht⟩
theorem lowO_first {N : Nat} {U : Nat → Nat} {p t j : Nat} (h : lowO N U p = some t) (hj : j < 8) (hm : mayC N U j p = true) (hl : j ≤ t) : j = t := by
  by_cases z : j = t
  · exact z
  · have := fstUp_min h j (Nat.zero_le _) (by omega)
    rw [hm] at this
    cases this
set_option maxRecDepth 100000 in
set_option maxHeartbeats 4000000 in
theorem c_X12_orders {l : Launch} {δ : Dl} {b : Nat} {μ : Mm} {S : St} (hR : RMX μ S) {xa : Int32} {ya : Int32} {za : Int32} : MCM l δ b yX12_orders cX12_orders 9 (some .int) 14 [.ref (b + 0), .int xa, .int ya, .int za] μ (pI fun r μ' => r = (S_orders S xa ya za).1 ∧ RMX μ' (S_orders S xa ya za).2) := by
  have hT := rm_t hR
  have W := rm_w hR
  have bn := ti_n hT.1
  refine MC.intro ([some (.ref (b + 0)), some (.int xa), some (.int ya), some (.int za), none, none, none, none, none]) (by decide) rfl rfl fun κ Qc hl hQ X => ?_
  subst hl
  refine AW.aload_n X dX12_orders_0 (i := 0) rfl rfl ?_
  refine AW.iload_n X dX12_orders_1 (i := 1) rfl rfl ?_
  refine AW.iload_n X dX12_orders_2 (i := 2) rfl rfl ?_
  refine AW.iload_n X dX12_orders_3 (i := 3) rfl rfl ?_
  refine AW.iconst X (v := -1) dX12_orders_4 rfl ?_
  refine AW.icmp_ge X (tgt := 12) dX12_orders_5 (by decide) (fun h5 => ?_) (fun h5 => ?_)
  · replace h5 := Int32.not_lt.mpr h5
    refine AW.iconstN X 0 dX12_orders_12 rfl ?_
    refine AW.callV X dX12_orders_13 lX12_258 cfX12 (c_X12_noPairs hR (bad := false)) om0 rfl rfl rfl rfl ⟨rfl, rfl⟩ (pR_k ?_)
    refine AW.istore X dX12_orders_16 rfl ?_
    refine AW.iload X dX12_orders_18 rfl ?_
    refine AW.if_ge X (tgt := 30) dX12_orders_20 (by decide) (fun h20 => ?_) (fun h20 => ?_)
    · replace h20 := Int32.not_lt.mpr h20
      have hr0 := prT_le S xa ya false
      have hT0 : prT S xa ya false = 0 := by by_cases q : prT S xa ya false = 0; exact q; exact absurd ((rt_neg _ (by omega)).mpr q) h20
      obtain ⟨s, m, hs, es, em, hm, hkm, hk, hbad, hok⟩ := prT_0 hT0
      subst es em
      have cs := cl_n (show s < 2147483648 by omega)
      have cm := cl_n (show m < 2147483648 by omega)
      refine AW.aload_n X dX12_orders_30 (i := 0) rfl rfl ?_
      refine AW.iload_n X dX12_orders_31 (i := 1) rfl rfl ?_
      refine AW.iload_n X dX12_orders_32 (i := 2) rfl rfl ?_
      refine AW.callV X dX12_orders_33 lX12_262 cfX12 (c_X12_pairs hR hs hkm hm (Nat.le_refl m) hok) om0 rfl rfl rfl rfl ⟨rfl, rfl⟩ (pV_k fun μ2 hpp => ?_)
      have hpc := hpp.1
      have hsc := hpp.2
      have Wc := wm_same W hsc
      have hRc := rm_pr hR hsc
      have p0 : (0 : Nat) < 256 := by decide
      have ob := Nat.le_trans (ordF_le (N := (nmd (ePN S (nI s)) m)) (U := (ovr (ePN S (nI s)) m)) 256 0 p0) (fc8_le 0)
      refine AW.aload_n X dX12_orders_36 (i := 0) rfl rfl ?_
      refine AW.iconstN X 0 dX12_orders_37 rfl ?_
      refine AW.callV X dX12_orders_38 lX12_255 cfX12 (c_X12_ordersFrom Wc hpc 8 0 (by omega) (by omega)) om0 rfl rfl rfl rfl ⟨rfl, rfl⟩ (pR_k ?_)
      refine AW.istore X dX12_orders_41 rfl ?_
      refine AW.iload_n X dX12_orders_43 (i := 3) rfl rfl ?_
      refine AW.iconst X (v := -1) dX12_orders_44 rfl ?_
      refine AW.icmp_ne X (tgt := 51) dX12_orders_45 (by decide) (fun h45 => ?_) (fun h45 => ?_)
      · have g0 := ge0_of h5 h45
        obtain ⟨i9, hi9, ei9⟩ := nI_of g0
        subst ei9
        have ci := cl_n hi9
        refine AW.iload X dX12_orders_51 rfl ?_
        refine AW.if_eqN X (tgt := 73) dX12_orders_53 (by decide) (by omega) (fun h53 => ?_) (fun h53 => ?_)
        · have gf : ¬ grd (nmd (ePN S (nI s)) m) (ovr (ePN S (nI s)) m) 8 = (nmd (ePN S (nI s)) m) := fun z => absurd h53 ((fits_iff hpc.2.1).mp z)
          refine AW.aload_n X dX12_orders_73 (i := 0) rfl rfl ?_
          refine AW.bipush X (v := -5) dX12_orders_74 rfl ?_
          refine AW.callV X dX12_orders_76 lX12_98 cfX12 (c_X12_no (k := 5) hRc (by decide) (by decide)) om0 rfl rfl rfl rfl ⟨rfl, rfl⟩ (pI_k fun r μ1 hr => ?_)
          refine AW.iret X hQ dX12_orders_79 ⟨_, rfl, ?_⟩
          refine rm_of ?_ hr
          simp [S_orders, *]
        · have gf := (fits_iff hpc.2.1).mpr h53
          have hpos := Nat.pos_of_ne_zero h53
          refine AW.iload_n X dX12_orders_56 (i := 3) rfl rfl ?_
          refine AW.iconstN X 0 dX12_orders_57 rfl ?_
          refine AW.aload_n X dX12_orders_58 (i := 0) rfl rfl ?_
          refine AW.getI X dX12_orders_59 fX12_252 rfl om0 (v := (nI (nmd (ePN S (nI s)) m))) hpc.1 ?_
          refine AW.callS X dX12_orders_62 lX12_266 (c_J6_bitCount_0f7a4) rfl rfl rfl rfl ⟨rfl, rfl⟩ (pR_k ?_)
          rw [bc_n _ hpc.2.1]
          have b8 := pcnt_le (nmd (ePN S (nI s)) m)
          refine AW.iconstN X 1 dX12_orders_65 rfl ?_
          refine AW.isub X dX12_orders_66 ?_
          refine AW.callS X dX12_orders_67 lX12_90 (c_within (dn_sub _) (by omega)) rfl rfl rfl rfl ⟨rfl, rfl⟩ (pR_k ?_)
          refine AW.if_neB X (tgt := 80) dX12_orders_70 (by decide) (fun h70 => ?_) (fun h70 => ?_)
          · rw [inr_n (by omega) (by omega)] at h70
            have g70 := of_decide_eq_true h70
            have g71 := Nat.not_le_of_lt g70
            have hso := grd_some gf g70
            refine AW.iconstN X 0 dX12_orders_80 rfl ?_
            refine AW.istore X dX12_orders_81 rfl ?_
            refine AW.iconstN X 0 dX12_orders_83 rfl ?_
            refine AW.istore X dX12_orders_84 rfl ?_
            have L86 : ∀ (m86 ix : Nat) (μd : Mm), (i9 + 1) - ix < m86 → ix ≤ (i9 + 1) → (SmM PRp μ μd) → (PRM μd (nmd (ePN S (nI s)) m) (ovr (ePN S (nI s)) m)) → (∀ j, j < ix → μd.1 21 j = oI (lowO (nmd (ePN S (nI s)) m) (ovr (ePN S (nI s)) m) (grd (nmd (ePN S (nI s)) m) (ovr (ePN S (nI s)) m) j))) → AW κ (δ, b, NM, 9, shM, False, Qc, 0, 0) NM 0 0 86 [some (.ref (b + 0)), some (.int (nI s)), some (.int (nI m)), some (.int (nI i9)), some (.int (-(nI (prT S (nI s) (nI m) false)))), some (.int (nI (ordF (nmd (ePN S (nI s)) m) (ovr (ePN S (nI s)) m) 256 0))), some (.int (nI (grd (nmd (ePN S (nI s)) m) (ovr (ePN S (nI s)) m) ix))), some (.int (nI ix)), none] [] μd := by
              intro m86
              induction m86 with
              | zero => intro ix μd hm; exact absurd hm (Nat.not_lt_zero _)
              | succ m86 ih86 =>
                intro ix μd hm86 hi86 hsd hpd hfi
                have Wd := wm_same W hsd
                refine AW.iload X dX12_orders_86 rfl ?_
                refine AW.iload_n X dX12_orders_88 (i := 3) rfl rfl ?_
                refine AW.icmp_gtN X (tgt := 171) dX12_orders_89 (by decide) (by omega) (by omega) (fun h89 => ?_) (fun h89 => ?_)
                · obtain rfl : i9 + 1 = ix := by omega
                  have n89 := Nat.not_le_of_lt h89
                  refine AW.aload_n X dX12_orders_171 (i := 0) rfl rfl ?_
                  refine AW.getR X dX12_orders_172 fX12_71 rfl om0 (wm_at Wd 20 rfl) ?_
                  refine AW.iload_n X dX12_orders_175 (i := 3) rfl rfl ?_
                  refine AW.iaload X dX12_orders_176 (am_at 20 rfl) (n2_in (by omega) (by decide)) (v := (oI (lowO (nmd (ePN S (nI s)) m) (ovr (ePN S (nI s)) m) (grd (nmd (ePN S (nI s)) m) (ovr (ePN S (nI s)) m) i9)))) (by rw [n2_clamp (by omega)]; exact hfi i9 (by omega)) ?_
                  refine AW.iret X hQ dX12_orders_177 ⟨_, rfl, ?_⟩
                  exact rm_val (by simp [S_orders, *]) (rm_pr hR hsd)
                · obtain ⟨t9, ht9⟩ := hso ix (by omega)
                  have n89 := Nat.not_lt_of_le h89
                  refine AW.iconstN X 0 dX12_orders_92 rfl ?_
                  refine AW.istore X dX12_orders_93 rfl ?_
                  have L95 : ∀ (m95 jx : Nat), 8 - jx < m95 → jx ≤ 8 → (jx ≤ t9) → AW κ (δ, b, NM, 9, shM, False, Qc, 0, 0) NM 0 0 95 [some (.ref (b + 0)), some (.int (nI s)), some (.int (nI m)), some (.int (nI i9)), some (.int (-(nI (prT S (nI s) (nI m) false)))), some (.int (nI (ordF (nmd (ePN S (nI s)) m) (ovr (ePN S (nI s)) m) 256 0))), some (.int (nI (grd (nmd (ePN S (nI s)) m) (ovr (ePN S (nI s)) m) ix))), some (.int (nI ix)), some (.int (nI jx))] [] μd := by
                    intro m95
                    induction m95 with
                    | zero => intro jx hm; exact absurd hm (Nat.not_lt_zero _)
                    | succ m95 ih95 =>
                      intro jx hm95 hi95 hle
                      have hjx8 : jx < 8 := by have := lowO_lt ht9; omega
                      refine AW.aload_n X dX12_orders_95 (i := 0) rfl rfl ?_
                      refine AW.getI X dX12_orders_96 fX12_252 rfl om0 (v := (nI (nmd (ePN S (nI s)) m))) hpd.1 ?_
                      refine AW.iload X dX12_orders_99 rfl ?_
                      refine AW.andNotN X dX12_orders_101 dX12_orders_102 dX12_orders_103 ?_
                      have p3 := andN_lt (c := (grd (nmd (ePN S (nI s)) m) (ovr (ePN S (nI s)) m) ix)) hpc.2.1
                      refine AW.iload X dX12_orders_104 rfl ?_
                      refine AW.callS X dX12_orders_106 lX12_155 (c_X12_has (by omega) (by omega)) rfl rfl rfl rfl ⟨rfl, rfl⟩ (pR_k ?_)
                      refine AW.if_eqB X (tgt := 141) dX12_orders_109 (by decide) (fun h109 => ?_) (fun h109 => ?_)
                      · have gm : mayC (nmd (ePN S (nI s)) m) (ovr (ePN S (nI s)) m) jx (grd (nmd (ePN S (nI s)) m) (ovr (ePN S (nI s)) m) ix) = false := by simp [mayC, h109]
                        refine AW.iincN X (c := (jx + 1)) dX12_orders_141 rfl (inc_1 _) rfl ?_
                        refine AW.goto X (tgt := 95) dX12_orders_144 (by decide) ?_
                        refine AW.cgw (ih95 (jx + 1) (by omega) (by omega) (by have z9 : ¬ jx = t9 := (fun z => by subst z; rw [lowO_may ht9] at gm; cases gm); omega)) ⟨rfl, rfl, rfl, rfl, rfl, rfl, rfl, rfl, rfl, trivial⟩
                      · have p4 := andN_lt (c := (grd (nmd (ePN S (nI s)) m) (ovr (ePN S (nI s)) m) ix)) (hpd.2.2 jx hjx8).2
                        refine AW.aload_n X dX12_orders_112 (i := 0) rfl rfl ?_
                        refine AW.getR X dX12_orders_113 fX12_68 rfl om0 (wm_at Wd 19 rfl) ?_
                        refine AW.iload X dX12_orders_116 rfl ?_
                        refine AW.iaload X dX12_orders_118 (am_at 19 rfl) (n2_in (by omega) (by decide)) (v := (nI ((ovr (ePN S (nI s)) m) jx))) (by rw [n2_clamp (by omega)]; exact prm_u hpd (by omega)) ?_
                        refine AW.iload X dX12_orders_119 rfl ?_
                        refine AW.andNotN X dX12_orders_121 dX12_orders_122 dX12_orders_123 ?_
                        refine AW.if_neN X (tgt := 141) dX12_orders_124 (by decide) (by omega) (fun h124 => ?_) (fun h124 => ?_)
                        · have gm : mayC (nmd (ePN S (nI s)) m) (ovr (ePN S (nI s)) m) jx (grd (nmd (ePN S (nI s)) m) (ovr (ePN S (nI s)) m) ix) = false := by simp [mayC, h124]
                          refine AW.iincN X (c := (jx + 1)) dX12_orders_141 rfl (inc_1 _) rfl ?_
                          refine AW.goto X (tgt := 95) dX12_orders_144 (by decide) ?_
                          refine AW.cgw (ih95 (jx + 1) (by omega) (by omega) (by have z9 : ¬ jx = t9 := (fun z => by subst z; rw [lowO_may ht9] at gm; cases gm); omega)) ⟨rfl, rfl, rfl, rfl, rfl, rfl, rfl, rfl, rfl, trivial⟩
                        · have gm : mayC (nmd (ePN S (nI s)) m) (ovr (ePN S (nI s)) m) jx (grd (nmd (ePN S (nI s)) m) (ovr (ePN S (nI s)) m) ix) = true := by simp [mayC, h109, h124]
                          have b2 := or_lt8 (grd_lt (N := (nmd (ePN S (nI s)) m)) (U := (ovr (ePN S (nI s)) m)) ix) (pow_lt8 (show jx < 8 by omega))
                          refine AW.aload_n X dX12_orders_127 (i := 0) rfl rfl ?_
                          refine AW.iload X dX12_orders_128 rfl ?_
                          refine AW.iconstN X 1 dX12_orders_130 rfl ?_
                          refine AW.iload X dX12_orders_131 rfl ?_
                          refine AW.shl1 X dX12_orders_133 (by omega) ?_
                          refine AW.iorN X dX12_orders_134 ?_
                          have ob2 := Nat.le_trans (ordF_le (N := (nmd (ePN S (nI s)) m)) (U := (ovr (ePN S (nI s)) m)) 256 _ b2) (fc8_le _)
                          refine AW.callV X dX12_orders_135 lX12_255 cfX12 (c_X12_ordersFrom Wd hpd 8 ((grd (nmd (ePN S (nI s)) m) (ovr (ePN S (nI s)) m) ix) ||| (2 ^ jx)) (by omega) (by omega)) om0 rfl rfl rfl rfl ⟨rfl, rfl⟩ (pR_k ?_)
                          refine AW.if_neN X (tgt := 147) dX12_orders_138 (by decide) (by omega) (fun h138 => ?_) (fun h138 => ?_)
                          · have e9 := lowO_first ht9 hjx8 gm hle
                            have hw9 : lowO (nmd (ePN S (nI s)) m) (ovr (ePN S (nI s)) m) (grd (nmd (ePN S (nI s)) m) (ovr (ePN S (nI s)) m) ix) = some jx := by rw [e9]; exact ht9
                            refine AW.aload_n X dX12_orders_147 (i := 0) rfl rfl ?_
                            refine AW.getR X dX12_orders_148 fX12_71 rfl om0 (wm_at Wd 20 rfl) ?_
                            refine AW.iload X dX12_orders_151 rfl ?_
                            refine AW.iload X dX12_orders_153 rfl ?_
                            refine AW.iastore X dX12_orders_155 (by decide) (am_at 20 rfl) (n2_in (by omega) (by decide)) ?_
                            rw [n2_clamp (by omega)]
                            refine AW.iload X dX12_orders_156 rfl ?_
                            refine AW.iconstN X 1 dX12_orders_158 rfl ?_
                            refine AW.iload X dX12_orders_159 rfl ?_
                            refine AW.shl1 X dX12_orders_161 (by omega) ?_
                            refine AW.iorN X dX12_orders_162 ?_
                            refine AW.istore X dX12_orders_163 rfl ?_
                            refine AW.iincN X (c := (ix + 1)) dX12_orders_165 rfl (inc_1 _) rfl ?_
                            refine AW.goto X (tgt := 86) dX12_orders_168 (by decide) ?_
                            refine AW.cgw (ih86 (ix + 1) (wI μd 21 ix (nI jx)) (by omega) (by omega) (hsd.trn (SmM.w (Or.inr (Or.inl rfl)))) (prm_same hpd (by simp [wI]) (fun t => by simp [wI])) (fun j hj => by by_cases z : j = ix; (subst z; simp [wI, hw9, oI]); simp only [wI, z, and_false, if_false]; exact hfi j (by omega))) ⟨rfl, rfl, rfl, rfl, rfl, rfl, ?_, rfl, trivial⟩
                            · simp [grd, hw9, oBit]
                          · exact absurd h138 (Nat.pos_iff_ne_zero.mp (ordF_more 256 0 _ b2 (fun t ht => by rw [Nat.zero_testBit] at ht; cases ht) (fun t ht => by rw [Nat.testBit_or, Bool.or_eq_true] at ht; rcases ht with q | q; exact grd_sub ix t q; rw [Nat.testBit_two_pow] at q; have := of_decide_eq_true q; subst this; exact (mayC_iff.mp gm).1) hpos))
                  refine AW.cgw (L95 _ 0 (Nat.lt_succ_self _) (by omega) (Nat.zero_le _)) ⟨rfl, rfl, rfl, rfl, rfl, rfl, rfl, rfl, rfl, trivial⟩
            refine AW.cgw (L86 _ 0 μ2 (Nat.lt_succ_self _) (by omega) hsc hpc (fun j hj => absurd hj (Nat.not_lt_zero _))) ⟨rfl, rfl, rfl, rfl, rfl, rfl, ?_, rfl, trivial⟩
            · simp [grd]
          · rw [inr_n (by omega) (by omega)] at h70
            have g70 := of_decide_eq_false h70
            refine AW.aload_n X dX12_orders_73 (i := 0) rfl rfl ?_
            refine AW.bipush X (v := -5) dX12_orders_74 rfl ?_
            refine AW.callV X dX12_orders_76 lX12_98 cfX12 (c_X12_no (k := 5) hRc (by decide) (by decide)) om0 rfl rfl rfl rfl ⟨rfl, rfl⟩ (pI_k fun r μ1 hr => ?_)
            refine AW.iret X hQ dX12_orders_79 ⟨_, rfl, ?_⟩
            refine rm_of ?_ hr
            simp [S_orders, *]
      · refine AW.iload X dX12_orders_48 rfl ?_
        refine AW.iret X hQ dX12_orders_50 ⟨_, rfl, ?_⟩
        exact rm_val (by simp [S_orders, *]) hRc
    · replace h20 := Int32.not_le.mp h20
      have hr0 := prT_le S xa ya false
      have gr : ¬ prT S xa ya false = 0 := (rt_neg _ (by omega)).mp h20
      refine AW.aload_n X dX12_orders_23 (i := 0) rfl rfl ?_
      refine AW.iload X dX12_orders_24 rfl ?_
      refine AW.callV X dX12_orders_26 lX12_98 cfX12 (c_X12_no (k := prT S xa ya false) hR (by omega) rfl) om0 rfl rfl rfl rfl ⟨rfl, rfl⟩ (pI_k fun r μ1 hr => ?_)
      refine AW.iret X hQ dX12_orders_29 ⟨_, rfl, ?_⟩
      refine rm_of ?_ hr
      simp [S_orders, *]
  · replace h5 := Int32.not_le.mp h5
    refine AW.iconstN X 1 dX12_orders_8 rfl ?_
    refine AW.goto X (tgt := 13) dX12_orders_9 (by decide) ?_
    refine AW.callV X dX12_orders_13 lX12_258 cfX12 (c_X12_noPairs hR (bad := true)) om0 rfl rfl rfl rfl ⟨rfl, rfl⟩ (pR_k ?_)
    refine AW.istore X dX12_orders_16 rfl ?_
    refine AW.iload X dX12_orders_18 rfl ?_
    refine AW.if_ge X (tgt := 30) dX12_orders_20 (by decide) (fun h20 => ?_) (fun h20 => ?_)
    · replace h20 := Int32.not_lt.mpr h20
      have hr0 := prT_le S xa ya true
      have hT0 : prT S xa ya true = 0 := by by_cases q : prT S xa ya true = 0; exact q; exact absurd ((rt_neg _ (by omega)).mpr q) h20
      obtain ⟨s, m, hs, es, em, hm, hkm, hk, hbad, hok⟩ := prT_0 hT0
      cases hbad
    · replace h20 := Int32.not_le.mp h20
      have hr0 := prT_le S xa ya true
      have gr : ¬ prT S xa ya true = 0 := (rt_neg _ (by omega)).mp h20
      refine AW.aload_n X dX12_orders_23 (i := 0) rfl rfl ?_
      refine AW.iload X dX12_orders_24 rfl ?_
      refine AW.callV X dX12_orders_26 lX12_98 cfX12 (c_X12_no (k := prT S xa ya true) hR (by omega) rfl) om0 rfl rfl rfl rfl ⟨rfl, rfl⟩ (pI_k fun r μ1 hr => ?_)
      refine AW.iret X hQ dX12_orders_29 ⟨_, rfl, ?_⟩
      refine rm_of ?_ hr
      simp [S_orders, *]
set_option maxRecDepth 100000 in
set_option maxHeartbeats 4000000 in
theorem c_X12_forged {l : Launch} {δ : Dl} {b : Nat} {μ : Mm} {S : St} (hR : RMX μ S) {xa : Int32} {ya : Int32} : MCM l δ b yX12_forged cX12_forged 5 (some .int) 14 [.ref (b + 0), .int xa, .int ya] μ (pI fun r μ' => r = (S_forged S xa ya).1 ∧ RMX μ' (S_forged S xa ya).2) := by
  have hT := rm_t hR
  have W := rm_w hR
  have bn := ti_n hT.1
  refine MC.intro ([some (.ref (b + 0)), some (.int xa), some (.int ya), none, none]) (by decide) rfl rfl fun κ Qc hl hQ X => ?_
  subst hl
  refine AW.aload_n X dX12_forged_0 (i := 0) rfl rfl ?_
  refine AW.iload_n X dX12_forged_1 (i := 1) rfl rfl ?_
  refine AW.iload_n X dX12_forged_2 (i := 2) rfl rfl ?_
  refine AW.iconstN X 0 dX12_forged_3 rfl ?_
  refine AW.callV X dX12_forged_4 lX12_258 cfX12 (c_X12_noPairs hR (bad := false)) om0 rfl rfl rfl rfl ⟨rfl, rfl⟩ (pR_k ?_)
  refine AW.istore_n X dX12_forged_7 (i := 3) rfl rfl ?_
  refine AW.iload_n X dX12_forged_8 (i := 3) rfl rfl ?_
  refine AW.if_ge X (tgt := 18) dX12_forged_9 (by decide) (fun h9 => ?_) (fun h9 => ?_)
  · replace h9 := Int32.not_lt.mpr h9
    have hr0 := prT_le S xa ya false
    have hT0 : prT S xa ya false = 0 := by by_cases q : prT S xa ya false = 0; exact q; exact absurd ((rt_neg _ (by omega)).mpr q) h9
    obtain ⟨s, m, hs, es, em, hm, hkm, hk, hbad, hok⟩ := prT_0 hT0
    subst es em
    have cs := cl_n (show s < 2147483648 by omega)
    have cm := cl_n (show m < 2147483648 by omega)
    refine AW.iconstN X 0 dX12_forged_18 rfl ?_
    refine AW.istore X dX12_forged_19 rfl ?_
    have L21 : ∀ (m21 ix : Nat) (μc : Mm), m - ix < m21 → ix ≤ m → (SmM PRp μ μc) → (fstUp (fgd S (nI s)) m 0 = fstUp (fgd S (nI s)) (m - ix) ix) → AW κ (δ, b, NM, 5, shM, False, Qc, 0, 0) NM 0 0 21 [some (.ref (b + 0)), some (.int (nI s)), some (.int (nI m)), some (.int (-(nI (prT S (nI s) (nI m) false)))), some (.int (nI ix))] [] μc := by
      intro m21
      induction m21 with
      | zero => intro ix μc hm; exact absurd hm (Nat.not_lt_zero _)
      | succ m21 ih21 =>
        intro ix μc hm21 hi21 hsc hr9
        have Wc := wm_same W hsc
        have hRc := rm_pr hR hsc
        refine AW.iload X dX12_forged_21 rfl ?_
        refine AW.iload_n X dX12_forged_23 (i := 2) rfl rfl ?_
        refine AW.icmp_geN X (tgt := 53) dX12_forged_24 (by decide) (by omega) (by omega) (fun h24 => ?_) (fun h24 => ?_)
        · obtain rfl : m = ix := by omega
          rw [fstUp_0 (by omega)] at hr9
          have n24 := Nat.not_lt_of_le h24
          refine AW.iconst X (v := -1) dX12_forged_53 rfl ?_
          refine AW.iret X hQ dX12_forged_54 ⟨_, rfl, ?_⟩
          exact rm_val (by simp [S_forged, oI, *]) hRc
        · have n24 := Nat.not_le_of_lt h24
          refine AW.aload_n X dX12_forged_27 (i := 0) rfl rfl ?_
          refine AW.iload_n X dX12_forged_28 (i := 1) rfl rfl ?_
          refine AW.iload X dX12_forged_29 rfl ?_
          refine AW.iconstN X 1 dX12_forged_31 rfl ?_
          refine AW.iaddN X dX12_forged_32 ?_
          refine AW.callV X dX12_forged_33 lX12_262 cfX12 (c_X12_pairs hRc hs hkm hm (by omega) hok) om0 rfl rfl rfl rfl ⟨rfl, rfl⟩ (pV_k fun μ2 hpp => ?_)
          have hpc := hpp.1
          have hs2 := hsc.trn hpp.2
          have W2 := wm_same W hs2
          have p0 : (0 : Nat) < 256 := by decide
          have ob := Nat.le_trans (ordF_le (N := (nmd (ePN S (nI s)) (ix + 1))) (U := (ovr (ePN S (nI s)) (ix + 1))) 256 0 p0) (fc8_le 0)
          refine AW.aload_n X dX12_forged_36 (i := 0) rfl rfl ?_
          refine AW.iconstN X 0 dX12_forged_37 rfl ?_
          refine AW.callV X dX12_forged_38 lX12_255 cfX12 (c_X12_ordersFrom W2 hpc 8 0 (by omega) (by omega)) om0 rfl rfl rfl rfl ⟨rfl, rfl⟩ (pR_k ?_)
          refine AW.if_neN X (tgt := 47) dX12_forged_41 (by decide) (by omega) (fun h41 => ?_) (fun h41 => ?_)
          · have gf := (fits_iff hpc.2.1).mpr h41
            rw [fstUp_f (by omega) (show fgd S (nI s) ix = false by simp [fgd, gf])] at hr9
            refine AW.iincN X (c := (ix + 1)) dX12_forged_47 rfl (inc_1 _) rfl ?_
            refine AW.goto X (tgt := 21) dX12_forged_50 (by decide) ?_
            refine AW.cgw (ih21 (ix + 1) μ2 (by omega) (by omega) hs2 hr9) ⟨rfl, rfl, rfl, rfl, rfl, trivial⟩
          · have gf : ¬ grd (nmd (ePN S (nI s)) (ix + 1)) (ovr (ePN S (nI s)) (ix + 1)) 8 = (nmd (ePN S (nI s)) (ix + 1)) := fun z => absurd h41 ((fits_iff hpc.2.1).mp z)
            rw [fstUp_t (by omega) (show fgd S (nI s) ix = true by simp [fgd, gf])] at hr9
            refine AW.iload X dX12_forged_44 rfl ?_
            refine AW.iret X hQ dX12_forged_46 ⟨_, rfl, ?_⟩
            exact rm_val (by simp [S_forged, oI, *]) (rm_pr hR hs2)
    refine AW.cgw (L21 _ 0 μ (Nat.lt_succ_self _) (by omega) SmM.rf rfl) ⟨rfl, rfl, rfl, rfl, rfl, trivial⟩
  · replace h9 := Int32.not_le.mp h9
    have hr0 := prT_le S xa ya false
    have gr : ¬ prT S xa ya false = 0 := (rt_neg _ (by omega)).mp h9
    refine AW.aload_n X dX12_forged_12 (i := 0) rfl rfl ?_
    refine AW.iload_n X dX12_forged_13 (i := 3) rfl rfl ?_
    refine AW.callV X dX12_forged_14 lX12_237 cfX12 (c_X12_no10 (k := prT S xa ya false) hR (by omega) rfl) om0 rfl rfl rfl rfl ⟨rfl, rfl⟩ (pI_k fun r μ1 hr => ?_)
    refine AW.iret X hQ dX12_forged_17 ⟨_, rfl, ?_⟩
    refine rm_of ?_ hr
    simp [S_forged, *]
