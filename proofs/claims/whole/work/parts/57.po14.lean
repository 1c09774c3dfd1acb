theorem ge0_of {x : Int32} (h : ¬ x < -1) (h1 : ¬ x = -1) : ¬ x < 0 := by
  intro q
  have a := Int32.le_iff_toInt_le.mp (Int32.not_lt.mp h)
  have c := Int32.lt_iff_toInt_lt.mp q
  have e1 : (-1 : Int32).toInt = -1 := by decide
  have e0 : (0 : Int32).toInt = 0 := by decide
  refine h1 (Int32.toInt_inj.mp ?_)
  omega
set_option maxRecDepth 100000 in
set_option maxHeartbeats 4000000 in
theorem c_X11_orders {l : Launch} {δ : Dl} {b : Nat} {μ : Mm} {S : St} (hR : RX μ S) {xa : Int32} {ya : Int32} {za : Int32} : MCX l δ b yX11_orders cX11_orders 6 (some .int) 4 [.ref (b + 0), .int xa, .int ya, .int za] μ (pI fun r μ' => r = (S_orders S xa ya za).1 ∧ RX μ' (S_orders S xa ya za).2) := by
  obtain ⟨B, Bd, tb, hnow, hdr, hT⟩ := hR.2.2.1
  have W := rx_w hR
  have ta := two_ta tb
  have hB := ta.1
  have hBd := ta.2.1
  have bn := ti_n hT.1
  have q1 := prT_le S xa ya true
  have q2 := prT_le S xa ya false
  refine MC.intro ([some (.ref (b + 0)), some (.int xa), some (.int ya), some (.int za), none, none]) (by decide) rfl rfl fun κ Qc hl hQ X => ?_
  subst hl
  refine AW.aload_n X dX11_orders_0 (i := 0) rfl rfl ?_
  refine AW.iload_n X dX11_orders_1 (i := 1) rfl rfl ?_
  refine AW.iload_n X dX11_orders_2 (i := 2) rfl rfl ?_
  refine AW.iload_n X dX11_orders_3 (i := 3) rfl rfl ?_
  refine AW.iconst X (v := -1) dX11_orders_4 rfl ?_
  refine AW.icmp_ge X (tgt := 12) dX11_orders_5 (by decide) (fun h5 => ?_) (fun h5 => ?_)
  · replace h5 := Int32.not_lt.mpr h5
    refine AW.iconstN X 0 dX11_orders_12 rfl ?_
    refine AW.callV X dX11_orders_13 lX11_258 cfX11 (c_X11_pairsTrouble hR (bad := false)) ox0 rfl rfl rfl rfl ⟨rfl, rfl⟩ (pR_k ?_)
    refine AW.istore X dX11_orders_16 rfl ?_
    refine AW.iload X dX11_orders_18 rfl ?_
    refine AW.if_eqN X (tgt := 30) dX11_orders_20 (by decide) (by omega) (fun h20 => ?_) (fun h20 => ?_)
    · obtain ⟨s, m, hs, es, em, hm, hkm, hk, hbad, hok⟩ := prT_0 h20
      subst es em
      have cs := cl_n (show s < 2147483648 by omega)
      have cm := cl_n (show m < 2147483648 by omega)
      refine AW.aload_n X dX11_orders_30 (i := 0) rfl rfl ?_
      refine AW.callV X dX11_orders_31 lX11_262 cfX11 (c_X11_forgetPairs W) ox0 rfl rfl rfl rfl ⟨rfl, rfl⟩ (pV_k fun μ2 hf => ?_)
      have hp2 : PRX μ2 0 (fun _ => 0) := by rw [hf]; exact prx_0
      have hs2 : PRS μ μ2 := by rw [hf]; exact prs_0
      refine AW.iconstN X 0 dX11_orders_34 rfl ?_
      refine AW.istore X dX11_orders_35 rfl ?_
      have L37 : ∀ (m37 ix : Nat) (μc : Mm), m - ix < m37 → ix ≤ m → (PRS μ μc) → (PRX μc (nmd (ePN S (nI s)) ix) (ovr (ePN S (nI s)) ix)) → AW κ (δ, b, NX, 6, shX, False, Qc, 0, 0) NX 0 0 37 [some (.ref (b + 0)), some (.int (nI s)), some (.int (nI m)), some (.int za), some (.int (nI (prT S (nI s) (nI m) false))), some (.int (nI ix))] [] μc := by
        intro m37
        induction m37 with
        | zero => intro ix μc hm; exact absurd hm (Nat.not_lt_zero _)
        | succ m37 ih37 =>
          intro ix μc hm37 hi37 hsc hpc
          have Wc := wx_ps W hsc
          refine AW.iload X dX11_orders_37 rfl ?_
          refine AW.iload_n X dX11_orders_39 (i := 2) rfl rfl ?_
          refine AW.icmp_geN X (tgt := 63) dX11_orders_40 (by decide) (by omega) (by omega) (fun h40 => ?_) (fun h40 => ?_)
          · obtain rfl : m = ix := by omega
            have n40 := Nat.not_lt_of_le h40
            refine AW.iload_n X dX11_orders_63 (i := 3) rfl rfl ?_
            refine AW.iconst X (v := -1) dX11_orders_64 rfl ?_
            refine AW.icmp_ne X (tgt := 73) dX11_orders_65 (by decide) (fun h65 => ?_) (fun h65 => ?_)
            · obtain ⟨i9, hi9, ei9⟩ := nI_of (ge0_of h5 h65)
              subst ei9
              have ci := cl_n hi9
              have g65 : ¬ nI i9 = -1 := h65
              refine AW.iload_n X dX11_orders_73 (i := 3) rfl rfl ?_
              refine AW.aload_n X dX11_orders_74 (i := 0) rfl rfl ?_
              refine AW.getI X dX11_orders_75 fX11_24 rfl ox0 (v := (nI (nmd (ePN S (nI s)) m))) (px_n hpc) ?_
              refine AW.callS X dX11_orders_78 lX11_272 (c_J6_bitCount_0f7a4) rfl rfl rfl rfl ⟨rfl, rfl⟩ (pR_k ?_)
              rw [bc_n _ hpc.2.1]
              have b8 := pcnt_le (nmd (ePN S (nI s)) m)
              refine AW.icmp_geN X (tgt := 91) dX11_orders_81 (by decide) (by omega) (by omega) (fun h81 => ?_) (fun h81 => ?_)
              · have n81 := Nat.not_lt_of_le h81
                refine AW.aload_n X dX11_orders_91 (i := 0) rfl rfl ?_
                refine AW.iconstN X 5 dX11_orders_92 rfl ?_
                refine AW.callV X dX11_orders_93 lX11_95 cfX11 (c_X11_refuse (k := 5) (rx_ps hR hsc) (by decide)) ox0 rfl rfl rfl rfl ⟨rfl, rfl⟩ (pI_k fun r μ1 hr => ?_)
                refine AW.iret X hQ dX11_orders_96 ⟨_, rfl, ?_⟩
                refine rx_of ?_ hr
                simp [S_orders, *]
              · have n81 := Nat.not_le_of_lt h81
                refine AW.aload_n X dX11_orders_84 (i := 0) rfl rfl ?_
                refine AW.callV X dX11_orders_85 lX11_277 cfX11 (c_X11_orderFits Wc hpc) ox0 rfl rfl rfl rfl ⟨rfl, rfl⟩ (pR_k ?_)
                refine AW.if_neB X (tgt := 97) dX11_orders_88 (by decide) (fun h88 => ?_) (fun h88 => ?_)
                · refine AW.aload_n X dX11_orders_97 (i := 0) rfl rfl ?_
                  refine AW.iload_n X dX11_orders_98 (i := 3) rfl rfl ?_
                  refine AW.callV X dX11_orders_99 lX11_281 cfX11 (c_X11_inFirstOrder Wc hpc (m := i9) (by omega) (grd_some (of_decide_eq_true h88) h81)) ox0 rfl rfl rfl rfl ⟨rfl, rfl⟩ (pR_k ?_)
                  refine AW.iret X hQ dX11_orders_102 ⟨_, rfl, ?_⟩
                  have g88 := of_decide_eq_true h88
                  exact rx_val (by simp [S_orders, *]) (rx_ps hR hsc)
                · have g88 := of_decide_eq_false h88
                  refine AW.aload_n X dX11_orders_91 (i := 0) rfl rfl ?_
                  refine AW.iconstN X 5 dX11_orders_92 rfl ?_
                  refine AW.callV X dX11_orders_93 lX11_95 cfX11 (c_X11_refuse (k := 5) (rx_ps hR hsc) (by decide)) ox0 rfl rfl rfl rfl ⟨rfl, rfl⟩ (pI_k fun r μ1 hr => ?_)
                  refine AW.iret X hQ dX11_orders_96 ⟨_, rfl, ?_⟩
                  refine rx_of ?_ hr
                  simp [S_orders, *]
            · refine AW.aload_n X dX11_orders_68 (i := 0) rfl rfl ?_
              refine AW.callV X dX11_orders_69 lX11_269 cfX11 (c_X11_countOrders Wc hpc) ox0 rfl rfl rfl rfl ⟨rfl, rfl⟩ (pI_k fun r2 μ4 hq => ?_)
              refine AW.iret X hQ dX11_orders_72 ⟨_, rfl, ?_⟩
              obtain ⟨rfl, hs3⟩ := hq
              exact rx_val (by simp [S_orders, *]) (rx_ps hR (hsc.tr hs3))
          · have n40 := Nat.not_le_of_lt h40
            refine AW.aload_n X dX11_orders_43 (i := 0) rfl rfl ?_
            refine AW.aload_n X dX11_orders_44 (i := 0) rfl rfl ?_
            refine AW.getR X dX11_orders_45 fX11_18 rfl ox0 (wx_elements Wc) ?_
            refine AW.iload_n X dX11_orders_48 (i := 1) rfl rfl ?_
            refine AW.aaload X (r := (4 + s)) dX11_orders_49 rfl rfl ax3 (n2_in (by omega) (by decide)) (by rw [n2_clamp (by omega)]; exact wx_el Wc (by omega)) ?_
            refine AW.iload X dX11_orders_50 rfl ?_
            refine AW.laload X dX11_orders_52 (ax_el (by omega)) (n2_in (by omega) (by decide)) (v := (S.2.2.2 s ix)) (by rw [n2_clamp (by omega)]; exact rx_elem (rx_ps hR hsc) hs (by omega)) ?_
            refine AW.l2i X dX11_orders_53 ?_
            have he := ePN_of hok h40
            have he1 := he.1
            rw [eP, cs] at he1
            rw [he1]
            refine AW.callV X dX11_orders_54 lX11_265 cfX11 (c_X11_addPair Wc hpc he.2.1 he.2.2.1 he.2.2.2) ox0 rfl rfl rfl rfl ⟨rfl, rfl⟩ (pV_k fun μ3 ha => ?_)
            refine AW.iincN X (c := (ix + 1)) dX11_orders_57 rfl (inc_1 _) rfl ?_
            refine AW.goto X (tgt := 37) dX11_orders_60 (by decide) ?_
            refine AW.cgw (ih37 (ix + 1) μ3 (by omega) (by omega) (hsc.tr ha.2) (prx_s ha.1)) ⟨rfl, rfl, rfl, rfl, rfl, rfl, trivial⟩
      refine AW.cgw (L37 _ 0 μ2 (Nat.lt_succ_self _) (by omega) hs2 hp2) ⟨rfl, rfl, rfl, rfl, rfl, rfl, trivial⟩
    · refine AW.aload_n X dX11_orders_23 (i := 0) rfl rfl ?_
      refine AW.iload X dX11_orders_24 rfl ?_
      refine AW.callV X dX11_orders_26 lX11_95 cfX11 (c_X11_refuse (k := (prT S xa ya false)) hR (by first | decide | omega)) ox0 rfl rfl rfl rfl ⟨rfl, rfl⟩ (pI_k fun r μ1 hr => ?_)
      refine AW.iret X hQ dX11_orders_29 ⟨_, rfl, ?_⟩
      refine rx_of ?_ hr
      simp [S_orders, *]
  · replace h5 := Int32.not_le.mp h5
    refine AW.iconstN X 1 dX11_orders_8 rfl ?_
    refine AW.goto X (tgt := 13) dX11_orders_9 (by decide) ?_
    refine AW.callV X dX11_orders_13 lX11_258 cfX11 (c_X11_pairsTrouble hR (bad := true)) ox0 rfl rfl rfl rfl ⟨rfl, rfl⟩ (pR_k ?_)
    refine AW.istore X dX11_orders_16 rfl ?_
    refine AW.iload X dX11_orders_18 rfl ?_
    refine AW.if_eqN X (tgt := 30) dX11_orders_20 (by decide) (by omega) (fun h20 => ?_) (fun h20 => ?_)
    · obtain ⟨s, m, hs, es, em, hm, hkm, hk, hbad, hok⟩ := prT_0 h20
      cases hbad
    · refine AW.aload_n X dX11_orders_23 (i := 0) rfl rfl ?_
      refine AW.iload X dX11_orders_24 rfl ?_
      refine AW.callV X dX11_orders_26 lX11_95 cfX11 (c_X11_refuse (k := (prT S xa ya true)) hR (by first | decide | omega)) ox0 rfl rfl rfl rfl ⟨rfl, rfl⟩ (pI_k fun r μ1 hr => ?_)
      refine AW.iret X hQ dX11_orders_29 ⟨_, rfl, ?_⟩
      refine rx_of ?_ hr
      simp [S_orders, *]
set_option maxRecDepth 100000 in
set_option maxHeartbeats 4000000 in
theorem c_X11_forged {l : Launch} {δ : Dl} {b : Nat} {μ : Mm} {S : St} (hR : RX μ S) {xa : Int32} {ya : Int32} : MCX l δ b yX11_forged cX11_forged 5 (some .int) 4 [.ref (b + 0), .int xa, .int ya] μ (pI fun r μ' => r = (S_forged S xa ya).1 ∧ RX μ' (S_forged S xa ya).2) := by
  obtain ⟨B, Bd, tb, hnow, hdr, hT⟩ := hR.2.2.1
  have W := rx_w hR
  have ta := two_ta tb
  have hB := ta.1
  have hBd := ta.2.1
  have bn := ti_n hT.1
  have q2 := prT_le S xa ya false
  refine MC.intro ([some (.ref (b + 0)), some (.int xa), some (.int ya), none, none]) (by decide) rfl rfl fun κ Qc hl hQ X => ?_
  subst hl
  refine AW.aload_n X dX11_forged_0 (i := 0) rfl rfl ?_
  refine AW.iload_n X dX11_forged_1 (i := 1) rfl rfl ?_
  refine AW.iload_n X dX11_forged_2 (i := 2) rfl rfl ?_
  refine AW.iconstN X 0 dX11_forged_3 rfl ?_
  refine AW.callV X dX11_forged_4 lX11_258 cfX11 (c_X11_pairsTrouble hR (bad := false)) ox0 rfl rfl rfl rfl ⟨rfl, rfl⟩ (pR_k ?_)
  refine AW.istore_n X dX11_forged_7 (i := 3) rfl rfl ?_
  refine AW.iload_n X dX11_forged_8 (i := 3) rfl rfl ?_
  refine AW.if_eqN X (tgt := 20) dX11_forged_9 (by decide) (by omega) (fun h9 => ?_) (fun h9 => ?_)
  · obtain ⟨s, m, hs, es, em, hm, hkm, hk, hbad, hok⟩ := prT_0 h9
    subst es em
    have cs := cl_n (show s < 2147483648 by omega)
    have cm := cl_n (show m < 2147483648 by omega)
    refine AW.aload_n X dX11_forged_20 (i := 0) rfl rfl ?_
    refine AW.callV X dX11_forged_21 lX11_262 cfX11 (c_X11_forgetPairs W) ox0 rfl rfl rfl rfl ⟨rfl, rfl⟩ (pV_k fun μ2 hf => ?_)
    have hp2 : PRX μ2 0 (fun _ => 0) := by rw [hf]; exact prx_0
    have hs2 : PRS μ μ2 := by rw [hf]; exact prs_0
    refine AW.iconstN X 0 dX11_forged_24 rfl ?_
    refine AW.istore X dX11_forged_25 rfl ?_
    have L27 : ∀ (m27 ix : Nat) (μc : Mm), m - ix < m27 → ix ≤ m → (PRS μ μc) → (PRX μc (nmd (ePN S (nI s)) ix) (ovr (ePN S (nI s)) ix)) → (fstUp (fgd S (nI s)) m 0 = fstUp (fgd S (nI s)) (m - ix) ix) → AW κ (δ, b, NX, 5, shX, False, Qc, 0, 0) NX 0 0 27 [some (.ref (b + 0)), some (.int (nI s)), some (.int (nI m)), some (.int (nI (prT S (nI s) (nI m) false))), some (.int (nI ix))] [] μc := by
      intro m27
      induction m27 with
      | zero => intro ix μc hm; exact absurd hm (Nat.not_lt_zero _)
      | succ m27 ih27 =>
        intro ix μc hm27 hi27 hsc hpc hr9
        have Wc := wx_ps W hsc
        refine AW.iload X dX11_forged_27 rfl ?_
        refine AW.iload_n X dX11_forged_29 (i := 2) rfl rfl ?_
        refine AW.icmp_geN X (tgt := 63) dX11_forged_30 (by decide) (by omega) (by omega) (fun h30 => ?_) (fun h30 => ?_)
        · obtain rfl : m = ix := by omega
          rw [fstUp_0 (by omega)] at hr9
          have n30 := Nat.not_lt_of_le h30
          refine AW.iconst X (v := -1) dX11_forged_63 rfl ?_
          refine AW.iret X hQ dX11_forged_64 ⟨_, rfl, ?_⟩
          exact rx_val (by simp [S_forged, oI, *]) (rx_ps hR hsc)
        · have n30 := Nat.not_le_of_lt h30
          refine AW.aload_n X dX11_forged_33 (i := 0) rfl rfl ?_
          refine AW.aload_n X dX11_forged_34 (i := 0) rfl rfl ?_
          refine AW.getR X dX11_forged_35 fX11_18 rfl ox0 (wx_elements Wc) ?_
          refine AW.iload_n X dX11_forged_38 (i := 1) rfl rfl ?_
          refine AW.aaload X (r := (4 + s)) dX11_forged_39 rfl rfl ax3 (n2_in (by omega) (by decide)) (by rw [n2_clamp (by omega)]; exact wx_el Wc (by omega)) ?_
          refine AW.iload X dX11_forged_40 rfl ?_
          refine AW.laload X dX11_forged_42 (ax_el (by omega)) (n2_in (by omega) (by decide)) (v := (S.2.2.2 s ix)) (by rw [n2_clamp (by omega)]; exact rx_elem (rx_ps hR hsc) hs (by omega)) ?_
          refine AW.l2i X dX11_forged_43 ?_
          have he := ePN_of hok h30
          have he1 := he.1
          rw [eP, cs] at he1
          rw [he1]
          refine AW.callV X dX11_forged_44 lX11_265 cfX11 (c_X11_addPair Wc hpc he.2.1 he.2.2.1 he.2.2.2) ox0 rfl rfl rfl rfl ⟨rfl, rfl⟩ (pV_k fun μ3 ha => ?_)
          refine AW.aload_n X dX11_forged_47 (i := 0) rfl rfl ?_
          refine AW.callV X dX11_forged_48 lX11_277 cfX11 (c_X11_orderFits (wx_ps Wc ha.2) (prx_s ha.1)) ox0 rfl rfl rfl rfl ⟨rfl, rfl⟩ (pR_k ?_)
          refine AW.if_neB X (tgt := 57) dX11_forged_51 (by decide) (fun h51 => ?_) (fun h51 => ?_)
          · rw [fstUp_f (by omega) (show fgd S (nI s) ix = false by rw [fgd, h51]; rfl)] at hr9
            refine AW.iincN X (c := (ix + 1)) dX11_forged_57 rfl (inc_1 _) rfl ?_
            refine AW.goto X (tgt := 27) dX11_forged_60 (by decide) ?_
            refine AW.cgw (ih27 (ix + 1) μ3 (by omega) (by omega) (hsc.tr ha.2) (prx_s ha.1) hr9) ⟨rfl, rfl, rfl, rfl, rfl, trivial⟩
          · rw [fstUp_t (by omega) (show fgd S (nI s) ix = true by rw [fgd, h51]; rfl)] at hr9
            refine AW.iload X dX11_forged_54 rfl ?_
            refine AW.iret X hQ dX11_forged_56 ⟨_, rfl, ?_⟩
            exact rx_val (by simp [S_forged, oI, *]) (rx_ps hR (hsc.tr ha.2))
    refine AW.cgw (L27 _ 0 μ2 (Nat.lt_succ_self _) (by omega) hs2 hp2 rfl) ⟨rfl, rfl, rfl, rfl, rfl, trivial⟩
  · refine AW.aload_n X dX11_forged_12 (i := 0) rfl rfl ?_
    refine AW.iload_n X dX11_forged_13 (i := 3) rfl rfl ?_
    refine AW.bipushN X 10 dX11_forged_14 rfl ?_
    refine AW.callV X dX11_forged_16 lX11_221 cfX11 (c_X11_refuseDown (k := (prT S xa ya false)) (down := 10) hR (by first | decide | omega)) ox0 rfl rfl rfl rfl ⟨rfl, rfl⟩ (pI_k fun r μ1 hr => ?_)
    refine AW.iret X hQ dX11_forged_19 ⟨_, rfl, ?_⟩
    refine rx_of ?_ hr
    simp [S_forged, *]
