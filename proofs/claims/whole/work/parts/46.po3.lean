theorem rx_of {p q : Int32 × St} {r : Int32} {μ : Mm} (e : q = p) (h : r = p.1 ∧ RX μ p.2) : r = q.1 ∧ RX μ q.2 := by rw [e]; exact h
theorem rx_val {p : Int32 × St} {r : Int32} {S' : St} {μ : Mm} (e : p = (r, S')) (h : RX μ S') : r = p.1 ∧ RX μ p.2 := by rw [e]; exact ⟨rfl, h⟩
theorem pos_n {j : Nat} (h : j < 2147483648) : ¬ nI j < 0 := nI_pos (by omega)
theorem i3_n {a c : Nat} (ha : a < 2147483648) (hc : c < 2147483648) : (nI a < nI c) = (a < c) := propext (n2_lt ha hc)
set_option maxRecDepth 100000 in
set_option maxHeartbeats 4000000 in
theorem c_X11_row {l : Launch} {δ : Dl} {b : Nat} {μ : Mm} {S : St} (hR : RX μ S) {x y z : Int32} : MCX l δ b yX11_row cX11_row 5 (some .int) 3 [.ref (b + 0), .int x, .int y, .int z] μ (pI fun r μ' => r = (S_row S x y z).1 ∧ RX μ' (S_row S x y z).2) := by
  obtain ⟨B, Bd, tb, hnow, hdr, hT⟩ := hR.2.2.1
  have W := rx_w hR
  have ta := two_ta tb
  have hB := ta.1
  have hBd := ta.2.1
  have bn := ti_n hT.1
  refine MC.intro ([some (.ref (b + 0)), some (.int x), some (.int y), some (.int z), none]) (by decide) rfl rfl fun κ Qc hl hQ X => ?_
  subst hl
  refine AW.iload_n X dX11_row_0 (i := 1) rfl rfl ?_
  refine AW.bipushN X 8 dX11_row_1 rfl ?_
  refine AW.callS X dX11_row_3 lX11_91 (c_X11_outside) rfl rfl rfl rfl ⟨rfl, rfl⟩ (pR_k ?_)
  refine AW.if_eqB X (tgt := 15) dX11_row_6 (by decide) (fun h6 => ?_) (fun h6 => ?_)
  · simp only [Bool.not_eq_true', Bool.not_eq_false'] at h6
    obtain ⟨s, hs, es⟩ := inr_of (x := x) (m := 8) (by omega) h6
    subst es
    refine AW.iload_n X dX11_row_15 (i := 3) rfl rfl ?_
    refine AW.if_ge X (tgt := 25) dX11_row_16 (by decide) (fun h16 => ?_) (fun h16 => ?_)
    · replace h16 := Int32.not_lt.mpr h16
      obtain ⟨mm, hmm, emm⟩ := nI_of h16
      subst emm
      refine AW.iload_n X dX11_row_25 (i := 2) rfl rfl ?_
      refine AW.iconstN X 4 dX11_row_26 rfl ?_
      refine AW.callS X dX11_row_27 lX11_91 (c_X11_outside) rfl rfl rfl rfl ⟨rfl, rfl⟩ (pR_k ?_)
      refine AW.if_eqB X (tgt := 40) dX11_row_30 (by decide) (fun h30 => ?_) (fun h30 => ?_)
      · simp only [Bool.not_eq_true', Bool.not_eq_false'] at h30
        obtain ⟨q, hq, eq⟩ := inr_of (x := y) (m := 4) (by omega) h30
        subst eq
        refine AW.iload_n X dX11_row_40 (i := 3) rfl rfl ?_
        refine AW.sipushN X 160 dX11_row_41 rfl ?_
        refine AW.icmp_leN X (tgt := 54) dX11_row_44 (by decide) (by omega) (by omega) (fun h44 => ?_) (fun h44 => ?_)
        · refine AW.aload_n X dX11_row_54 (i := 0) rfl rfl ?_
          refine AW.getR X dX11_row_55 fX11_9 rfl ox0 (wx_held W) ?_
          refine AW.iload_n X dX11_row_58 (i := 1) rfl rfl ?_
          refine AW.bipushN X 100 dX11_row_59 rfl ?_
          refine AW.iload_n X dX11_row_61 (i := 2) rfl rfl ?_
          refine AW.iaddN X dX11_row_62 ?_
          refine AW.iastore X dX11_row_63 (by decide) ax1 (n2_in (by omega) (by decide)) ?_
          rw [n2_clamp (by omega)]
          refine AW.aload_n X dX11_row_64 (i := 0) rfl rfl ?_
          refine AW.getR X dX11_row_65 fX11_13 rfl ox0 (wx_sizes W) ?_
          refine AW.iload_n X dX11_row_68 (i := 1) rfl rfl ?_
          refine AW.iload_n X dX11_row_69 (i := 3) rfl rfl ?_
          refine AW.iastore X dX11_row_70 (by decide) ax2 (n2_in (by omega) (by decide)) ?_
          rw [n2_clamp (by omega)]
          refine AW.iconstN X 0 dX11_row_71 rfl ?_
          refine AW.istore X dX11_row_72 rfl ?_
          have L74 : ∀ (m9 i : Nat), mm - i < m9 → i ≤ mm → AW κ (δ, b, NX, 5, shX, False, Qc, 0, 0) NX 0 0 74 [some (.ref (b + 0)), some (.int (nI s)), some (.int (nI q)), some (.int (nI mm)), some (.int (nI i))] [] (zlM (wI (wI μ 1 s (nI (100 + q))) 2 s (nI mm)) (4 + s) i) := by
            intro m9
            induction m9 with
            | zero => intro i hm9; exact absurd hm9 (Nat.not_lt_zero _)
            | succ m9 ih =>
              intro i hm9 hi
              refine AW.iload X dX11_row_74 rfl ?_
              refine AW.iload_n X dX11_row_76 (i := 3) rfl rfl ?_
              refine AW.icmp_geN X (tgt := 96) dX11_row_77 (by decide) (by omega) (by omega) (fun h77 => ?_) (fun h77 => ?_)
              · have ei : i = mm := by omega
                rw [ei]
                refine AW.iconstN X 1 dX11_row_96 rfl ?_
                refine AW.iret X hQ dX11_row_97 ⟨_, rfl, ?_⟩
                refine rx_val ?_ (rx_row hR hs hq (by omega : mm ≤ 160))
                simp [S_row, *, pos_n, cl_n (show s < 2147483648 by omega), cl_n (show q < 2147483648 by omega), cl_n (show mm < 2147483648 by omega), i3_n]
                omega
              · refine AW.aload_n X dX11_row_80 (i := 0) rfl rfl ?_
                refine AW.getR X dX11_row_81 fX11_18 rfl ox0 (wx_elements W) ?_
                refine AW.iload_n X dX11_row_84 (i := 1) rfl rfl ?_
                refine AW.aaload X (r := (4 + s)) dX11_row_85 rfl rfl ax3 (n2_in (by omega) (by decide)) (by rw [n2_clamp (by omega)]; exact wx_el W (by omega)) ?_
                refine AW.iload X dX11_row_86 rfl ?_
                refine AW.lconst X (v := 0) dX11_row_88 rfl ?_
                refine AW.lastore X dX11_row_89 (by decide) (ax_el (by omega)) (n2_in (by omega) (by decide)) ?_
                rw [n2_clamp (by omega)]
                refine AW.iincN X (c := (i + 1)) dX11_row_90 rfl (inc_1 _) rfl ?_
                refine AW.goto X (tgt := 74) dX11_row_93 (by decide) ?_
                exact AW.cgm (zl_s _ _ i) (ih (i + 1) (by omega) (by omega))
          exact AW.cgm (zl_0 _ (4 + s)) (L74 _ 0 (Nat.lt_succ_self _) (by omega))
        · refine AW.aload_n X dX11_row_47 (i := 0) rfl rfl ?_
          refine AW.bipushN X 7 dX11_row_48 rfl ?_
          refine AW.callV X dX11_row_50 lX11_95 cfX11 (c_X11_refuse (k := 7) hR (by decide)) ox0 rfl rfl rfl rfl ⟨rfl, rfl⟩ (pI_k fun r μ1 hr => ?_)
          refine AW.iret X hQ dX11_row_53 ⟨_, rfl, ?_⟩
          refine rx_of ?_ hr
          have e := (n2_lt (by decide : 160 < 2147483648) hmm).mpr h44
          simp [S_row, *]
      · simp only [Bool.not_eq_true', Bool.not_eq_false'] at h30
        refine AW.aload_n X dX11_row_33 (i := 0) rfl rfl ?_
        refine AW.bipushN X 6 dX11_row_34 rfl ?_
        refine AW.callV X dX11_row_36 lX11_95 cfX11 (c_X11_refuse (k := 6) hR (by decide)) ox0 rfl rfl rfl rfl ⟨rfl, rfl⟩ (pI_k fun r μ1 hr => ?_)
        refine AW.iret X hQ dX11_row_39 ⟨_, rfl, ?_⟩
        refine rx_of ?_ hr
        simp [S_row, *]
    · replace h16 := Int32.not_le.mp h16
      refine AW.aload_n X dX11_row_19 (i := 0) rfl rfl ?_
      refine AW.iconstN X 4 dX11_row_20 rfl ?_
      refine AW.callV X dX11_row_21 lX11_95 cfX11 (c_X11_refuse (k := 4) hR (by decide)) ox0 rfl rfl rfl rfl ⟨rfl, rfl⟩ (pI_k fun r μ1 hr => ?_)
      refine AW.iret X hQ dX11_row_24 ⟨_, rfl, ?_⟩
      refine rx_of ?_ hr
      simp [S_row, *]
  · simp only [Bool.not_eq_true', Bool.not_eq_false'] at h6
    refine AW.aload_n X dX11_row_9 (i := 0) rfl rfl ?_
    refine AW.iconstN X 1 dX11_row_10 rfl ?_
    refine AW.callV X dX11_row_11 lX11_95 cfX11 (c_X11_refuse (k := 1) hR (by decide)) ox0 rfl rfl rfl rfl ⟨rfl, rfl⟩ (pI_k fun r μ1 hr => ?_)
    refine AW.iret X hQ dX11_row_14 ⟨_, rfl, ?_⟩
    refine rx_of ?_ hr
    simp [S_row, *]
set_option maxRecDepth 100000 in
set_option maxHeartbeats 4000000 in
theorem c_X11_element {l : Launch} {δ : Dl} {b : Nat} {μ : Mm} {S : St} (hR : RX μ S) {x i : Int32} : MCX l δ b yX11_element cX11_element 3 (some .long) 3 [.ref (b + 0), .int x, .int i] μ (pL fun r μ' => r = S_element S x i ∧ μ' = μ) := by
  obtain ⟨B, Bd, tb, hnow, hdr, hT⟩ := hR.2.2.1
  have W := rx_w hR
  have ta := two_ta tb
  have hB := ta.1
  have hBd := ta.2.1
  have bn := ti_n hT.1
  have bt := rowT_le S x
  refine MC.intro ([some (.ref (b + 0)), some (.int x), some (.int i)]) (by decide) rfl rfl fun κ Qc hl hQ X => ?_
  subst hl
  refine AW.aload_n X dX11_element_0 (i := 0) rfl rfl ?_
  refine AW.iload_n X dX11_element_1 (i := 1) rfl rfl ?_
  refine AW.callV X dX11_element_2 lX11_99 cfX11 (c_X11_rowTrouble hR) ox0 rfl rfl rfl rfl ⟨rfl, rfl⟩ (pR_k ?_)
  refine AW.if_neN X (tgt := 21) dX11_element_5 (by decide) (by omega) (fun h5 => ?_) (fun h5 => ?_)
  · refine AW.lconst X (v := 0) dX11_element_21 rfl ?_
    refine AW.lret X hQ dX11_element_22 ⟨_, rfl, ?_⟩
    exact ⟨by simp [S_element, *], rfl⟩
  · obtain ⟨s, hs, es, hrow⟩ := rowT_0 h5
    subst es
    have hz := hR.1.2.2.2.1 s hs
    have hk9 := hR.1.2.2.1 s hs
    refine AW.iload_n X dX11_element_8 (i := 2) rfl rfl ?_
    refine AW.aload_n X dX11_element_9 (i := 0) rfl rfl ?_
    refine AW.getR X dX11_element_10 fX11_13 rfl ox0 (wx_sizes W) ?_
    refine AW.iload_n X dX11_element_13 (i := 1) rfl rfl ?_
    refine AW.iaload X dX11_element_14 ax2 (n2_in (by omega) (by decide)) (v := (nI (kk S 1 s))) (by rw [n2_clamp (by omega)]; exact rx_size hR (by omega)) ?_
    refine AW.callS X dX11_element_15 lX11_91 (c_X11_outside) rfl rfl rfl rfl ⟨rfl, rfl⟩ (pR_k ?_)
    refine AW.if_eqB X (tgt := 23) dX11_element_18 (by decide) (fun h18 => ?_) (fun h18 => ?_)
    · simp only [Bool.not_eq_true', Bool.not_eq_false'] at h18
      obtain ⟨j, hj, ej⟩ := inr_of (x := i) (m := (kk S 1 s)) (by omega) h18
      subst ej
      refine AW.aload_n X dX11_element_23 (i := 0) rfl rfl ?_
      refine AW.getR X dX11_element_24 fX11_18 rfl ox0 (wx_elements W) ?_
      refine AW.iload_n X dX11_element_27 (i := 1) rfl rfl ?_
      refine AW.aaload X (r := (4 + s)) dX11_element_28 rfl rfl ax3 (n2_in (by omega) (by decide)) (by rw [n2_clamp (by omega)]; exact wx_el W (by omega)) ?_
      refine AW.iload_n X dX11_element_29 (i := 2) rfl rfl ?_
      refine AW.laload X dX11_element_30 (ax_el (by omega)) (n2_in (by omega) (by decide)) (v := (S.2.2.2 s j)) (by rw [n2_clamp (by omega)]; exact rx_elem hR hs hj) ?_
      refine AW.lret X hQ dX11_element_31 ⟨_, rfl, ?_⟩
      exact ⟨by simp [S_element, cl_n (show s < 2147483648 by omega), cl_n (show j < 2147483648 by omega), *], rfl⟩
    · simp only [Bool.not_eq_true', Bool.not_eq_false'] at h18
      refine AW.lconst X (v := 0) dX11_element_21 rfl ?_
      refine AW.lret X hQ dX11_element_22 ⟨_, rfl, ?_⟩
      exact ⟨by simp [S_element, cl_n (show s < 2147483648 by omega), *], rfl⟩
set_option maxRecDepth 100000 in
set_option maxHeartbeats 4000000 in
theorem c_X11_set {l : Launch} {δ : Dl} {b : Nat} {μ : Mm} {S : St} (hR : RX μ S) {x i : Int32} {v : Int64} : MCX l δ b yX11_set cX11_set 6 (some .int) 3 [.ref (b + 0), .int x, .int i, .long v] μ (pI fun r μ' => r = (S_set S x i v).1 ∧ RX μ' (S_set S x i v).2) := by
  obtain ⟨B, Bd, tb, hnow, hdr, hT⟩ := hR.2.2.1
  have W := rx_w hR
  have ta := two_ta tb
  have hB := ta.1
  have hBd := ta.2.1
  have bn := ti_n hT.1
  have bt := rowT_le S x
  refine MC.intro ([some (.ref (b + 0)), some (.int x), some (.int i), some (.long v), none, none]) (by decide) rfl rfl fun κ Qc hl hQ X => ?_
  subst hl
  refine AW.aload_n X dX11_set_0 (i := 0) rfl rfl ?_
  refine AW.iload_n X dX11_set_1 (i := 1) rfl rfl ?_
  refine AW.callV X dX11_set_2 lX11_99 cfX11 (c_X11_rowTrouble hR) ox0 rfl rfl rfl rfl ⟨rfl, rfl⟩ (pR_k ?_)
  refine AW.istore X dX11_set_5 rfl ?_
  refine AW.iload X dX11_set_7 rfl ?_
  refine AW.if_eqN X (tgt := 19) dX11_set_9 (by decide) (by omega) (fun h9 => ?_) (fun h9 => ?_)
  · obtain ⟨s, hs, es, hrow⟩ := rowT_0 h9
    subst es
    have hz := hR.1.2.2.2.1 s hs
    have hk9 := hR.1.2.2.1 s hs
    refine AW.iload_n X dX11_set_19 (i := 2) rfl rfl ?_
    refine AW.aload_n X dX11_set_20 (i := 0) rfl rfl ?_
    refine AW.getR X dX11_set_21 fX11_13 rfl ox0 (wx_sizes W) ?_
    refine AW.iload_n X dX11_set_24 (i := 1) rfl rfl ?_
    refine AW.iaload X dX11_set_25 ax2 (n2_in (by omega) (by decide)) (v := (nI (kk S 1 s))) (by rw [n2_clamp (by omega)]; exact rx_size hR (by omega)) ?_
    refine AW.callS X dX11_set_26 lX11_91 (c_X11_outside) rfl rfl rfl rfl ⟨rfl, rfl⟩ (pR_k ?_)
    refine AW.if_eqB X (tgt := 38) dX11_set_29 (by decide) (fun h29 => ?_) (fun h29 => ?_)
    · simp only [Bool.not_eq_true', Bool.not_eq_false'] at h29
      obtain ⟨j, hj, ej⟩ := inr_of (x := i) (m := (kk S 1 s)) (by omega) h29
      subst ej
      refine AW.aload_n X dX11_set_38 (i := 0) rfl rfl ?_
      refine AW.getR X dX11_set_39 fX11_18 rfl ox0 (wx_elements W) ?_
      refine AW.iload_n X dX11_set_42 (i := 1) rfl rfl ?_
      refine AW.aaload X (r := (4 + s)) dX11_set_43 rfl rfl ax3 (n2_in (by omega) (by decide)) (by rw [n2_clamp (by omega)]; exact wx_el W (by omega)) ?_
      refine AW.iload_n X dX11_set_44 (i := 2) rfl rfl ?_
      refine AW.aload_n X dX11_set_45 (i := 0) rfl rfl ?_
      refine AW.getR X dX11_set_46 fX11_9 rfl ox0 (wx_held W) ?_
      refine AW.iload_n X dX11_set_49 (i := 1) rfl rfl ?_
      refine AW.iaload X dX11_set_50 ax1 (n2_in (by omega) (by decide)) (v := (nI (kk S 0 s - 1))) (by rw [n2_clamp (by omega), rx_held hR hs, show kk S 0 s = (kk S 0 s - 1) + 1 by omega, dn_s]; rfl) ?_
      refine AW.bipushN X 100 dX11_set_51 rfl ?_
      refine AW.isubN X dX11_set_53 (by omega) ?_
      refine AW.lload_n X dX11_set_54 (i := 3) rfl rfl ?_
      refine AW.callS X dX11_set_55 lX11_102 (c_X11_lowestBits (v := v) (q := kk S 0 s - 1 - 100) (by omega)) rfl rfl rfl rfl ⟨rfl, rfl⟩ (pLR_k ?_)
      refine AW.lastore X dX11_set_58 (by decide) (ax_el (by omega)) (n2_in (by omega) (by decide)) ?_
      rw [n2_clamp (by omega)]
      refine AW.iconstN X 1 dX11_set_59 rfl ?_
      refine AW.iret X hQ dX11_set_60 ⟨_, rfl, ?_⟩
      refine rx_val (S' := eU S s (fun j9 => if j9 = j then lowB (kk S 0 s - 101) v else S.2.2.2 s j9)) ?_ (rx_elems hR hs rfl rfl (fun q hq => ?_) (fun i9 hi9 => ?_))
      · simp [S_set, cl_n (show s < 2147483648 by omega), cl_n (show j < 2147483648 by omega), *]
      · funext k9
        simp [wL, hq]
      · by_cases z : i9 = j
        · simp [wL, z, show kk S 0 s - 1 - 100 = kk S 0 s - 101 by omega]
        · simp [wL, z]
          exact rx_elem hR hs hi9
    · simp only [Bool.not_eq_true', Bool.not_eq_false'] at h29
      refine AW.aload_n X dX11_set_32 (i := 0) rfl rfl ?_
      refine AW.iconstN X 5 dX11_set_33 rfl ?_
      refine AW.callV X dX11_set_34 lX11_95 cfX11 (c_X11_refuse (k := 5) hR (by decide)) ox0 rfl rfl rfl rfl ⟨rfl, rfl⟩ (pI_k fun r μ1 hr => ?_)
      refine AW.iret X hQ dX11_set_37 ⟨_, rfl, ?_⟩
      refine rx_of ?_ hr
      simp [S_set, cl_n (show s < 2147483648 by omega), *]
  · refine AW.aload_n X dX11_set_12 (i := 0) rfl rfl ?_
    refine AW.iload X dX11_set_13 rfl ?_
    refine AW.callV X dX11_set_15 lX11_95 cfX11 (c_X11_refuse (k := rowT S x) hR (by omega)) ox0 rfl rfl rfl rfl ⟨rfl, rfl⟩ (pI_k fun r μ1 hr => ?_)
    refine AW.iret X hQ dX11_set_18 ⟨_, rfl, ?_⟩
    refine rx_of ?_ hr
    simp [S_set, *]
