theorem n01 : ¬ nI 0 = nI 1 ∧ ¬ nI 1 = nI 0 := ⟨by decide, by decide⟩
set_option maxRecDepth 100000 in
set_option maxHeartbeats 4000000 in
theorem c_X11_house {l : Launch} {δ : Dl} {b : Nat} {μ : Mm} {S : St} (hR : RX μ S) {x : Int32} {y : Int32} : MCX l δ b yX11_house cX11_house 3 (some .int) 3 [.ref (b + 0), .int x, .int y] μ (pI fun r μ' => r = (S_house S x y).1 ∧ RX μ' (S_house S x y).2) := by
  obtain ⟨B, Bd, tb, hnow, hdr, hT⟩ := hR.2.2.1
  have W := rx_w hR
  have ta := two_ta tb
  have hB := ta.1
  have hBd := ta.2.1
  have bn := ti_n hT.1
  refine MC.intro ([some (.ref (b + 0)), some (.int x), some (.int y)]) (by decide) rfl rfl fun κ Qc hl hQ X => ?_
  subst hl
  refine AW.iload_n X dX11_house_0 (i := 1) rfl rfl ?_
  refine AW.bipushN X 7 dX11_house_1 rfl ?_
  refine AW.callS X dX11_house_3 lX11_91 (c_X11_outside) rfl rfl rfl rfl ⟨rfl, rfl⟩ (pR_k ?_)
  refine AW.if_eqB X (tgt := 15) dX11_house_6 (by decide) (fun h6 => ?_) (fun h6 => ?_)
  · simp only [Bool.not_eq_true', Bool.not_eq_false'] at h6
    obtain ⟨k, hk, ek⟩ := inr_of (x := x) (m := 7) (by omega) h6
    subst ek
    have ck := cl_n (show k < 2147483648 by omega)
    refine AW.iload_n X dX11_house_15 (i := 2) rfl rfl ?_
    refine AW.if_lt X (tgt := 25) dX11_house_16 (by decide) (fun h16 => ?_) (fun h16 => ?_)
    · refine AW.aload_n X dX11_house_25 (i := 0) rfl rfl ?_
      refine AW.bipushN X 6 dX11_house_26 rfl ?_
      refine AW.callV X dX11_house_28 lX11_95 cfX11 (c_X11_refuse (k := 6) hR (by first | decide | omega)) ox0 rfl rfl rfl rfl ⟨rfl, rfl⟩ (pI_k fun r μ1 hr => ?_)
      refine AW.iret X hQ dX11_house_31 ⟨_, rfl, ?_⟩
      refine rx_of ?_ hr
      simp [S_house, *]
    · obtain ⟨a, ha, ea⟩ := nI_of h16
      subst ea
      have ca := cl_n (show a < 2147483648 by omega)
      refine AW.iload_n X dX11_house_19 (i := 2) rfl rfl ?_
      refine AW.bipushN X 9 dX11_house_20 rfl ?_
      refine AW.icmp_leN X (tgt := 32) dX11_house_22 (by decide) (by omega) (by omega) (fun h22 => ?_) (fun h22 => ?_)
      · have g22 : ¬ nI 9 < nI a := by rw [n2_lt (by decide) (by omega)]; omega
        have n22 := Nat.not_lt_of_le h22
        refine AW.aload_n X dX11_house_32 (i := 0) rfl rfl ?_
        refine AW.getR X dX11_house_33 fX11_81 rfl ox0 hnow ?_
        refine AW.getI X dX11_house_36 fX11_144 rfl (ta_ob hB) (tx_n hT) ?_
        refine AW.bipushN X 6 dX11_house_39 rfl ?_
        refine AW.icmp_ltN X (tgt := 51) dX11_house_41 (by decide) (by omega) (by omega) (fun h41 => ?_) (fun h41 => ?_)
        · have g41 : ¬ 6 ≤ S.1 6 0 0 := by omega
          have n41 := Nat.not_le_of_lt h41
          refine AW.aload_n X dX11_house_51 (i := 0) rfl rfl ?_
          refine AW.getR X dX11_house_52 fX11_81 rfl ox0 hnow ?_
          refine AW.iload_n X dX11_house_55 (i := 1) rfl rfl ?_
          refine AW.iload_n X dX11_house_56 (i := 2) rfl rfl ?_
          refine AW.callV X dX11_house_57 lX11_147 cfX9 (c_X9_build W hB hT (by omega) (by omega) (by omega)) (ta_ob hB) rfl rfl rfl rfl ⟨rfl, rfl⟩ (pI_k fun r2 μ2 hb => ?_)
          refine AW.iret X hQ dX11_house_60 ⟨_, rfl, ?_⟩
          obtain ⟨rfl, hT2, hs2, W2⟩ := hb
          exact rx_val (by simp [S_house, *]) (rx_town hR tb hnow hdr hs2 W2 hT2 (by simp [buildT, upV]))
        · have g41 : 6 ≤ S.1 6 0 0 := by omega
          have n41 := Nat.not_lt_of_le h41
          refine AW.aload_n X dX11_house_44 (i := 0) rfl rfl ?_
          refine AW.bipushN X 7 dX11_house_45 rfl ?_
          refine AW.callV X dX11_house_47 lX11_95 cfX11 (c_X11_refuse (k := 7) hR (by first | decide | omega)) ox0 rfl rfl rfl rfl ⟨rfl, rfl⟩ (pI_k fun r μ1 hr => ?_)
          refine AW.iret X hQ dX11_house_50 ⟨_, rfl, ?_⟩
          refine rx_of ?_ hr
          simp [S_house, *]
      · have g22 : nI 9 < nI a := (n2_lt (by decide) (by omega)).mpr (by omega)
        have n22 := Nat.not_le_of_lt h22
        refine AW.aload_n X dX11_house_25 (i := 0) rfl rfl ?_
        refine AW.bipushN X 6 dX11_house_26 rfl ?_
        refine AW.callV X dX11_house_28 lX11_95 cfX11 (c_X11_refuse (k := 6) hR (by first | decide | omega)) ox0 rfl rfl rfl rfl ⟨rfl, rfl⟩ (pI_k fun r μ1 hr => ?_)
        refine AW.iret X hQ dX11_house_31 ⟨_, rfl, ?_⟩
        refine rx_of ?_ hr
        simp [S_house, *]
  · simp only [Bool.not_eq_true', Bool.not_eq_false'] at h6
    refine AW.aload_n X dX11_house_9 (i := 0) rfl rfl ?_
    refine AW.iconstN X 1 dX11_house_10 rfl ?_
    refine AW.callV X dX11_house_11 lX11_95 cfX11 (c_X11_refuse (k := 1) hR (by first | decide | omega)) ox0 rfl rfl rfl rfl ⟨rfl, rfl⟩ (pI_k fun r μ1 hr => ?_)
    refine AW.iret X hQ dX11_house_14 ⟨_, rfl, ?_⟩
    refine rx_of ?_ hr
    simp [S_house, *]
set_option maxRecDepth 100000 in
set_option maxHeartbeats 4000000 in
theorem c_X11_houseOf {l : Launch} {δ : Dl} {b : Nat} {μ : Mm} {S : St} (hR : RX μ S) {x : Int32} {y : Int32} : MCX l δ b yX11_houseOf cX11_houseOf 4 (some .int) 5 [.ref (b + 0), .int x, .int y] μ (pI fun r μ' => r = (S_houseOf S x y).1 ∧ RX μ' (S_houseOf S x y).2) := by
  obtain ⟨B, Bd, tb, hnow, hdr, hT⟩ := hR.2.2.1
  have W := rx_w hR
  have ta := two_ta tb
  have hB := ta.1
  have hBd := ta.2.1
  have bn := ti_n hT.1
  refine MC.intro ([some (.ref (b + 0)), some (.int x), some (.int y), none]) (by decide) rfl rfl fun κ Qc hl hQ X => ?_
  subst hl
  refine AW.aload_n X dX11_houseOf_0 (i := 0) rfl rfl ?_
  refine AW.iload_n X dX11_houseOf_1 (i := 1) rfl rfl ?_
  refine AW.callV X dX11_houseOf_2 lX11_123 cfX11 (c_X11_noHouse hR) ox0 rfl rfl rfl rfl ⟨rfl, rfl⟩ (pR_k ?_)
  refine AW.if_eqB X (tgt := 14) dX11_houseOf_5 (by decide) (fun h5 => ?_) (fun h5 => ?_)
  · simp only [Bool.not_eq_true', Bool.not_eq_false'] at h5
    obtain ⟨h, hh, eh⟩ := inr_of (x := x) (m := (S.1 6 0 0)) (by omega) h5
    subst eh
    have ch := cl_n (show h < 2147483648 by omega)
    have hVh := tx_h hT hh
    have bnh := hi_n hVh.1
    refine AW.aload_n X dX11_houseOf_14 (i := 0) rfl rfl ?_
    refine AW.getR X dX11_houseOf_15 fX11_81 rfl ox0 hnow ?_
    refine AW.getR X dX11_houseOf_18 fX11_126 rfl (ta_ob hB) (wx_fronts W hB) ?_
    refine AW.iload_n X dX11_houseOf_21 (i := 1) rfl rfl ?_
    refine AW.aaload X (r := (B + 4 + 7 * h)) dX11_houseOf_22 rfl rfl (ta_f hB) (n2_in (by omega) (by decide)) (by rw [n2_clamp (by omega)]; exact wx_front W hB (by omega)) ?_
    refine AW.astore_n X dX11_houseOf_23 (i := 3) rfl rfl ?_
    refine AW.iload_n X dX11_houseOf_24 (i := 2) rfl rfl ?_
    rcases Bool.eq_false_or_eq_true (inr y 5) with hin | hin
    · obtain ⟨jsw, hjsw, ejsw⟩ := inr_of (x := y) (m := 5) (by decide) hin
      subst ejsw
      have hsw : jsw = 0 ∨ jsw = 1 ∨ jsw = 2 ∨ jsw = 3 ∨ jsw = 4 := by omega
      rcases hsw with rfl | rfl | rfl | rfl | rfl
      · refine AW.tableIn X (tgt := 60) dX11_houseOf_25 (by decide) (by decide) rfl (by decide) ?_
        refine AW.aload_n X dX11_houseOf_60 (i := 3) rfl rfl ?_
        refine AW.getI X dX11_houseOf_61 fX11_151 rfl (fa_ob (fa_of hB (by omega))) (hv_k (tx_h hT (by omega))) ?_
        refine AW.iret X hQ dX11_houseOf_64 ⟨_, rfl, ?_⟩
        refine rx_val ?_ hR
        simp [S_houseOf, hOf, cls, *]
      · refine AW.tableIn X (tgt := 65) dX11_houseOf_25 (by decide) (by decide) rfl (by decide) ?_
        refine AW.aload_n X dX11_houseOf_65 (i := 3) rfl rfl ?_
        refine AW.getI X dX11_houseOf_66 fX11_154 rfl (fa_ob (fa_of hB (by omega))) (hv_a (tx_h hT (by omega))) ?_
        refine AW.iret X hQ dX11_houseOf_69 ⟨_, rfl, ?_⟩
        refine rx_val ?_ hR
        simp [S_houseOf, hOf, cls, *]
      · refine AW.tableIn X (tgt := 70) dX11_houseOf_25 (by decide) (by decide) rfl (by decide) ?_
        refine AW.aload_n X dX11_houseOf_70 (i := 3) rfl rfl ?_
        refine AW.getI X dX11_houseOf_71 fX11_157 rfl (fa_ob (fa_of hB (by omega))) (hv_n (tx_h hT (by omega))) ?_
        refine AW.iret X hQ dX11_houseOf_74 ⟨_, rfl, ?_⟩
        refine rx_val ?_ hR
        simp [S_houseOf, hOf, cls, *]
      · refine AW.tableIn X (tgt := 75) dX11_houseOf_25 (by decide) (by decide) rfl (by decide) ?_
        refine AW.aload_n X dX11_houseOf_75 (i := 3) rfl rfl ?_
        refine AW.callV X dX11_houseOf_76 lX11_160 cfX3 (c_X3_wholeSkin W (fa_of hB (by omega)) (tx_h hT (by omega))) (fa_ob (fa_of hB (by omega))) rfl rfl rfl rfl ⟨rfl, rfl⟩ (pR_k ?_)
        refine AW.iret X hQ dX11_houseOf_79 ⟨_, rfl, ?_⟩
        refine rx_val ?_ hR
        simp [S_houseOf, hOf, cls, *]
      · refine AW.tableIn X (tgt := 80) dX11_houseOf_25 (by decide) (by decide) rfl (by decide) ?_
        refine AW.aload_n X dX11_houseOf_80 (i := 3) rfl rfl ?_
        refine AW.callV X dX11_houseOf_81 lX11_164 cfX3 (c_X3_lived W (fa_of hB (by omega)) (tx_h hT (by omega))) (fa_ob (fa_of hB (by omega))) rfl rfl rfl rfl ⟨rfl, rfl⟩ (pR_k ?_)
        refine AW.iret X hQ dX11_houseOf_84 ⟨_, rfl, ?_⟩
        refine rx_val ?_ hR
        simp [S_houseOf, hOf, cls, *]
    · refine AW.tableOut X (tgt := 85) dX11_houseOf_25 (inr_out (m := 5) (by decide) hin) (by decide) ?_
      refine AW.aload_n X dX11_houseOf_85 (i := 0) rfl rfl ?_
      refine AW.iconstN X 5 dX11_houseOf_86 rfl ?_
      refine AW.callV X dX11_houseOf_87 lX11_95 cfX11 (c_X11_refuse (k := 5) hR (by first | decide | omega)) ox0 rfl rfl rfl rfl ⟨rfl, rfl⟩ (pI_k fun r μ1 hr => ?_)
      refine AW.iret X hQ dX11_houseOf_90 ⟨_, rfl, ?_⟩
      refine rx_of ?_ hr
      simp [S_houseOf, hOf, cls, *]
  · simp only [Bool.not_eq_true', Bool.not_eq_false'] at h5
    refine AW.aload_n X dX11_houseOf_8 (i := 0) rfl rfl ?_
    refine AW.iconstN X 5 dX11_houseOf_9 rfl ?_
    refine AW.callV X dX11_houseOf_10 lX11_95 cfX11 (c_X11_refuse (k := 5) hR (by first | decide | omega)) ox0 rfl rfl rfl rfl ⟨rfl, rfl⟩ (pI_k fun r μ1 hr => ?_)
    refine AW.iret X hQ dX11_houseOf_13 ⟨_, rfl, ?_⟩
    refine rx_of ?_ hr
    simp [S_houseOf, hOf, cls, *]
set_option maxRecDepth 100000 in
set_option maxHeartbeats 4000000 in
theorem c_X11_colour {l : Launch} {δ : Dl} {b : Nat} {μ : Mm} {S : St} (hR : RX μ S) {x : Int32} {y : Int32} {z : Int32} : MCX l δ b yX11_colour cX11_colour 6 (some .int) 3 [.ref (b + 0), .int x, .int y, .int z] μ (pI fun r μ' => r = (S_colour S x y z).1 ∧ RX μ' (S_colour S x y z).2) := by
  obtain ⟨B, Bd, tb, hnow, hdr, hT⟩ := hR.2.2.1
  have W := rx_w hR
  have ta := two_ta tb
  have hB := ta.1
  have hBd := ta.2.1
  have bn := ti_n hT.1
  refine MC.intro ([some (.ref (b + 0)), some (.int x), some (.int y), some (.int z), none, none]) (by decide) rfl rfl fun κ Qc hl hQ X => ?_
  subst hl
  refine AW.iload_n X dX11_colour_0 (i := 1) rfl rfl ?_
  refine AW.bipushN X 6 dX11_colour_1 rfl ?_
  refine AW.callS X dX11_colour_3 lX11_91 (c_X11_outside) rfl rfl rfl rfl ⟨rfl, rfl⟩ (pR_k ?_)
  refine AW.if_eqB X (tgt := 15) dX11_colour_6 (by decide) (fun h6 => ?_) (fun h6 => ?_)
  · simp only [Bool.not_eq_true', Bool.not_eq_false'] at h6
    obtain ⟨c, hc, ec⟩ := inr_of (x := x) (m := 6) (by omega) h6
    subst ec
    have cc := cl_n (show c < 2147483648 by omega)
    refine AW.iload_n X dX11_colour_15 (i := 2) rfl rfl ?_
    refine AW.if_eq X (tgt := 30) dX11_colour_16 (by decide) (fun h16 => ?_) (fun h16 => ?_)
    · obtain rfl : y = nI 0 := h16
      refine AW.iload_n X dX11_colour_30 (i := 3) rfl rfl ?_
      refine AW.if_lt X (tgt := 49) dX11_colour_31 (by decide) (fun h31 => ?_) (fun h31 => ?_)
      · refine AW.aload_n X dX11_colour_49 (i := 0) rfl rfl ?_
        refine AW.bipushN X 6 dX11_colour_50 rfl ?_
        refine AW.callV X dX11_colour_52 lX11_95 cfX11 (c_X11_refuse (k := 6) hR (by first | decide | omega)) ox0 rfl rfl rfl rfl ⟨rfl, rfl⟩ (pI_k fun r μ1 hr => ?_)
        refine AW.iret X hQ dX11_colour_55 ⟨_, rfl, ?_⟩
        refine rx_of ?_ hr
        simp [S_colour, n01, *]
      · obtain ⟨v, hv, ev⟩ := nI_of h31
        subst ev
        have cv := cl_n (show v < 2147483648 by omega)
        refine AW.iload_n X dX11_colour_34 (i := 3) rfl rfl ?_
        refine AW.iload_n X dX11_colour_35 (i := 2) rfl rfl ?_
        refine AW.if_neN X (tgt := 44) dX11_colour_36 (by decide) (by omega) (fun h36 => ?_) (fun h36 => ?_)
        · exact absurd h36 (by decide)
        · refine AW.bipushN X 9 dX11_colour_39 rfl ?_
          refine AW.goto X (tgt := 46) dX11_colour_41 (by decide) ?_
          refine AW.icmp_leN X (tgt := 56) dX11_colour_46 (by decide) (by omega) (by omega) (fun h46 => ?_) (fun h46 => ?_)
          · have g46 : ¬ nI 9 < nI v := by rw [n2_lt (by decide) (by omega)]; omega
            have n46 := Nat.not_lt_of_le h46
            refine AW.iload_n X dX11_colour_56 (i := 2) rfl rfl ?_
            refine AW.if_neN X (tgt := 70) dX11_colour_57 (by decide) (by omega) (fun h57 => ?_) (fun h57 => ?_)
            · exact absurd h57 (by decide)
            · refine AW.aload_n X dX11_colour_60 (i := 0) rfl rfl ?_
              refine AW.getR X dX11_colour_61 fX11_81 rfl ox0 hnow ?_
              refine AW.getR X dX11_colour_64 fX11_167 rfl (ta_ob hB) (wx_hides W hB) ?_
              refine AW.goto X (tgt := 77) dX11_colour_67 (by decide) ?_
              refine AW.astore X dX11_colour_77 rfl ?_
              refine AW.aload X dX11_colour_79 rfl ?_
              refine AW.iload_n X dX11_colour_81 (i := 1) rfl rfl ?_
              refine AW.iaload X dX11_colour_82 (ta_h hB) (n2_in (by omega) (by decide)) (v := (nI (S.1 6 1 c))) (by rw [n2_clamp (by omega)]; exact tx_hid hT (by omega)) ?_
              refine AW.istore X dX11_colour_83 rfl ?_
              refine AW.aload X dX11_colour_85 rfl ?_
              refine AW.iload_n X dX11_colour_87 (i := 1) rfl rfl ?_
              refine AW.iload_n X dX11_colour_88 (i := 3) rfl rfl ?_
              refine AW.iastore X dX11_colour_89 (by decide) (ta_h hB) (n2_in (by omega) (by decide)) ?_
              rw [n2_clamp (by omega)]
              refine AW.iload X dX11_colour_90 rfl ?_
              refine AW.iret X hQ dX11_colour_92 ⟨_, rfl, ?_⟩
              have f := tx_pal hT 1 c v (by decide) hc ⟨by intro _; omega, by intro z; exact absurd z (by decide)⟩
              exact rx_val (by simp [S_colour, n01, *]) (rx_town hR tb hnow hdr (SameI.wI (show TR B (B + 2) from ⟨by omega, by omega⟩)).same W f (by rw [upS_6]; simp))
          · have g46 : nI 9 < nI v := (n2_lt (by decide) (by omega)).mpr (by omega)
            have n46 := Nat.not_le_of_lt h46
            refine AW.aload_n X dX11_colour_49 (i := 0) rfl rfl ?_
            refine AW.bipushN X 6 dX11_colour_50 rfl ?_
            refine AW.callV X dX11_colour_52 lX11_95 cfX11 (c_X11_refuse (k := 6) hR (by first | decide | omega)) ox0 rfl rfl rfl rfl ⟨rfl, rfl⟩ (pI_k fun r μ1 hr => ?_)
            refine AW.iret X hQ dX11_colour_55 ⟨_, rfl, ?_⟩
            refine rx_of ?_ hr
            simp [S_colour, n01, *]
    · have g16 : ¬ y = nI 0 := h16
      refine AW.iload_n X dX11_colour_19 (i := 2) rfl rfl ?_
      refine AW.iconstN X 1 dX11_colour_20 rfl ?_
      refine AW.icmp_eq X (tgt := 30) dX11_colour_21 (by decide) (fun h21 => ?_) (fun h21 => ?_)
      · obtain rfl : y = nI 1 := h21
        refine AW.iload_n X dX11_colour_30 (i := 3) rfl rfl ?_
        refine AW.if_lt X (tgt := 49) dX11_colour_31 (by decide) (fun h31 => ?_) (fun h31 => ?_)
        · refine AW.aload_n X dX11_colour_49 (i := 0) rfl rfl ?_
          refine AW.bipushN X 6 dX11_colour_50 rfl ?_
          refine AW.callV X dX11_colour_52 lX11_95 cfX11 (c_X11_refuse (k := 6) hR (by first | decide | omega)) ox0 rfl rfl rfl rfl ⟨rfl, rfl⟩ (pI_k fun r μ1 hr => ?_)
          refine AW.iret X hQ dX11_colour_55 ⟨_, rfl, ?_⟩
          refine rx_of ?_ hr
          simp [S_colour, n01, *]
        · obtain ⟨v, hv, ev⟩ := nI_of h31
          subst ev
          have cv := cl_n (show v < 2147483648 by omega)
          refine AW.iload_n X dX11_colour_34 (i := 3) rfl rfl ?_
          refine AW.iload_n X dX11_colour_35 (i := 2) rfl rfl ?_
          refine AW.if_neN X (tgt := 44) dX11_colour_36 (by decide) (by omega) (fun h36 => ?_) (fun h36 => ?_)
          · refine AW.bipushN X 99 dX11_colour_44 rfl ?_
            refine AW.icmp_leN X (tgt := 56) dX11_colour_46 (by decide) (by omega) (by omega) (fun h46 => ?_) (fun h46 => ?_)
            · have g46 : ¬ nI 99 < nI v := by rw [n2_lt (by decide) (by omega)]; omega
              have n46 := Nat.not_lt_of_le h46
              refine AW.iload_n X dX11_colour_56 (i := 2) rfl rfl ?_
              refine AW.if_neN X (tgt := 70) dX11_colour_57 (by decide) (by omega) (fun h57 => ?_) (fun h57 => ?_)
              · refine AW.aload_n X dX11_colour_70 (i := 0) rfl rfl ?_
                refine AW.getR X dX11_colour_71 fX11_81 rfl ox0 hnow ?_
                refine AW.getR X dX11_colour_74 fX11_170 rfl (ta_ob hB) (wx_costs W hB) ?_
                refine AW.astore X dX11_colour_77 rfl ?_
                refine AW.aload X dX11_colour_79 rfl ?_
                refine AW.iload_n X dX11_colour_81 (i := 1) rfl rfl ?_
                refine AW.iaload X dX11_colour_82 (ta_c hB) (n2_in (by omega) (by decide)) (v := (nI (S.1 6 2 c))) (by rw [n2_clamp (by omega)]; exact tx_cos hT (by omega)) ?_
                refine AW.istore X dX11_colour_83 rfl ?_
                refine AW.aload X dX11_colour_85 rfl ?_
                refine AW.iload_n X dX11_colour_87 (i := 1) rfl rfl ?_
                refine AW.iload_n X dX11_colour_88 (i := 3) rfl rfl ?_
                refine AW.iastore X dX11_colour_89 (by decide) (ta_c hB) (n2_in (by omega) (by decide)) ?_
                rw [n2_clamp (by omega)]
                refine AW.iload X dX11_colour_90 rfl ?_
                refine AW.iret X hQ dX11_colour_92 ⟨_, rfl, ?_⟩
                have f := tx_pal hT 2 c v (by decide) hc ⟨by intro z; exact absurd z (by decide), by intro _; omega⟩
                exact rx_val (by simp [S_colour, n01, *]) (rx_town hR tb hnow hdr (SameI.wI (show TR B (B + 3) from ⟨by omega, by omega⟩)).same W f (by rw [upS_6]; simp))
              · exact absurd h57 (by decide)
            · have g46 : nI 99 < nI v := (n2_lt (by decide) (by omega)).mpr (by omega)
              have n46 := Nat.not_le_of_lt h46
              refine AW.aload_n X dX11_colour_49 (i := 0) rfl rfl ?_
              refine AW.bipushN X 6 dX11_colour_50 rfl ?_
              refine AW.callV X dX11_colour_52 lX11_95 cfX11 (c_X11_refuse (k := 6) hR (by first | decide | omega)) ox0 rfl rfl rfl rfl ⟨rfl, rfl⟩ (pI_k fun r μ1 hr => ?_)
              refine AW.iret X hQ dX11_colour_55 ⟨_, rfl, ?_⟩
              refine rx_of ?_ hr
              simp [S_colour, n01, *]
          · exact absurd h36 (by decide)
      · refine AW.aload_n X dX11_colour_24 (i := 0) rfl rfl ?_
        refine AW.iconstN X 5 dX11_colour_25 rfl ?_
        refine AW.callV X dX11_colour_26 lX11_95 cfX11 (c_X11_refuse (k := 5) hR (by first | decide | omega)) ox0 rfl rfl rfl rfl ⟨rfl, rfl⟩ (pI_k fun r μ1 hr => ?_)
        refine AW.iret X hQ dX11_colour_29 ⟨_, rfl, ?_⟩
        refine rx_of ?_ hr
        simp [S_colour, n01, *]
  · simp only [Bool.not_eq_true', Bool.not_eq_false'] at h6
    refine AW.aload_n X dX11_colour_9 (i := 0) rfl rfl ?_
    refine AW.iconstN X 1 dX11_colour_10 rfl ?_
    refine AW.callV X dX11_colour_11 lX11_95 cfX11 (c_X11_refuse (k := 1) hR (by first | decide | omega)) ox0 rfl rfl rfl rfl ⟨rfl, rfl⟩ (pI_k fun r μ1 hr => ?_)
    refine AW.iret X hQ dX11_colour_14 ⟨_, rfl, ?_⟩
    refine rx_of ?_ hr
    simp [S_colour, n01, *]
set_option maxRecDepth 100000 in
set_option maxHeartbeats 4000000 in
theorem c_X11_ask {l : Launch} {δ : Dl} {b : Nat} {μ : Mm} {S : St} (hR : RX μ S) {y : Int32} {z : Int32} : MCX l δ b yX11_ask cX11_ask 4 (some .int) 3 [.ref (b + 0), .int y, .int z] μ (pI fun r μ' => r = (S_ask S y z).1 ∧ RX μ' (S_ask S y z).2) := by
  obtain ⟨B, Bd, tb, hnow, hdr, hT⟩ := hR.2.2.1
  have W := rx_w hR
  have ta := two_ta tb
  have hB := ta.1
  have hBd := ta.2.1
  have bn := ti_n hT.1
  refine MC.intro ([some (.ref (b + 0)), some (.int y), some (.int z), none]) (by decide) rfl rfl fun κ Qc hl hQ X => ?_
  subst hl
  refine AW.iload_n X dX11_ask_0 (i := 1) rfl rfl ?_
  refine AW.if_ne X (tgt := 34) dX11_ask_1 (by decide) (fun h1 => ?_) (fun h1 => ?_)
  · have g1 : ¬ y = nI 0 := h1
    refine AW.iload_n X dX11_ask_34 (i := 1) rfl rfl ?_
    refine AW.iconstN X 1 dX11_ask_35 rfl ?_
    refine AW.icmp_ne X (tgt := 69) dX11_ask_36 (by decide) (fun h36 => ?_) (fun h36 => ?_)
    · refine AW.aload_n X dX11_ask_69 (i := 0) rfl rfl ?_
      refine AW.bipushN X 6 dX11_ask_70 rfl ?_
      refine AW.callV X dX11_ask_72 lX11_95 cfX11 (c_X11_refuse (k := 6) hR (by first | decide | omega)) ox0 rfl rfl rfl rfl ⟨rfl, rfl⟩ (pI_k fun r μ1 hr => ?_)
      refine AW.iret X hQ dX11_ask_75 ⟨_, rfl, ?_⟩
      refine rx_of ?_ hr
      simp [S_ask, n01, *]
    · obtain rfl : y = nI 1 := h36
      refine AW.iload_n X dX11_ask_39 (i := 2) rfl rfl ?_
      refine AW.bipushN X 10 dX11_ask_40 rfl ?_
      refine AW.icmp_lt X (tgt := 69) dX11_ask_42 (by decide) (fun h42 => ?_) (fun h42 => ?_)
      · refine AW.aload_n X dX11_ask_69 (i := 0) rfl rfl ?_
        refine AW.bipushN X 6 dX11_ask_70 rfl ?_
        refine AW.callV X dX11_ask_72 lX11_95 cfX11 (c_X11_refuse (k := 6) hR (by first | decide | omega)) ox0 rfl rfl rfl rfl ⟨rfl, rfl⟩ (pI_k fun r μ1 hr => ?_)
        refine AW.iret X hQ dX11_ask_75 ⟨_, rfl, ?_⟩
        refine rx_of ?_ hr
        simp [S_ask, n01, *]
      · obtain ⟨v, hv, ev, lv⟩ := ge_of (by decide) h42
        subst ev
        have cv := cl_n (show v < 2147483648 by omega)
        refine AW.iload_n X dX11_ask_45 (i := 2) rfl rfl ?_
        refine AW.bipushN X 99 dX11_ask_46 rfl ?_
        refine AW.icmp_gtN X (tgt := 69) dX11_ask_48 (by decide) (by omega) (by omega) (fun h48 => ?_) (fun h48 => ?_)
        · have g48 : nI 99 < nI v := (n2_lt (by decide) (by omega)).mpr (by omega)
          have n48 := Nat.not_le_of_lt h48
          refine AW.aload_n X dX11_ask_69 (i := 0) rfl rfl ?_
          refine AW.bipushN X 6 dX11_ask_70 rfl ?_
          refine AW.callV X dX11_ask_72 lX11_95 cfX11 (c_X11_refuse (k := 6) hR (by first | decide | omega)) ox0 rfl rfl rfl rfl ⟨rfl, rfl⟩ (pI_k fun r μ1 hr => ?_)
          refine AW.iret X hQ dX11_ask_75 ⟨_, rfl, ?_⟩
          refine rx_of ?_ hr
          simp [S_ask, n01, *]
        · have g48 : ¬ nI 99 < nI v := by rw [n2_lt (by decide) (by omega)]; omega
          have n48 := Nat.not_lt_of_le h48
          refine AW.aload_n X dX11_ask_51 (i := 0) rfl rfl ?_
          refine AW.getR X dX11_ask_52 fX11_81 rfl ox0 hnow ?_
          refine AW.getI X dX11_ask_55 fX11_176 rfl (ta_ob hB) (tx_wid hT) ?_
          refine AW.istore_n X dX11_ask_58 (i := 3) rfl rfl ?_
          refine AW.aload_n X dX11_ask_59 (i := 0) rfl rfl ?_
          refine AW.getR X dX11_ask_60 fX11_81 rfl ox0 hnow ?_
          refine AW.iload_n X dX11_ask_63 (i := 2) rfl rfl ?_
          refine AW.putI X dX11_ask_64 fX11_176 rfl rfl ⟨rfl, rfl⟩ (by decide) (ta_ob hB) ?_
          refine AW.iload_n X dX11_ask_67 (i := 3) rfl rfl ?_
          refine AW.iret X hQ dX11_ask_68 ⟨_, rfl, ?_⟩
          have f := tx_ask hT 2 v (by decide) ⟨by intro z; exact absurd z (by decide), by intro _; exact ⟨by omega, by omega⟩⟩
          exact rx_val (by simp [S_ask, n01, *]) (rx_town hR tb hnow hdr (SameI.wI (show TR B B from ⟨by omega, by omega⟩)).same W f (by rw [upS_6]; simp))
  · obtain rfl : y = nI 0 := h1
    refine AW.iload_n X dX11_ask_4 (i := 2) rfl rfl ?_
    refine AW.iconstN X 1 dX11_ask_5 rfl ?_
    refine AW.icmp_lt X (tgt := 34) dX11_ask_6 (by decide) (fun h6 => ?_) (fun h6 => ?_)
    · refine AW.iload_n X dX11_ask_34 (i := 1) rfl rfl ?_
      refine AW.iconstN X 1 dX11_ask_35 rfl ?_
      refine AW.icmp_neN X (tgt := 69) dX11_ask_36 (by decide) (by omega) (by omega) (fun h36 => ?_) (fun h36 => ?_)
      · refine AW.aload_n X dX11_ask_69 (i := 0) rfl rfl ?_
        refine AW.bipushN X 6 dX11_ask_70 rfl ?_
        refine AW.callV X dX11_ask_72 lX11_95 cfX11 (c_X11_refuse (k := 6) hR (by first | decide | omega)) ox0 rfl rfl rfl rfl ⟨rfl, rfl⟩ (pI_k fun r μ1 hr => ?_)
        refine AW.iret X hQ dX11_ask_75 ⟨_, rfl, ?_⟩
        refine rx_of ?_ hr
        simp [S_ask, n01, *]
      · exact absurd h36 (by decide)
    · obtain ⟨v, hv, ev, lv⟩ := ge_of (by decide) h6
      subst ev
      have cv := cl_n (show v < 2147483648 by omega)
      refine AW.iload_n X dX11_ask_9 (i := 2) rfl rfl ?_
      refine AW.sipushN X 999 dX11_ask_10 rfl ?_
      refine AW.icmp_gtN X (tgt := 34) dX11_ask_13 (by decide) (by omega) (by omega) (fun h13 => ?_) (fun h13 => ?_)
      · have g13 : nI 999 < nI v := (n2_lt (by decide) (by omega)).mpr (by omega)
        have n13 := Nat.not_le_of_lt h13
        refine AW.iload_n X dX11_ask_34 (i := 1) rfl rfl ?_
        refine AW.iconstN X 1 dX11_ask_35 rfl ?_
        refine AW.icmp_neN X (tgt := 69) dX11_ask_36 (by decide) (by omega) (by omega) (fun h36 => ?_) (fun h36 => ?_)
        · refine AW.aload_n X dX11_ask_69 (i := 0) rfl rfl ?_
          refine AW.bipushN X 6 dX11_ask_70 rfl ?_
          refine AW.callV X dX11_ask_72 lX11_95 cfX11 (c_X11_refuse (k := 6) hR (by first | decide | omega)) ox0 rfl rfl rfl rfl ⟨rfl, rfl⟩ (pI_k fun r μ1 hr => ?_)
          refine AW.iret X hQ dX11_ask_75 ⟨_, rfl, ?_⟩
          refine rx_of ?_ hr
          simp [S_ask, n01, *]
        · exact absurd h36 (by decide)
      · have g13 : ¬ nI 999 < nI v := by rw [n2_lt (by decide) (by omega)]; omega
        have n13 := Nat.not_lt_of_le h13
        refine AW.aload_n X dX11_ask_16 (i := 0) rfl rfl ?_
        refine AW.getR X dX11_ask_17 fX11_81 rfl ox0 hnow ?_
        refine AW.getI X dX11_ask_20 fX11_173 rfl (ta_ob hB) (tx_lim hT) ?_
        refine AW.istore_n X dX11_ask_23 (i := 3) rfl rfl ?_
        refine AW.aload_n X dX11_ask_24 (i := 0) rfl rfl ?_
        refine AW.getR X dX11_ask_25 fX11_81 rfl ox0 hnow ?_
        refine AW.iload_n X dX11_ask_28 (i := 2) rfl rfl ?_
        refine AW.putI X dX11_ask_29 fX11_173 rfl rfl ⟨rfl, rfl⟩ (by decide) (ta_ob hB) ?_
        refine AW.iload_n X dX11_ask_32 (i := 3) rfl rfl ?_
        refine AW.iret X hQ dX11_ask_33 ⟨_, rfl, ?_⟩
        have f := tx_ask hT 1 v (by decide) ⟨by intro _; exact ⟨by omega, by omega⟩, by intro z; exact absurd z (by decide)⟩
        exact rx_val (by simp [S_ask, n01, *]) (rx_town hR tb hnow hdr (SameI.wI (show TR B B from ⟨by omega, by omega⟩)).same W f (by rw [upS_6]; simp))
set_option maxRecDepth 100000 in
set_option maxHeartbeats 4000000 in
theorem c_X11_coat {l : Launch} {δ : Dl} {b : Nat} {μ : Mm} {S : St} (hR : RX μ S) {x : Int32} {y : Int32} {z : Int32} {u : Int32} {w : Int32} : MCX l δ b yX11_coat cX11_coat 7 (some .int) 3 [.ref (b + 0), .int x, .int y, .int z, .int u, .int w] μ (pI fun r μ' => r = (S_coat S x y z u w).1 ∧ RX μ' (S_coat S x y z u w).2) := by
  obtain ⟨B, Bd, tb, hnow, hdr, hT⟩ := hR.2.2.1
  have W := rx_w hR
  have ta := two_ta tb
  have hB := ta.1
  have hBd := ta.2.1
  have bn := ti_n hT.1
  refine MC.intro ([some (.ref (b + 0)), some (.int x), some (.int y), some (.int z), some (.int u), some (.int w), none]) (by decide) rfl rfl fun κ Qc hl hQ X => ?_
  subst hl
  refine AW.aload_n X dX11_coat_0 (i := 0) rfl rfl ?_
  refine AW.iload_n X dX11_coat_1 (i := 1) rfl rfl ?_
  refine AW.callV X dX11_coat_2 lX11_123 cfX11 (c_X11_noHouse hR) ox0 rfl rfl rfl rfl ⟨rfl, rfl⟩ (pR_k ?_)
  refine AW.if_neB X (tgt := 26) dX11_coat_5 (by decide) (fun h5 => ?_) (fun h5 => ?_)
  · simp only [Bool.not_eq_true', Bool.not_eq_false'] at h5
    refine AW.aload_n X dX11_coat_26 (i := 0) rfl rfl ?_
    refine AW.iconstN X 1 dX11_coat_27 rfl ?_
    refine AW.callV X dX11_coat_28 lX11_95 cfX11 (c_X11_refuse (k := 1) hR (by first | decide | omega)) ox0 rfl rfl rfl rfl ⟨rfl, rfl⟩ (pI_k fun r μ1 hr => ?_)
    refine AW.iret X hQ dX11_coat_31 ⟨_, rfl, ?_⟩
    refine rx_of ?_ hr
    simp [S_coat, *]
  · simp only [Bool.not_eq_true', Bool.not_eq_false'] at h5
    obtain ⟨h, hh, eh⟩ := inr_of (x := x) (m := (S.1 6 0 0)) (by omega) h5
    subst eh
    have ch := cl_n (show h < 2147483648 by omega)
    have hVh := tx_h hT hh
    have bnh := hi_n hVh.1
    refine AW.iload_n X dX11_coat_8 (i := 2) rfl rfl ?_
    refine AW.bipushN X 8 dX11_coat_9 rfl ?_
    refine AW.callS X dX11_coat_11 lX11_91 (c_X11_outside) rfl rfl rfl rfl ⟨rfl, rfl⟩ (pR_k ?_)
    refine AW.if_neB X (tgt := 26) dX11_coat_14 (by decide) (fun h14 => ?_) (fun h14 => ?_)
    · simp only [Bool.not_eq_true', Bool.not_eq_false'] at h14
      refine AW.aload_n X dX11_coat_26 (i := 0) rfl rfl ?_
      refine AW.iconstN X 1 dX11_coat_27 rfl ?_
      refine AW.callV X dX11_coat_28 lX11_95 cfX11 (c_X11_refuse (k := 1) hR (by first | decide | omega)) ox0 rfl rfl rfl rfl ⟨rfl, rfl⟩ (pI_k fun r μ1 hr => ?_)
      refine AW.iret X hQ dX11_coat_31 ⟨_, rfl, ?_⟩
      refine rx_of ?_ hr
      simp [S_coat, *]
    · simp only [Bool.not_eq_true', Bool.not_eq_false'] at h14
      obtain ⟨t, ht, et⟩ := inr_of (x := y) (m := 8) (by omega) h14
      subst et
      have ct := cl_n (show t < 2147483648 by omega)
      refine AW.iload_n X dX11_coat_17 (i := 3) rfl rfl ?_
      refine AW.bipushN X 6 dX11_coat_18 rfl ?_
      refine AW.callS X dX11_coat_20 lX11_91 (c_X11_outside) rfl rfl rfl rfl ⟨rfl, rfl⟩ (pR_k ?_)
      refine AW.if_eqB X (tgt := 32) dX11_coat_23 (by decide) (fun h23 => ?_) (fun h23 => ?_)
      · simp only [Bool.not_eq_true', Bool.not_eq_false'] at h23
        obtain ⟨c, hc, ec⟩ := inr_of (x := z) (m := 6) (by omega) h23
        subst ec
        have cc := cl_n (show c < 2147483648 by omega)
        refine AW.iload X dX11_coat_32 rfl ?_
        refine AW.iconstN X 1 dX11_coat_34 rfl ?_
        refine AW.icmp_lt X (tgt := 55) dX11_coat_35 (by decide) (fun h35 => ?_) (fun h35 => ?_)
        · refine AW.aload_n X dX11_coat_55 (i := 0) rfl rfl ?_
          refine AW.bipushN X 6 dX11_coat_56 rfl ?_
          refine AW.callV X dX11_coat_58 lX11_95 cfX11 (c_X11_refuse (k := 6) hR (by first | decide | omega)) ox0 rfl rfl rfl rfl ⟨rfl, rfl⟩ (pI_k fun r μ1 hr => ?_)
          refine AW.iret X hQ dX11_coat_61 ⟨_, rfl, ?_⟩
          refine rx_of ?_ hr
          simp [S_coat, *]
        · obtain ⟨v, hv, ev, lv⟩ := ge_of (by decide) h35
          subst ev
          have cv := cl_n (show v < 2147483648 by omega)
          refine AW.iload X dX11_coat_38 rfl ?_
          refine AW.bipushN X 9 dX11_coat_40 rfl ?_
          refine AW.icmp_gtN X (tgt := 55) dX11_coat_42 (by decide) (by omega) (by omega) (fun h42 => ?_) (fun h42 => ?_)
          · have g42 : nI 9 < nI v := (n2_lt (by decide) (by omega)).mpr (by omega)
            have n42 := Nat.not_le_of_lt h42
            refine AW.aload_n X dX11_coat_55 (i := 0) rfl rfl ?_
            refine AW.bipushN X 6 dX11_coat_56 rfl ?_
            refine AW.callV X dX11_coat_58 lX11_95 cfX11 (c_X11_refuse (k := 6) hR (by first | decide | omega)) ox0 rfl rfl rfl rfl ⟨rfl, rfl⟩ (pI_k fun r μ1 hr => ?_)
            refine AW.iret X hQ dX11_coat_61 ⟨_, rfl, ?_⟩
            refine rx_of ?_ hr
            simp [S_coat, *]
          · have g42 : ¬ nI 9 < nI v := by rw [n2_lt (by decide) (by omega)]; omega
            have n42 := Nat.not_lt_of_le h42
            refine AW.iload X dX11_coat_45 rfl ?_
            refine AW.bipushN X 12 dX11_coat_47 rfl ?_
            refine AW.callS X dX11_coat_49 lX11_91 (c_X11_outside) rfl rfl rfl rfl ⟨rfl, rfl⟩ (pR_k ?_)
            refine AW.if_eqB X (tgt := 62) dX11_coat_52 (by decide) (fun h52 => ?_) (fun h52 => ?_)
            · simp only [Bool.not_eq_true', Bool.not_eq_false'] at h52
              obtain ⟨g, hg, eg⟩ := inr_of (x := w) (m := 12) (by omega) h52
              subst eg
              have cg := cl_n (show g < 2147483648 by omega)
              refine AW.aload_n X dX11_coat_62 (i := 0) rfl rfl ?_
              refine AW.getR X dX11_coat_63 fX11_81 rfl ox0 hnow ?_
              refine AW.getR X dX11_coat_66 fX11_126 rfl (ta_ob hB) (wx_fronts W hB) ?_
              refine AW.iload_n X dX11_coat_69 (i := 1) rfl rfl ?_
              refine AW.aaload X (r := (B + 4 + 7 * h)) dX11_coat_70 rfl rfl (ta_f hB) (n2_in (by omega) (by decide)) (by rw [n2_clamp (by omega)]; exact wx_front W hB (by omega)) ?_
              refine AW.astore X dX11_coat_71 rfl ?_
              refine AW.aload X dX11_coat_73 rfl ?_
              refine AW.getI X dX11_coat_75 fX11_157 rfl (fa_ob (fa_of hB (by omega))) (hv_n (tx_h hT (by omega))) ?_
              refine AW.bipushN X 8 dX11_coat_78 rfl ?_
              refine AW.icmp_ltN X (tgt := 90) dX11_coat_80 (by decide) (by omega) (by omega) (fun h80 => ?_) (fun h80 => ?_)
              · have g80 : ¬ 8 ≤ S.1 h 0 2 := by omega
                have n80 := Nat.not_le_of_lt h80
                refine AW.aload X dX11_coat_90 rfl ?_
                refine AW.iload_n X dX11_coat_92 (i := 2) rfl rfl ?_
                refine AW.iload_n X dX11_coat_93 (i := 3) rfl rfl ?_
                refine AW.iload X dX11_coat_94 rfl ?_
                refine AW.iload X dX11_coat_96 rfl ?_
                refine AW.aload_n X dX11_coat_98 (i := 0) rfl rfl ?_
                refine AW.getR X dX11_coat_99 fX11_81 rfl ox0 hnow ?_
                refine AW.getI X dX11_coat_102 fX11_179 rfl (ta_ob hB) (tx_yr hT) ?_
                refine AW.callV X dX11_coat_105 lX11_182 cfX3 (c_X3_putOn W (fa_of hB (by omega)) hVh (by omega)) (fa_ob (fa_of hB (by omega))) rfl rfl rfl rfl ⟨rfl, rfl⟩ (pI_k fun r2 μ2 hp => ?_)
                refine AW.iret X hQ dX11_coat_108 ⟨_, rfl, ?_⟩
                obtain ⟨rfl, rfl⟩ := hp
                have f := tx_house hT (by omega) (put_same μ (B + 4 + 7 * h) (S.1 h 0 2) t c v g (S.1 6 0 3)).same (hv_put (S.1 6 0 3) hVh (by omega) ht hc (by omega) (by omega) hg)
                exact rx_val (by simp [S_coat, *]) (rx_town hR tb hnow hdr ((put_same μ (B + 4 + 7 * h) (S.1 h 0 2) t c v g (S.1 6 0 3)).mono (fr_tr (by omega))).same W f (by rw [upH_n (by omega)]; exact Nat.le_refl _))
              · have g80 : 8 ≤ S.1 h 0 2 := by omega
                have n80 := Nat.not_lt_of_le h80
                refine AW.aload_n X dX11_coat_83 (i := 0) rfl rfl ?_
                refine AW.bipushN X 7 dX11_coat_84 rfl ?_
                refine AW.callV X dX11_coat_86 lX11_95 cfX11 (c_X11_refuse (k := 7) hR (by first | decide | omega)) ox0 rfl rfl rfl rfl ⟨rfl, rfl⟩ (pI_k fun r μ1 hr => ?_)
                refine AW.iret X hQ dX11_coat_89 ⟨_, rfl, ?_⟩
                refine rx_of ?_ hr
                simp [S_coat, *]
            · simp only [Bool.not_eq_true', Bool.not_eq_false'] at h52
              refine AW.aload_n X dX11_coat_55 (i := 0) rfl rfl ?_
              refine AW.bipushN X 6 dX11_coat_56 rfl ?_
              refine AW.callV X dX11_coat_58 lX11_95 cfX11 (c_X11_refuse (k := 6) hR (by first | decide | omega)) ox0 rfl rfl rfl rfl ⟨rfl, rfl⟩ (pI_k fun r μ1 hr => ?_)
              refine AW.iret X hQ dX11_coat_61 ⟨_, rfl, ?_⟩
              refine rx_of ?_ hr
              simp [S_coat, *]
      · simp only [Bool.not_eq_true', Bool.not_eq_false'] at h23
        refine AW.aload_n X dX11_coat_26 (i := 0) rfl rfl ?_
        refine AW.iconstN X 1 dX11_coat_27 rfl ?_
        refine AW.callV X dX11_coat_28 lX11_95 cfX11 (c_X11_refuse (k := 1) hR (by first | decide | omega)) ox0 rfl rfl rfl rfl ⟨rfl, rfl⟩ (pI_k fun r μ1 hr => ?_)
        refine AW.iret X hQ dX11_coat_31 ⟨_, rfl, ?_⟩
        refine rx_of ?_ hr
        simp [S_coat, *]
set_option maxRecDepth 100000 in
set_option maxHeartbeats 4000000 in
theorem c_X11_coatOf {l : Launch} {δ : Dl} {b : Nat} {μ : Mm} {S : St} (hR : RX μ S) {x : Int32} {y : Int32} {z : Int32} : MCX l δ b yX11_coatOf cX11_coatOf 5 (some .int) 3 [.ref (b + 0), .int x, .int y, .int z] μ (pI fun r μ' => r = (S_coatOf S x y z).1 ∧ RX μ' (S_coatOf S x y z).2) := by
  obtain ⟨B, Bd, tb, hnow, hdr, hT⟩ := hR.2.2.1
  have W := rx_w hR
  have ta := two_ta tb
  have hB := ta.1
  have hBd := ta.2.1
  have bn := ti_n hT.1
  refine MC.intro ([some (.ref (b + 0)), some (.int x), some (.int y), some (.int z), none]) (by decide) rfl rfl fun κ Qc hl hQ X => ?_
  subst hl
  refine AW.aload_n X dX11_coatOf_0 (i := 0) rfl rfl ?_
  refine AW.iload_n X dX11_coatOf_1 (i := 1) rfl rfl ?_
  refine AW.callV X dX11_coatOf_2 lX11_123 cfX11 (c_X11_noHouse hR) ox0 rfl rfl rfl rfl ⟨rfl, rfl⟩ (pR_k ?_)
  refine AW.if_neB X (tgt := 17) dX11_coatOf_5 (by decide) (fun h5 => ?_) (fun h5 => ?_)
  · simp only [Bool.not_eq_true', Bool.not_eq_false'] at h5
    refine AW.aload_n X dX11_coatOf_17 (i := 0) rfl rfl ?_
    refine AW.iconstN X 5 dX11_coatOf_18 rfl ?_
    refine AW.callV X dX11_coatOf_19 lX11_95 cfX11 (c_X11_refuse (k := 5) hR (by first | decide | omega)) ox0 rfl rfl rfl rfl ⟨rfl, rfl⟩ (pI_k fun r μ1 hr => ?_)
    refine AW.iret X hQ dX11_coatOf_22 ⟨_, rfl, ?_⟩
    refine rx_of ?_ hr
    simp [S_coatOf, cOf, cls, strength, *]
  · simp only [Bool.not_eq_true', Bool.not_eq_false'] at h5
    obtain ⟨h, hh, eh⟩ := inr_of (x := x) (m := (S.1 6 0 0)) (by omega) h5
    subst eh
    have ch := cl_n (show h < 2147483648 by omega)
    have hVh := tx_h hT hh
    have bnh := hi_n hVh.1
    refine AW.aload_n X dX11_coatOf_8 (i := 0) rfl rfl ?_
    refine AW.iload_n X dX11_coatOf_9 (i := 1) rfl rfl ?_
    refine AW.iload_n X dX11_coatOf_10 (i := 2) rfl rfl ?_
    refine AW.callV X dX11_coatOf_11 lX11_186 cfX11 (c_X11_noCoat hR (by omega)) ox0 rfl rfl rfl rfl ⟨rfl, rfl⟩ (pR_k ?_)
    refine AW.if_eqB X (tgt := 23) dX11_coatOf_14 (by decide) (fun h14 => ?_) (fun h14 => ?_)
    · simp only [Bool.not_eq_true', Bool.not_eq_false'] at h14
      obtain ⟨c, hc, ec⟩ := inr_of (x := y) (m := (S.1 h 0 2)) (by omega) h14
      subst ec
      have cc := cl_n (show c < 2147483648 by omega)
      have q1 := hi_col hVh.1 (c := c) hc
      have q2 := hi_th hVh.1 (c := c) hc
      refine AW.aload_n X dX11_coatOf_23 (i := 0) rfl rfl ?_
      refine AW.getR X dX11_coatOf_24 fX11_81 rfl ox0 hnow ?_
      refine AW.getR X dX11_coatOf_27 fX11_126 rfl (ta_ob hB) (wx_fronts W hB) ?_
      refine AW.iload_n X dX11_coatOf_30 (i := 1) rfl rfl ?_
      refine AW.aaload X (r := (B + 4 + 7 * h)) dX11_coatOf_31 rfl rfl (ta_f hB) (n2_in (by omega) (by decide)) (by rw [n2_clamp (by omega)]; exact wx_front W hB (by omega)) ?_
      refine AW.astore X dX11_coatOf_32 rfl ?_
      refine AW.iload_n X dX11_coatOf_34 (i := 3) rfl rfl ?_
      rcases Bool.eq_false_or_eq_true (inr z 7) with hin | hin
      · obtain ⟨jsw, hjsw, ejsw⟩ := inr_of (x := z) (m := 7) (by decide) hin
        subst ejsw
        have hsw : jsw = 0 ∨ jsw = 1 ∨ jsw = 2 ∨ jsw = 3 ∨ jsw = 4 ∨ jsw = 5 ∨ jsw = 6 := by omega
        rcases hsw with rfl | rfl | rfl | rfl | rfl | rfl | rfl
        · refine AW.tableIn X (tgt := 76) dX11_coatOf_35 (by decide) (by decide) rfl (by decide) ?_
          refine AW.aload X dX11_coatOf_76 rfl ?_
          refine AW.getR X dX11_coatOf_78 fX11_189 rfl (fa_ob (fa_of hB (by omega))) (wx_tenant W (fa_of hB (by omega))) ?_
          refine AW.iload_n X dX11_coatOf_81 (i := 2) rfl rfl ?_
          refine AW.iaload X dX11_coatOf_82 (fa_1 (fa_of hB (by omega))) (n2_in (by omega) (by decide)) (v := (nI ((S.1 h) 1 c))) (by rw [n2_clamp (by omega)]; exact hv_1 (tx_h hT (by omega)) (by omega)) ?_
          refine AW.iret X hQ dX11_coatOf_83 ⟨_, rfl, ?_⟩
          refine rx_val ?_ hR
          simp [S_coatOf, cOf, cls, strength, *]
        · refine AW.tableIn X (tgt := 84) dX11_coatOf_35 (by decide) (by decide) rfl (by decide) ?_
          refine AW.aload X dX11_coatOf_84 rfl ?_
          refine AW.getR X dX11_coatOf_86 fX11_192 rfl (fa_ob (fa_of hB (by omega))) (wx_colour W (fa_of hB (by omega))) ?_
          refine AW.iload_n X dX11_coatOf_89 (i := 2) rfl rfl ?_
          refine AW.iaload X dX11_coatOf_90 (fa_2 (fa_of hB (by omega))) (n2_in (by omega) (by decide)) (v := (nI ((S.1 h) 2 c))) (by rw [n2_clamp (by omega)]; exact hv_2 (tx_h hT (by omega)) (by omega)) ?_
          refine AW.iret X hQ dX11_coatOf_91 ⟨_, rfl, ?_⟩
          refine rx_val ?_ hR
          simp [S_coatOf, cOf, cls, strength, *]
        · refine AW.tableIn X (tgt := 92) dX11_coatOf_35 (by decide) (by decide) rfl (by decide) ?_
          refine AW.aload X dX11_coatOf_92 rfl ?_
          refine AW.getR X dX11_coatOf_94 fX11_195 rfl (fa_ob (fa_of hB (by omega))) (wx_thick W (fa_of hB (by omega))) ?_
          refine AW.iload_n X dX11_coatOf_97 (i := 2) rfl rfl ?_
          refine AW.iaload X dX11_coatOf_98 (fa_3 (fa_of hB (by omega))) (n2_in (by omega) (by decide)) (v := (nI ((S.1 h) 3 c))) (by rw [n2_clamp (by omega)]; exact hv_3 (tx_h hT (by omega)) (by omega)) ?_
          refine AW.iret X hQ dX11_coatOf_99 ⟨_, rfl, ?_⟩
          refine rx_val ?_ hR
          simp [S_coatOf, cOf, cls, strength, *]
        · refine AW.tableIn X (tgt := 100) dX11_coatOf_35 (by decide) (by decide) rfl (by decide) ?_
          refine AW.aload X dX11_coatOf_100 rfl ?_
          refine AW.getR X dX11_coatOf_102 fX11_198 rfl (fa_ob (fa_of hB (by omega))) (wx_gap W (fa_of hB (by omega))) ?_
          refine AW.iload_n X dX11_coatOf_105 (i := 2) rfl rfl ?_
          refine AW.iaload X dX11_coatOf_106 (fa_4 (fa_of hB (by omega))) (n2_in (by omega) (by decide)) (v := (nI ((S.1 h) 4 c))) (by rw [n2_clamp (by omega)]; exact hv_4 (tx_h hT (by omega)) (by omega)) ?_
          refine AW.iret X hQ dX11_coatOf_107 ⟨_, rfl, ?_⟩
          refine rx_val ?_ hR
          simp [S_coatOf, cOf, cls, strength, *]
        · refine AW.tableIn X (tgt := 108) dX11_coatOf_35 (by decide) (by decide) rfl (by decide) ?_
          refine AW.aload X dX11_coatOf_108 rfl ?_
          refine AW.getR X dX11_coatOf_110 fX11_201 rfl (fa_ob (fa_of hB (by omega))) (wx_year W (fa_of hB (by omega))) ?_
          refine AW.iload_n X dX11_coatOf_113 (i := 2) rfl rfl ?_
          refine AW.iaload X dX11_coatOf_114 (fa_5 (fa_of hB (by omega))) (n2_in (by omega) (by decide)) (v := (nI ((S.1 h) 5 c))) (by rw [n2_clamp (by omega)]; exact hv_5 (tx_h hT (by omega)) (by omega)) ?_
          refine AW.iret X hQ dX11_coatOf_115 ⟨_, rfl, ?_⟩
          refine rx_val ?_ hR
          simp [S_coatOf, cOf, cls, strength, *]
        · refine AW.tableIn X (tgt := 116) dX11_coatOf_35 (by decide) (by decide) rfl (by decide) ?_
          refine AW.aload_n X dX11_coatOf_116 (i := 0) rfl rfl ?_
          refine AW.getR X dX11_coatOf_117 fX11_81 rfl ox0 hnow ?_
          refine AW.aload X dX11_coatOf_120 rfl ?_
          refine AW.aload X dX11_coatOf_122 rfl ?_
          refine AW.getR X dX11_coatOf_124 fX11_192 rfl (fa_ob (fa_of hB (by omega))) (wx_colour W (fa_of hB (by omega))) ?_
          refine AW.iload_n X dX11_coatOf_127 (i := 2) rfl rfl ?_
          refine AW.iaload X dX11_coatOf_128 (fa_2 (fa_of hB (by omega))) (n2_in (by omega) (by decide)) (v := (nI ((S.1 h) 2 c))) (by rw [n2_clamp (by omega)]; exact hv_2 (tx_h hT (by omega)) (by omega)) ?_
          refine AW.aload X dX11_coatOf_129 rfl ?_
          refine AW.getR X dX11_coatOf_131 fX11_195 rfl (fa_ob (fa_of hB (by omega))) (wx_thick W (fa_of hB (by omega))) ?_
          refine AW.iload_n X dX11_coatOf_134 (i := 2) rfl rfl ?_
          refine AW.iaload X dX11_coatOf_135 (fa_3 (fa_of hB (by omega))) (n2_in (by omega) (by decide)) (v := (nI ((S.1 h) 3 c))) (by rw [n2_clamp (by omega)]; exact hv_3 (tx_h hT (by omega)) (by omega)) ?_
          refine AW.callV X dX11_coatOf_136 lX11_203 cfX9 (c_X9_strength W hB hT (fa_of hB (by omega)) hVh (by omega) (by omega)) (ta_ob hB) rfl rfl rfl rfl ⟨rfl, rfl⟩ (pR_k ?_)
          refine AW.iret X hQ dX11_coatOf_139 ⟨_, rfl, ?_⟩
          refine rx_val ?_ hR
          simp [S_coatOf, cOf, cls, strength, *]
        · refine AW.tableIn X (tgt := 140) dX11_coatOf_35 (by decide) (by decide) rfl (by decide) ?_
          refine AW.aload X dX11_coatOf_140 rfl ?_
          refine AW.iload_n X dX11_coatOf_142 (i := 2) rfl rfl ?_
          refine AW.callV X dX11_coatOf_143 lX11_207 cfX3 (c_X3_cellsOf W (fa_of hB (by omega)) (tx_h hT (by omega)) (by omega)) (fa_ob (fa_of hB (by omega))) rfl rfl rfl rfl ⟨rfl, rfl⟩ (pR_k ?_)
          refine AW.iret X hQ dX11_coatOf_146 ⟨_, rfl, ?_⟩
          refine rx_val ?_ hR
          simp [S_coatOf, cOf, cls, strength, *]
      · refine AW.tableOut X (tgt := 147) dX11_coatOf_35 (inr_out (m := 7) (by decide) hin) (by decide) ?_
        refine AW.aload_n X dX11_coatOf_147 (i := 0) rfl rfl ?_
        refine AW.iconstN X 5 dX11_coatOf_148 rfl ?_
        refine AW.callV X dX11_coatOf_149 lX11_95 cfX11 (c_X11_refuse (k := 5) hR (by first | decide | omega)) ox0 rfl rfl rfl rfl ⟨rfl, rfl⟩ (pI_k fun r μ1 hr => ?_)
        refine AW.iret X hQ dX11_coatOf_152 ⟨_, rfl, ?_⟩
        refine rx_of ?_ hr
        simp [S_coatOf, cOf, cls, strength, *]
    · simp only [Bool.not_eq_true', Bool.not_eq_false'] at h14
      refine AW.aload_n X dX11_coatOf_17 (i := 0) rfl rfl ?_
      refine AW.iconstN X 5 dX11_coatOf_18 rfl ?_
      refine AW.callV X dX11_coatOf_19 lX11_95 cfX11 (c_X11_refuse (k := 5) hR (by first | decide | omega)) ox0 rfl rfl rfl rfl ⟨rfl, rfl⟩ (pI_k fun r μ1 hr => ?_)
      refine AW.iret X hQ dX11_coatOf_22 ⟨_, rfl, ?_⟩
      refine rx_of ?_ hr
      simp [S_coatOf, cOf, cls, strength, *]
set_option maxRecDepth 100000 in
set_option maxHeartbeats 4000000 in
theorem c_X11_fault {l : Launch} {δ : Dl} {b : Nat} {μ : Mm} {S : St} (hR : RX μ S)  : MCX l δ b yX11_fault cX11_fault 1 (some .int) 1 [.ref (b + 0)] μ (pI fun r μ' => r = S_fault S ∧ μ' = μ) := by
  obtain ⟨B, Bd, tb, hnow, hdr, hT⟩ := hR.2.2.1
  have W := rx_w hR
  have ta := two_ta tb
  have hB := ta.1
  have hBd := ta.2.1
  have bn := ti_n hT.1
  refine MC.intro ([some (.ref (b + 0))]) (by decide) rfl rfl fun κ Qc hl hQ X => ?_
  subst hl
  refine AW.aload_n X dX11_fault_0 (i := 0) rfl rfl ?_
  refine AW.getI X dX11_fault_1 fX11_45 rfl ox0 (rx_fault hR) ?_
  refine AW.iret X hQ dX11_fault_4 ⟨_, rfl, ?_⟩
  exact ⟨rfl, rfl⟩
