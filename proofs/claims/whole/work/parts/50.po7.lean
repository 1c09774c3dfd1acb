/-! what is seen -/
def S_seen (S : St) (h k d : Int32) : Int32 × St :=
  if inr h (S.1 6 0 0) = false then ref S 1 10 else if inr k 12 = false then ref S 5 10 else if inr d 100 = false then ref S 6 10
  else (oI (seenIn (S.1 6 1) (S.1 (cl h)) (lyA (S.1 (cl h)) (cl k)) (wet (S.1 (cl h)) (cl k) (cl d)) (S.1 (cl h) 0 2)), S)
def S_wet (S : St) (h k d : Int32) : Int32 × St := if inr h (S.1 6 0 0) = false then ref S 1 0 else if inr k 12 = false then ref S 5 0 else if inr d 100 = false then ref S 6 0 else (nI (wet (S.1 (cl h)) (cl k) (cl d)), S)
def S_deep (S : St) (h k : Int32) : Int32 × St := if inr h (S.1 6 0 0) = false then ref S 1 0 else if inr k 12 = false then ref S 5 0 else (nI (depth (S.1 (cl h)) (cl k)), S)
def S_skin (S : St) (h : Int32) : Int32 × St := if inr h (S.1 6 0 0) = false then ref S 1 0 else (nI (skin (S.1 (cl h))), S)
def S_hailed (S : St) (h k d : Int32) : Int32 × St := if inr h (S.1 6 0 0) = false then ref S 1 0 else if inr k 12 = false then ref S 5 0 else if inr d 100 = false then ref S 6 0 else (nI (behindH (S.1 (cl h)) (cl k) (cl d)), S)
def S_hidden (S : St) (h d : Int32) : Int32 × St := if inr h (S.1 6 0 0) = false then ref S 1 0 else if inr d 100 = false then ref S 6 0 else (nI (andN (2 ^ S.1 (cl h) 0 2 - 1) (seenTo (S.1 6 1) (S.1 (cl h)) (cl d) 12)), S)
set_option maxRecDepth 100000 in
set_option maxHeartbeats 4000000 in
theorem c_X11_seen {l : Launch} {δ : Dl} {b : Nat} {μ : Mm} {S : St} (hR : RX μ S) {x : Int32} {y : Int32} {z : Int32} : MCX l δ b yX11_seen cX11_seen 5 (some .int) 5 [.ref (b + 0), .int x, .int y, .int z] μ (pI fun r μ' => r = (S_seen S x y z).1 ∧ RX μ' (S_seen S x y z).2) := by
  obtain ⟨B, Bd, tb, hnow, hdr, hT⟩ := hR.2.2.1
  have W := rx_w hR
  have ta := two_ta tb
  have hB := ta.1
  have hBd := ta.2.1
  have bn := ti_n hT.1
  refine MC.intro ([some (.ref (b + 0)), some (.int x), some (.int y), some (.int z), none]) (by decide) rfl rfl fun κ Qc hl hQ X => ?_
  subst hl
  refine AW.aload_n X dX11_seen_0 (i := 0) rfl rfl ?_
  refine AW.iload_n X dX11_seen_1 (i := 1) rfl rfl ?_
  refine AW.callV X dX11_seen_2 lX11_123 cfX11 (c_X11_noHouse hR) ox0 rfl rfl rfl rfl ⟨rfl, rfl⟩ (pR_k ?_)
  refine AW.if_eqB X (tgt := 16) dX11_seen_5 (by decide) (fun h5 => ?_) (fun h5 => ?_)
  · simp only [Bool.not_eq_true', Bool.not_eq_false'] at h5
    obtain ⟨h, hh, eh⟩ := inr_of (x := x) (m := (S.1 6 0 0)) (by omega) h5
    subst eh
    have ch := cl_n (show h < 2147483648 by omega)
    have hVh := tx_h hT hh
    have bnh := hi_n hVh.1
    refine AW.iload_n X dX11_seen_16 (i := 2) rfl rfl ?_
    refine AW.bipushN X 12 dX11_seen_17 rfl ?_
    refine AW.callS X dX11_seen_19 lX11_91 (c_X11_outside) rfl rfl rfl rfl ⟨rfl, rfl⟩ (pR_k ?_)
    refine AW.if_eqB X (tgt := 33) dX11_seen_22 (by decide) (fun h22 => ?_) (fun h22 => ?_)
    · simp only [Bool.not_eq_true', Bool.not_eq_false'] at h22
      obtain ⟨k, hk, ek⟩ := inr_of (x := y) (m := 12) (by omega) h22
      subst ek
      have ck := cl_n (show k < 2147483648 by omega)
      refine AW.iload_n X dX11_seen_33 (i := 3) rfl rfl ?_
      refine AW.bipushN X 100 dX11_seen_34 rfl ?_
      refine AW.callS X dX11_seen_36 lX11_91 (c_X11_outside) rfl rfl rfl rfl ⟨rfl, rfl⟩ (pR_k ?_)
      refine AW.if_eqB X (tgt := 51) dX11_seen_39 (by decide) (fun h39 => ?_) (fun h39 => ?_)
      · simp only [Bool.not_eq_true', Bool.not_eq_false'] at h39
        obtain ⟨d, hd, ed⟩ := inr_of (x := z) (m := 100) (by omega) h39
        subst ed
        have cd := cl_n (show d < 2147483648 by omega)
        refine AW.aload_n X dX11_seen_51 (i := 0) rfl rfl ?_
        refine AW.getR X dX11_seen_52 fX11_81 rfl ox0 hnow ?_
        have by_ := lyN hVh.1 k
        refine AW.getR X dX11_seen_55 fX11_126 rfl (ta_ob hB) (wx_fronts W hB) ?_
        refine AW.iload_n X dX11_seen_58 (i := 1) rfl rfl ?_
        refine AW.aaload X (r := (B + 4 + 7 * h)) dX11_seen_59 rfl rfl (ta_f hB) (n2_in (by omega) (by decide)) (by rw [n2_clamp (by omega)]; exact wx_front W hB (by omega)) ?_
        refine AW.astore X dX11_seen_60 rfl ?_
        refine AW.aload_n X dX11_seen_62 (i := 0) rfl rfl ?_
        refine AW.getR X dX11_seen_63 fX11_81 rfl ox0 hnow ?_
        refine AW.aload X dX11_seen_66 rfl ?_
        refine AW.aload X dX11_seen_68 rfl ?_
        refine AW.iload_n X dX11_seen_70 (i := 2) rfl rfl ?_
        refine AW.callV X dX11_seen_71 lX11_224 cfX3 (c_X3_lyingIn W (fa_of hB (by omega)) (tx_h hT (by omega)) (by omega)) (fa_ob (fa_of hB (by omega))) rfl rfl rfl rfl ⟨rfl, rfl⟩ (pR_k ?_)
        refine AW.iload_n X dX11_seen_74 (i := 2) rfl rfl ?_
        refine AW.iload_n X dX11_seen_75 (i := 3) rfl rfl ?_
        refine AW.callV X dX11_seen_76 lX11_227 cfX9 (c_X9_seenAmong W hB hT (fa_of hB (by omega)) (tx_h hT (by omega)) (by omega) (by omega) (by omega)) (ta_ob hB) rfl rfl rfl rfl ⟨rfl, rfl⟩ (pR_k ?_)
        refine AW.iret X hQ dX11_seen_79 ⟨_, rfl, ?_⟩
        refine rx_val ?_ hR
        simp [S_seen, *]
      · simp only [Bool.not_eq_true', Bool.not_eq_false'] at h39
        refine AW.aload_n X dX11_seen_42 (i := 0) rfl rfl ?_
        refine AW.bipushN X 6 dX11_seen_43 rfl ?_
        refine AW.bipushN X 10 dX11_seen_45 rfl ?_
        refine AW.callV X dX11_seen_47 lX11_221 cfX11 (c_X11_refuseDown (k := 6) (down := 10) hR (by decide)) ox0 rfl rfl rfl rfl ⟨rfl, rfl⟩ (pI_k fun r μ1 hr => ?_)
        refine AW.iret X hQ dX11_seen_50 ⟨_, rfl, ?_⟩
        refine rx_of ?_ hr
        simp [S_seen, *]
    · simp only [Bool.not_eq_true', Bool.not_eq_false'] at h22
      refine AW.aload_n X dX11_seen_25 (i := 0) rfl rfl ?_
      refine AW.iconstN X 5 dX11_seen_26 rfl ?_
      refine AW.bipushN X 10 dX11_seen_27 rfl ?_
      refine AW.callV X dX11_seen_29 lX11_221 cfX11 (c_X11_refuseDown (k := 5) (down := 10) hR (by decide)) ox0 rfl rfl rfl rfl ⟨rfl, rfl⟩ (pI_k fun r μ1 hr => ?_)
      refine AW.iret X hQ dX11_seen_32 ⟨_, rfl, ?_⟩
      refine rx_of ?_ hr
      simp [S_seen, *]
  · simp only [Bool.not_eq_true', Bool.not_eq_false'] at h5
    refine AW.aload_n X dX11_seen_8 (i := 0) rfl rfl ?_
    refine AW.iconstN X 1 dX11_seen_9 rfl ?_
    refine AW.bipushN X 10 dX11_seen_10 rfl ?_
    refine AW.callV X dX11_seen_12 lX11_221 cfX11 (c_X11_refuseDown (k := 1) (down := 10) hR (by decide)) ox0 rfl rfl rfl rfl ⟨rfl, rfl⟩ (pI_k fun r μ1 hr => ?_)
    refine AW.iret X hQ dX11_seen_15 ⟨_, rfl, ?_⟩
    refine rx_of ?_ hr
    simp [S_seen, *]
set_option maxRecDepth 100000 in
set_option maxHeartbeats 4000000 in
theorem c_X11_wet {l : Launch} {δ : Dl} {b : Nat} {μ : Mm} {S : St} (hR : RX μ S) {x : Int32} {y : Int32} {z : Int32} : MCX l δ b yX11_wet cX11_wet 4 (some .int) 4 [.ref (b + 0), .int x, .int y, .int z] μ (pI fun r μ' => r = (S_wet S x y z).1 ∧ RX μ' (S_wet S x y z).2) := by
  obtain ⟨B, Bd, tb, hnow, hdr, hT⟩ := hR.2.2.1
  have W := rx_w hR
  have ta := two_ta tb
  have hB := ta.1
  have hBd := ta.2.1
  have bn := ti_n hT.1
  refine MC.intro ([some (.ref (b + 0)), some (.int x), some (.int y), some (.int z)]) (by decide) rfl rfl fun κ Qc hl hQ X => ?_
  subst hl
  refine AW.aload_n X dX11_wet_0 (i := 0) rfl rfl ?_
  refine AW.iload_n X dX11_wet_1 (i := 1) rfl rfl ?_
  refine AW.callV X dX11_wet_2 lX11_123 cfX11 (c_X11_noHouse hR) ox0 rfl rfl rfl rfl ⟨rfl, rfl⟩ (pR_k ?_)
  refine AW.if_eqB X (tgt := 14) dX11_wet_5 (by decide) (fun h5 => ?_) (fun h5 => ?_)
  · simp only [Bool.not_eq_true', Bool.not_eq_false'] at h5
    obtain ⟨h, hh, eh⟩ := inr_of (x := x) (m := (S.1 6 0 0)) (by omega) h5
    subst eh
    have ch := cl_n (show h < 2147483648 by omega)
    have hVh := tx_h hT hh
    have bnh := hi_n hVh.1
    refine AW.iload_n X dX11_wet_14 (i := 2) rfl rfl ?_
    refine AW.bipushN X 12 dX11_wet_15 rfl ?_
    refine AW.callS X dX11_wet_17 lX11_91 (c_X11_outside) rfl rfl rfl rfl ⟨rfl, rfl⟩ (pR_k ?_)
    refine AW.if_eqB X (tgt := 29) dX11_wet_20 (by decide) (fun h20 => ?_) (fun h20 => ?_)
    · simp only [Bool.not_eq_true', Bool.not_eq_false'] at h20
      obtain ⟨k, hk, ek⟩ := inr_of (x := y) (m := 12) (by omega) h20
      subst ek
      have ck := cl_n (show k < 2147483648 by omega)
      refine AW.iload_n X dX11_wet_29 (i := 3) rfl rfl ?_
      refine AW.bipushN X 100 dX11_wet_30 rfl ?_
      refine AW.callS X dX11_wet_32 lX11_91 (c_X11_outside) rfl rfl rfl rfl ⟨rfl, rfl⟩ (pR_k ?_)
      refine AW.if_eqB X (tgt := 45) dX11_wet_35 (by decide) (fun h35 => ?_) (fun h35 => ?_)
      · simp only [Bool.not_eq_true', Bool.not_eq_false'] at h35
        obtain ⟨d, hd, ed⟩ := inr_of (x := z) (m := 100) (by omega) h35
        subst ed
        have cd := cl_n (show d < 2147483648 by omega)
        refine AW.aload_n X dX11_wet_45 (i := 0) rfl rfl ?_
        refine AW.getR X dX11_wet_46 fX11_81 rfl ox0 hnow ?_
        refine AW.getR X dX11_wet_49 fX11_126 rfl (ta_ob hB) (wx_fronts W hB) ?_
        refine AW.iload_n X dX11_wet_52 (i := 1) rfl rfl ?_
        refine AW.aaload X (r := (B + 4 + 7 * h)) dX11_wet_53 rfl rfl (ta_f hB) (n2_in (by omega) (by decide)) (by rw [n2_clamp (by omega)]; exact wx_front W hB (by omega)) ?_
        refine AW.iload_n X dX11_wet_54 (i := 2) rfl rfl ?_
        refine AW.iload_n X dX11_wet_55 (i := 3) rfl rfl ?_
        refine AW.callV X dX11_wet_56 lX11_231 cfX3 (c_X3_wetness W (fa_of hB (by omega)) (tx_h hT (by omega)) (by omega) (by omega)) (fa_ob (fa_of hB (by omega))) rfl rfl rfl rfl ⟨rfl, rfl⟩ (pR_k ?_)
        refine AW.iret X hQ dX11_wet_59 ⟨_, rfl, ?_⟩
        refine rx_val ?_ hR
        simp [S_wet, *]
      · simp only [Bool.not_eq_true', Bool.not_eq_false'] at h35
        refine AW.aload_n X dX11_wet_38 (i := 0) rfl rfl ?_
        refine AW.bipushN X 6 dX11_wet_39 rfl ?_
        refine AW.callV X dX11_wet_41 lX11_95 cfX11 (c_X11_refuse (k := 6) hR (by first | decide | omega)) ox0 rfl rfl rfl rfl ⟨rfl, rfl⟩ (pI_k fun r μ1 hr => ?_)
        refine AW.iret X hQ dX11_wet_44 ⟨_, rfl, ?_⟩
        refine rx_of ?_ hr
        simp [S_wet, *]
    · simp only [Bool.not_eq_true', Bool.not_eq_false'] at h20
      refine AW.aload_n X dX11_wet_23 (i := 0) rfl rfl ?_
      refine AW.iconstN X 5 dX11_wet_24 rfl ?_
      refine AW.callV X dX11_wet_25 lX11_95 cfX11 (c_X11_refuse (k := 5) hR (by first | decide | omega)) ox0 rfl rfl rfl rfl ⟨rfl, rfl⟩ (pI_k fun r μ1 hr => ?_)
      refine AW.iret X hQ dX11_wet_28 ⟨_, rfl, ?_⟩
      refine rx_of ?_ hr
      simp [S_wet, *]
  · simp only [Bool.not_eq_true', Bool.not_eq_false'] at h5
    refine AW.aload_n X dX11_wet_8 (i := 0) rfl rfl ?_
    refine AW.iconstN X 1 dX11_wet_9 rfl ?_
    refine AW.callV X dX11_wet_10 lX11_95 cfX11 (c_X11_refuse (k := 1) hR (by first | decide | omega)) ox0 rfl rfl rfl rfl ⟨rfl, rfl⟩ (pI_k fun r μ1 hr => ?_)
    refine AW.iret X hQ dX11_wet_13 ⟨_, rfl, ?_⟩
    refine rx_of ?_ hr
    simp [S_wet, *]
set_option maxRecDepth 100000 in
set_option maxHeartbeats 4000000 in
theorem c_X11_deep {l : Launch} {δ : Dl} {b : Nat} {μ : Mm} {S : St} (hR : RX μ S) {x : Int32} {y : Int32} : MCX l δ b yX11_deep cX11_deep 3 (some .int) 4 [.ref (b + 0), .int x, .int y] μ (pI fun r μ' => r = (S_deep S x y).1 ∧ RX μ' (S_deep S x y).2) := by
  obtain ⟨B, Bd, tb, hnow, hdr, hT⟩ := hR.2.2.1
  have W := rx_w hR
  have ta := two_ta tb
  have hB := ta.1
  have hBd := ta.2.1
  have bn := ti_n hT.1
  refine MC.intro ([some (.ref (b + 0)), some (.int x), some (.int y)]) (by decide) rfl rfl fun κ Qc hl hQ X => ?_
  subst hl
  refine AW.aload_n X dX11_deep_0 (i := 0) rfl rfl ?_
  refine AW.iload_n X dX11_deep_1 (i := 1) rfl rfl ?_
  refine AW.callV X dX11_deep_2 lX11_123 cfX11 (c_X11_noHouse hR) ox0 rfl rfl rfl rfl ⟨rfl, rfl⟩ (pR_k ?_)
  refine AW.if_eqB X (tgt := 14) dX11_deep_5 (by decide) (fun h5 => ?_) (fun h5 => ?_)
  · simp only [Bool.not_eq_true', Bool.not_eq_false'] at h5
    obtain ⟨h, hh, eh⟩ := inr_of (x := x) (m := (S.1 6 0 0)) (by omega) h5
    subst eh
    have ch := cl_n (show h < 2147483648 by omega)
    have hVh := tx_h hT hh
    have bnh := hi_n hVh.1
    refine AW.iload_n X dX11_deep_14 (i := 2) rfl rfl ?_
    refine AW.bipushN X 12 dX11_deep_15 rfl ?_
    refine AW.callS X dX11_deep_17 lX11_91 (c_X11_outside) rfl rfl rfl rfl ⟨rfl, rfl⟩ (pR_k ?_)
    refine AW.if_eqB X (tgt := 29) dX11_deep_20 (by decide) (fun h20 => ?_) (fun h20 => ?_)
    · simp only [Bool.not_eq_true', Bool.not_eq_false'] at h20
      obtain ⟨k, hk, ek⟩ := inr_of (x := y) (m := 12) (by omega) h20
      subst ek
      have ck := cl_n (show k < 2147483648 by omega)
      refine AW.aload_n X dX11_deep_29 (i := 0) rfl rfl ?_
      refine AW.getR X dX11_deep_30 fX11_81 rfl ox0 hnow ?_
      refine AW.getR X dX11_deep_33 fX11_126 rfl (ta_ob hB) (wx_fronts W hB) ?_
      refine AW.iload_n X dX11_deep_36 (i := 1) rfl rfl ?_
      refine AW.aaload X (r := (B + 4 + 7 * h)) dX11_deep_37 rfl rfl (ta_f hB) (n2_in (by omega) (by decide)) (by rw [n2_clamp (by omega)]; exact wx_front W hB (by omega)) ?_
      refine AW.iload_n X dX11_deep_38 (i := 2) rfl rfl ?_
      refine AW.callV X dX11_deep_39 lX11_234 cfX3 (c_X3_depth W (fa_of hB (by omega)) (tx_h hT (by omega)) (by omega)) (fa_ob (fa_of hB (by omega))) rfl rfl rfl rfl ⟨rfl, rfl⟩ (pR_k ?_)
      refine AW.iret X hQ dX11_deep_42 ⟨_, rfl, ?_⟩
      refine rx_val ?_ hR
      simp [S_deep, *]
    · simp only [Bool.not_eq_true', Bool.not_eq_false'] at h20
      refine AW.aload_n X dX11_deep_23 (i := 0) rfl rfl ?_
      refine AW.iconstN X 5 dX11_deep_24 rfl ?_
      refine AW.callV X dX11_deep_25 lX11_95 cfX11 (c_X11_refuse (k := 5) hR (by first | decide | omega)) ox0 rfl rfl rfl rfl ⟨rfl, rfl⟩ (pI_k fun r μ1 hr => ?_)
      refine AW.iret X hQ dX11_deep_28 ⟨_, rfl, ?_⟩
      refine rx_of ?_ hr
      simp [S_deep, *]
  · simp only [Bool.not_eq_true', Bool.not_eq_false'] at h5
    refine AW.aload_n X dX11_deep_8 (i := 0) rfl rfl ?_
    refine AW.iconstN X 1 dX11_deep_9 rfl ?_
    refine AW.callV X dX11_deep_10 lX11_95 cfX11 (c_X11_refuse (k := 1) hR (by first | decide | omega)) ox0 rfl rfl rfl rfl ⟨rfl, rfl⟩ (pI_k fun r μ1 hr => ?_)
    refine AW.iret X hQ dX11_deep_13 ⟨_, rfl, ?_⟩
    refine rx_of ?_ hr
    simp [S_deep, *]
set_option maxRecDepth 100000 in
set_option maxHeartbeats 4000000 in
theorem c_X11_skin {l : Launch} {δ : Dl} {b : Nat} {μ : Mm} {S : St} (hR : RX μ S) {x : Int32} : MCX l δ b yX11_skin cX11_skin 2 (some .int) 5 [.ref (b + 0), .int x] μ (pI fun r μ' => r = (S_skin S x).1 ∧ RX μ' (S_skin S x).2) := by
  obtain ⟨B, Bd, tb, hnow, hdr, hT⟩ := hR.2.2.1
  have W := rx_w hR
  have ta := two_ta tb
  have hB := ta.1
  have hBd := ta.2.1
  have bn := ti_n hT.1
  refine MC.intro ([some (.ref (b + 0)), some (.int x)]) (by decide) rfl rfl fun κ Qc hl hQ X => ?_
  subst hl
  refine AW.aload_n X dX11_skin_0 (i := 0) rfl rfl ?_
  refine AW.iload_n X dX11_skin_1 (i := 1) rfl rfl ?_
  refine AW.callV X dX11_skin_2 lX11_123 cfX11 (c_X11_noHouse hR) ox0 rfl rfl rfl rfl ⟨rfl, rfl⟩ (pR_k ?_)
  refine AW.if_eqB X (tgt := 14) dX11_skin_5 (by decide) (fun h5 => ?_) (fun h5 => ?_)
  · simp only [Bool.not_eq_true', Bool.not_eq_false'] at h5
    obtain ⟨h, hh, eh⟩ := inr_of (x := x) (m := (S.1 6 0 0)) (by omega) h5
    subst eh
    have ch := cl_n (show h < 2147483648 by omega)
    have hVh := tx_h hT hh
    have bnh := hi_n hVh.1
    refine AW.aload_n X dX11_skin_14 (i := 0) rfl rfl ?_
    refine AW.getR X dX11_skin_15 fX11_81 rfl ox0 hnow ?_
    refine AW.getR X dX11_skin_18 fX11_126 rfl (ta_ob hB) (wx_fronts W hB) ?_
    refine AW.iload_n X dX11_skin_21 (i := 1) rfl rfl ?_
    refine AW.aaload X (r := (B + 4 + 7 * h)) dX11_skin_22 rfl rfl (ta_f hB) (n2_in (by omega) (by decide)) (by rw [n2_clamp (by omega)]; exact wx_front W hB (by omega)) ?_
    refine AW.callV X dX11_skin_23 lX11_160 cfX3 (c_X3_wholeSkin W (fa_of hB (by omega)) (tx_h hT (by omega))) (fa_ob (fa_of hB (by omega))) rfl rfl rfl rfl ⟨rfl, rfl⟩ (pR_k ?_)
    refine AW.iret X hQ dX11_skin_26 ⟨_, rfl, ?_⟩
    refine rx_val ?_ hR
    simp [S_skin, *]
  · simp only [Bool.not_eq_true', Bool.not_eq_false'] at h5
    refine AW.aload_n X dX11_skin_8 (i := 0) rfl rfl ?_
    refine AW.iconstN X 1 dX11_skin_9 rfl ?_
    refine AW.callV X dX11_skin_10 lX11_95 cfX11 (c_X11_refuse (k := 1) hR (by first | decide | omega)) ox0 rfl rfl rfl rfl ⟨rfl, rfl⟩ (pI_k fun r μ1 hr => ?_)
    refine AW.iret X hQ dX11_skin_13 ⟨_, rfl, ?_⟩
    refine rx_of ?_ hr
    simp [S_skin, *]
set_option maxRecDepth 100000 in
set_option maxHeartbeats 4000000 in
theorem c_X11_hailed {l : Launch} {δ : Dl} {b : Nat} {μ : Mm} {S : St} (hR : RX μ S) {x : Int32} {y : Int32} {z : Int32} : MCX l δ b yX11_hailed cX11_hailed 4 (some .int) 4 [.ref (b + 0), .int x, .int y, .int z] μ (pI fun r μ' => r = (S_hailed S x y z).1 ∧ RX μ' (S_hailed S x y z).2) := by
  obtain ⟨B, Bd, tb, hnow, hdr, hT⟩ := hR.2.2.1
  have W := rx_w hR
  have ta := two_ta tb
  have hB := ta.1
  have hBd := ta.2.1
  have bn := ti_n hT.1
  refine MC.intro ([some (.ref (b + 0)), some (.int x), some (.int y), some (.int z)]) (by decide) rfl rfl fun κ Qc hl hQ X => ?_
  subst hl
  refine AW.aload_n X dX11_hailed_0 (i := 0) rfl rfl ?_
  refine AW.iload_n X dX11_hailed_1 (i := 1) rfl rfl ?_
  refine AW.callV X dX11_hailed_2 lX11_123 cfX11 (c_X11_noHouse hR) ox0 rfl rfl rfl rfl ⟨rfl, rfl⟩ (pR_k ?_)
  refine AW.if_eqB X (tgt := 14) dX11_hailed_5 (by decide) (fun h5 => ?_) (fun h5 => ?_)
  · simp only [Bool.not_eq_true', Bool.not_eq_false'] at h5
    obtain ⟨h, hh, eh⟩ := inr_of (x := x) (m := (S.1 6 0 0)) (by omega) h5
    subst eh
    have ch := cl_n (show h < 2147483648 by omega)
    have hVh := tx_h hT hh
    have bnh := hi_n hVh.1
    refine AW.iload_n X dX11_hailed_14 (i := 2) rfl rfl ?_
    refine AW.bipushN X 12 dX11_hailed_15 rfl ?_
    refine AW.callS X dX11_hailed_17 lX11_91 (c_X11_outside) rfl rfl rfl rfl ⟨rfl, rfl⟩ (pR_k ?_)
    refine AW.if_eqB X (tgt := 29) dX11_hailed_20 (by decide) (fun h20 => ?_) (fun h20 => ?_)
    · simp only [Bool.not_eq_true', Bool.not_eq_false'] at h20
      obtain ⟨k, hk, ek⟩ := inr_of (x := y) (m := 12) (by omega) h20
      subst ek
      have ck := cl_n (show k < 2147483648 by omega)
      refine AW.iload_n X dX11_hailed_29 (i := 3) rfl rfl ?_
      refine AW.bipushN X 100 dX11_hailed_30 rfl ?_
      refine AW.callS X dX11_hailed_32 lX11_91 (c_X11_outside) rfl rfl rfl rfl ⟨rfl, rfl⟩ (pR_k ?_)
      refine AW.if_eqB X (tgt := 45) dX11_hailed_35 (by decide) (fun h35 => ?_) (fun h35 => ?_)
      · simp only [Bool.not_eq_true', Bool.not_eq_false'] at h35
        obtain ⟨d, hd, ed⟩ := inr_of (x := z) (m := 100) (by omega) h35
        subst ed
        have cd := cl_n (show d < 2147483648 by omega)
        refine AW.aload_n X dX11_hailed_45 (i := 0) rfl rfl ?_
        refine AW.getR X dX11_hailed_46 fX11_81 rfl ox0 hnow ?_
        refine AW.getR X dX11_hailed_49 fX11_126 rfl (ta_ob hB) (wx_fronts W hB) ?_
        refine AW.iload_n X dX11_hailed_52 (i := 1) rfl rfl ?_
        refine AW.aaload X (r := (B + 4 + 7 * h)) dX11_hailed_53 rfl rfl (ta_f hB) (n2_in (by omega) (by decide)) (by rw [n2_clamp (by omega)]; exact wx_front W hB (by omega)) ?_
        refine AW.iload_n X dX11_hailed_54 (i := 2) rfl rfl ?_
        refine AW.iload_n X dX11_hailed_55 (i := 3) rfl rfl ?_
        refine AW.callV X dX11_hailed_56 lX11_237 cfX3 (c_X3_behindHail W (fa_of hB (by omega)) (tx_h hT (by omega)) (by omega) (by omega)) (fa_ob (fa_of hB (by omega))) rfl rfl rfl rfl ⟨rfl, rfl⟩ (pR_k ?_)
        refine AW.iret X hQ dX11_hailed_59 ⟨_, rfl, ?_⟩
        refine rx_val ?_ hR
        simp [S_hailed, *]
      · simp only [Bool.not_eq_true', Bool.not_eq_false'] at h35
        refine AW.aload_n X dX11_hailed_38 (i := 0) rfl rfl ?_
        refine AW.bipushN X 6 dX11_hailed_39 rfl ?_
        refine AW.callV X dX11_hailed_41 lX11_95 cfX11 (c_X11_refuse (k := 6) hR (by first | decide | omega)) ox0 rfl rfl rfl rfl ⟨rfl, rfl⟩ (pI_k fun r μ1 hr => ?_)
        refine AW.iret X hQ dX11_hailed_44 ⟨_, rfl, ?_⟩
        refine rx_of ?_ hr
        simp [S_hailed, *]
    · simp only [Bool.not_eq_true', Bool.not_eq_false'] at h20
      refine AW.aload_n X dX11_hailed_23 (i := 0) rfl rfl ?_
      refine AW.iconstN X 5 dX11_hailed_24 rfl ?_
      refine AW.callV X dX11_hailed_25 lX11_95 cfX11 (c_X11_refuse (k := 5) hR (by first | decide | omega)) ox0 rfl rfl rfl rfl ⟨rfl, rfl⟩ (pI_k fun r μ1 hr => ?_)
      refine AW.iret X hQ dX11_hailed_28 ⟨_, rfl, ?_⟩
      refine rx_of ?_ hr
      simp [S_hailed, *]
  · simp only [Bool.not_eq_true', Bool.not_eq_false'] at h5
    refine AW.aload_n X dX11_hailed_8 (i := 0) rfl rfl ?_
    refine AW.iconstN X 1 dX11_hailed_9 rfl ?_
    refine AW.callV X dX11_hailed_10 lX11_95 cfX11 (c_X11_refuse (k := 1) hR (by first | decide | omega)) ox0 rfl rfl rfl rfl ⟨rfl, rfl⟩ (pI_k fun r μ1 hr => ?_)
    refine AW.iret X hQ dX11_hailed_13 ⟨_, rfl, ?_⟩
    refine rx_of ?_ hr
    simp [S_hailed, *]
set_option maxRecDepth 100000 in
set_option maxHeartbeats 4000000 in
theorem c_X11_hidden {l : Launch} {δ : Dl} {b : Nat} {μ : Mm} {S : St} (hR : RX μ S) {x : Int32} {y : Int32} : MCX l δ b yX11_hidden cX11_hidden 4 (some .int) 6 [.ref (b + 0), .int x, .int y] μ (pI fun r μ' => r = (S_hidden S x y).1 ∧ RX μ' (S_hidden S x y).2) := by
  obtain ⟨B, Bd, tb, hnow, hdr, hT⟩ := hR.2.2.1
  have W := rx_w hR
  have ta := two_ta tb
  have hB := ta.1
  have hBd := ta.2.1
  have bn := ti_n hT.1
  refine MC.intro ([some (.ref (b + 0)), some (.int x), some (.int y), none]) (by decide) rfl rfl fun κ Qc hl hQ X => ?_
  subst hl
  refine AW.aload_n X dX11_hidden_0 (i := 0) rfl rfl ?_
  refine AW.iload_n X dX11_hidden_1 (i := 1) rfl rfl ?_
  refine AW.callV X dX11_hidden_2 lX11_123 cfX11 (c_X11_noHouse hR) ox0 rfl rfl rfl rfl ⟨rfl, rfl⟩ (pR_k ?_)
  refine AW.if_eqB X (tgt := 14) dX11_hidden_5 (by decide) (fun h5 => ?_) (fun h5 => ?_)
  · simp only [Bool.not_eq_true', Bool.not_eq_false'] at h5
    obtain ⟨h, hh, eh⟩ := inr_of (x := x) (m := (S.1 6 0 0)) (by omega) h5
    subst eh
    have ch := cl_n (show h < 2147483648 by omega)
    have hVh := tx_h hT hh
    have bnh := hi_n hVh.1
    refine AW.iload_n X dX11_hidden_14 (i := 2) rfl rfl ?_
    refine AW.bipushN X 100 dX11_hidden_15 rfl ?_
    refine AW.callS X dX11_hidden_17 lX11_91 (c_X11_outside) rfl rfl rfl rfl ⟨rfl, rfl⟩ (pR_k ?_)
    refine AW.if_eqB X (tgt := 30) dX11_hidden_20 (by decide) (fun h20 => ?_) (fun h20 => ?_)
    · simp only [Bool.not_eq_true', Bool.not_eq_false'] at h20
      obtain ⟨d, hd, ed⟩ := inr_of (x := y) (m := 100) (by omega) h20
      subst ed
      have cd := cl_n (show d < 2147483648 by omega)
      refine AW.aload_n X dX11_hidden_30 (i := 0) rfl rfl ?_
      refine AW.getR X dX11_hidden_31 fX11_81 rfl ox0 hnow ?_
      refine AW.getR X dX11_hidden_34 fX11_126 rfl (ta_ob hB) (wx_fronts W hB) ?_
      refine AW.iload_n X dX11_hidden_37 (i := 1) rfl rfl ?_
      refine AW.aaload X (r := (B + 4 + 7 * h)) dX11_hidden_38 rfl rfl (ta_f hB) (n2_in (by omega) (by decide)) (by rw [n2_clamp (by omega)]; exact wx_front W hB (by omega)) ?_
      refine AW.astore_n X dX11_hidden_39 (i := 3) rfl rfl ?_
      have p1 := Nat.one_le_two_pow (n := S.1 h 0 2)
      refine AW.iconstN X 1 dX11_hidden_40 rfl ?_
      refine AW.aload_n X dX11_hidden_41 (i := 3) rfl rfl ?_
      refine AW.getI X dX11_hidden_42 fX11_157 rfl (fa_ob (fa_of hB (by omega))) (hv_n (tx_h hT (by omega))) ?_
      refine AW.shl1 X dX11_hidden_45 (by omega) ?_
      refine AW.iconstN X 1 dX11_hidden_46 rfl ?_
      refine AW.isubN X dX11_hidden_47 (by omega) ?_
      refine AW.aload_n X dX11_hidden_48 (i := 0) rfl rfl ?_
      refine AW.getR X dX11_hidden_49 fX11_81 rfl ox0 hnow ?_
      refine AW.aload_n X dX11_hidden_52 (i := 3) rfl rfl ?_
      refine AW.iload_n X dX11_hidden_53 (i := 2) rfl rfl ?_
      refine AW.callV X dX11_hidden_54 lX11_246 cfX9 (c_X9_seenSomewhere W hB hT (fa_of hB (by omega)) (tx_h hT (by omega)) (by omega)) (ta_ob hB) rfl rfl rfl rfl ⟨rfl, rfl⟩ (pR_k ?_)
      refine AW.andNotN X dX11_hidden_57 dX11_hidden_58 dX11_hidden_59 ?_
      refine AW.iret X hQ dX11_hidden_60 ⟨_, rfl, ?_⟩
      refine rx_val ?_ hR
      simp [S_hidden, *]
    · simp only [Bool.not_eq_true', Bool.not_eq_false'] at h20
      refine AW.aload_n X dX11_hidden_23 (i := 0) rfl rfl ?_
      refine AW.bipushN X 6 dX11_hidden_24 rfl ?_
      refine AW.callV X dX11_hidden_26 lX11_95 cfX11 (c_X11_refuse (k := 6) hR (by first | decide | omega)) ox0 rfl rfl rfl rfl ⟨rfl, rfl⟩ (pI_k fun r μ1 hr => ?_)
      refine AW.iret X hQ dX11_hidden_29 ⟨_, rfl, ?_⟩
      refine rx_of ?_ hr
      simp [S_hidden, *]
  · simp only [Bool.not_eq_true', Bool.not_eq_false'] at h5
    refine AW.aload_n X dX11_hidden_8 (i := 0) rfl rfl ?_
    refine AW.iconstN X 1 dX11_hidden_9 rfl ?_
    refine AW.callV X dX11_hidden_10 lX11_95 cfX11 (c_X11_refuse (k := 1) hR (by first | decide | omega)) ox0 rfl rfl rfl rfl ⟨rfl, rfl⟩ (pI_k fun r μ1 hr => ?_)
    refine AW.iret X hQ dX11_hidden_13 ⟨_, rfl, ?_⟩
    refine rx_of ?_ hr
    simp [S_hidden, *]
