/-! what comes of it; in truth -/
def S_lane (S : St) (h g : Int32) : Int32 × St := if inr h (S.1 6 0 0) = false then ref S 1 1000 else if inr g (S.1 6 0 0) = false then ref S 1 1000 else if cl h = cl g then ref S 6 1000
  else (nI (S.1 6 0 2) - nI (deepTo (S.1 (cl h)) 12) - nI (deepTo (S.1 (cl g)) 12), S)
def S_hail (S : St) (h : Int32) : Int32 × St := if inr h 100 = false then ref S 6 0 else (nI (hailS S.1 (cl h) (S.1 6 0 0)), tU S (hailT S.1 (cl h) (S.1 6 0 0)))
def S_scratch (S : St) (h k : Int32) : Int32 × St := if inr h (S.1 6 0 0) = false then ref S 1 0 else if inr k 12 = false then ref S 5 0
  else match upmost (S.1 (cl h)) (cl k) (S.1 (cl h) 0 2) with
  | none => ref S 6 0
  | some c => (nI c, tU S (upH S.1 (cl h) (upV (S.1 (cl h)) 6 (cl k) (S.1 (cl h) 6 (cl k) ||| 2 ^ c))))
def S_falls (S : St) : Int32 × St := (nI (fallB S.1 (S.1 6 0 0)), tU S (fallTo S.1 (S.1 6 0 0)))
def yearsT (τ : Tt) : Nat → Tt
  | 0 => τ
  | i + 1 => yearT (yearsT τ i)
def S_years (S : St) (x : Int32) : Int32 × St := if S.1 6 0 0 = 0 then ref S 5 0 else if x < nI 1 then ref S 6 0 else if nI 40 < x then ref S 6 0
  else (nI (yearsT S.1 (cl x) 6 0 4) - nI (S.1 6 0 4), tU S (yearsT S.1 (cl x)))
def S_seed (S : St) (x : Int32) : Int32 × St := (nI (S.1 6 0 5), tU S (upS S.1 0 5 x.toUInt32.toNat))
theorem yearT_n {τ : Tt} (h : τ 6 0 0 ≤ 6) (h0 : 0 < τ 6 0 0) : yearT τ 6 0 0 = τ 6 0 0 := by
  have hd := dv_lt (s := τ 6 0 5) h0
  have e1 : yr1 τ 6 0 0 = τ 6 0 0 := by rw [yr1, upS_6]; simp
  have e2 : yr2 τ 6 0 0 = τ 6 0 0 := by
    unfold yr2
    split
    · rw [upH_6 (by omega)]; exact e1
    · exact e1
  have e3 : yr3 τ 6 0 0 = τ 6 0 0 := by rw [yr3, upS_6]; simp [e2]
  have e4 : yr4 τ 6 0 0 = τ 6 0 0 := by rw [yr4, hailT_6 _ _ _ (by omega)]; exact e3
  have e5 : yr5 τ 6 0 0 = τ 6 0 0 := by rw [yr5, fallTo_n (by omega)]; exact e4
  rw [yearT, upS_6]; simp [e5]
theorem yearsT_n {τ : Tt} (h : τ 6 0 0 ≤ 6) (h0 : 0 < τ 6 0 0) : ∀ i, yearsT τ i 6 0 0 = τ 6 0 0
  | 0 => rfl
  | i + 1 => by
    have ih := yearsT_n h h0 i
    rw [yearsT, yearT_n (by omega) (by omega), ih]
theorem nI_raw (x : Int32) : nI x.toUInt32.toNat = x := by
  apply Int32.toBitVec_inj.mp
  show BitVec.ofNat 32 x.toBitVec.toNat = x.toBitVec
  simp
theorem upm_ly (V : Vt) (k : Nat) : ∀ i, ly V k i = 0 ↔ upmost V k i = none
  | 0 => by simp [ly, upmost]
  | i + 1 => by
    have ih := upm_ly V k i
    unfold ly upmost
    split
    · simp
    · exact ih
set_option maxRecDepth 100000 in
set_option maxHeartbeats 4000000 in
theorem c_X11_lane {l : Launch} {δ : Dl} {b : Nat} {μ : Mm} {S : St} (hR : RX μ S) {x : Int32} {y : Int32} : MCX l δ b yX11_lane cX11_lane 3 (some .int) 5 [.ref (b + 0), .int x, .int y] μ (pI fun r μ' => r = (S_lane S x y).1 ∧ RX μ' (S_lane S x y).2) := by
  obtain ⟨B, Bd, tb, hnow, hdr, hT⟩ := hR.2.2.1
  have W := rx_w hR
  have ta := two_ta tb
  have hB := ta.1
  have hBd := ta.2.1
  have bn := ti_n hT.1
  refine MC.intro ([some (.ref (b + 0)), some (.int x), some (.int y)]) (by decide) rfl rfl fun κ Qc hl hQ X => ?_
  subst hl
  refine AW.aload_n X dX11_lane_0 (i := 0) rfl rfl ?_
  refine AW.iload_n X dX11_lane_1 (i := 1) rfl rfl ?_
  refine AW.callV X dX11_lane_2 lX11_123 cfX11 (c_X11_noHouse hR) ox0 rfl rfl rfl rfl ⟨rfl, rfl⟩ (pR_k ?_)
  refine AW.if_neB X (tgt := 16) dX11_lane_5 (by decide) (fun h5 => ?_) (fun h5 => ?_)
  · simp only [Bool.not_eq_true', Bool.not_eq_false'] at h5
    refine AW.aload_n X dX11_lane_16 (i := 0) rfl rfl ?_
    refine AW.iconstN X 1 dX11_lane_17 rfl ?_
    refine AW.sipushN X 1000 dX11_lane_18 rfl ?_
    refine AW.callV X dX11_lane_21 lX11_221 cfX11 (c_X11_refuseDown (k := 1) (down := 1000) hR (by decide)) ox0 rfl rfl rfl rfl ⟨rfl, rfl⟩ (pI_k fun r μ1 hr => ?_)
    refine AW.iret X hQ dX11_lane_24 ⟨_, rfl, ?_⟩
    refine rx_of ?_ hr
    simp [S_lane, *]
  · simp only [Bool.not_eq_true', Bool.not_eq_false'] at h5
    obtain ⟨h, hh, eh⟩ := inr_of (x := x) (m := (S.1 6 0 0)) (by omega) h5
    subst eh
    have ch := cl_n (show h < 2147483648 by omega)
    have hVh := tx_h hT hh
    have bnh := hi_n hVh.1
    refine AW.aload_n X dX11_lane_8 (i := 0) rfl rfl ?_
    refine AW.iload_n X dX11_lane_9 (i := 2) rfl rfl ?_
    refine AW.callV X dX11_lane_10 lX11_123 cfX11 (c_X11_noHouse hR) ox0 rfl rfl rfl rfl ⟨rfl, rfl⟩ (pR_k ?_)
    refine AW.if_eqB X (tgt := 25) dX11_lane_13 (by decide) (fun h13 => ?_) (fun h13 => ?_)
    · simp only [Bool.not_eq_true', Bool.not_eq_false'] at h13
      obtain ⟨g, hg, eg⟩ := inr_of (x := y) (m := (S.1 6 0 0)) (by omega) h13
      subst eg
      have cg := cl_n (show g < 2147483648 by omega)
      have hVg := tx_h hT hg
      have bng := hi_n hVg.1
      refine AW.iload_n X dX11_lane_25 (i := 1) rfl rfl ?_
      refine AW.iload_n X dX11_lane_26 (i := 2) rfl rfl ?_
      refine AW.icmp_neN X (tgt := 40) dX11_lane_27 (by decide) (by omega) (by omega) (fun h27 => ?_) (fun h27 => ?_)
      · refine AW.aload_n X dX11_lane_40 (i := 0) rfl rfl ?_
        refine AW.getR X dX11_lane_41 fX11_81 rfl ox0 hnow ?_
        refine AW.getI X dX11_lane_44 fX11_176 rfl (ta_ob hB) (tx_wid hT) ?_
        refine AW.aload_n X dX11_lane_47 (i := 0) rfl rfl ?_
        refine AW.getR X dX11_lane_48 fX11_81 rfl ox0 hnow ?_
        refine AW.getR X dX11_lane_51 fX11_126 rfl (ta_ob hB) (wx_fronts W hB) ?_
        refine AW.iload_n X dX11_lane_54 (i := 1) rfl rfl ?_
        refine AW.aaload X (r := (B + 4 + 7 * h)) dX11_lane_55 rfl rfl (ta_f hB) (n2_in (by omega) (by decide)) (by rw [n2_clamp (by omega)]; exact wx_front W hB (by omega)) ?_
        refine AW.callV X dX11_lane_56 lX11_284 cfX3 (c_X3_greatestDepth W (fa_of hB (by omega)) (tx_h hT (by omega))) (fa_ob (fa_of hB (by omega))) rfl rfl rfl rfl ⟨rfl, rfl⟩ (pR_k ?_)
        refine AW.isub X dX11_lane_59 ?_
        refine AW.aload_n X dX11_lane_60 (i := 0) rfl rfl ?_
        refine AW.getR X dX11_lane_61 fX11_81 rfl ox0 hnow ?_
        refine AW.getR X dX11_lane_64 fX11_126 rfl (ta_ob hB) (wx_fronts W hB) ?_
        refine AW.iload_n X dX11_lane_67 (i := 2) rfl rfl ?_
        refine AW.aaload X (r := (B + 4 + 7 * g)) dX11_lane_68 rfl rfl (ta_f hB) (n2_in (by omega) (by decide)) (by rw [n2_clamp (by omega)]; exact wx_front W hB (by omega)) ?_
        refine AW.callV X dX11_lane_69 lX11_284 cfX3 (c_X3_greatestDepth W (fa_of hB (by omega)) (tx_h hT (by omega))) (fa_ob (fa_of hB (by omega))) rfl rfl rfl rfl ⟨rfl, rfl⟩ (pR_k ?_)
        refine AW.isub X dX11_lane_72 ?_
        refine AW.iret X hQ dX11_lane_73 ⟨_, rfl, ?_⟩
        refine rx_val ?_ hR
        simp [S_lane, *]
      · refine AW.aload_n X dX11_lane_30 (i := 0) rfl rfl ?_
        refine AW.bipushN X 6 dX11_lane_31 rfl ?_
        refine AW.sipushN X 1000 dX11_lane_33 rfl ?_
        refine AW.callV X dX11_lane_36 lX11_221 cfX11 (c_X11_refuseDown (k := 6) (down := 1000) hR (by decide)) ox0 rfl rfl rfl rfl ⟨rfl, rfl⟩ (pI_k fun r μ1 hr => ?_)
        refine AW.iret X hQ dX11_lane_39 ⟨_, rfl, ?_⟩
        refine rx_of ?_ hr
        simp [S_lane, *]
    · simp only [Bool.not_eq_true', Bool.not_eq_false'] at h13
      refine AW.aload_n X dX11_lane_16 (i := 0) rfl rfl ?_
      refine AW.iconstN X 1 dX11_lane_17 rfl ?_
      refine AW.sipushN X 1000 dX11_lane_18 rfl ?_
      refine AW.callV X dX11_lane_21 lX11_221 cfX11 (c_X11_refuseDown (k := 1) (down := 1000) hR (by decide)) ox0 rfl rfl rfl rfl ⟨rfl, rfl⟩ (pI_k fun r μ1 hr => ?_)
      refine AW.iret X hQ dX11_lane_24 ⟨_, rfl, ?_⟩
      refine rx_of ?_ hr
      simp [S_lane, *]
set_option maxRecDepth 100000 in
set_option maxHeartbeats 4000000 in
theorem c_X11_hail {l : Launch} {δ : Dl} {b : Nat} {μ : Mm} {S : St} (hR : RX μ S) {x : Int32} : MCX l δ b yX11_hail cX11_hail 2 (some .int) 6 [.ref (b + 0), .int x] μ (pI fun r μ' => r = (S_hail S x).1 ∧ RX μ' (S_hail S x).2) := by
  obtain ⟨B, Bd, tb, hnow, hdr, hT⟩ := hR.2.2.1
  have W := rx_w hR
  have ta := two_ta tb
  have hB := ta.1
  have hBd := ta.2.1
  have bn := ti_n hT.1
  refine MC.intro ([some (.ref (b + 0)), some (.int x)]) (by decide) rfl rfl fun κ Qc hl hQ X => ?_
  subst hl
  refine AW.iload_n X dX11_hail_0 (i := 1) rfl rfl ?_
  refine AW.bipushN X 100 dX11_hail_1 rfl ?_
  refine AW.callS X dX11_hail_3 lX11_91 (c_X11_outside) rfl rfl rfl rfl ⟨rfl, rfl⟩ (pR_k ?_)
  refine AW.if_eqB X (tgt := 16) dX11_hail_6 (by decide) (fun h6 => ?_) (fun h6 => ?_)
  · simp only [Bool.not_eq_true', Bool.not_eq_false'] at h6
    obtain ⟨h, hh, eh⟩ := inr_of (x := x) (m := 100) (by omega) h6
    subst eh
    have ch := cl_n (show h < 2147483648 by omega)
    refine AW.aload_n X dX11_hail_16 (i := 0) rfl rfl ?_
    refine AW.getR X dX11_hail_17 fX11_81 rfl ox0 hnow ?_
    refine AW.iload_n X dX11_hail_20 (i := 1) rfl rfl ?_
    refine AW.callV X dX11_hail_21 lX11_287 cfX9 (c_X9_hailOnAll W hB hT (by omega)) (ta_ob hB) rfl rfl rfl rfl ⟨rfl, rfl⟩ (pI_k fun r2 μ2 hp => ?_)
    refine AW.iret X hQ dX11_hail_24 ⟨_, rfl, ?_⟩
    obtain ⟨rfl, hT2, hs2⟩ := hp
    exact rx_val (by simp [S_hail, *]) (rx_town hR tb hnow hdr hs2.same (wx_same W hs2) hT2 (by rw [hailT_6 _ _ _ bn]; exact Nat.le_refl _))
  · simp only [Bool.not_eq_true', Bool.not_eq_false'] at h6
    refine AW.aload_n X dX11_hail_9 (i := 0) rfl rfl ?_
    refine AW.bipushN X 6 dX11_hail_10 rfl ?_
    refine AW.callV X dX11_hail_12 lX11_95 cfX11 (c_X11_refuse (k := 6) hR (by first | decide | omega)) ox0 rfl rfl rfl rfl ⟨rfl, rfl⟩ (pI_k fun r μ1 hr => ?_)
    refine AW.iret X hQ dX11_hail_15 ⟨_, rfl, ?_⟩
    refine rx_of ?_ hr
    simp [S_hail, *]
set_option maxRecDepth 100000 in
set_option maxHeartbeats 4000000 in
theorem c_X11_falls {l : Launch} {δ : Dl} {b : Nat} {μ : Mm} {S : St} (hR : RX μ S)  : MCX l δ b yX11_falls cX11_falls 1 (some .int) 6 [.ref (b + 0)] μ (pI fun r μ' => r = (S_falls S ).1 ∧ RX μ' (S_falls S ).2) := by
  obtain ⟨B, Bd, tb, hnow, hdr, hT⟩ := hR.2.2.1
  have W := rx_w hR
  have ta := two_ta tb
  have hB := ta.1
  have hBd := ta.2.1
  have bn := ti_n hT.1
  refine MC.intro ([some (.ref (b + 0))]) (by decide) rfl rfl fun κ Qc hl hQ X => ?_
  subst hl
  refine AW.aload_n X dX11_falls_0 (i := 0) rfl rfl ?_
  refine AW.getR X dX11_falls_1 fX11_81 rfl ox0 hnow ?_
  refine AW.callV X dX11_falls_4 lX11_293 cfX9 (c_X9_letFall W hB hT) (ta_ob hB) rfl rfl rfl rfl ⟨rfl, rfl⟩ (pI_k fun r2 μ2 hp => ?_)
  refine AW.iret X hQ dX11_falls_7 ⟨_, rfl, ?_⟩
  obtain ⟨rfl, hT2, hs2⟩ := hp
  exact rx_val (by simp [S_falls]) (rx_town hR tb hnow hdr hs2.same (wx_same W hs2) hT2 (by rw [fallTo_n bn]; exact Nat.le_refl _))
set_option maxRecDepth 100000 in
set_option maxHeartbeats 4000000 in
theorem c_X11_seed {l : Launch} {δ : Dl} {b : Nat} {μ : Mm} {S : St} (hR : RX μ S) {x : Int32} : MCX l δ b yX11_seed cX11_seed 3 (some .int) 1 [.ref (b + 0), .int x] μ (pI fun r μ' => r = (S_seed S x).1 ∧ RX μ' (S_seed S x).2) := by
  obtain ⟨B, Bd, tb, hnow, hdr, hT⟩ := hR.2.2.1
  have W := rx_w hR
  have ta := two_ta tb
  have hB := ta.1
  have hBd := ta.2.1
  have bn := ti_n hT.1
  refine MC.intro ([some (.ref (b + 0)), some (.int x), none]) (by decide) rfl rfl fun κ Qc hl hQ X => ?_
  subst hl
  refine AW.aload_n X dX11_seed_0 (i := 0) rfl rfl ?_
  refine AW.getR X dX11_seed_1 fX11_81 rfl ox0 hnow ?_
  refine AW.getI X dX11_seed_4 fX11_302 rfl (ta_ob hB) (tx_seed hT) ?_
  refine AW.istore_n X dX11_seed_7 (i := 2) rfl rfl ?_
  refine AW.aload_n X dX11_seed_8 (i := 0) rfl rfl ?_
  refine AW.getR X dX11_seed_9 fX11_81 rfl ox0 hnow ?_
  refine AW.iload_n X dX11_seed_12 (i := 1) rfl rfl ?_
  refine AW.putI X dX11_seed_13 fX11_302 rfl rfl ⟨rfl, rfl⟩ (by decide) (ta_ob hB) ?_
  refine AW.iload_n X dX11_seed_16 (i := 2) rfl rfl ?_
  refine AW.iret X hQ dX11_seed_17 ⟨_, rfl, ?_⟩
  have f := tx_num hT 5 x.toUInt32.toNat (by decide) (by decide)
  rw [nI_raw] at f
  exact rx_val (by simp [S_seed]) (rx_town hR tb hnow hdr (SameI.wI (show TR B B from ⟨by omega, by omega⟩)).same W f (by rw [upS_6]; simp))
set_option maxRecDepth 100000 in
set_option maxHeartbeats 4000000 in
theorem c_X11_scratch {l : Launch} {δ : Dl} {b : Nat} {μ : Mm} {S : St} (hR : RX μ S) {x : Int32} {y : Int32} : MCX l δ b yX11_scratch cX11_scratch 4 (some .int) 3 [.ref (b + 0), .int x, .int y] μ (pI fun r μ' => r = (S_scratch S x y).1 ∧ RX μ' (S_scratch S x y).2) := by
  obtain ⟨B, Bd, tb, hnow, hdr, hT⟩ := hR.2.2.1
  have W := rx_w hR
  have ta := two_ta tb
  have hB := ta.1
  have hBd := ta.2.1
  have bn := ti_n hT.1
  refine MC.intro ([some (.ref (b + 0)), some (.int x), some (.int y), none]) (by decide) rfl rfl fun κ Qc hl hQ X => ?_
  subst hl
  refine AW.aload_n X dX11_scratch_0 (i := 0) rfl rfl ?_
  refine AW.iload_n X dX11_scratch_1 (i := 1) rfl rfl ?_
  refine AW.callV X dX11_scratch_2 lX11_123 cfX11 (c_X11_noHouse hR) ox0 rfl rfl rfl rfl ⟨rfl, rfl⟩ (pR_k ?_)
  refine AW.if_eqB X (tgt := 14) dX11_scratch_5 (by decide) (fun h5 => ?_) (fun h5 => ?_)
  · simp only [Bool.not_eq_true', Bool.not_eq_false'] at h5
    obtain ⟨h, hh, eh⟩ := inr_of (x := x) (m := (S.1 6 0 0)) (by omega) h5
    subst eh
    have ch := cl_n (show h < 2147483648 by omega)
    have hVh := tx_h hT hh
    have bnh := hi_n hVh.1
    refine AW.iload_n X dX11_scratch_14 (i := 2) rfl rfl ?_
    refine AW.bipushN X 12 dX11_scratch_15 rfl ?_
    refine AW.callS X dX11_scratch_17 lX11_91 (c_X11_outside) rfl rfl rfl rfl ⟨rfl, rfl⟩ (pR_k ?_)
    refine AW.if_eqB X (tgt := 29) dX11_scratch_20 (by decide) (fun h20 => ?_) (fun h20 => ?_)
    · simp only [Bool.not_eq_true', Bool.not_eq_false'] at h20
      obtain ⟨k, hk, ek⟩ := inr_of (x := y) (m := 12) (by omega) h20
      subst ek
      have ck := cl_n (show k < 2147483648 by omega)
      refine AW.aload_n X dX11_scratch_29 (i := 0) rfl rfl ?_
      refine AW.getR X dX11_scratch_30 fX11_81 rfl ox0 hnow ?_
      refine AW.getR X dX11_scratch_33 fX11_126 rfl (ta_ob hB) (wx_fronts W hB) ?_
      refine AW.iload_n X dX11_scratch_36 (i := 1) rfl rfl ?_
      refine AW.aaload X (r := (B + 4 + 7 * h)) dX11_scratch_37 rfl rfl (ta_f hB) (n2_in (by omega) (by decide)) (by rw [n2_clamp (by omega)]; exact wx_front W hB (by omega)) ?_
      refine AW.astore_n X dX11_scratch_38 (i := 3) rfl rfl ?_
      refine AW.aload_n X dX11_scratch_39 (i := 3) rfl rfl ?_
      refine AW.iload_n X dX11_scratch_40 (i := 2) rfl rfl ?_
      refine AW.callV X dX11_scratch_41 lX11_224 cfX3 (c_X3_lyingIn W (fa_of hB (by omega)) (tx_h hT (by omega)) (by omega)) (fa_ob (fa_of hB (by omega))) rfl rfl rfl rfl ⟨rfl, rfl⟩ (pR_k ?_)
      have by_ := lyN hVh.1 k
      refine AW.if_neN X (tgt := 54) dX11_scratch_44 (by decide) (by omega) (fun h44 => ?_) (fun h44 => ?_)
      · refine AW.aload_n X dX11_scratch_54 (i := 3) rfl rfl ?_
        refine AW.iload_n X dX11_scratch_55 (i := 2) rfl rfl ?_
        refine AW.callV X dX11_scratch_56 lX11_290 cfX3 (c_X3_takeUppermost W (fa_of hB (by omega)) hVh hk) (fa_ob (fa_of hB (by omega))) rfl rfl rfl rfl ⟨rfl, rfl⟩ (pI_k fun r2 μ2 hp => ?_)
        refine AW.iret X hQ dX11_scratch_59 ⟨_, rfl, ?_⟩
        rcases hx56 : upmost (S.1 h) k (S.1 h 0 2) with _ | c
        · rw [hx56] at hp
          obtain ⟨rfl, rfl⟩ := hp
          exact absurd ((upm_ly _ _ _).mpr hx56) h44
        · rw [hx56] at hp
          obtain ⟨rfl, rfl⟩ := hp
          have b9 := upmost_lt hx56
          have f := tx_house hT (by omega) (SameI.wI (show FR (B + 4 + 7 * h) (B + 4 + 7 * h + 6) from ⟨by omega, by omega⟩)).same (hv_gone hVh (k := k) (x := S.1 h 6 k ||| 2 ^ c) (or_lt8 (hi_go hVh.1 hk) (pow_lt8 (by omega))))
          exact rx_val (by simp [S_scratch, *]) (rx_town hR tb hnow hdr ((SameI.wI (show FR (B + 4 + 7 * h) (B + 4 + 7 * h + 6) from ⟨by omega, by omega⟩)).mono (fr_tr (by omega))).same W f (by rw [upH_n (by omega)]; exact Nat.le_refl _))
      · have g44 := (upm_ly (S.1 h) k (S.1 h 0 2)).mp h44
        refine AW.aload_n X dX11_scratch_47 (i := 0) rfl rfl ?_
        refine AW.bipushN X 6 dX11_scratch_48 rfl ?_
        refine AW.callV X dX11_scratch_50 lX11_95 cfX11 (c_X11_refuse (k := 6) hR (by first | decide | omega)) ox0 rfl rfl rfl rfl ⟨rfl, rfl⟩ (pI_k fun r μ1 hr => ?_)
        refine AW.iret X hQ dX11_scratch_53 ⟨_, rfl, ?_⟩
        refine rx_of ?_ hr
        simp [S_scratch, *]
    · simp only [Bool.not_eq_true', Bool.not_eq_false'] at h20
      refine AW.aload_n X dX11_scratch_23 (i := 0) rfl rfl ?_
      refine AW.iconstN X 5 dX11_scratch_24 rfl ?_
      refine AW.callV X dX11_scratch_25 lX11_95 cfX11 (c_X11_refuse (k := 5) hR (by first | decide | omega)) ox0 rfl rfl rfl rfl ⟨rfl, rfl⟩ (pI_k fun r μ1 hr => ?_)
      refine AW.iret X hQ dX11_scratch_28 ⟨_, rfl, ?_⟩
      refine rx_of ?_ hr
      simp [S_scratch, *]
  · simp only [Bool.not_eq_true', Bool.not_eq_false'] at h5
    refine AW.aload_n X dX11_scratch_8 (i := 0) rfl rfl ?_
    refine AW.iconstN X 1 dX11_scratch_9 rfl ?_
    refine AW.callV X dX11_scratch_10 lX11_95 cfX11 (c_X11_refuse (k := 1) hR (by first | decide | omega)) ox0 rfl rfl rfl rfl ⟨rfl, rfl⟩ (pI_k fun r μ1 hr => ?_)
    refine AW.iret X hQ dX11_scratch_13 ⟨_, rfl, ?_⟩
    refine rx_of ?_ hr
    simp [S_scratch, *]
set_option maxRecDepth 100000 in
set_option maxHeartbeats 4000000 in
theorem c_X11_years {l : Launch} {δ : Dl} {b : Nat} {μ : Mm} {S : St} (hR : RX μ S) {x : Int32} : MCX l δ b yX11_years cX11_years 4 (some .int) 7 [.ref (b + 0), .int x] μ (pI fun r μ' => r = (S_years S x).1 ∧ RX μ' (S_years S x).2) := by
  obtain ⟨B, Bd, tb, hnow, hdr, hT⟩ := hR.2.2.1
  have W := rx_w hR
  have ta := two_ta tb
  have hB := ta.1
  have hBd := ta.2.1
  have bn := ti_n hT.1
  refine MC.intro ([some (.ref (b + 0)), some (.int x), none, none]) (by decide) rfl rfl fun κ Qc hl hQ X => ?_
  subst hl
  refine AW.aload_n X dX11_years_0 (i := 0) rfl rfl ?_
  refine AW.getR X dX11_years_1 fX11_81 rfl ox0 hnow ?_
  refine AW.getI X dX11_years_4 fX11_144 rfl (ta_ob hB) (tx_n hT) ?_
  refine AW.if_neN X (tgt := 16) dX11_years_7 (by decide) (by omega) (fun h7 => ?_) (fun h7 => ?_)
  · have g7 : ¬ S.1 6 0 0 = 0 := h7
    refine AW.iload_n X dX11_years_16 (i := 1) rfl rfl ?_
    refine AW.iconstN X 1 dX11_years_17 rfl ?_
    refine AW.icmp_lt X (tgt := 27) dX11_years_18 (by decide) (fun h18 => ?_) (fun h18 => ?_)
    · refine AW.aload_n X dX11_years_27 (i := 0) rfl rfl ?_
      refine AW.bipushN X 6 dX11_years_28 rfl ?_
      refine AW.callV X dX11_years_30 lX11_95 cfX11 (c_X11_refuse (k := 6) hR (by first | decide | omega)) ox0 rfl rfl rfl rfl ⟨rfl, rfl⟩ (pI_k fun r μ1 hr => ?_)
      refine AW.iret X hQ dX11_years_33 ⟨_, rfl, ?_⟩
      refine rx_of ?_ hr
      simp [S_years, *]
    · obtain ⟨a, ha, ea, la⟩ := ge_of (by decide) h18
      subst ea
      have ca := cl_n (show a < 2147483648 by omega)
      refine AW.iload_n X dX11_years_21 (i := 1) rfl rfl ?_
      refine AW.bipushN X 40 dX11_years_22 rfl ?_
      refine AW.icmp_leN X (tgt := 34) dX11_years_24 (by decide) (by omega) (by omega) (fun h24 => ?_) (fun h24 => ?_)
      · have g24 : ¬ nI 40 < nI a := by rw [n2_lt (by decide) (by omega)]; omega
        have n24 := Nat.not_lt_of_le h24
        refine AW.aload_n X dX11_years_34 (i := 0) rfl rfl ?_
        refine AW.getR X dX11_years_35 fX11_81 rfl ox0 hnow ?_
        refine AW.getI X dX11_years_38 fX11_296 rfl (ta_ob hB) (tx_fal hT) ?_
        refine AW.istore_n X dX11_years_41 (i := 2) rfl rfl ?_
        refine AW.iconstN X 0 dX11_years_42 rfl ?_
        refine AW.istore_n X dX11_years_43 (i := 3) rfl rfl ?_
        have L44 : ∀ (m44 i : Nat) (μc : Mm), a - i < m44 → i ≤ a → (TX μc B (yearsT S.1 i)) → (SameI (TR B) μ μc) → AW κ (δ, b, NX, 4, shX, False, Qc, 0, 0) NX 0 0 44 [some (.ref (b + 0)), some (.int (nI a)), some (.int (nI (S.1 6 0 4))), some (.int (nI i))] [] μc := by
          intro m44
          induction m44 with
          | zero => intro i μc hm; exact absurd hm (Nat.not_lt_zero _)
          | succ m44 ih44 =>
            intro i μc hm44 hi44 hTc hsc
            have hnow9 := hnow
            have hnow : μc.2.2 0 7 = some B := by rw [hsc.2]; exact hnow9
            have Wc := wx_same W hsc
            have yn := yearsT_n bn (by omega) i
            refine AW.iload_n X dX11_years_44 (i := 3) rfl rfl ?_
            refine AW.iload_n X dX11_years_45 (i := 1) rfl rfl ?_
            refine AW.icmp_geN X (tgt := 62) dX11_years_46 (by decide) (by omega) (by omega) (fun h46 => ?_) (fun h46 => ?_)
            · obtain rfl : i = a := by omega
              have n46 := Nat.not_lt_of_le h46
              refine AW.aload_n X dX11_years_62 (i := 0) rfl rfl ?_
              refine AW.getR X dX11_years_63 fX11_81 rfl ox0 hnow ?_
              refine AW.getI X dX11_years_66 fX11_296 rfl (ta_ob hB) (v := (nI (yearsT S.1 i 6 0 4))) (tx_fal hTc) ?_
              refine AW.iload_n X dX11_years_69 (i := 2) rfl rfl ?_
              refine AW.isub X dX11_years_70 ?_
              refine AW.iret X hQ dX11_years_71 ⟨_, rfl, ?_⟩
              exact rx_val (by simp [S_years, *]) (rx_town hR tb hnow9 hdr hsc.same Wc hTc (by omega))
            · have n46 := Nat.not_le_of_lt h46
              refine AW.aload_n X dX11_years_49 (i := 0) rfl rfl ?_
              refine AW.getR X dX11_years_50 fX11_81 rfl ox0 hnow ?_
              refine AW.callV X dX11_years_53 lX11_299 cfX9 (c_X9_passYear (wx_same W hsc) hB hTc (by omega)) (ta_ob hB) rfl rfl rfl rfl ⟨rfl, rfl⟩ (pV_k fun μ2 hp => ?_)
              refine AW.iincN X (c := (i + 1)) dX11_years_56 rfl (inc_1 _) rfl ?_
              refine AW.goto X (tgt := 44) dX11_years_59 (by decide) ?_
              refine AW.cgw (ih44 (i + 1) μ2 (by omega) (by omega) hp.1 (hsc.tr hp.2)) ⟨rfl, rfl, rfl, rfl, trivial⟩
        refine AW.cgw (L44 _ 0 μ (Nat.lt_succ_self _) (by omega) hT SameI.rf) ⟨rfl, rfl, rfl, rfl, trivial⟩
      · have g24 : nI 40 < nI a := (n2_lt (by decide) (by omega)).mpr (by omega)
        have n24 := Nat.not_le_of_lt h24
        refine AW.aload_n X dX11_years_27 (i := 0) rfl rfl ?_
        refine AW.bipushN X 6 dX11_years_28 rfl ?_
        refine AW.callV X dX11_years_30 lX11_95 cfX11 (c_X11_refuse (k := 6) hR (by first | decide | omega)) ox0 rfl rfl rfl rfl ⟨rfl, rfl⟩ (pI_k fun r μ1 hr => ?_)
        refine AW.iret X hQ dX11_years_33 ⟨_, rfl, ?_⟩
        refine rx_of ?_ hr
        simp [S_years, *]
  · refine AW.aload_n X dX11_years_10 (i := 0) rfl rfl ?_
    refine AW.iconstN X 5 dX11_years_11 rfl ?_
    refine AW.callV X dX11_years_12 lX11_95 cfX11 (c_X11_refuse (k := 5) hR (by first | decide | omega)) ox0 rfl rfl rfl rfl ⟨rfl, rfl⟩ (pI_k fun r μ1 hr => ?_)
    refine AW.iret X hQ dX11_years_15 ⟨_, rfl, ?_⟩
    refine rx_of ?_ hr
    simp [S_years, *]
