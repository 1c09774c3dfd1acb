theorem maxd_e : ∀ a, a < 10 → ∀ x, x < 100 → (if nI 0 < nI x - nI a then nI x - nI a else nI 0) = nI (x - a) := by decide +kernel
theorem nI_prd {x : Nat} (h : 0 < x) : nI x + (-1) = nI (x - 1) := by
  obtain ⟨k, rfl⟩ : ∃ k, x = k + 1 := ⟨x - 1, by omega⟩
  exact dec_1 k
section MOR
variable {κ : Kt} {δ : Dl} {b n nL : Nat} {sh : Sh} {tp : Prop} {Qc : Array Value → State → Outcome → State → Prop} {mc ms d : Nat} {own nm : String} {cc : ByteArray} {ret : Option FieldType} {N cells slots pc : Nat} {ls : List (Option Value)} {st : List Value} {μ : Mm}
theorem AW.maxD (X : CX κ (δ, b, n, nL, sh, tp, Qc, mc, ms) own nm cc ret d) {idx a x : Nat} (hd : decode cc pc = .ok (.invokestatic idx, 3)) (ha : a < 10) (hx : x < 100) (L : LMax own idx) (hr : Nat.ble (st.map fun v => v.category).sum 8 = true ∧ Nat.ble 1 d = true ∧ Nat.ble cells mc = true ∧ Nat.ble slots ms = true) (k : AW κ (δ, b, n, nL, sh, tp, Qc, mc, ms) N cells slots (pc + 3) ls (.int (nI (x - a)) :: st) μ) : AW κ (δ, b, n, nL, sh, tp, Qc, mc, ms) N cells slots pc ls (.int (nI x - nI a) :: .int (nI 0) :: st) μ := by
  obtain ⟨p, l, e, R, s, m, args, below, meth, c9⟩ := κ
  intro H locs lsr hP hT hS h
  obtain ⟨x1, x2, x3, x4, hts, x6, x7, x8, hK, hKS, hR⟩ := X
  obtain ⟨l1, l2, l3, l4⟩ := L
  subst hR
  obtain ⟨r1, r2, r3, r4⟩ := hr
  have r1 := Nat.le_of_ble_eq_true r1
  have r2 := Nat.le_of_ble_eq_true r2
  refine va_mmax x1 x2 (x3.trans h.1.symm) x4 (hts _ l1) (hts _ l2) (hts _ l3) (hts _ l4) r2 (by show _ + 13 ≤ 64 * d; omega) (Nat.le_of_ble_eq_true r3) (Nat.le_of_ble_eq_true r4) hd ?_
  rw [maxd_e a ha x hx]
  exact k H locs lsr hP hT hS h
end MOR
def win (x lo hi : Int32) : Bool := decide (¬ x < lo ∧ ¬ hi < x)
theorem win_inr {x : Int32} {m : Nat} (hm : m < 100000) : win x (nI 0) (dn m) = inr x m := by
  unfold win inr
  refine decide_eq_decide.mpr ⟨fun h => ⟨Int32.not_lt.mp h.1, ?_⟩, fun h => ⟨Int32.not_lt.mpr h.1, ?_⟩⟩
  · obtain ⟨j, hj, rfl⟩ := nI_of (x := x) h.1
    have h2 := Int32.not_lt.mp h.2
    by_cases q : j < 1000000
    · rw [n2_lt hj (by omega)]
      have := (dn_ge (by omega) q).mp h2
      omega
    · exfalso
      have h3 : nI 999999 < nI j := (n2_lt (by decide) hj).mpr (by omega)
      have h4 := (dn_lt (a := m) (c := 999999) (by omega) (by omega)).mpr (by omega)
      have h5 := Int32.lt_of_lt_of_le h3 h2
      exact absurd (Int32.lt_trans h4 h5) (Int32.lt_irrefl)
  · have h1 := h.1
    obtain ⟨j, hj, rfl⟩ := nI_of (x := x) (Int32.not_lt.mpr h1)
    have h2 := (n2_lt hj (by omega)).mp h.2
    exact Int32.not_lt.mpr ((dn_ge (by omega) (by omega)).mpr (by omega))
set_option maxRecDepth 100000 in
set_option maxHeartbeats 4000000 in
theorem c_X12_within {l : Launch} {δ : Dl} {b : Nat} {μ : Mm} {x lo hi : Int32} : MCM l δ b yX12_within cX12_within 3 (some .boolean) 1 [.int x, .int lo, .int hi] μ (pI fun r μ' => r = bI (win x lo hi) ∧ μ' = μ) := by
  refine MC.intro ([some (.int x), some (.int lo), some (.int hi)]) (by decide) rfl rfl fun κ Qc hl hQ X => ?_
  subst hl
  refine AW.iload_n X dX12_within_0 (i := 0) rfl rfl ?_
  refine AW.iload_n X dX12_within_1 (i := 1) rfl rfl ?_
  refine AW.icmp_lt X (tgt := 14) dX12_within_2 (by decide) (fun h2 => ?_) (fun h2 => ?_)
  · refine AW.iconstN X 0 dX12_within_14 rfl ?_
    refine AW.zret X rfl hQ dX12_within_15 ⟨_, rfl, ?_⟩
    have e : win x lo hi = false := by simp [win, *]
    exact ⟨by rw [e]; rfl, rfl⟩
  · refine AW.iload_n X dX12_within_5 (i := 0) rfl rfl ?_
    refine AW.iload_n X dX12_within_6 (i := 2) rfl rfl ?_
    refine AW.icmp_gt X (tgt := 14) dX12_within_7 (by decide) (fun h7 => ?_) (fun h7 => ?_)
    · refine AW.iconstN X 0 dX12_within_14 rfl ?_
      refine AW.zret X rfl hQ dX12_within_15 ⟨_, rfl, ?_⟩
      have e : win x lo hi = false := by simp [win, *]
      exact ⟨by rw [e]; rfl, rfl⟩
    · refine AW.iconstN X 1 dX12_within_10 rfl ?_
      refine AW.goto X (tgt := 15) dX12_within_11 (by decide) ?_
      refine AW.zret X rfl hQ dX12_within_15 ⟨_, rfl, ?_⟩
      have e : win x lo hi = true := by simp [win, *]
      exact ⟨by rw [e]; rfl, rfl⟩
theorem c_within {l : Launch} {δ : Dl} {b : Nat} {μ : Mm} {x : Int32} {m : Nat} {hi : Int32} (hh : hi = dn m) (hm : m < 100000) : MCM l δ b yX12_within cX12_within 3 (some .boolean) 1 [.int x, .int (nI 0), .int hi] μ (pI fun r μ' => r = bI (inr x m) ∧ μ' = μ) := by
  subst hh
  rw [← win_inr hm]
  exact c_X12_within
set_option maxRecDepth 100000 in
set_option maxHeartbeats 4000000 in
theorem c_X12_has {l : Launch} {δ : Dl} {b : Nat} {μ : Mm} {a i : Nat} (ha : a < 2147483648) (hi : i < 31) : MCM l δ b yX12_has cX12_has 2 (some .boolean) 1 [.int (nI a), .int (nI i)] μ (pI fun r μ' => r = bI (a.testBit i) ∧ μ' = μ) := by
  refine MC.intro ([some (.int (nI a)), some (.int (nI i))]) (by decide) rfl rfl fun κ Qc hl hQ X => ?_
  subst hl
  refine AW.iload_n X dX12_has_0 (i := 0) rfl rfl ?_
  refine AW.iload_n X dX12_has_1 (i := 1) rfl rfl ?_
  refine AW.hasN X dX12_has_2 dX12_has_3 dX12_has_4 (by omega) (by omega) ?_
  refine AW.iconstN X 1 dX12_has_5 rfl ?_
  refine AW.icmp_neB X (tgt := 13) dX12_has_6 (by decide) (fun h6 => ?_) (fun h6 => ?_)
  · refine AW.iconstN X 0 dX12_has_13 rfl ?_
    refine AW.zret X rfl hQ dX12_has_14 ⟨_, rfl, ?_⟩
    exact ⟨by rw [h6]; rfl, rfl⟩
  · refine AW.iconstN X 1 dX12_has_9 rfl ?_
    refine AW.goto X (tgt := 14) dX12_has_10 (by decide) ?_
    refine AW.zret X rfl hQ dX12_has_14 ⟨_, rfl, ?_⟩
    exact ⟨by rw [h6]; rfl, rfl⟩
set_option maxRecDepth 100000 in
set_option maxHeartbeats 4000000 in
theorem c_X12_isHouse {l : Launch} {δ : Dl} {b : Nat} {μ : Mm} (W : WM μ.2.2) {τ : Tt} (hT : TMX μ τ) {x : Int32} : MCM l δ b yX12_isHouse cX12_isHouse 2 (some .boolean) 2 [.ref (b + 0), .int x] μ (pI fun r μ' => r = bI (inr x (τ 6 0 0)) ∧ μ' = μ) := by
  have bn := ti_n hT.1
  refine MC.intro ([some (.ref (b + 0)), some (.int x)]) (by decide) rfl rfl fun κ Qc hl hQ X => ?_
  subst hl
  refine AW.iload_n X dX12_isHouse_0 (i := 1) rfl rfl ?_
  refine AW.iconstN X 0 dX12_isHouse_1 rfl ?_
  refine AW.aload_n X dX12_isHouse_2 (i := 0) rfl rfl ?_
  refine AW.getI X dX12_isHouse_3 fX12_87 rfl om0 (tm_0 hT) ?_
  refine AW.iconstN X 1 dX12_isHouse_6 rfl ?_
  refine AW.isub X dX12_isHouse_7 ?_
  refine AW.callS X dX12_isHouse_8 lX12_90 (c_within (dn_sub _) (by omega)) rfl rfl rfl rfl ⟨rfl, rfl⟩ (pR_k ?_)
  refine AW.zret X (bI_n _) hQ dX12_isHouse_11 ⟨_, rfl, ?_⟩
  exact ⟨rfl, rfl⟩
set_option maxRecDepth 100000 in
set_option maxHeartbeats 4000000 in
theorem c_X12_isCoat {l : Launch} {δ : Dl} {b : Nat} {μ : Mm} (W : WM μ.2.2) {τ : Tt} (hT : TMX μ τ) {x y : Int32} : MCM l δ b yX12_isCoat cX12_isCoat 3 (some .boolean) 3 [.ref (b + 0), .int x, .int y] μ (pI fun r μ' => r = bI (inr x (τ 6 0 0) && inr y (τ (cl x) 0 2)) ∧ μ' = μ) := by
  have bn := ti_n hT.1
  refine MC.intro ([some (.ref (b + 0)), some (.int x), some (.int y)]) (by decide) rfl rfl fun κ Qc hl hQ X => ?_
  subst hl
  refine AW.aload_n X dX12_isCoat_0 (i := 0) rfl rfl ?_
  refine AW.iload_n X dX12_isCoat_1 (i := 1) rfl rfl ?_
  refine AW.callV X dX12_isCoat_2 lX12_94 cfX12 (c_X12_isHouse W hT) om0 rfl rfl rfl rfl ⟨rfl, rfl⟩ (pR_k ?_)
  refine AW.if_eqB X (tgt := 28) dX12_isCoat_5 (by decide) (fun h5 => ?_) (fun h5 => ?_)
  · refine AW.iconstN X 0 dX12_isCoat_28 rfl ?_
    refine AW.zret X rfl hQ dX12_isCoat_29 ⟨_, rfl, ?_⟩
    have e : (inr x (τ 6 0 0) && inr y (τ (cl x) 0 2)) = false := by simp [*]
    exact ⟨by rw [e]; rfl, rfl⟩
  · obtain ⟨h, hh, eh⟩ := inr_of (x := x) (m := (τ 6 0 0)) (by omega) h5
    subst eh
    have hI := tm_hi hT hh
    have bc := hi_n hI
    have chh := cl_n (show h < 2147483648 by omega)
    refine AW.iload_n X dX12_isCoat_8 (i := 2) rfl rfl ?_
    refine AW.iconstN X 0 dX12_isCoat_9 rfl ?_
    refine AW.aload_n X dX12_isCoat_10 (i := 0) rfl rfl ?_
    refine AW.getR X dX12_isCoat_11 fX12_26 rfl om0 (wm_at W 5 rfl) ?_
    refine AW.iload_n X dX12_isCoat_14 (i := 1) rfl rfl ?_
    refine AW.iaload X dX12_isCoat_15 (am_at 5 rfl) (n2_in (by omega) (by decide)) (v := (nI (τ h 0 2))) (by rw [n2_clamp (by omega)]; exact tm_n hT (by omega)) ?_
    refine AW.iconstN X 1 dX12_isCoat_16 rfl ?_
    refine AW.isub X dX12_isCoat_17 ?_
    refine AW.callS X dX12_isCoat_18 lX12_90 (c_within (dn_sub _) (by omega)) rfl rfl rfl rfl ⟨rfl, rfl⟩ (pR_k ?_)
    refine AW.if_eqB X (tgt := 28) dX12_isCoat_21 (by decide) (fun h21 => ?_) (fun h21 => ?_)
    · refine AW.iconstN X 0 dX12_isCoat_28 rfl ?_
      refine AW.zret X rfl hQ dX12_isCoat_29 ⟨_, rfl, ?_⟩
      have e : (inr (nI h) (τ 6 0 0) && inr y (τ (cl (nI h)) 0 2)) = false := by simp [*]
      exact ⟨by rw [e]; rfl, rfl⟩
    · refine AW.iconstN X 1 dX12_isCoat_24 rfl ?_
      refine AW.goto X (tgt := 29) dX12_isCoat_25 (by decide) ?_
      refine AW.zret X rfl hQ dX12_isCoat_29 ⟨_, rfl, ?_⟩
      have e : (inr (nI h) (τ 6 0 0) && inr y (τ (cl (nI h)) 0 2)) = true := by simp [*]
      exact ⟨by rw [e]; rfl, rfl⟩
set_option maxRecDepth 100000 in
set_option maxHeartbeats 4000000 in
theorem c_X12_isCell {l : Launch} {δ : Dl} {b : Nat} {μ : Mm} {x : Int32} : MCM l δ b yX12_isCell cX12_isCell 1 (some .boolean) 2 [.int x] μ (pI fun r μ' => r = bI (inr x 12) ∧ μ' = μ) := by
  refine MC.intro ([some (.int x)]) (by decide) rfl rfl fun κ Qc hl hQ X => ?_
  subst hl
  refine AW.iload_n X dX12_isCell_0 (i := 0) rfl rfl ?_
  refine AW.iconstN X 0 dX12_isCell_1 rfl ?_
  refine AW.bipushN X 11 dX12_isCell_2 rfl ?_
  refine AW.callS X dX12_isCell_4 lX12_90 (c_within (m := 12) (dn_s 11).symm (by decide)) rfl rfl rfl rfl ⟨rfl, rfl⟩ (pR_k ?_)
  refine AW.zret X (bI_n _) hQ dX12_isCell_7 ⟨_, rfl, ?_⟩
  exact ⟨rfl, rfl⟩
set_option maxRecDepth 100000 in
set_option maxHeartbeats 4000000 in
theorem c_X12_isWeather {l : Launch} {δ : Dl} {b : Nat} {μ : Mm} {x : Int32} : MCM l δ b yX12_isWeather cX12_isWeather 1 (some .boolean) 2 [.int x] μ (pI fun r μ' => r = bI (inr x 100) ∧ μ' = μ) := by
  refine MC.intro ([some (.int x)]) (by decide) rfl rfl fun κ Qc hl hQ X => ?_
  subst hl
  refine AW.iload_n X dX12_isWeather_0 (i := 0) rfl rfl ?_
  refine AW.iconstN X 0 dX12_isWeather_1 rfl ?_
  refine AW.bipushN X 99 dX12_isWeather_2 rfl ?_
  refine AW.callS X dX12_isWeather_4 lX12_90 (c_within (m := 100) (dn_s 99).symm (by decide)) rfl rfl rfl rfl ⟨rfl, rfl⟩ (pR_k ?_)
  refine AW.zret X (bI_n _) hQ dX12_isWeather_7 ⟨_, rfl, ?_⟩
  exact ⟨rfl, rfl⟩
set_option maxRecDepth 100000 in
set_option maxHeartbeats 4000000 in
theorem c_X12_strength {l : Launch} {δ : Dl} {b : Nat} {μ : Mm} (W : WM μ.2.2) {τ : Tt} (hT : TMX μ τ) {h c : Nat} (hh : h < τ 6 0 0) (hc : c < τ h 0 2)  : MCM l δ b yX12_strength cX12_strength 4 (some .int) 1 [.ref (b + 0), .int (nI h), .int (nI c)] μ (pI fun r μ' => r = nI (strength (τ 6 1) (τ h) c) ∧ μ' = μ) := by
  have bn := ti_n hT.1
  have hI := tm_hi hT hh
  have bc := hi_n hI
  have ba := hi_a hI
  have bk := hi_k hI
  have q1 := hi_col hI hc
  have q2 := hi_th hI hc
  have q3 := ti_hid hT.1 q1
  refine MC.intro ([some (.ref (b + 0)), some (.int (nI h)), some (.int (nI c)), none]) (by decide) rfl rfl fun κ Qc hl hQ X => ?_
  subst hl
  refine AW.aload_n X dX12_strength_0 (i := 0) rfl rfl ?_
  refine AW.getR X dX12_strength_1 fX12_47 rfl om0 (wm_at W 12 rfl) ?_
  refine AW.aload_n X dX12_strength_4 (i := 0) rfl rfl ?_
  refine AW.getR X dX12_strength_5 fX12_32 rfl om0 (wm_at W 7 rfl) ?_
  refine AW.bipushN X 8 dX12_strength_8 rfl ?_
  refine AW.iload_n X dX12_strength_10 (i := 1) rfl rfl ?_
  refine AW.imulN X dX12_strength_11 ?_
  refine AW.iload_n X dX12_strength_12 (i := 2) rfl rfl ?_
  refine AW.iaddN X dX12_strength_13 ?_
  refine AW.iaload X dX12_strength_14 (am_at 7 rfl) (n2_in (by omega) (by decide)) (v := (nI (τ h 2 c))) (by rw [n2_clamp (by omega)]; exact tm_2 hT (by omega) (by omega)) ?_
  refine AW.iaload X dX12_strength_15 (am_at 12 rfl) (n2_in (by omega) (by decide)) (v := (nI (τ 6 1 (τ h 2 c)))) (by rw [n2_clamp (by omega)]; exact tm_hid hT (by omega)) ?_
  refine AW.istore_n X dX12_strength_16 (i := 3) rfl rfl ?_
  refine AW.aload_n X dX12_strength_17 (i := 0) rfl rfl ?_
  refine AW.getR X dX12_strength_18 fX12_20 rfl om0 (wm_at W 3 rfl) ?_
  refine AW.iload_n X dX12_strength_21 (i := 1) rfl rfl ?_
  refine AW.iaload X dX12_strength_22 (am_at 3 rfl) (n2_in (by omega) (by decide)) (v := (nI (τ h 0 0))) (by rw [n2_clamp (by omega)]; exact tm_k hT (by omega)) ?_
  refine AW.iconstN X 4 dX12_strength_23 rfl ?_
  refine AW.icmp_neN X (tgt := 34) dX12_strength_24 (by decide) (by omega) (by omega) (fun h24 => ?_) (fun h24 => ?_)
  · refine AW.iload_n X dX12_strength_34 (i := 3) rfl rfl ?_
    refine AW.aload_n X dX12_strength_35 (i := 0) rfl rfl ?_
    refine AW.getR X dX12_strength_36 fX12_35 rfl om0 (wm_at W 8 rfl) ?_
    refine AW.bipushN X 8 dX12_strength_39 rfl ?_
    refine AW.iload_n X dX12_strength_41 (i := 1) rfl rfl ?_
    refine AW.imulN X dX12_strength_42 ?_
    refine AW.iload_n X dX12_strength_43 (i := 2) rfl rfl ?_
    refine AW.iaddN X dX12_strength_44 ?_
    refine AW.iaload X dX12_strength_45 (am_at 8 rfl) (n2_in (by omega) (by decide)) (v := (nI (τ h 3 c))) (by rw [n2_clamp (by omega)]; exact tm_3 hT (by omega) (by omega)) ?_
    refine AW.imulN X dX12_strength_46 ?_
    refine AW.iret X hQ dX12_strength_47 ⟨_, rfl, ?_⟩
    exact ⟨congrArg nI (by simp [strength, counted, *]), rfl⟩
  · refine AW.iload_n X dX12_strength_27 (i := 3) rfl rfl ?_
    refine AW.if_leN X (tgt := 34) dX12_strength_28 (by decide) (by omega) (fun h28 => ?_) (fun h28 => ?_)
    · refine AW.iload_n X dX12_strength_34 (i := 3) rfl rfl ?_
      refine AW.aload_n X dX12_strength_35 (i := 0) rfl rfl ?_
      refine AW.getR X dX12_strength_36 fX12_35 rfl om0 (wm_at W 8 rfl) ?_
      refine AW.bipushN X 8 dX12_strength_39 rfl ?_
      refine AW.iload_n X dX12_strength_41 (i := 1) rfl rfl ?_
      refine AW.imulN X dX12_strength_42 ?_
      refine AW.iload_n X dX12_strength_43 (i := 2) rfl rfl ?_
      refine AW.iaddN X dX12_strength_44 ?_
      refine AW.iaload X dX12_strength_45 (am_at 8 rfl) (n2_in (by omega) (by decide)) (v := (nI (τ h 3 c))) (by rw [n2_clamp (by omega)]; exact tm_3 hT (by omega) (by omega)) ?_
      refine AW.imulN X dX12_strength_46 ?_
      refine AW.iret X hQ dX12_strength_47 ⟨_, rfl, ?_⟩
      exact ⟨congrArg nI (by simp [strength, counted, *]), rfl⟩
    · refine AW.iinc X (v := -1) dX12_strength_31 rfl rfl rfl ?_
      rw [nI_prd (by omega)]
      refine AW.iload_n X dX12_strength_34 (i := 3) rfl rfl ?_
      refine AW.aload_n X dX12_strength_35 (i := 0) rfl rfl ?_
      refine AW.getR X dX12_strength_36 fX12_35 rfl om0 (wm_at W 8 rfl) ?_
      refine AW.bipushN X 8 dX12_strength_39 rfl ?_
      refine AW.iload_n X dX12_strength_41 (i := 1) rfl rfl ?_
      refine AW.imulN X dX12_strength_42 ?_
      refine AW.iload_n X dX12_strength_43 (i := 2) rfl rfl ?_
      refine AW.iaddN X dX12_strength_44 ?_
      refine AW.iaload X dX12_strength_45 (am_at 8 rfl) (n2_in (by omega) (by decide)) (v := (nI (τ h 3 c))) (by rw [n2_clamp (by omega)]; exact tm_3 hT (by omega) (by omega)) ?_
      refine AW.imulN X dX12_strength_46 ?_
      refine AW.iret X hQ dX12_strength_47 ⟨_, rfl, ?_⟩
      exact ⟨congrArg nI (by simp [strength, counted, *]), rfl⟩
set_option maxRecDepth 100000 in
set_option maxHeartbeats 4000000 in
theorem c_X12_wetOf {l : Launch} {δ : Dl} {b : Nat} {μ : Mm} (W : WM μ.2.2) {τ : Tt} (hT : TMX μ τ) {h : Nat} (hh : h < τ 6 0 0) {k d : Nat} (hk : k < 12) (hd : d < 100) : MCM l δ b yX12_wetOf cX12_wetOf 6 (some .int) 1 [.ref (b + 0), .int (nI h), .int (nI k), .int (nI d)] μ (pI fun r μ' => r = nI (wet (τ h) k d) ∧ μ' = μ) := by
  have bn := ti_n hT.1
  have hI := tm_hi hT hh
  have bc := hi_n hI
  have ba := hi_a hI
  have bk := hi_k hI
  refine MC.intro ([some (.ref (b + 0)), some (.int (nI h)), some (.int (nI k)), some (.int (nI d)), none, none]) (by decide) rfl rfl fun κ Qc hl hQ X => ?_
  subst hl
  refine AW.aload_n X dX12_wetOf_0 (i := 0) rfl rfl ?_
  refine AW.getR X dX12_wetOf_1 fX12_20 rfl om0 (wm_at W 3 rfl) ?_
  refine AW.iload_n X dX12_wetOf_4 (i := 1) rfl rfl ?_
  refine AW.iaload X dX12_wetOf_5 (am_at 3 rfl) (n2_in (by omega) (by decide)) (v := (nI (τ h 0 0))) (by rw [n2_clamp (by omega)]; exact tm_k hT (by omega)) ?_
  refine AW.iconstN X 1 dX12_wetOf_6 rfl ?_
  refine AW.icmp_eqN X (tgt := 20) dX12_wetOf_7 (by decide) (by omega) (by omega) (fun h7 => ?_) (fun h7 => ?_)
  · refine AW.iconstN X 1 dX12_wetOf_20 rfl ?_
    refine AW.goto X (tgt := 25) dX12_wetOf_21 (by decide) ?_
    refine AW.istore X dX12_wetOf_25 rfl ?_
    refine AW.iload X dX12_wetOf_27 rfl ?_
    refine AW.if_eqN X (tgt := 47) dX12_wetOf_29 (by decide) (by omega) (fun h29 => ?_) (fun h29 => ?_)
    · exact absurd h29 (by decide)
    · refine AW.iload_n X dX12_wetOf_32 (i := 3) rfl rfl ?_
      refine AW.if_leN X (tgt := 47) dX12_wetOf_33 (by decide) (by omega) (fun h33 => ?_) (fun h33 => ?_)
      · refine AW.iload_n X dX12_wetOf_47 (i := 3) rfl rfl ?_
        refine AW.istore X dX12_wetOf_48 rfl ?_
        refine AW.aload_n X dX12_wetOf_50 (i := 0) rfl rfl ?_
        refine AW.getR X dX12_wetOf_51 fX12_20 rfl om0 (wm_at W 3 rfl) ?_
        refine AW.iload_n X dX12_wetOf_54 (i := 1) rfl rfl ?_
        refine AW.iaload X dX12_wetOf_55 (am_at 3 rfl) (n2_in (by omega) (by decide)) (v := (nI (τ h 0 0))) (by rw [n2_clamp (by omega)]; exact tm_k hT (by omega)) ?_
        refine AW.iconstN X 3 dX12_wetOf_56 rfl ?_
        refine AW.icmp_neN X (tgt := 73) dX12_wetOf_57 (by decide) (by omega) (by omega) (fun h57 => ?_) (fun h57 => ?_)
        · refine AW.iload X dX12_wetOf_73 rfl ?_
          refine AW.iret X hQ dX12_wetOf_75 ⟨_, rfl, ?_⟩
          exact ⟨congrArg nI (by first | (simp [wet, *]; done) | (exfalso; omega)), rfl⟩
        · refine AW.iload_n X dX12_wetOf_60 (i := 2) rfl rfl ?_
          refine AW.bipushN X 7 dX12_wetOf_61 rfl ?_
          refine AW.icmp_leN X (tgt := 73) dX12_wetOf_63 (by decide) (by omega) (by omega) (fun h63 => ?_) (fun h63 => ?_)
          · have g63 : ¬ 8 ≤ k := by omega
            have n63 := Nat.not_lt_of_le h63
            refine AW.iload X dX12_wetOf_73 rfl ?_
            refine AW.iret X hQ dX12_wetOf_75 ⟨_, rfl, ?_⟩
            exact ⟨congrArg nI (by first | (simp [wet, *]; done) | (exfalso; omega)), rfl⟩
          · have g63 : 8 ≤ k := by omega
            have n63 := Nat.not_le_of_lt h63
            refine AW.iconstN X 2 dX12_wetOf_66 rfl ?_
            refine AW.iload X dX12_wetOf_67 rfl ?_
            refine AW.imulN X dX12_wetOf_69 ?_
            refine AW.goto X (tgt := 75) dX12_wetOf_70 (by decide) ?_
            refine AW.iret X hQ dX12_wetOf_75 ⟨_, rfl, ?_⟩
            exact ⟨congrArg nI (by first | (simp [wet, *]; done) | (exfalso; omega)), rfl⟩
      · refine AW.iload_n X dX12_wetOf_36 (i := 3) rfl rfl ?_
        refine AW.aload_n X dX12_wetOf_37 (i := 0) rfl rfl ?_
        refine AW.getR X dX12_wetOf_38 fX12_23 rfl om0 (wm_at W 4 rfl) ?_
        refine AW.iload_n X dX12_wetOf_41 (i := 1) rfl rfl ?_
        refine AW.iaload X dX12_wetOf_42 (am_at 4 rfl) (n2_in (by omega) (by decide)) (v := (nI (τ h 0 1))) (by rw [n2_clamp (by omega)]; exact tm_a hT (by omega)) ?_
        refine AW.iaddN X dX12_wetOf_43 ?_
        refine AW.goto X (tgt := 48) dX12_wetOf_44 (by decide) ?_
        refine AW.istore X dX12_wetOf_48 rfl ?_
        refine AW.aload_n X dX12_wetOf_50 (i := 0) rfl rfl ?_
        refine AW.getR X dX12_wetOf_51 fX12_20 rfl om0 (wm_at W 3 rfl) ?_
        refine AW.iload_n X dX12_wetOf_54 (i := 1) rfl rfl ?_
        refine AW.iaload X dX12_wetOf_55 (am_at 3 rfl) (n2_in (by omega) (by decide)) (v := (nI (τ h 0 0))) (by rw [n2_clamp (by omega)]; exact tm_k hT (by omega)) ?_
        refine AW.iconstN X 3 dX12_wetOf_56 rfl ?_
        refine AW.icmp_neN X (tgt := 73) dX12_wetOf_57 (by decide) (by omega) (by omega) (fun h57 => ?_) (fun h57 => ?_)
        · refine AW.iload X dX12_wetOf_73 rfl ?_
          refine AW.iret X hQ dX12_wetOf_75 ⟨_, rfl, ?_⟩
          exact ⟨congrArg nI (by first | (simp [wet, *]; done) | (exfalso; omega)), rfl⟩
        · refine AW.iload_n X dX12_wetOf_60 (i := 2) rfl rfl ?_
          refine AW.bipushN X 7 dX12_wetOf_61 rfl ?_
          refine AW.icmp_leN X (tgt := 73) dX12_wetOf_63 (by decide) (by omega) (by omega) (fun h63 => ?_) (fun h63 => ?_)
          · have g63 : ¬ 8 ≤ k := by omega
            have n63 := Nat.not_lt_of_le h63
            refine AW.iload X dX12_wetOf_73 rfl ?_
            refine AW.iret X hQ dX12_wetOf_75 ⟨_, rfl, ?_⟩
            exact ⟨congrArg nI (by first | (simp [wet, *]; done) | (exfalso; omega)), rfl⟩
          · have g63 : 8 ≤ k := by omega
            have n63 := Nat.not_le_of_lt h63
            refine AW.iconstN X 2 dX12_wetOf_66 rfl ?_
            refine AW.iload X dX12_wetOf_67 rfl ?_
            refine AW.imulN X dX12_wetOf_69 ?_
            refine AW.goto X (tgt := 75) dX12_wetOf_70 (by decide) ?_
            refine AW.iret X hQ dX12_wetOf_75 ⟨_, rfl, ?_⟩
            exact ⟨congrArg nI (by first | (simp [wet, *]; done) | (exfalso; omega)), rfl⟩
  · refine AW.aload_n X dX12_wetOf_10 (i := 0) rfl rfl ?_
    refine AW.getR X dX12_wetOf_11 fX12_20 rfl om0 (wm_at W 3 rfl) ?_
    refine AW.iload_n X dX12_wetOf_14 (i := 1) rfl rfl ?_
    refine AW.iaload X dX12_wetOf_15 (am_at 3 rfl) (n2_in (by omega) (by decide)) (v := (nI (τ h 0 0))) (by rw [n2_clamp (by omega)]; exact tm_k hT (by omega)) ?_
    refine AW.iconstN X 3 dX12_wetOf_16 rfl ?_
    refine AW.icmp_neN X (tgt := 24) dX12_wetOf_17 (by decide) (by omega) (by omega) (fun h17 => ?_) (fun h17 => ?_)
    · refine AW.iconstN X 0 dX12_wetOf_24 rfl ?_
      refine AW.istore X dX12_wetOf_25 rfl ?_
      refine AW.iload X dX12_wetOf_27 rfl ?_
      refine AW.if_eqN X (tgt := 47) dX12_wetOf_29 (by decide) (by omega) (fun h29 => ?_) (fun h29 => ?_)
      · refine AW.iload_n X dX12_wetOf_47 (i := 3) rfl rfl ?_
        refine AW.istore X dX12_wetOf_48 rfl ?_
        refine AW.aload_n X dX12_wetOf_50 (i := 0) rfl rfl ?_
        refine AW.getR X dX12_wetOf_51 fX12_20 rfl om0 (wm_at W 3 rfl) ?_
        refine AW.iload_n X dX12_wetOf_54 (i := 1) rfl rfl ?_
        refine AW.iaload X dX12_wetOf_55 (am_at 3 rfl) (n2_in (by omega) (by decide)) (v := (nI (τ h 0 0))) (by rw [n2_clamp (by omega)]; exact tm_k hT (by omega)) ?_
        refine AW.iconstN X 3 dX12_wetOf_56 rfl ?_
        refine AW.icmp_neN X (tgt := 73) dX12_wetOf_57 (by decide) (by omega) (by omega) (fun h57 => ?_) (fun h57 => ?_)
        · refine AW.iload X dX12_wetOf_73 rfl ?_
          refine AW.iret X hQ dX12_wetOf_75 ⟨_, rfl, ?_⟩
          exact ⟨congrArg nI (by first | (simp [wet, *]; done) | (exfalso; omega)), rfl⟩
        · refine AW.iload_n X dX12_wetOf_60 (i := 2) rfl rfl ?_
          refine AW.bipushN X 7 dX12_wetOf_61 rfl ?_
          refine AW.icmp_leN X (tgt := 73) dX12_wetOf_63 (by decide) (by omega) (by omega) (fun h63 => ?_) (fun h63 => ?_)
          · have g63 : ¬ 8 ≤ k := by omega
            have n63 := Nat.not_lt_of_le h63
            refine AW.iload X dX12_wetOf_73 rfl ?_
            refine AW.iret X hQ dX12_wetOf_75 ⟨_, rfl, ?_⟩
            exact ⟨congrArg nI (by first | (simp [wet, *]; done) | (exfalso; omega)), rfl⟩
          · have g63 : 8 ≤ k := by omega
            have n63 := Nat.not_le_of_lt h63
            refine AW.iconstN X 2 dX12_wetOf_66 rfl ?_
            refine AW.iload X dX12_wetOf_67 rfl ?_
            refine AW.imulN X dX12_wetOf_69 ?_
            refine AW.goto X (tgt := 75) dX12_wetOf_70 (by decide) ?_
            refine AW.iret X hQ dX12_wetOf_75 ⟨_, rfl, ?_⟩
            exact ⟨congrArg nI (by first | (simp [wet, *]; done) | (exfalso; omega)), rfl⟩
      · exact absurd h29 (by decide)
    · refine AW.iconstN X 1 dX12_wetOf_20 rfl ?_
      refine AW.goto X (tgt := 25) dX12_wetOf_21 (by decide) ?_
      refine AW.istore X dX12_wetOf_25 rfl ?_
      refine AW.iload X dX12_wetOf_27 rfl ?_
      refine AW.if_eqN X (tgt := 47) dX12_wetOf_29 (by decide) (by omega) (fun h29 => ?_) (fun h29 => ?_)
      · exact absurd h29 (by decide)
      · refine AW.iload_n X dX12_wetOf_32 (i := 3) rfl rfl ?_
        refine AW.if_leN X (tgt := 47) dX12_wetOf_33 (by decide) (by omega) (fun h33 => ?_) (fun h33 => ?_)
        · refine AW.iload_n X dX12_wetOf_47 (i := 3) rfl rfl ?_
          refine AW.istore X dX12_wetOf_48 rfl ?_
          refine AW.aload_n X dX12_wetOf_50 (i := 0) rfl rfl ?_
          refine AW.getR X dX12_wetOf_51 fX12_20 rfl om0 (wm_at W 3 rfl) ?_
          refine AW.iload_n X dX12_wetOf_54 (i := 1) rfl rfl ?_
          refine AW.iaload X dX12_wetOf_55 (am_at 3 rfl) (n2_in (by omega) (by decide)) (v := (nI (τ h 0 0))) (by rw [n2_clamp (by omega)]; exact tm_k hT (by omega)) ?_
          refine AW.iconstN X 3 dX12_wetOf_56 rfl ?_
          refine AW.icmp_neN X (tgt := 73) dX12_wetOf_57 (by decide) (by omega) (by omega) (fun h57 => ?_) (fun h57 => ?_)
          · refine AW.iload X dX12_wetOf_73 rfl ?_
            refine AW.iret X hQ dX12_wetOf_75 ⟨_, rfl, ?_⟩
            exact ⟨congrArg nI (by first | (simp [wet, *]; done) | (exfalso; omega)), rfl⟩
          · refine AW.iload_n X dX12_wetOf_60 (i := 2) rfl rfl ?_
            refine AW.bipushN X 7 dX12_wetOf_61 rfl ?_
            refine AW.icmp_leN X (tgt := 73) dX12_wetOf_63 (by decide) (by omega) (by omega) (fun h63 => ?_) (fun h63 => ?_)
            · have g63 : ¬ 8 ≤ k := by omega
              have n63 := Nat.not_lt_of_le h63
              refine AW.iload X dX12_wetOf_73 rfl ?_
              refine AW.iret X hQ dX12_wetOf_75 ⟨_, rfl, ?_⟩
              exact ⟨congrArg nI (by first | (simp [wet, *]; done) | (exfalso; omega)), rfl⟩
            · have g63 : 8 ≤ k := by omega
              have n63 := Nat.not_le_of_lt h63
              refine AW.iconstN X 2 dX12_wetOf_66 rfl ?_
              refine AW.iload X dX12_wetOf_67 rfl ?_
              refine AW.imulN X dX12_wetOf_69 ?_
              refine AW.goto X (tgt := 75) dX12_wetOf_70 (by decide) ?_
              refine AW.iret X hQ dX12_wetOf_75 ⟨_, rfl, ?_⟩
              exact ⟨congrArg nI (by first | (simp [wet, *]; done) | (exfalso; omega)), rfl⟩
        · refine AW.iload_n X dX12_wetOf_36 (i := 3) rfl rfl ?_
          refine AW.aload_n X dX12_wetOf_37 (i := 0) rfl rfl ?_
          refine AW.getR X dX12_wetOf_38 fX12_23 rfl om0 (wm_at W 4 rfl) ?_
          refine AW.iload_n X dX12_wetOf_41 (i := 1) rfl rfl ?_
          refine AW.iaload X dX12_wetOf_42 (am_at 4 rfl) (n2_in (by omega) (by decide)) (v := (nI (τ h 0 1))) (by rw [n2_clamp (by omega)]; exact tm_a hT (by omega)) ?_
          refine AW.iaddN X dX12_wetOf_43 ?_
          refine AW.goto X (tgt := 48) dX12_wetOf_44 (by decide) ?_
          refine AW.istore X dX12_wetOf_48 rfl ?_
          refine AW.aload_n X dX12_wetOf_50 (i := 0) rfl rfl ?_
          refine AW.getR X dX12_wetOf_51 fX12_20 rfl om0 (wm_at W 3 rfl) ?_
          refine AW.iload_n X dX12_wetOf_54 (i := 1) rfl rfl ?_
          refine AW.iaload X dX12_wetOf_55 (am_at 3 rfl) (n2_in (by omega) (by decide)) (v := (nI (τ h 0 0))) (by rw [n2_clamp (by omega)]; exact tm_k hT (by omega)) ?_
          refine AW.iconstN X 3 dX12_wetOf_56 rfl ?_
          refine AW.icmp_neN X (tgt := 73) dX12_wetOf_57 (by decide) (by omega) (by omega) (fun h57 => ?_) (fun h57 => ?_)
          · refine AW.iload X dX12_wetOf_73 rfl ?_
            refine AW.iret X hQ dX12_wetOf_75 ⟨_, rfl, ?_⟩
            exact ⟨congrArg nI (by first | (simp [wet, *]; done) | (exfalso; omega)), rfl⟩
          · refine AW.iload_n X dX12_wetOf_60 (i := 2) rfl rfl ?_
            refine AW.bipushN X 7 dX12_wetOf_61 rfl ?_
            refine AW.icmp_leN X (tgt := 73) dX12_wetOf_63 (by decide) (by omega) (by omega) (fun h63 => ?_) (fun h63 => ?_)
            · have g63 : ¬ 8 ≤ k := by omega
              have n63 := Nat.not_lt_of_le h63
              refine AW.iload X dX12_wetOf_73 rfl ?_
              refine AW.iret X hQ dX12_wetOf_75 ⟨_, rfl, ?_⟩
              exact ⟨congrArg nI (by first | (simp [wet, *]; done) | (exfalso; omega)), rfl⟩
            · have g63 : 8 ≤ k := by omega
              have n63 := Nat.not_le_of_lt h63
              refine AW.iconstN X 2 dX12_wetOf_66 rfl ?_
              refine AW.iload X dX12_wetOf_67 rfl ?_
              refine AW.imulN X dX12_wetOf_69 ?_
              refine AW.goto X (tgt := 75) dX12_wetOf_70 (by decide) ?_
              refine AW.iret X hQ dX12_wetOf_75 ⟨_, rfl, ?_⟩
              exact ⟨congrArg nI (by first | (simp [wet, *]; done) | (exfalso; omega)), rfl⟩
set_option maxRecDepth 100000 in
set_option maxHeartbeats 4000000 in
theorem c_X12_lies {l : Launch} {δ : Dl} {b : Nat} {μ : Mm} (W : WM μ.2.2) {τ : Tt} (hT : TMX μ τ) {h : Nat} (hh : h < τ 6 0 0) {k : Nat} (hk : k < 12) : MCM l δ b yX12_lies cX12_lies 5 (some .int) 2 [.ref (b + 0), .int (nI h), .int (nI k)] μ (pI fun r μ' => r = nI (lyA (τ h) k) ∧ μ' = μ) := by
  have bn := ti_n hT.1
  have hI := tm_hi hT hh
  have bc := hi_n hI
  have ba := hi_a hI
  have bk := hi_k hI
  have b6 := hi_go hI hk
  refine MC.intro ([some (.ref (b + 0)), some (.int (nI h)), some (.int (nI k)), none, none]) (by decide) rfl rfl fun κ Qc hl hQ X => ?_
  subst hl
  refine AW.iconstN X 0 dX12_lies_0 rfl ?_
  refine AW.istore_n X dX12_lies_1 (i := 3) rfl rfl ?_
  refine AW.iconstN X 0 dX12_lies_2 rfl ?_
  refine AW.istore X dX12_lies_3 rfl ?_
  have L5 : ∀ (m5 ix : Nat), τ h 0 2 - ix < m5 → ix ≤ τ h 0 2 → AW κ (δ, b, NM, 5, shM, False, Qc, 0, 0) NM 0 0 5 [some (.ref (b + 0)), some (.int (nI h)), some (.int (nI k)), some (.int (nI (ly (τ h) k ix))), some (.int (nI ix))] [] μ := by
    intro m5
    induction m5 with
    | zero => intro ix hm; exact absurd hm (Nat.not_lt_zero _)
    | succ m5 ih5 =>
      intro ix hm5 hi5 
      have b1 := ly_lt8 (τ h) k (i := ix) (by omega)
      refine AW.iload X dX12_lies_5 rfl ?_
      refine AW.aload_n X dX12_lies_7 (i := 0) rfl rfl ?_
      refine AW.getR X dX12_lies_8 fX12_26 rfl om0 (wm_at W 5 rfl) ?_
      refine AW.iload_n X dX12_lies_11 (i := 1) rfl rfl ?_
      refine AW.iaload X dX12_lies_12 (am_at 5 rfl) (n2_in (by omega) (by decide)) (v := (nI (τ h 0 2))) (by rw [n2_clamp (by omega)]; exact tm_n hT (by omega)) ?_
      refine AW.icmp_geN X (tgt := 64) dX12_lies_13 (by decide) (by omega) (by omega) (fun h13 => ?_) (fun h13 => ?_)
      · obtain rfl : τ h 0 2 = ix := by omega
        have n13 := Nat.not_lt_of_le h13
        refine AW.iload_n X dX12_lies_64 (i := 3) rfl rfl ?_
        refine AW.iret X hQ dX12_lies_65 ⟨_, rfl, ?_⟩
        exact ⟨rfl, rfl⟩
      · have n13 := Nat.not_le_of_lt h13
        have b4 := hi_gap hI (c := ix) (by omega)
        refine AW.aload_n X dX12_lies_16 (i := 0) rfl rfl ?_
        refine AW.getR X dX12_lies_17 fX12_38 rfl om0 (wm_at W 9 rfl) ?_
        refine AW.bipushN X 8 dX12_lies_20 rfl ?_
        refine AW.iload_n X dX12_lies_22 (i := 1) rfl rfl ?_
        refine AW.imulN X dX12_lies_23 ?_
        refine AW.iload X dX12_lies_24 rfl ?_
        refine AW.iaddN X dX12_lies_26 ?_
        refine AW.iaload X dX12_lies_27 (am_at 9 rfl) (n2_in (by omega) (by decide)) (v := (nI (τ h 4 ix))) (by rw [n2_clamp (by omega)]; exact tm_4 hT (by omega) (by omega)) ?_
        refine AW.iload_n X dX12_lies_28 (i := 2) rfl rfl ?_
        refine AW.icmp_eqN X (tgt := 58) dX12_lies_29 (by decide) (by omega) (by omega) (fun h29 => ?_) (fun h29 => ?_)
        · refine AW.iincN X (c := (ix + 1)) dX12_lies_58 rfl (inc_1 _) rfl ?_
          refine AW.goto X (tgt := 5) dX12_lies_61 (by decide) ?_
          refine AW.cgw (ih5 (ix + 1) (by omega) (by omega)) ⟨rfl, rfl, rfl, ?_, rfl, trivial⟩
          · simp [ly, lies, *]
        · have b4 := hi_gap hI h13
          refine AW.aload_n X dX12_lies_32 (i := 0) rfl rfl ?_
          refine AW.getR X dX12_lies_33 fX12_44 rfl om0 (wm_at W 11 rfl) ?_
          refine AW.bipushN X 12 dX12_lies_36 rfl ?_
          refine AW.iload_n X dX12_lies_38 (i := 1) rfl rfl ?_
          refine AW.imulN X dX12_lies_39 ?_
          refine AW.iload_n X dX12_lies_40 (i := 2) rfl rfl ?_
          refine AW.iaddN X dX12_lies_41 ?_
          refine AW.iaload X dX12_lies_42 (am_at 11 rfl) (n2_in (by omega) (by decide)) (v := (nI (τ h 6 k))) (by rw [n2_clamp (by omega)]; exact tm_6 hT (by omega) (by omega)) ?_
          refine AW.iload X dX12_lies_43 rfl ?_
          refine AW.callS X dX12_lies_45 lX12_155 (c_X12_has (by omega) (by omega)) rfl rfl rfl rfl ⟨rfl, rfl⟩ (pR_k ?_)
          refine AW.if_neB X (tgt := 58) dX12_lies_48 (by decide) (fun h48 => ?_) (fun h48 => ?_)
          · refine AW.iincN X (c := (ix + 1)) dX12_lies_58 rfl (inc_1 _) rfl ?_
            refine AW.goto X (tgt := 5) dX12_lies_61 (by decide) ?_
            refine AW.cgw (ih5 (ix + 1) (by omega) (by omega)) ⟨rfl, rfl, rfl, ?_, rfl, trivial⟩
            · simp [ly, lies, *]
          · refine AW.iload_n X dX12_lies_51 (i := 3) rfl rfl ?_
            refine AW.iconstN X 1 dX12_lies_52 rfl ?_
            refine AW.iload X dX12_lies_53 rfl ?_
            refine AW.shl1 X dX12_lies_55 (by omega) ?_
            refine AW.iorN X dX12_lies_56 ?_
            refine AW.istore_n X dX12_lies_57 (i := 3) rfl rfl ?_
            refine AW.iincN X (c := (ix + 1)) dX12_lies_58 rfl (inc_1 _) rfl ?_
            refine AW.goto X (tgt := 5) dX12_lies_61 (by decide) ?_
            refine AW.cgw (ih5 (ix + 1) (by omega) (by omega)) ⟨rfl, rfl, rfl, ?_, rfl, trivial⟩
            · simp [ly, lies, *]
  refine AW.cgw (L5 _ 0 (Nat.lt_succ_self _) (by omega)) ⟨rfl, rfl, rfl, ?_, rfl, trivial⟩
  · simp [ly, lies, *]
set_option maxRecDepth 100000 in
set_option maxHeartbeats 4000000 in
theorem c_X12_seenIn {l : Launch} {δ : Dl} {b : Nat} {μ : Mm} (W : WM μ.2.2) {τ : Tt} (hT : TMX μ τ) {h : Nat} (hh : h < τ 6 0 0) {bits w : Nat} (hb : bits < 256) (hw : w < 1000) : MCM l δ b yX12_seenIn cX12_seenIn 5 (some .int) 2 [.ref (b + 0), .int (nI h), .int (nI bits), .int (nI w)] μ (pI fun r μ' => r = oI (seenIn (τ 6 1) (τ h) bits w (τ h 0 2)) ∧ μ' = μ) := by
  have bn := ti_n hT.1
  have hI := tm_hi hT hh
  have bc := hi_n hI
  have ba := hi_a hI
  have bk := hi_k hI
  refine MC.intro ([some (.ref (b + 0)), some (.int (nI h)), some (.int (nI bits)), some (.int (nI w)), none]) (by decide) rfl rfl fun κ Qc hl hQ X => ?_
  subst hl
  have L10 : ∀ ix : Nat, ix ≤ τ h 0 2 → seenIn (τ 6 1) (τ h) bits w (τ h 0 2) = seenIn (τ 6 1) (τ h) bits w ix → AW κ (δ, b, NM, 5, shM, False, Qc, 0, 0) NM 0 0 10 [some (.ref (b + 0)), some (.int (nI h)), some (.int (nI bits)), some (.int (nI w)), some (.int (dn ix))] [] μ := by
    intro ix
    induction ix with
    | zero =>
      intro hi hr
      rw [dn_0]
      refine AW.iload X dX12_seenIn_10 rfl ?_
      refine AW.if_lt X (tgt := 44) dX12_seenIn_12 (by decide) (fun h12 => ?_) (fun h12 => ?_)
      · refine AW.iconst X (v := -1) dX12_seenIn_44 rfl ?_
        refine AW.iret X hQ dX12_seenIn_45 ⟨_, rfl, ?_⟩
        exact ⟨by rw [hr]; rfl, rfl⟩
      · exact absurd (by decide) h12
    | succ cx ih =>
      intro hi hr
      rw [dn_s]
      have q1 := hi_col hI (c := cx) (by omega)
      have q2 := hi_th hI (c := cx) (by omega)
      have q3 := ti_hid hT.1 q1
      have b5 := strength_le q3 q2.2
      refine AW.iload X dX12_seenIn_10 rfl ?_
      refine AW.if_ltN X (tgt := 44) dX12_seenIn_12 (by decide) (by omega) (fun h12 => ?_) (fun h12 => ?_)
      · exact h12.elim
      · refine AW.iload_n X dX12_seenIn_15 (i := 2) rfl rfl ?_
        refine AW.iload X dX12_seenIn_16 rfl ?_
        refine AW.callS X dX12_seenIn_18 lX12_155 (c_X12_has (by omega) (by omega)) rfl rfl rfl rfl ⟨rfl, rfl⟩ (pR_k ?_)
        refine AW.if_eqB X (tgt := 38) dX12_seenIn_21 (by decide) (fun h21 => ?_) (fun h21 => ?_)
        · refine AW.iinc X (v := -1) dX12_seenIn_38 rfl rfl rfl ?_
          refine AW.goto X (tgt := 10) dX12_seenIn_41 (by decide) ?_
          refine AW.cgw (ih (by omega) (hr.trans ?_)) ⟨rfl, rfl, rfl, rfl, rfl, trivial⟩
          rw [seenIn, if_neg (by simp [*] <;> omega)]
        · refine AW.aload_n X dX12_seenIn_24 (i := 0) rfl rfl ?_
          refine AW.iload_n X dX12_seenIn_25 (i := 1) rfl rfl ?_
          refine AW.iload X dX12_seenIn_26 rfl ?_
          refine AW.callV X dX12_seenIn_28 lX12_125 cfX12 (c_X12_strength W hT (by omega) (by omega)) om0 rfl rfl rfl rfl ⟨rfl, rfl⟩ (pR_k ?_)
          refine AW.iload_n X dX12_seenIn_31 (i := 3) rfl rfl ?_
          refine AW.icmp_ltN X (tgt := 38) dX12_seenIn_32 (by decide) (by omega) (by omega) (fun h32 => ?_) (fun h32 => ?_)
          · refine AW.iinc X (v := -1) dX12_seenIn_38 rfl rfl rfl ?_
            refine AW.goto X (tgt := 10) dX12_seenIn_41 (by decide) ?_
            refine AW.cgw (ih (by omega) (hr.trans ?_)) ⟨rfl, rfl, rfl, rfl, rfl, trivial⟩
            rw [seenIn, if_neg (by simp [*] <;> omega)]
          · refine AW.iload X dX12_seenIn_35 rfl ?_
            refine AW.iret X hQ dX12_seenIn_37 ⟨_, rfl, ?_⟩
            exact ⟨by rw [hr, seenIn, if_pos ⟨h21, by omega⟩]; rfl, rfl⟩
  refine AW.aload_n X dX12_seenIn_0 (i := 0) rfl rfl ?_
  refine AW.getR X dX12_seenIn_1 fX12_26 rfl om0 (wm_at W 5 rfl) ?_
  refine AW.iload_n X dX12_seenIn_4 (i := 1) rfl rfl ?_
  refine AW.iaload X dX12_seenIn_5 (am_at 5 rfl) (n2_in (by omega) (by decide)) (v := (nI (τ h 0 2))) (by rw [n2_clamp (by omega)]; exact tm_n hT (by omega)) ?_
  refine AW.iconstN X 1 dX12_seenIn_6 rfl ?_
  refine AW.isub X dX12_seenIn_7 ?_
  rw [dn_sub]
  refine AW.istore X dX12_seenIn_8 rfl ?_
  exact AW.cgw (L10 _ (Nat.le_refl _) rfl) ⟨rfl, rfl, rfl, rfl, rfl, trivial⟩
set_option maxRecDepth 100000 in
set_option maxHeartbeats 4000000 in
theorem c_X12_seenAt {l : Launch} {δ : Dl} {b : Nat} {μ : Mm} (W : WM μ.2.2) {τ : Tt} (hT : TMX μ τ) {h : Nat} (hh : h < τ 6 0 0) {k d : Nat} (hk : k < 12) (hd : d < 100) : MCM l δ b yX12_seenAt cX12_seenAt 4 (some .int) 3 [.ref (b + 0), .int (nI h), .int (nI k), .int (nI d)] μ (pI fun r μ' => r = oI (seenAt (τ 6 1) (τ h) k d) ∧ μ' = μ) := by
  have bn := ti_n hT.1
  have hI := tm_hi hT hh
  have bc := hi_n hI
  have ba := hi_a hI
  have bk := hi_k hI
  have by_ := lyN hI k
  have bw := wet_le hI k hd
  refine MC.intro ([some (.ref (b + 0)), some (.int (nI h)), some (.int (nI k)), some (.int (nI d))]) (by decide) rfl rfl fun κ Qc hl hQ X => ?_
  subst hl
  refine AW.aload_n X dX12_seenAt_0 (i := 0) rfl rfl ?_
  refine AW.iload_n X dX12_seenAt_1 (i := 1) rfl rfl ?_
  refine AW.aload_n X dX12_seenAt_2 (i := 0) rfl rfl ?_
  refine AW.iload_n X dX12_seenAt_3 (i := 1) rfl rfl ?_
  refine AW.iload_n X dX12_seenAt_4 (i := 2) rfl rfl ?_
  refine AW.callV X dX12_seenAt_5 lX12_152 cfX12 (c_X12_lies W hT (by omega) (by omega)) om0 rfl rfl rfl rfl ⟨rfl, rfl⟩ (pR_k ?_)
  refine AW.aload_n X dX12_seenAt_8 (i := 0) rfl rfl ?_
  refine AW.iload_n X dX12_seenAt_9 (i := 1) rfl rfl ?_
  refine AW.iload_n X dX12_seenAt_10 (i := 2) rfl rfl ?_
  refine AW.iload_n X dX12_seenAt_11 (i := 3) rfl rfl ?_
  refine AW.callV X dX12_seenAt_12 lX12_118 cfX12 (c_X12_wetOf W hT (by omega) (by omega) (by omega)) om0 rfl rfl rfl rfl ⟨rfl, rfl⟩ (pR_k ?_)
  refine AW.callV X dX12_seenAt_15 lX12_220 cfX12 (c_X12_seenIn W hT (by omega) (by omega) (by omega)) om0 rfl rfl rfl rfl ⟨rfl, rfl⟩ (pR_k ?_)
  refine AW.iret X hQ dX12_seenAt_18 ⟨_, rfl, ?_⟩
  exact ⟨rfl, rfl⟩
