/-! traces, the image, status -/
def S_trace (S : St) (i : Int32) : Int32 := if inr i (kk S 3 2) = false then -1 else if nI 20 < i ∨ i = nI 20 then -1 else nI (kk S 4 (cl i))
def S_image (S : St) : Int32 × St := (nI (S.1 6 0 0), (S.1, S.1, upV S.2.2.1 3 1 1, S.2.2.2))
/-- what a shelf holds where a street has m houses -/
def rsh (m v : Nat) : Nat := if 1 ≤ v ∧ v ≤ 100 ∧ m < v then 0 else v
def S_restore (S : St) : Int32 × St := if kk S 3 1 = 0 then ref S 6 0 else (nI (S.2.1 6 0 0), (S.2.1, S.2.1, fun j k => if j = 0 then rsh (S.2.1 6 0 0) (kk S 0 k) else kk S j k, S.2.2.2))
def stOf (S : St) : Nat → Int32
  | 0 => nI (S.1 6 0 0)
  | 1 => nI (coatsAll S.1 (S.1 6 0 0))
  | 2 => nI (S.1 6 0 1)
  | 3 => nI (S.1 6 0 2)
  | 4 => nI (S.1 6 0 3)
  | 5 => nI (S.1 6 0 4)
  | 6 => nI (S.1 6 0 5)
  | _ => nI (kk S 3 2)
def stB (S : St) (x : Int32) : Int32 := if inr x 8 = false then -1 else stOf S (cl x)
def S_status (S : St) (x : Int32) : Int32 := if nI 10 < x then (if nI 17 < x then stB S x else nI (kk S 2 (cl x - 10))) else stB S x
theorem cl7 : cl (nI 7) = 7 := rfl
theorem rx_image {μ μ' : Mm} {S : St} {B : Nat} (h : RX μ S) (hB : TA B) (hn : μ.2.2 0 7 = some B) (h2 : TX μ' 118 S.1) (hs : Same (TR 118) μ μ') (W : WX μ'.2.2) : RX (wI μ' 0 10 (nI 1)) (S.1, S.1, upV S.2.2.1 3 1 1, S.2.2.2) := by
  obtain ⟨⟨i1, i2, i3, i4, i5, i6⟩, -, ⟨B1, Bd, tb, h7, h8, hT⟩, h4, h5⟩ := h
  have ta := two_ta tb
  have s0 : SameI (fun q => q = 0) μ' (wI μ' 0 10 (nI 1)) := SameI.wI rfl
  have r0 : μ'.2.2 0 = μ.2.2 0 := (hs.1 0 (fun z => by have := z.1; omega)).2
  have hx := sx_same h5 hs (fun q hq z => by have := z.1; omega)
  have e0 : ∀ k, k ≠ 10 → (wI μ' 0 10 (nI 1)).1 0 k = μ'.1 0 k := fun k hk => by simp [wI, hk]
  have eq : ∀ q, q ≠ 0 → (wI μ' 0 10 (nI 1)).1 q = μ'.1 q := fun q hq => s0.1 q hq
  have K : ∀ j k, ¬ (j = 3 ∧ k = 1) → upV S.2.2.1 3 1 1 j k = kk S j k := fun j k q => by simp only [upV, if_neg q]
  refine ⟨⟨i1, fun _ => i1, fun s hs8 => ?_, fun s hs8 => ?_, Or.inr rfl, ?_⟩, W, ⟨B1, Bd, tb, by show μ'.2.2 0 7 = _; rw [r0]; exact h7, by show μ'.2.2 0 8 = _; rw [r0]; exact h8, ?_⟩, fun _ => ?_, ?_⟩
  · show upV S.2.2.1 3 1 1 0 s = 0 ∨ _ ∧ _ ∨ _ ∧ _
    rw [K 0 s (by omega)]; exact i3 s hs8
  · show upV S.2.2.1 3 1 1 1 s ≤ 160
    rw [K 1 s (by omega)]; exact i4 s hs8
  · show upV S.2.2.1 3 1 1 3 2 < 1000
    rw [K 3 2 (by omega)]; exact i6
  · exact tx_same (tx_same hT hs (tr_apart (by omega))) s0.same (fun q z y => by have := z.1; have y : q = 0 := y; omega)
  · exact tx_same h2 s0.same (fun q z y => by have := z.1; have y : q = 0 := y; omega)
  · obtain ⟨x1, x2, x3, x4, x5, x6, x7⟩ := hx
    refine ⟨fun s hs8 => ?_, fun i hi => ?_, ?_, ?_, ?_, fun i hi hr => ?_, x7⟩
    · rw [eq 1 (by decide), eq 2 (by decide)]
      show _ = dn (upV S.2.2.1 3 1 1 0 s) ∧ _ = nI (upV S.2.2.1 3 1 1 1 s)
      rw [K 0 s (by omega), K 1 s (by omega)]; exact x1 s hs8
    · rw [eq 12 (by decide)]
      show _ = nI (upV S.2.2.1 3 1 1 2 i)
      rw [K 2 i (by omega)]; exact x2 i hi
    · simp [wI, upV]
    · rw [e0 12 (by decide)]
      show _ = dn (upV S.2.2.1 3 1 1 3 0)
      rw [K 3 0 (by omega)]; exact x4
    · rw [eq 16 (by decide)]
      show _ = nI (upV S.2.2.1 3 1 1 3 2)
      rw [K 3 2 (by omega)]; exact x5
    · rw [eq 17 (by decide)]
      show _ = nI (upV S.2.2.1 3 1 1 4 i)
      rw [K 4 i (by omega)]
      exact x6 i hi (by have : upV S.2.2.1 3 1 1 3 2 = kk S 3 2 := K 3 2 (by omega); rw [← this]; exact hr)
theorem rsh_le {m v : Nat} (h : v = 0 ∨ (1 ≤ v ∧ v ≤ 100) ∨ (101 ≤ v ∧ v ≤ 104)) : rsh m v = 0 ∨ (1 ≤ rsh m v ∧ rsh m v ≤ m) ∨ (101 ≤ rsh m v ∧ rsh m v ≤ 104) := by
  unfold rsh
  split <;> omega
theorem rx_restore {μ μ' μ'' : Mm} {S : St} {B Bd : Nat} (h : RX μ S) (tb : two B Bd) (hn : μ.2.2 0 7 = some B) (hd : μ.2.2 0 8 = some Bd) (hI : kk S 3 1 = 1) (h2 : TX μ' B S.2.1) (hs : Same (TR B) μ μ') (W : WX μ'.2.2) (s1 : SameI (fun q => q = 1) μ' μ'') (hh : ∀ s, s < 8 → μ''.1 1 s = dn (rsh (S.2.1 6 0 0) (kk S 0 s))) : RX μ'' (S.2.1, S.2.1, fun j k => if j = 0 then rsh (S.2.1 6 0 0) (kk S 0 k) else kk S j k, S.2.2.2) := by
  obtain ⟨⟨i1, i2, i3, i4, i5, i6⟩, -, -, h4, h5⟩ := h
  have ta := two_ta tb
  have r0 : μ''.2.2 0 = μ.2.2 0 := by rw [s1.2]; exact (hs.1 0 (fun z => by have := z.1; omega)).2
  have hx := sx_same h5 hs (fun q hq z => by have := z.1; omega)
  have eq : ∀ q, q ≠ 1 → μ''.1 q = μ'.1 q := fun q hq => s1.1 q hq
  refine ⟨⟨i2 hI, fun _ => i2 hI, fun s hs8 => ?_, i4, i5, i6⟩, wx_same W s1, ⟨B, Bd, tb, by rw [r0]; exact hn, by rw [r0]; exact hd, tx_same h2 s1.same (fun q z y => by have := z.1; have y : q = 1 := y; omega)⟩, fun _ => ?_, ?_⟩
  · have := i3 s hs8
    exact rsh_le (by have := ti_n i1; omega)
  · exact tx_same (tx_same (h4 hI) hs (tr_apart (by omega))) s1.same (fun q z y => by have := z.1; have y : q = 1 := y; omega)
  · obtain ⟨x1, x2, x3, x4, x5, x6, x7⟩ := hx
    refine ⟨fun s hs8 => ⟨hh s hs8, by rw [eq 2 (by decide)]; exact (x1 s hs8).2⟩, fun i hi => by rw [eq 12 (by decide)]; exact x2 i hi, by rw [eq 0 (by decide)]; exact x3, by rw [eq 0 (by decide)]; exact x4, by rw [eq 16 (by decide)]; exact x5, fun i hi hr => by rw [eq 17 (by decide)]; exact x6 i hi hr, fun s hs8 i hi => by rw [s1.2]; exact x7 s hs8 i hi⟩
theorem ta_118 : TA 118 := Or.inr (Or.inr rfl)
set_option maxRecDepth 100000 in
set_option maxHeartbeats 4000000 in
theorem c_X11_trace {l : Launch} {δ : Dl} {b : Nat} {μ : Mm} {S : St} (hR : RX μ S) {xa : Int32} : MCX l δ b yX11_trace cX11_trace 2 (some .int) 2 [.ref (b + 0), .int xa] μ (pI fun r μ' => r = S_trace S xa ∧ μ' = μ) := by
  obtain ⟨B, Bd, tb, hnow, hdr, hT⟩ := hR.2.2.1
  have W := rx_w hR
  have ta := two_ta tb
  have hB := ta.1
  have hBd := ta.2.1
  have bn := ti_n hT.1
  have bq := hR.1.2.2.2.2.2
  refine MC.intro ([some (.ref (b + 0)), some (.int xa)]) (by decide) rfl rfl fun κ Qc hl hQ X => ?_
  subst hl
  refine AW.iload_n X dX11_trace_0 (i := 1) rfl rfl ?_
  refine AW.aload_n X dX11_trace_1 (i := 0) rfl rfl ?_
  refine AW.getR X dX11_trace_2 fX11_51 rfl ox0 (wx_latest W) ?_
  refine AW.getI X dX11_trace_5 fX11_305 rfl ox16 (rx_ran hR) ?_
  refine AW.callS X dX11_trace_8 lX11_91 (c_X11_outside) rfl rfl rfl rfl ⟨rfl, rfl⟩ (pR_k ?_)
  refine AW.if_neB X (tgt := 20) dX11_trace_11 (by decide) (fun h11 => ?_) (fun h11 => ?_)
  · simp only [Bool.not_eq_true', Bool.not_eq_false'] at h11
    refine AW.iconst X (v := -1) dX11_trace_20 rfl ?_
    refine AW.iret X hQ dX11_trace_21 ⟨_, rfl, ?_⟩
    exact ⟨by simp [S_trace, *], rfl⟩
  · simp only [Bool.not_eq_true', Bool.not_eq_false'] at h11
    obtain ⟨jx, hjx, ejx⟩ := inr_of (x := xa) (m := (kk S 3 2)) (by omega) h11
    subst ejx
    have cjx := cl_n (show jx < 2147483648 by omega)
    refine AW.iload_n X dX11_trace_14 (i := 1) rfl rfl ?_
    refine AW.bipushN X 20 dX11_trace_15 rfl ?_
    refine AW.icmp_ltN X (tgt := 22) dX11_trace_17 (by decide) (by omega) (by omega) (fun h17 => ?_) (fun h17 => ?_)
    · have g17 : ¬ (nI 20 < nI jx ∨ nI jx = nI 20) := by rw [n2_lt (by decide) (by omega), n2_eq (by omega) (by decide)]; omega
      have n17 := Nat.not_le_of_lt h17
      refine AW.aload_n X dX11_trace_22 (i := 0) rfl rfl ?_
      refine AW.getR X dX11_trace_23 fX11_51 rfl ox0 (wx_latest W) ?_
      refine AW.getR X dX11_trace_26 fX11_324 rfl ox16 (wx_bodies W) ?_
      refine AW.iload_n X dX11_trace_29 (i := 1) rfl rfl ?_
      refine AW.iaload X dX11_trace_30 ax17 (n2_in (by omega) (by decide)) (v := (nI (kk S 4 jx))) (by rw [n2_clamp (by omega)]; exact rx_body hR (by omega) (by omega)) ?_
      refine AW.iret X hQ dX11_trace_31 ⟨_, rfl, ?_⟩
      exact ⟨by simp [S_trace, *], rfl⟩
    · have g17 : nI 20 < nI jx ∨ nI jx = nI 20 := by rw [n2_lt (by decide) (by omega), n2_eq (by omega) (by decide)]; omega
      have n17 := Nat.not_lt_of_le h17
      refine AW.iconst X (v := -1) dX11_trace_20 rfl ?_
      refine AW.iret X hQ dX11_trace_21 ⟨_, rfl, ?_⟩
      exact ⟨by simp [S_trace, *], rfl⟩
set_option maxRecDepth 100000 in
set_option maxHeartbeats 4000000 in
theorem c_X11_image {l : Launch} {δ : Dl} {b : Nat} {μ : Mm} {S : St} (hR : RX μ S)  : MCX l δ b yX11_image cX11_image 1 (some .int) 3 [.ref (b + 0)] μ (pI fun r μ' => r = (S_image S ).1 ∧ RX μ' (S_image S ).2) := by
  obtain ⟨B, Bd, tb, hnow, hdr, hT⟩ := hR.2.2.1
  have W := rx_w hR
  have ta := two_ta tb
  have hB := ta.1
  have hBd := ta.2.1
  have bn := ti_n hT.1
  refine MC.intro ([some (.ref (b + 0))]) (by decide) rfl rfl fun κ Qc hl hQ X => ?_
  subst hl
  refine AW.aload_n X dX11_image_0 (i := 0) rfl rfl ?_
  refine AW.getR X dX11_image_1 fX11_88 rfl ox0 (wx_kept W) ?_
  refine AW.aload_n X dX11_image_4 (i := 0) rfl rfl ?_
  refine AW.getR X dX11_image_5 fX11_81 rfl ox0 hnow ?_
  refine AW.callV X dX11_image_8 lX11_210 cfX9 (c_X9_become W ta_118 hB hT (by omega)) (ta_ob ta_118) rfl rfl rfl rfl ⟨rfl, rfl⟩ (pV_k fun μ2 hp => ?_)
  obtain ⟨p1, p2, p3⟩ := hp
  have hnow9 := hnow
  have hnow : μ2.2.2 0 7 = some B := by rw [(p2.1 0 (fun z => by have := z.1; omega)).2]; exact hnow9
  have hTk : TX (wI μ2 0 10 (nI 1)) B S.1 := tx_same (tx_same hT p2 (tr_apart (by omega))) (SameI.wI (P := fun q => q = 0) rfl).same (fun q z y => by have := z.1; have y : q = 0 := y; omega)
  refine AW.aload_n X dX11_image_11 (i := 0) rfl rfl ?_
  refine AW.iconstN X 1 dX11_image_12 rfl ?_
  refine AW.putI X dX11_image_13 fX11_34 rfl rfl ⟨rfl, rfl⟩ (by decide) ox0 ?_
  refine AW.aload_n X dX11_image_16 (i := 0) rfl rfl ?_
  refine AW.getR X dX11_image_17 fX11_81 rfl ox0 hnow ?_
  refine AW.getI X dX11_image_20 fX11_144 rfl (ta_ob hB) (v := (nI (S.1 6 0 0))) (tx_n hTk) ?_
  refine AW.iret X hQ dX11_image_23 ⟨_, rfl, ?_⟩
  exact rx_val (by simp [S_image]) (rx_image hR hB hnow9 p1 p2 p3)
set_option maxRecDepth 100000 in
set_option maxHeartbeats 4000000 in
theorem cw_holdsHouse {l : Launch} {δ : Dl} {b : Nat} {μ : Mm} {v m : Nat} {s : Nat} (W : WX μ.2.2) (hs : s < 8) (hv : v ≤ 104) (hh : μ.1 1 s = dn v)  : MCX l δ b yX11_holdsHouse cX11_holdsHouse 2 (some .boolean) 1 [.ref (b + 0), .int (nI s)] μ (pI fun r μ' => r = bI (decide (1 ≤ v ∧ v ≤ 100)) ∧ μ' = μ) := by
  refine MC.intro ([some (.ref (b + 0)), some (.int (nI s))]) (by decide) rfl rfl fun κ Qc hl hQ X => ?_
  subst hl
  refine AW.aload_n X dX11_holdsHouse_0 (i := 0) rfl rfl ?_
  refine AW.getR X dX11_holdsHouse_1 fX11_9 rfl ox0 (wx_held W) ?_
  refine AW.iload_n X dX11_holdsHouse_4 (i := 1) rfl rfl ?_
  refine AW.iaload X dX11_holdsHouse_5 ax1 (n2_in (by omega) (by decide)) (v := (dn v)) (by rw [n2_clamp (by omega)]; exact hh) ?_
  refine AW.iconst X (v := -1) dX11_holdsHouse_6 rfl ?_
  refine AW.icmp_eq X (tgt := 25) dX11_holdsHouse_7 (by decide) (fun h7 => ?_) (fun h7 => ?_)
  · rw [dn_m1 (by omega)] at h7
    refine AW.iconstN X 0 dX11_holdsHouse_25 rfl ?_
    refine AW.zret X rfl hQ dX11_holdsHouse_26 ⟨_, rfl, ?_⟩
    have e : (decide (1 ≤ v ∧ v ≤ 100)) = false := by simp; omega
    exact ⟨by rw [e]; rfl, rfl⟩
  · rw [dn_m1 (by omega)] at h7
    refine AW.aload_n X dX11_holdsHouse_10 (i := 0) rfl rfl ?_
    refine AW.getR X dX11_holdsHouse_11 fX11_9 rfl ox0 (wx_held W) ?_
    refine AW.iload_n X dX11_holdsHouse_14 (i := 1) rfl rfl ?_
    refine AW.iaload X dX11_holdsHouse_15 ax1 (n2_in (by omega) (by decide)) (v := (dn (kk S 0 s))) (by rw [n2_clamp (by omega)]; exact rx_held hR (by omega)) ?_
    refine AW.bipushN X 100 dX11_holdsHouse_16 rfl ?_
    refine AW.icmp_ge X (tgt := 25) dX11_holdsHouse_18 (by decide) (fun h18 => ?_) (fun h18 => ?_)
    · replace h18 := Int32.not_lt.mpr h18
      rw [dn_lt (by omega) (by omega)] at h18
      refine AW.iconstN X 0 dX11_holdsHouse_25 rfl ?_
      refine AW.zret X rfl hQ dX11_holdsHouse_26 ⟨_, rfl, ?_⟩
      have e : (decide (1 ≤ v ∧ v ≤ 100)) = false := by simp; omega
      exact ⟨by rw [e]; rfl, rfl⟩
    · replace h18 := Int32.not_le.mp h18
      rw [dn_lt (by omega) (by omega)] at h18
      refine AW.iconstN X 1 dX11_holdsHouse_21 rfl ?_
      refine AW.goto X (tgt := 26) dX11_holdsHouse_22 (by decide) ?_
      refine AW.zret X rfl hQ dX11_holdsHouse_26 ⟨_, rfl, ?_⟩
      have e : (decide (1 ≤ v ∧ v ≤ 100)) = true := by simp; omega
      exact ⟨by rw [e]; rfl, rfl⟩
set_option maxRecDepth 100000 in
set_option maxHeartbeats 4000000 in
theorem cw_noHouse {l : Launch} {δ : Dl} {b : Nat} {μ : Mm} {B : Nat} {xa : Int32} {m : Nat} (W : WX μ.2.2) (hB : TA B) (hnow : μ.2.2 0 7 = some B) (hn : μ.1 B 2 = nI m)  : MCX l δ b yX11_noHouse cX11_noHouse 2 (some .boolean) 2 [.ref (b + 0), .int xa] μ (pI fun r μ' => r = bI (!inr xa m) ∧ μ' = μ) := by
  refine MC.intro ([some (.ref (b + 0)), some (.int xa)]) (by decide) rfl rfl fun κ Qc hl hQ X => ?_
  subst hl
  refine AW.iload_n X dX11_noHouse_0 (i := 1) rfl rfl ?_
  refine AW.aload_n X dX11_noHouse_1 (i := 0) rfl rfl ?_
  refine AW.getR X dX11_noHouse_2 fX11_81 rfl ox0 hnow ?_
  refine AW.getI X dX11_noHouse_5 fX11_144 rfl (ta_ob hB) (v := (nI m)) hn ?_
  refine AW.callS X dX11_noHouse_8 lX11_91 (c_X11_outside) rfl rfl rfl rfl ⟨rfl, rfl⟩ (pR_k ?_)
  refine AW.zret X (bI_n _) hQ dX11_noHouse_11 ⟨_, rfl, ?_⟩
  exact ⟨rfl, rfl⟩
