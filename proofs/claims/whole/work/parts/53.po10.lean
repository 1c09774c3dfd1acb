/-! traces, the image, status -/
def S_trace (S : St) (i : Int32) : Int32 := if inr i (kk S 3 2) = false then -1 else if nI 20 < i ∨ i = nI 20 then -1 else nI (kk S 4 (cl i))
def S_image (S : St) : Int32 × St := (nI (S.1 6 0 0), (S.1, S.1, upV S.2.2.1 3 1 1, S.2.2.2))
/-- what a shelf holds where a street has m houses -/
def rsh (m v : Nat) : Nat := if 1 ≤ v ∧ v ≤ 100 ∧ m < v then 0 else v
def S_restore (S : St) : Int32 × St := if kk S 3 1 = 0 then ref S 6 0 else (nI (S.2.1 6 0 0), (S.2.1, S.2.1, fun j k => if j = 0 then rsh (S.2.1 6 0 0) (kk S 0 k) else kk S j k, S.2.2.2))
def stsO (S : St) : Nat → Int32
  | 0 => nI (S.1 6 0 0)
  | 1 => nI (coatsAll S.1 (S.1 6 0 0))
  | 2 => nI (S.1 6 0 1)
  | 3 => nI (S.1 6 0 2)
  | 4 => nI (S.1 6 0 3)
  | 5 => nI (S.1 6 0 4)
  | 6 => nI (S.1 6 0 5)
  | _ => nI (kk S 3 2)
def stsB (S : St) (x : Int32) : Int32 := if inr x 8 = false then -1 else stsO S (cl x)
def S_status (S : St) (x : Int32) : Int32 := if nI 10 < x then (if nI 17 < x then stsB S x else nI (kk S 2 (cl x - 10))) else stsB S x
theorem cl7 : cl (nI 7) = 7 := rfl
theorem rx_image {μ μ' : Mm} {S : St} {B : Nat} (h : RX μ S) (hB : TA B) (hn : μ.2.2 0 7 = some B) (h2 : TX μ' 118 S.1) (hs : Same (TR 118) μ μ') (W : WX μ'.2.2) : RX (wI μ' 0 10 (nI 1)) (S.1, S.1, upV S.2.2.1 3 1 1, S.2.2.2) := by
  obtain ⟨⟨i1, i2, i3, i4, i5, i6⟩, -, ⟨B1, Bd, tb, h7, h8, hT⟩, h4, h5⟩ := h
  have ta := two_ta tb
  have s0 : SameI (fun q => q = 0) μ' (wI μ' 0 10 (nI 1)) := SameI.wI rfl
  have r0 : μ'.2.2 0 = μ.2.2 0 := (hs.1 0 (fun z => by have := z.1; omega)).2
  have hx := sx_same h5 hs (fun q hq z => by have := z.1; omega)
  have e0 : ∀ k, k ≠ 10 → (wI μ' 0 10 (nI 1)).1 0 k = μ'.1 0 k := fun k hk => by simp [wI, hk]
  have eq : ∀ q, q ≠ 0 → (wI μ' 0 10 (nI 1)).1 q = μ'.1 q := fun q hq => s0.1 q hq
  have K : ∀ j k, ¬ (j = 3 ∧ k = 1) → upV S.2.2.1 3 1 1 j k = kk S j k := fun j k q => by simp only [upV, if_neg q]
  refine ⟨⟨i1, fun _ => i1, fun s hs8 => ?_, fun s hs8 => ?_, Or.inr rfl, ?_⟩, W, ⟨B1, Bd, tb, by show μ'.2.2 0 7 = _; rw [r0]; exact h7, by show μ'.2.2 0 8 = _; rw [r0]; exact h8, ?_⟩, fun _ => ?_, ?_⟩
  · show upV S.2.2.1 3 1 1 0 s = 0 ∨ _ ∧ _ ∨ _ ∧ _
    rw [K 0 s (by omega)]; exact i3 s hs8
  · show upV S.2.2.1 3 1 1 1 s ≤ 160
    rw [K 1 s (by omega)]; exact i4 s hs8
  · show upV S.2.2.1 3 1 1 3 2 < 1000
    rw [K 3 2 (by omega)]; exact i6
  · exact tx_same (tx_same hT hs (tr_apart (by omega))) s0.same (fun q z y => by have := z.1; have y : q = 0 := y; omega)
  · exact tx_same h2 s0.same (fun q z y => by have := z.1; have y : q = 0 := y; omega)
  · obtain ⟨x1, x2, x3, x4, x5, x6, x7⟩ := hx
    refine ⟨fun s hs8 => ?_, fun i hi => ?_, ?_, ?_, ?_, fun i hi hr => ?_, x7⟩
    · rw [eq 1 (by decide), eq 2 (by decide)]
      show _ = dn (upV S.2.2.1 3 1 1 0 s) ∧ _ = nI (upV S.2.2.1 3 1 1 1 s)
      rw [K 0 s (by omega), K 1 s (by omega)]; exact x1 s hs8
    · rw [eq 12 (by decide)]
      show _ = nI (upV S.2.2.1 3 1 1 2 i)
      rw [K 2 i (by omega)]; exact x2 i hi
    · simp [wI, upV, kk]
    · rw [e0 12 (by decide)]
      show _ = dn (upV S.2.2.1 3 1 1 3 0)
      rw [K 3 0 (by omega)]; exact x4
    · rw [eq 16 (by decide)]
      show _ = nI (upV S.2.2.1 3 1 1 3 2)
      rw [K 3 2 (by omega)]; exact x5
    · rw [eq 17 (by decide)]
      show _ = nI (upV S.2.2.1 3 1 1 4 i)
      rw [K 4 i (by omega)]
      exact x6 i hi (by have : upV S.2.2.1 3 1 1 3 2 = kk S 3 2 := K 3 2 (by omega); rw [← this]; exact hr)
theorem rsh_le {m v : Nat} (h : v = 0 ∨ (1 ≤ v ∧ v ≤ 100) ∨ (101 ≤ v ∧ v ≤ 104)) : rsh m v = 0 ∨ (1 ≤ rsh m v ∧ rsh m v ≤ m) ∨ (101 ≤ rsh m v ∧ rsh m v ≤ 104) := by
  unfold rsh
  split <;> omega
theorem rx_restore {μ μ' μ'' : Mm} {S : St} {B Bd : Nat} (h : RX μ S) (tb : two B Bd) (hn : μ.2.2 0 7 = some B) (hd : μ.2.2 0 8 = some Bd) (hI : kk S 3 1 = 1) (h2 : TX μ' B S.2.1) (hs : Same (TR B) μ μ') (W : WX μ'.2.2) (s1 : SameI (fun q => q = 1) μ' μ'') (hh : ∀ s, s < 8 → μ''.1 1 s = dn (rsh (S.2.1 6 0 0) (kk S 0 s))) : RX μ'' (S.2.1, S.2.1, fun j k => if j = 0 then rsh (S.2.1 6 0 0) (kk S 0 k) else kk S j k, S.2.2.2) := by
  obtain ⟨⟨i1, i2, i3, i4, i5, i6⟩, -, -, h4, h5⟩ := h
  have ta := two_ta tb
  have r0 : μ''.2.2 0 = μ.2.2 0 := by rw [s1.2]; exact (hs.1 0 (fun z => by have := z.1; omega)).2
  have hx := sx_same h5 hs (fun q hq z => by have := z.1; omega)
  have eq : ∀ q, q ≠ 1 → μ''.1 q = μ'.1 q := fun q hq => s1.1 q hq
  refine ⟨⟨i2 hI, fun _ => i2 hI, fun s hs8 => ?_, i4, i5, i6⟩, wx_same W s1, ⟨B, Bd, tb, by rw [r0]; exact hn, by rw [r0]; exact hd, tx_same h2 s1.same (fun q z y => by have := z.1; have y : q = 1 := y; omega)⟩, fun _ => ?_, ?_⟩
  · have := i3 s hs8
    exact rsh_le (by have := ti_n i1; omega)
  · exact tx_same (tx_same (h4 hI) hs (tr_apart (by omega))) s1.same (fun q z y => by have := z.1; have y : q = 1 := y; omega)
  · obtain ⟨x1, x2, x3, x4, x5, x6, x7⟩ := hx
    refine ⟨fun s hs8 => ⟨hh s hs8, by rw [eq 2 (by decide)]; exact (x1 s hs8).2⟩, fun i hi => by rw [eq 12 (by decide)]; exact x2 i hi, by rw [eq 0 (by decide)]; exact x3, by rw [eq 0 (by decide)]; exact x4, by rw [eq 16 (by decide)]; exact x5, fun i hi hr => by rw [eq 17 (by decide)]; exact x6 i hi hr, fun s hs8 i hi => by rw [s1.2]; exact x7 s hs8 i hi⟩
theorem ta_118 : TA 118 := Or.inr (Or.inr rfl)
set_option maxRecDepth 100000 in
set_option maxHeartbeats 4000000 in
theorem c_X11_trace {l : Launch} {δ : Dl} {b : Nat} {μ : Mm} {S : St} (hR : RX μ S) {xa : Int32} : MCX l δ b yX11_trace cX11_trace 2 (some .int) 2 [.ref (b + 0), .int xa] μ (pI fun r μ' => r = S_trace S xa ∧ μ' = μ) := by
  obtain ⟨B, Bd, tb, hnow, hdr, hT⟩ := hR.2.2.1
  have W := rx_w hR
  have ta := two_ta tb
  have hB := ta.1
  have hBd := ta.2.1
  have bn := ti_n hT.1
  have bq := hR.1.2.2.2.2.2
  refine MC.intro ([some (.ref (b + 0)), some (.int xa)]) (by decide) rfl rfl fun κ Qc hl hQ X => ?_
  subst hl
  refine AW.iload_n X dX11_trace_0 (i := 1) rfl rfl ?_
  refine AW.aload_n X dX11_trace_1 (i := 0) rfl rfl ?_
  refine AW.getR X dX11_trace_2 fX11_51 rfl ox0 (wx_latest W) ?_
  refine AW.getI X dX11_trace_5 fX11_305 rfl ox16 (rx_ran hR) ?_
  refine AW.callS X dX11_trace_8 lX11_91 (c_X11_outside) rfl rfl rfl rfl ⟨rfl, rfl⟩ (pR_k ?_)
  refine AW.if_neB X (tgt := 20) dX11_trace_11 (by decide) (fun h11 => ?_) (fun h11 => ?_)
  · simp only [Bool.not_eq_true', Bool.not_eq_false'] at h11
    refine AW.iconst X (v := -1) dX11_trace_20 rfl ?_
    refine AW.iret X hQ dX11_trace_21 ⟨_, rfl, ?_⟩
    exact ⟨by simp [S_trace, *], rfl⟩
  · simp only [Bool.not_eq_true', Bool.not_eq_false'] at h11
    obtain ⟨jx, hjx, ejx⟩ := inr_of (x := xa) (m := (kk S 3 2)) (by omega) h11
    subst ejx
    have cjx := cl_n (show jx < 2147483648 by omega)
    refine AW.iload_n X dX11_trace_14 (i := 1) rfl rfl ?_
    refine AW.bipushN X 20 dX11_trace_15 rfl ?_
    refine AW.icmp_ltN X (tgt := 22) dX11_trace_17 (by decide) (by omega) (by omega) (fun h17 => ?_) (fun h17 => ?_)
    · have g17 : ¬ (nI 20 < nI jx ∨ nI jx = nI 20) := by rw [n2_lt (by decide) (by omega), n2_eq (by omega) (by decide)]; omega
      have n17 := Nat.not_le_of_lt h17
      refine AW.aload_n X dX11_trace_22 (i := 0) rfl rfl ?_
      refine AW.getR X dX11_trace_23 fX11_51 rfl ox0 (wx_latest W) ?_
      refine AW.getR X dX11_trace_26 fX11_324 rfl ox16 (wx_bodies W) ?_
      refine AW.iload_n X dX11_trace_29 (i := 1) rfl rfl ?_
      refine AW.iaload X dX11_trace_30 ax17 (n2_in (by omega) (by decide)) (v := (nI (kk S 4 jx))) (by rw [n2_clamp (by omega)]; exact rx_body hR (by omega) (by omega)) ?_
      refine AW.iret X hQ dX11_trace_31 ⟨_, rfl, ?_⟩
      exact ⟨by simp [S_trace, *], rfl⟩
    · have g17 : nI 20 < nI jx ∨ nI jx = nI 20 := by rw [n2_lt (by decide) (by omega), n2_eq (by omega) (by decide)]; omega
      have n17 := Nat.not_lt_of_le h17
      refine AW.iconst X (v := -1) dX11_trace_20 rfl ?_
      refine AW.iret X hQ dX11_trace_21 ⟨_, rfl, ?_⟩
      exact ⟨by simp [S_trace, *], rfl⟩
set_option maxRecDepth 100000 in
set_option maxHeartbeats 4000000 in
theorem c_X11_image {l : Launch} {δ : Dl} {b : Nat} {μ : Mm} {S : St} (hR : RX μ S)  : MCX l δ b yX11_image cX11_image 1 (some .int) 3 [.ref (b + 0)] μ (pI fun r μ' => r = (S_image S ).1 ∧ RX μ' (S_image S ).2) := by
  obtain ⟨B, Bd, tb, hnow, hdr, hT⟩ := hR.2.2.1
  have W := rx_w hR
  have ta := two_ta tb
  have hB := ta.1
  have hBd := ta.2.1
  have bn := ti_n hT.1
  refine MC.intro ([some (.ref (b + 0))]) (by decide) rfl rfl fun κ Qc hl hQ X => ?_
  subst hl
  refine AW.aload_n X dX11_image_0 (i := 0) rfl rfl ?_
  refine AW.getR X dX11_image_1 fX11_88 rfl ox0 (wx_kept W) ?_
  refine AW.aload_n X dX11_image_4 (i := 0) rfl rfl ?_
  refine AW.getR X dX11_image_5 fX11_81 rfl ox0 hnow ?_
  refine AW.callV X dX11_image_8 lX11_210 cfX9 (c_X9_become W ta_118 hB hT (by omega)) (ta_ob ta_118) rfl rfl rfl rfl ⟨rfl, rfl⟩ (pV_k fun μ2 hp => ?_)
  obtain ⟨p1, p2, p3⟩ := hp
  have hnow9 := hnow
  have hnow : μ2.2.2 0 7 = some B := by rw [(p2.1 0 (fun z => by have := z.1; omega)).2]; exact hnow9
  have hTk : TX (wI μ2 0 10 (nI 1)) B S.1 := tx_same (tx_same hT p2 (tr_apart (by omega))) (SameI.wI (P := fun q => q = 0) rfl).same (fun q z y => by have := z.1; have y : q = 0 := y; omega)
  refine AW.aload_n X dX11_image_11 (i := 0) rfl rfl ?_
  refine AW.iconstN X 1 dX11_image_12 rfl ?_
  refine AW.putI X dX11_image_13 fX11_34 rfl rfl ⟨rfl, rfl⟩ (by decide) ox0 ?_
  refine AW.aload_n X dX11_image_16 (i := 0) rfl rfl ?_
  refine AW.getR X dX11_image_17 fX11_81 rfl ox0 hnow ?_
  refine AW.getI X dX11_image_20 fX11_144 rfl (ta_ob hB) (v := (nI (S.1 6 0 0))) (tx_n hTk) ?_
  refine AW.iret X hQ dX11_image_23 ⟨_, rfl, ?_⟩
  exact rx_val (by simp [S_image]) (rx_image hR hB hnow9 p1 p2 p3)
set_option maxRecDepth 100000 in
set_option maxHeartbeats 4000000 in
theorem cw_holdsHouse {l : Launch} {δ : Dl} {b : Nat} {μ : Mm} {v : Nat} {s : Nat} (W : WX μ.2.2) (hs : s < 8) (hv : v ≤ 104) (hh : μ.1 1 s = dn v)  : MCX l δ b yX11_holdsHouse cX11_holdsHouse 2 (some .boolean) 1 [.ref (b + 0), .int (nI s)] μ (pI fun r μ' => r = bI (decide (1 ≤ v ∧ v ≤ 100)) ∧ μ' = μ) := by
  refine MC.intro ([some (.ref (b + 0)), some (.int (nI s))]) (by decide) rfl rfl fun κ Qc hl hQ X => ?_
  subst hl
  refine AW.aload_n X dX11_holdsHouse_0 (i := 0) rfl rfl ?_
  refine AW.getR X dX11_holdsHouse_1 fX11_9 rfl ox0 (wx_held W) ?_
  refine AW.iload_n X dX11_holdsHouse_4 (i := 1) rfl rfl ?_
  refine AW.iaload X dX11_holdsHouse_5 ax1 (n2_in (by omega) (by decide)) (v := (dn v)) (by rw [n2_clamp (by omega)]; exact hh) ?_
  refine AW.iconst X (v := -1) dX11_holdsHouse_6 rfl ?_
  refine AW.icmp_eq X (tgt := 25) dX11_holdsHouse_7 (by decide) (fun h7 => ?_) (fun h7 => ?_)
  · rw [dn_m1 (by omega)] at h7
    refine AW.iconstN X 0 dX11_holdsHouse_25 rfl ?_
    refine AW.zret X rfl hQ dX11_holdsHouse_26 ⟨_, rfl, ?_⟩
    have e : (decide (1 ≤ v ∧ v ≤ 100)) = false := by simp; omega
    exact ⟨by rw [e]; rfl, rfl⟩
  · rw [dn_m1 (by omega)] at h7
    refine AW.aload_n X dX11_holdsHouse_10 (i := 0) rfl rfl ?_
    refine AW.getR X dX11_holdsHouse_11 fX11_9 rfl ox0 (wx_held W) ?_
    refine AW.iload_n X dX11_holdsHouse_14 (i := 1) rfl rfl ?_
    refine AW.iaload X dX11_holdsHouse_15 ax1 (n2_in (by omega) (by decide)) (v := (dn v)) (by rw [n2_clamp (by omega)]; exact hh) ?_
    refine AW.bipushN X 100 dX11_holdsHouse_16 rfl ?_
    refine AW.icmp_ge X (tgt := 25) dX11_holdsHouse_18 (by decide) (fun h18 => ?_) (fun h18 => ?_)
    · replace h18 := Int32.not_lt.mpr h18
      rw [dn_lt (by omega) (by omega)] at h18
      refine AW.iconstN X 0 dX11_holdsHouse_25 rfl ?_
      refine AW.zret X rfl hQ dX11_holdsHouse_26 ⟨_, rfl, ?_⟩
      have e : (decide (1 ≤ v ∧ v ≤ 100)) = false := by simp; omega
      exact ⟨by rw [e]; rfl, rfl⟩
    · replace h18 := Int32.not_le.mp h18
      rw [dn_lt (by omega) (by omega)] at h18
      refine AW.iconstN X 1 dX11_holdsHouse_21 rfl ?_
      refine AW.goto X (tgt := 26) dX11_holdsHouse_22 (by decide) ?_
      refine AW.zret X rfl hQ dX11_holdsHouse_26 ⟨_, rfl, ?_⟩
      have e : (decide (1 ≤ v ∧ v ≤ 100)) = true := by simp; omega
      exact ⟨by rw [e]; rfl, rfl⟩
set_option maxRecDepth 100000 in
set_option maxHeartbeats 4000000 in
theorem cw_noHouse {l : Launch} {δ : Dl} {b : Nat} {μ : Mm} {B : Nat} {xa : Int32} {m : Nat} (W : WX μ.2.2) (hB : TA B) (hnow : μ.2.2 0 7 = some B) (hn : μ.1 B 2 = nI m)  : MCX l δ b yX11_noHouse cX11_noHouse 2 (some .boolean) 2 [.ref (b + 0), .int xa] μ (pI fun r μ' => r = bI (!inr xa m) ∧ μ' = μ) := by
  refine MC.intro ([some (.ref (b + 0)), some (.int xa)]) (by decide) rfl rfl fun κ Qc hl hQ X => ?_
  subst hl
  refine AW.iload_n X dX11_noHouse_0 (i := 1) rfl rfl ?_
  refine AW.aload_n X dX11_noHouse_1 (i := 0) rfl rfl ?_
  refine AW.getR X dX11_noHouse_2 fX11_81 rfl ox0 hnow ?_
  refine AW.getI X dX11_noHouse_5 fX11_144 rfl (ta_ob hB) (v := (nI m)) hn ?_
  refine AW.callS X dX11_noHouse_8 lX11_91 (c_X11_outside) rfl rfl rfl rfl ⟨rfl, rfl⟩ (pR_k ?_)
  refine AW.zret X (bI_n _) hQ dX11_noHouse_11 ⟨_, rfl, ?_⟩
  exact ⟨rfl, rfl⟩
theorem inr_dn {v m : Nat} (hv : v ≤ 104) (hm : m ≤ 6) : inr (dn v) m = decide (1 ≤ v ∧ v ≤ m) := by
  unfold inr
  refine decide_eq_decide.mpr ?_
  cases v with
  | zero =>
    rw [dn_0]
    constructor
    · intro q; exact absurd q.1 (by decide)
    · intro q; omega
  | succ v =>
    have h0 : (0 : Int32) ≤ nI v := (n2_le (a := 0) (by decide) (by omega)).mpr (Nat.zero_le _)
    rw [dn_s, n2_lt (by omega) (by omega)]
    constructor
    · intro q; omega
    · intro q; exact ⟨h0, by omega⟩
theorem rsh_step {fa fb : Nat → Int32} {ga : Nat → Nat} {m ix : Nat} (h : ∀ s, s < 8 → fa s = dn (if s < ix then rsh m (ga s) else ga s)) (hf : ∀ s, s ≠ ix → fb s = fa s) (hi : fb ix = dn (rsh m (ga ix))) : ∀ s, s < 8 → fb s = dn (if s < ix + 1 then rsh m (ga s) else ga s) := by
  intro s hs
  by_cases z : s = ix
  · subst z
    rw [hi, if_pos (by omega)]
  · rw [hf s z, h s hs]
    by_cases y : s < ix
    · rw [if_pos y, if_pos (by omega)]
    · rw [if_neg y, if_neg (by omega)]
set_option maxRecDepth 100000 in
set_option maxHeartbeats 4000000 in
theorem c_X11_restore {l : Launch} {δ : Dl} {b : Nat} {μ : Mm} {S : St} (hR : RX μ S)  : MCX l δ b yX11_restore cX11_restore 2 (some .int) 3 [.ref (b + 0)] μ (pI fun r μ' => r = (S_restore S ).1 ∧ RX μ' (S_restore S ).2) := by
  obtain ⟨B, Bd, tb, hnow, hdr, hT⟩ := hR.2.2.1
  have W := rx_w hR
  have ta := two_ta tb
  have hB := ta.1
  have hBd := ta.2.1
  have bn := ti_n hT.1
  have hI5 : kk S 3 1 = 0 ∨ kk S 3 1 = 1 := hR.1.2.2.2.2.1
  refine MC.intro ([some (.ref (b + 0)), none]) (by decide) rfl rfl fun κ Qc hl hQ X => ?_
  subst hl
  refine AW.aload_n X dX11_restore_0 (i := 0) rfl rfl ?_
  refine AW.getI X dX11_restore_1 fX11_34 rfl ox0 (rx_imaged hR) ?_
  refine AW.if_neN X (tgt := 14) dX11_restore_4 (by decide) (by omega) (fun h4 => ?_) (fun h4 => ?_)
  · have hI : kk S 3 1 = 1 := by have := hR.1.2.2.2.2.1; omega
    have g4 : ¬ kk S 3 1 = 0 := h4
    refine AW.aload_n X dX11_restore_14 (i := 0) rfl rfl ?_
    refine AW.getR X dX11_restore_15 fX11_81 rfl ox0 hnow ?_
    refine AW.aload_n X dX11_restore_18 (i := 0) rfl rfl ?_
    refine AW.getR X dX11_restore_19 fX11_88 rfl ox0 (wx_kept W) ?_
    refine AW.callV X dX11_restore_22 lX11_210 cfX9 (c_X9_become W hB ta_118 (hR.2.2.2.1 hI) (by omega)) (ta_ob hB) rfl rfl rfl rfl ⟨rfl, rfl⟩ (pV_k fun μ2 hp => ?_)
    obtain ⟨p1, p2, p3⟩ := hp
    have hnow9 := hnow
    have hnow2 : μ2.2.2 0 7 = some B := by rw [(p2.1 0 (fun z => by have := z.1; omega)).2]; exact hnow9
    have hd2 : ∀ s, s < 8 → μ2.1 1 s = dn (kk S 0 s) := fun s hs => by rw [(p2.1 1 (fun z => by have := z.1; omega)).1]; exact rx_held hR hs
    have mn := ti_n p1.1
    refine AW.iconstN X 0 dX11_restore_25 rfl ?_
    refine AW.istore_n X dX11_restore_26 (i := 1) rfl rfl ?_
    have L27 : ∀ (m27 ix : Nat) (μc : Mm), 8 - ix < m27 → ix ≤ 8 → (SameI (fun q => q = 1) μ2 μc) → (∀ s, s < 8 → μc.1 1 s = dn (if s < ix then rsh (S.2.1 6 0 0) (kk S 0 s) else kk S 0 s)) → AW κ (δ, b, NX, 2, shX, False, Qc, 0, 0) NX 0 0 27 [some (.ref (b + 0)), some (.int (nI ix))] [] μc := by
      intro m27
      induction m27 with
      | zero => intro ix μc hm; exact absurd hm (Nat.not_lt_zero _)
      | succ m27 ih27 =>
        intro ix μc hm27 hi27 hmc hdc
        have Wc := wx_same p3 hmc
        have hnow : μc.2.2 0 7 = some B := by rw [hmc.2]; exact hnow2
        have hTc : TX μc B S.2.1 := tx_same p1 hmc.same (fun q z y => by have := z.1; have y : q = 1 := y; omega)
        refine AW.iload_n X dX11_restore_27 (i := 1) rfl rfl ?_
        refine AW.bipushN X 8 dX11_restore_28 rfl ?_
        refine AW.icmp_geN X (tgt := 67) dX11_restore_30 (by decide) (by omega) (by omega) (fun h30 => ?_) (fun h30 => ?_)
        · obtain rfl : ix = 8 := by omega
          have n30 := Nat.not_lt_of_le h30
          refine AW.aload_n X dX11_restore_67 (i := 0) rfl rfl ?_
          refine AW.getR X dX11_restore_68 fX11_81 rfl ox0 hnow ?_
          refine AW.getI X dX11_restore_71 fX11_144 rfl (ta_ob hB) (v := (nI (S.2.1 6 0 0))) (tx_n hTc) ?_
          refine AW.iret X hQ dX11_restore_74 ⟨_, rfl, ?_⟩
          exact rx_val (by simp [S_restore, *]) (rx_restore hR tb hnow9 hdr hI p1 p2 p3 hmc (fun s hs => by rw [hdc s hs, if_pos hs]))
        · have n30 := Nat.not_le_of_lt h30
          have bv : kk S 0 ix ≤ 104 := by have := hR.1.2.2.1 ix (by omega); have := ti_n hR.1.1; omega
          have hvc : μc.1 1 ix = dn (kk S 0 ix) := by rw [hdc ix (by omega), if_neg (Nat.lt_irrefl _)]
          refine AW.aload_n X dX11_restore_33 (i := 0) rfl rfl ?_
          refine AW.iload_n X dX11_restore_34 (i := 1) rfl rfl ?_
          refine AW.callV X dX11_restore_35 lX11_106 cfX11 (cw_holdsHouse Wc (by omega) bv hvc) ox0 rfl rfl rfl rfl ⟨rfl, rfl⟩ (pR_k ?_)
          refine AW.if_eqB X (tgt := 61) dX11_restore_38 (by decide) (fun h38 => ?_) (fun h38 => ?_)
          · refine AW.iincN X (c := (ix + 1)) dX11_restore_61 rfl (inc_1 _) rfl ?_
            refine AW.goto X (tgt := 27) dX11_restore_64 (by decide) ?_
            refine AW.cgw (ih27 (ix + 1) μc (by omega) (by omega) hmc (rsh_step hdc (fun s z => rfl) (by rw [hvc, rsh, if_neg (by simp at *; omega)]))) ⟨rfl, rfl, trivial⟩
          · refine AW.aload_n X dX11_restore_41 (i := 0) rfl rfl ?_
            refine AW.aload_n X dX11_restore_42 (i := 0) rfl rfl ?_
            refine AW.getR X dX11_restore_43 fX11_9 rfl ox0 (wx_held Wc) ?_
            refine AW.iload_n X dX11_restore_46 (i := 1) rfl rfl ?_
            refine AW.iaload X dX11_restore_47 ax1 (n2_in (by omega) (by decide)) (v := (dn (kk S 0 ix))) (by rw [n2_clamp (by omega)]; exact hvc) ?_
            refine AW.callV X dX11_restore_48 lX11_123 cfX11 (cw_noHouse Wc hB hnow (tx_n hTc)) ox0 rfl rfl rfl rfl ⟨rfl, rfl⟩ (pR_k ?_)
            refine AW.if_eqB X (tgt := 61) dX11_restore_51 (by decide) (fun h51 => ?_) (fun h51 => ?_)
            · simp only [Bool.not_eq_true', Bool.not_eq_false'] at h51
              rw [inr_dn bv mn] at h51
              refine AW.iincN X (c := (ix + 1)) dX11_restore_61 rfl (inc_1 _) rfl ?_
              refine AW.goto X (tgt := 27) dX11_restore_64 (by decide) ?_
              refine AW.cgw (ih27 (ix + 1) μc (by omega) (by omega) hmc (rsh_step hdc (fun s z => rfl) (by rw [hvc, rsh, if_neg (by simp at *; omega)]))) ⟨rfl, rfl, trivial⟩
            · simp only [Bool.not_eq_true', Bool.not_eq_false'] at h51
              rw [inr_dn bv mn] at h51
              refine AW.aload_n X dX11_restore_54 (i := 0) rfl rfl ?_
              refine AW.getR X dX11_restore_55 fX11_9 rfl ox0 (wx_held Wc) ?_
              refine AW.iload_n X dX11_restore_58 (i := 1) rfl rfl ?_
              refine AW.iconst X (v := -1) dX11_restore_59 rfl ?_
              refine AW.iastore X dX11_restore_60 (by decide) ax1 (n2_in (by omega) (by decide)) ?_
              rw [n2_clamp (by omega)]
              refine AW.iincN X (c := (ix + 1)) dX11_restore_61 rfl (inc_1 _) rfl ?_
              refine AW.goto X (tgt := 27) dX11_restore_64 (by decide) ?_
              refine AW.cgw (ih27 (ix + 1) (wI μc 1 ix (-1)) (by omega) (by omega) (hmc.tr (SameI.wI rfl)) (rsh_step hdc (fun s z => by simp [wI, z]) (by rw [rsh, if_pos (by simp at *; omega), dn_0]; simp [wI]))) ⟨rfl, rfl, trivial⟩
    refine AW.cgw (L27 _ 0 μ2 (Nat.lt_succ_self _) (by omega) SameI.rf (fun s hs => by rw [hd2 s hs, if_neg (Nat.not_lt_zero s)])) ⟨rfl, rfl, trivial⟩
  · refine AW.aload_n X dX11_restore_7 (i := 0) rfl rfl ?_
    refine AW.bipushN X 6 dX11_restore_8 rfl ?_
    refine AW.callV X dX11_restore_10 lX11_95 cfX11 (c_X11_refuse (k := 6) hR (by first | decide | omega)) ox0 rfl rfl rfl rfl ⟨rfl, rfl⟩ (pI_k fun r μ1 hr => ?_)
    refine AW.iret X hQ dX11_restore_13 ⟨_, rfl, ?_⟩
    refine rx_of ?_ hr
    simp [S_restore, *]
set_option maxRecDepth 100000 in
set_option maxHeartbeats 4000000 in
theorem c_X11_status {l : Launch} {δ : Dl} {b : Nat} {μ : Mm} {S : St} (hR : RX μ S) {xa : Int32} : MCX l δ b yX11_status cX11_status 2 (some .int) 2 [.ref (b + 0), .int xa] μ (pI fun r μ' => r = S_status S xa ∧ μ' = μ) := by
  obtain ⟨B, Bd, tb, hnow, hdr, hT⟩ := hR.2.2.1
  have W := rx_w hR
  have ta := two_ta tb
  have hB := ta.1
  have hBd := ta.2.1
  have bn := ti_n hT.1
  refine MC.intro ([some (.ref (b + 0)), some (.int xa)]) (by decide) rfl rfl fun κ Qc hl hQ X => ?_
  subst hl
  refine AW.iload_n X dX11_status_0 (i := 1) rfl rfl ?_
  refine AW.bipushN X 10 dX11_status_1 rfl ?_
  refine AW.icmp_le X (tgt := 22) dX11_status_3 (by decide) (fun h3 => ?_) (fun h3 => ?_)
  · replace h3 := Int32.not_lt.mpr h3
    have g3 : ¬ nI 10 < xa := h3
    refine AW.iload_n X dX11_status_22 (i := 1) rfl rfl ?_
    rcases Bool.eq_false_or_eq_true (inr xa 8) with hin | hin
    · obtain ⟨jsw, hjsw, ejsw⟩ := inr_of (x := xa) (m := 8) (by decide) hin
      subst ejsw
      have hsw : jsw = 0 ∨ jsw = 1 ∨ jsw = 2 ∨ jsw = 3 ∨ jsw = 4 ∨ jsw = 5 ∨ jsw = 6 ∨ jsw = 7 := by omega
      rcases hsw with rfl | rfl | rfl | rfl | rfl | rfl | rfl | rfl
      · refine AW.tableIn X (tgt := 68) dX11_status_23 (by decide) (by decide) rfl (by decide) ?_
        refine AW.aload_n X dX11_status_68 (i := 0) rfl rfl ?_
        refine AW.getR X dX11_status_69 fX11_81 rfl ox0 hnow ?_
        refine AW.getI X dX11_status_72 fX11_144 rfl (ta_ob hB) (tx_n hT) ?_
        refine AW.iret X hQ dX11_status_75 ⟨_, rfl, ?_⟩
        exact ⟨by simp [S_status, stsB, stsO, cls, cl7, *], rfl⟩
      · refine AW.tableIn X (tgt := 76) dX11_status_23 (by decide) (by decide) rfl (by decide) ?_
        refine AW.aload_n X dX11_status_76 (i := 0) rfl rfl ?_
        refine AW.getR X dX11_status_77 fX11_81 rfl ox0 hnow ?_
        refine AW.callV X dX11_status_80 lX11_327 cfX9 (c_X9_coatsInAll W hB hT) (ta_ob hB) rfl rfl rfl rfl ⟨rfl, rfl⟩ (pR_k ?_)
        refine AW.iret X hQ dX11_status_83 ⟨_, rfl, ?_⟩
        exact ⟨by simp [S_status, stsB, stsO, cls, cl7, *], rfl⟩
      · refine AW.tableIn X (tgt := 84) dX11_status_23 (by decide) (by decide) rfl (by decide) ?_
        refine AW.aload_n X dX11_status_84 (i := 0) rfl rfl ?_
        refine AW.getR X dX11_status_85 fX11_81 rfl ox0 hnow ?_
        refine AW.getI X dX11_status_88 fX11_173 rfl (ta_ob hB) (tx_lim hT) ?_
        refine AW.iret X hQ dX11_status_91 ⟨_, rfl, ?_⟩
        exact ⟨by simp [S_status, stsB, stsO, cls, cl7, *], rfl⟩
      · refine AW.tableIn X (tgt := 92) dX11_status_23 (by decide) (by decide) rfl (by decide) ?_
        refine AW.aload_n X dX11_status_92 (i := 0) rfl rfl ?_
        refine AW.getR X dX11_status_93 fX11_81 rfl ox0 hnow ?_
        refine AW.getI X dX11_status_96 fX11_176 rfl (ta_ob hB) (tx_wid hT) ?_
        refine AW.iret X hQ dX11_status_99 ⟨_, rfl, ?_⟩
        exact ⟨by simp [S_status, stsB, stsO, cls, cl7, *], rfl⟩
      · refine AW.tableIn X (tgt := 100) dX11_status_23 (by decide) (by decide) rfl (by decide) ?_
        refine AW.aload_n X dX11_status_100 (i := 0) rfl rfl ?_
        refine AW.getR X dX11_status_101 fX11_81 rfl ox0 hnow ?_
        refine AW.getI X dX11_status_104 fX11_179 rfl (ta_ob hB) (tx_yr hT) ?_
        refine AW.iret X hQ dX11_status_107 ⟨_, rfl, ?_⟩
        exact ⟨by simp [S_status, stsB, stsO, cls, cl7, *], rfl⟩
      · refine AW.tableIn X (tgt := 108) dX11_status_23 (by decide) (by decide) rfl (by decide) ?_
        refine AW.aload_n X dX11_status_108 (i := 0) rfl rfl ?_
        refine AW.getR X dX11_status_109 fX11_81 rfl ox0 hnow ?_
        refine AW.getI X dX11_status_112 fX11_296 rfl (ta_ob hB) (tx_fal hT) ?_
        refine AW.iret X hQ dX11_status_115 ⟨_, rfl, ?_⟩
        exact ⟨by simp [S_status, stsB, stsO, cls, cl7, *], rfl⟩
      · refine AW.tableIn X (tgt := 116) dX11_status_23 (by decide) (by decide) rfl (by decide) ?_
        refine AW.aload_n X dX11_status_116 (i := 0) rfl rfl ?_
        refine AW.getR X dX11_status_117 fX11_81 rfl ox0 hnow ?_
        refine AW.getI X dX11_status_120 fX11_302 rfl (ta_ob hB) (tx_seed hT) ?_
        refine AW.iret X hQ dX11_status_123 ⟨_, rfl, ?_⟩
        exact ⟨by simp [S_status, stsB, stsO, cls, cl7, *], rfl⟩
      · refine AW.tableIn X (tgt := 124) dX11_status_23 (by decide) (by decide) rfl (by decide) ?_
        refine AW.aload_n X dX11_status_124 (i := 0) rfl rfl ?_
        refine AW.getR X dX11_status_125 fX11_51 rfl ox0 (wx_latest W) ?_
        refine AW.getI X dX11_status_128 fX11_305 rfl ox16 (rx_ran hR) ?_
        refine AW.iret X hQ dX11_status_131 ⟨_, rfl, ?_⟩
        exact ⟨by simp [S_status, stsB, stsO, cls, cl7, *], rfl⟩
    · refine AW.tableOut X (tgt := 132) dX11_status_23 (inr_out (m := 8) (by decide) hin) (by decide) ?_
      refine AW.iconst X (v := -1) dX11_status_132 rfl ?_
      refine AW.iret X hQ dX11_status_133 ⟨_, rfl, ?_⟩
      exact ⟨by simp [S_status, stsB, stsO, cls, cl7, *], rfl⟩
  · replace h3 := Int32.not_le.mp h3
    refine AW.iload_n X dX11_status_6 (i := 1) rfl rfl ?_
    refine AW.bipushN X 17 dX11_status_7 rfl ?_
    refine AW.icmp_gt X (tgt := 22) dX11_status_9 (by decide) (fun h9 => ?_) (fun h9 => ?_)
    · refine AW.iload_n X dX11_status_22 (i := 1) rfl rfl ?_
      rcases Bool.eq_false_or_eq_true (inr xa 8) with hin | hin
      · obtain ⟨jsw, hjsw, ejsw⟩ := inr_of (x := xa) (m := 8) (by decide) hin
        subst ejsw
        have hsw : jsw = 0 ∨ jsw = 1 ∨ jsw = 2 ∨ jsw = 3 ∨ jsw = 4 ∨ jsw = 5 ∨ jsw = 6 ∨ jsw = 7 := by omega
        rcases hsw with rfl | rfl | rfl | rfl | rfl | rfl | rfl | rfl
        · refine AW.tableIn X (tgt := 68) dX11_status_23 (by decide) (by decide) rfl (by decide) ?_
          refine AW.aload_n X dX11_status_68 (i := 0) rfl rfl ?_
          refine AW.getR X dX11_status_69 fX11_81 rfl ox0 hnow ?_
          refine AW.getI X dX11_status_72 fX11_144 rfl (ta_ob hB) (tx_n hT) ?_
          refine AW.iret X hQ dX11_status_75 ⟨_, rfl, ?_⟩
          exact ⟨by simp [S_status, stsB, stsO, cls, cl7, *], rfl⟩
        · refine AW.tableIn X (tgt := 76) dX11_status_23 (by decide) (by decide) rfl (by decide) ?_
          refine AW.aload_n X dX11_status_76 (i := 0) rfl rfl ?_
          refine AW.getR X dX11_status_77 fX11_81 rfl ox0 hnow ?_
          refine AW.callV X dX11_status_80 lX11_327 cfX9 (c_X9_coatsInAll W hB hT) (ta_ob hB) rfl rfl rfl rfl ⟨rfl, rfl⟩ (pR_k ?_)
          refine AW.iret X hQ dX11_status_83 ⟨_, rfl, ?_⟩
          exact ⟨by simp [S_status, stsB, stsO, cls, cl7, *], rfl⟩
        · refine AW.tableIn X (tgt := 84) dX11_status_23 (by decide) (by decide) rfl (by decide) ?_
          refine AW.aload_n X dX11_status_84 (i := 0) rfl rfl ?_
          refine AW.getR X dX11_status_85 fX11_81 rfl ox0 hnow ?_
          refine AW.getI X dX11_status_88 fX11_173 rfl (ta_ob hB) (tx_lim hT) ?_
          refine AW.iret X hQ dX11_status_91 ⟨_, rfl, ?_⟩
          exact ⟨by simp [S_status, stsB, stsO, cls, cl7, *], rfl⟩
        · refine AW.tableIn X (tgt := 92) dX11_status_23 (by decide) (by decide) rfl (by decide) ?_
          refine AW.aload_n X dX11_status_92 (i := 0) rfl rfl ?_
          refine AW.getR X dX11_status_93 fX11_81 rfl ox0 hnow ?_
          refine AW.getI X dX11_status_96 fX11_176 rfl (ta_ob hB) (tx_wid hT) ?_
          refine AW.iret X hQ dX11_status_99 ⟨_, rfl, ?_⟩
          exact ⟨by simp [S_status, stsB, stsO, cls, cl7, *], rfl⟩
        · refine AW.tableIn X (tgt := 100) dX11_status_23 (by decide) (by decide) rfl (by decide) ?_
          refine AW.aload_n X dX11_status_100 (i := 0) rfl rfl ?_
          refine AW.getR X dX11_status_101 fX11_81 rfl ox0 hnow ?_
          refine AW.getI X dX11_status_104 fX11_179 rfl (ta_ob hB) (tx_yr hT) ?_
          refine AW.iret X hQ dX11_status_107 ⟨_, rfl, ?_⟩
          exact ⟨by simp [S_status, stsB, stsO, cls, cl7, *], rfl⟩
        · refine AW.tableIn X (tgt := 108) dX11_status_23 (by decide) (by decide) rfl (by decide) ?_
          refine AW.aload_n X dX11_status_108 (i := 0) rfl rfl ?_
          refine AW.getR X dX11_status_109 fX11_81 rfl ox0 hnow ?_
          refine AW.getI X dX11_status_112 fX11_296 rfl (ta_ob hB) (tx_fal hT) ?_
          refine AW.iret X hQ dX11_status_115 ⟨_, rfl, ?_⟩
          exact ⟨by simp [S_status, stsB, stsO, cls, cl7, *], rfl⟩
        · refine AW.tableIn X (tgt := 116) dX11_status_23 (by decide) (by decide) rfl (by decide) ?_
          refine AW.aload_n X dX11_status_116 (i := 0) rfl rfl ?_
          refine AW.getR X dX11_status_117 fX11_81 rfl ox0 hnow ?_
          refine AW.getI X dX11_status_120 fX11_302 rfl (ta_ob hB) (tx_seed hT) ?_
          refine AW.iret X hQ dX11_status_123 ⟨_, rfl, ?_⟩
          exact ⟨by simp [S_status, stsB, stsO, cls, cl7, *], rfl⟩
        · refine AW.tableIn X (tgt := 124) dX11_status_23 (by decide) (by decide) rfl (by decide) ?_
          refine AW.aload_n X dX11_status_124 (i := 0) rfl rfl ?_
          refine AW.getR X dX11_status_125 fX11_51 rfl ox0 (wx_latest W) ?_
          refine AW.getI X dX11_status_128 fX11_305 rfl ox16 (rx_ran hR) ?_
          refine AW.iret X hQ dX11_status_131 ⟨_, rfl, ?_⟩
          exact ⟨by simp [S_status, stsB, stsO, cls, cl7, *], rfl⟩
      · refine AW.tableOut X (tgt := 132) dX11_status_23 (inr_out (m := 8) (by decide) hin) (by decide) ?_
        refine AW.iconst X (v := -1) dX11_status_132 rfl ?_
        refine AW.iret X hQ dX11_status_133 ⟨_, rfl, ?_⟩
        exact ⟨by simp [S_status, stsB, stsO, cls, cl7, *], rfl⟩
    · have hle := Int32.not_lt.mp h9
      obtain ⟨jx, hjx, ejx, ljx⟩ := ge_of (by decide) (Int32.not_lt.mpr (Int32.le_of_lt h3))
      subst ejx
      have cjx := cl_n hjx
      have l3 := (n2_lt (by decide) hjx).mp h3
      have l9 := (n2_le hjx (by decide)).mp hle
      refine AW.aload_n X dX11_status_12 (i := 0) rfl rfl ?_
      refine AW.getR X dX11_status_13 fX11_21 rfl ox0 (wx_refusals W) ?_
      refine AW.iload_n X dX11_status_16 (i := 1) rfl rfl ?_
      refine AW.bipushN X 10 dX11_status_17 rfl ?_
      refine AW.isubN X dX11_status_19 (by omega) ?_
      refine AW.iaload X dX11_status_20 ax12 (n2_in (by omega) (by decide)) (v := (nI (kk S 2 (jx - 10)))) (by rw [n2_clamp (by omega)]; exact rx_refu hR (by omega)) ?_
      refine AW.iret X hQ dX11_status_21 ⟨_, rfl, ?_⟩
      exact ⟨by simp [S_status, stsB, stsO, cls, cl7, *], rfl⟩
