set_option maxRecDepth 100000 in
set_option maxHeartbeats 4000000 in
theorem c_X11_refuseDown {l : Launch} {δ : Dl} {b : Nat} {μ : Mm} {S : St} (hR : RX μ S) {k down : Nat} (hk : k < 8) : MCX l δ b yX11_refuseDown cX11_refuseDown 3 (some .int) 1 [.ref (b + 0), .int (nI k), .int (nI down)] μ (pI fun r μ' => r = (ref S k down).1 ∧ RX μ' (ref S k down).2) := by
  obtain ⟨B, Bd, tb, hnow, hdr, hT⟩ := hR.2.2.1
  have W := rx_w hR
  have ta := two_ta tb
  have hB := ta.1
  have hBd := ta.2.1
  have bn := ti_n hT.1
  refine MC.intro ([some (.ref (b + 0)), some (.int (nI k)), some (.int (nI down))]) (by decide) rfl rfl fun κ Qc hl hQ X => ?_
  subst hl
  refine AW.aload_n X dX11_refuseDown_0 (i := 0) rfl rfl ?_
  refine AW.getR X dX11_refuseDown_1 fX11_21 rfl ox0 (wx_refusals W) ?_
  refine AW.iload_n X dX11_refuseDown_4 (i := 1) rfl rfl ?_
  refine AW.dup2 X dX11_refuseDown_5 rfl rfl ?_
  refine AW.iaload X dX11_refuseDown_6 ax12 (n2_in (by omega) (by decide)) (v := (nI (kk S 2 k))) (by rw [n2_clamp (by omega)]; exact rx_refu hR (by omega)) ?_
  refine AW.iconstN X 1 dX11_refuseDown_7 rfl ?_
  refine AW.iaddN X dX11_refuseDown_8 ?_
  refine AW.iastore X dX11_refuseDown_9 (by decide) ax12 (n2_in (by omega) (by decide)) ?_
  rw [n2_clamp (by omega)]
  refine AW.iload_n X dX11_refuseDown_10 (i := 1) rfl rfl ?_
  refine AW.ineg X dX11_refuseDown_11 ?_
  refine AW.iload_n X dX11_refuseDown_12 (i := 2) rfl rfl ?_
  refine AW.isub X dX11_refuseDown_13 ?_
  refine AW.iret X hQ dX11_refuseDown_14 ⟨_, rfl, ?_⟩
  exact ⟨rfl, rx_ref hR hk⟩
set_option maxRecDepth 100000 in
set_option maxHeartbeats 4000000 in
theorem c_X11_refuse {l : Launch} {δ : Dl} {b : Nat} {μ : Mm} {S : St} (hR : RX μ S) {k : Nat} (hk : k < 8) : MCX l δ b yX11_refuse cX11_refuse 2 (some .int) 2 [.ref (b + 0), .int (nI k)] μ (pI fun r μ' => r = (ref S k 0).1 ∧ RX μ' (ref S k 0).2) := by
  obtain ⟨B, Bd, tb, hnow, hdr, hT⟩ := hR.2.2.1
  have W := rx_w hR
  have ta := two_ta tb
  have hB := ta.1
  have hBd := ta.2.1
  have bn := ti_n hT.1
  refine MC.intro ([some (.ref (b + 0)), some (.int (nI k))]) (by decide) rfl rfl fun κ Qc hl hQ X => ?_
  subst hl
  refine AW.aload_n X dX11_refuse_0 (i := 0) rfl rfl ?_
  refine AW.iload_n X dX11_refuse_1 (i := 1) rfl rfl ?_
  refine AW.iconstN X 0 dX11_refuse_2 rfl ?_
  refine AW.callV X dX11_refuse_3 lX11_221 cfX11 (c_X11_refuseDown hR hk) ox0 rfl rfl rfl rfl ⟨rfl, rfl⟩ (pI_k fun r μ1 hr => ?_)
  refine AW.iret X hQ dX11_refuse_6 ⟨_, rfl, ?_⟩
  exact hr
set_option maxRecDepth 100000 in
set_option maxHeartbeats 4000000 in
theorem c_X11_noHouse {l : Launch} {δ : Dl} {b : Nat} {μ : Mm} {S : St} (hR : RX μ S) {x : Int32} : MCX l δ b yX11_noHouse cX11_noHouse 2 (some .boolean) 2 [.ref (b + 0), .int x] μ (pI fun r μ' => r = bI (!inr x (S.1 6 0 0)) ∧ μ' = μ) := by
  obtain ⟨B, Bd, tb, hnow, hdr, hT⟩ := hR.2.2.1
  have W := rx_w hR
  have ta := two_ta tb
  have hB := ta.1
  have hBd := ta.2.1
  have bn := ti_n hT.1
  refine MC.intro ([some (.ref (b + 0)), some (.int x)]) (by decide) rfl rfl fun κ Qc hl hQ X => ?_
  subst hl
  refine AW.iload_n X dX11_noHouse_0 (i := 1) rfl rfl ?_
  refine AW.aload_n X dX11_noHouse_1 (i := 0) rfl rfl ?_
  refine AW.getR X dX11_noHouse_2 fX11_81 rfl ox0 hnow ?_
  refine AW.getI X dX11_noHouse_5 fX11_144 rfl (ta_ob hB) (tx_n hT) ?_
  refine AW.callS X dX11_noHouse_8 lX11_91 (c_X11_outside) rfl rfl rfl rfl ⟨rfl, rfl⟩ (pR_k ?_)
  refine AW.zret X (bI_n _) hQ dX11_noHouse_11 ⟨_, rfl, ?_⟩
  exact ⟨rfl, rfl⟩
set_option maxRecDepth 100000 in
set_option maxHeartbeats 4000000 in
theorem c_X11_noCoat {l : Launch} {δ : Dl} {b : Nat} {μ : Mm} {S : St} (hR : RX μ S) {h : Nat} {x : Int32} (hh : h < S.1 6 0 0) : MCX l δ b yX11_noCoat cX11_noCoat 3 (some .boolean) 2 [.ref (b + 0), .int (nI h), .int x] μ (pI fun r μ' => r = bI (!inr x (S.1 h 0 2)) ∧ μ' = μ) := by
  obtain ⟨B, Bd, tb, hnow, hdr, hT⟩ := hR.2.2.1
  have W := rx_w hR
  have ta := two_ta tb
  have hB := ta.1
  have hBd := ta.2.1
  have bn := ti_n hT.1
  refine MC.intro ([some (.ref (b + 0)), some (.int (nI h)), some (.int x)]) (by decide) rfl rfl fun κ Qc hl hQ X => ?_
  subst hl
  refine AW.iload_n X dX11_noCoat_0 (i := 2) rfl rfl ?_
  refine AW.aload_n X dX11_noCoat_1 (i := 0) rfl rfl ?_
  refine AW.getR X dX11_noCoat_2 fX11_81 rfl ox0 hnow ?_
  refine AW.getR X dX11_noCoat_5 fX11_126 rfl (ta_ob hB) (wx_fronts W hB) ?_
  refine AW.iload_n X dX11_noCoat_8 (i := 1) rfl rfl ?_
  refine AW.aaload X (r := (B + 4 + 7 * h)) dX11_noCoat_9 rfl rfl (ta_f hB) (n2_in (by omega) (by decide)) (by rw [n2_clamp (by omega)]; exact wx_front W hB (by omega)) ?_
  refine AW.getI X dX11_noCoat_10 fX11_157 rfl (fa_ob (fa_of hB (by omega))) (hv_n (tx_h hT (by omega))) ?_
  refine AW.callS X dX11_noCoat_13 lX11_91 (c_X11_outside) rfl rfl rfl rfl ⟨rfl, rfl⟩ (pR_k ?_)
  refine AW.zret X (bI_n _) hQ dX11_noCoat_16 ⟨_, rfl, ?_⟩
  exact ⟨rfl, rfl⟩
set_option maxRecDepth 100000 in
set_option maxHeartbeats 4000000 in
theorem c_X11_holdsRow {l : Launch} {δ : Dl} {b : Nat} {μ : Mm} {S : St} (hR : RX μ S) {s : Nat} (hs : s < 8) : MCX l δ b yX11_holdsRow cX11_holdsRow 2 (some .boolean) 1 [.ref (b + 0), .int (nI s)] μ (pI fun r μ' => r = bI (decide (101 ≤ kk S 0 s)) ∧ μ' = μ) := by
  obtain ⟨B, Bd, tb, hnow, hdr, hT⟩ := hR.2.2.1
  have W := rx_w hR
  have ta := two_ta tb
  have hB := ta.1
  have hBd := ta.2.1
  have bn := ti_n hT.1
  have bk := hR.1.2.2.1 s hs
  refine MC.intro ([some (.ref (b + 0)), some (.int (nI s))]) (by decide) rfl rfl fun κ Qc hl hQ X => ?_
  subst hl
  refine AW.aload_n X dX11_holdsRow_0 (i := 0) rfl rfl ?_
  refine AW.getR X dX11_holdsRow_1 fX11_9 rfl ox0 (wx_held W) ?_
  refine AW.iload_n X dX11_holdsRow_4 (i := 1) rfl rfl ?_
  refine AW.iaload X dX11_holdsRow_5 ax1 (n2_in (by omega) (by decide)) (v := (dn (kk S 0 s))) (by rw [n2_clamp (by omega)]; exact rx_held hR (by omega)) ?_
  refine AW.bipushN X 100 dX11_holdsRow_6 rfl ?_
  refine AW.icmp_lt X (tgt := 15) dX11_holdsRow_8 (by decide) (fun h8 => ?_) (fun h8 => ?_)
  · rw [dn_lt (by omega) (by omega)] at h8
    refine AW.iconstN X 0 dX11_holdsRow_15 rfl ?_
    refine AW.zret X rfl hQ dX11_holdsRow_16 ⟨_, rfl, ?_⟩
    have e : (decide (101 ≤ kk S 0 s)) = false := by simp; omega
    exact ⟨by rw [e]; rfl, rfl⟩
  · rw [dn_lt (by omega) (by omega)] at h8
    refine AW.iconstN X 1 dX11_holdsRow_11 rfl ?_
    refine AW.goto X (tgt := 16) dX11_holdsRow_12 (by decide) ?_
    refine AW.zret X rfl hQ dX11_holdsRow_16 ⟨_, rfl, ?_⟩
    have e : (decide (101 ≤ kk S 0 s)) = true := by simp; omega
    exact ⟨by rw [e]; rfl, rfl⟩
set_option maxRecDepth 100000 in
set_option maxHeartbeats 4000000 in
theorem c_X11_holdsHouse {l : Launch} {δ : Dl} {b : Nat} {μ : Mm} {S : St} (hR : RX μ S) {s : Nat} (hs : s < 8) : MCX l δ b yX11_holdsHouse cX11_holdsHouse 2 (some .boolean) 1 [.ref (b + 0), .int (nI s)] μ (pI fun r μ' => r = bI (decide (1 ≤ kk S 0 s ∧ kk S 0 s ≤ 100)) ∧ μ' = μ) := by
  obtain ⟨B, Bd, tb, hnow, hdr, hT⟩ := hR.2.2.1
  have W := rx_w hR
  have ta := two_ta tb
  have hB := ta.1
  have hBd := ta.2.1
  have bn := ti_n hT.1
  have bk := hR.1.2.2.1 s hs
  refine MC.intro ([some (.ref (b + 0)), some (.int (nI s))]) (by decide) rfl rfl fun κ Qc hl hQ X => ?_
  subst hl
  refine AW.aload_n X dX11_holdsHouse_0 (i := 0) rfl rfl ?_
  refine AW.getR X dX11_holdsHouse_1 fX11_9 rfl ox0 (wx_held W) ?_
  refine AW.iload_n X dX11_holdsHouse_4 (i := 1) rfl rfl ?_
  refine AW.iaload X dX11_holdsHouse_5 ax1 (n2_in (by omega) (by decide)) (v := (dn (kk S 0 s))) (by rw [n2_clamp (by omega)]; exact rx_held hR (by omega)) ?_
  refine AW.iconst X (v := -1) dX11_holdsHouse_6 rfl ?_
  refine AW.icmp_eq X (tgt := 25) dX11_holdsHouse_7 (by decide) (fun h7 => ?_) (fun h7 => ?_)
  · rw [dn_m1 (by omega)] at h7
    refine AW.iconstN X 0 dX11_holdsHouse_25 rfl ?_
    refine AW.zret X rfl hQ dX11_holdsHouse_26 ⟨_, rfl, ?_⟩
    have e : (decide (1 ≤ kk S 0 s ∧ kk S 0 s ≤ 100)) = false := by simp; omega
    exact ⟨by rw [e]; rfl, rfl⟩
  · rw [dn_m1 (by omega)] at h7
    refine AW.aload_n X dX11_holdsHouse_10 (i := 0) rfl rfl ?_
    refine AW.getR X dX11_holdsHouse_11 fX11_9 rfl ox0 (wx_held W) ?_
    refine AW.iload_n X dX11_holdsHouse_14 (i := 1) rfl rfl ?_
    refine AW.iaload X dX11_holdsHouse_15 ax1 (n2_in (by omega) (by decide)) (v := (dn (kk S 0 s))) (by rw [n2_clamp (by omega)]; exact rx_held hR (by omega)) ?_
    refine AW.bipushN X 100 dX11_holdsHouse_16 rfl ?_
    refine AW.icmp_ge X (tgt := 25) dX11_holdsHouse_18 (by decide) (fun h18 => ?_) (fun h18 => ?_)
    · replace h18 := Int32.not_lt.mpr h18
      rw [dn_lt (by omega) (by omega)] at h18
      refine AW.iconstN X 0 dX11_holdsHouse_25 rfl ?_
      refine AW.zret X rfl hQ dX11_holdsHouse_26 ⟨_, rfl, ?_⟩
      have e : (decide (1 ≤ kk S 0 s ∧ kk S 0 s ≤ 100)) = false := by simp; omega
      exact ⟨by rw [e]; rfl, rfl⟩
    · replace h18 := Int32.not_le.mp h18
      rw [dn_lt (by omega) (by omega)] at h18
      refine AW.iconstN X 1 dX11_holdsHouse_21 rfl ?_
      refine AW.goto X (tgt := 26) dX11_holdsHouse_22 (by decide) ?_
      refine AW.zret X rfl hQ dX11_holdsHouse_26 ⟨_, rfl, ?_⟩
      have e : (decide (1 ≤ kk S 0 s ∧ kk S 0 s ≤ 100)) = true := by simp; omega
      exact ⟨by rw [e]; rfl, rfl⟩
/-- why shelf x holds no row: the refusal, or 0 -/
def rowT (S : St) (x : Int32) : Nat := if inr x 8 = false then 1 else if 1 ≤ kk S 0 x.toNatClampNeg ∧ kk S 0 x.toNatClampNeg ≤ 100 then 2 else if 101 ≤ kk S 0 x.toNatClampNeg then 0 else 3
theorem rowT_le (S : St) (x : Int32) : rowT S x ≤ 3 := by
  unfold rowT
  split
  · omega
  · split
    · omega
    · split <;> omega
theorem rowT_0 {S : St} {x : Int32} (h : rowT S x = 0) : ∃ s : Nat, s < 8 ∧ x = nI s ∧ 101 ≤ kk S 0 s := by
  unfold rowT at h
  split at h
  · omega
  · rename_i q
    obtain ⟨s, hs, rfl⟩ := inr_of (m := 8) (by decide) (by simpa using q)
    rw [n2_clamp (by omega)] at h
    split at h
    · omega
    · split at h
      · exact ⟨s, hs, rfl, ‹_›⟩
      · omega
set_option maxRecDepth 100000 in
set_option maxHeartbeats 4000000 in
theorem c_X11_rowTrouble {l : Launch} {δ : Dl} {b : Nat} {μ : Mm} {S : St} (hR : RX μ S) {x : Int32} : MCX l δ b yX11_rowTrouble cX11_rowTrouble 2 (some .int) 2 [.ref (b + 0), .int x] μ (pI fun r μ' => r = nI (rowT S x) ∧ μ' = μ) := by
  obtain ⟨B, Bd, tb, hnow, hdr, hT⟩ := hR.2.2.1
  have W := rx_w hR
  have ta := two_ta tb
  have hB := ta.1
  have hBd := ta.2.1
  have bn := ti_n hT.1
  refine MC.intro ([some (.ref (b + 0)), some (.int x)]) (by decide) rfl rfl fun κ Qc hl hQ X => ?_
  subst hl
  refine AW.iload_n X dX11_rowTrouble_0 (i := 1) rfl rfl ?_
  refine AW.bipushN X 8 dX11_rowTrouble_1 rfl ?_
  refine AW.callS X dX11_rowTrouble_3 lX11_91 (c_X11_outside) rfl rfl rfl rfl ⟨rfl, rfl⟩ (pR_k ?_)
  refine AW.if_eqB X (tgt := 11) dX11_rowTrouble_6 (by decide) (fun h6 => ?_) (fun h6 => ?_)
  · simp only [Bool.not_eq_true', Bool.not_eq_false'] at h6
    obtain ⟨s, hs, es⟩ := inr_of (x := x) (m := 8) (by omega) h6
    subst es
    refine AW.aload_n X dX11_rowTrouble_11 (i := 0) rfl rfl ?_
    refine AW.iload_n X dX11_rowTrouble_12 (i := 1) rfl rfl ?_
    refine AW.callV X dX11_rowTrouble_13 lX11_106 cfX11 (c_X11_holdsHouse hR (by omega)) ox0 rfl rfl rfl rfl ⟨rfl, rfl⟩ (pR_k ?_)
    refine AW.if_eqB X (tgt := 21) dX11_rowTrouble_16 (by decide) (fun h16 => ?_) (fun h16 => ?_)
    · refine AW.aload_n X dX11_rowTrouble_21 (i := 0) rfl rfl ?_
      refine AW.iload_n X dX11_rowTrouble_22 (i := 1) rfl rfl ?_
      refine AW.callV X dX11_rowTrouble_23 lX11_110 cfX11 (c_X11_holdsRow hR (by omega)) ox0 rfl rfl rfl rfl ⟨rfl, rfl⟩ (pR_k ?_)
      refine AW.if_eqB X (tgt := 33) dX11_rowTrouble_26 (by decide) (fun h26 => ?_) (fun h26 => ?_)
      · refine AW.iconstN X 3 dX11_rowTrouble_33 rfl ?_
        refine AW.iret X hQ dX11_rowTrouble_34 ⟨_, rfl, ?_⟩
        refine ⟨congrArg nI ?_, rfl⟩
        first | (rw [rowT, if_pos h6]; done) | (simp only [rowT, n2_clamp (show s < 2147483648 by omega), decide_eq_true_eq, decide_eq_false_iff_not] at *; rw [if_neg (by simp [h6])]; first | (rw [if_pos (by omega)]; done) | (rw [if_neg (by omega), if_pos (by omega)]; done) | (rw [if_neg (by omega), if_neg (by omega)]))
      · refine AW.iconstN X 0 dX11_rowTrouble_29 rfl ?_
        refine AW.goto X (tgt := 34) dX11_rowTrouble_30 (by decide) ?_
        refine AW.iret X hQ dX11_rowTrouble_34 ⟨_, rfl, ?_⟩
        refine ⟨congrArg nI ?_, rfl⟩
        first | (rw [rowT, if_pos h6]; done) | (simp only [rowT, n2_clamp (show s < 2147483648 by omega), decide_eq_true_eq, decide_eq_false_iff_not] at *; rw [if_neg (by simp [h6])]; first | (rw [if_pos (by omega)]; done) | (rw [if_neg (by omega), if_pos (by omega)]; done) | (rw [if_neg (by omega), if_neg (by omega)]))
    · refine AW.iconstN X 2 dX11_rowTrouble_19 rfl ?_
      refine AW.iret X hQ dX11_rowTrouble_20 ⟨_, rfl, ?_⟩
      refine ⟨congrArg nI ?_, rfl⟩
      first | (rw [rowT, if_pos h6]; done) | (simp only [rowT, n2_clamp (show s < 2147483648 by omega), decide_eq_true_eq, decide_eq_false_iff_not] at *; rw [if_neg (by simp [h6])]; first | (rw [if_pos (by omega)]; done) | (rw [if_neg (by omega), if_pos (by omega)]; done) | (rw [if_neg (by omega), if_neg (by omega)]))
  · simp only [Bool.not_eq_true', Bool.not_eq_false'] at h6
    refine AW.iconstN X 1 dX11_rowTrouble_9 rfl ?_
    refine AW.iret X hQ dX11_rowTrouble_10 ⟨_, rfl, ?_⟩
    refine ⟨congrArg nI ?_, rfl⟩
    first | (rw [rowT, if_pos h6]; done) | (simp only [rowT, n2_clamp (show s < 2147483648 by omega), decide_eq_true_eq, decide_eq_false_iff_not] at *; rw [if_neg (by simp [h6])]; first | (rw [if_pos (by omega)]; done) | (rw [if_neg (by omega), if_pos (by omega)]; done) | (rw [if_neg (by omega), if_neg (by omega)]))
def lowB (q : Nat) (v : Int64) : Int64 := if q = 0 then v.toInt32.toInt8.toInt32.toInt64 else if q = 1 then v.toInt32.toInt16.toInt32.toInt64 else if q = 2 then v.toInt32.toInt64 else v
