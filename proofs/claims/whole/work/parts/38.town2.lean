/-- x is one of 0 .. m - 1 -/
def inr (x : Int32) (m : Nat) : Bool := decide (0 ≤ x ∧ x < nI m)
theorem inr_of {x : Int32} {m : Nat} (hm : m < 2147483648) (h : inr x m = true) : ∃ j : Nat, j < m ∧ x = nI j := by
  simp only [inr, decide_eq_true_eq] at h
  obtain ⟨j, hj, rfl⟩ := nI_of (x := x) (fun q => by have := h.1; exact absurd q (Int32.not_lt.mpr this))
  exact ⟨j, (n2_lt hj hm).mp h.2, rfl⟩
theorem inr_f1 {x : Int32} {m : Nat} (h : x < 0) : inr x m = false := by
  simp only [inr, decide_eq_false_iff_not]
  exact fun q => absurd h (Int32.not_lt.mpr q.1)
theorem inr_f2 {x : Int32} {m : Nat} (h : ¬ x < nI m) : inr x m = false := by
  simp only [inr, decide_eq_false_iff_not]
  exact fun q => h q.2
theorem inr_t {x : Int32} {m : Nat} (h : ¬ x < 0) (h2 : x < nI m) : inr x m = true := by
  simp only [inr, decide_eq_true_eq]
  exact ⟨Int32.not_lt.mp h, h2⟩
theorem inr_n {a m : Nat} (ha : a < 2147483648) (hm : m < 2147483648) : inr (nI a) m = decide (a < m) := by
  have h0 : (0 : Int32) ≤ nI a := (n2_le (a := 0) (by decide) ha).mpr (Nat.zero_le _)
  simp [inr, h0, n2_lt ha hm]
set_option maxRecDepth 100000 in
set_option maxHeartbeats 4000000 in
theorem c_X11_outside {l : Launch} {δ : Dl} {b : Nat} {μ : Mm} {x : Int32} {m : Nat} : MCX l δ b yX11_outside cX11_outside 2 (some .boolean) 1 [.int x, .int (nI m)] μ (pI fun r μ' => r = bI (!inr x m) ∧ μ' = μ) := by
  refine MC.intro ([some (.int x), some (.int (nI m))]) (by decide) rfl rfl fun κ Qc hl hQ X => ?_
  subst hl
  refine AW.iload_n X dX11_outside_0 (i := 0) rfl rfl ?_
  refine AW.if_lt X (tgt := 9) dX11_outside_1 (by decide) (fun h1 => ?_) (fun h1 => ?_)
  · refine AW.iconstN X 1 dX11_outside_9 rfl ?_
    refine AW.goto X (tgt := 14) dX11_outside_10 (by decide) ?_
    refine AW.zret X rfl hQ dX11_outside_14 ⟨_, rfl, ?_⟩
    have e : inr x m = false := by first | exact inr_f1 ‹_› | exact inr_f2 ‹_› | exact inr_t ‹_› ‹_›
    exact ⟨by rw [e]; rfl, rfl⟩
  · refine AW.iload_n X dX11_outside_4 (i := 0) rfl rfl ?_
    refine AW.iload_n X dX11_outside_5 (i := 1) rfl rfl ?_
    refine AW.icmp_lt X (tgt := 13) dX11_outside_6 (by decide) (fun h6 => ?_) (fun h6 => ?_)
    · refine AW.iconstN X 0 dX11_outside_13 rfl ?_
      refine AW.zret X rfl hQ dX11_outside_14 ⟨_, rfl, ?_⟩
      have e : inr x m = true := by first | exact inr_f1 ‹_› | exact inr_f2 ‹_› | exact inr_t ‹_› ‹_›
      exact ⟨by rw [e]; rfl, rfl⟩
    · refine AW.iconstN X 1 dX11_outside_9 rfl ?_
      refine AW.goto X (tgt := 14) dX11_outside_10 (by decide) ?_
      refine AW.zret X rfl hQ dX11_outside_14 ⟨_, rfl, ?_⟩
      have e : inr x m = false := by first | exact inr_f1 ‹_› | exact inr_f2 ‹_› | exact inr_t ‹_› ‹_›
      exact ⟨by rw [e]; rfl, rfl⟩
set_option maxRecDepth 100000 in
set_option maxHeartbeats 4000000 in
theorem c_X9_draw {l : Launch} {δ : Dl} {b : Nat} {μ : Mm} {B : Nat} (hB : TA B) {s m : Nat} (hs : μ.1 B 9 = nI s) (hm : 0 < m) (hm2 : m < 100) : MCX l δ b yX9_draw cX9_draw 2 (some .int) 1 [.ref (b + B), .int (nI m)] μ (pI fun r μ' => r = nI (dv s m) ∧ μ' = wI μ B 9 (nI (sd s))) := by
  have b1 := sd_lt s
  have b2 := sd_sh s
  refine MC.intro ([some (.ref (b + B)), some (.int (nI m))]) (by decide) rfl rfl fun κ Qc hl hQ X => ?_
  subst hl
  refine AW.aload_n X dX9_draw_0 (i := 0) rfl rfl ?_
  refine AW.aload_n X dX9_draw_1 (i := 0) rfl rfl ?_
  refine AW.getI X dX9_draw_2 fX9_40 rfl (ta_ob hB) (v := (nI s)) hs ?_
  refine AW.ldci X (v := 1103515245) dX9_draw_5 kX9_114 ?_
  refine AW.imul X dX9_draw_7 ?_
  refine AW.sipushN X 12345 dX9_draw_8 rfl ?_
  refine AW.iadd X dX9_draw_11 ?_
  rw [sd_n]
  refine AW.putI X dX9_draw_12 fX9_40 rfl rfl ⟨rfl, rfl⟩ (by decide) (ta_ob hB) ?_
  refine AW.iload_n X dX9_draw_15 (i := 1) rfl rfl ?_
  refine AW.if_leN X (tgt := 31) dX9_draw_16 (by decide) (by omega) (fun h16 => ?_) (fun h16 => ?_)
  · omega
  · refine AW.aload_n X dX9_draw_19 (i := 0) rfl rfl ?_
    refine AW.getI X dX9_draw_20 fX9_40 rfl (ta_ob hB) (v := (nI (sd s))) (by simp [wI]) ?_
    refine AW.bipushN X 16 dX9_draw_23 rfl ?_
    refine AW.iushrN X dX9_draw_25 (by omega) (by decide) ?_
    refine AW.iload_n X dX9_draw_26 (i := 1) rfl rfl ?_
    refine AW.iremN X dX9_draw_27 (by omega) (by omega) (by omega) ?_
    refine AW.goto X (tgt := 32) dX9_draw_28 (by decide) ?_
    refine AW.iret X hQ dX9_draw_32 ⟨_, rfl, ?_⟩
    exact ⟨rfl, rfl⟩
set_option maxRecDepth 100000 in
set_option maxHeartbeats 4000000 in
theorem c_X9_hailOnAll {l : Launch} {δ : Dl} {b : Nat} {μ : Mm} (W : WX μ.2.2) {B : Nat} (hB : TA B) {τ : Tt} (hT : TX μ B τ) {x : Nat} (hx : x < 100) : MCX l δ b yX9_hailOnAll cX9_hailOnAll 5 (some .int) 5 [.ref (b + B), .int (nI x)] μ (pI fun r μ' => r = nI (hailS τ x (τ 6 0 0)) ∧ TX μ' B (hailT τ x (τ 6 0 0)) ∧ SameI (TR B) μ μ') := by
  have bn := ti_n hT.1
  refine MC.intro ([some (.ref (b + B)), some (.int (nI x)), none, none, none]) (by decide) rfl rfl fun κ Qc hl hQ X => ?_
  subst hl
  have L4 : ∀ (m i : Nat) (μ1 : Mm), τ 6 0 0 - i < m → i ≤ τ 6 0 0 → TX μ1 B (hailT τ x i) → SameI (TR B) μ μ1 → AW κ (δ, b, NX, 5, shX, False, Qc, 0, 0) NX 0 0 4 [some (.ref (b + B)), some (.int (nI x)), some (.int (nI (hailS τ x i))), some (.int (nI i)), none] [] μ1 := by
    intro m
    induction m with
    | zero => intro i μ1 hm; exact absurd hm (Nat.not_lt_zero _)
    | succ m ih =>
      intro i μ1 hm hi hT1 hs1
      have W1 := wx_same W hs1
      have e6 := hailT_6 τ x i (by omega)
      have b1 := hailS_le τ x i
      refine AW.iload_n X dX9_hailOnAll_4 (i := 3) rfl rfl ?_
      refine AW.aload_n X dX9_hailOnAll_5 (i := 0) rfl rfl ?_
      refine AW.getI X dX9_hailOnAll_6 fX9_17 rfl (ta_ob hB) (v := (nI (τ 6 0 0))) (by rw [tx_n hT1, e6]) ?_
      refine AW.icmp_geN X (tgt := 49) dX9_hailOnAll_9 (by decide) (by omega) (by omega) (fun h9 => ?_) (fun h9 => ?_)
      · obtain rfl : i = τ 6 0 0 := by omega
        refine AW.iload_n X dX9_hailOnAll_49 (i := 2) rfl rfl ?_
        refine AW.iret X hQ dX9_hailOnAll_50 ⟨_, rfl, ?_⟩
        exact ⟨rfl, hT1, hs1⟩
      · have L15 : ∀ (m2 k : Nat) (μ2 : Mm), 12 - k < m2 → k ≤ 12 → TX μ2 B (upH (hailT τ x i) i (hailC (hailT τ x i i) x k)) → SameI (TR B) μ μ2 → AW κ (δ, b, NX, 5, shX, False, Qc, 0, 0) NX 0 0 15 [some (.ref (b + B)), some (.int (nI x)), some (.int (nI (hailS τ x i + hailK (hailT τ x i i) x k))), some (.int (nI i)), some (.int (nI k))] [] μ2 := by
          intro m2
          induction m2 with
          | zero => intro k μ2 hm2; exact absurd hm2 (Nat.not_lt_zero _)
          | succ m2 ih2 =>
            intro k μ2 hm2 hk hT2 hs2
            have W2 := wx_same W hs2
            have b2 := hailK_le (hailT τ x i i) x k
            have hv : HV μ2 (B + 4 + 7 * i) (hailC (hailT τ x i i) x k) := by have q := tx_h hT2 (h := i) (by rw [upH_6 (by omega), e6]; omega); rwa [upH_s] at q
            refine AW.iload X dX9_hailOnAll_15 rfl ?_
            refine AW.bipushN X 12 dX9_hailOnAll_17 rfl ?_
            refine AW.icmp_geN X (tgt := 43) dX9_hailOnAll_19 (by decide) (by omega) (by omega) (fun h19 => ?_) (fun h19 => ?_)
            · obtain rfl : k = 12 := by omega
              refine AW.iincN X (c := (i + 1)) dX9_hailOnAll_43 rfl (inc_1 _) rfl ?_
              refine AW.goto X (tgt := 4) dX9_hailOnAll_46 (by decide) ?_
              have e9 : upH (hailT τ x i) i (hailC (hailT τ x i i) x 12) = hailT τ x (i + 1) := rfl
              rw [e9] at hT2
              exact AW.cgw (ih (i + 1) μ2 (by omega) (by omega) hT2 hs2) ⟨rfl, rfl, rfl, rfl, trivial⟩
            · refine AW.iload_n X dX9_hailOnAll_22 (i := 2) rfl rfl ?_
              refine AW.aload_n X dX9_hailOnAll_23 (i := 0) rfl rfl ?_
              refine AW.getR X dX9_hailOnAll_24 fX9_11 rfl (ta_ob hB) (wx_fronts W2 hB) ?_
              refine AW.iload_n X dX9_hailOnAll_27 (i := 3) rfl rfl ?_
              refine AW.aaload X (r := (B + 4 + 7 * i)) dX9_hailOnAll_28 rfl rfl (ta_f hB) (n2_in (by omega) (by decide)) (by rw [n2_clamp (by omega)]; exact wx_front W2 hB (by omega)) ?_
              refine AW.iload X dX9_hailOnAll_29 rfl ?_
              refine AW.iload_n X dX9_hailOnAll_31 (i := 1) rfl rfl ?_
              refine AW.callV X dX9_hailOnAll_32 lX9_107 cfX3 (c_X3_hailInTruth W2 (fa_of hB (by omega)) hv (by omega) hx) (fa_ob (fa_of hB (by omega))) rfl rfl rfl rfl ⟨rfl, rfl⟩ (pI_k fun r μ3 hr => ?_)
              obtain ⟨rfl, rfl⟩ := hr
              have b3 := pcnt_le (went (hailC (hailT τ x i i) x k) k x)
              refine AW.iaddN X dX9_hailOnAll_35 ?_
              refine AW.istore_n X dX9_hailOnAll_36 (i := 2) rfl rfl ?_
              refine AW.iincN X (c := (k + 1)) dX9_hailOnAll_37 rfl (inc_1 _) rfl ?_
              refine AW.goto X (tgt := 15) dX9_hailOnAll_40 (by decide) ?_
              have hv3 : HV (wI μ2 (B + 4 + 7 * i + 6) k (nI (hailC (hailT τ x i i) x k 6 k ||| went (hailC (hailT τ x i i) x k) k x))) (B + 4 + 7 * i) (hailC (hailT τ x i i) x (k + 1)) := hv_gone hv (or_lt8 (hi_go hv.1 (by omega)) (went_lt hv.1 k x))
              have s3 : SameI (FR (B + 4 + 7 * i)) μ2 (wI μ2 (B + 4 + 7 * i + 6) k (nI (hailC (hailT τ x i i) x k 6 k ||| went (hailC (hailT τ x i i) x k) k x))) := SameI.wI ⟨by omega, by omega⟩
              have hT3 := tx_house hT2 (h := i) (by omega) s3.same hv3
              rw [upH_up] at hT3
              refine AW.cg ?_ (ih2 (k + 1) _ (by omega) (by omega) hT3 (hs2.tr (s3.mono (fr_tr (by omega)))))
              simp [hailK, Nat.add_assoc]
        refine AW.iconstN X 0 dX9_hailOnAll_12 rfl ?_
        refine AW.istore X dX9_hailOnAll_13 rfl ?_
        exact L15 _ 0 μ1 (Nat.lt_succ_self _) (by omega) (by rw [hailC, upH_id]; exact hT1) hs1
  refine AW.iconstN X 0 dX9_hailOnAll_0 rfl ?_
  refine AW.istore_n X dX9_hailOnAll_1 (i := 2) rfl rfl ?_
  refine AW.iconstN X 0 dX9_hailOnAll_2 rfl ?_
  refine AW.istore_n X dX9_hailOnAll_3 (i := 3) rfl rfl ?_
  exact AW.cgw (L4 _ 0 μ (Nat.lt_succ_self _) (by omega) hT SameI.rf) ⟨rfl, rfl, rfl, rfl, trivial⟩
