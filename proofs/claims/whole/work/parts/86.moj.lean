/-! the image of the reference -/
def KOp (o q _k : Nat) : Prop := q = o
def KP (μ μc : Mm) (o a x y : Nat) : Prop := SmM (KOp o) μ μc ∧ (∀ k, k < a → μc.1 o k = μ.1 4 k ∧ μc.1 o (6 + k) = μ.1 5 k ∧ μc.1 o (12 + k) = μ.1 6 k ∧ μc.1 o (330 + k) = μ.1 13 k ∧ μc.1 o (336 + k) = μ.1 14 k) ∧ (∀ k, k < x → μc.1 o (18 + k) = μ.1 7 k ∧ μc.1 o (66 + k) = μ.1 8 k ∧ μc.1 o (114 + k) = μ.1 9 k ∧ μc.1 o (162 + k) = μ.1 10 k ∧ μc.1 o (210 + k) = μ.1 11 k) ∧ ∀ k, k < y → μc.1 o (258 + k) = μ.1 12 k
theorem kp_0 {μ : Mm} {o : Nat} : KP μ μ o 0 0 0 := ⟨SmM.rf, fun k h => absurd h (Nat.not_lt_zero k), fun k h => absurd h (Nat.not_lt_zero k), fun k h => absurd h (Nat.not_lt_zero k)⟩
theorem kp_a {μ μc : Mm} {o a : Nat} (ha : a < 6) (h : KP μ μc o a 0 0) : KP μ (wI (wI (wI (wI (wI μc o a (μ.1 4 a)) o (6 + a) (μ.1 5 a)) o (12 + a) (μ.1 6 a)) o (330 + a) (μ.1 13 a)) o (336 + a) (μ.1 14 a)) o (a + 1) 0 0 := by
  obtain ⟨h1, h2, h3, h4⟩ := h
  refine ⟨(((((h1.trn (SmM.w rfl)).trn (SmM.w rfl)).trn (SmM.w rfl)).trn (SmM.w rfl)).trn (SmM.w rfl)), fun k hk => ?_, fun k hk => ?_, fun k hk => ?_⟩
  · simp only [wI, false_and, true_and, if_false]
    refine ⟨?_, ?_, ?_, ?_, ?_⟩
    all_goals (repeat' split)
    all_goals first | (exfalso; omega) | ((obtain rfl : k = a := by omega); rfl) | exact (h2 k (by omega)).1 | exact (h2 k (by omega)).2.1 | exact (h2 k (by omega)).2.2.1 | exact (h2 k (by omega)).2.2.2.1 | exact (h2 k (by omega)).2.2.2.2
  · simp only [wI, false_and, true_and, if_false]
    refine ⟨?_, ?_, ?_, ?_, ?_⟩
    all_goals (repeat' split)
    all_goals first | (exfalso; omega) | ((obtain rfl : k = a := by omega); rfl) | exact (h3 k (by omega)).1 | exact (h3 k (by omega)).2.1 | exact (h3 k (by omega)).2.2.1 | exact (h3 k (by omega)).2.2.2.1 | exact (h3 k (by omega)).2.2.2.2
  · simp only [wI, false_and, true_and, if_false]
    all_goals (repeat' split)
    all_goals first | (exfalso; omega) | ((obtain rfl : k = a := by omega); rfl) | exact (h4 k (by omega))
theorem kp_b {μ μc : Mm} {o a : Nat} (ha : a < 48) (h : KP μ μc o 6 a 0) : KP μ (wI (wI (wI (wI (wI μc o (18 + a) (μ.1 7 a)) o (66 + a) (μ.1 8 a)) o (114 + a) (μ.1 9 a)) o (162 + a) (μ.1 10 a)) o (210 + a) (μ.1 11 a)) o 6 (a + 1) 0 := by
  obtain ⟨h1, h2, h3, h4⟩ := h
  refine ⟨(((((h1.trn (SmM.w rfl)).trn (SmM.w rfl)).trn (SmM.w rfl)).trn (SmM.w rfl)).trn (SmM.w rfl)), fun k hk => ?_, fun k hk => ?_, fun k hk => ?_⟩
  · simp only [wI, false_and, true_and, if_false]
    refine ⟨?_, ?_, ?_, ?_, ?_⟩
    all_goals (repeat' split)
    all_goals first | (exfalso; omega) | ((obtain rfl : k = a := by omega); rfl) | exact (h2 k (by omega)).1 | exact (h2 k (by omega)).2.1 | exact (h2 k (by omega)).2.2.1 | exact (h2 k (by omega)).2.2.2.1 | exact (h2 k (by omega)).2.2.2.2
  · simp only [wI, false_and, true_and, if_false]
    refine ⟨?_, ?_, ?_, ?_, ?_⟩
    all_goals (repeat' split)
    all_goals first | (exfalso; omega) | ((obtain rfl : k = a := by omega); rfl) | exact (h3 k (by omega)).1 | exact (h3 k (by omega)).2.1 | exact (h3 k (by omega)).2.2.1 | exact (h3 k (by omega)).2.2.2.1 | exact (h3 k (by omega)).2.2.2.2
  · simp only [wI, false_and, true_and, if_false]
    all_goals (repeat' split)
    all_goals first | (exfalso; omega) | ((obtain rfl : k = a := by omega); rfl) | exact (h4 k (by omega))
theorem kp_c {μ μc : Mm} {o a : Nat} (ha : a < 72) (h : KP μ μc o 6 48 a) : KP μ (wI μc o (258 + a) (μ.1 12 a)) o 6 48 (a + 1) := by
  obtain ⟨h1, h2, h3, h4⟩ := h
  refine ⟨(h1.trn (SmM.w rfl)), fun k hk => ?_, fun k hk => ?_, fun k hk => ?_⟩
  · simp only [wI, false_and, true_and, if_false]
    refine ⟨?_, ?_, ?_, ?_, ?_⟩
    all_goals (repeat' split)
    all_goals first | (exfalso; omega) | ((obtain rfl : k = a := by omega); rfl) | exact (h2 k (by omega)).1 | exact (h2 k (by omega)).2.1 | exact (h2 k (by omega)).2.2.1 | exact (h2 k (by omega)).2.2.2.1 | exact (h2 k (by omega)).2.2.2.2
  · simp only [wI, false_and, true_and, if_false]
    refine ⟨?_, ?_, ?_, ?_, ?_⟩
    all_goals (repeat' split)
    all_goals first | (exfalso; omega) | ((obtain rfl : k = a := by omega); rfl) | exact (h3 k (by omega)).1 | exact (h3 k (by omega)).2.1 | exact (h3 k (by omega)).2.2.1 | exact (h3 k (by omega)).2.2.2.1 | exact (h3 k (by omega)).2.2.2.2
  · simp only [wI, false_and, true_and, if_false]
    all_goals (repeat' split)
    all_goals first | (exfalso; omega) | ((obtain rfl : k = a := by omega); rfl) | exact (h4 k (by omega))
def AGQ (μ μc : Mm) (o a x y : Nat) : Prop := SmM (TPl) μ μc ∧ (∀ k, k < a → μc.1 4 k = μ.1 o k ∧ μc.1 5 k = μ.1 o (6 + k) ∧ μc.1 6 k = μ.1 o (12 + k) ∧ μc.1 13 k = μ.1 o (330 + k) ∧ μc.1 14 k = μ.1 o (336 + k)) ∧ (∀ k, k < x → μc.1 7 k = μ.1 o (18 + k) ∧ μc.1 8 k = μ.1 o (66 + k) ∧ μc.1 9 k = μ.1 o (114 + k) ∧ μc.1 10 k = μ.1 o (162 + k) ∧ μc.1 11 k = μ.1 o (210 + k)) ∧ ∀ k, k < y → μc.1 12 k = μ.1 o (258 + k)
theorem ag_0 {μ : Mm} {o : Nat} : AGQ μ μ o 0 0 0 := ⟨SmM.rf, fun k h => absurd h (Nat.not_lt_zero k), fun k h => absurd h (Nat.not_lt_zero k), fun k h => absurd h (Nat.not_lt_zero k)⟩
theorem ag_a {μ μc : Mm} {o a : Nat} (ho : 17 ≤ o) (ha : a < 6) (h : AGQ μ μc o a 0 0) : AGQ μ (wI (wI (wI (wI (wI μc 4 a (μ.1 o a)) 5 a (μ.1 o (6 + a))) 6 a (μ.1 o (12 + a))) 13 a (μ.1 o (330 + a))) 14 a (μ.1 o (336 + a))) o (a + 1) 0 0 := by
  obtain ⟨h1, h2, h3, h4⟩ := h
  refine ⟨(((((h1.trn (SmM.w (Or.inl ⟨by decide, by decide⟩))).trn (SmM.w (Or.inl ⟨by decide, by decide⟩))).trn (SmM.w (Or.inl ⟨by decide, by decide⟩))).trn (SmM.w (Or.inl ⟨by decide, by decide⟩))).trn (SmM.w (Or.inl ⟨by decide, by decide⟩))), fun k hk => ?_, fun k hk => ?_, fun k hk => ?_⟩
  · simp only [wI, false_and, true_and, if_false]
    refine ⟨?_, ?_, ?_, ?_, ?_⟩
    all_goals (repeat' split)
    all_goals first | (exfalso; omega) | ((obtain rfl : k = a := by omega); rfl) | exact (h2 k (by omega)).1 | exact (h2 k (by omega)).2.1 | exact (h2 k (by omega)).2.2.1 | exact (h2 k (by omega)).2.2.2.1 | exact (h2 k (by omega)).2.2.2.2
  · simp only [wI, false_and, true_and, if_false]
    refine ⟨?_, ?_, ?_, ?_, ?_⟩
    all_goals (repeat' split)
    all_goals first | (exfalso; omega) | ((obtain rfl : k = a := by omega); rfl) | exact (h3 k (by omega)).1 | exact (h3 k (by omega)).2.1 | exact (h3 k (by omega)).2.2.1 | exact (h3 k (by omega)).2.2.2.1 | exact (h3 k (by omega)).2.2.2.2
  · simp only [wI, false_and, true_and, if_false]
    all_goals (repeat' split)
    all_goals first | (exfalso; omega) | ((obtain rfl : k = a := by omega); rfl) | exact (h4 k (by omega))
theorem ag_b {μ μc : Mm} {o a : Nat} (ho : 17 ≤ o) (ha : a < 48) (h : AGQ μ μc o 6 a 0) : AGQ μ (wI (wI (wI (wI (wI μc 7 a (μ.1 o (18 + a))) 8 a (μ.1 o (66 + a))) 9 a (μ.1 o (114 + a))) 10 a (μ.1 o (162 + a))) 11 a (μ.1 o (210 + a))) o 6 (a + 1) 0 := by
  obtain ⟨h1, h2, h3, h4⟩ := h
  refine ⟨(((((h1.trn (SmM.w (Or.inl ⟨by decide, by decide⟩))).trn (SmM.w (Or.inl ⟨by decide, by decide⟩))).trn (SmM.w (Or.inl ⟨by decide, by decide⟩))).trn (SmM.w (Or.inl ⟨by decide, by decide⟩))).trn (SmM.w (Or.inl ⟨by decide, by decide⟩))), fun k hk => ?_, fun k hk => ?_, fun k hk => ?_⟩
  · simp only [wI, false_and, true_and, if_false]
    refine ⟨?_, ?_, ?_, ?_, ?_⟩
    all_goals (repeat' split)
    all_goals first | (exfalso; omega) | ((obtain rfl : k = a := by omega); rfl) | exact (h2 k (by omega)).1 | exact (h2 k (by omega)).2.1 | exact (h2 k (by omega)).2.2.1 | exact (h2 k (by omega)).2.2.2.1 | exact (h2 k (by omega)).2.2.2.2
  · simp only [wI, false_and, true_and, if_false]
    refine ⟨?_, ?_, ?_, ?_, ?_⟩
    all_goals (repeat' split)
    all_goals first | (exfalso; omega) | ((obtain rfl : k = a := by omega); rfl) | exact (h3 k (by omega)).1 | exact (h3 k (by omega)).2.1 | exact (h3 k (by omega)).2.2.1 | exact (h3 k (by omega)).2.2.2.1 | exact (h3 k (by omega)).2.2.2.2
  · simp only [wI, false_and, true_and, if_false]
    all_goals (repeat' split)
    all_goals first | (exfalso; omega) | ((obtain rfl : k = a := by omega); rfl) | exact (h4 k (by omega))
theorem ag_c {μ μc : Mm} {o a : Nat} (ho : 17 ≤ o) (ha : a < 72) (h : AGQ μ μc o 6 48 a) : AGQ μ (wI μc 12 a (μ.1 o (258 + a))) o 6 48 (a + 1) := by
  obtain ⟨h1, h2, h3, h4⟩ := h
  refine ⟨(h1.trn (SmM.w (Or.inl ⟨by decide, by decide⟩))), fun k hk => ?_, fun k hk => ?_, fun k hk => ?_⟩
  · simp only [wI, false_and, true_and, if_false]
    refine ⟨?_, ?_, ?_, ?_, ?_⟩
    all_goals (repeat' split)
    all_goals first | (exfalso; omega) | ((obtain rfl : k = a := by omega); rfl) | exact (h2 k (by omega)).1 | exact (h2 k (by omega)).2.1 | exact (h2 k (by omega)).2.2.1 | exact (h2 k (by omega)).2.2.2.1 | exact (h2 k (by omega)).2.2.2.2
  · simp only [wI, false_and, true_and, if_false]
    refine ⟨?_, ?_, ?_, ?_, ?_⟩
    all_goals (repeat' split)
    all_goals first | (exfalso; omega) | ((obtain rfl : k = a := by omega); rfl) | exact (h3 k (by omega)).1 | exact (h3 k (by omega)).2.1 | exact (h3 k (by omega)).2.2.1 | exact (h3 k (by omega)).2.2.2.1 | exact (h3 k (by omega)).2.2.2.2
  · simp only [wI, false_and, true_and, if_false]
    all_goals (repeat' split)
    all_goals first | (exfalso; omega) | ((obtain rfl : k = a := by omega); rfl) | exact (h4 k (by omega))
theorem kp_end {μ μc : Mm} {o : Nat} {τ : Tt} (h : KP μ μc o 6 48 72) (hT : TMX μ τ) : OLD (wI (wI (wI (wI (wI μc o 342 (nI (τ 6 0 0))) o 343 (nI ((100 * (τ 6 0 1)) + (τ 6 0 2)))) o 344 (nI (τ 6 0 3))) o 345 (nI (τ 6 0 4))) o 346 (nI (τ 6 0 5))) o τ ∧ SmM (KOp o) μ (wI (wI (wI (wI (wI μc o 342 (nI (τ 6 0 0))) o 343 (nI ((100 * (τ 6 0 1)) + (τ 6 0 2)))) o 344 (nI (τ 6 0 3))) o 345 (nI (τ 6 0 4))) o 346 (nI (τ 6 0 5))) := by
  have hi := hT.1
  have e : ∀ k, k < 342 → ((wI (wI (wI (wI (wI μc o 342 (nI (τ 6 0 0))) o 343 (nI ((100 * (τ 6 0 1)) + (τ 6 0 2)))) o 344 (nI (τ 6 0 3))) o 345 (nI (τ 6 0 4))) o 346 (nI (τ 6 0 5)))).1 o k = μc.1 o k := fun k hk => by
    simp only [wI]
    rw [if_neg (by omega), if_neg (by omega), if_neg (by omega), if_neg (by omega), if_neg (by omega)]
  refine ⟨⟨hi, by simp [wI], fun c hc => ?_, fun x hx => ?_⟩, ((((h.1.trn (SmM.w rfl)).trn (SmM.w rfl)).trn (SmM.w rfl)).trn (SmM.w rfl)).trn (SmM.w rfl)⟩
  · rw [e (330 + c) (by omega), e (336 + c) (by omega)]
    have a := h.2.1 c hc
    have d := hT.2.2.1 c hc
    exact ⟨a.2.2.2.1.trans d.1, a.2.2.2.2.trans d.2⟩
  · have hn := hi.1
    have d := hT.2.2.2 x hx
    have hb := hi_n d.1
    refine ⟨?_, fun c hc => ?_, fun k hk => ?_⟩
    · rw [e x (by omega), e (6 + x) (by omega), e (12 + x) (by omega)]
      have a := h.2.1 x (by omega)
      exact ⟨a.1.trans d.2.1.1, a.2.1.trans d.2.1.2.1, a.2.2.1.trans d.2.1.2.2⟩
    · rw [e (18 + (8 * x + c)) (by omega), e (66 + (8 * x + c)) (by omega), e (114 + (8 * x + c)) (by omega), e (162 + (8 * x + c)) (by omega), e (210 + (8 * x + c)) (by omega)]
      have a := h.2.2.1 (8 * x + c) (by omega)
      have d2 := d.2.2.1 c hc
      exact ⟨a.1.trans d2.1, a.2.1.trans d2.2.1, a.2.2.1.trans d2.2.2.1, a.2.2.2.1.trans d2.2.2.2.1, a.2.2.2.2.trans d2.2.2.2.2⟩
    · rw [e (258 + (12 * x + k)) (by omega)]
      exact (h.2.2.2 (12 * x + k) (by omega)).trans (d.2.2.2 k hk)
theorem ag_end {μ μc : Mm} {o : Nat} {τ : Tt} (h : AGQ μ μc o 6 48 72) (hO : OLD μ o τ) : TMX (wI (wI (wI (wI (wI (wI μc 0 3 (nI (τ 6 0 0))) 0 15 (nI (τ 6 0 1))) 0 16 (nI (τ 6 0 2))) 0 17 (nI (τ 6 0 3))) 0 18 (nI (τ 6 0 4))) 0 19 (nI (τ 6 0 5))) τ ∧ SmM TPl μ (wI (wI (wI (wI (wI (wI μc 0 3 (nI (τ 6 0 0))) 0 15 (nI (τ 6 0 1))) 0 16 (nI (τ 6 0 2))) 0 17 (nI (τ 6 0 3))) 0 18 (nI (τ 6 0 4))) 0 19 (nI (τ 6 0 5))) := by
  have hi := hO.1
  have e : ∀ q k, q ≠ 0 → ((wI (wI (wI (wI (wI (wI μc 0 3 (nI (τ 6 0 0))) 0 15 (nI (τ 6 0 1))) 0 16 (nI (τ 6 0 2))) 0 17 (nI (τ 6 0 3))) 0 18 (nI (τ 6 0 4))) 0 19 (nI (τ 6 0 5)))).1 q k = μc.1 q k := fun q k hq => by simp [wI, hq]
  refine ⟨⟨hi, by simp [wI], fun c hc => ?_, fun x hx => ?_⟩, (((((h.1.trn (SmM.w (Or.inr ⟨rfl, by omega⟩))).trn (SmM.w (Or.inr ⟨rfl, by omega⟩))).trn (SmM.w (Or.inr ⟨rfl, by omega⟩))).trn (SmM.w (Or.inr ⟨rfl, by omega⟩))).trn (SmM.w (Or.inr ⟨rfl, by omega⟩))).trn (SmM.w (Or.inr ⟨rfl, by omega⟩))⟩
  · rw [e 13 c (by decide), e 14 c (by decide)]
    have a := h.2.1 c hc
    have d := hO.2.2.1 c hc
    exact ⟨a.2.2.2.1.trans d.1, a.2.2.2.2.trans d.2⟩
  · have hn := hi.1
    have d := hO.2.2.2 x hx
    have hI := hi.2.2.2.2 x hx
    have hb := hi_n hI
    refine ⟨hI, ?_, fun c hc => ?_, fun k hk => ?_⟩
    · rw [e 4 x (by decide), e 5 x (by decide), e 6 x (by decide)]
      have a := h.2.1 x (by omega)
      exact ⟨a.1.trans d.1.1, a.2.1.trans d.1.2.1, a.2.2.1.trans d.1.2.2⟩
    · rw [e 7 _ (by decide), e 8 _ (by decide), e 9 _ (by decide), e 10 _ (by decide), e 11 _ (by decide)]
      have a := h.2.2.1 (8 * x + c) (by omega)
      have d2 := d.2.1 c hc
      exact ⟨a.1.trans d2.1, a.2.1.trans d2.2.1, a.2.2.1.trans d2.2.2.1, a.2.2.2.1.trans d2.2.2.2.1, a.2.2.2.2.trans d2.2.2.2.2⟩
    · rw [e 12 _ (by decide)]
      exact (h.2.2.2 (12 * x + k) (by omega)).trans (d.2.2 k hk)
set_option maxRecDepth 100000 in
set_option maxHeartbeats 4000000 in
theorem c_keep17 {l : Launch} {δ : Dl} {b : Nat} {μ : Mm} {τ : Tt} (W : WM μ.2.2) (hT : TMX μ τ) : MCM l δ b yX12_keep cX12_keep 3 none 1 [.ref (b + 0), .ref (b + 17)] μ (pV fun μ' => OLD μ' 17 τ ∧ SmM (KOp 17) μ μ') := by
  have b1 := hT.1.2.1
  have b2 := hT.1.2.2.1
  refine MC.intro ([some (.ref (b + 0)), some (.ref (b + 17)), none]) (by decide) rfl rfl fun κ Qc hl hQ X => ?_
  subst hl
  refine AW.iconstN X 0 dX12_keep_0 rfl ?_
  refine AW.istore_n X dX12_keep_1 (i := 2) rfl rfl ?_
  have L2 : ∀ (m2 ix : Nat) (μa : Mm), 6 - ix < m2 → ix ≤ 6 → (KP μ μa 17 ix 0 0) → AW κ (δ, b, NM, 3, shM, False, Qc, 0, 0) NM 0 0 2 [some (.ref (b + 0)), some (.ref (b + 17)), some (.int (nI ix))] [] μa := by
    intro m2
    induction m2 with
    | zero => intro ix μa hm; exact absurd hm (Nat.not_lt_zero _)
    | succ m2 ih2 =>
      intro ix μa hm2 hi2 hka
      have Wa := wm_same W hka.1
      refine AW.iload_n X dX12_keep_2 (i := 2) rfl rfl ?_
      refine AW.bipushN X 6 dX12_keep_3 rfl ?_
      refine AW.icmp_geN X (tgt := 73) dX12_keep_5 (by decide) (by omega) (by omega) (fun h5 => ?_) (fun h5 => ?_)
      · obtain rfl : 6 = ix := by omega
        have n5 := Nat.not_lt_of_le h5
        refine AW.iconstN X 0 dX12_keep_73 rfl ?_
        refine AW.istore_n X dX12_keep_74 (i := 2) rfl rfl ?_
        have L75 : ∀ (m75 ix : Nat) (μd : Mm), 48 - ix < m75 → ix ≤ 48 → (KP μ μd 17 6 ix 0) → AW κ (δ, b, NM, 3, shM, False, Qc, 0, 0) NM 0 0 75 [some (.ref (b + 0)), some (.ref (b + 17)), some (.int (nI ix))] [] μd := by
          intro m75
          induction m75 with
          | zero => intro ix μd hm; exact absurd hm (Nat.not_lt_zero _)
          | succ m75 ih75 =>
            intro ix μd hm75 hi75 hkb
            have Wd := wm_same W hkb.1
            refine AW.iload_n X dX12_keep_75 (i := 2) rfl rfl ?_
            refine AW.bipushN X 48 dX12_keep_76 rfl ?_
            refine AW.icmp_geN X (tgt := 149) dX12_keep_78 (by decide) (by omega) (by omega) (fun h78 => ?_) (fun h78 => ?_)
            · obtain rfl : 48 = ix := by omega
              have n78 := Nat.not_lt_of_le h78
              refine AW.iconstN X 0 dX12_keep_149 rfl ?_
              refine AW.istore_n X dX12_keep_150 (i := 2) rfl rfl ?_
              have L151 : ∀ (m151 ix : Nat) (μe : Mm), 72 - ix < m151 → ix ≤ 72 → (KP μ μe 17 6 48 ix) → AW κ (δ, b, NM, 3, shM, False, Qc, 0, 0) NM 0 0 151 [some (.ref (b + 0)), some (.ref (b + 17)), some (.int (nI ix))] [] μe := by
                intro m151
                induction m151 with
                | zero => intro ix μe hm; exact absurd hm (Nat.not_lt_zero _)
                | succ m151 ih151 =>
                  intro ix μe hm151 hi151 hkc
                  have We := wm_same W hkc.1
                  refine AW.iload_n X dX12_keep_151 (i := 2) rfl rfl ?_
                  refine AW.bipushN X 72 dX12_keep_152 rfl ?_
                  refine AW.icmp_geN X (tgt := 176) dX12_keep_154 (by decide) (by omega) (by omega) (fun h154 => ?_) (fun h154 => ?_)
                  · obtain rfl : 72 = ix := by omega
                    have n154 := Nat.not_lt_of_le h154
                    refine AW.aload_n X dX12_keep_176 (i := 1) rfl rfl ?_
                    refine AW.sipushN X 342 dX12_keep_177 rfl ?_
                    refine AW.aload_n X dX12_keep_180 (i := 0) rfl rfl ?_
                    refine AW.getI X dX12_keep_181 fX12_87 rfl om0 (v := (nI (τ 6 0 0))) (by first | exact (hkc.1.2 0 3 (by unfold KOp; omega)).trans (tm_0 hT) | (simp [wI]; exact (hkc.1.2 0 3 (by unfold KOp; omega)).trans (tm_0 hT))) ?_
                    refine AW.iastore X dX12_keep_184 (by decide) (am_at 16 rfl) (n2_in (by omega) (by decide)) ?_
                    rw [n2_clamp (by omega)]
                    refine AW.aload_n X dX12_keep_185 (i := 1) rfl rfl ?_
                    refine AW.sipushN X 343 dX12_keep_186 rfl ?_
                    refine AW.bipushN X 100 dX12_keep_189 rfl ?_
                    refine AW.aload_n X dX12_keep_191 (i := 0) rfl rfl ?_
                    refine AW.getI X dX12_keep_192 fX12_74 rfl om0 (v := (nI (τ 6 0 1))) (by first | exact (hkc.1.2 0 15 (by unfold KOp; omega)).trans (tm_l hT) | (simp [wI]; exact (hkc.1.2 0 15 (by unfold KOp; omega)).trans (tm_l hT))) ?_
                    refine AW.imulN X dX12_keep_195 ?_
                    refine AW.aload_n X dX12_keep_196 (i := 0) rfl rfl ?_
                    refine AW.getI X dX12_keep_197 fX12_78 rfl om0 (v := (nI (τ 6 0 2))) (by first | exact (hkc.1.2 0 16 (by unfold KOp; omega)).trans (tm_w hT) | (simp [wI]; exact (hkc.1.2 0 16 (by unfold KOp; omega)).trans (tm_w hT))) ?_
                    refine AW.iaddN X dX12_keep_200 ?_
                    refine AW.iastore X dX12_keep_201 (by decide) (am_at 16 rfl) (n2_in (by omega) (by decide)) ?_
                    rw [n2_clamp (by omega)]
                    refine AW.aload_n X dX12_keep_202 (i := 1) rfl rfl ?_
                    refine AW.sipushN X 344 dX12_keep_203 rfl ?_
                    refine AW.aload_n X dX12_keep_206 (i := 0) rfl rfl ?_
                    refine AW.getI X dX12_keep_207 fX12_139 rfl om0 (v := (nI (τ 6 0 3))) (by first | exact (hkc.1.2 0 17 (by unfold KOp; omega)).trans (tm_y hT) | (simp [wI]; exact (hkc.1.2 0 17 (by unfold KOp; omega)).trans (tm_y hT))) ?_
                    refine AW.iastore X dX12_keep_210 (by decide) (am_at 16 rfl) (n2_in (by omega) (by decide)) ?_
                    rw [n2_clamp (by omega)]
                    refine AW.aload_n X dX12_keep_211 (i := 1) rfl rfl ?_
                    refine AW.sipushN X 345 dX12_keep_212 rfl ?_
                    refine AW.aload_n X dX12_keep_215 (i := 0) rfl rfl ?_
                    refine AW.getI X dX12_keep_216 fX12_272 rfl om0 (v := (nI (τ 6 0 4))) (by first | exact (hkc.1.2 0 18 (by unfold KOp; omega)).trans (tm_f hT) | (simp [wI]; exact (hkc.1.2 0 18 (by unfold KOp; omega)).trans (tm_f hT))) ?_
                    refine AW.iastore X dX12_keep_219 (by decide) (am_at 16 rfl) (n2_in (by omega) (by decide)) ?_
                    rw [n2_clamp (by omega)]
                    refine AW.aload_n X dX12_keep_220 (i := 1) rfl rfl ?_
                    refine AW.sipushN X 346 dX12_keep_221 rfl ?_
                    refine AW.aload_n X dX12_keep_224 (i := 0) rfl rfl ?_
                    refine AW.getI X dX12_keep_225 fX12_81 rfl om0 (v := (nI (τ 6 0 5))) (by first | exact (hkc.1.2 0 19 (by unfold KOp; omega)).trans (tm_s hT) | (simp [wI]; exact (hkc.1.2 0 19 (by unfold KOp; omega)).trans (tm_s hT))) ?_
                    refine AW.iastore X dX12_keep_228 (by decide) (am_at 16 rfl) (n2_in (by omega) (by decide)) ?_
                    rw [n2_clamp (by omega)]
                    refine AW.vret X hQ dX12_keep_229 ⟨rfl, ?_⟩
                    exact kp_end hkc hT
                  · have n154 := Nat.not_le_of_lt h154
                    refine AW.aload_n X dX12_keep_157 (i := 1) rfl rfl ?_
                    refine AW.sipushN X 258 dX12_keep_158 rfl ?_
                    refine AW.iload_n X dX12_keep_161 (i := 2) rfl rfl ?_
                    refine AW.iaddN X dX12_keep_162 ?_
                    refine AW.aload_n X dX12_keep_163 (i := 0) rfl rfl ?_
                    refine AW.getR X dX12_keep_164 fX12_44 rfl om0 (wm_at We 11 rfl) ?_
                    refine AW.iload_n X dX12_keep_167 (i := 2) rfl rfl ?_
                    refine AW.iaload X dX12_keep_168 (am_at 11 rfl) (n2_in (by omega) (by decide)) (v := (μ.1 12 ix)) (by rw [n2_clamp (by omega)]; first | exact hkc.1.2 12 ix (by unfold KOp; omega) | (simp [wI]; exact hkc.1.2 12 ix (by unfold KOp; omega))) ?_
                    refine AW.iastore X dX12_keep_169 (by decide) (am_at 16 rfl) (n2_in (by omega) (by decide)) ?_
                    rw [n2_clamp (by omega)]
                    refine AW.iincN X (c := (ix + 1)) dX12_keep_170 rfl (inc_1 _) rfl ?_
                    refine AW.goto X (tgt := 151) dX12_keep_173 (by decide) ?_
                    refine AW.cgw (ih151 (ix + 1) (wI μe 17 (258 + ix) (μ.1 12 ix)) (by omega) (by omega) (kp_c (by omega) hkc)) ⟨rfl, rfl, rfl, trivial⟩
              refine AW.cgw (L151 _ 0 μd (Nat.lt_succ_self _) (by omega) hkb) ⟨rfl, rfl, rfl, trivial⟩
            · have n78 := Nat.not_le_of_lt h78
              refine AW.aload_n X dX12_keep_81 (i := 1) rfl rfl ?_
              refine AW.bipushN X 18 dX12_keep_82 rfl ?_
              refine AW.iload_n X dX12_keep_84 (i := 2) rfl rfl ?_
              refine AW.iaddN X dX12_keep_85 ?_
              refine AW.aload_n X dX12_keep_86 (i := 0) rfl rfl ?_
              refine AW.getR X dX12_keep_87 fX12_29 rfl om0 (wm_at Wd 6 rfl) ?_
              refine AW.iload_n X dX12_keep_90 (i := 2) rfl rfl ?_
              refine AW.iaload X dX12_keep_91 (am_at 6 rfl) (n2_in (by omega) (by decide)) (v := (μ.1 7 ix)) (by rw [n2_clamp (by omega)]; first | exact hkb.1.2 7 ix (by unfold KOp; omega) | (simp [wI]; exact hkb.1.2 7 ix (by unfold KOp; omega))) ?_
              refine AW.iastore X dX12_keep_92 (by decide) (am_at 16 rfl) (n2_in (by omega) (by decide)) ?_
              rw [n2_clamp (by omega)]
              refine AW.aload_n X dX12_keep_93 (i := 1) rfl rfl ?_
              refine AW.bipushN X 66 dX12_keep_94 rfl ?_
              refine AW.iload_n X dX12_keep_96 (i := 2) rfl rfl ?_
              refine AW.iaddN X dX12_keep_97 ?_
              refine AW.aload_n X dX12_keep_98 (i := 0) rfl rfl ?_
              refine AW.getR X dX12_keep_99 fX12_32 rfl om0 (wm_at Wd 7 rfl) ?_
              refine AW.iload_n X dX12_keep_102 (i := 2) rfl rfl ?_
              refine AW.iaload X dX12_keep_103 (am_at 7 rfl) (n2_in (by omega) (by decide)) (v := (μ.1 8 ix)) (by rw [n2_clamp (by omega)]; first | exact hkb.1.2 8 ix (by unfold KOp; omega) | (simp [wI]; exact hkb.1.2 8 ix (by unfold KOp; omega))) ?_
              refine AW.iastore X dX12_keep_104 (by decide) (am_at 16 rfl) (n2_in (by omega) (by decide)) ?_
              rw [n2_clamp (by omega)]
              refine AW.aload_n X dX12_keep_105 (i := 1) rfl rfl ?_
              refine AW.bipushN X 114 dX12_keep_106 rfl ?_
              refine AW.iload_n X dX12_keep_108 (i := 2) rfl rfl ?_
              refine AW.iaddN X dX12_keep_109 ?_
              refine AW.aload_n X dX12_keep_110 (i := 0) rfl rfl ?_
              refine AW.getR X dX12_keep_111 fX12_35 rfl om0 (wm_at Wd 8 rfl) ?_
              refine AW.iload_n X dX12_keep_114 (i := 2) rfl rfl ?_
              refine AW.iaload X dX12_keep_115 (am_at 8 rfl) (n2_in (by omega) (by decide)) (v := (μ.1 9 ix)) (by rw [n2_clamp (by omega)]; first | exact hkb.1.2 9 ix (by unfold KOp; omega) | (simp [wI]; exact hkb.1.2 9 ix (by unfold KOp; omega))) ?_
              refine AW.iastore X dX12_keep_116 (by decide) (am_at 16 rfl) (n2_in (by omega) (by decide)) ?_
              rw [n2_clamp (by omega)]
              refine AW.aload_n X dX12_keep_117 (i := 1) rfl rfl ?_
              refine AW.sipushN X 162 dX12_keep_118 rfl ?_
              refine AW.iload_n X dX12_keep_121 (i := 2) rfl rfl ?_
              refine AW.iaddN X dX12_keep_122 ?_
              refine AW.aload_n X dX12_keep_123 (i := 0) rfl rfl ?_
              refine AW.getR X dX12_keep_124 fX12_38 rfl om0 (wm_at Wd 9 rfl) ?_
              refine AW.iload_n X dX12_keep_127 (i := 2) rfl rfl ?_
              refine AW.iaload X dX12_keep_128 (am_at 9 rfl) (n2_in (by omega) (by decide)) (v := (μ.1 10 ix)) (by rw [n2_clamp (by omega)]; first | exact hkb.1.2 10 ix (by unfold KOp; omega) | (simp [wI]; exact hkb.1.2 10 ix (by unfold KOp; omega))) ?_
              refine AW.iastore X dX12_keep_129 (by decide) (am_at 16 rfl) (n2_in (by omega) (by decide)) ?_
              rw [n2_clamp (by omega)]
              refine AW.aload_n X dX12_keep_130 (i := 1) rfl rfl ?_
              refine AW.sipushN X 210 dX12_keep_131 rfl ?_
              refine AW.iload_n X dX12_keep_134 (i := 2) rfl rfl ?_
              refine AW.iaddN X dX12_keep_135 ?_
              refine AW.aload_n X dX12_keep_136 (i := 0) rfl rfl ?_
              refine AW.getR X dX12_keep_137 fX12_41 rfl om0 (wm_at Wd 10 rfl) ?_
              refine AW.iload_n X dX12_keep_140 (i := 2) rfl rfl ?_
              refine AW.iaload X dX12_keep_141 (am_at 10 rfl) (n2_in (by omega) (by decide)) (v := (μ.1 11 ix)) (by rw [n2_clamp (by omega)]; first | exact hkb.1.2 11 ix (by unfold KOp; omega) | (simp [wI]; exact hkb.1.2 11 ix (by unfold KOp; omega))) ?_
              refine AW.iastore X dX12_keep_142 (by decide) (am_at 16 rfl) (n2_in (by omega) (by decide)) ?_
              rw [n2_clamp (by omega)]
              refine AW.iincN X (c := (ix + 1)) dX12_keep_143 rfl (inc_1 _) rfl ?_
              refine AW.goto X (tgt := 75) dX12_keep_146 (by decide) ?_
              refine AW.cgw (ih75 (ix + 1) (wI (wI (wI (wI (wI μd 17 (18 + ix) (μ.1 7 ix)) 17 (66 + ix) (μ.1 8 ix)) 17 (114 + ix) (μ.1 9 ix)) 17 (162 + ix) (μ.1 10 ix)) 17 (210 + ix) (μ.1 11 ix)) (by omega) (by omega) (kp_b (by omega) hkb)) ⟨rfl, rfl, rfl, trivial⟩
        refine AW.cgw (L75 _ 0 μa (Nat.lt_succ_self _) (by omega) hka) ⟨rfl, rfl, rfl, trivial⟩
      · have n5 := Nat.not_le_of_lt h5
        refine AW.aload_n X dX12_keep_8 (i := 1) rfl rfl ?_
        refine AW.iload_n X dX12_keep_9 (i := 2) rfl rfl ?_
        refine AW.aload_n X dX12_keep_10 (i := 0) rfl rfl ?_
        refine AW.getR X dX12_keep_11 fX12_20 rfl om0 (wm_at Wa 3 rfl) ?_
        refine AW.iload_n X dX12_keep_14 (i := 2) rfl rfl ?_
        refine AW.iaload X dX12_keep_15 (am_at 3 rfl) (n2_in (by omega) (by decide)) (v := (μ.1 4 ix)) (by rw [n2_clamp (by omega)]; first | exact hka.1.2 4 ix (by unfold KOp; omega) | (simp [wI]; exact hka.1.2 4 ix (by unfold KOp; omega))) ?_
        refine AW.iastore X dX12_keep_16 (by decide) (am_at 16 rfl) (n2_in (by omega) (by decide)) ?_
        rw [n2_clamp (by omega)]
        refine AW.aload_n X dX12_keep_17 (i := 1) rfl rfl ?_
        refine AW.bipushN X 6 dX12_keep_18 rfl ?_
        refine AW.iload_n X dX12_keep_20 (i := 2) rfl rfl ?_
        refine AW.iaddN X dX12_keep_21 ?_
        refine AW.aload_n X dX12_keep_22 (i := 0) rfl rfl ?_
        refine AW.getR X dX12_keep_23 fX12_23 rfl om0 (wm_at Wa 4 rfl) ?_
        refine AW.iload_n X dX12_keep_26 (i := 2) rfl rfl ?_
        refine AW.iaload X dX12_keep_27 (am_at 4 rfl) (n2_in (by omega) (by decide)) (v := (μ.1 5 ix)) (by rw [n2_clamp (by omega)]; first | exact hka.1.2 5 ix (by unfold KOp; omega) | (simp [wI]; exact hka.1.2 5 ix (by unfold KOp; omega))) ?_
        refine AW.iastore X dX12_keep_28 (by decide) (am_at 16 rfl) (n2_in (by omega) (by decide)) ?_
        rw [n2_clamp (by omega)]
        refine AW.aload_n X dX12_keep_29 (i := 1) rfl rfl ?_
        refine AW.bipushN X 12 dX12_keep_30 rfl ?_
        refine AW.iload_n X dX12_keep_32 (i := 2) rfl rfl ?_
        refine AW.iaddN X dX12_keep_33 ?_
        refine AW.aload_n X dX12_keep_34 (i := 0) rfl rfl ?_
        refine AW.getR X dX12_keep_35 fX12_26 rfl om0 (wm_at Wa 5 rfl) ?_
        refine AW.iload_n X dX12_keep_38 (i := 2) rfl rfl ?_
        refine AW.iaload X dX12_keep_39 (am_at 5 rfl) (n2_in (by omega) (by decide)) (v := (μ.1 6 ix)) (by rw [n2_clamp (by omega)]; first | exact hka.1.2 6 ix (by unfold KOp; omega) | (simp [wI]; exact hka.1.2 6 ix (by unfold KOp; omega))) ?_
        refine AW.iastore X dX12_keep_40 (by decide) (am_at 16 rfl) (n2_in (by omega) (by decide)) ?_
        rw [n2_clamp (by omega)]
        refine AW.aload_n X dX12_keep_41 (i := 1) rfl rfl ?_
        refine AW.sipushN X 330 dX12_keep_42 rfl ?_
        refine AW.iload_n X dX12_keep_45 (i := 2) rfl rfl ?_
        refine AW.iaddN X dX12_keep_46 ?_
        refine AW.aload_n X dX12_keep_47 (i := 0) rfl rfl ?_
        refine AW.getR X dX12_keep_48 fX12_47 rfl om0 (wm_at Wa 12 rfl) ?_
        refine AW.iload_n X dX12_keep_51 (i := 2) rfl rfl ?_
        refine AW.iaload X dX12_keep_52 (am_at 12 rfl) (n2_in (by omega) (by decide)) (v := (μ.1 13 ix)) (by rw [n2_clamp (by omega)]; first | exact hka.1.2 13 ix (by unfold KOp; omega) | (simp [wI]; exact hka.1.2 13 ix (by unfold KOp; omega))) ?_
        refine AW.iastore X dX12_keep_53 (by decide) (am_at 16 rfl) (n2_in (by omega) (by decide)) ?_
        rw [n2_clamp (by omega)]
        refine AW.aload_n X dX12_keep_54 (i := 1) rfl rfl ?_
        refine AW.sipushN X 336 dX12_keep_55 rfl ?_
        refine AW.iload_n X dX12_keep_58 (i := 2) rfl rfl ?_
        refine AW.iaddN X dX12_keep_59 ?_
        refine AW.aload_n X dX12_keep_60 (i := 0) rfl rfl ?_
        refine AW.getR X dX12_keep_61 fX12_50 rfl om0 (wm_at Wa 13 rfl) ?_
        refine AW.iload_n X dX12_keep_64 (i := 2) rfl rfl ?_
        refine AW.iaload X dX12_keep_65 (am_at 13 rfl) (n2_in (by omega) (by decide)) (v := (μ.1 14 ix)) (by rw [n2_clamp (by omega)]; first | exact hka.1.2 14 ix (by unfold KOp; omega) | (simp [wI]; exact hka.1.2 14 ix (by unfold KOp; omega))) ?_
        refine AW.iastore X dX12_keep_66 (by decide) (am_at 16 rfl) (n2_in (by omega) (by decide)) ?_
        rw [n2_clamp (by omega)]
        refine AW.iincN X (c := (ix + 1)) dX12_keep_67 rfl (inc_1 _) rfl ?_
        refine AW.goto X (tgt := 2) dX12_keep_70 (by decide) ?_
        refine AW.cgw (ih2 (ix + 1) (wI (wI (wI (wI (wI μa 17 ix (μ.1 4 ix)) 17 (6 + ix) (μ.1 5 ix)) 17 (12 + ix) (μ.1 6 ix)) 17 (330 + ix) (μ.1 13 ix)) 17 (336 + ix) (μ.1 14 ix)) (by omega) (by omega) (kp_a (by omega) hka)) ⟨rfl, rfl, rfl, trivial⟩
  refine AW.cgw (L2 _ 0 μ (Nat.lt_succ_self _) (by omega) kp_0) ⟨rfl, rfl, rfl, trivial⟩
set_option maxRecDepth 100000 in
set_option maxHeartbeats 4000000 in
theorem c_keep18 {l : Launch} {δ : Dl} {b : Nat} {μ : Mm} {τ : Tt} (W : WM μ.2.2) (hT : TMX μ τ) : MCM l δ b yX12_keep cX12_keep 3 none 1 [.ref (b + 0), .ref (b + 18)] μ (pV fun μ' => OLD μ' 18 τ ∧ SmM (KOp 18) μ μ') := by
  have b1 := hT.1.2.1
  have b2 := hT.1.2.2.1
  refine MC.intro ([some (.ref (b + 0)), some (.ref (b + 18)), none]) (by decide) rfl rfl fun κ Qc hl hQ X => ?_
  subst hl
  refine AW.iconstN X 0 dX12_keep_0 rfl ?_
  refine AW.istore_n X dX12_keep_1 (i := 2) rfl rfl ?_
  have L2 : ∀ (m2 ix : Nat) (μa : Mm), 6 - ix < m2 → ix ≤ 6 → (KP μ μa 18 ix 0 0) → AW κ (δ, b, NM, 3, shM, False, Qc, 0, 0) NM 0 0 2 [some (.ref (b + 0)), some (.ref (b + 18)), some (.int (nI ix))] [] μa := by
    intro m2
    induction m2 with
    | zero => intro ix μa hm; exact absurd hm (Nat.not_lt_zero _)
    | succ m2 ih2 =>
      intro ix μa hm2 hi2 hka
      have Wa := wm_same W hka.1
      refine AW.iload_n X dX12_keep_2 (i := 2) rfl rfl ?_
      refine AW.bipushN X 6 dX12_keep_3 rfl ?_
      refine AW.icmp_geN X (tgt := 73) dX12_keep_5 (by decide) (by omega) (by omega) (fun h5 => ?_) (fun h5 => ?_)
      · obtain rfl : 6 = ix := by omega
        have n5 := Nat.not_lt_of_le h5
        refine AW.iconstN X 0 dX12_keep_73 rfl ?_
        refine AW.istore_n X dX12_keep_74 (i := 2) rfl rfl ?_
        have L75 : ∀ (m75 ix : Nat) (μd : Mm), 48 - ix < m75 → ix ≤ 48 → (KP μ μd 18 6 ix 0) → AW κ (δ, b, NM, 3, shM, False, Qc, 0, 0) NM 0 0 75 [some (.ref (b + 0)), some (.ref (b + 18)), some (.int (nI ix))] [] μd := by
          intro m75
          induction m75 with
          | zero => intro ix μd hm; exact absurd hm (Nat.not_lt_zero _)
          | succ m75 ih75 =>
            intro ix μd hm75 hi75 hkb
            have Wd := wm_same W hkb.1
            refine AW.iload_n X dX12_keep_75 (i := 2) rfl rfl ?_
            refine AW.bipushN X 48 dX12_keep_76 rfl ?_
            refine AW.icmp_geN X (tgt := 149) dX12_keep_78 (by decide) (by omega) (by omega) (fun h78 => ?_) (fun h78 => ?_)
            · obtain rfl : 48 = ix := by omega
              have n78 := Nat.not_lt_of_le h78
              refine AW.iconstN X 0 dX12_keep_149 rfl ?_
              refine AW.istore_n X dX12_keep_150 (i := 2) rfl rfl ?_
              have L151 : ∀ (m151 ix : Nat) (μe : Mm), 72 - ix < m151 → ix ≤ 72 → (KP μ μe 18 6 48 ix) → AW κ (δ, b, NM, 3, shM, False, Qc, 0, 0) NM 0 0 151 [some (.ref (b + 0)), some (.ref (b + 18)), some (.int (nI ix))] [] μe := by
                intro m151
                induction m151 with
                | zero => intro ix μe hm; exact absurd hm (Nat.not_lt_zero _)
                | succ m151 ih151 =>
                  intro ix μe hm151 hi151 hkc
                  have We := wm_same W hkc.1
                  refine AW.iload_n X dX12_keep_151 (i := 2) rfl rfl ?_
                  refine AW.bipushN X 72 dX12_keep_152 rfl ?_
                  refine AW.icmp_geN X (tgt := 176) dX12_keep_154 (by decide) (by omega) (by omega) (fun h154 => ?_) (fun h154 => ?_)
                  · obtain rfl : 72 = ix := by omega
                    have n154 := Nat.not_lt_of_le h154
                    refine AW.aload_n X dX12_keep_176 (i := 1) rfl rfl ?_
                    refine AW.sipushN X 342 dX12_keep_177 rfl ?_
                    refine AW.aload_n X dX12_keep_180 (i := 0) rfl rfl ?_
                    refine AW.getI X dX12_keep_181 fX12_87 rfl om0 (v := (nI (τ 6 0 0))) (by first | exact (hkc.1.2 0 3 (by unfold KOp; omega)).trans (tm_0 hT) | (simp [wI]; exact (hkc.1.2 0 3 (by unfold KOp; omega)).trans (tm_0 hT))) ?_
                    refine AW.iastore X dX12_keep_184 (by decide) (am_at 17 rfl) (n2_in (by omega) (by decide)) ?_
                    rw [n2_clamp (by omega)]
                    refine AW.aload_n X dX12_keep_185 (i := 1) rfl rfl ?_
                    refine AW.sipushN X 343 dX12_keep_186 rfl ?_
                    refine AW.bipushN X 100 dX12_keep_189 rfl ?_
                    refine AW.aload_n X dX12_keep_191 (i := 0) rfl rfl ?_
                    refine AW.getI X dX12_keep_192 fX12_74 rfl om0 (v := (nI (τ 6 0 1))) (by first | exact (hkc.1.2 0 15 (by unfold KOp; omega)).trans (tm_l hT) | (simp [wI]; exact (hkc.1.2 0 15 (by unfold KOp; omega)).trans (tm_l hT))) ?_
                    refine AW.imulN X dX12_keep_195 ?_
                    refine AW.aload_n X dX12_keep_196 (i := 0) rfl rfl ?_
                    refine AW.getI X dX12_keep_197 fX12_78 rfl om0 (v := (nI (τ 6 0 2))) (by first | exact (hkc.1.2 0 16 (by unfold KOp; omega)).trans (tm_w hT) | (simp [wI]; exact (hkc.1.2 0 16 (by unfold KOp; omega)).trans (tm_w hT))) ?_
                    refine AW.iaddN X dX12_keep_200 ?_
                    refine AW.iastore X dX12_keep_201 (by decide) (am_at 17 rfl) (n2_in (by omega) (by decide)) ?_
                    rw [n2_clamp (by omega)]
                    refine AW.aload_n X dX12_keep_202 (i := 1) rfl rfl ?_
                    refine AW.sipushN X 344 dX12_keep_203 rfl ?_
                    refine AW.aload_n X dX12_keep_206 (i := 0) rfl rfl ?_
                    refine AW.getI X dX12_keep_207 fX12_139 rfl om0 (v := (nI (τ 6 0 3))) (by first | exact (hkc.1.2 0 17 (by unfold KOp; omega)).trans (tm_y hT) | (simp [wI]; exact (hkc.1.2 0 17 (by unfold KOp; omega)).trans (tm_y hT))) ?_
                    refine AW.iastore X dX12_keep_210 (by decide) (am_at 17 rfl) (n2_in (by omega) (by decide)) ?_
                    rw [n2_clamp (by omega)]
                    refine AW.aload_n X dX12_keep_211 (i := 1) rfl rfl ?_
                    refine AW.sipushN X 345 dX12_keep_212 rfl ?_
                    refine AW.aload_n X dX12_keep_215 (i := 0) rfl rfl ?_
                    refine AW.getI X dX12_keep_216 fX12_272 rfl om0 (v := (nI (τ 6 0 4))) (by first | exact (hkc.1.2 0 18 (by unfold KOp; omega)).trans (tm_f hT) | (simp [wI]; exact (hkc.1.2 0 18 (by unfold KOp; omega)).trans (tm_f hT))) ?_
                    refine AW.iastore X dX12_keep_219 (by decide) (am_at 17 rfl) (n2_in (by omega) (by decide)) ?_
                    rw [n2_clamp (by omega)]
                    refine AW.aload_n X dX12_keep_220 (i := 1) rfl rfl ?_
                    refine AW.sipushN X 346 dX12_keep_221 rfl ?_
                    refine AW.aload_n X dX12_keep_224 (i := 0) rfl rfl ?_
                    refine AW.getI X dX12_keep_225 fX12_81 rfl om0 (v := (nI (τ 6 0 5))) (by first | exact (hkc.1.2 0 19 (by unfold KOp; omega)).trans (tm_s hT) | (simp [wI]; exact (hkc.1.2 0 19 (by unfold KOp; omega)).trans (tm_s hT))) ?_
                    refine AW.iastore X dX12_keep_228 (by decide) (am_at 17 rfl) (n2_in (by omega) (by decide)) ?_
                    rw [n2_clamp (by omega)]
                    refine AW.vret X hQ dX12_keep_229 ⟨rfl, ?_⟩
                    exact kp_end hkc hT
                  · have n154 := Nat.not_le_of_lt h154
                    refine AW.aload_n X dX12_keep_157 (i := 1) rfl rfl ?_
                    refine AW.sipushN X 258 dX12_keep_158 rfl ?_
                    refine AW.iload_n X dX12_keep_161 (i := 2) rfl rfl ?_
                    refine AW.iaddN X dX12_keep_162 ?_
                    refine AW.aload_n X dX12_keep_163 (i := 0) rfl rfl ?_
                    refine AW.getR X dX12_keep_164 fX12_44 rfl om0 (wm_at We 11 rfl) ?_
                    refine AW.iload_n X dX12_keep_167 (i := 2) rfl rfl ?_
                    refine AW.iaload X dX12_keep_168 (am_at 11 rfl) (n2_in (by omega) (by decide)) (v := (μ.1 12 ix)) (by rw [n2_clamp (by omega)]; first | exact hkc.1.2 12 ix (by unfold KOp; omega) | (simp [wI]; exact hkc.1.2 12 ix (by unfold KOp; omega))) ?_
                    refine AW.iastore X dX12_keep_169 (by decide) (am_at 17 rfl) (n2_in (by omega) (by decide)) ?_
                    rw [n2_clamp (by omega)]
                    refine AW.iincN X (c := (ix + 1)) dX12_keep_170 rfl (inc_1 _) rfl ?_
                    refine AW.goto X (tgt := 151) dX12_keep_173 (by decide) ?_
                    refine AW.cgw (ih151 (ix + 1) (wI μe 18 (258 + ix) (μ.1 12 ix)) (by omega) (by omega) (kp_c (by omega) hkc)) ⟨rfl, rfl, rfl, trivial⟩
              refine AW.cgw (L151 _ 0 μd (Nat.lt_succ_self _) (by omega) hkb) ⟨rfl, rfl, rfl, trivial⟩
            · have n78 := Nat.not_le_of_lt h78
              refine AW.aload_n X dX12_keep_81 (i := 1) rfl rfl ?_
              refine AW.bipushN X 18 dX12_keep_82 rfl ?_
              refine AW.iload_n X dX12_keep_84 (i := 2) rfl rfl ?_
              refine AW.iaddN X dX12_keep_85 ?_
              refine AW.aload_n X dX12_keep_86 (i := 0) rfl rfl ?_
              refine AW.getR X dX12_keep_87 fX12_29 rfl om0 (wm_at Wd 6 rfl) ?_
              refine AW.iload_n X dX12_keep_90 (i := 2) rfl rfl ?_
              refine AW.iaload X dX12_keep_91 (am_at 6 rfl) (n2_in (by omega) (by decide)) (v := (μ.1 7 ix)) (by rw [n2_clamp (by omega)]; first | exact hkb.1.2 7 ix (by unfold KOp; omega) | (simp [wI]; exact hkb.1.2 7 ix (by unfold KOp; omega))) ?_
              refine AW.iastore X dX12_keep_92 (by decide) (am_at 17 rfl) (n2_in (by omega) (by decide)) ?_
              rw [n2_clamp (by omega)]
              refine AW.aload_n X dX12_keep_93 (i := 1) rfl rfl ?_
              refine AW.bipushN X 66 dX12_keep_94 rfl ?_
              refine AW.iload_n X dX12_keep_96 (i := 2) rfl rfl ?_
              refine AW.iaddN X dX12_keep_97 ?_
              refine AW.aload_n X dX12_keep_98 (i := 0) rfl rfl ?_
              refine AW.getR X dX12_keep_99 fX12_32 rfl om0 (wm_at Wd 7 rfl) ?_
              refine AW.iload_n X dX12_keep_102 (i := 2) rfl rfl ?_
              refine AW.iaload X dX12_keep_103 (am_at 7 rfl) (n2_in (by omega) (by decide)) (v := (μ.1 8 ix)) (by rw [n2_clamp (by omega)]; first | exact hkb.1.2 8 ix (by unfold KOp; omega) | (simp [wI]; exact hkb.1.2 8 ix (by unfold KOp; omega))) ?_
              refine AW.iastore X dX12_keep_104 (by decide) (am_at 17 rfl) (n2_in (by omega) (by decide)) ?_
              rw [n2_clamp (by omega)]
              refine AW.aload_n X dX12_keep_105 (i := 1) rfl rfl ?_
              refine AW.bipushN X 114 dX12_keep_106 rfl ?_
              refine AW.iload_n X dX12_keep_108 (i := 2) rfl rfl ?_
              refine AW.iaddN X dX12_keep_109 ?_
              refine AW.aload_n X dX12_keep_110 (i := 0) rfl rfl ?_
              refine AW.getR X dX12_keep_111 fX12_35 rfl om0 (wm_at Wd 8 rfl) ?_
              refine AW.iload_n X dX12_keep_114 (i := 2) rfl rfl ?_
              refine AW.iaload X dX12_keep_115 (am_at 8 rfl) (n2_in (by omega) (by decide)) (v := (μ.1 9 ix)) (by rw [n2_clamp (by omega)]; first | exact hkb.1.2 9 ix (by unfold KOp; omega) | (simp [wI]; exact hkb.1.2 9 ix (by unfold KOp; omega))) ?_
              refine AW.iastore X dX12_keep_116 (by decide) (am_at 17 rfl) (n2_in (by omega) (by decide)) ?_
              rw [n2_clamp (by omega)]
              refine AW.aload_n X dX12_keep_117 (i := 1) rfl rfl ?_
              refine AW.sipushN X 162 dX12_keep_118 rfl ?_
              refine AW.iload_n X dX12_keep_121 (i := 2) rfl rfl ?_
              refine AW.iaddN X dX12_keep_122 ?_
              refine AW.aload_n X dX12_keep_123 (i := 0) rfl rfl ?_
              refine AW.getR X dX12_keep_124 fX12_38 rfl om0 (wm_at Wd 9 rfl) ?_
              refine AW.iload_n X dX12_keep_127 (i := 2) rfl rfl ?_
              refine AW.iaload X dX12_keep_128 (am_at 9 rfl) (n2_in (by omega) (by decide)) (v := (μ.1 10 ix)) (by rw [n2_clamp (by omega)]; first | exact hkb.1.2 10 ix (by unfold KOp; omega) | (simp [wI]; exact hkb.1.2 10 ix (by unfold KOp; omega))) ?_
              refine AW.iastore X dX12_keep_129 (by decide) (am_at 17 rfl) (n2_in (by omega) (by decide)) ?_
              rw [n2_clamp (by omega)]
              refine AW.aload_n X dX12_keep_130 (i := 1) rfl rfl ?_
              refine AW.sipushN X 210 dX12_keep_131 rfl ?_
              refine AW.iload_n X dX12_keep_134 (i := 2) rfl rfl ?_
              refine AW.iaddN X dX12_keep_135 ?_
              refine AW.aload_n X dX12_keep_136 (i := 0) rfl rfl ?_
              refine AW.getR X dX12_keep_137 fX12_41 rfl om0 (wm_at Wd 10 rfl) ?_
              refine AW.iload_n X dX12_keep_140 (i := 2) rfl rfl ?_
              refine AW.iaload X dX12_keep_141 (am_at 10 rfl) (n2_in (by omega) (by decide)) (v := (μ.1 11 ix)) (by rw [n2_clamp (by omega)]; first | exact hkb.1.2 11 ix (by unfold KOp; omega) | (simp [wI]; exact hkb.1.2 11 ix (by unfold KOp; omega))) ?_
              refine AW.iastore X dX12_keep_142 (by decide) (am_at 17 rfl) (n2_in (by omega) (by decide)) ?_
              rw [n2_clamp (by omega)]
              refine AW.iincN X (c := (ix + 1)) dX12_keep_143 rfl (inc_1 _) rfl ?_
              refine AW.goto X (tgt := 75) dX12_keep_146 (by decide) ?_
              refine AW.cgw (ih75 (ix + 1) (wI (wI (wI (wI (wI μd 18 (18 + ix) (μ.1 7 ix)) 18 (66 + ix) (μ.1 8 ix)) 18 (114 + ix) (μ.1 9 ix)) 18 (162 + ix) (μ.1 10 ix)) 18 (210 + ix) (μ.1 11 ix)) (by omega) (by omega) (kp_b (by omega) hkb)) ⟨rfl, rfl, rfl, trivial⟩
        refine AW.cgw (L75 _ 0 μa (Nat.lt_succ_self _) (by omega) hka) ⟨rfl, rfl, rfl, trivial⟩
      · have n5 := Nat.not_le_of_lt h5
        refine AW.aload_n X dX12_keep_8 (i := 1) rfl rfl ?_
        refine AW.iload_n X dX12_keep_9 (i := 2) rfl rfl ?_
        refine AW.aload_n X dX12_keep_10 (i := 0) rfl rfl ?_
        refine AW.getR X dX12_keep_11 fX12_20 rfl om0 (wm_at Wa 3 rfl) ?_
        refine AW.iload_n X dX12_keep_14 (i := 2) rfl rfl ?_
        refine AW.iaload X dX12_keep_15 (am_at 3 rfl) (n2_in (by omega) (by decide)) (v := (μ.1 4 ix)) (by rw [n2_clamp (by omega)]; first | exact hka.1.2 4 ix (by unfold KOp; omega) | (simp [wI]; exact hka.1.2 4 ix (by unfold KOp; omega))) ?_
        refine AW.iastore X dX12_keep_16 (by decide) (am_at 17 rfl) (n2_in (by omega) (by decide)) ?_
        rw [n2_clamp (by omega)]
        refine AW.aload_n X dX12_keep_17 (i := 1) rfl rfl ?_
        refine AW.bipushN X 6 dX12_keep_18 rfl ?_
        refine AW.iload_n X dX12_keep_20 (i := 2) rfl rfl ?_
        refine AW.iaddN X dX12_keep_21 ?_
        refine AW.aload_n X dX12_keep_22 (i := 0) rfl rfl ?_
        refine AW.getR X dX12_keep_23 fX12_23 rfl om0 (wm_at Wa 4 rfl) ?_
        refine AW.iload_n X dX12_keep_26 (i := 2) rfl rfl ?_
        refine AW.iaload X dX12_keep_27 (am_at 4 rfl) (n2_in (by omega) (by decide)) (v := (μ.1 5 ix)) (by rw [n2_clamp (by omega)]; first | exact hka.1.2 5 ix (by unfold KOp; omega) | (simp [wI]; exact hka.1.2 5 ix (by unfold KOp; omega))) ?_
        refine AW.iastore X dX12_keep_28 (by decide) (am_at 17 rfl) (n2_in (by omega) (by decide)) ?_
        rw [n2_clamp (by omega)]
        refine AW.aload_n X dX12_keep_29 (i := 1) rfl rfl ?_
        refine AW.bipushN X 12 dX12_keep_30 rfl ?_
        refine AW.iload_n X dX12_keep_32 (i := 2) rfl rfl ?_
        refine AW.iaddN X dX12_keep_33 ?_
        refine AW.aload_n X dX12_keep_34 (i := 0) rfl rfl ?_
        refine AW.getR X dX12_keep_35 fX12_26 rfl om0 (wm_at Wa 5 rfl) ?_
        refine AW.iload_n X dX12_keep_38 (i := 2) rfl rfl ?_
        refine AW.iaload X dX12_keep_39 (am_at 5 rfl) (n2_in (by omega) (by decide)) (v := (μ.1 6 ix)) (by rw [n2_clamp (by omega)]; first | exact hka.1.2 6 ix (by unfold KOp; omega) | (simp [wI]; exact hka.1.2 6 ix (by unfold KOp; omega))) ?_
        refine AW.iastore X dX12_keep_40 (by decide) (am_at 17 rfl) (n2_in (by omega) (by decide)) ?_
        rw [n2_clamp (by omega)]
        refine AW.aload_n X dX12_keep_41 (i := 1) rfl rfl ?_
        refine AW.sipushN X 330 dX12_keep_42 rfl ?_
        refine AW.iload_n X dX12_keep_45 (i := 2) rfl rfl ?_
        refine AW.iaddN X dX12_keep_46 ?_
        refine AW.aload_n X dX12_keep_47 (i := 0) rfl rfl ?_
        refine AW.getR X dX12_keep_48 fX12_47 rfl om0 (wm_at Wa 12 rfl) ?_
        refine AW.iload_n X dX12_keep_51 (i := 2) rfl rfl ?_
        refine AW.iaload X dX12_keep_52 (am_at 12 rfl) (n2_in (by omega) (by decide)) (v := (μ.1 13 ix)) (by rw [n2_clamp (by omega)]; first | exact hka.1.2 13 ix (by unfold KOp; omega) | (simp [wI]; exact hka.1.2 13 ix (by unfold KOp; omega))) ?_
        refine AW.iastore X dX12_keep_53 (by decide) (am_at 17 rfl) (n2_in (by omega) (by decide)) ?_
        rw [n2_clamp (by omega)]
        refine AW.aload_n X dX12_keep_54 (i := 1) rfl rfl ?_
        refine AW.sipushN X 336 dX12_keep_55 rfl ?_
        refine AW.iload_n X dX12_keep_58 (i := 2) rfl rfl ?_
        refine AW.iaddN X dX12_keep_59 ?_
        refine AW.aload_n X dX12_keep_60 (i := 0) rfl rfl ?_
        refine AW.getR X dX12_keep_61 fX12_50 rfl om0 (wm_at Wa 13 rfl) ?_
        refine AW.iload_n X dX12_keep_64 (i := 2) rfl rfl ?_
        refine AW.iaload X dX12_keep_65 (am_at 13 rfl) (n2_in (by omega) (by decide)) (v := (μ.1 14 ix)) (by rw [n2_clamp (by omega)]; first | exact hka.1.2 14 ix (by unfold KOp; omega) | (simp [wI]; exact hka.1.2 14 ix (by unfold KOp; omega))) ?_
        refine AW.iastore X dX12_keep_66 (by decide) (am_at 17 rfl) (n2_in (by omega) (by decide)) ?_
        rw [n2_clamp (by omega)]
        refine AW.iincN X (c := (ix + 1)) dX12_keep_67 rfl (inc_1 _) rfl ?_
        refine AW.goto X (tgt := 2) dX12_keep_70 (by decide) ?_
        refine AW.cgw (ih2 (ix + 1) (wI (wI (wI (wI (wI μa 18 ix (μ.1 4 ix)) 18 (6 + ix) (μ.1 5 ix)) 18 (12 + ix) (μ.1 6 ix)) 18 (330 + ix) (μ.1 13 ix)) 18 (336 + ix) (μ.1 14 ix)) (by omega) (by omega) (kp_a (by omega) hka)) ⟨rfl, rfl, rfl, trivial⟩
  refine AW.cgw (L2 _ 0 μ (Nat.lt_succ_self _) (by omega) kp_0) ⟨rfl, rfl, rfl, trivial⟩
set_option maxRecDepth 100000 in
set_option maxHeartbeats 4000000 in
theorem c_again17 {l : Launch} {δ : Dl} {b : Nat} {μ : Mm} {τ : Tt} (W : WM μ.2.2) (hO : OLD μ 17 τ) : MCM l δ b yX12_again cX12_again 3 none 1 [.ref (b + 0), .ref (b + 17)] μ (pV fun μ' => TMX μ' τ ∧ SmM TPl μ μ') := by
  have b1 := hO.1.2.1
  have b2 := hO.1.2.2.1
  refine MC.intro ([some (.ref (b + 0)), some (.ref (b + 17)), none]) (by decide) rfl rfl fun κ Qc hl hQ X => ?_
  subst hl
  refine AW.iconstN X 0 dX12_again_0 rfl ?_
  refine AW.istore_n X dX12_again_1 (i := 2) rfl rfl ?_
  have L2 : ∀ (m2 ix : Nat) (μa : Mm), 6 - ix < m2 → ix ≤ 6 → (AGQ μ μa 17 ix 0 0) → AW κ (δ, b, NM, 3, shM, False, Qc, 0, 0) NM 0 0 2 [some (.ref (b + 0)), some (.ref (b + 17)), some (.int (nI ix))] [] μa := by
    intro m2
    induction m2 with
    | zero => intro ix μa hm; exact absurd hm (Nat.not_lt_zero _)
    | succ m2 ih2 =>
      intro ix μa hm2 hi2 hka
      have Wa := wm_same W hka.1
      refine AW.iload_n X dX12_again_2 (i := 2) rfl rfl ?_
      refine AW.bipushN X 6 dX12_again_3 rfl ?_
      refine AW.icmp_geN X (tgt := 73) dX12_again_5 (by decide) (by omega) (by omega) (fun h5 => ?_) (fun h5 => ?_)
      · obtain rfl : 6 = ix := by omega
        have n5 := Nat.not_lt_of_le h5
        refine AW.iconstN X 0 dX12_again_73 rfl ?_
        refine AW.istore_n X dX12_again_74 (i := 2) rfl rfl ?_
        have L75 : ∀ (m75 ix : Nat) (μd : Mm), 48 - ix < m75 → ix ≤ 48 → (AGQ μ μd 17 6 ix 0) → AW κ (δ, b, NM, 3, shM, False, Qc, 0, 0) NM 0 0 75 [some (.ref (b + 0)), some (.ref (b + 17)), some (.int (nI ix))] [] μd := by
          intro m75
          induction m75 with
          | zero => intro ix μd hm; exact absurd hm (Nat.not_lt_zero _)
          | succ m75 ih75 =>
            intro ix μd hm75 hi75 hkb
            have Wd := wm_same W hkb.1
            refine AW.iload_n X dX12_again_75 (i := 2) rfl rfl ?_
            refine AW.bipushN X 48 dX12_again_76 rfl ?_
            refine AW.icmp_geN X (tgt := 149) dX12_again_78 (by decide) (by omega) (by omega) (fun h78 => ?_) (fun h78 => ?_)
            · obtain rfl : 48 = ix := by omega
              have n78 := Nat.not_lt_of_le h78
              refine AW.iconstN X 0 dX12_again_149 rfl ?_
              refine AW.istore_n X dX12_again_150 (i := 2) rfl rfl ?_
              have L151 : ∀ (m151 ix : Nat) (μe : Mm), 72 - ix < m151 → ix ≤ 72 → (AGQ μ μe 17 6 48 ix) → AW κ (δ, b, NM, 3, shM, False, Qc, 0, 0) NM 0 0 151 [some (.ref (b + 0)), some (.ref (b + 17)), some (.int (nI ix))] [] μe := by
                intro m151
                induction m151 with
                | zero => intro ix μe hm; exact absurd hm (Nat.not_lt_zero _)
                | succ m151 ih151 =>
                  intro ix μe hm151 hi151 hkc
                  have We := wm_same W hkc.1
                  refine AW.iload_n X dX12_again_151 (i := 2) rfl rfl ?_
                  refine AW.bipushN X 72 dX12_again_152 rfl ?_
                  refine AW.icmp_geN X (tgt := 176) dX12_again_154 (by decide) (by omega) (by omega) (fun h154 => ?_) (fun h154 => ?_)
                  · obtain rfl : 72 = ix := by omega
                    have n154 := Nat.not_lt_of_le h154
                    refine AW.aload_n X dX12_again_176 (i := 0) rfl rfl ?_
                    refine AW.aload_n X dX12_again_177 (i := 1) rfl rfl ?_
                    refine AW.sipushN X 342 dX12_again_178 rfl ?_
                    refine AW.iaload X dX12_again_181 (am_at 16 rfl) (n2_in (by omega) (by decide)) (v := (nI (τ 6 0 0))) (by rw [n2_clamp (by omega)]; first | exact (hkc.1.2 17 342 (by unfold TPl; omega)).trans hO.2.1.1 | (simp [wI]; exact (hkc.1.2 17 342 (by unfold TPl; omega)).trans hO.2.1.1)) ?_
                    refine AW.putI X dX12_again_182 fX12_87 rfl rfl ⟨rfl, rfl⟩ (by decide) om0 ?_
                    refine AW.aload_n X dX12_again_185 (i := 0) rfl rfl ?_
                    refine AW.aload_n X dX12_again_186 (i := 1) rfl rfl ?_
                    refine AW.sipushN X 343 dX12_again_187 rfl ?_
                    refine AW.iaload X dX12_again_190 (am_at 16 rfl) (n2_in (by omega) (by decide)) (v := (nI ((100 * (τ 6 0 1)) + (τ 6 0 2)))) (by rw [n2_clamp (by omega)]; first | exact (hkc.1.2 17 343 (by unfold TPl; omega)).trans hO.2.1.2.1 | (simp [wI]; exact (hkc.1.2 17 343 (by unfold TPl; omega)).trans hO.2.1.2.1)) ?_
                    refine AW.bipushN X 100 dX12_again_191 rfl ?_
                    refine AW.idivN X dX12_again_193 (by omega) (by omega) (by omega) ?_
                    rw [show ((100 * (τ 6 0 1)) + (τ 6 0 2)) / 100 = τ 6 0 1 by omega]
                    refine AW.putI X dX12_again_194 fX12_74 rfl rfl ⟨rfl, rfl⟩ (by decide) om0 ?_
                    refine AW.aload_n X dX12_again_197 (i := 0) rfl rfl ?_
                    refine AW.aload_n X dX12_again_198 (i := 1) rfl rfl ?_
                    refine AW.sipushN X 343 dX12_again_199 rfl ?_
                    refine AW.iaload X dX12_again_202 (am_at 16 rfl) (n2_in (by omega) (by decide)) (v := (nI ((100 * (τ 6 0 1)) + (τ 6 0 2)))) (by rw [n2_clamp (by omega)]; first | exact (hkc.1.2 17 343 (by unfold TPl; omega)).trans hO.2.1.2.1 | (simp [wI]; exact (hkc.1.2 17 343 (by unfold TPl; omega)).trans hO.2.1.2.1)) ?_
                    refine AW.bipushN X 100 dX12_again_203 rfl ?_
                    refine AW.iremN X dX12_again_205 (by omega) (by omega) (by omega) ?_
                    rw [show ((100 * (τ 6 0 1)) + (τ 6 0 2)) % 100 = τ 6 0 2 by omega]
                    refine AW.putI X dX12_again_206 fX12_78 rfl rfl ⟨rfl, rfl⟩ (by decide) om0 ?_
                    refine AW.aload_n X dX12_again_209 (i := 0) rfl rfl ?_
                    refine AW.aload_n X dX12_again_210 (i := 1) rfl rfl ?_
                    refine AW.sipushN X 344 dX12_again_211 rfl ?_
                    refine AW.iaload X dX12_again_214 (am_at 16 rfl) (n2_in (by omega) (by decide)) (v := (nI (τ 6 0 3))) (by rw [n2_clamp (by omega)]; first | exact (hkc.1.2 17 344 (by unfold TPl; omega)).trans hO.2.1.2.2.1 | (simp [wI]; exact (hkc.1.2 17 344 (by unfold TPl; omega)).trans hO.2.1.2.2.1)) ?_
                    refine AW.putI X dX12_again_215 fX12_139 rfl rfl ⟨rfl, rfl⟩ (by decide) om0 ?_
                    refine AW.aload_n X dX12_again_218 (i := 0) rfl rfl ?_
                    refine AW.aload_n X dX12_again_219 (i := 1) rfl rfl ?_
                    refine AW.sipushN X 345 dX12_again_220 rfl ?_
                    refine AW.iaload X dX12_again_223 (am_at 16 rfl) (n2_in (by omega) (by decide)) (v := (nI (τ 6 0 4))) (by rw [n2_clamp (by omega)]; first | exact (hkc.1.2 17 345 (by unfold TPl; omega)).trans hO.2.1.2.2.2.1 | (simp [wI]; exact (hkc.1.2 17 345 (by unfold TPl; omega)).trans hO.2.1.2.2.2.1)) ?_
                    refine AW.putI X dX12_again_224 fX12_272 rfl rfl ⟨rfl, rfl⟩ (by decide) om0 ?_
                    refine AW.aload_n X dX12_again_227 (i := 0) rfl rfl ?_
                    refine AW.aload_n X dX12_again_228 (i := 1) rfl rfl ?_
                    refine AW.sipushN X 346 dX12_again_229 rfl ?_
                    refine AW.iaload X dX12_again_232 (am_at 16 rfl) (n2_in (by omega) (by decide)) (v := (nI (τ 6 0 5))) (by rw [n2_clamp (by omega)]; first | exact (hkc.1.2 17 346 (by unfold TPl; omega)).trans hO.2.1.2.2.2.2 | (simp [wI]; exact (hkc.1.2 17 346 (by unfold TPl; omega)).trans hO.2.1.2.2.2.2)) ?_
                    refine AW.putI X dX12_again_233 fX12_81 rfl rfl ⟨rfl, rfl⟩ (by decide) om0 ?_
                    refine AW.vret X hQ dX12_again_236 ⟨rfl, ?_⟩
                    exact ag_end hkc hO
                  · have n154 := Nat.not_le_of_lt h154
                    refine AW.aload_n X dX12_again_157 (i := 0) rfl rfl ?_
                    refine AW.getR X dX12_again_158 fX12_44 rfl om0 (wm_at We 11 rfl) ?_
                    refine AW.iload_n X dX12_again_161 (i := 2) rfl rfl ?_
                    refine AW.aload_n X dX12_again_162 (i := 1) rfl rfl ?_
                    refine AW.sipushN X 258 dX12_again_163 rfl ?_
                    refine AW.iload_n X dX12_again_166 (i := 2) rfl rfl ?_
                    refine AW.iaddN X dX12_again_167 ?_
                    refine AW.iaload X dX12_again_168 (am_at 16 rfl) (n2_in (by omega) (by decide)) (v := (μ.1 17 (258 + ix))) (by rw [n2_clamp (by omega)]; first | exact hkc.1.2 17 (258 + ix) (by unfold TPl; omega) | (simp [wI]; exact hkc.1.2 17 (258 + ix) (by unfold TPl; omega))) ?_
                    refine AW.iastore X dX12_again_169 (by decide) (am_at 11 rfl) (n2_in (by omega) (by decide)) ?_
                    rw [n2_clamp (by omega)]
                    refine AW.iincN X (c := (ix + 1)) dX12_again_170 rfl (inc_1 _) rfl ?_
                    refine AW.goto X (tgt := 151) dX12_again_173 (by decide) ?_
                    refine AW.cgw (ih151 (ix + 1) (wI μe 12 ix (μ.1 17 (258 + ix))) (by omega) (by omega) (ag_c (by decide) (by omega) hkc)) ⟨rfl, rfl, rfl, trivial⟩
              refine AW.cgw (L151 _ 0 μd (Nat.lt_succ_self _) (by omega) hkb) ⟨rfl, rfl, rfl, trivial⟩
            · have n78 := Nat.not_le_of_lt h78
              refine AW.aload_n X dX12_again_81 (i := 0) rfl rfl ?_
              refine AW.getR X dX12_again_82 fX12_29 rfl om0 (wm_at Wd 6 rfl) ?_
              refine AW.iload_n X dX12_again_85 (i := 2) rfl rfl ?_
              refine AW.aload_n X dX12_again_86 (i := 1) rfl rfl ?_
              refine AW.bipushN X 18 dX12_again_87 rfl ?_
              refine AW.iload_n X dX12_again_89 (i := 2) rfl rfl ?_
              refine AW.iaddN X dX12_again_90 ?_
              refine AW.iaload X dX12_again_91 (am_at 16 rfl) (n2_in (by omega) (by decide)) (v := (μ.1 17 (18 + ix))) (by rw [n2_clamp (by omega)]; first | exact hkb.1.2 17 (18 + ix) (by unfold TPl; omega) | (simp [wI]; exact hkb.1.2 17 (18 + ix) (by unfold TPl; omega))) ?_
              refine AW.iastore X dX12_again_92 (by decide) (am_at 6 rfl) (n2_in (by omega) (by decide)) ?_
              rw [n2_clamp (by omega)]
              refine AW.aload_n X dX12_again_93 (i := 0) rfl rfl ?_
              refine AW.getR X dX12_again_94 fX12_32 rfl om0 (wm_at Wd 7 rfl) ?_
              refine AW.iload_n X dX12_again_97 (i := 2) rfl rfl ?_
              refine AW.aload_n X dX12_again_98 (i := 1) rfl rfl ?_
              refine AW.bipushN X 66 dX12_again_99 rfl ?_
              refine AW.iload_n X dX12_again_101 (i := 2) rfl rfl ?_
              refine AW.iaddN X dX12_again_102 ?_
              refine AW.iaload X dX12_again_103 (am_at 16 rfl) (n2_in (by omega) (by decide)) (v := (μ.1 17 (66 + ix))) (by rw [n2_clamp (by omega)]; first | exact hkb.1.2 17 (66 + ix) (by unfold TPl; omega) | (simp [wI]; exact hkb.1.2 17 (66 + ix) (by unfold TPl; omega))) ?_
              refine AW.iastore X dX12_again_104 (by decide) (am_at 7 rfl) (n2_in (by omega) (by decide)) ?_
              rw [n2_clamp (by omega)]
              refine AW.aload_n X dX12_again_105 (i := 0) rfl rfl ?_
              refine AW.getR X dX12_again_106 fX12_35 rfl om0 (wm_at Wd 8 rfl) ?_
              refine AW.iload_n X dX12_again_109 (i := 2) rfl rfl ?_
              refine AW.aload_n X dX12_again_110 (i := 1) rfl rfl ?_
              refine AW.bipushN X 114 dX12_again_111 rfl ?_
              refine AW.iload_n X dX12_again_113 (i := 2) rfl rfl ?_
              refine AW.iaddN X dX12_again_114 ?_
              refine AW.iaload X dX12_again_115 (am_at 16 rfl) (n2_in (by omega) (by decide)) (v := (μ.1 17 (114 + ix))) (by rw [n2_clamp (by omega)]; first | exact hkb.1.2 17 (114 + ix) (by unfold TPl; omega) | (simp [wI]; exact hkb.1.2 17 (114 + ix) (by unfold TPl; omega))) ?_
              refine AW.iastore X dX12_again_116 (by decide) (am_at 8 rfl) (n2_in (by omega) (by decide)) ?_
              rw [n2_clamp (by omega)]
              refine AW.aload_n X dX12_again_117 (i := 0) rfl rfl ?_
              refine AW.getR X dX12_again_118 fX12_38 rfl om0 (wm_at Wd 9 rfl) ?_
              refine AW.iload_n X dX12_again_121 (i := 2) rfl rfl ?_
              refine AW.aload_n X dX12_again_122 (i := 1) rfl rfl ?_
              refine AW.sipushN X 162 dX12_again_123 rfl ?_
              refine AW.iload_n X dX12_again_126 (i := 2) rfl rfl ?_
              refine AW.iaddN X dX12_again_127 ?_
              refine AW.iaload X dX12_again_128 (am_at 16 rfl) (n2_in (by omega) (by decide)) (v := (μ.1 17 (162 + ix))) (by rw [n2_clamp (by omega)]; first | exact hkb.1.2 17 (162 + ix) (by unfold TPl; omega) | (simp [wI]; exact hkb.1.2 17 (162 + ix) (by unfold TPl; omega))) ?_
              refine AW.iastore X dX12_again_129 (by decide) (am_at 9 rfl) (n2_in (by omega) (by decide)) ?_
              rw [n2_clamp (by omega)]
              refine AW.aload_n X dX12_again_130 (i := 0) rfl rfl ?_
              refine AW.getR X dX12_again_131 fX12_41 rfl om0 (wm_at Wd 10 rfl) ?_
              refine AW.iload_n X dX12_again_134 (i := 2) rfl rfl ?_
              refine AW.aload_n X dX12_again_135 (i := 1) rfl rfl ?_
              refine AW.sipushN X 210 dX12_again_136 rfl ?_
              refine AW.iload_n X dX12_again_139 (i := 2) rfl rfl ?_
              refine AW.iaddN X dX12_again_140 ?_
              refine AW.iaload X dX12_again_141 (am_at 16 rfl) (n2_in (by omega) (by decide)) (v := (μ.1 17 (210 + ix))) (by rw [n2_clamp (by omega)]; first | exact hkb.1.2 17 (210 + ix) (by unfold TPl; omega) | (simp [wI]; exact hkb.1.2 17 (210 + ix) (by unfold TPl; omega))) ?_
              refine AW.iastore X dX12_again_142 (by decide) (am_at 10 rfl) (n2_in (by omega) (by decide)) ?_
              rw [n2_clamp (by omega)]
              refine AW.iincN X (c := (ix + 1)) dX12_again_143 rfl (inc_1 _) rfl ?_
              refine AW.goto X (tgt := 75) dX12_again_146 (by decide) ?_
              refine AW.cgw (ih75 (ix + 1) (wI (wI (wI (wI (wI μd 7 ix (μ.1 17 (18 + ix))) 8 ix (μ.1 17 (66 + ix))) 9 ix (μ.1 17 (114 + ix))) 10 ix (μ.1 17 (162 + ix))) 11 ix (μ.1 17 (210 + ix))) (by omega) (by omega) (ag_b (by decide) (by omega) hkb)) ⟨rfl, rfl, rfl, trivial⟩
        refine AW.cgw (L75 _ 0 μa (Nat.lt_succ_self _) (by omega) hka) ⟨rfl, rfl, rfl, trivial⟩
      · have n5 := Nat.not_le_of_lt h5
        refine AW.aload_n X dX12_again_8 (i := 0) rfl rfl ?_
        refine AW.getR X dX12_again_9 fX12_20 rfl om0 (wm_at Wa 3 rfl) ?_
        refine AW.iload_n X dX12_again_12 (i := 2) rfl rfl ?_
        refine AW.aload_n X dX12_again_13 (i := 1) rfl rfl ?_
        refine AW.iload_n X dX12_again_14 (i := 2) rfl rfl ?_
        refine AW.iaload X dX12_again_15 (am_at 16 rfl) (n2_in (by omega) (by decide)) (v := (μ.1 17 ix)) (by rw [n2_clamp (by omega)]; first | exact hka.1.2 17 ix (by unfold TPl; omega) | (simp [wI]; exact hka.1.2 17 ix (by unfold TPl; omega))) ?_
        refine AW.iastore X dX12_again_16 (by decide) (am_at 3 rfl) (n2_in (by omega) (by decide)) ?_
        rw [n2_clamp (by omega)]
        refine AW.aload_n X dX12_again_17 (i := 0) rfl rfl ?_
        refine AW.getR X dX12_again_18 fX12_23 rfl om0 (wm_at Wa 4 rfl) ?_
        refine AW.iload_n X dX12_again_21 (i := 2) rfl rfl ?_
        refine AW.aload_n X dX12_again_22 (i := 1) rfl rfl ?_
        refine AW.bipushN X 6 dX12_again_23 rfl ?_
        refine AW.iload_n X dX12_again_25 (i := 2) rfl rfl ?_
        refine AW.iaddN X dX12_again_26 ?_
        refine AW.iaload X dX12_again_27 (am_at 16 rfl) (n2_in (by omega) (by decide)) (v := (μ.1 17 (6 + ix))) (by rw [n2_clamp (by omega)]; first | exact hka.1.2 17 (6 + ix) (by unfold TPl; omega) | (simp [wI]; exact hka.1.2 17 (6 + ix) (by unfold TPl; omega))) ?_
        refine AW.iastore X dX12_again_28 (by decide) (am_at 4 rfl) (n2_in (by omega) (by decide)) ?_
        rw [n2_clamp (by omega)]
        refine AW.aload_n X dX12_again_29 (i := 0) rfl rfl ?_
        refine AW.getR X dX12_again_30 fX12_26 rfl om0 (wm_at Wa 5 rfl) ?_
        refine AW.iload_n X dX12_again_33 (i := 2) rfl rfl ?_
        refine AW.aload_n X dX12_again_34 (i := 1) rfl rfl ?_
        refine AW.bipushN X 12 dX12_again_35 rfl ?_
        refine AW.iload_n X dX12_again_37 (i := 2) rfl rfl ?_
        refine AW.iaddN X dX12_again_38 ?_
        refine AW.iaload X dX12_again_39 (am_at 16 rfl) (n2_in (by omega) (by decide)) (v := (μ.1 17 (12 + ix))) (by rw [n2_clamp (by omega)]; first | exact hka.1.2 17 (12 + ix) (by unfold TPl; omega) | (simp [wI]; exact hka.1.2 17 (12 + ix) (by unfold TPl; omega))) ?_
        refine AW.iastore X dX12_again_40 (by decide) (am_at 5 rfl) (n2_in (by omega) (by decide)) ?_
        rw [n2_clamp (by omega)]
        refine AW.aload_n X dX12_again_41 (i := 0) rfl rfl ?_
        refine AW.getR X dX12_again_42 fX12_47 rfl om0 (wm_at Wa 12 rfl) ?_
        refine AW.iload_n X dX12_again_45 (i := 2) rfl rfl ?_
        refine AW.aload_n X dX12_again_46 (i := 1) rfl rfl ?_
        refine AW.sipushN X 330 dX12_again_47 rfl ?_
        refine AW.iload_n X dX12_again_50 (i := 2) rfl rfl ?_
        refine AW.iaddN X dX12_again_51 ?_
        refine AW.iaload X dX12_again_52 (am_at 16 rfl) (n2_in (by omega) (by decide)) (v := (μ.1 17 (330 + ix))) (by rw [n2_clamp (by omega)]; first | exact hka.1.2 17 (330 + ix) (by unfold TPl; omega) | (simp [wI]; exact hka.1.2 17 (330 + ix) (by unfold TPl; omega))) ?_
        refine AW.iastore X dX12_again_53 (by decide) (am_at 12 rfl) (n2_in (by omega) (by decide)) ?_
        rw [n2_clamp (by omega)]
        refine AW.aload_n X dX12_again_54 (i := 0) rfl rfl ?_
        refine AW.getR X dX12_again_55 fX12_50 rfl om0 (wm_at Wa 13 rfl) ?_
        refine AW.iload_n X dX12_again_58 (i := 2) rfl rfl ?_
        refine AW.aload_n X dX12_again_59 (i := 1) rfl rfl ?_
        refine AW.sipushN X 336 dX12_again_60 rfl ?_
        refine AW.iload_n X dX12_again_63 (i := 2) rfl rfl ?_
        refine AW.iaddN X dX12_again_64 ?_
        refine AW.iaload X dX12_again_65 (am_at 16 rfl) (n2_in (by omega) (by decide)) (v := (μ.1 17 (336 + ix))) (by rw [n2_clamp (by omega)]; first | exact hka.1.2 17 (336 + ix) (by unfold TPl; omega) | (simp [wI]; exact hka.1.2 17 (336 + ix) (by unfold TPl; omega))) ?_
        refine AW.iastore X dX12_again_66 (by decide) (am_at 13 rfl) (n2_in (by omega) (by decide)) ?_
        rw [n2_clamp (by omega)]
        refine AW.iincN X (c := (ix + 1)) dX12_again_67 rfl (inc_1 _) rfl ?_
        refine AW.goto X (tgt := 2) dX12_again_70 (by decide) ?_
        refine AW.cgw (ih2 (ix + 1) (wI (wI (wI (wI (wI μa 4 ix (μ.1 17 ix)) 5 ix (μ.1 17 (6 + ix))) 6 ix (μ.1 17 (12 + ix))) 13 ix (μ.1 17 (330 + ix))) 14 ix (μ.1 17 (336 + ix))) (by omega) (by omega) (ag_a (by decide) (by omega) hka)) ⟨rfl, rfl, rfl, trivial⟩
  refine AW.cgw (L2 _ 0 μ (Nat.lt_succ_self _) (by omega) ag_0) ⟨rfl, rfl, rfl, trivial⟩
set_option maxRecDepth 100000 in
set_option maxHeartbeats 4000000 in
theorem c_again18 {l : Launch} {δ : Dl} {b : Nat} {μ : Mm} {τ : Tt} (W : WM μ.2.2) (hO : OLD μ 18 τ) : MCM l δ b yX12_again cX12_again 3 none 1 [.ref (b + 0), .ref (b + 18)] μ (pV fun μ' => TMX μ' τ ∧ SmM TPl μ μ') := by
  have b1 := hO.1.2.1
  have b2 := hO.1.2.2.1
  refine MC.intro ([some (.ref (b + 0)), some (.ref (b + 18)), none]) (by decide) rfl rfl fun κ Qc hl hQ X => ?_
  subst hl
  refine AW.iconstN X 0 dX12_again_0 rfl ?_
  refine AW.istore_n X dX12_again_1 (i := 2) rfl rfl ?_
  have L2 : ∀ (m2 ix : Nat) (μa : Mm), 6 - ix < m2 → ix ≤ 6 → (AGQ μ μa 18 ix 0 0) → AW κ (δ, b, NM, 3, shM, False, Qc, 0, 0) NM 0 0 2 [some (.ref (b + 0)), some (.ref (b + 18)), some (.int (nI ix))] [] μa := by
    intro m2
    induction m2 with
    | zero => intro ix μa hm; exact absurd hm (Nat.not_lt_zero _)
    | succ m2 ih2 =>
      intro ix μa hm2 hi2 hka
      have Wa := wm_same W hka.1
      refine AW.iload_n X dX12_again_2 (i := 2) rfl rfl ?_
      refine AW.bipushN X 6 dX12_again_3 rfl ?_
      refine AW.icmp_geN X (tgt := 73) dX12_again_5 (by decide) (by omega) (by omega) (fun h5 => ?_) (fun h5 => ?_)
      · obtain rfl : 6 = ix := by omega
        have n5 := Nat.not_lt_of_le h5
        refine AW.iconstN X 0 dX12_again_73 rfl ?_
        refine AW.istore_n X dX12_again_74 (i := 2) rfl rfl ?_
        have L75 : ∀ (m75 ix : Nat) (μd : Mm), 48 - ix < m75 → ix ≤ 48 → (AGQ μ μd 18 6 ix 0) → AW κ (δ, b, NM, 3, shM, False, Qc, 0, 0) NM 0 0 75 [some (.ref (b + 0)), some (.ref (b + 18)), some (.int (nI ix))] [] μd := by
          intro m75
          induction m75 with
          | zero => intro ix μd hm; exact absurd hm (Nat.not_lt_zero _)
          | succ m75 ih75 =>
            intro ix μd hm75 hi75 hkb
            have Wd := wm_same W hkb.1
            refine AW.iload_n X dX12_again_75 (i := 2) rfl rfl ?_
            refine AW.bipushN X 48 dX12_again_76 rfl ?_
            refine AW.icmp_geN X (tgt := 149) dX12_again_78 (by decide) (by omega) (by omega) (fun h78 => ?_) (fun h78 => ?_)
            · obtain rfl : 48 = ix := by omega
              have n78 := Nat.not_lt_of_le h78
              refine AW.iconstN X 0 dX12_again_149 rfl ?_
              refine AW.istore_n X dX12_again_150 (i := 2) rfl rfl ?_
              have L151 : ∀ (m151 ix : Nat) (μe : Mm), 72 - ix < m151 → ix ≤ 72 → (AGQ μ μe 18 6 48 ix) → AW κ (δ, b, NM, 3, shM, False, Qc, 0, 0) NM 0 0 151 [some (.ref (b + 0)), some (.ref (b + 18)), some (.int (nI ix))] [] μe := by
                intro m151
                induction m151 with
                | zero => intro ix μe hm; exact absurd hm (Nat.not_lt_zero _)
                | succ m151 ih151 =>
                  intro ix μe hm151 hi151 hkc
                  have We := wm_same W hkc.1
                  refine AW.iload_n X dX12_again_151 (i := 2) rfl rfl ?_
                  refine AW.bipushN X 72 dX12_again_152 rfl ?_
                  refine AW.icmp_geN X (tgt := 176) dX12_again_154 (by decide) (by omega) (by omega) (fun h154 => ?_) (fun h154 => ?_)
                  · obtain rfl : 72 = ix := by omega
                    have n154 := Nat.not_lt_of_le h154
                    refine AW.aload_n X dX12_again_176 (i := 0) rfl rfl ?_
                    refine AW.aload_n X dX12_again_177 (i := 1) rfl rfl ?_
                    refine AW.sipushN X 342 dX12_again_178 rfl ?_
                    refine AW.iaload X dX12_again_181 (am_at 17 rfl) (n2_in (by omega) (by decide)) (v := (nI (τ 6 0 0))) (by rw [n2_clamp (by omega)]; first | exact (hkc.1.2 18 342 (by unfold TPl; omega)).trans hO.2.1.1 | (simp [wI]; exact (hkc.1.2 18 342 (by unfold TPl; omega)).trans hO.2.1.1)) ?_
                    refine AW.putI X dX12_again_182 fX12_87 rfl rfl ⟨rfl, rfl⟩ (by decide) om0 ?_
                    refine AW.aload_n X dX12_again_185 (i := 0) rfl rfl ?_
                    refine AW.aload_n X dX12_again_186 (i := 1) rfl rfl ?_
                    refine AW.sipushN X 343 dX12_again_187 rfl ?_
                    refine AW.iaload X dX12_again_190 (am_at 17 rfl) (n2_in (by omega) (by decide)) (v := (nI ((100 * (τ 6 0 1)) + (τ 6 0 2)))) (by rw [n2_clamp (by omega)]; first | exact (hkc.1.2 18 343 (by unfold TPl; omega)).trans hO.2.1.2.1 | (simp [wI]; exact (hkc.1.2 18 343 (by unfold TPl; omega)).trans hO.2.1.2.1)) ?_
                    refine AW.bipushN X 100 dX12_again_191 rfl ?_
                    refine AW.idivN X dX12_again_193 (by omega) (by omega) (by omega) ?_
                    rw [show ((100 * (τ 6 0 1)) + (τ 6 0 2)) / 100 = τ 6 0 1 by omega]
                    refine AW.putI X dX12_again_194 fX12_74 rfl rfl ⟨rfl, rfl⟩ (by decide) om0 ?_
                    refine AW.aload_n X dX12_again_197 (i := 0) rfl rfl ?_
                    refine AW.aload_n X dX12_again_198 (i := 1) rfl rfl ?_
                    refine AW.sipushN X 343 dX12_again_199 rfl ?_
                    refine AW.iaload X dX12_again_202 (am_at 17 rfl) (n2_in (by omega) (by decide)) (v := (nI ((100 * (τ 6 0 1)) + (τ 6 0 2)))) (by rw [n2_clamp (by omega)]; first | exact (hkc.1.2 18 343 (by unfold TPl; omega)).trans hO.2.1.2.1 | (simp [wI]; exact (hkc.1.2 18 343 (by unfold TPl; omega)).trans hO.2.1.2.1)) ?_
                    refine AW.bipushN X 100 dX12_again_203 rfl ?_
                    refine AW.iremN X dX12_again_205 (by omega) (by omega) (by omega) ?_
                    rw [show ((100 * (τ 6 0 1)) + (τ 6 0 2)) % 100 = τ 6 0 2 by omega]
                    refine AW.putI X dX12_again_206 fX12_78 rfl rfl ⟨rfl, rfl⟩ (by decide) om0 ?_
                    refine AW.aload_n X dX12_again_209 (i := 0) rfl rfl ?_
                    refine AW.aload_n X dX12_again_210 (i := 1) rfl rfl ?_
                    refine AW.sipushN X 344 dX12_again_211 rfl ?_
                    refine AW.iaload X dX12_again_214 (am_at 17 rfl) (n2_in (by omega) (by decide)) (v := (nI (τ 6 0 3))) (by rw [n2_clamp (by omega)]; first | exact (hkc.1.2 18 344 (by unfold TPl; omega)).trans hO.2.1.2.2.1 | (simp [wI]; exact (hkc.1.2 18 344 (by unfold TPl; omega)).trans hO.2.1.2.2.1)) ?_
                    refine AW.putI X dX12_again_215 fX12_139 rfl rfl ⟨rfl, rfl⟩ (by decide) om0 ?_
                    refine AW.aload_n X dX12_again_218 (i := 0) rfl rfl ?_
                    refine AW.aload_n X dX12_again_219 (i := 1) rfl rfl ?_
                    refine AW.sipushN X 345 dX12_again_220 rfl ?_
                    refine AW.iaload X dX12_again_223 (am_at 17 rfl) (n2_in (by omega) (by decide)) (v := (nI (τ 6 0 4))) (by rw [n2_clamp (by omega)]; first | exact (hkc.1.2 18 345 (by unfold TPl; omega)).trans hO.2.1.2.2.2.1 | (simp [wI]; exact (hkc.1.2 18 345 (by unfold TPl; omega)).trans hO.2.1.2.2.2.1)) ?_
                    refine AW.putI X dX12_again_224 fX12_272 rfl rfl ⟨rfl, rfl⟩ (by decide) om0 ?_
                    refine AW.aload_n X dX12_again_227 (i := 0) rfl rfl ?_
                    refine AW.aload_n X dX12_again_228 (i := 1) rfl rfl ?_
                    refine AW.sipushN X 346 dX12_again_229 rfl ?_
                    refine AW.iaload X dX12_again_232 (am_at 17 rfl) (n2_in (by omega) (by decide)) (v := (nI (τ 6 0 5))) (by rw [n2_clamp (by omega)]; first | exact (hkc.1.2 18 346 (by unfold TPl; omega)).trans hO.2.1.2.2.2.2 | (simp [wI]; exact (hkc.1.2 18 346 (by unfold TPl; omega)).trans hO.2.1.2.2.2.2)) ?_
                    refine AW.putI X dX12_again_233 fX12_81 rfl rfl ⟨rfl, rfl⟩ (by decide) om0 ?_
                    refine AW.vret X hQ dX12_again_236 ⟨rfl, ?_⟩
                    exact ag_end hkc hO
                  · have n154 := Nat.not_le_of_lt h154
                    refine AW.aload_n X dX12_again_157 (i := 0) rfl rfl ?_
                    refine AW.getR X dX12_again_158 fX12_44 rfl om0 (wm_at We 11 rfl) ?_
                    refine AW.iload_n X dX12_again_161 (i := 2) rfl rfl ?_
                    refine AW.aload_n X dX12_again_162 (i := 1) rfl rfl ?_
                    refine AW.sipushN X 258 dX12_again_163 rfl ?_
                    refine AW.iload_n X dX12_again_166 (i := 2) rfl rfl ?_
                    refine AW.iaddN X dX12_again_167 ?_
                    refine AW.iaload X dX12_again_168 (am_at 17 rfl) (n2_in (by omega) (by decide)) (v := (μ.1 18 (258 + ix))) (by rw [n2_clamp (by omega)]; first | exact hkc.1.2 18 (258 + ix) (by unfold TPl; omega) | (simp [wI]; exact hkc.1.2 18 (258 + ix) (by unfold TPl; omega))) ?_
                    refine AW.iastore X dX12_again_169 (by decide) (am_at 11 rfl) (n2_in (by omega) (by decide)) ?_
                    rw [n2_clamp (by omega)]
                    refine AW.iincN X (c := (ix + 1)) dX12_again_170 rfl (inc_1 _) rfl ?_
                    refine AW.goto X (tgt := 151) dX12_again_173 (by decide) ?_
                    refine AW.cgw (ih151 (ix + 1) (wI μe 12 ix (μ.1 18 (258 + ix))) (by omega) (by omega) (ag_c (by decide) (by omega) hkc)) ⟨rfl, rfl, rfl, trivial⟩
              refine AW.cgw (L151 _ 0 μd (Nat.lt_succ_self _) (by omega) hkb) ⟨rfl, rfl, rfl, trivial⟩
            · have n78 := Nat.not_le_of_lt h78
              refine AW.aload_n X dX12_again_81 (i := 0) rfl rfl ?_
              refine AW.getR X dX12_again_82 fX12_29 rfl om0 (wm_at Wd 6 rfl) ?_
              refine AW.iload_n X dX12_again_85 (i := 2) rfl rfl ?_
              refine AW.aload_n X dX12_again_86 (i := 1) rfl rfl ?_
              refine AW.bipushN X 18 dX12_again_87 rfl ?_
              refine AW.iload_n X dX12_again_89 (i := 2) rfl rfl ?_
              refine AW.iaddN X dX12_again_90 ?_
              refine AW.iaload X dX12_again_91 (am_at 17 rfl) (n2_in (by omega) (by decide)) (v := (μ.1 18 (18 + ix))) (by rw [n2_clamp (by omega)]; first | exact hkb.1.2 18 (18 + ix) (by unfold TPl; omega) | (simp [wI]; exact hkb.1.2 18 (18 + ix) (by unfold TPl; omega))) ?_
              refine AW.iastore X dX12_again_92 (by decide) (am_at 6 rfl) (n2_in (by omega) (by decide)) ?_
              rw [n2_clamp (by omega)]
              refine AW.aload_n X dX12_again_93 (i := 0) rfl rfl ?_
              refine AW.getR X dX12_again_94 fX12_32 rfl om0 (wm_at Wd 7 rfl) ?_
              refine AW.iload_n X dX12_again_97 (i := 2) rfl rfl ?_
              refine AW.aload_n X dX12_again_98 (i := 1) rfl rfl ?_
              refine AW.bipushN X 66 dX12_again_99 rfl ?_
              refine AW.iload_n X dX12_again_101 (i := 2) rfl rfl ?_
              refine AW.iaddN X dX12_again_102 ?_
              refine AW.iaload X dX12_again_103 (am_at 17 rfl) (n2_in (by omega) (by decide)) (v := (μ.1 18 (66 + ix))) (by rw [n2_clamp (by omega)]; first | exact hkb.1.2 18 (66 + ix) (by unfold TPl; omega) | (simp [wI]; exact hkb.1.2 18 (66 + ix) (by unfold TPl; omega))) ?_
              refine AW.iastore X dX12_again_104 (by decide) (am_at 7 rfl) (n2_in (by omega) (by decide)) ?_
              rw [n2_clamp (by omega)]
              refine AW.aload_n X dX12_again_105 (i := 0) rfl rfl ?_
              refine AW.getR X dX12_again_106 fX12_35 rfl om0 (wm_at Wd 8 rfl) ?_
              refine AW.iload_n X dX12_again_109 (i := 2) rfl rfl ?_
              refine AW.aload_n X dX12_again_110 (i := 1) rfl rfl ?_
              refine AW.bipushN X 114 dX12_again_111 rfl ?_
              refine AW.iload_n X dX12_again_113 (i := 2) rfl rfl ?_
              refine AW.iaddN X dX12_again_114 ?_
              refine AW.iaload X dX12_again_115 (am_at 17 rfl) (n2_in (by omega) (by decide)) (v := (μ.1 18 (114 + ix))) (by rw [n2_clamp (by omega)]; first | exact hkb.1.2 18 (114 + ix) (by unfold TPl; omega) | (simp [wI]; exact hkb.1.2 18 (114 + ix) (by unfold TPl; omega))) ?_
              refine AW.iastore X dX12_again_116 (by decide) (am_at 8 rfl) (n2_in (by omega) (by decide)) ?_
              rw [n2_clamp (by omega)]
              refine AW.aload_n X dX12_again_117 (i := 0) rfl rfl ?_
              refine AW.getR X dX12_again_118 fX12_38 rfl om0 (wm_at Wd 9 rfl) ?_
              refine AW.iload_n X dX12_again_121 (i := 2) rfl rfl ?_
              refine AW.aload_n X dX12_again_122 (i := 1) rfl rfl ?_
              refine AW.sipushN X 162 dX12_again_123 rfl ?_
              refine AW.iload_n X dX12_again_126 (i := 2) rfl rfl ?_
              refine AW.iaddN X dX12_again_127 ?_
              refine AW.iaload X dX12_again_128 (am_at 17 rfl) (n2_in (by omega) (by decide)) (v := (μ.1 18 (162 + ix))) (by rw [n2_clamp (by omega)]; first | exact hkb.1.2 18 (162 + ix) (by unfold TPl; omega) | (simp [wI]; exact hkb.1.2 18 (162 + ix) (by unfold TPl; omega))) ?_
              refine AW.iastore X dX12_again_129 (by decide) (am_at 9 rfl) (n2_in (by omega) (by decide)) ?_
              rw [n2_clamp (by omega)]
              refine AW.aload_n X dX12_again_130 (i := 0) rfl rfl ?_
              refine AW.getR X dX12_again_131 fX12_41 rfl om0 (wm_at Wd 10 rfl) ?_
              refine AW.iload_n X dX12_again_134 (i := 2) rfl rfl ?_
              refine AW.aload_n X dX12_again_135 (i := 1) rfl rfl ?_
              refine AW.sipushN X 210 dX12_again_136 rfl ?_
              refine AW.iload_n X dX12_again_139 (i := 2) rfl rfl ?_
              refine AW.iaddN X dX12_again_140 ?_
              refine AW.iaload X dX12_again_141 (am_at 17 rfl) (n2_in (by omega) (by decide)) (v := (μ.1 18 (210 + ix))) (by rw [n2_clamp (by omega)]; first | exact hkb.1.2 18 (210 + ix) (by unfold TPl; omega) | (simp [wI]; exact hkb.1.2 18 (210 + ix) (by unfold TPl; omega))) ?_
              refine AW.iastore X dX12_again_142 (by decide) (am_at 10 rfl) (n2_in (by omega) (by decide)) ?_
              rw [n2_clamp (by omega)]
              refine AW.iincN X (c := (ix + 1)) dX12_again_143 rfl (inc_1 _) rfl ?_
              refine AW.goto X (tgt := 75) dX12_again_146 (by decide) ?_
              refine AW.cgw (ih75 (ix + 1) (wI (wI (wI (wI (wI μd 7 ix (μ.1 18 (18 + ix))) 8 ix (μ.1 18 (66 + ix))) 9 ix (μ.1 18 (114 + ix))) 10 ix (μ.1 18 (162 + ix))) 11 ix (μ.1 18 (210 + ix))) (by omega) (by omega) (ag_b (by decide) (by omega) hkb)) ⟨rfl, rfl, rfl, trivial⟩
        refine AW.cgw (L75 _ 0 μa (Nat.lt_succ_self _) (by omega) hka) ⟨rfl, rfl, rfl, trivial⟩
      · have n5 := Nat.not_le_of_lt h5
        refine AW.aload_n X dX12_again_8 (i := 0) rfl rfl ?_
        refine AW.getR X dX12_again_9 fX12_20 rfl om0 (wm_at Wa 3 rfl) ?_
        refine AW.iload_n X dX12_again_12 (i := 2) rfl rfl ?_
        refine AW.aload_n X dX12_again_13 (i := 1) rfl rfl ?_
        refine AW.iload_n X dX12_again_14 (i := 2) rfl rfl ?_
        refine AW.iaload X dX12_again_15 (am_at 17 rfl) (n2_in (by omega) (by decide)) (v := (μ.1 18 ix)) (by rw [n2_clamp (by omega)]; first | exact hka.1.2 18 ix (by unfold TPl; omega) | (simp [wI]; exact hka.1.2 18 ix (by unfold TPl; omega))) ?_
        refine AW.iastore X dX12_again_16 (by decide) (am_at 3 rfl) (n2_in (by omega) (by decide)) ?_
        rw [n2_clamp (by omega)]
        refine AW.aload_n X dX12_again_17 (i := 0) rfl rfl ?_
        refine AW.getR X dX12_again_18 fX12_23 rfl om0 (wm_at Wa 4 rfl) ?_
        refine AW.iload_n X dX12_again_21 (i := 2) rfl rfl ?_
        refine AW.aload_n X dX12_again_22 (i := 1) rfl rfl ?_
        refine AW.bipushN X 6 dX12_again_23 rfl ?_
        refine AW.iload_n X dX12_again_25 (i := 2) rfl rfl ?_
        refine AW.iaddN X dX12_again_26 ?_
        refine AW.iaload X dX12_again_27 (am_at 17 rfl) (n2_in (by omega) (by decide)) (v := (μ.1 18 (6 + ix))) (by rw [n2_clamp (by omega)]; first | exact hka.1.2 18 (6 + ix) (by unfold TPl; omega) | (simp [wI]; exact hka.1.2 18 (6 + ix) (by unfold TPl; omega))) ?_
        refine AW.iastore X dX12_again_28 (by decide) (am_at 4 rfl) (n2_in (by omega) (by decide)) ?_
        rw [n2_clamp (by omega)]
        refine AW.aload_n X dX12_again_29 (i := 0) rfl rfl ?_
        refine AW.getR X dX12_again_30 fX12_26 rfl om0 (wm_at Wa 5 rfl) ?_
        refine AW.iload_n X dX12_again_33 (i := 2) rfl rfl ?_
        refine AW.aload_n X dX12_again_34 (i := 1) rfl rfl ?_
        refine AW.bipushN X 12 dX12_again_35 rfl ?_
        refine AW.iload_n X dX12_again_37 (i := 2) rfl rfl ?_
        refine AW.iaddN X dX12_again_38 ?_
        refine AW.iaload X dX12_again_39 (am_at 17 rfl) (n2_in (by omega) (by decide)) (v := (μ.1 18 (12 + ix))) (by rw [n2_clamp (by omega)]; first | exact hka.1.2 18 (12 + ix) (by unfold TPl; omega) | (simp [wI]; exact hka.1.2 18 (12 + ix) (by unfold TPl; omega))) ?_
        refine AW.iastore X dX12_again_40 (by decide) (am_at 5 rfl) (n2_in (by omega) (by decide)) ?_
        rw [n2_clamp (by omega)]
        refine AW.aload_n X dX12_again_41 (i := 0) rfl rfl ?_
        refine AW.getR X dX12_again_42 fX12_47 rfl om0 (wm_at Wa 12 rfl) ?_
        refine AW.iload_n X dX12_again_45 (i := 2) rfl rfl ?_
        refine AW.aload_n X dX12_again_46 (i := 1) rfl rfl ?_
        refine AW.sipushN X 330 dX12_again_47 rfl ?_
        refine AW.iload_n X dX12_again_50 (i := 2) rfl rfl ?_
        refine AW.iaddN X dX12_again_51 ?_
        refine AW.iaload X dX12_again_52 (am_at 17 rfl) (n2_in (by omega) (by decide)) (v := (μ.1 18 (330 + ix))) (by rw [n2_clamp (by omega)]; first | exact hka.1.2 18 (330 + ix) (by unfold TPl; omega) | (simp [wI]; exact hka.1.2 18 (330 + ix) (by unfold TPl; omega))) ?_
        refine AW.iastore X dX12_again_53 (by decide) (am_at 12 rfl) (n2_in (by omega) (by decide)) ?_
        rw [n2_clamp (by omega)]
        refine AW.aload_n X dX12_again_54 (i := 0) rfl rfl ?_
        refine AW.getR X dX12_again_55 fX12_50 rfl om0 (wm_at Wa 13 rfl) ?_
        refine AW.iload_n X dX12_again_58 (i := 2) rfl rfl ?_
        refine AW.aload_n X dX12_again_59 (i := 1) rfl rfl ?_
        refine AW.sipushN X 336 dX12_again_60 rfl ?_
        refine AW.iload_n X dX12_again_63 (i := 2) rfl rfl ?_
        refine AW.iaddN X dX12_again_64 ?_
        refine AW.iaload X dX12_again_65 (am_at 17 rfl) (n2_in (by omega) (by decide)) (v := (μ.1 18 (336 + ix))) (by rw [n2_clamp (by omega)]; first | exact hka.1.2 18 (336 + ix) (by unfold TPl; omega) | (simp [wI]; exact hka.1.2 18 (336 + ix) (by unfold TPl; omega))) ?_
        refine AW.iastore X dX12_again_66 (by decide) (am_at 13 rfl) (n2_in (by omega) (by decide)) ?_
        rw [n2_clamp (by omega)]
        refine AW.iincN X (c := (ix + 1)) dX12_again_67 rfl (inc_1 _) rfl ?_
        refine AW.goto X (tgt := 2) dX12_again_70 (by decide) ?_
        refine AW.cgw (ih2 (ix + 1) (wI (wI (wI (wI (wI μa 4 ix (μ.1 18 ix)) 5 ix (μ.1 18 (6 + ix))) 6 ix (μ.1 18 (12 + ix))) 13 ix (μ.1 18 (330 + ix))) 14 ix (μ.1 18 (336 + ix))) (by omega) (by omega) (ag_a (by decide) (by omega) hka)) ⟨rfl, rfl, rfl, trivial⟩
  refine AW.cgw (L2 _ 0 μ (Nat.lt_succ_self _) (by omega) ag_0) ⟨rfl, rfl, rfl, trivial⟩
theorem rm_image {μ μ2 : Mm} {S : St} (h : RMX μ S) (ho : OLD μ2 17 S.1) (hs : SmM (KOp 17) (wI μ 0 24 (nI 1)) μ2) : RMX μ2 (S.1, S.1, upV S.2.2.1 3 1 1, S.2.2.2) := by
  obtain ⟨⟨i1, i2, i3, i4, i5, i6⟩, W, hT, h4, x1, x2, x3, x4, x5, x6, x7⟩ := h
  have e : ∀ q k, q ≠ 17 → ¬ (q = 0 ∧ k = 24) → μ2.1 q k = μ.1 q k := fun q k a c => by
    rw [hs.2 q k a]; simp only [wI, if_neg c]
  have st : SmM (fun q k => q = 17 ∨ (q = 0 ∧ k = 24)) μ μ2 := ⟨hs.1, fun q k a => e q k (fun z => a (Or.inl z)) (fun z => a (Or.inr z))⟩
  have K : ∀ j k, ¬ (j = 3 ∧ k = 1) → upV S.2.2.1 3 1 1 j k = kk S j k := fun j k q => by simp only [upV, if_neg q]
  refine ⟨⟨i1, fun _ => i1, fun s hs8 => ?_, fun s hs8 => ?_, Or.inr rfl, ?_⟩, wm_same W st, tm_same hT st (fun q k a c => by unfold TPl at a; omega), fun _ => ho, fun s hs8 => ?_, fun j hj => ?_, ?_, ?_, ?_, fun j hj hr => ?_, fun s hs8 j hj => ?_⟩
  · show upV S.2.2.1 3 1 1 0 s = 0 ∨ _ ∧ _ ∨ _ ∧ _
    rw [K 0 s (by omega)]; exact i3 s hs8
  · show upV S.2.2.1 3 1 1 1 s ≤ 160
    rw [K 1 s (by omega)]; exact i4 s hs8
  · show upV S.2.2.1 3 1 1 3 2 < 1000
    rw [K 3 2 (by omega)]; exact i6
  · show _ = dn (upV S.2.2.1 3 1 1 0 s) ∧ _ = nI (upV S.2.2.1 3 1 1 1 s)
    rw [K 0 s (by omega), K 1 s (by omega), e 1 s (by decide) (by omega), e 2 s (by decide) (by omega)]; exact x1 s hs8
  · show _ = nI (upV S.2.2.1 3 1 1 2 j)
    rw [K 2 j (by omega), e 15 j (by decide) (by omega)]; exact x2 j hj
  · show _ = nI (upV S.2.2.1 3 1 1 3 1)
    rw [hs.2 0 24 (by unfold KOp; decide)]
    simp [wI, upV]
  · show _ = dn (upV S.2.2.1 3 1 1 3 0)
    rw [K 3 0 (by omega), e 0 20 (by decide) (by omega)]; exact x4
  · show _ = nI (upV S.2.2.1 3 1 1 3 2)
    rw [K 3 2 (by omega), e 0 22 (by decide) (by omega)]; exact x5
  · show _ = nI (upV S.2.2.1 3 1 1 4 j)
    have hr : j < upV S.2.2.1 3 1 1 3 2 := hr
    rw [K 3 2 (by omega)] at hr
    rw [K 4 j (by omega), e 16 j (by decide) (by omega)]; exact x6 j hj hr
  · rw [st.1]
    have hj : j < upV S.2.2.1 3 1 1 1 s := hj
    rw [K 1 s (by omega)] at hj
    exact x7 s hs8 j hj
theorem rm_restore {μ μ2 μ3 : Mm} {S : St} (h : RMX μ S) (hI : kk S 3 1 = 1) (ht : TMX μ2 S.2.1) (hs : SmM TPl μ μ2) (s1 : SmM (KOp 1) μ2 μ3) (hh : ∀ s, s < 8 → μ3.1 1 s = dn (rsh (S.2.1 6 0 0) (kk S 0 s))) : RMX μ3 (S.2.1, S.2.1, fun j k => if j = 0 then rsh (S.2.1 6 0 0) (kk S 0 k) else kk S j k, S.2.2.2) := by
  obtain ⟨⟨i1, i2, i3, i4, i5, i6⟩, W, hT, h4, x1, x2, x3, x4, x5, x6, x7⟩ := h
  have e : ∀ q k, q ≠ 1 → ¬ TPl q k → μ3.1 q k = μ.1 q k := fun q k a c => (s1.2 q k a).trans (hs.2 q k c)
  have e2 : μ3.2 = μ.2 := s1.1.trans hs.1
  refine ⟨⟨i2 hI, fun _ => i2 hI, fun s hs8 => ?_, i4, i5, i6⟩, by rw [e2]; exact W, tm_same ht s1 (fun q k a c => by unfold TPl at a; unfold KOp at c; omega), fun _ => ?_, fun s hs8 => ⟨hh s hs8, ?_⟩, fun j hj => ?_, ?_, ?_, ?_, fun j hj hr => ?_, fun s hs8 j hj => ?_⟩
  · have := i3 s hs8
    exact rsh_le (by have := ti_n i1; omega)
  · exact old_same (old_same (h4 hI) hs (fun k z => by unfold TPl at z; omega)) s1 (fun k z => by unfold KOp at z; omega)
  · rw [e 2 s (by decide) (by unfold TPl; omega)]; exact (x1 s hs8).2
  · rw [e 15 j (by decide) (by unfold TPl; omega)]; exact x2 j hj
  · rw [e 0 24 (by decide) (by unfold TPl; omega)]; exact x3
  · rw [e 0 20 (by decide) (by unfold TPl; omega)]; exact x4
  · rw [e 0 22 (by decide) (by unfold TPl; omega)]; exact x5
  · rw [e 16 j (by decide) (by unfold TPl; omega)]; exact x6 j hj hr
  · rw [e2]; exact x7 s hs8 j hj
set_option maxRecDepth 100000 in
set_option maxHeartbeats 4000000 in
theorem c_X12_image {l : Launch} {δ : Dl} {b : Nat} {μ : Mm} {S : St} (hR : RMX μ S)  : MCM l δ b yX12_image cX12_image 1 (some .int) 2 [.ref (b + 0)] μ (pI fun r μ' => r = (S_image S ).1 ∧ RMX μ' (S_image S ).2) := by
  have hT := rm_t hR
  have W := rm_w hR
  have bn := ti_n hT.1
  refine MC.intro ([some (.ref (b + 0))]) (by decide) rfl rfl fun κ Qc hl hQ X => ?_
  subst hl
  refine AW.aload_n X dX12_image_0 (i := 0) rfl rfl ?_
  refine AW.iconstN X 1 dX12_image_1 rfl ?_
  refine AW.putI X dX12_image_2 fX12_297 rfl rfl ⟨rfl, rfl⟩ (by decide) om0 ?_
  have hT1 : TMX (wI μ 0 24 (nI 1)) S.1 := tm_same hT (SmM.w (P := fun q k => q = 0 ∧ k = 24) ⟨rfl, rfl⟩) (fun q k a c => by unfold TPl at a; omega)
  refine AW.aload_n X dX12_image_5 (i := 0) rfl rfl ?_
  refine AW.aload_n X dX12_image_6 (i := 0) rfl rfl ?_
  refine AW.getR X dX12_image_7 fX12_59 rfl om0 (wm_at W 16 rfl) ?_
  refine AW.callV X dX12_image_10 lX12_209 cfX12 (c_keep17 W hT1) om0 rfl rfl rfl rfl ⟨rfl, rfl⟩ (pV_k fun μ2 hp => ?_)
  refine AW.aload_n X dX12_image_13 (i := 0) rfl rfl ?_
  refine AW.getI X dX12_image_14 fX12_87 rfl om0 (v := (nI (S.1 6 0 0))) ((hp.2.2 0 3 (by unfold KOp; decide)).trans hT1.2.1.1) ?_
  refine AW.iret X hQ dX12_image_17 ⟨_, rfl, ?_⟩
  exact rm_val (by simp [S_image]) (rm_image hR hp.1 hp.2)
set_option maxRecDepth 100000 in
set_option maxHeartbeats 4000000 in
theorem c_isRow9 {l : Launch} {δ : Dl} {b : Nat} {μ : Mm} (W : WM μ.2.2) {s v : Nat} (hs : s < 8) (hb : v < 1000) (hv : μ.1 1 s = dn v) : MCM l δ b yX12_isRow cX12_isRow 2 (some .boolean) 1 [.ref (b + 0), .int (nI s)] μ (pI fun r μ' => r = bI (decide (101 ≤ v)) ∧ μ' = μ) := by
  refine MC.intro ([some (.ref (b + 0)), some (.int (nI s))]) (by decide) rfl rfl fun κ Qc hl hQ X => ?_
  subst hl
  refine AW.aload_n X dX12_isRow_0 (i := 0) rfl rfl ?_
  refine AW.getR X dX12_isRow_1 fX12_7 rfl om0 (wm_at W 0 rfl) ?_
  refine AW.iload_n X dX12_isRow_4 (i := 1) rfl rfl ?_
  refine AW.iaload X dX12_isRow_5 (am_at 0 rfl) (n2_in (by omega) (by decide)) (v := (dn v)) (by rw [n2_clamp (by omega)]; exact hv) ?_
  refine AW.bipushN X 100 dX12_isRow_6 rfl ?_
  refine AW.icmp_lt X (tgt := 15) dX12_isRow_8 (by decide) (fun h8 => ?_) (fun h8 => ?_)
  · rw [dn_lt (by omega) (by omega)] at h8
    refine AW.iconstN X 0 dX12_isRow_15 rfl ?_
    refine AW.zret X rfl hQ dX12_isRow_16 ⟨_, rfl, ?_⟩
    have e : decide (101 ≤ v) = false := by simp; omega
    exact ⟨by rw [e]; rfl, rfl⟩
  · rw [dn_lt (by omega) (by omega)] at h8
    refine AW.iconstN X 1 dX12_isRow_11 rfl ?_
    refine AW.goto X (tgt := 16) dX12_isRow_12 (by decide) ?_
    refine AW.zret X rfl hQ dX12_isRow_16 ⟨_, rfl, ?_⟩
    have e : decide (101 ≤ v) = true := by simp; omega
    exact ⟨by rw [e]; rfl, rfl⟩
theorem dn_le_lt {v m : Nat} (hv : v < 1000) (hm : m < 1000) : dn v < nI m ↔ v ≤ m := by
  cases v with
  | zero =>
    rw [dn_0]
    refine ⟨fun _ => Nat.zero_le _, fun _ => ?_⟩
    have h0 : (0 : Int32) ≤ nI m := (n2_le (a := 0) (by decide) (by omega)).mpr (Nat.zero_le _)
    exact Int32.lt_of_lt_of_le (by decide) h0
  | succ v => rw [dn_s, n2_lt (by omega) (by omega)]; omega
set_option maxRecDepth 100000 in
set_option maxHeartbeats 4000000 in
theorem c_X12_restore {l : Launch} {δ : Dl} {b : Nat} {μ : Mm} {S : St} (hR : RMX μ S)  : MCM l δ b yX12_restore cX12_restore 2 (some .int) 2 [.ref (b + 0)] μ (pI fun r μ' => r = (S_restore S ).1 ∧ RMX μ' (S_restore S ).2) := by
  have hT := rm_t hR
  have W := rm_w hR
  have bn := ti_n hT.1
  have hI5 : kk S 3 1 = 0 ∨ kk S 3 1 = 1 := hR.1.2.2.2.2.1
  refine MC.intro ([some (.ref (b + 0)), none]) (by decide) rfl rfl fun κ Qc hl hQ X => ?_
  subst hl
  refine AW.aload_n X dX12_restore_0 (i := 0) rfl rfl ?_
  refine AW.getI X dX12_restore_1 fX12_297 rfl om0 (rm_imaged hR) ?_
  refine AW.if_neN X (tgt := 14) dX12_restore_4 (by decide) (by omega) (fun h4 => ?_) (fun h4 => ?_)
  · have hI : kk S 3 1 = 1 := by have := hR.1.2.2.2.2.1; omega
    have g4 : ¬ kk S 3 1 = 0 := h4
    refine AW.aload_n X dX12_restore_14 (i := 0) rfl rfl ?_
    refine AW.aload_n X dX12_restore_15 (i := 0) rfl rfl ?_
    refine AW.getR X dX12_restore_16 fX12_59 rfl om0 (wm_at W 16 rfl) ?_
    refine AW.callV X dX12_restore_19 lX12_217 cfX12 (c_again17 W (hR.2.2.2.1 hI)) om0 rfl rfl rfl rfl ⟨rfl, rfl⟩ (pV_k fun μ2 hp => ?_)
    have hd2 : ∀ s, s < 8 → μ2.1 1 s = dn (kk S 0 s) := fun s hs => by rw [hp.2.2 1 s (by unfold TPl; omega)]; exact rm_held hR hs
    have mn := ti_n hp.1.1
    have W2 := wm_same W hp.2
    refine AW.iconstN X 0 dX12_restore_22 rfl ?_
    refine AW.istore_n X dX12_restore_23 (i := 1) rfl rfl ?_
    have L24 : ∀ (m24 ix : Nat) (μc : Mm), 8 - ix < m24 → ix ≤ 8 → (SmM (KOp 1) μ2 μc) → (∀ s, s < 8 → μc.1 1 s = dn (if s < ix then rsh (S.2.1 6 0 0) (kk S 0 s) else kk S 0 s)) → AW κ (δ, b, NM, 2, shM, False, Qc, 0, 0) NM 0 0 24 [some (.ref (b + 0)), some (.int (nI ix))] [] μc := by
      intro m24
      induction m24 with
      | zero => intro ix μc hm; exact absurd hm (Nat.not_lt_zero _)
      | succ m24 ih24 =>
        intro ix μc hm24 hi24 hmc hdc
        have Wc := wm_same W2 hmc
        refine AW.iload_n X dX12_restore_24 (i := 1) rfl rfl ?_
        refine AW.bipushN X 8 dX12_restore_25 rfl ?_
        refine AW.icmp_geN X (tgt := 64) dX12_restore_27 (by decide) (by omega) (by omega) (fun h27 => ?_) (fun h27 => ?_)
        · obtain rfl : 8 = ix := by omega
          have n27 := Nat.not_lt_of_le h27
          refine AW.aload_n X dX12_restore_64 (i := 0) rfl rfl ?_
          refine AW.getI X dX12_restore_65 fX12_87 rfl om0 (v := (nI (S.2.1 6 0 0))) ((hmc.2 0 3 (by unfold KOp; decide)).trans hp.1.2.1.1) ?_
          refine AW.iret X hQ dX12_restore_68 ⟨_, rfl, ?_⟩
          exact rm_val (by simp [S_restore, *]) (rm_restore hR hI hp.1 hp.2 hmc (fun s hs => by rw [hdc s hs, if_pos hs]))
        · have n27 := Nat.not_le_of_lt h27
          have bv : kk S 0 ix ≤ 104 := by have := hR.1.2.2.1 ix (by omega); have := ti_n hR.1.1; omega
          have hvc : μc.1 1 ix = dn (kk S 0 ix) := by rw [hdc ix (by omega), if_neg (Nat.lt_irrefl _)]
          refine AW.aload_n X dX12_restore_30 (i := 0) rfl rfl ?_
          refine AW.iload_n X dX12_restore_31 (i := 1) rfl rfl ?_
          refine AW.callV X dX12_restore_32 lX12_102 cfX12 (c_isRow9 Wc (by omega) (by omega) hvc) om0 rfl rfl rfl rfl ⟨rfl, rfl⟩ (pR_k ?_)
          refine AW.if_neB X (tgt := 58) dX12_restore_35 (by decide) (fun h35 => ?_) (fun h35 => ?_)
          · refine AW.iincN X (c := (ix + 1)) dX12_restore_58 rfl (inc_1 _) rfl ?_
            refine AW.goto X (tgt := 24) dX12_restore_61 (by decide) ?_
            refine AW.cgw (ih24 (ix + 1) μc (by omega) (by omega) hmc (rsh_step hdc (fun s z => rfl) (by rw [hvc, rsh, if_neg (by simp at *; omega)]))) ⟨rfl, rfl, trivial⟩
          · refine AW.aload_n X dX12_restore_38 (i := 0) rfl rfl ?_
            refine AW.getR X dX12_restore_39 fX12_7 rfl om0 (wm_at Wc 0 rfl) ?_
            refine AW.iload_n X dX12_restore_42 (i := 1) rfl rfl ?_
            refine AW.iaload X dX12_restore_43 (am_at 0 rfl) (n2_in (by omega) (by decide)) (v := (dn (kk S 0 ix))) (by rw [n2_clamp (by omega)]; exact hvc) ?_
            refine AW.aload_n X dX12_restore_44 (i := 0) rfl rfl ?_
            refine AW.getI X dX12_restore_45 fX12_87 rfl om0 (v := (nI (S.2.1 6 0 0))) ((hmc.2 0 3 (by unfold KOp; decide)).trans hp.1.2.1.1) ?_
            refine AW.icmp_lt X (tgt := 58) dX12_restore_48 (by decide) (fun h48 => ?_) (fun h48 => ?_)
            · rw [dn_le_lt (by omega) (by omega)] at h48
              refine AW.iincN X (c := (ix + 1)) dX12_restore_58 rfl (inc_1 _) rfl ?_
              refine AW.goto X (tgt := 24) dX12_restore_61 (by decide) ?_
              refine AW.cgw (ih24 (ix + 1) μc (by omega) (by omega) hmc (rsh_step hdc (fun s z => rfl) (by rw [hvc, rsh, if_neg (by simp at *; omega)]))) ⟨rfl, rfl, trivial⟩
            · rw [dn_le_lt (by omega) (by omega)] at h48
              refine AW.aload_n X dX12_restore_51 (i := 0) rfl rfl ?_
              refine AW.getR X dX12_restore_52 fX12_7 rfl om0 (wm_at Wc 0 rfl) ?_
              refine AW.iload_n X dX12_restore_55 (i := 1) rfl rfl ?_
              refine AW.iconst X (v := -1) dX12_restore_56 rfl ?_
              refine AW.iastore X dX12_restore_57 (by decide) (am_at 0 rfl) (n2_in (by omega) (by decide)) ?_
              rw [n2_clamp (by omega)]
              refine AW.iincN X (c := (ix + 1)) dX12_restore_58 rfl (inc_1 _) rfl ?_
              refine AW.goto X (tgt := 24) dX12_restore_61 (by decide) ?_
              refine AW.cgw (ih24 (ix + 1) (wI μc 1 ix (-1)) (by omega) (by omega) (hmc.trn (SmM.w rfl)) (rsh_step hdc (fun s z => by simp [wI, z]) (by rw [rsh, if_pos (by simp at *; omega), dn_0]; simp [wI]))) ⟨rfl, rfl, trivial⟩
    refine AW.cgw (L24 _ 0 μ2 (Nat.lt_succ_self _) (by omega) SmM.rf (fun s hs => by rw [hd2 s hs, if_neg (Nat.not_lt_zero s)])) ⟨rfl, rfl, trivial⟩
  · refine AW.aload_n X dX12_restore_7 (i := 0) rfl rfl ?_
    refine AW.bipush X (v := -6) dX12_restore_8 rfl ?_
    refine AW.callV X dX12_restore_10 lX12_98 cfX12 (c_X12_no (k := 6) hR (by decide) (by decide)) om0 rfl rfl rfl rfl ⟨rfl, rfl⟩ (pI_k fun r μ1 hr => ?_)
    refine AW.iret X hQ dX12_restore_13 ⟨_, rfl, ?_⟩
    refine rm_of ?_ hr
    simp [S_restore, *]
