/-! the reference's memory: its towns, its state -/
def HMX (μ : Mm) (h : Nat) (V : Vt) : Prop := HI V ∧ (μ.1 4 h = nI (V 0 0) ∧ μ.1 5 h = nI (V 0 1) ∧ μ.1 6 h = nI (V 0 2)) ∧ (∀ c, c < V 0 2 → μ.1 7 (8 * h + c) = nI (V 1 c) ∧ μ.1 8 (8 * h + c) = nI (V 2 c) ∧ μ.1 9 (8 * h + c) = nI (V 3 c) ∧ μ.1 10 (8 * h + c) = nI (V 4 c) ∧ μ.1 11 (8 * h + c) = nI (V 5 c)) ∧ ∀ k, k < 12 → μ.1 12 (12 * h + k) = nI (V 6 k)
def TMX (μ : Mm) (τ : Tt) : Prop := TI τ ∧ (μ.1 0 3 = nI (τ 6 0 0) ∧ μ.1 0 15 = nI (τ 6 0 1) ∧ μ.1 0 16 = nI (τ 6 0 2) ∧ μ.1 0 17 = nI (τ 6 0 3) ∧ μ.1 0 18 = nI (τ 6 0 4) ∧ μ.1 0 19 = nI (τ 6 0 5)) ∧ (∀ c, c < 6 → μ.1 13 c = nI (τ 6 1 c) ∧ μ.1 14 c = nI (τ 6 2 c)) ∧ ∀ h, h < τ 6 0 0 → HMX μ h (τ h)
/-- a town that is kept in array o -/
def OLD (μ : Mm) (o : Nat) (τ : Tt) : Prop := TI τ ∧ (μ.1 o 342 = nI (τ 6 0 0) ∧ μ.1 o 343 = nI (100 * τ 6 0 1 + τ 6 0 2) ∧ μ.1 o 344 = nI (τ 6 0 3) ∧ μ.1 o 345 = nI (τ 6 0 4) ∧ μ.1 o 346 = nI (τ 6 0 5)) ∧ (∀ c, c < 6 → μ.1 o (330 + c) = nI (τ 6 1 c) ∧ μ.1 o (336 + c) = nI (τ 6 2 c)) ∧ ∀ h, h < τ 6 0 0 → (μ.1 o h = nI (τ h 0 0) ∧ μ.1 o (6 + h) = nI (τ h 0 1) ∧ μ.1 o (12 + h) = nI (τ h 0 2)) ∧ (∀ c, c < τ h 0 2 → μ.1 o (18 + (8 * h + c)) = nI (τ h 1 c) ∧ μ.1 o (66 + (8 * h + c)) = nI (τ h 2 c) ∧ μ.1 o (114 + (8 * h + c)) = nI (τ h 3 c) ∧ μ.1 o (162 + (8 * h + c)) = nI (τ h 4 c) ∧ μ.1 o (210 + (8 * h + c)) = nI (τ h 5 c)) ∧ ∀ k, k < 12 → μ.1 o (258 + (12 * h + k)) = nI (τ h 6 k)
def SMX (μ : Mm) (S : St) : Prop := (∀ s, s < 8 → μ.1 1 s = dn (kk S 0 s) ∧ μ.1 2 s = nI (kk S 1 s)) ∧ (∀ i, i < 8 → μ.1 15 i = nI (kk S 2 i)) ∧ μ.1 0 24 = nI (kk S 3 1) ∧ μ.1 0 20 = dn (kk S 3 0) ∧ μ.1 0 22 = nI (kk S 3 2) ∧ (∀ i, i < 20 → i < kk S 3 2 → μ.1 16 i = nI (kk S 4 i)) ∧ ∀ s, s < 8 → ∀ i, i < kk S 1 s → μ.2.1 3 (160 * s + i) = S.2.2.2 s i
def RMX (μ : Mm) (S : St) : Prop := SI S ∧ WM μ.2.2 ∧ TMX μ S.1 ∧ (kk S 3 1 = 1 → OLD μ 17 S.2.1) ∧ SMX μ S
section TMS
variable {μ : Mm} {τ : Tt} {h c k : Nat} {S : St}
theorem tm_i (q : TMX μ τ) : TI τ := q.1
theorem tm_0 (q : TMX μ τ) : μ.1 0 3 = nI (τ 6 0 0) := q.2.1.1
theorem tm_l (q : TMX μ τ) : μ.1 0 15 = nI (τ 6 0 1) := q.2.1.2.1
theorem tm_w (q : TMX μ τ) : μ.1 0 16 = nI (τ 6 0 2) := q.2.1.2.2.1
theorem tm_y (q : TMX μ τ) : μ.1 0 17 = nI (τ 6 0 3) := q.2.1.2.2.2.1
theorem tm_f (q : TMX μ τ) : μ.1 0 18 = nI (τ 6 0 4) := q.2.1.2.2.2.2.1
theorem tm_s (q : TMX μ τ) : μ.1 0 19 = nI (τ 6 0 5) := q.2.1.2.2.2.2.2
theorem tm_hid (q : TMX μ τ) (hc : c < 6) : μ.1 13 c = nI (τ 6 1 c) := (q.2.2.1 c hc).1
theorem tm_cos (q : TMX μ τ) (hc : c < 6) : μ.1 14 c = nI (τ 6 2 c) := (q.2.2.1 c hc).2
theorem tm_h (q : TMX μ τ) (hh : h < τ 6 0 0) : HMX μ h (τ h) := q.2.2.2 h hh
theorem tm_hi (q : TMX μ τ) (hh : h < τ 6 0 0) : HI (τ h) := (q.2.2.2 h hh).1
theorem tm_k (q : TMX μ τ) (hh : h < τ 6 0 0) : μ.1 4 h = nI (τ h 0 0) := (q.2.2.2 h hh).2.1.1
theorem tm_a (q : TMX μ τ) (hh : h < τ 6 0 0) : μ.1 5 h = nI (τ h 0 1) := (q.2.2.2 h hh).2.1.2.1
theorem tm_n (q : TMX μ τ) (hh : h < τ 6 0 0) : μ.1 6 h = nI (τ h 0 2) := (q.2.2.2 h hh).2.1.2.2
theorem tm_1 (q : TMX μ τ) (hh : h < τ 6 0 0) (hc : c < τ h 0 2) : μ.1 7 (8 * h + c) = nI (τ h 1 c) := ((q.2.2.2 h hh).2.2.1 c hc).1
theorem tm_2 (q : TMX μ τ) (hh : h < τ 6 0 0) (hc : c < τ h 0 2) : μ.1 8 (8 * h + c) = nI (τ h 2 c) := ((q.2.2.2 h hh).2.2.1 c hc).2.1
theorem tm_3 (q : TMX μ τ) (hh : h < τ 6 0 0) (hc : c < τ h 0 2) : μ.1 9 (8 * h + c) = nI (τ h 3 c) := ((q.2.2.2 h hh).2.2.1 c hc).2.2.1
theorem tm_4 (q : TMX μ τ) (hh : h < τ 6 0 0) (hc : c < τ h 0 2) : μ.1 10 (8 * h + c) = nI (τ h 4 c) := ((q.2.2.2 h hh).2.2.1 c hc).2.2.2.1
theorem tm_5 (q : TMX μ τ) (hh : h < τ 6 0 0) (hc : c < τ h 0 2) : μ.1 11 (8 * h + c) = nI (τ h 5 c) := ((q.2.2.2 h hh).2.2.1 c hc).2.2.2.2
theorem tm_6 (q : TMX μ τ) (hh : h < τ 6 0 0) (hk : k < 12) : μ.1 12 (12 * h + k) = nI (τ h 6 k) := (q.2.2.2 h hh).2.2.2 k hk
theorem rm_t (q : RMX μ S) : TMX μ S.1 := q.2.2.1
theorem rm_w (q : RMX μ S) : WM μ.2.2 := q.2.1
theorem rm_held (q : RMX μ S) {s : Nat} (hs : s < 8) : μ.1 1 s = dn (kk S 0 s) := (q.2.2.2.2.1 s hs).1
theorem rm_size (q : RMX μ S) {s : Nat} (hs : s < 8) : μ.1 2 s = nI (kk S 1 s) := (q.2.2.2.2.1 s hs).2
theorem rm_refu (q : RMX μ S) {s : Nat} (hs : s < 8) : μ.1 15 s = nI (kk S 2 s) := q.2.2.2.2.2.1 s hs
theorem rm_imaged (q : RMX μ S) : μ.1 0 24 = nI (kk S 3 1) := q.2.2.2.2.2.2.1
theorem rm_fault (q : RMX μ S) : μ.1 0 20 = dn (kk S 3 0) := q.2.2.2.2.2.2.2.1
theorem rm_ran (q : RMX μ S) : μ.1 0 22 = nI (kk S 3 2) := q.2.2.2.2.2.2.2.2.1
theorem rm_body (q : RMX μ S) {i : Nat} (hi : i < 20) (hr : i < kk S 3 2) : μ.1 16 i = nI (kk S 4 i) := q.2.2.2.2.2.2.2.2.2.1 i hi hr
theorem rm_elem (q : RMX μ S) {s i : Nat} (hs : s < 8) (hi : i < kk S 1 s) : μ.2.1 3 (160 * s + i) = S.2.2.2 s i := q.2.2.2.2.2.2.2.2.2.2 s hs i hi
end TMS
/-- all but the places in P is as it was -/
def SmM (P : Nat → Nat → Prop) (μ μ' : Mm) : Prop := μ'.2 = μ.2 ∧ ∀ q k, ¬ P q k → μ'.1 q k = μ.1 q k
theorem SmM.rf {P : Nat → Nat → Prop} {μ : Mm} : SmM P μ μ := ⟨rfl, fun _ _ _ => rfl⟩
theorem SmM.trn {P : Nat → Nat → Prop} {μ μ1 μ2 : Mm} (h : SmM P μ μ1) (h1 : SmM P μ1 μ2) : SmM P μ μ2 := ⟨h1.1.trans h.1, fun q k a => (h1.2 q k a).trans (h.2 q k a)⟩
theorem SmM.mono {P Q : Nat → Nat → Prop} {μ μ1 : Mm} (h : SmM P μ μ1) (hq : ∀ q k, P q k → Q q k) : SmM Q μ μ1 := ⟨h.1, fun q k a => h.2 q k (fun z => a (hq q k z))⟩
theorem SmM.w {P : Nat → Nat → Prop} {μ : Mm} {o k : Nat} {v : Int32} (h : P o k) : SmM P μ (wI μ o k v) := ⟨rfl, fun q i a => by
  have : ¬ (q = o ∧ i = k) := fun z => a (by rw [z.1, z.2]; exact h)
  simp only [wI, if_neg this]⟩
/-- a town's own places -/
def TPl (q k : Nat) : Prop := (4 ≤ q ∧ q ≤ 14) ∨ (q = 0 ∧ (k = 3 ∨ (15 ≤ k ∧ k ≤ 19)))
theorem old_same {P : Nat → Nat → Prop} {μ μ' : Mm} {o : Nat} {τ : Tt} (h : OLD μ o τ) (hs : SmM P μ μ') (hP : ∀ k, ¬ P o k) : OLD μ' o τ := by
  have e : μ'.1 o = μ.1 o := funext fun k => hs.2 o k (hP k)
  unfold OLD
  rw [e]
  exact h
theorem tm_same {P : Nat → Nat → Prop} {μ μ' : Mm} {τ : Tt} (h : TMX μ τ) (hs : SmM P μ μ') (hP : ∀ q k, TPl q k → ¬ P q k) : TMX μ' τ := by
  have e : ∀ q, 4 ≤ q → q ≤ 14 → μ'.1 q = μ.1 q := fun q a c => funext fun k => hs.2 q k (hP q k (Or.inl ⟨a, c⟩))
  have e0 : ∀ k, k = 3 ∨ (15 ≤ k ∧ k ≤ 19) → μ'.1 0 k = μ.1 0 k := fun k a => hs.2 0 k (hP 0 k (Or.inr ⟨rfl, a⟩))
  refine ⟨h.1, ?_, ?_, fun i hi => ⟨(h.2.2.2 i hi).1, ?_, ?_, ?_⟩⟩
  · rw [e0 3 (by omega), e0 15 (by omega), e0 16 (by omega), e0 17 (by omega), e0 18 (by omega), e0 19 (by omega)]; exact h.2.1
  · rw [e 13 (by decide) (by decide), e 14 (by decide) (by decide)]; exact h.2.2.1
  · rw [e 4 (by decide) (by decide), e 5 (by decide) (by decide), e 6 (by decide) (by decide)]; exact (h.2.2.2 i hi).2.1
  · rw [e 7 (by decide) (by decide), e 8 (by decide) (by decide), e 9 (by decide) (by decide), e 10 (by decide) (by decide), e 11 (by decide) (by decide)]; exact (h.2.2.2 i hi).2.2.1
  · rw [e 12 (by decide) (by decide)]; exact (h.2.2.2 i hi).2.2.2
theorem wm_same {μ μ' : Mm} {P : Nat → Nat → Prop} (W : WM μ.2.2) (h : SmM P μ μ') : WM μ'.2.2 := by rw [h.1]; exact W
/-- the town changes, all else is kept -/
theorem rm_town {μ μ' : Mm} {S : St} {τ' : Tt} (h : RMX μ S) (hs : SmM TPl μ μ') (hT : TMX μ' τ') (hn : S.1 6 0 0 ≤ τ' 6 0 0) : RMX μ' (tU S τ') := by
  obtain ⟨⟨i1, i2, i3, i4, i5, i6⟩, W, -, h4, x1, x2, x3, x4, x5, x6, x7⟩ := h
  have e : ∀ q k, ¬ TPl q k → μ'.1 q k = μ.1 q k := hs.2
  have no : ∀ q k, (q = 1 ∨ q = 2 ∨ q = 15 ∨ q = 16 ∨ q = 17 ∨ (q = 0 ∧ (k = 20 ∨ k = 22 ∨ k = 24))) → ¬ TPl q k := fun q k a z => by
    unfold TPl at z; omega
  refine ⟨⟨hT.1, i2, fun s hs8 => ?_, i4, i5, i6⟩, wm_same W hs, hT, fun q => old_same (h4 q) hs (fun k => no 17 k (by omega)), fun s hs8 => by rw [e 1 s (no 1 s (by omega)), e 2 s (no 2 s (by omega))]; exact x1 s hs8, fun i hi => by rw [e 15 i (no 15 i (by omega))]; exact x2 i hi, by rw [e 0 24 (no 0 24 (by omega))]; exact x3, by rw [e 0 20 (no 0 20 (by omega))]; exact x4, by rw [e 0 22 (no 0 22 (by omega))]; exact x5, fun i hi hr => by rw [e 16 i (no 16 i (by omega))]; exact x6 i hi hr, fun s hs8 i hi => by rw [hs.1]; exact x7 s hs8 i hi⟩
  rcases i3 s hs8 with q | q | q
  · exact Or.inl q
  · exact Or.inr (Or.inl ⟨q.1, Nat.le_trans q.2 hn⟩)
  · exact Or.inr (Or.inr q)
theorem rm_ref {μ : Mm} {S : St} {k : Nat} (h : RMX μ S) (hk : k < 8) : RMX (wI μ 15 k (nI (kk S 2 k + 1))) (kU S 2 k (kk S 2 k + 1)) := by
  obtain ⟨i, W, hT, h4, x1, x2, x3, x4, x5, x6, x7⟩ := h
  have sm : SmM (fun q _ => q = 15) μ (wI μ 15 k (nI (kk S 2 k + 1))) := SmM.w rfl
  refine ⟨i, W, tm_same hT sm (fun q k z y => by unfold TPl at z; omega), fun q => old_same (h4 q) sm (fun k z => by omega), x1, fun j hj => ?_, x3, x4, x5, x6, x7⟩
  rw [kk_kU]
  by_cases q : j = k
  · subst q; simp [wI]
  · simp only [wI, q, and_false, if_false]; exact x2 j hj
theorem rm_of {p q : Int32 × St} {r : Int32} {μ : Mm} (e : q = p) (h : r = p.1 ∧ RMX μ p.2) : r = q.1 ∧ RMX μ q.2 := by rw [e]; exact h
theorem rm_val {S' : St} {r : Int32} {μ' : Mm} {p : Int32 × St} (e : p = (r, S')) (h : RMX μ' S') : r = p.1 ∧ RMX μ' p.2 := by rw [e]; exact ⟨rfl, h⟩
