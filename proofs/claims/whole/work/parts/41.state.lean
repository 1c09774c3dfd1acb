/-! the whole state, for both sides: the town now, the image's, numbers, elements.
numbers: 0: what the shelves hold (0 nothing, 1 + a house, 101 + a row's sort); 1: the rows' sizes; 2: refusals; 3: 0 the fault + 1, 1 whether there is an image, 2 how many bodies ran; 4: the bodies kept -/
abbrev St : Type := Tt × Tt × (Nat → Nat → Nat) × (Nat → Nat → Int64)
abbrev kk (S : St) (j k : Nat) : Nat := S.2.2.1 j k
def kU (S : St) (j k x : Nat) : St := (S.1, S.2.1, upV S.2.2.1 j k x, S.2.2.2)
def tU (S : St) (τ : Tt) : St := (τ, S.2)
def eU (S : St) (s : Nat) (f : Nat → Int64) : St := (S.1, S.2.1, S.2.2.1, fun s' => if s' = s then f else S.2.2.2 s')
def SI (S : St) : Prop := TI S.1 ∧ (kk S 3 1 = 1 → TI S.2.1) ∧ (∀ s, s < 8 → kk S 0 s = 0 ∨ (1 ≤ kk S 0 s ∧ kk S 0 s ≤ S.1 6 0 0) ∨ (101 ≤ kk S 0 s ∧ kk S 0 s ≤ 104)) ∧ (∀ s, s < 8 → kk S 1 s ≤ 160) ∧ (kk S 3 1 = 0 ∨ kk S 3 1 = 1) ∧ kk S 3 2 < 1000
/-- what the class keeps beside its towns -/
def SX (μ : Mm) (S : St) : Prop := (∀ s, s < 8 → μ.1 1 s = dn (kk S 0 s) ∧ μ.1 2 s = nI (kk S 1 s)) ∧ (∀ i, i < 8 → μ.1 12 i = nI (kk S 2 i)) ∧ μ.1 0 10 = nI (kk S 3 1) ∧ μ.1 0 12 = dn (kk S 3 0) ∧ μ.1 16 2 = nI (kk S 3 2) ∧ (∀ i, i < 20 → i < kk S 3 2 → μ.1 17 i = nI (kk S 4 i)) ∧ ∀ s, s < 8 → ∀ i, i < kk S 1 s → μ.2.1 (4 + s) i = S.2.2.2 s i
def two (B Bd : Nat) : Prop := (B = 26 ∧ Bd = 72) ∨ (B = 72 ∧ Bd = 26)
def RX (μ : Mm) (S : St) : Prop := SI S ∧ WX μ.2.2 ∧ (∃ B Bd, two B Bd ∧ μ.2.2 0 7 = some B ∧ μ.2.2 0 8 = some Bd ∧ TX μ B S.1) ∧ (kk S 3 1 = 1 → TX μ 118 S.2.1) ∧ SX μ S
theorem two_ta {B Bd : Nat} (h : two B Bd) : TA B ∧ TA Bd ∧ B ≠ Bd ∧ B ≠ 118 ∧ Bd ≠ 118 ∧ 26 ≤ B ∧ 26 ≤ Bd ∧ B ≤ 72 ∧ Bd ≤ 72 := by
  rcases h with ⟨rfl, rfl⟩ | ⟨rfl, rfl⟩
  · exact ⟨Or.inl rfl, Or.inr (Or.inl rfl), by decide, by decide, by decide, by decide, by decide, by decide, by decide⟩
  · exact ⟨Or.inr (Or.inl rfl), Or.inl rfl, by decide, by decide, by decide, by decide, by decide, by decide, by decide⟩
theorem kk_kU (S : St) (j k x j' k' : Nat) : kk (kU S j k x) j' k' = if j' = j ∧ k' = k then x else kk S j' k' := rfl
theorem sx_same {P : Nat → Prop} {μ μ' : Mm} {S : St} (h : SX μ S) (hs : Same P μ μ') (hP : ∀ q, q < 26 → ¬ P q) : SX μ' S := by
  have e : ∀ q, q < 26 → μ'.1 q = μ.1 q := fun q hq => (hs.1 q (hP q hq)).1
  obtain ⟨h1, h2, h3, h4, h5, h6, h7⟩ := h
  refine ⟨fun s hs8 => by rw [e 1 (by decide), e 2 (by decide)]; exact h1 s hs8, fun i hi => by rw [e 12 (by decide)]; exact h2 i hi, by rw [e 0 (by decide)]; exact h3, by rw [e 0 (by decide)]; exact h4, by rw [e 16 (by decide)]; exact h5, fun i hi hr => by rw [e 17 (by decide)]; exact h6 i hi hr, fun s hs8 i hi => by rw [hs.2]; exact h7 s hs8 i hi⟩
/-- the town now becomes another -/
theorem rx_town {μ μ' : Mm} {S : St} {B Bd : Nat} {τ' : Tt} (h : RX μ S) (h2 : two B Bd) (hB : μ.2.2 0 7 = some B) (hBd : μ.2.2 0 8 = some Bd) (hs : Same (TR B) μ μ') (W : WX μ'.2.2) (hT : TX μ' B τ') (hn : S.1 6 0 0 ≤ τ' 6 0 0) : RX μ' (tU S τ') := by
  obtain ⟨⟨i1, i2, i3, i4, i5, i6⟩, -, -, h4, h5⟩ := h
  have ta := two_ta h2
  have r0 : μ'.2.2 0 = μ.2.2 0 := (hs.1 0 (fun z => by have := z.1; omega)).2
  refine ⟨⟨hT.1, i2, fun s hs8 => ?_, i4, i5, i6⟩, W, ⟨B, Bd, h2, by rw [r0]; exact hB, by rw [r0]; exact hBd, hT⟩, fun hi => tx_same (h4 hi) hs (tr_apart (by omega)), sx_same h5 hs (fun q hq z => by have := z.1; omega)⟩
  rcases i3 s hs8 with q | q | q
  · exact Or.inl q
  · exact Or.inr (Or.inl ⟨q.1, Nat.le_trans q.2 hn⟩)
  · exact Or.inr (Or.inr q)
theorem rx_small {μ μ' : Mm} {S S' : St} (h : RX μ S) (hs : SameI (fun q => q < 26) μ μ') (h1 : S'.1 = S.1) (h2 : S'.2.1 = S.2.1) (hi : SI S') (h31 : kk S' 3 1 = kk S 3 1) (hx : SX μ' S') : RX μ' S' := by
  obtain ⟨-, W, ⟨B, Bd, tb, hB, hBd, hT⟩, h4, -⟩ := h
  have ta := two_ta tb
  refine ⟨hi, wx_same W hs, ⟨B, Bd, tb, by rw [hs.2]; exact hB, by rw [hs.2]; exact hBd, by rw [h1]; exact tx_same hT hs.same (fun q z y => by have := z.1; omega)⟩, fun hi2 => ?_, hx⟩
  rw [h2]
  exact tx_same (h4 (h31 ▸ hi2)) hs.same (fun q z y => by have := z.1; omega)
theorem rx_ref {μ : Mm} {S : St} {k : Nat} (h : RX μ S) (hk : k < 8) : RX (wI μ 12 k (nI (kk S 2 k + 1))) (kU S 2 k (kk S 2 k + 1)) := by
  have hi := h.1
  have hx := h.2.2.2.2
  refine rx_small h (SameI.wI (by decide)) rfl rfl hi rfl ?_
  refine ⟨hx.1, fun i hi8 => ?_, hx.2.2.1, hx.2.2.2.1, hx.2.2.2.2.1, hx.2.2.2.2.2.1, hx.2.2.2.2.2.2⟩
  rw [kk_kU]
  by_cases q : i = k
  · subst q; simp [wI]
  · simp only [wI, q, and_false, if_false]; exact hx.2.1 i hi8
section RXS
variable {μ : Mm} {S : St}
theorem rx_i (h : RX μ S) : SI S := h.1
theorem rx_w (h : RX μ S) : WX μ.2.2 := h.2.1
theorem rx_held (h : RX μ S) {s : Nat} (hs : s < 8) : μ.1 1 s = dn (kk S 0 s) := (h.2.2.2.2.1 s hs).1
theorem rx_size (h : RX μ S) {s : Nat} (hs : s < 8) : μ.1 2 s = nI (kk S 1 s) := (h.2.2.2.2.1 s hs).2
theorem rx_refu (h : RX μ S) {s : Nat} (hs : s < 8) : μ.1 12 s = nI (kk S 2 s) := h.2.2.2.2.2.1 s hs
theorem rx_imaged (h : RX μ S) : μ.1 0 10 = nI (kk S 3 1) := h.2.2.2.2.2.2.1
theorem rx_fault (h : RX μ S) : μ.1 0 12 = dn (kk S 3 0) := h.2.2.2.2.2.2.2.1
theorem rx_ran (h : RX μ S) : μ.1 16 2 = nI (kk S 3 2) := h.2.2.2.2.2.2.2.2.1
theorem rx_body (h : RX μ S) {i : Nat} (hi : i < 20) (hr : i < kk S 3 2) : μ.1 17 i = nI (kk S 4 i) := h.2.2.2.2.2.2.2.2.2.1 i hi hr
theorem rx_elem (h : RX μ S) {s i : Nat} (hs : s < 8) (hi : i < kk S 1 s) : μ.2.1 (4 + s) i = S.2.2.2 s i := h.2.2.2.2.2.2.2.2.2.2 s hs i hi
end RXS
/-- a refusal: the number, and the state with one more of it -/
def ref (S : St) (k down : Nat) : Int32 × St := (-(nI k) - nI down, kU S 2 k (kk S 2 k + 1))
theorem dn_eq {a c : Nat} (ha : a < 1000000) (hc : c < 1000000) : dn a = dn c ↔ a = c := by
  constructor
  · intro q
    have := congrArg (fun x => x + 1) q
    simp only [dn] at this
    have e : ∀ z : Nat, nI z + -1 + 1 = nI z := fun z => by
      rw [Int32.add_assoc]
      have : (-1 : Int32) + 1 = 0 := by decide
      rw [this, Int32.add_zero]
    rw [e, e] at this
    exact (n2_eq (by omega) (by omega)).mp this
  · rintro rfl; rfl
theorem dn_m1 {a : Nat} (ha : a < 1000000) : dn a = -1 ↔ a = 0 := by
  rw [← dn_0]
  exact dn_eq ha (by decide)
theorem dn_ge {a c : Nat} (ha : a < 1000000) (hc : c < 1000000) : nI c ≤ dn a ↔ c + 1 ≤ a := by
  cases a with
  | zero =>
    rw [dn_0]
    constructor
    · intro q
      have h1 : (0 : Int32) ≤ nI c := (n2_le (a := 0) (by decide) (by omega)).mpr (Nat.zero_le _)
      have h2 : (0 : Int32) ≤ -1 := Int32.le_trans h1 q
      exact absurd h2 (by decide)
    · omega
  | succ a =>
    rw [dn_s, n2_le (by omega) (by omega)]
    omega
theorem dn_lt {a c : Nat} (ha : a < 1000000) (hc : c < 1000000) : dn a < nI c ↔ a ≤ c := by
  have := dn_ge ha hc
  constructor
  · intro q
    refine Nat.le_of_not_lt (fun z => absurd q (Int32.not_lt.mpr (this.mpr z)))
  · intro q
    exact Int32.not_le.mp (fun z => by have := this.mp z; omega)
