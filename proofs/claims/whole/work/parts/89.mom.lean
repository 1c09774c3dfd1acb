/-! what the reference's trie reads is the word -/
def smG (E : Nat → Int32) (i p m d : Nat) : Nat := match fstUp (fun j => !decide (E (p + j) = nI (sch i j))) m d with
  | none => d + m
  | some j => j
theorem smL_G (E : Nat → Int32) (i p : Nat) : smL E i p = smG E i p (slen i) 0 := by
  unfold smL smG
  split <;> simp [*]
theorem smG_0 (E : Nat → Int32) (i p d : Nat) : smG E i p 0 d = d := by simp [smG, fstUp]
theorem smG_t {E : Nat → Int32} {i p d : Nat} (m : Nat) (h : E (p + d) = nI (sch i d)) : smG E i p (m + 1) d = smG E i p m (d + 1) := by
  unfold smG
  rw [fstUp, if_neg (by simp [h])]
  split <;> omega
theorem smG_f {E : Nat → Int32} {i p d : Nat} (m : Nat) (h : ¬ E (p + d) = nI (sch i d)) : smG E i p (m + 1) d = d := by
  unfold smG
  rw [fstUp, if_pos (by simp [h])]
theorem sm_skip {E : Nat → Int32} {i p : Nat} (m : Nat) : ∀ (a d : Nat), (∀ j, d ≤ j → j < d + a → E (p + j) = nI (sch i j)) → smG E i p (a + m) d = smG E i p m (d + a)
  | 0, d, _ => by rw [Nat.zero_add, Nat.add_zero]
  | a + 1, d, h => by
    rw [show a + 1 + m = (a + m) + 1 by omega, smG_t _ (h d (Nat.le_refl _) (by omega)), sm_skip m a (d + 1) (fun j h1 h2 => h j (by omega) (by omega)), show d + 1 + a = d + (a + 1) by omega]
theorem sm_tail {E : Nat → Int32} {i i2 p a : Nat} : ∀ (m d : Nat), (∀ j, d ≤ j → j < d + m → sch i (a + j) = sch i2 j) → smG E i p m (a + d) = a + smG E i2 (p + a) m d
  | 0, d, _ => by rw [smG_0, smG_0]
  | m + 1, d, h => by
    have e := h d (Nat.le_refl _) (by omega)
    by_cases q : E (p + a + d) = nI (sch i2 d)
    · rw [smG_t m q, smG_t m (by rw [← Nat.add_assoc, e]; exact q), Nat.add_assoc, sm_tail m (d + 1) (fun j h1 h2 => h j (by omega) (by omega))]
    · rw [smG_f m q, smG_f m (by rw [← Nat.add_assoc, e]; exact q)]
theorem sm_t {E : Nat → Int32} {p : Nat} (i i2 a : Nat) (hl : slen i = a + slen i2) (hc : ∀ j, j < slen i2 → sch i (a + j) = sch i2 j) (hh : ∀ j, j < a → E (p + j) = nI (sch i j)) : smL E i p = a + smL E i2 (p + a) := by
  rw [smL_G, smL_G, hl, sm_skip (slen i2) a 0 (fun j _ h2 => hh j (by omega)), Nat.zero_add]
  exact sm_tail (slen i2) 0 (fun j _ h2 => hc j (by omega))
theorem sm_x {E : Nat → Int32} {p : Nat} (i a : Nat) (ha : a < slen i) (hh : ∀ j, j < a → E (p + j) = nI (sch i j)) (hx : ¬ E (p + a) = nI (sch i a)) : smL E i p = a := by
  obtain ⟨m, hm⟩ : ∃ m, slen i = a + (m + 1) := ⟨slen i - a - 1, by omega⟩
  rw [smL_G, hm, sm_skip (m + 1) a 0 (fun j _ h2 => hh j (by omega)), Nat.zero_add]
  exact smG_f m hx
theorem sl_v : slen 0 = 5 ∧ slen 1 = 4 ∧ slen 2 = 5 ∧ slen 3 = 5 ∧ slen 4 = 4 ∧ slen 5 = 7 ∧ slen 6 = 6 ∧ slen 7 = 2 ∧ slen 8 = 2 ∧ slen 9 = 3 ∧ slen 10 = 2 ∧ slen 11 = 4 := by decide +kernel
theorem rw_s_ok {E : Nat → Int32} {p : Nat} (h0 : E p = nI 115) (hs : smL E 6 (p + 1) = slen 6) : rdW E p = .inr (5, p + 1 + smL E 6 (p + 1)) := by
  obtain ⟨s0, s1, s2, s3, s4, s5, s6, s7, s8, s9, s10, s11⟩ := sl_v
  have v0 : smL E 0 p = 0 := sm_x 0 0 (by decide +kernel) (fun j hj => absurd hj (Nat.not_lt_zero _)) (fun q => absurd (h0.symm.trans q) (by decide +kernel))
  have v1 : smL E 1 p = 0 := sm_x 1 0 (by decide +kernel) (fun j hj => absurd hj (Nat.not_lt_zero _)) (fun q => absurd (h0.symm.trans q) (by decide +kernel))
  have v2 : smL E 2 p = 0 := sm_x 2 0 (by decide +kernel) (fun j hj => absurd hj (Nat.not_lt_zero _)) (fun q => absurd (h0.symm.trans q) (by decide +kernel))
  have v3 : smL E 3 p = 0 := sm_x 3 0 (by decide +kernel) (fun j hj => absurd hj (Nat.not_lt_zero _)) (fun q => absurd (h0.symm.trans q) (by decide +kernel))
  have v4 : smL E 4 p = 0 := sm_x 4 0 (by decide +kernel) (fun j hj => absurd hj (Nat.not_lt_zero _)) (fun q => absurd (h0.symm.trans q) (by decide +kernel))
  have v5 : smL E 5 p = 1 + smL E 6 (p + 1) := sm_t 5 6 1 (by decide +kernel) (by decide +kernel) (fun j hj => by
    have z : j = 0 := by omega
    rcases z with rfl
    exact h0.trans (by decide +kernel))
  have f : fstUp (isW E p) 6 0 = some 5 := by simp [fstUp, isW, v0, v1, v2, v3, v4, v5, s0, s1, s2, s3, s4, s5, hs, s6]
  rw [rdW, f]
  show Sum.inr (5, p + slen 5) = _
  rw [hs, s5, s6]
theorem rw_s_no {E : Nat → Int32} {p : Nat} (h0 : E p = nI 115) (hs : ¬ smL E 6 (p + 1) = slen 6) : rdW E p = .inl (p + 1 + smL E 6 (p + 1)) := by
  obtain ⟨s0, s1, s2, s3, s4, s5, s6, s7, s8, s9, s10, s11⟩ := sl_v
  have v0 : smL E 0 p = 0 := sm_x 0 0 (by decide +kernel) (fun j hj => absurd hj (Nat.not_lt_zero _)) (fun q => absurd (h0.symm.trans q) (by decide +kernel))
  have v1 : smL E 1 p = 0 := sm_x 1 0 (by decide +kernel) (fun j hj => absurd hj (Nat.not_lt_zero _)) (fun q => absurd (h0.symm.trans q) (by decide +kernel))
  have v2 : smL E 2 p = 0 := sm_x 2 0 (by decide +kernel) (fun j hj => absurd hj (Nat.not_lt_zero _)) (fun q => absurd (h0.symm.trans q) (by decide +kernel))
  have v3 : smL E 3 p = 0 := sm_x 3 0 (by decide +kernel) (fun j hj => absurd hj (Nat.not_lt_zero _)) (fun q => absurd (h0.symm.trans q) (by decide +kernel))
  have v4 : smL E 4 p = 0 := sm_x 4 0 (by decide +kernel) (fun j hj => absurd hj (Nat.not_lt_zero _)) (fun q => absurd (h0.symm.trans q) (by decide +kernel))
  have v5 : smL E 5 p = 1 + smL E 6 (p + 1) := sm_t 5 6 1 (by decide +kernel) (by decide +kernel) (fun j hj => by
    have z : j = 0 := by omega
    rcases z with rfl
    exact h0.trans (by decide +kernel))
  have g : ¬ 1 + smL E 6 (p + 1) = slen 5 := by omega
  have f : fstUp (isW E p) 6 0 = none := by simp [fstUp, isW, v0, v1, v2, v3, v4, v5, s0, s1, s2, s3, s4, s5] <;> omega
  have u : furT E p 6 = 1 + smL E 6 (p + 1) := by
    simp only [furT, v0, v1, v2, v3, v4, v5]
    omega
  rw [rdW, f]
  show Sum.inl (p + furT E p 6) = _
  rw [u]
  exact congrArg _ (by omega)
theorem rw_cx {E : Nat → Int32} {p : Nat} (h0 : E p = nI 99) (n1o : ¬ E (p + 1) = nI 111) : rdW E p = .inl (p + 1) := by
  obtain ⟨s0, s1, s2, s3, s4, s5, s6, s7, s8, s9, s10, s11⟩ := sl_v
  have v0 : smL E 0 p = 0 := sm_x 0 0 (by decide +kernel) (fun j hj => absurd hj (Nat.not_lt_zero _)) (fun q => absurd (h0.symm.trans q) (by decide +kernel))
  have v1 : smL E 1 p = 1 := sm_x 1 1 (by decide +kernel) (fun j hj => by
    have z : j = 0 := by omega
    rcases z with rfl
    exact h0.trans (by decide +kernel)) (fun q => n1o (q.trans (by decide +kernel)))
  have v2 : smL E 2 p = 0 := sm_x 2 0 (by decide +kernel) (fun j hj => absurd hj (Nat.not_lt_zero _)) (fun q => absurd (h0.symm.trans q) (by decide +kernel))
  have v3 : smL E 3 p = 1 := sm_x 3 1 (by decide +kernel) (fun j hj => by
    have z : j = 0 := by omega
    rcases z with rfl
    exact h0.trans (by decide +kernel)) (fun q => n1o (q.trans (by decide +kernel)))
  have v4 : smL E 4 p = 0 := sm_x 4 0 (by decide +kernel) (fun j hj => absurd hj (Nat.not_lt_zero _)) (fun q => absurd (h0.symm.trans q) (by decide +kernel))
  have v5 : smL E 5 p = 0 := sm_x 5 0 (by decide +kernel) (fun j hj => absurd hj (Nat.not_lt_zero _)) (fun q => absurd (h0.symm.trans q) (by decide +kernel))
  have f : fstUp (isW E p) 6 0 = none := by simp [fstUp, isW, v0, v1, v2, v3, v4, v5, s0, s1, s2, s3, s4, s5]
  have u : furT E p 6 = 1 := by
    simp only [furT, v0, v1, v2, v3, v4, v5]
    omega
  rw [rdW, f]
  show Sum.inl (p + furT E p 6) = _
  rw [u]
theorem rw_cos_ok {E : Nat → Int32} {p : Nat} (h0 : E p = nI 99) (h1 : E (p + 1) = nI 111) (h2 : E (p + 1 + 1) = nI 115) (hs : smL E 7 (p + 1 + 1 + 1) = slen 7) : rdW E p = .inr (3, p + 1 + 1 + 1 + smL E 7 (p + 1 + 1 + 1)) := by
  obtain ⟨s0, s1, s2, s3, s4, s5, s6, s7, s8, s9, s10, s11⟩ := sl_v
  have v0 : smL E 0 p = 0 := sm_x 0 0 (by decide +kernel) (fun j hj => absurd hj (Nat.not_lt_zero _)) (fun q => absurd (h0.symm.trans q) (by decide +kernel))
  have v1 : smL E 1 p = 2 := sm_x 1 2 (by decide +kernel) (fun j hj => by
    have z : j = 0 ∨ j = 1 := by omega
    rcases z with rfl | rfl
    · exact h0.trans (by decide +kernel)
    · exact h1.trans (by decide +kernel)) (fun q => absurd (h2.symm.trans q) (by decide +kernel))
  have v2 : smL E 2 p = 0 := sm_x 2 0 (by decide +kernel) (fun j hj => absurd hj (Nat.not_lt_zero _)) (fun q => absurd (h0.symm.trans q) (by decide +kernel))
  have v3 : smL E 3 p = 3 + smL E 7 (p + 1 + 1 + 1) := sm_t 3 7 3 (by decide +kernel) (by decide +kernel) (fun j hj => by
    have z : j = 0 ∨ j = 1 ∨ j = 2 := by omega
    rcases z with rfl | rfl | rfl
    · exact h0.trans (by decide +kernel)
    · exact h1.trans (by decide +kernel)
    · exact h2.trans (by decide +kernel))
  have v4 : smL E 4 p = 0 := sm_x 4 0 (by decide +kernel) (fun j hj => absurd hj (Nat.not_lt_zero _)) (fun q => absurd (h0.symm.trans q) (by decide +kernel))
  have v5 : smL E 5 p = 0 := sm_x 5 0 (by decide +kernel) (fun j hj => absurd hj (Nat.not_lt_zero _)) (fun q => absurd (h0.symm.trans q) (by decide +kernel))
  have f : fstUp (isW E p) 6 0 = some 3 := by simp [fstUp, isW, v0, v1, v2, v3, v4, v5, s0, s1, s2, s3, s4, s5, hs, s7]
  rw [rdW, f]
  show Sum.inr (3, p + slen 3) = _
  rw [hs, s3, s7]
theorem rw_cos_no {E : Nat → Int32} {p : Nat} (h0 : E p = nI 99) (h1 : E (p + 1) = nI 111) (h2 : E (p + 1 + 1) = nI 115) (hs : ¬ smL E 7 (p + 1 + 1 + 1) = slen 7) : rdW E p = .inl (p + 1 + 1 + 1 + smL E 7 (p + 1 + 1 + 1)) := by
  obtain ⟨s0, s1, s2, s3, s4, s5, s6, s7, s8, s9, s10, s11⟩ := sl_v
  have v0 : smL E 0 p = 0 := sm_x 0 0 (by decide +kernel) (fun j hj => absurd hj (Nat.not_lt_zero _)) (fun q => absurd (h0.symm.trans q) (by decide +kernel))
  have v1 : smL E 1 p = 2 := sm_x 1 2 (by decide +kernel) (fun j hj => by
    have z : j = 0 ∨ j = 1 := by omega
    rcases z with rfl | rfl
    · exact h0.trans (by decide +kernel)
    · exact h1.trans (by decide +kernel)) (fun q => absurd (h2.symm.trans q) (by decide +kernel))
  have v2 : smL E 2 p = 0 := sm_x 2 0 (by decide +kernel) (fun j hj => absurd hj (Nat.not_lt_zero _)) (fun q => absurd (h0.symm.trans q) (by decide +kernel))
  have v3 : smL E 3 p = 3 + smL E 7 (p + 1 + 1 + 1) := sm_t 3 7 3 (by decide +kernel) (by decide +kernel) (fun j hj => by
    have z : j = 0 ∨ j = 1 ∨ j = 2 := by omega
    rcases z with rfl | rfl | rfl
    · exact h0.trans (by decide +kernel)
    · exact h1.trans (by decide +kernel)
    · exact h2.trans (by decide +kernel))
  have v4 : smL E 4 p = 0 := sm_x 4 0 (by decide +kernel) (fun j hj => absurd hj (Nat.not_lt_zero _)) (fun q => absurd (h0.symm.trans q) (by decide +kernel))
  have v5 : smL E 5 p = 0 := sm_x 5 0 (by decide +kernel) (fun j hj => absurd hj (Nat.not_lt_zero _)) (fun q => absurd (h0.symm.trans q) (by decide +kernel))
  have g : ¬ 3 + smL E 7 (p + 1 + 1 + 1) = slen 3 := by omega
  have f : fstUp (isW E p) 6 0 = none := by simp [fstUp, isW, v0, v1, v2, v3, v4, v5, s0, s1, s2, s3, s4, s5] <;> omega
  have u : furT E p 6 = 3 + smL E 7 (p + 1 + 1 + 1) := by
    simp only [furT, v0, v1, v2, v3, v4, v5]
    omega
  rw [rdW, f]
  show Sum.inl (p + furT E p 6) = _
  rw [u]
  exact congrArg _ (by omega)
theorem rw_coa_ok {E : Nat → Int32} {p : Nat} (h0 : E p = nI 99) (h1 : E (p + 1) = nI 111) (n2s : ¬ E (p + 1 + 1) = nI 115) (hs : smL E 8 (p + 1 + 1) = slen 8) : rdW E p = .inr (1, p + 1 + 1 + smL E 8 (p + 1 + 1)) := by
  obtain ⟨s0, s1, s2, s3, s4, s5, s6, s7, s8, s9, s10, s11⟩ := sl_v
  have v0 : smL E 0 p = 0 := sm_x 0 0 (by decide +kernel) (fun j hj => absurd hj (Nat.not_lt_zero _)) (fun q => absurd (h0.symm.trans q) (by decide +kernel))
  have v1 : smL E 1 p = 2 + smL E 8 (p + 1 + 1) := sm_t 1 8 2 (by decide +kernel) (by decide +kernel) (fun j hj => by
    have z : j = 0 ∨ j = 1 := by omega
    rcases z with rfl | rfl
    · exact h0.trans (by decide +kernel)
    · exact h1.trans (by decide +kernel))
  have v2 : smL E 2 p = 0 := sm_x 2 0 (by decide +kernel) (fun j hj => absurd hj (Nat.not_lt_zero _)) (fun q => absurd (h0.symm.trans q) (by decide +kernel))
  have v3 : smL E 3 p = 2 := sm_x 3 2 (by decide +kernel) (fun j hj => by
    have z : j = 0 ∨ j = 1 := by omega
    rcases z with rfl | rfl
    · exact h0.trans (by decide +kernel)
    · exact h1.trans (by decide +kernel)) (fun q => n2s (q.trans (by decide +kernel)))
  have v4 : smL E 4 p = 0 := sm_x 4 0 (by decide +kernel) (fun j hj => absurd hj (Nat.not_lt_zero _)) (fun q => absurd (h0.symm.trans q) (by decide +kernel))
  have v5 : smL E 5 p = 0 := sm_x 5 0 (by decide +kernel) (fun j hj => absurd hj (Nat.not_lt_zero _)) (fun q => absurd (h0.symm.trans q) (by decide +kernel))
  have f : fstUp (isW E p) 6 0 = some 1 := by simp [fstUp, isW, v0, v1, v2, v3, v4, v5, s0, s1, s2, s3, s4, s5, hs, s8]
  rw [rdW, f]
  show Sum.inr (1, p + slen 1) = _
  rw [hs, s1, s8]
theorem rw_coa_no {E : Nat → Int32} {p : Nat} (h0 : E p = nI 99) (h1 : E (p + 1) = nI 111) (n2s : ¬ E (p + 1 + 1) = nI 115) (hs : ¬ smL E 8 (p + 1 + 1) = slen 8) : rdW E p = .inl (p + 1 + 1 + smL E 8 (p + 1 + 1)) := by
  obtain ⟨s0, s1, s2, s3, s4, s5, s6, s7, s8, s9, s10, s11⟩ := sl_v
  have v0 : smL E 0 p = 0 := sm_x 0 0 (by decide +kernel) (fun j hj => absurd hj (Nat.not_lt_zero _)) (fun q => absurd (h0.symm.trans q) (by decide +kernel))
  have v1 : smL E 1 p = 2 + smL E 8 (p + 1 + 1) := sm_t 1 8 2 (by decide +kernel) (by decide +kernel) (fun j hj => by
    have z : j = 0 ∨ j = 1 := by omega
    rcases z with rfl | rfl
    · exact h0.trans (by decide +kernel)
    · exact h1.trans (by decide +kernel))
  have v2 : smL E 2 p = 0 := sm_x 2 0 (by decide +kernel) (fun j hj => absurd hj (Nat.not_lt_zero _)) (fun q => absurd (h0.symm.trans q) (by decide +kernel))
  have v3 : smL E 3 p = 2 := sm_x 3 2 (by decide +kernel) (fun j hj => by
    have z : j = 0 ∨ j = 1 := by omega
    rcases z with rfl | rfl
    · exact h0.trans (by decide +kernel)
    · exact h1.trans (by decide +kernel)) (fun q => n2s (q.trans (by decide +kernel)))
  have v4 : smL E 4 p = 0 := sm_x 4 0 (by decide +kernel) (fun j hj => absurd hj (Nat.not_lt_zero _)) (fun q => absurd (h0.symm.trans q) (by decide +kernel))
  have v5 : smL E 5 p = 0 := sm_x 5 0 (by decide +kernel) (fun j hj => absurd hj (Nat.not_lt_zero _)) (fun q => absurd (h0.symm.trans q) (by decide +kernel))
  have g : ¬ 2 + smL E 8 (p + 1 + 1) = slen 1 := by omega
  have f : fstUp (isW E p) 6 0 = none := by simp [fstUp, isW, v0, v1, v2, v3, v4, v5, s0, s1, s2, s3, s4, s5] <;> omega
  have u : furT E p 6 = 2 + smL E 8 (p + 1 + 1) := by
    simp only [furT, v0, v1, v2, v3, v4, v5]
    omega
  rw [rdW, f]
  show Sum.inl (p + furT E p 6) = _
  rw [u]
  exact congrArg _ (by omega)
theorem rw_hi_ok {E : Nat → Int32} {p : Nat} (h0 : E p = nI 104) (h1 : E (p + 1) = nI 105) (hs : smL E 9 (p + 1 + 1) = slen 9) : rdW E p = .inr (2, p + 1 + 1 + smL E 9 (p + 1 + 1)) := by
  obtain ⟨s0, s1, s2, s3, s4, s5, s6, s7, s8, s9, s10, s11⟩ := sl_v
  have v0 : smL E 0 p = 1 := sm_x 0 1 (by decide +kernel) (fun j hj => by
    have z : j = 0 := by omega
    rcases z with rfl
    exact h0.trans (by decide +kernel)) (fun q => absurd (h1.symm.trans q) (by decide +kernel))
  have v1 : smL E 1 p = 0 := sm_x 1 0 (by decide +kernel) (fun j hj => absurd hj (Nat.not_lt_zero _)) (fun q => absurd (h0.symm.trans q) (by decide +kernel))
  have v2 : smL E 2 p = 2 + smL E 9 (p + 1 + 1) := sm_t 2 9 2 (by decide +kernel) (by decide +kernel) (fun j hj => by
    have z : j = 0 ∨ j = 1 := by omega
    rcases z with rfl | rfl
    · exact h0.trans (by decide +kernel)
    · exact h1.trans (by decide +kernel))
  have v3 : smL E 3 p = 0 := sm_x 3 0 (by decide +kernel) (fun j hj => absurd hj (Nat.not_lt_zero _)) (fun q => absurd (h0.symm.trans q) (by decide +kernel))
  have v4 : smL E 4 p = 1 := sm_x 4 1 (by decide +kernel) (fun j hj => by
    have z : j = 0 := by omega
    rcases z with rfl
    exact h0.trans (by decide +kernel)) (fun q => absurd (h1.symm.trans q) (by decide +kernel))
  have v5 : smL E 5 p = 0 := sm_x 5 0 (by decide +kernel) (fun j hj => absurd hj (Nat.not_lt_zero _)) (fun q => absurd (h0.symm.trans q) (by decide +kernel))
  have f : fstUp (isW E p) 6 0 = some 2 := by simp [fstUp, isW, v0, v1, v2, v3, v4, v5, s0, s1, s2, s3, s4, s5, hs, s9]
  rw [rdW, f]
  show Sum.inr (2, p + slen 2) = _
  rw [hs, s2, s9]
theorem rw_hi_no {E : Nat → Int32} {p : Nat} (h0 : E p = nI 104) (h1 : E (p + 1) = nI 105) (hs : ¬ smL E 9 (p + 1 + 1) = slen 9) : rdW E p = .inl (p + 1 + 1 + smL E 9 (p + 1 + 1)) := by
  obtain ⟨s0, s1, s2, s3, s4, s5, s6, s7, s8, s9, s10, s11⟩ := sl_v
  have v0 : smL E 0 p = 1 := sm_x 0 1 (by decide +kernel) (fun j hj => by
    have z : j = 0 := by omega
    rcases z with rfl
    exact h0.trans (by decide +kernel)) (fun q => absurd (h1.symm.trans q) (by decide +kernel))
  have v1 : smL E 1 p = 0 := sm_x 1 0 (by decide +kernel) (fun j hj => absurd hj (Nat.not_lt_zero _)) (fun q => absurd (h0.symm.trans q) (by decide +kernel))
  have v2 : smL E 2 p = 2 + smL E 9 (p + 1 + 1) := sm_t 2 9 2 (by decide +kernel) (by decide +kernel) (fun j hj => by
    have z : j = 0 ∨ j = 1 := by omega
    rcases z with rfl | rfl
    · exact h0.trans (by decide +kernel)
    · exact h1.trans (by decide +kernel))
  have v3 : smL E 3 p = 0 := sm_x 3 0 (by decide +kernel) (fun j hj => absurd hj (Nat.not_lt_zero _)) (fun q => absurd (h0.symm.trans q) (by decide +kernel))
  have v4 : smL E 4 p = 1 := sm_x 4 1 (by decide +kernel) (fun j hj => by
    have z : j = 0 := by omega
    rcases z with rfl
    exact h0.trans (by decide +kernel)) (fun q => absurd (h1.symm.trans q) (by decide +kernel))
  have v5 : smL E 5 p = 0 := sm_x 5 0 (by decide +kernel) (fun j hj => absurd hj (Nat.not_lt_zero _)) (fun q => absurd (h0.symm.trans q) (by decide +kernel))
  have g : ¬ 2 + smL E 9 (p + 1 + 1) = slen 2 := by omega
  have f : fstUp (isW E p) 6 0 = none := by simp [fstUp, isW, v0, v1, v2, v3, v4, v5, s0, s1, s2, s3, s4, s5] <;> omega
  have u : furT E p 6 = 2 + smL E 9 (p + 1 + 1) := by
    simp only [furT, v0, v1, v2, v3, v4, v5]
    omega
  rw [rdW, f]
  show Sum.inl (p + furT E p 6) = _
  rw [u]
  exact congrArg _ (by omega)
theorem rw_ha_ok {E : Nat → Int32} {p : Nat} (h0 : E p = nI 104) (h1 : E (p + 1) = nI 97) (hs : smL E 10 (p + 1 + 1) = slen 10) : rdW E p = .inr (4, p + 1 + 1 + smL E 10 (p + 1 + 1)) := by
  obtain ⟨s0, s1, s2, s3, s4, s5, s6, s7, s8, s9, s10, s11⟩ := sl_v
  have v0 : smL E 0 p = 1 := sm_x 0 1 (by decide +kernel) (fun j hj => by
    have z : j = 0 := by omega
    rcases z with rfl
    exact h0.trans (by decide +kernel)) (fun q => absurd (h1.symm.trans q) (by decide +kernel))
  have v1 : smL E 1 p = 0 := sm_x 1 0 (by decide +kernel) (fun j hj => absurd hj (Nat.not_lt_zero _)) (fun q => absurd (h0.symm.trans q) (by decide +kernel))
  have v2 : smL E 2 p = 1 := sm_x 2 1 (by decide +kernel) (fun j hj => by
    have z : j = 0 := by omega
    rcases z with rfl
    exact h0.trans (by decide +kernel)) (fun q => absurd (h1.symm.trans q) (by decide +kernel))
  have v3 : smL E 3 p = 0 := sm_x 3 0 (by decide +kernel) (fun j hj => absurd hj (Nat.not_lt_zero _)) (fun q => absurd (h0.symm.trans q) (by decide +kernel))
  have v4 : smL E 4 p = 2 + smL E 10 (p + 1 + 1) := sm_t 4 10 2 (by decide +kernel) (by decide +kernel) (fun j hj => by
    have z : j = 0 ∨ j = 1 := by omega
    rcases z with rfl | rfl
    · exact h0.trans (by decide +kernel)
    · exact h1.trans (by decide +kernel))
  have v5 : smL E 5 p = 0 := sm_x 5 0 (by decide +kernel) (fun j hj => absurd hj (Nat.not_lt_zero _)) (fun q => absurd (h0.symm.trans q) (by decide +kernel))
  have f : fstUp (isW E p) 6 0 = some 4 := by simp [fstUp, isW, v0, v1, v2, v3, v4, v5, s0, s1, s2, s3, s4, s5, hs, s10]
  rw [rdW, f]
  show Sum.inr (4, p + slen 4) = _
  rw [hs, s4, s10]
theorem rw_ha_no {E : Nat → Int32} {p : Nat} (h0 : E p = nI 104) (h1 : E (p + 1) = nI 97) (hs : ¬ smL E 10 (p + 1 + 1) = slen 10) : rdW E p = .inl (p + 1 + 1 + smL E 10 (p + 1 + 1)) := by
  obtain ⟨s0, s1, s2, s3, s4, s5, s6, s7, s8, s9, s10, s11⟩ := sl_v
  have v0 : smL E 0 p = 1 := sm_x 0 1 (by decide +kernel) (fun j hj => by
    have z : j = 0 := by omega
    rcases z with rfl
    exact h0.trans (by decide +kernel)) (fun q => absurd (h1.symm.trans q) (by decide +kernel))
  have v1 : smL E 1 p = 0 := sm_x 1 0 (by decide +kernel) (fun j hj => absurd hj (Nat.not_lt_zero _)) (fun q => absurd (h0.symm.trans q) (by decide +kernel))
  have v2 : smL E 2 p = 1 := sm_x 2 1 (by decide +kernel) (fun j hj => by
    have z : j = 0 := by omega
    rcases z with rfl
    exact h0.trans (by decide +kernel)) (fun q => absurd (h1.symm.trans q) (by decide +kernel))
  have v3 : smL E 3 p = 0 := sm_x 3 0 (by decide +kernel) (fun j hj => absurd hj (Nat.not_lt_zero _)) (fun q => absurd (h0.symm.trans q) (by decide +kernel))
  have v4 : smL E 4 p = 2 + smL E 10 (p + 1 + 1) := sm_t 4 10 2 (by decide +kernel) (by decide +kernel) (fun j hj => by
    have z : j = 0 ∨ j = 1 := by omega
    rcases z with rfl | rfl
    · exact h0.trans (by decide +kernel)
    · exact h1.trans (by decide +kernel))
  have v5 : smL E 5 p = 0 := sm_x 5 0 (by decide +kernel) (fun j hj => absurd hj (Nat.not_lt_zero _)) (fun q => absurd (h0.symm.trans q) (by decide +kernel))
  have g : ¬ 2 + smL E 10 (p + 1 + 1) = slen 4 := by omega
  have f : fstUp (isW E p) 6 0 = none := by simp [fstUp, isW, v0, v1, v2, v3, v4, v5, s0, s1, s2, s3, s4, s5] <;> omega
  have u : furT E p 6 = 2 + smL E 10 (p + 1 + 1) := by
    simp only [furT, v0, v1, v2, v3, v4, v5]
    omega
  rw [rdW, f]
  show Sum.inl (p + furT E p 6) = _
  rw [u]
  exact congrArg _ (by omega)
theorem rw_ho_ok {E : Nat → Int32} {p : Nat} (h0 : E p = nI 104) (n1i : ¬ E (p + 1) = nI 105) (n1a : ¬ E (p + 1) = nI 97) (hs : smL E 11 (p + 1) = slen 11) : rdW E p = .inr (0, p + 1 + smL E 11 (p + 1)) := by
  obtain ⟨s0, s1, s2, s3, s4, s5, s6, s7, s8, s9, s10, s11⟩ := sl_v
  have v0 : smL E 0 p = 1 + smL E 11 (p + 1) := sm_t 0 11 1 (by decide +kernel) (by decide +kernel) (fun j hj => by
    have z : j = 0 := by omega
    rcases z with rfl
    exact h0.trans (by decide +kernel))
  have v1 : smL E 1 p = 0 := sm_x 1 0 (by decide +kernel) (fun j hj => absurd hj (Nat.not_lt_zero _)) (fun q => absurd (h0.symm.trans q) (by decide +kernel))
  have v2 : smL E 2 p = 1 := sm_x 2 1 (by decide +kernel) (fun j hj => by
    have z : j = 0 := by omega
    rcases z with rfl
    exact h0.trans (by decide +kernel)) (fun q => n1i (q.trans (by decide +kernel)))
  have v3 : smL E 3 p = 0 := sm_x 3 0 (by decide +kernel) (fun j hj => absurd hj (Nat.not_lt_zero _)) (fun q => absurd (h0.symm.trans q) (by decide +kernel))
  have v4 : smL E 4 p = 1 := sm_x 4 1 (by decide +kernel) (fun j hj => by
    have z : j = 0 := by omega
    rcases z with rfl
    exact h0.trans (by decide +kernel)) (fun q => n1a (q.trans (by decide +kernel)))
  have v5 : smL E 5 p = 0 := sm_x 5 0 (by decide +kernel) (fun j hj => absurd hj (Nat.not_lt_zero _)) (fun q => absurd (h0.symm.trans q) (by decide +kernel))
  have f : fstUp (isW E p) 6 0 = some 0 := by simp [fstUp, isW, v0, v1, v2, v3, v4, v5, s0, s1, s2, s3, s4, s5, hs, s11]
  rw [rdW, f]
  show Sum.inr (0, p + slen 0) = _
  rw [hs, s0, s11]
theorem rw_ho_no {E : Nat → Int32} {p : Nat} (h0 : E p = nI 104) (n1i : ¬ E (p + 1) = nI 105) (n1a : ¬ E (p + 1) = nI 97) (hs : ¬ smL E 11 (p + 1) = slen 11) : rdW E p = .inl (p + 1 + smL E 11 (p + 1)) := by
  obtain ⟨s0, s1, s2, s3, s4, s5, s6, s7, s8, s9, s10, s11⟩ := sl_v
  have v0 : smL E 0 p = 1 + smL E 11 (p + 1) := sm_t 0 11 1 (by decide +kernel) (by decide +kernel) (fun j hj => by
    have z : j = 0 := by omega
    rcases z with rfl
    exact h0.trans (by decide +kernel))
  have v1 : smL E 1 p = 0 := sm_x 1 0 (by decide +kernel) (fun j hj => absurd hj (Nat.not_lt_zero _)) (fun q => absurd (h0.symm.trans q) (by decide +kernel))
  have v2 : smL E 2 p = 1 := sm_x 2 1 (by decide +kernel) (fun j hj => by
    have z : j = 0 := by omega
    rcases z with rfl
    exact h0.trans (by decide +kernel)) (fun q => n1i (q.trans (by decide +kernel)))
  have v3 : smL E 3 p = 0 := sm_x 3 0 (by decide +kernel) (fun j hj => absurd hj (Nat.not_lt_zero _)) (fun q => absurd (h0.symm.trans q) (by decide +kernel))
  have v4 : smL E 4 p = 1 := sm_x 4 1 (by decide +kernel) (fun j hj => by
    have z : j = 0 := by omega
    rcases z with rfl
    exact h0.trans (by decide +kernel)) (fun q => n1a (q.trans (by decide +kernel)))
  have v5 : smL E 5 p = 0 := sm_x 5 0 (by decide +kernel) (fun j hj => absurd hj (Nat.not_lt_zero _)) (fun q => absurd (h0.symm.trans q) (by decide +kernel))
  have g : ¬ 1 + smL E 11 (p + 1) = slen 0 := by omega
  have f : fstUp (isW E p) 6 0 = none := by simp [fstUp, isW, v0, v1, v2, v3, v4, v5, s0, s1, s2, s3, s4, s5] <;> omega
  have u : furT E p 6 = 1 + smL E 11 (p + 1) := by
    simp only [furT, v0, v1, v2, v3, v4, v5]
    omega
  rw [rdW, f]
  show Sum.inl (p + furT E p 6) = _
  rw [u]
  exact congrArg _ (by omega)
theorem rw_none {E : Nat → Int32} {p : Nat} (n0s : ¬ E p = nI 115) (n0c : ¬ E p = nI 99) (n0h : ¬ E p = nI 104) : rdW E p = .inl (p) := by
  obtain ⟨s0, s1, s2, s3, s4, s5, s6, s7, s8, s9, s10, s11⟩ := sl_v
  have v0 : smL E 0 p = 0 := sm_x 0 0 (by decide +kernel) (fun j hj => absurd hj (Nat.not_lt_zero _)) (fun q => n0h (q.trans (by decide +kernel)))
  have v1 : smL E 1 p = 0 := sm_x 1 0 (by decide +kernel) (fun j hj => absurd hj (Nat.not_lt_zero _)) (fun q => n0c (q.trans (by decide +kernel)))
  have v2 : smL E 2 p = 0 := sm_x 2 0 (by decide +kernel) (fun j hj => absurd hj (Nat.not_lt_zero _)) (fun q => n0h (q.trans (by decide +kernel)))
  have v3 : smL E 3 p = 0 := sm_x 3 0 (by decide +kernel) (fun j hj => absurd hj (Nat.not_lt_zero _)) (fun q => n0c (q.trans (by decide +kernel)))
  have v4 : smL E 4 p = 0 := sm_x 4 0 (by decide +kernel) (fun j hj => absurd hj (Nat.not_lt_zero _)) (fun q => n0h (q.trans (by decide +kernel)))
  have v5 : smL E 5 p = 0 := sm_x 5 0 (by decide +kernel) (fun j hj => absurd hj (Nat.not_lt_zero _)) (fun q => n0s (q.trans (by decide +kernel)))
  have f : fstUp (isW E p) 6 0 = none := by simp [fstUp, isW, v0, v1, v2, v3, v4, v5, s0, s1, s2, s3, s4, s5]
  have u : furT E p 6 = 0 := by
    simp only [furT, v0, v1, v2, v3, v4, v5]
    omega
  rw [rdW, f]
  show Sum.inl (p + furT E p 6) = _
  rw [u, Nat.add_zero]
theorem rdN_back {E : Nat → Int32} {lo hx q v q2 : Nat} (h : rdN E lo hx q = .inr (v, q2)) : (E (q2 - 2) = nI 32 → q2 - 1 = q + 1) ∧ (¬ E (q2 - 2) = nI 32 → q2 - 2 = q + 1) := by
  unfold rdN at h
  split at h
  · rename_i h0
    split at h
    · rename_i h1
      split at h
      · rename_i h2
        split at h
        · cases h
          obtain ⟨x, x1, x2, ex⟩ := dgt_of h1
          refine ⟨fun z => ?_, fun _ => by omega⟩
          rw [show q + 1 + 1 + 1 - 2 = q + 1 by omega, ex] at z
          exact absurd ((n2_eq (by omega) (by decide)).mp z) (by omega)
        · cases h
      · split at h
        · cases h
          refine ⟨fun _ => by omega, fun z => ?_⟩
          rw [show q + 1 + 1 - 2 = q by omega] at z
          exact absurd h0 z
        · cases h
    · cases h
  · cases h
/-- what an item's reading leaves -/
def ITp (q k : Nat) : Prop := TPl q k ∨ (q = 0 ∧ k = 28) ∨ q = 19
def PIM (μ : Mm) (s n p : Nat) (L : Nat → Int64) (o : Nat ⊕ (Tt × Nat)) (r : Int32) (μ' : Mm) : Prop :=
  SmM ITp μ μ' ∧ (∀ k, o = .inl k → r = nI 0 ∧ μ'.1 0 28 = nI k ∧ k < 1000) ∧ ∀ τ' q, o = .inr (τ', q) → r = nI 1 ∧ RDM μ' s n q L ∧ TMX μ' τ' ∧ p < q
section PIM
variable {μ μ' : Mm} {s n p q k : Nat} {L : Nat → Int64} {o : Nat ⊕ (Tt × Nat)} {τ τ' : Tt} {r : Int32}
theorem pim_l (e : o = .inl k) (hs : SmM ITp μ μ') (hr : r = nI 0) (hf : μ'.1 0 28 = nI k) (hk : k < 1000) : PIM μ s n p L o r μ' :=
  ⟨hs, fun k2 h2 => by rw [e] at h2; cases h2; exact ⟨hr, hf, hk⟩, fun τ2 q2 h2 => by rw [e] at h2; cases h2⟩
theorem pim_r (e : o = .inr (τ', q)) (hs : SmM ITp μ μ') (hr : r = nI 1) (hD : RDM μ' s n q L) (hT : TMX μ' τ') (hp : p < q) : PIM μ s n p L o r μ' :=
  ⟨hs, fun k2 h2 => (by rw [e] at h2; cases h2), fun τ2 q2 h2 => by rw [e] at h2; cases h2; exact ⟨hr, hD, hT, hp⟩⟩
end PIM
theorem at_it : ∀ q k, ATp q k → ITp q k := fun _ _ z => Or.inr (Or.inl z)
theorem nu_it {i : Nat} : ∀ q k, NUp i q k → ITp q k := fun q k z => by unfold NUp at z; unfold ITp; omega
theorem tp_it : ∀ q k, TPl q k → ITp q k := fun _ _ z => Or.inl z
theorem tm_at {μ μ' : Mm} {τ : Tt} (h : TMX μ τ) (hs : SmM ATp μ μ') : TMX μ' τ := tm_same h hs (fun q k a c => by unfold TPl at a; unfold ATp at c; omega)
theorem tm_nu {μ μ' : Mm} {τ : Tt} {i : Nat} (h : TMX μ τ) (hs : SmM (NUp i) μ μ') : TMX μ' τ := tm_same h hs (fun q k a c => by unfold TPl at a; unfold NUp at c; omega)
theorem rdm_tp {μ μ' : Mm} {s n p : Nat} {L : Nat → Int64} (h : RDM μ s n p L) (hs : SmM TPl μ μ') : RDM μ' s n p L := rdm_far h hs (by unfold TPl; omega) (by unfold TPl; omega) (fun k => by unfold TPl; omega)
