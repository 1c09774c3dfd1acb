/-! pairs and orders of the reference -/
def PRM (μ : Mm) (N : Nat) (U : Nat → Nat) : Prop := μ.1 0 31 = nI N ∧ N < 256 ∧ ∀ t, t < 8 → μ.1 20 t = nI (U t) ∧ U t < 256
def PRp (q k : Nat) : Prop := q = 20 ∨ q = 21 ∨ (q = 0 ∧ k = 31)
theorem rm_pr {μ μ' : Mm} {S : St} (h : RMX μ S) (hs : SmM PRp μ μ') : RMX μ' S := by
  obtain ⟨i, W, hT, h4, x1, x2, x3, x4, x5, x6, x7⟩ := h
  have e : ∀ q k, q ≠ 20 → q ≠ 21 → ¬ (q = 0 ∧ k = 31) → μ'.1 q k = μ.1 q k := fun q k a b c => hs.2 q k (fun z => by unfold PRp at z; omega)
  refine ⟨i, wm_same W hs, tm_same hT hs (fun q k a c => by unfold TPl at a; unfold PRp at c; omega), fun q => old_same (h4 q) hs (fun k z => by unfold PRp at z; omega), fun s hs8 => by rw [e 1 s (by decide) (by decide) (by omega), e 2 s (by decide) (by decide) (by omega)]; exact x1 s hs8, fun j hj => by rw [e 15 j (by decide) (by decide) (by omega)]; exact x2 j hj, by rw [e 0 24 (by decide) (by decide) (by omega)]; exact x3, by rw [e 0 20 (by decide) (by decide) (by omega)]; exact x4, by rw [e 0 22 (by decide) (by decide) (by omega)]; exact x5, fun j hj hr => by rw [e 16 j (by decide) (by decide) (by omega)]; exact x6 j hj hr, fun s hs8 j hj => by rw [hs.1]; exact x7 s hs8 j hj⟩
def zrM2 (μ : Mm) (o i : Nat) : Mm := zrM μ o i
theorem prm_0 {μ : Mm} : PRM (zrM (wI μ 0 31 (nI 0)) 20 8) 0 (fun _ => 0) := ⟨by simp [zrM, wI], by decide, fun t ht => ⟨by simp [zrM, ht], (by decide : (0 : Nat) < 256)⟩⟩
theorem prp_0 {μ : Mm} : SmM PRp μ (zrM (wI μ 0 31 (nI 0)) 20 8) := ⟨rfl, fun q k a => by
  unfold PRp at a
  have h1 : ¬ q = 20 := by omega
  have h2 : ¬ (q = 0 ∧ k = 31) := by omega
  simp [zrM, wI, h1, h2]⟩
theorem prm_add {μ : Mm} {N v : Nat} {U : Nat → Nat} (h : PRM μ N U) (h1 : v / 10 < 8) (h2 : v % 10 < 8) : PRM (wI (wI μ 0 31 (nI (N ||| (2 ^ (v / 10) ||| 2 ^ (v % 10))))) 20 (v / 10) (nI (U (v / 10) ||| 2 ^ (v % 10)))) (N ||| (2 ^ (v / 10) ||| 2 ^ (v % 10))) (fun t => if t = v / 10 then U t ||| 2 ^ (v % 10) else U t) := by
  refine ⟨by simp [wI], or_lt8 h.2.1 (or_lt8 (pow_lt8 h1) (pow_lt8 h2)), fun t ht => ?_⟩
  by_cases z : t = v / 10
  · subst z
    simp [wI, or_lt8 ((h.2.2 _ ht).2) (pow_lt8 h2)]
  · simpa [wI, z] using h.2.2 t ht
theorem prm_s {μ : Mm} {e : Nat → Nat} {k : Nat} (h : PRM μ (nmd e k ||| (2 ^ (e k / 10) ||| 2 ^ (e k % 10))) (fun t => if t = e k / 10 then ovr e k t ||| 2 ^ (e k % 10) else ovr e k t)) : PRM μ (nmd e (k + 1)) (ovr e (k + 1)) := h
theorem prm_u {μ : Mm} {N t : Nat} {U : Nat → Nat} (h : PRM μ N U) (ht : t < 8) : μ.1 20 t = nI (U t) := (h.2.2 t ht).1
theorem isP_iff {x : Int32} : isP x = true ↔ ¬ x < 0 ∧ ¬ nI 77 < x ∧ cl x % 10 ≤ 7 ∧ cl x / 10 ≠ cl x % 10 := by
  unfold isP
  rw [decide_eq_true_eq]
  constructor
  · intro h
    obtain ⟨j, hj, rfl⟩ := nI_of h.1
    rw [cl_n hj] at h ⊢
    refine ⟨h.1, ?_, by omega, h.2.2.2⟩
    rw [n2_lt (by decide) hj]; omega
  · intro h
    obtain ⟨j, hj, rfl⟩ := nI_of h.1
    rw [cl_n hj] at h ⊢
    have := h.2.1
    rw [n2_lt (by decide) hj] at this
    exact ⟨h.1, by omega, by omega, h.2.2.2⟩
theorem prT_neg : ∀ r, r < 8 → (-(nI r) < 0 ↔ r ≠ 0) := rt_neg
