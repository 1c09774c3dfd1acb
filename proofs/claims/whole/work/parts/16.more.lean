section MORE
variable {κ : Kt} {δ : Dl} {b n nL : Nat} {sh : Sh} {tp : Prop} {Qc : Array Value → State → Outcome → State → Prop} {mc ms d : Nat} {own nm : String} {cc : ByteArray} {ret : Option FieldType} {N cells slots pc : Nat} {ls ls' : List (Option Value)} {st : List Value} {μ : Mm}
theorem AW.cg {K : Wt} (h : ls = ls') (k : AW κ K N cells slots pc ls' st μ) : AW κ K N cells slots pc ls st μ := h ▸ k
theorem AW.weak (hw : ∀ (i : Nat) (v : Value), ls'[i]? = some (some v) → ls[i]? = some (some v)) (k : AW κ (δ, b, n, nL, sh, tp, Qc, mc, ms) N cells slots pc ls' st μ) : AW κ (δ, b, n, nL, sh, tp, Qc, mc, ms) N cells slots pc ls st μ := by
  obtain ⟨p, l, e, R, s, m, args, below, meth, c⟩ := κ
  intro H locs lsr hP hT hS h
  exact k H locs lsr hP hT hS (lh_weak h hw)
/-- each place that ls' tells holds the same in ls -/
def wk : List (Option Value) → List (Option Value) → Prop
  | [], _ => True
  | none :: t, [] => wk t []
  | none :: t, _ :: u => wk t u
  | some _ :: _, [] => False
  | some v :: t, w :: u => w = some v ∧ wk t u
theorem wk_nil : ∀ (l : List (Option Value)), wk l [] → ∀ (i : Nat) (v : Value), ¬ l[i]? = some (some v)
  | [], _, i, v, h => by simp at h
  | none :: t, h, i, v, q => by
    cases i with
    | zero => simp at q
    | succ i => exact wk_nil t h i v (by simpa using q)
  | some _ :: _, h, _, _, _ => h
theorem wk_at : ∀ (l u : List (Option Value)), wk l u → ∀ (i : Nat) (v : Value), l[i]? = some (some v) → u[i]? = some (some v)
  | [], u, _, i, v, h => by simp at h
  | none :: t, [], h, i, v, q => absurd q (wk_nil (none :: t) h i v)
  | none :: t, w :: u, h, i, v, q => by
    cases i with
    | zero => simp at q
    | succ i => simpa using wk_at t u h i v (by simpa using q)
  | some _ :: _, [], h, _, _, _ => h.elim
  | some x :: t, w :: u, h, i, v, q => by
    cases i with
    | zero => simpa [h.1] using q
    | succ i => simpa using wk_at t u h.2 i v (by simpa using q)
theorem AW.cgw (k : AW κ (δ, b, n, nL, sh, tp, Qc, mc, ms) N cells slots pc ls' st μ) (h : wk ls' ls) : AW κ (δ, b, n, nL, sh, tp, Qc, mc, ms) N cells slots pc ls st μ := AW.weak (wk_at ls' ls h) k
def LMax (own : String) (idx : Nat) : Prop := Cond.methodLink own idx Lib.Math.max.name ∈ TT ∧ Cond.static Lib.Math.max.name ∈ TT ∧ Cond.initialized "java/lang/Math" ∈ TT ∧ Cond.code Lib.Math.max.name Lib.Math.max.code 2 (some .int) ∈ TT
theorem AW.maxN (X : CX κ (δ, b, n, nL, sh, tp, Qc, mc, ms) own nm cc ret d) {idx a c : Nat} (hd : decode cc pc = .ok (.invokestatic idx, 3)) (ha : a < 2147483648) (hc : c < 2147483648) (L : LMax own idx) (hr : Nat.ble (st.map fun v => v.category).sum 8 = true ∧ Nat.ble 1 d = true ∧ Nat.ble cells mc = true ∧ Nat.ble slots ms = true) (k : AW κ (δ, b, n, nL, sh, tp, Qc, mc, ms) N cells slots (pc + 3) ls (.int (nI (max a c)) :: st) μ) : AW κ (δ, b, n, nL, sh, tp, Qc, mc, ms) N cells slots pc ls (.int (nI c) :: .int (nI a) :: st) μ := by
  obtain ⟨p, l, e, R, s, m, args, below, meth, c9⟩ := κ
  intro H locs lsr hP hT hS h
  obtain ⟨x1, x2, x3, x4, hts, x6, x7, x8, hK, hKS, hR⟩ := X
  obtain ⟨l1, l2, l3, l4⟩ := L
  subst hR
  obtain ⟨r1, r2, r3, r4⟩ := hr
  have r1 := Nat.le_of_ble_eq_true r1
  have r2 := Nat.le_of_ble_eq_true r2
  refine va_mmax x1 x2 (x3.trans h.1.symm) x4 (hts _ l1) (hts _ l2) (hts _ l3) (hts _ l4) r2 (by show _ + 13 ≤ 64 * d; omega) (Nat.le_of_ble_eq_true r3) (Nat.le_of_ble_eq_true r4) hd ?_
  have e : (if nI a < nI c then nI c else nI a) = nI (max a c) := by
    by_cases q : a < c
    · rw [if_pos ((n2_lt ha hc).mpr q), Nat.max_eq_right (Nat.le_of_lt q)]
    · rw [if_neg (fun z => q ((n2_lt ha hc).mp z)), Nat.max_eq_left (Nat.le_of_not_lt q)]
  rw [e]
  exact k H locs lsr hP hT hS h
end MORE
