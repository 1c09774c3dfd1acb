section MORE
variable {κ : Kt} {δ : Dl} {b n nL : Nat} {sh : Sh} {tp : Prop} {Qc : Array Value → State → Outcome → State → Prop} {mc ms d : Nat} {own nm : String} {cc : ByteArray} {ret : Option FieldType} {N cells slots pc : Nat} {ls ls' : List (Option Value)} {st : List Value} {μ : Mm}
theorem AW.cg {K : Wt} (h : ls = ls') (k : AW κ K N cells slots pc ls' st μ) : AW κ K N cells slots pc ls st μ := h ▸ k
theorem AW.weak (hw : ∀ (i : Nat) (v : Value), ls'[i]? = some (some v) → ls[i]? = some (some v)) (k : AW κ (δ, b, n, nL, sh, tp, Qc, mc, ms) N cells slots pc ls' st μ) : AW κ (δ, b, n, nL, sh, tp, Qc, mc, ms) N cells slots pc ls st μ := by
  obtain ⟨p, l, e, R, s, m, args, below, meth, c⟩ := κ
  intro H locs lsr hP hT hS h
  exact k H locs lsr hP hT hS (lh_weak h hw)
/-- each place that ls' tells holds the same in ls -/
def wk : List (Option Value) → List (Option Value) → Prop
  | [], _ => True
  | none :: t, [] => wk t []
  | none :: t, _ :: u => wk t u
  | some _ :: _, [] => False
  | some v :: t, w :: u => w = some v ∧ wk t u
theorem wk_nil : ∀ (l : List (Option Value)), wk l [] → ∀ (i : Nat) (v : Value), ¬ l[i]? = some (some v)
  | [], _, i, v, h => by simp at h
  | none :: t, h, i, v, q => by
    cases i with
    | zero => simp at q
    | succ i => exact wk_nil t h i v (by simpa using q)
  | some _ :: _, h, _, _, _ => h
theorem wk_at : ∀ (l u : List (Option Value)), wk l u → ∀ (i : Nat) (v : Value), l[i]? = some (some v) → u[i]? = some (some v)
  | [], u, _, i, v, h => by simp at h
  | none :: t, [], h, i, v, q => absurd q (wk_nil (none :: t) h i v)
  | none :: t, w :: u, h, i, v, q => by
    cases i with
    | zero => simp at q
    | succ i => simpa using wk_at t u h i v (by simpa using q)
  | some _ :: _, [], h, _, _, _ => h.elim
  | some x :: t, w :: u, h, i, v, q => by
    cases i with
    | zero => simpa [h.1] using q
    | succ i => simpa using wk_at t u h.2 i v (by simpa using q)
theorem AW.cgw (k : AW κ (δ, b, n, nL, sh, tp, Qc, mc, ms) N cells slots pc ls' st μ) (h : wk ls' ls) : AW κ (δ, b, n, nL, sh, tp, Qc, mc, ms) N cells slots pc ls st μ := AW.weak (wk_at ls' ls h) k
def LMax (own : String) (idx : Nat) : Prop := Cond.methodLink own idx Lib.Math.max.name ∈ TT ∧ Cond.static Lib.Math.max.name ∈ TT ∧ Cond.initialized "java/lang/Math" ∈ TT ∧ Cond.code Lib.Math.max.name Lib.Math.max.code 2 (some .int) ∈ TT
theorem AW.maxN (X : CX κ (δ, b, n, nL, sh, tp, Qc, mc, ms) own nm cc ret d) {idx a c : Nat} (hd : decode cc pc = .ok (.invokestatic idx, 3)) (ha : a < 2147483648) (hc : c < 2147483648) (L : LMax own idx) (hr : Nat.ble (st.map fun v => v.category).sum 8 = true ∧ Nat.ble 1 d = true ∧ Nat.ble cells mc = true ∧ Nat.ble slots ms = true) (k : AW κ (δ, b, n, nL, sh, tp, Qc, mc, ms) N cells slots (pc + 3) ls (.int (nI (max a c)) :: st) μ) : AW κ (δ, b, n, nL, sh, tp, Qc, mc, ms) N cells slots pc ls (.int (nI c) :: .int (nI a) :: st) μ := by
  obtain ⟨p, l, e, R, s, m, args, below, meth, c9⟩ := κ
  intro H locs lsr hP hT hS h
  obtain ⟨x1, x2, x3, x4, hts, x6, x7, x8, hK, hKS, hR⟩ := X
  obtain ⟨l1, l2, l3, l4⟩ := L
  subst hR
  obtain ⟨r1, r2, r3, r4⟩ := hr
  have r1 := Nat.le_of_ble_eq_true r1
  have r2 := Nat.le_of_ble_eq_true r2
  refine va_mmax x1 x2 (x3.trans h.1.symm) x4 (hts _ l1) (hts _ l2) (hts _ l3) (hts _ l4) r2 (by show _ + 13 ≤ 64 * d; omega) (Nat.le_of_ble_eq_true r3) (Nat.le_of_ble_eq_true r4) hd ?_
  have e : (if nI a < nI c then nI c else nI a) = nI (max a c) := by
    by_cases q : a < c
    · rw [if_pos ((n2_lt ha hc).mpr q), Nat.max_eq_right (Nat.le_of_lt q)]
    · rw [if_neg (fun z => q ((n2_lt ha hc).mp z)), Nat.max_eq_left (Nat.le_of_not_lt q)]
  rw [e]
  exact k H locs lsr hP hT hS h
def LCopy (own : String) (idx : Nat) : Prop := Cond.methodLink own idx arraycopyName ∈ TT ∧ Cond.native arraycopyName ∈ TT ∧ Cond.static arraycopyName ∈ TT ∧ Cond.initialized "java/lang/System" ∈ TT
def cpI (μ : Mm) (o1 o2 sp dp k : Nat) : Mm := (fun q j => if q = o2 then va_cpy (μ.1 o1) (μ.1 o2) sp dp k j else μ.1 q j, μ.2)
def cpL (μ : Mm) (o1 o2 sp dp k : Nat) : Mm := (μ.1, fun q j => if q = o2 then va_cpy (μ.2.1 o1) (μ.2.1 o2) sp dp k j else μ.2.1 q j, μ.2.2)
theorem AW.acopyI (X : CX κ (δ, b, n, nL, sh, False, Qc, mc, ms) own nm cc ret d) {idx o1 o2 a1 a2 sp dp k : Nat} (hd : decode cc pc = .ok (.invokestatic idx, 3)) (L : LCopy own idx) (h1 : AR sh N o1 0 a1) (h2 : AR sh N o2 0 a2) (hs : sp + k ≤ a1) (hq : dp + k ≤ a2) (hb : a1 < 2147483648 ∧ a2 < 2147483648) (hn : N ≤ n) (hr : Nat.ble ((st.map fun v => v.category).sum + (nativeFrameWords "java/lang/System" "arraycopy" 5 + 11)) (64 * d) = true ∧ Nat.ble 1 d = true) (kk : AW κ (δ, b, n, nL, sh, False, Qc, mc, ms) N cells slots (pc + 3) ls st (cpI μ o1 o2 sp dp k)) : AW κ (δ, b, n, nL, sh, False, Qc, mc, ms) N cells slots pc ls (.int (nI k) :: .int (nI dp) :: .ref (b + o2) :: .int (nI sp) :: .ref (b + o1) :: st) μ := by
  obtain ⟨p, l, e, R, s, m, args, below, meth, c9⟩ := κ
  intro H locs lsr hP hT hS h
  obtain ⟨x1, x2, x3, x4, hts, x6, x7, x8, hK, hKS, hR⟩ := X
  obtain ⟨l1, l2, l3, l4⟩ := L
  subst hR
  have e1 : (nI sp).toNatClampNeg = sp := n2_clamp (by omega)
  have e2 : (nI dp).toNatClampNeg = dp := n2_clamp (by omega)
  have e3 : (nI k).toNatClampNeg = k := n2_clamp (by omega)
  refine va_copyi x1 x2 (x3.trans h.1.symm) x4 (hts _ l1) (hts _ l2) (hts _ l3) (hts _ l4) hK.1 hP (wl_D hn) hS o1 o2 0 0 (ar_getI h1) (ar_getI h2) rfl rfl rfl (nI_pos (by omega)) (nI_pos (by omega)) (nI_pos (by omega)) (by rw [e1, e3]; exact hs) (by rw [e2, e3]; exact hq) (fun _ _ => rfl) (Nat.le_of_ble_eq_true hr.2) (Nat.le_of_ble_eq_true hr.1) hd (fun H1 locs1 hP1 _ hS1 => ?_)
  rw [e1, e2, e3, wl_set (μ' := cpI μ o1 o2 sp dp k) h2.1 (by
    unfold ent
    rw [h2.2]
    refine congrArg (fun f => Sum.inl (δ.2.1 0, a2, Sum.inl f)) (funext fun j => ?_)
    simp [cpI]) (fun j hj => by
    have ef : ∀ (k' : Nat) (ty : FieldType), fval b (cpI μ o1 o2 sp dp k) j k' ty = fval b μ j k' ty := fun k' ty => by
      cases ty <;> simp [fval, cpI, hj]
    have e9 : (cpI μ o1 o2 sp dp k).1 j = μ.1 j := funext fun k' => by simp [cpI, hj]
    unfold ent
    simp only [e9, ef]
    rfl)] at hP1
  exact kk H1 locs1 lsr hP1 (fun q => q.elim) hS1 h
theorem AW.acopyL (X : CX κ (δ, b, n, nL, sh, False, Qc, mc, ms) own nm cc ret d) {idx o1 o2 a1 a2 sp dp k : Nat} (hd : decode cc pc = .ok (.invokestatic idx, 3)) (L : LCopy own idx) (h1 : AR sh N o1 1 a1) (h2 : AR sh N o2 1 a2) (hs : sp + k ≤ a1) (hq : dp + k ≤ a2) (hb : a1 < 2147483648 ∧ a2 < 2147483648) (hn : N ≤ n) (hr : Nat.ble ((st.map fun v => v.category).sum + (nativeFrameWords "java/lang/System" "arraycopy" 5 + 11)) (64 * d) = true ∧ Nat.ble 1 d = true) (kk : AW κ (δ, b, n, nL, sh, False, Qc, mc, ms) N cells slots (pc + 3) ls st (cpL μ o1 o2 sp dp k)) : AW κ (δ, b, n, nL, sh, False, Qc, mc, ms) N cells slots pc ls (.int (nI k) :: .int (nI dp) :: .ref (b + o2) :: .int (nI sp) :: .ref (b + o1) :: st) μ := by
  obtain ⟨p, l, e, R, s, m, args, below, meth, c9⟩ := κ
  intro H locs lsr hP hT hS h
  obtain ⟨x1, x2, x3, x4, hts, x6, x7, x8, hK, hKS, hR⟩ := X
  obtain ⟨l1, l2, l3, l4⟩ := L
  subst hR
  have e1 : (nI sp).toNatClampNeg = sp := n2_clamp (by omega)
  have e2 : (nI dp).toNatClampNeg = dp := n2_clamp (by omega)
  have e3 : (nI k).toNatClampNeg = k := n2_clamp (by omega)
  refine va_copyl x1 x2 (x3.trans h.1.symm) x4 (hts _ l1) (hts _ l2) (hts _ l3) (hts _ l4) hK.1 hP (wl_D hn) hS o1 o2 1 1 (ar_getL h1) (ar_getL h2) rfl rfl rfl (nI_pos (by omega)) (nI_pos (by omega)) (nI_pos (by omega)) (by rw [e1, e3]; exact hs) (by rw [e2, e3]; exact hq) (fun _ _ => rfl) (Nat.le_of_ble_eq_true hr.2) (Nat.le_of_ble_eq_true hr.1) hd (fun H1 locs1 hP1 _ hS1 => ?_)
  rw [e1, e2, e3, wl_set (μ' := cpL μ o1 o2 sp dp k) h2.1 (by
    unfold ent
    rw [h2.2]
    refine congrArg (fun f => Sum.inl (δ.2.1 1, a2, Sum.inr (Sum.inl f))) (funext fun j => ?_)
    simp [cpL]) (fun j hj => by
    have ef : ∀ (k' : Nat) (ty : FieldType), fval b (cpL μ o1 o2 sp dp k) j k' ty = fval b μ j k' ty := fun k' ty => by
      cases ty <;> simp [fval, cpL, hj]
    have e9 : (cpL μ o1 o2 sp dp k).2.1 j = μ.2.1 j := funext fun k' => by simp [cpL, hj]
    unfold ent
    simp only [e9, ef]
    rfl)] at hP1
  exact kk H1 locs1 lsr hP1 (fun q => q.elim) hS1 h
end MORE
