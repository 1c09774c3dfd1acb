section INST
variable {κ : Kt} {δ : Dl} {b n nL : Nat} {sh : Sh} {tp : Prop} {Qc : Array Value → State → Outcome → State → Prop} {mc ms d : Nat} {own nm : String} {cc : ByteArray} {ret : Option FieldType} {N cells slots pc : Nat} {ls : List (Option Value)} {st : List Value} {μ : Mm}
theorem AW.instY (X : CX κ (δ, b, n, nL, sh, tp, Qc, mc, ms) own nm cc ret d) {idx o ci : Nat} {C D : String} {T : u_T} (hd : decode cc pc = .ok (.instanceof idx, 3)) (hl : Cond.classLink own idx D ∈ TT) (hC : CF ci C T) (ho : OB sh N o ci) (hc : Cond.castable C D ∈ NW) (k : AW κ (δ, b, n, nL, sh, tp, Qc, mc, ms) N cells slots (pc + 3) ls (.int (nI 1) :: st) μ) : AW κ (δ, b, n, nL, sh, tp, Qc, mc, ms) N cells slots pc ls (.ref (b + o) :: st) μ := by
  obtain ⟨p, l, e, R, s, m, args, below, meth, c9⟩ := κ
  intro H locs lsr hP hT hS h
  exact va_instY X.1 X.2.1 X.2.2.2.1 (X.2.2.2.2.1 _ hl) (X.2.2.2.2.2.2.2.2.1.2.1 _ hc) (va_recv X.2.2.2.2.2.2.2.2.1.1 hP hC.1 (ob_get ho)) hd (k H locs lsr hP hT hS h)
theorem AW.instS (X : CX κ (δ, b, n, nL, sh, tp, Qc, mc, ms) own nm cc ret d) {idx o ci : Nat} {C : String} {T : u_T} (hd : decode cc pc = .ok (.instanceof idx, 3)) (hl : Cond.classLink own idx C ∈ TT) (hC : CF ci C T) (ho : OB sh N o ci) (k : AW κ (δ, b, n, nL, sh, tp, Qc, mc, ms) N cells slots (pc + 3) ls (.int (nI 1) :: st) μ) : AW κ (δ, b, n, nL, sh, tp, Qc, mc, ms) N cells slots pc ls (.ref (b + o) :: st) μ := by
  obtain ⟨p, l, e, R, s, m, args, below, meth, c9⟩ := κ
  intro H locs lsr hP hT hS h
  have hK := X.2.2.2.2.2.2.2.2.1.1
  have hat := (hK.1 ci _ hC.1).2
  obtain ⟨cell, r1, r2, r3⟩ := va_recv hK hP hC.1 (ob_get ho)
  exact va_instS X.1 X.2.1 X.2.2.2.1 (X.2.2.2.2.1 _ hl) hat ⟨cell, r1, r2, r3⟩ hd (k H locs lsr hP hT hS h)
theorem AW.instN (X : CX κ (δ, b, n, nL, sh, tp, Qc, mc, ms) own nm cc ret d) {idx o ci : Nat} {C D : String} {T : u_T} (hd : decode cc pc = .ok (.instanceof idx, 3)) (hl : Cond.classLink own idx D ∈ TT) (hC : CF ci C T) (ho : OB sh N o ci) (hc : (C, D) ∈ NC) (k : AW κ (δ, b, n, nL, sh, tp, Qc, mc, ms) N cells slots (pc + 3) ls (.int (nI 0) :: st) μ) : AW κ (δ, b, n, nL, sh, tp, Qc, mc, ms) N cells slots pc ls (.ref (b + o) :: st) μ := by
  obtain ⟨p, l, e, R, s, m, args, below, meth, c9⟩ := κ
  intro H locs lsr hP hT hS h
  exact va_instNo X.1 X.2.1 X.2.2.2.1 (X.2.2.2.2.1 _ hl) (X.2.2.2.2.2.2.2.2.1.2.2.1 _ hc) (va_recv X.2.2.2.2.2.2.2.2.1.1 hP hC.1 (ob_get ho)) hd (k H locs lsr hP hT hS h)
theorem pLR_k {f : Int64} (k : AW κ (δ, b, n, nL, sh, tp, Qc, mc, ms) N cells slots pc ls (.long f :: st) μ) : ∀ v μ', pL (fun r μ' => r = f ∧ μ' = μ) v μ' → AW κ (δ, b, n, nL, sh, tp, Qc, mc, ms) N cells slots pc ls (v.toList ++ st) μ' := by
  rintro v μ' ⟨r, rfl, rfl, rfl⟩
  exact k
end INST
theorem inr_out {x : Int32} {m : Nat} (hm : m < 2147483648) (h : inr x m = false) : x.toInt < 0 ∨ (m : Int) - 1 < x.toInt := by
  simp only [inr, decide_eq_false_iff_not] at h
  by_cases h0 : x < 0
  · exact Or.inl (by have := Int32.lt_iff_toInt_lt.mp h0; simpa using this)
  · refine Or.inr ?_
    have h1 : ¬ x < nI m := fun z => h ⟨Int32.not_lt.mp h0, z⟩
    have h2 := Int32.le_iff_toInt_le.mp (Int32.not_lt.mp h1)
    rw [nI_toInt hm] at h2
    omega
