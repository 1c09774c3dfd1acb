def andN (a y : Nat) : Nat := a ^^^ (a &&& y)
theorem nI_andN (a y : Nat) : nI a &&& (nI y ^^^ (-1)) = nI (andN a y) := by
  apply Int32.toBitVec_inj.mp
  show BitVec.ofNat 32 a &&& (BitVec.ofNat 32 y ^^^ (-1#32)) = BitVec.ofNat 32 (a ^^^ (a &&& y))
  apply BitVec.eq_of_getLsbD_eq
  intro i hi
  have h1 : (-1#32).getLsbD i = true := by
    have : (-1#32) = BitVec.allOnes 32 := by decide
    rw [this, BitVec.getLsbD_allOnes]
    simp [hi]
  simp only [BitVec.getLsbD_and, BitVec.getLsbD_xor, h1, BitVec.getLsbD_ofNat, Nat.testBit_xor, Nat.testBit_and, hi, decide_true, Bool.true_and]
  cases a.testBit i <;> cases y.testBit i <;> rfl
theorem andN_bit (a y i : Nat) : (andN a y).testBit i = (a.testBit i && !y.testBit i) := by
  unfold andN
  rw [Nat.testBit_xor, Nat.testBit_and]
  cases a.testBit i <;> cases y.testBit i <;> rfl
theorem andN_pow {a c : Nat} (h : a.testBit c = true) : andN a (2 ^ c) = a ^^^ 2 ^ c := by
  apply Nat.eq_of_testBit_eq
  intro i
  rw [andN_bit, Nat.testBit_xor, Nat.testBit_two_pow]
  by_cases q : c = i
  · subst q
    simp [h]
  · simp [q]
section BITROWS
variable {κ : Kt} {δ : Dl} {b n nL : Nat} {sh : Sh} {tp : Prop} {Qc : Array Value → State → Outcome → State → Prop} {mc ms d : Nat} {own nm : String} {cc : ByteArray} {ret : Option FieldType} {N cells slots pc : Nat} {ls : List (Option Value)} {st : List Value} {μ : Mm}
theorem AW.iorN (X : CX κ (δ, b, n, nL, sh, tp, Qc, mc, ms) own nm cc ret d) {a c : Nat} (hd : decode cc pc = .ok (.ior, 1)) (k : AW κ (δ, b, n, nL, sh, tp, Qc, mc, ms) N cells slots (pc + 1) ls (.int (nI (a ||| c)) :: st) μ) : AW κ (δ, b, n, nL, sh, tp, Qc, mc, ms) N cells slots pc ls (.int (nI c) :: .int (nI a) :: st) μ := AW.ior X hd (by rw [nI_or]; exact k)
theorem AW.iandN (X : CX κ (δ, b, n, nL, sh, tp, Qc, mc, ms) own nm cc ret d) {a c : Nat} (hd : decode cc pc = .ok (.iand, 1)) (k : AW κ (δ, b, n, nL, sh, tp, Qc, mc, ms) N cells slots (pc + 1) ls (.int (nI (a &&& c)) :: st) μ) : AW κ (δ, b, n, nL, sh, tp, Qc, mc, ms) N cells slots pc ls (.int (nI c) :: .int (nI a) :: st) μ := AW.iand X hd (by rw [nI_and]; exact k)
theorem AW.shl1 (X : CX κ (δ, b, n, nL, sh, tp, Qc, mc, ms) own nm cc ret d) {c : Nat} (hd : decode cc pc = .ok (.ishl, 1)) (hc : c < 31) (k : AW κ (δ, b, n, nL, sh, tp, Qc, mc, ms) N cells slots (pc + 1) ls (.int (nI (2 ^ c)) :: st) μ) : AW κ (δ, b, n, nL, sh, tp, Qc, mc, ms) N cells slots pc ls (.int (nI c) :: .int (nI 1) :: st) μ := AW.ishl X hd (by rw [bit_1 c hc]; exact k)
theorem AW.hasN (X : CX κ (δ, b, n, nL, sh, tp, Qc, mc, ms) own nm cc ret d) {a c : Nat} (hd1 : decode cc pc = .ok (.ishr, 1)) (hd2 : decode cc (pc + 1) = .ok (.iconst 1, 1)) (hd3 : decode cc (pc + 1 + 1) = .ok (.iand, 1)) (ha : a < 2147483648) (hc : c < 32) (k : AW κ (δ, b, n, nL, sh, tp, Qc, mc, ms) N cells slots (pc + 1 + 1 + 1) ls (.int (bI (a.testBit c)) :: st) μ) : AW κ (δ, b, n, nL, sh, tp, Qc, mc, ms) N cells slots pc ls (.int (nI c) :: .int (nI a) :: st) μ :=
  AW.ishr X hd1 (AW.iconstN X 1 hd2 rfl (AW.iand X hd3 (by rw [has_n ha hc]; exact k)))
theorem AW.andNotN (X : CX κ (δ, b, n, nL, sh, tp, Qc, mc, ms) own nm cc ret d) {a y : Nat} (hd1 : decode cc pc = .ok (.iconst (-1), 1)) (hd2 : decode cc (pc + 1) = .ok (.ixor, 1)) (hd3 : decode cc (pc + 1 + 1) = .ok (.iand, 1)) (k : AW κ (δ, b, n, nL, sh, tp, Qc, mc, ms) N cells slots (pc + 1 + 1 + 1) ls (.int (nI (andN a y)) :: st) μ) : AW κ (δ, b, n, nL, sh, tp, Qc, mc, ms) N cells slots pc ls (.int (nI y) :: .int (nI a) :: st) μ :=
  AW.iconst X (v := -1) hd1 rfl (AW.ixor X hd2 (AW.iand X hd3 (by rw [nI_andN]; exact k)))
theorem AW.idivN (X : CX κ (δ, b, n, nL, sh, tp, Qc, mc, ms) own nm cc ret d) {a c : Nat} (hd : decode cc pc = .ok (.idiv, 1)) (ha : a < 2147483648) (h0 : 0 < c) (hc : c < 2147483648) (k : AW κ (δ, b, n, nL, sh, tp, Qc, mc, ms) N cells slots (pc + 1) ls (.int (nI (a / c)) :: st) μ) : AW κ (δ, b, n, nL, sh, tp, Qc, mc, ms) N cells slots pc ls (.int (nI c) :: .int (nI a) :: st) μ := AW.idiv X hd (nI_ne0 h0 hc) (by rw [pk_div ha h0 hc]; exact k)
theorem AW.iremN (X : CX κ (δ, b, n, nL, sh, tp, Qc, mc, ms) own nm cc ret d) {a c : Nat} (hd : decode cc pc = .ok (.irem, 1)) (ha : a < 2147483648) (h0 : 0 < c) (hc : c < 2147483648) (k : AW κ (δ, b, n, nL, sh, tp, Qc, mc, ms) N cells slots (pc + 1) ls (.int (nI (a % c)) :: st) μ) : AW κ (δ, b, n, nL, sh, tp, Qc, mc, ms) N cells slots pc ls (.int (nI c) :: .int (nI a) :: st) μ := AW.irem X hd (nI_ne0 h0 hc) (by rw [pk_rem ha h0 hc]; exact k)
theorem ush_nat : ∀ c, c < 32 → (((nI c).toUInt32 &&& Int32.toUInt32 31).toBitVec % 32).toNat = c := by decide +kernel
theorem AW.iushrN (X : CX κ (δ, b, n, nL, sh, tp, Qc, mc, ms) own nm cc ret d) {a c : Nat} (hd : decode cc pc = .ok (.iushr, 1)) (ha : a < 4294967296) (hc : c < 32) (k : AW κ (δ, b, n, nL, sh, tp, Qc, mc, ms) N cells slots (pc + 1) ls (.int (nI (a / 2 ^ c)) :: st) μ) : AW κ (δ, b, n, nL, sh, tp, Qc, mc, ms) N cells slots pc ls (.int (nI c) :: .int (nI a) :: st) μ := AW.iushr X hd (by rw [pk_ushrN ha _ c (ush_nat c hc)]; exact k)
theorem bI_1 {p : Bool} : bI p = nI 1 ↔ p = true := by cases p <;> decide
theorem AW.icmp_neB (X : CX κ (δ, b, n, nL, sh, tp, Qc, mc, ms) own nm cc ret d) {p : Bool} {off : Int} {tgt : Nat} (hd : decode cc pc = .ok (.if_icmp .ne off, 3)) (ht : (pc : Int) + off = (tgt : Int)) (k1 : p = false → AW κ (δ, b, n, nL, sh, tp, Qc, mc, ms) N cells slots tgt ls st μ) (k2 : p = true → AW κ (δ, b, n, nL, sh, tp, Qc, mc, ms) N cells slots (pc + 3) ls st μ) : AW κ (δ, b, n, nL, sh, tp, Qc, mc, ms) N cells slots pc ls (.int (nI 1) :: .int (bI p) :: st) μ :=
  AW.icmp_ne X hd ht (fun q => k1 (by cases p; rfl; exact absurd rfl q)) (fun q => k2 (bI_1.mp q))
end BITROWS
