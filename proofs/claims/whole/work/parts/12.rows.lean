/-! the judgement: from the frame at pc with these locals and this stack, over a heap that holds this memory, the method comes to its end as it should -/
abbrev Kt : Type := Program × Launch × Env × Room × State × MethodId × Array Value × List Frame × Method × Code
abbrev Wt : Type := Dl × Nat × Nat × Nat × Sh × Prop × (Array Value → State → Outcome → State → Prop) × Nat × Nat
def AW (κ : Kt) (K : Wt) (N cells slots pc : Nat) (ls : List (Option Value)) (st : List Value) (μ : Mm) : Prop :=
  match κ, K with
  | (p, l, e, R, s, m, args, below, meth, c), (δ, b, n, nL, sh, tp, Qc, mc, ms) =>
    ∀ (H : Heap) (locs : List Loc) (lsr : Array Slot), va_P δ.1 vwCl (wl δ b sh N μ) H → (tp → H.size = b + N) → va_S (RG b n) s.heap H locs → lh lsr nL ls →
      W p l e R s m args below meth c H locs cells slots (MQ below Qc args s mc ms (RG b n)) (F0 m pc lsr st)
def rmD (d mc ms : Nat) : Room := { frames := d, cells := mc, slots := ms, locals := 64 * d }
/-- what holds all through a method of class own, named nm, whose bytes are cc -/
def CX (κ : Kt) (K : Wt) (own nm : String) (cc : ByteArray) (ret : Option FieldType) (d : Nat) : Prop :=
  match κ, K with
  | (p, l, e, R, s, m, args, below, meth, c), (δ, b, n, nL, sh, tp, Qc, mc, ms) =>
    p.tables.exec = Jvm.exec ∧ c.code = cc ∧ c.maxLocals = nL ∧ s.vm.findClass own = some m.cls ∧ (∀ w ∈ TT, w.before args s = true) ∧ meth.locks = false ∧ meth.sig.returnType = ret ∧ meth.name = nm ∧ KX δ s ∧ KS δ (RG b n) s s.heap ∧ R = rmD d mc ms
def MQc (δ : Dl) (b n : Nat) (sh : Sh) (N : Nat) (tp : Prop) (post : Option Value → Mm → Prop) : Array Value → State → Outcome → State → Prop := fun _ st oc t =>
  (∃ (v : Option Value) (μ : Mm), oc = .returned v ∧ post v μ ∧ va_P δ.1 vwCl (wl δ b sh N μ) t.heap ∧ (tp → t.heap.size = b + N)) ∧ va_F (RG b n) st t
/-- a method's contract: from the world of N places and memory μ to one of N', with post -/
def MC (l : Launch) (δ : Dl) (b n : Nat) (sh : Sh) (tp : Prop) (y : MethodName) (bytes : ByteArray) (maxL : Nat) (ret : Option FieldType) (d mc ms N N' : Nat) (av : List Value) (μ : Mm) (post : Option Value → Mm → Prop) : Prop :=
  Met l y (Cond.code y bytes maxL ret :: TT) (rmD d mc ms) (va_Pc av (fun U => va_P δ.1 vwCl (wl δ b sh N μ) U.heap ∧ (tp → U.heap.size = b + N) ∧ KX δ U ∧ KS δ (RG b n) U U.heap)) (MQc δ b n sh N' tp post) mc ms (RG b n)
section ROWS
variable {κ : Kt} {δ : Dl} {b n nL : Nat} {sh : Sh} {tp : Prop} {Qc : Array Value → State → Outcome → State → Prop} {mc ms d : Nat} {own nm : String} {cc : ByteArray} {ret : Option FieldType} {N cells slots pc : Nat} {ls : List (Option Value)} {st : List Value} {μ : Mm}
theorem AW.iconst (X : CX κ (δ, b, n, nL, sh, tp, Qc, mc, ms) own nm cc ret d) {i : Int} {v : Int32} (hd : decode cc pc = .ok (.iconst i, 1)) (hv : Int32.ofInt i = v) (k : AW κ (δ, b, n, nL, sh, tp, Qc, mc, ms) N cells slots (pc + 1) ls (.int v :: st) μ) : AW κ (δ, b, n, nL, sh, tp, Qc, mc, ms) N cells slots pc ls st μ := by
  obtain ⟨p, l, e, R, s, m, args, below, meth, c⟩ := κ
  intro H locs lsr hP hT hS h
  exact lv_iconst X.1 X.2.1 hd hv (k H locs lsr hP hT hS h)
theorem AW.bipush (X : CX κ (δ, b, n, nL, sh, tp, Qc, mc, ms) own nm cc ret d) {i : Int} {v : Int32} (hd : decode cc pc = .ok (.bipush i, 2)) (hv : (Int8.ofInt i).toInt32 = v) (k : AW κ (δ, b, n, nL, sh, tp, Qc, mc, ms) N cells slots (pc + 2) ls (.int v :: st) μ) : AW κ (δ, b, n, nL, sh, tp, Qc, mc, ms) N cells slots pc ls st μ := by
  obtain ⟨p, l, e, R, s, m, args, below, meth, c⟩ := κ
  intro H locs lsr hP hT hS h
  exact lv_bipush X.1 X.2.1 hd hv (k H locs lsr hP hT hS h)
theorem AW.sipush (X : CX κ (δ, b, n, nL, sh, tp, Qc, mc, ms) own nm cc ret d) {i : Int} {v : Int32} (hd : decode cc pc = .ok (.sipush i, 3)) (hv : (Int16.ofInt i).toInt32 = v) (k : AW κ (δ, b, n, nL, sh, tp, Qc, mc, ms) N cells slots (pc + 3) ls (.int v :: st) μ) : AW κ (δ, b, n, nL, sh, tp, Qc, mc, ms) N cells slots pc ls st μ := by
  obtain ⟨p, l, e, R, s, m, args, below, meth, c⟩ := κ
  intro H locs lsr hP hT hS h
  exact lv_sipush X.1 X.2.1 hd hv (k H locs lsr hP hT hS h)
theorem AW.lconst (X : CX κ (δ, b, n, nL, sh, tp, Qc, mc, ms) own nm cc ret d) {i : Fin 2} {v : Int64} (hd : decode cc pc = .ok (.lconst i, 1)) (hv : Int64.ofNat (i : Nat) = v) (k : AW κ (δ, b, n, nL, sh, tp, Qc, mc, ms) N cells slots (pc + 1) ls (.long v :: st) μ) : AW κ (δ, b, n, nL, sh, tp, Qc, mc, ms) N cells slots pc ls st μ := by
  obtain ⟨p, l, e, R, s, m, args, below, meth, c⟩ := κ
  intro H locs lsr hP hT hS h
  exact lv_lconst X.1 X.2.1 hd hv (k H locs lsr hP hT hS h)
theorem AW.iadd (X : CX κ (δ, b, n, nL, sh, tp, Qc, mc, ms) own nm cc ret d) {x z : Int32} (hd : decode cc pc = .ok (.iadd, 1)) (k : AW κ (δ, b, n, nL, sh, tp, Qc, mc, ms) N cells slots (pc + 1) ls (.int (x + z) :: st) μ) : AW κ (δ, b, n, nL, sh, tp, Qc, mc, ms) N cells slots pc ls (.int z :: .int x :: st) μ := by
  obtain ⟨p, l, e, R, s, m, args, below, meth, c⟩ := κ
  intro H locs lsr hP hT hS h
  exact lv_iadd X.1 X.2.1 hd (k H locs lsr hP hT hS h)
theorem AW.isub (X : CX κ (δ, b, n, nL, sh, tp, Qc, mc, ms) own nm cc ret d) {x z : Int32} (hd : decode cc pc = .ok (.isub, 1)) (k : AW κ (δ, b, n, nL, sh, tp, Qc, mc, ms) N cells slots (pc + 1) ls (.int (x - z) :: st) μ) : AW κ (δ, b, n, nL, sh, tp, Qc, mc, ms) N cells slots pc ls (.int z :: .int x :: st) μ := by
  obtain ⟨p, l, e, R, s, m, args, below, meth, c⟩ := κ
  intro H locs lsr hP hT hS h
  exact lv_isub X.1 X.2.1 hd (k H locs lsr hP hT hS h)
theorem AW.imul (X : CX κ (δ, b, n, nL, sh, tp, Qc, mc, ms) own nm cc ret d) {x z : Int32} (hd : decode cc pc = .ok (.imul, 1)) (k : AW κ (δ, b, n, nL, sh, tp, Qc, mc, ms) N cells slots (pc + 1) ls (.int (x * z) :: st) μ) : AW κ (δ, b, n, nL, sh, tp, Qc, mc, ms) N cells slots pc ls (.int z :: .int x :: st) μ := by
  obtain ⟨p, l, e, R, s, m, args, below, meth, c⟩ := κ
  intro H locs lsr hP hT hS h
  exact lv_imul X.1 X.2.1 hd (k H locs lsr hP hT hS h)
theorem AW.iand (X : CX κ (δ, b, n, nL, sh, tp, Qc, mc, ms) own nm cc ret d) {x z : Int32} (hd : decode cc pc = .ok (.iand, 1)) (k : AW κ (δ, b, n, nL, sh, tp, Qc, mc, ms) N cells slots (pc + 1) ls (.int (x &&& z) :: st) μ) : AW κ (δ, b, n, nL, sh, tp, Qc, mc, ms) N cells slots pc ls (.int z :: .int x :: st) μ := by
  obtain ⟨p, l, e, R, s, m, args, below, meth, c⟩ := κ
  intro H locs lsr hP hT hS h
  exact lv_iand X.1 X.2.1 hd (k H locs lsr hP hT hS h)
theorem AW.ior (X : CX κ (δ, b, n, nL, sh, tp, Qc, mc, ms) own nm cc ret d) {x z : Int32} (hd : decode cc pc = .ok (.ior, 1)) (k : AW κ (δ, b, n, nL, sh, tp, Qc, mc, ms) N cells slots (pc + 1) ls (.int (x ||| z) :: st) μ) : AW κ (δ, b, n, nL, sh, tp, Qc, mc, ms) N cells slots pc ls (.int z :: .int x :: st) μ := by
  obtain ⟨p, l, e, R, s, m, args, below, meth, c⟩ := κ
  intro H locs lsr hP hT hS h
  exact lv_ior X.1 X.2.1 hd (k H locs lsr hP hT hS h)
theorem AW.ixor (X : CX κ (δ, b, n, nL, sh, tp, Qc, mc, ms) own nm cc ret d) {x z : Int32} (hd : decode cc pc = .ok (.ixor, 1)) (k : AW κ (δ, b, n, nL, sh, tp, Qc, mc, ms) N cells slots (pc + 1) ls (.int (x ^^^ z) :: st) μ) : AW κ (δ, b, n, nL, sh, tp, Qc, mc, ms) N cells slots pc ls (.int z :: .int x :: st) μ := by
  obtain ⟨p, l, e, R, s, m, args, below, meth, c⟩ := κ
  intro H locs lsr hP hT hS h
  exact lv_ixor X.1 X.2.1 hd (k H locs lsr hP hT hS h)
theorem AW.ishl (X : CX κ (δ, b, n, nL, sh, tp, Qc, mc, ms) own nm cc ret d) {x z : Int32} (hd : decode cc pc = .ok (.ishl, 1)) (k : AW κ (δ, b, n, nL, sh, tp, Qc, mc, ms) N cells slots (pc + 1) ls (.int (x <<< (z &&& 31)) :: st) μ) : AW κ (δ, b, n, nL, sh, tp, Qc, mc, ms) N cells slots pc ls (.int z :: .int x :: st) μ := by
  obtain ⟨p, l, e, R, s, m, args, below, meth, c⟩ := κ
  intro H locs lsr hP hT hS h
  exact lv_ishl X.1 X.2.1 hd (k H locs lsr hP hT hS h)
theorem AW.ishr (X : CX κ (δ, b, n, nL, sh, tp, Qc, mc, ms) own nm cc ret d) {x z : Int32} (hd : decode cc pc = .ok (.ishr, 1)) (k : AW κ (δ, b, n, nL, sh, tp, Qc, mc, ms) N cells slots (pc + 1) ls (.int (x >>> (z &&& 31)) :: st) μ) : AW κ (δ, b, n, nL, sh, tp, Qc, mc, ms) N cells slots pc ls (.int z :: .int x :: st) μ := by
  obtain ⟨p, l, e, R, s, m, args, below, meth, c⟩ := κ
  intro H locs lsr hP hT hS h
  exact lv_ishr X.1 X.2.1 hd (k H locs lsr hP hT hS h)
theorem AW.idiv (X : CX κ (δ, b, n, nL, sh, tp, Qc, mc, ms) own nm cc ret d) {x z : Int32} (hd : decode cc pc = .ok (.idiv, 1)) (hne : ¬ z = 0) (k : AW κ (δ, b, n, nL, sh, tp, Qc, mc, ms) N cells slots (pc + 1) ls (.int (x / z) :: st) μ) : AW κ (δ, b, n, nL, sh, tp, Qc, mc, ms) N cells slots pc ls (.int z :: .int x :: st) μ := by
  obtain ⟨p, l, e, R, s, m, args, below, meth, c⟩ := κ
  intro H locs lsr hP hT hS h
  exact lv_idiv X.1 X.2.1 hd hne (k H locs lsr hP hT hS h)
theorem AW.irem (X : CX κ (δ, b, n, nL, sh, tp, Qc, mc, ms) own nm cc ret d) {x z : Int32} (hd : decode cc pc = .ok (.irem, 1)) (hne : ¬ z = 0) (k : AW κ (δ, b, n, nL, sh, tp, Qc, mc, ms) N cells slots (pc + 1) ls (.int (x - x / z * z) :: st) μ) : AW κ (δ, b, n, nL, sh, tp, Qc, mc, ms) N cells slots pc ls (.int z :: .int x :: st) μ := by
  obtain ⟨p, l, e, R, s, m, args, below, meth, c⟩ := κ
  intro H locs lsr hP hT hS h
  exact lv_irem X.1 X.2.1 hd hne (k H locs lsr hP hT hS h)
theorem AW.ineg (X : CX κ (δ, b, n, nL, sh, tp, Qc, mc, ms) own nm cc ret d) {x : Int32} (hd : decode cc pc = .ok (.ineg, 1)) (k : AW κ (δ, b, n, nL, sh, tp, Qc, mc, ms) N cells slots (pc + 1) ls (.int (-x) :: st) μ) : AW κ (δ, b, n, nL, sh, tp, Qc, mc, ms) N cells slots pc ls (.int x :: st) μ := by
  obtain ⟨p, l, e, R, s, m, args, below, meth, c⟩ := κ
  intro H locs lsr hP hT hS h
  exact lv_ineg X.1 X.2.1 hd (k H locs lsr hP hT hS h)
theorem AW.ladd (X : CX κ (δ, b, n, nL, sh, tp, Qc, mc, ms) own nm cc ret d) {x z : Int64} (hd : decode cc pc = .ok (.ladd, 1)) (k : AW κ (δ, b, n, nL, sh, tp, Qc, mc, ms) N cells slots (pc + 1) ls (.long (x + z) :: st) μ) : AW κ (δ, b, n, nL, sh, tp, Qc, mc, ms) N cells slots pc ls (.long z :: .long x :: st) μ := by
  obtain ⟨p, l, e, R, s, m, args, below, meth, c⟩ := κ
  intro H locs lsr hP hT hS h
  exact lv_ladd X.1 X.2.1 hd (k H locs lsr hP hT hS h)
theorem AW.land (X : CX κ (δ, b, n, nL, sh, tp, Qc, mc, ms) own nm cc ret d) {x z : Int64} (hd : decode cc pc = .ok (.land, 1)) (k : AW κ (δ, b, n, nL, sh, tp, Qc, mc, ms) N cells slots (pc + 1) ls (.long (x &&& z) :: st) μ) : AW κ (δ, b, n, nL, sh, tp, Qc, mc, ms) N cells slots pc ls (.long z :: .long x :: st) μ := by
  obtain ⟨p, l, e, R, s, m, args, below, meth, c⟩ := κ
  intro H locs lsr hP hT hS h
  exact lv_land X.1 X.2.1 hd (k H locs lsr hP hT hS h)
theorem AW.lor (X : CX κ (δ, b, n, nL, sh, tp, Qc, mc, ms) own nm cc ret d) {x z : Int64} (hd : decode cc pc = .ok (.lor, 1)) (k : AW κ (δ, b, n, nL, sh, tp, Qc, mc, ms) N cells slots (pc + 1) ls (.long (x ||| z) :: st) μ) : AW κ (δ, b, n, nL, sh, tp, Qc, mc, ms) N cells slots pc ls (.long z :: .long x :: st) μ := by
  obtain ⟨p, l, e, R, s, m, args, below, meth, c⟩ := κ
  intro H locs lsr hP hT hS h
  exact lv_lor X.1 X.2.1 hd (k H locs lsr hP hT hS h)
theorem AW.i2l (X : CX κ (δ, b, n, nL, sh, tp, Qc, mc, ms) own nm cc ret d) {x : Int32} (hd : decode cc pc = .ok (.i2l, 1)) (k : AW κ (δ, b, n, nL, sh, tp, Qc, mc, ms) N cells slots (pc + 1) ls (.long x.toInt64 :: st) μ) : AW κ (δ, b, n, nL, sh, tp, Qc, mc, ms) N cells slots pc ls (.int x :: st) μ := by
  obtain ⟨p, l, e, R, s, m, args, below, meth, c⟩ := κ
  intro H locs lsr hP hT hS h
  exact lv_i2l X.1 X.2.1 hd rfl (k H locs lsr hP hT hS h)
theorem AW.l2i (X : CX κ (δ, b, n, nL, sh, tp, Qc, mc, ms) own nm cc ret d) {x : Int64} (hd : decode cc pc = .ok (.l2i, 1)) (k : AW κ (δ, b, n, nL, sh, tp, Qc, mc, ms) N cells slots (pc + 1) ls (.int x.toInt32 :: st) μ) : AW κ (δ, b, n, nL, sh, tp, Qc, mc, ms) N cells slots pc ls (.long x :: st) μ := by
  obtain ⟨p, l, e, R, s, m, args, below, meth, c⟩ := κ
  intro H locs lsr hP hT hS h
  exact lv_l2i X.1 X.2.1 hd rfl (k H locs lsr hP hT hS h)
theorem AW.i2b (X : CX κ (δ, b, n, nL, sh, tp, Qc, mc, ms) own nm cc ret d) {x : Int32} (hd : decode cc pc = .ok (.i2b, 1)) (k : AW κ (δ, b, n, nL, sh, tp, Qc, mc, ms) N cells slots (pc + 1) ls (.int x.toInt8.toInt32 :: st) μ) : AW κ (δ, b, n, nL, sh, tp, Qc, mc, ms) N cells slots pc ls (.int x :: st) μ := by
  obtain ⟨p, l, e, R, s, m, args, below, meth, c⟩ := κ
  intro H locs lsr hP hT hS h
  exact lv_i2b X.1 X.2.1 hd rfl (k H locs lsr hP hT hS h)
theorem AW.i2s (X : CX κ (δ, b, n, nL, sh, tp, Qc, mc, ms) own nm cc ret d) {x : Int32} (hd : decode cc pc = .ok (.i2s, 1)) (k : AW κ (δ, b, n, nL, sh, tp, Qc, mc, ms) N cells slots (pc + 1) ls (.int x.toInt16.toInt32 :: st) μ) : AW κ (δ, b, n, nL, sh, tp, Qc, mc, ms) N cells slots pc ls (.int x :: st) μ := by
  obtain ⟨p, l, e, R, s, m, args, below, meth, c⟩ := κ
  intro H locs lsr hP hT hS h
  exact lv_i2s X.1 X.2.1 hd rfl (k H locs lsr hP hT hS h)
theorem AW.iushr (X : CX κ (δ, b, n, nL, sh, tp, Qc, mc, ms) own nm cc ret d) {x z : Int32} (hd : decode cc pc = .ok (.iushr, 1)) (k : AW κ (δ, b, n, nL, sh, tp, Qc, mc, ms) N cells slots (pc + 1) ls (.int (x.toUInt32 >>> (z.toUInt32 &&& Int32.toUInt32 31)).toInt32 :: st) μ) : AW κ (δ, b, n, nL, sh, tp, Qc, mc, ms) N cells slots pc ls (.int z :: .int x :: st) μ := by
  obtain ⟨p, l, e, R, s, m, args, below, meth, c⟩ := κ
  intro H locs lsr hP hT hS h
  exact lv_iushr X.1 X.2.1 hd rfl (k H locs lsr hP hT hS h)
theorem AW.lshl (X : CX κ (δ, b, n, nL, sh, tp, Qc, mc, ms) own nm cc ret d) {x : Int64} {z : Int32} (hd : decode cc pc = .ok (.lshl, 1)) (k : AW κ (δ, b, n, nL, sh, tp, Qc, mc, ms) N cells slots (pc + 1) ls (.long (x <<< (z.toInt64 &&& 63)) :: st) μ) : AW κ (δ, b, n, nL, sh, tp, Qc, mc, ms) N cells slots pc ls (.int z :: .long x :: st) μ := by
  obtain ⟨p, l, e, R, s, m, args, below, meth, c⟩ := κ
  intro H locs lsr hP hT hS h
  exact lv_lshl X.1 X.2.1 hd rfl (k H locs lsr hP hT hS h)
theorem AW.lcmp (X : CX κ (δ, b, n, nL, sh, tp, Qc, mc, ms) own nm cc ret d) {x z : Int64} (hd : decode cc pc = .ok (.lcmp, 1)) (k : AW κ (δ, b, n, nL, sh, tp, Qc, mc, ms) N cells slots (pc + 1) ls (.int (lg_cmp x z) :: st) μ) : AW κ (δ, b, n, nL, sh, tp, Qc, mc, ms) N cells slots pc ls (.long z :: .long x :: st) μ := by
  obtain ⟨p, l, e, R, s, m, args, below, meth, c⟩ := κ
  intro H locs lsr hP hT hS h
  exact W.lcmp X.1 X.2.1 hd (k H locs lsr hP hT hS h)
theorem AW.dup (X : CX κ (δ, b, n, nL, sh, tp, Qc, mc, ms) own nm cc ret d) {v : Value} (hd : decode cc pc = .ok (.dup, 1)) (hv : v.category = 1) (k : AW κ (δ, b, n, nL, sh, tp, Qc, mc, ms) N cells slots (pc + 1) ls (v :: v :: st) μ) : AW κ (δ, b, n, nL, sh, tp, Qc, mc, ms) N cells slots pc ls (v :: st) μ := by
  obtain ⟨p, l, e, R, s, m, args, below, meth, c⟩ := κ
  intro H locs lsr hP hT hS h
  exact lv_dup X.1 X.2.1 hd hv (k H locs lsr hP hT hS h)
theorem AW.pop (X : CX κ (δ, b, n, nL, sh, tp, Qc, mc, ms) own nm cc ret d) {v : Value} (hd : decode cc pc = .ok (.pop, 1)) (hv : v.category = 1) (k : AW κ (δ, b, n, nL, sh, tp, Qc, mc, ms) N cells slots (pc + 1) ls st μ) : AW κ (δ, b, n, nL, sh, tp, Qc, mc, ms) N cells slots pc ls (v :: st) μ := by
  obtain ⟨p, l, e, R, s, m, args, below, meth, c⟩ := κ
  intro H locs lsr hP hT hS h
  exact lv_pop X.1 X.2.1 hd hv (k H locs lsr hP hT hS h)
theorem AW.dup_x1 (X : CX κ (δ, b, n, nL, sh, tp, Qc, mc, ms) own nm cc ret d) {v w : Value} (hd : decode cc pc = .ok (.dup_x1, 1)) (hv : v.category = 1) (hw : w.category = 1) (k : AW κ (δ, b, n, nL, sh, tp, Qc, mc, ms) N cells slots (pc + 1) ls (v :: w :: v :: st) μ) : AW κ (δ, b, n, nL, sh, tp, Qc, mc, ms) N cells slots pc ls (v :: w :: st) μ := by
  obtain ⟨p, l, e, R, s, m, args, below, meth, c⟩ := κ
  intro H locs lsr hP hT hS h
  exact lv_dup_x1 X.1 X.2.1 hd hv hw (k H locs lsr hP hT hS h)
theorem AW.dup_x2 (X : CX κ (δ, b, n, nL, sh, tp, Qc, mc, ms) own nm cc ret d) {v w u : Value} (hd : decode cc pc = .ok (.dup_x2, 1)) (hv : v.category = 1) (hw : w.category = 1) (hu : u.category = 1) (k : AW κ (δ, b, n, nL, sh, tp, Qc, mc, ms) N cells slots (pc + 1) ls (v :: w :: u :: v :: st) μ) : AW κ (δ, b, n, nL, sh, tp, Qc, mc, ms) N cells slots pc ls (v :: w :: u :: st) μ := by
  obtain ⟨p, l, e, R, s, m, args, below, meth, c⟩ := κ
  intro H locs lsr hP hT hS h
  exact lv_dup_x2 X.1 X.2.1 hd hv hw hu (k H locs lsr hP hT hS h)
theorem AW.dup2 (X : CX κ (δ, b, n, nL, sh, tp, Qc, mc, ms) own nm cc ret d) {v w : Value} (hd : decode cc pc = .ok (.dup2, 1)) (hv : v.category = 1) (hw : w.category = 1) (k : AW κ (δ, b, n, nL, sh, tp, Qc, mc, ms) N cells slots (pc + 1) ls (v :: w :: v :: w :: st) μ) : AW κ (δ, b, n, nL, sh, tp, Qc, mc, ms) N cells slots pc ls (v :: w :: st) μ := by
  obtain ⟨p, l, e, R, s, m, args, below, meth, c⟩ := κ
  intro H locs lsr hP hT hS h
  exact lv_dup2_11 X.1 X.2.1 hd hv hw (k H locs lsr hP hT hS h)
theorem AW.iload_n (X : CX κ (δ, b, n, nL, sh, tp, Qc, mc, ms) own nm cc ret d) {k0 : Fin 4} {x : Int32} (hd : decode cc pc = .ok (.iload_n k0, 1)) {i : Nat} (hi : (k0 : Nat) = i) (hl : ls[i]? = some (some (.int x))) (k : AW κ (δ, b, n, nL, sh, tp, Qc, mc, ms) N cells slots (pc + 1) ls (.int x :: st) μ) : AW κ (δ, b, n, nL, sh, tp, Qc, mc, ms) N cells slots pc ls st μ := by
  obtain ⟨p, l, e, R, s, m, args, below, meth, c⟩ := κ
  intro H locs lsr hP hT hS h
  exact lv_iload_n X.1 X.2.1 hd hi (lh_at h hl) (k H locs lsr hP hT hS h)
theorem AW.iload (X : CX κ (δ, b, n, nL, sh, tp, Qc, mc, ms) own nm cc ret d) {k0 : Nat} {x : Int32} (hd : decode cc pc = .ok (.iload k0, 2)) (hl : ls[k0]? = some (some (.int x))) (k : AW κ (δ, b, n, nL, sh, tp, Qc, mc, ms) N cells slots (pc + 2) ls (.int x :: st) μ) : AW κ (δ, b, n, nL, sh, tp, Qc, mc, ms) N cells slots pc ls st μ := by
  obtain ⟨p, l, e, R, s, m, args, below, meth, c⟩ := κ
  intro H locs lsr hP hT hS h
  exact lv_iload X.1 X.2.1 hd (lh_at h hl) (k H locs lsr hP hT hS h)
theorem AW.lload_n (X : CX κ (δ, b, n, nL, sh, tp, Qc, mc, ms) own nm cc ret d) {k0 : Fin 4} {x : Int64} (hd : decode cc pc = .ok (.lload_n k0, 1)) {i : Nat} (hi : (k0 : Nat) = i) (hl : ls[i]? = some (some (.long x))) (k : AW κ (δ, b, n, nL, sh, tp, Qc, mc, ms) N cells slots (pc + 1) ls (.long x :: st) μ) : AW κ (δ, b, n, nL, sh, tp, Qc, mc, ms) N cells slots pc ls st μ := by
  obtain ⟨p, l, e, R, s, m, args, below, meth, c⟩ := κ
  intro H locs lsr hP hT hS h
  exact lv_lload_n X.1 X.2.1 hd hi (lh_at h hl) (k H locs lsr hP hT hS h)
theorem AW.lload (X : CX κ (δ, b, n, nL, sh, tp, Qc, mc, ms) own nm cc ret d) {k0 : Nat} {x : Int64} (hd : decode cc pc = .ok (.lload k0, 2)) (hl : ls[k0]? = some (some (.long x))) (k : AW κ (δ, b, n, nL, sh, tp, Qc, mc, ms) N cells slots (pc + 2) ls (.long x :: st) μ) : AW κ (δ, b, n, nL, sh, tp, Qc, mc, ms) N cells slots pc ls st μ := by
  obtain ⟨p, l, e, R, s, m, args, below, meth, c⟩ := κ
  intro H locs lsr hP hT hS h
  exact lv_lload X.1 X.2.1 hd (lh_at h hl) (k H locs lsr hP hT hS h)
theorem AW.aload_n (X : CX κ (δ, b, n, nL, sh, tp, Qc, mc, ms) own nm cc ret d) {k0 : Fin 4} {x : Nat} (hd : decode cc pc = .ok (.aload_n k0, 1)) {i : Nat} (hi : (k0 : Nat) = i) (hl : ls[i]? = some (some (.ref x))) (k : AW κ (δ, b, n, nL, sh, tp, Qc, mc, ms) N cells slots (pc + 1) ls (.ref x :: st) μ) : AW κ (δ, b, n, nL, sh, tp, Qc, mc, ms) N cells slots pc ls st μ := by
  obtain ⟨p, l, e, R, s, m, args, below, meth, c⟩ := κ
  intro H locs lsr hP hT hS h
  exact lv_aload_n X.1 X.2.1 hd hi (lh_at h hl) (k H locs lsr hP hT hS h)
theorem AW.aload (X : CX κ (δ, b, n, nL, sh, tp, Qc, mc, ms) own nm cc ret d) {k0 : Nat} {x : Nat} (hd : decode cc pc = .ok (.aload k0, 2)) (hl : ls[k0]? = some (some (.ref x))) (k : AW κ (δ, b, n, nL, sh, tp, Qc, mc, ms) N cells slots (pc + 2) ls (.ref x :: st) μ) : AW κ (δ, b, n, nL, sh, tp, Qc, mc, ms) N cells slots pc ls st μ := by
  obtain ⟨p, l, e, R, s, m, args, below, meth, c⟩ := κ
  intro H locs lsr hP hT hS h
  exact lv_aload X.1 X.2.1 hd (lh_at h hl) (k H locs lsr hP hT hS h)
theorem AW.istore_n (X : CX κ (δ, b, n, nL, sh, tp, Qc, mc, ms) own nm cc ret d) {k0 : Fin 4} {i : Nat} {x : Int32} (hd : decode cc pc = .ok (.istore_n k0, 1)) (hi : (k0 : Nat) = i) (hl : (decide (i < nL) && okst ls i) = true) (k : AW κ (δ, b, n, nL, sh, tp, Qc, mc, ms) N cells slots (pc + 1) (ls.set i (some (.int x))) st μ) : AW κ (δ, b, n, nL, sh, tp, Qc, mc, ms) N cells slots pc ls (.int x :: st) μ := by
  obtain ⟨p, l, e, R, s, m, args, below, meth, c⟩ := κ
  intro H locs lsr hP hT hS h
  simp only [Bool.and_eq_true, decide_eq_true_eq] at hl
  exact lv_istore_n X.1 X.2.1 hd hi h hl.1 rfl (fun ls2 h2 => k H locs ls2 hP hT hS (lh_set1 hl.2 h2))
theorem AW.istore (X : CX κ (δ, b, n, nL, sh, tp, Qc, mc, ms) own nm cc ret d) {k0 : Nat} {x : Int32} (hd : decode cc pc = .ok (.istore k0, 2)) (hl : (decide (k0 < nL) && okst ls k0) = true) (k : AW κ (δ, b, n, nL, sh, tp, Qc, mc, ms) N cells slots (pc + 2) (ls.set k0 (some (.int x))) st μ) : AW κ (δ, b, n, nL, sh, tp, Qc, mc, ms) N cells slots pc ls (.int x :: st) μ := by
  obtain ⟨p, l, e, R, s, m, args, below, meth, c⟩ := κ
  intro H locs lsr hP hT hS h
  simp only [Bool.and_eq_true, decide_eq_true_eq] at hl
  exact lv_istore X.1 X.2.1 hd h hl.1 rfl (fun ls2 h2 => k H locs ls2 hP hT hS (lh_set1 hl.2 h2))
theorem AW.astore_n (X : CX κ (δ, b, n, nL, sh, tp, Qc, mc, ms) own nm cc ret d) {k0 : Fin 4} {i : Nat} {x : Nat} (hd : decode cc pc = .ok (.astore_n k0, 1)) (hi : (k0 : Nat) = i) (hl : (decide (i < nL) && okst ls i) = true) (k : AW κ (δ, b, n, nL, sh, tp, Qc, mc, ms) N cells slots (pc + 1) (ls.set i (some (.ref x))) st μ) : AW κ (δ, b, n, nL, sh, tp, Qc, mc, ms) N cells slots pc ls (.ref x :: st) μ := by
  obtain ⟨p, l, e, R, s, m, args, below, meth, c⟩ := κ
  intro H locs lsr hP hT hS h
  simp only [Bool.and_eq_true, decide_eq_true_eq] at hl
  exact lv_astore_n X.1 X.2.1 hd hi h hl.1 rfl (fun ls2 h2 => k H locs ls2 hP hT hS (lh_set1 hl.2 h2))
theorem AW.astore (X : CX κ (δ, b, n, nL, sh, tp, Qc, mc, ms) own nm cc ret d) {k0 : Nat} {x : Nat} (hd : decode cc pc = .ok (.astore k0, 2)) (hl : (decide (k0 < nL) && okst ls k0) = true) (k : AW κ (δ, b, n, nL, sh, tp, Qc, mc, ms) N cells slots (pc + 2) (ls.set k0 (some (.ref x))) st μ) : AW κ (δ, b, n, nL, sh, tp, Qc, mc, ms) N cells slots pc ls (.ref x :: st) μ := by
  obtain ⟨p, l, e, R, s, m, args, below, meth, c⟩ := κ
  intro H locs lsr hP hT hS h
  simp only [Bool.and_eq_true, decide_eq_true_eq] at hl
  exact lv_astore X.1 X.2.1 hd h hl.1 rfl (fun ls2 h2 => k H locs ls2 hP hT hS (lh_set1 hl.2 h2))
theorem lh_find {ls : List (Option Value)} {i : Nat} {v : Value} (h : ls[i]? = some (some v)) : ∃ k : Nat, (lp 0 ls)[k]? = some (i, v) := List.getElem?_of_mem ((lp_mem ls 0 i v).mpr ⟨i, by omega, h⟩)
theorem AW.iinc (X : CX κ (δ, b, n, nL, sh, tp, Qc, mc, ms) own nm cc ret d) {k0 : Nat} {i : Int} {x v : Int32} (hd : decode cc pc = .ok (.iinc k0 i, 3)) (hl : ls[k0]? = some (some (.int x))) (hv : Int32.ofInt i = v) (hl2 : (decide (k0 < nL) && okst ls k0) = true) (k : AW κ (δ, b, n, nL, sh, tp, Qc, mc, ms) N cells slots (pc + 3) (ls.set k0 (some (.int (x + v)))) st μ) : AW κ (δ, b, n, nL, sh, tp, Qc, mc, ms) N cells slots pc ls st μ := by
  obtain ⟨p, l, e, R, s, m, args, below, meth, c⟩ := κ
  intro H locs lsr hP hT hS h
  simp only [Bool.and_eq_true, decide_eq_true_eq] at hl2
  obtain ⟨k9, hk9⟩ := lh_find hl
  exact lv_iinc (k := k9) X.1 X.2.1 hd h hk9 (by rw [hv]) hl2.1 rfl (fun ls2 h2 => k H locs ls2 hP hT hS (lh_set1 hl2.2 h2))
theorem AW.if_eq (X : CX κ (δ, b, n, nL, sh, tp, Qc, mc, ms) own nm cc ret d) {x : Int32} {off : Int} {tgt : Nat} (hd : decode cc pc = .ok (.ifCond .eq off, 3)) (ht : (pc : Int) + off = (tgt : Int)) (k1 : x = 0 → AW κ (δ, b, n, nL, sh, tp, Qc, mc, ms) N cells slots tgt ls st μ) (k2 : ¬ (x = 0) → AW κ (δ, b, n, nL, sh, tp, Qc, mc, ms) N cells slots (pc + 3) ls st μ) : AW κ (δ, b, n, nL, sh, tp, Qc, mc, ms) N cells slots pc ls (.int x :: st) μ := by
  obtain ⟨p, l, e, R, s, m, args, below, meth, c⟩ := κ
  intro H locs lsr hP hT hS h
  exact lv_if_eq X.1 X.2.1 hd ht (fun q => k1 q H locs lsr hP hT hS h) (fun q => k2 q H locs lsr hP hT hS h)
theorem AW.icmp_eq (X : CX κ (δ, b, n, nL, sh, tp, Qc, mc, ms) own nm cc ret d) {x z : Int32} {off : Int} {tgt : Nat} (hd : decode cc pc = .ok (.if_icmp .eq off, 3)) (ht : (pc : Int) + off = (tgt : Int)) (k1 : x = z → AW κ (δ, b, n, nL, sh, tp, Qc, mc, ms) N cells slots tgt ls st μ) (k2 : ¬ (x = z) → AW κ (δ, b, n, nL, sh, tp, Qc, mc, ms) N cells slots (pc + 3) ls st μ) : AW κ (δ, b, n, nL, sh, tp, Qc, mc, ms) N cells slots pc ls (.int z :: .int x :: st) μ := by
  obtain ⟨p, l, e, R, s, m, args, below, meth, c⟩ := κ
  intro H locs lsr hP hT hS h
  exact lv_icmp_eq X.1 X.2.1 hd ht (fun q => k1 q H locs lsr hP hT hS h) (fun q => k2 q H locs lsr hP hT hS h)
theorem AW.if_ne (X : CX κ (δ, b, n, nL, sh, tp, Qc, mc, ms) own nm cc ret d) {x : Int32} {off : Int} {tgt : Nat} (hd : decode cc pc = .ok (.ifCond .ne off, 3)) (ht : (pc : Int) + off = (tgt : Int)) (k1 : ¬ x = 0 → AW κ (δ, b, n, nL, sh, tp, Qc, mc, ms) N cells slots tgt ls st μ) (k2 : x = 0 → AW κ (δ, b, n, nL, sh, tp, Qc, mc, ms) N cells slots (pc + 3) ls st μ) : AW κ (δ, b, n, nL, sh, tp, Qc, mc, ms) N cells slots pc ls (.int x :: st) μ := by
  obtain ⟨p, l, e, R, s, m, args, below, meth, c⟩ := κ
  intro H locs lsr hP hT hS h
  exact lv_if_ne X.1 X.2.1 hd ht (fun q => k1 q H locs lsr hP hT hS h) (fun q => k2 q H locs lsr hP hT hS h)
theorem AW.icmp_ne (X : CX κ (δ, b, n, nL, sh, tp, Qc, mc, ms) own nm cc ret d) {x z : Int32} {off : Int} {tgt : Nat} (hd : decode cc pc = .ok (.if_icmp .ne off, 3)) (ht : (pc : Int) + off = (tgt : Int)) (k1 : ¬ x = z → AW κ (δ, b, n, nL, sh, tp, Qc, mc, ms) N cells slots tgt ls st μ) (k2 : x = z → AW κ (δ, b, n, nL, sh, tp, Qc, mc, ms) N cells slots (pc + 3) ls st μ) : AW κ (δ, b, n, nL, sh, tp, Qc, mc, ms) N cells slots pc ls (.int z :: .int x :: st) μ := by
  obtain ⟨p, l, e, R, s, m, args, below, meth, c⟩ := κ
  intro H locs lsr hP hT hS h
  exact lv_icmp_ne X.1 X.2.1 hd ht (fun q => k1 q H locs lsr hP hT hS h) (fun q => k2 q H locs lsr hP hT hS h)
theorem AW.if_lt (X : CX κ (δ, b, n, nL, sh, tp, Qc, mc, ms) own nm cc ret d) {x : Int32} {off : Int} {tgt : Nat} (hd : decode cc pc = .ok (.ifCond .lt off, 3)) (ht : (pc : Int) + off = (tgt : Int)) (k1 : x < 0 → AW κ (δ, b, n, nL, sh, tp, Qc, mc, ms) N cells slots tgt ls st μ) (k2 : ¬ (x < 0) → AW κ (δ, b, n, nL, sh, tp, Qc, mc, ms) N cells slots (pc + 3) ls st μ) : AW κ (δ, b, n, nL, sh, tp, Qc, mc, ms) N cells slots pc ls (.int x :: st) μ := by
  obtain ⟨p, l, e, R, s, m, args, below, meth, c⟩ := κ
  intro H locs lsr hP hT hS h
  exact lv_if_lt X.1 X.2.1 hd ht (fun q => k1 q H locs lsr hP hT hS h) (fun q => k2 q H locs lsr hP hT hS h)
theorem AW.icmp_lt (X : CX κ (δ, b, n, nL, sh, tp, Qc, mc, ms) own nm cc ret d) {x z : Int32} {off : Int} {tgt : Nat} (hd : decode cc pc = .ok (.if_icmp .lt off, 3)) (ht : (pc : Int) + off = (tgt : Int)) (k1 : x < z → AW κ (δ, b, n, nL, sh, tp, Qc, mc, ms) N cells slots tgt ls st μ) (k2 : ¬ (x < z) → AW κ (δ, b, n, nL, sh, tp, Qc, mc, ms) N cells slots (pc + 3) ls st μ) : AW κ (δ, b, n, nL, sh, tp, Qc, mc, ms) N cells slots pc ls (.int z :: .int x :: st) μ := by
  obtain ⟨p, l, e, R, s, m, args, below, meth, c⟩ := κ
  intro H locs lsr hP hT hS h
  exact lv_icmp_lt X.1 X.2.1 hd ht (fun q => k1 q H locs lsr hP hT hS h) (fun q => k2 q H locs lsr hP hT hS h)
theorem AW.if_ge (X : CX κ (δ, b, n, nL, sh, tp, Qc, mc, ms) own nm cc ret d) {x : Int32} {off : Int} {tgt : Nat} (hd : decode cc pc = .ok (.ifCond .ge off, 3)) (ht : (pc : Int) + off = (tgt : Int)) (k1 : 0 ≤ x → AW κ (δ, b, n, nL, sh, tp, Qc, mc, ms) N cells slots tgt ls st μ) (k2 : ¬ (0 ≤ x) → AW κ (δ, b, n, nL, sh, tp, Qc, mc, ms) N cells slots (pc + 3) ls st μ) : AW κ (δ, b, n, nL, sh, tp, Qc, mc, ms) N cells slots pc ls (.int x :: st) μ := by
  obtain ⟨p, l, e, R, s, m, args, below, meth, c⟩ := κ
  intro H locs lsr hP hT hS h
  exact lv_if_ge X.1 X.2.1 hd ht (fun q => k1 q H locs lsr hP hT hS h) (fun q => k2 q H locs lsr hP hT hS h)
theorem AW.icmp_ge (X : CX κ (δ, b, n, nL, sh, tp, Qc, mc, ms) own nm cc ret d) {x z : Int32} {off : Int} {tgt : Nat} (hd : decode cc pc = .ok (.if_icmp .ge off, 3)) (ht : (pc : Int) + off = (tgt : Int)) (k1 : z ≤ x → AW κ (δ, b, n, nL, sh, tp, Qc, mc, ms) N cells slots tgt ls st μ) (k2 : ¬ (z ≤ x) → AW κ (δ, b, n, nL, sh, tp, Qc, mc, ms) N cells slots (pc + 3) ls st μ) : AW κ (δ, b, n, nL, sh, tp, Qc, mc, ms) N cells slots pc ls (.int z :: .int x :: st) μ := by
  obtain ⟨p, l, e, R, s, m, args, below, meth, c⟩ := κ
  intro H locs lsr hP hT hS h
  exact lv_icmp_ge X.1 X.2.1 hd ht (fun q => k1 q H locs lsr hP hT hS h) (fun q => k2 q H locs lsr hP hT hS h)
theorem AW.if_gt (X : CX κ (δ, b, n, nL, sh, tp, Qc, mc, ms) own nm cc ret d) {x : Int32} {off : Int} {tgt : Nat} (hd : decode cc pc = .ok (.ifCond .gt off, 3)) (ht : (pc : Int) + off = (tgt : Int)) (k1 : 0 < x → AW κ (δ, b, n, nL, sh, tp, Qc, mc, ms) N cells slots tgt ls st μ) (k2 : ¬ (0 < x) → AW κ (δ, b, n, nL, sh, tp, Qc, mc, ms) N cells slots (pc + 3) ls st μ) : AW κ (δ, b, n, nL, sh, tp, Qc, mc, ms) N cells slots pc ls (.int x :: st) μ := by
  obtain ⟨p, l, e, R, s, m, args, below, meth, c⟩ := κ
  intro H locs lsr hP hT hS h
  exact lv_if_gt X.1 X.2.1 hd ht (fun q => k1 q H locs lsr hP hT hS h) (fun q => k2 q H locs lsr hP hT hS h)
theorem AW.icmp_gt (X : CX κ (δ, b, n, nL, sh, tp, Qc, mc, ms) own nm cc ret d) {x z : Int32} {off : Int} {tgt : Nat} (hd : decode cc pc = .ok (.if_icmp .gt off, 3)) (ht : (pc : Int) + off = (tgt : Int)) (k1 : z < x → AW κ (δ, b, n, nL, sh, tp, Qc, mc, ms) N cells slots tgt ls st μ) (k2 : ¬ (z < x) → AW κ (δ, b, n, nL, sh, tp, Qc, mc, ms) N cells slots (pc + 3) ls st μ) : AW κ (δ, b, n, nL, sh, tp, Qc, mc, ms) N cells slots pc ls (.int z :: .int x :: st) μ := by
  obtain ⟨p, l, e, R, s, m, args, below, meth, c⟩ := κ
  intro H locs lsr hP hT hS h
  exact lv_icmp_gt X.1 X.2.1 hd ht (fun q => k1 q H locs lsr hP hT hS h) (fun q => k2 q H locs lsr hP hT hS h)
theorem AW.if_le (X : CX κ (δ, b, n, nL, sh, tp, Qc, mc, ms) own nm cc ret d) {x : Int32} {off : Int} {tgt : Nat} (hd : decode cc pc = .ok (.ifCond .le off, 3)) (ht : (pc : Int) + off = (tgt : Int)) (k1 : x ≤ 0 → AW κ (δ, b, n, nL, sh, tp, Qc, mc, ms) N cells slots tgt ls st μ) (k2 : ¬ (x ≤ 0) → AW κ (δ, b, n, nL, sh, tp, Qc, mc, ms) N cells slots (pc + 3) ls st μ) : AW κ (δ, b, n, nL, sh, tp, Qc, mc, ms) N cells slots pc ls (.int x :: st) μ := by
  obtain ⟨p, l, e, R, s, m, args, below, meth, c⟩ := κ
  intro H locs lsr hP hT hS h
  exact lv_if_le X.1 X.2.1 hd ht (fun q => k1 q H locs lsr hP hT hS h) (fun q => k2 q H locs lsr hP hT hS h)
theorem AW.icmp_le (X : CX κ (δ, b, n, nL, sh, tp, Qc, mc, ms) own nm cc ret d) {x z : Int32} {off : Int} {tgt : Nat} (hd : decode cc pc = .ok (.if_icmp .le off, 3)) (ht : (pc : Int) + off = (tgt : Int)) (k1 : x ≤ z → AW κ (δ, b, n, nL, sh, tp, Qc, mc, ms) N cells slots tgt ls st μ) (k2 : ¬ (x ≤ z) → AW κ (δ, b, n, nL, sh, tp, Qc, mc, ms) N cells slots (pc + 3) ls st μ) : AW κ (δ, b, n, nL, sh, tp, Qc, mc, ms) N cells slots pc ls (.int z :: .int x :: st) μ := by
  obtain ⟨p, l, e, R, s, m, args, below, meth, c⟩ := κ
  intro H locs lsr hP hT hS h
  exact lv_icmp_le X.1 X.2.1 hd ht (fun q => k1 q H locs lsr hP hT hS h) (fun q => k2 q H locs lsr hP hT hS h)
theorem AW.goto (X : CX κ (δ, b, n, nL, sh, tp, Qc, mc, ms) own nm cc ret d) {off : Int} {tgt : Nat} (hd : decode cc pc = .ok (.goto off, 3)) (ht : (pc : Int) + off = (tgt : Int)) (k : AW κ (δ, b, n, nL, sh, tp, Qc, mc, ms) N cells slots tgt ls st μ) : AW κ (δ, b, n, nL, sh, tp, Qc, mc, ms) N cells slots pc ls st μ := by
  obtain ⟨p, l, e, R, s, m, args, below, meth, c⟩ := κ
  intro H locs lsr hP hT hS h
  exact lv_goto X.1 X.2.1 hd ht (k H locs lsr hP hT hS h)
theorem AW.tableOut (X : CX κ (δ, b, n, nL, sh, tp, Qc, mc, ms) own nm cc ret d) {dflt lo hi : Int} {offs : Array Int} {len : Nat} {x : Int32} {tgt : Nat} (hd : decode cc pc = .ok (.tableswitch dflt lo hi offs, len)) (hx : x.toInt < lo ∨ hi < x.toInt) (ht : (pc : Int) + dflt = (tgt : Int)) (k : AW κ (δ, b, n, nL, sh, tp, Qc, mc, ms) N cells slots tgt ls st μ) : AW κ (δ, b, n, nL, sh, tp, Qc, mc, ms) N cells slots pc ls (.int x :: st) μ := by
  obtain ⟨p, l, e, R, s, m, args, below, meth, c⟩ := κ
  intro H locs lsr hP hT hS h
  exact lv_tableOut X.1 X.2.1 hd hx ht (k H locs lsr hP hT hS h)
theorem AW.tableIn (X : CX κ (δ, b, n, nL, sh, tp, Qc, mc, ms) own nm cc ret d) {dflt lo hi : Int} {offs : Array Int} {len : Nat} {x : Int32} {off : Int} {tgt : Nat} (hd : decode cc pc = .ok (.tableswitch dflt lo hi offs, len)) (h1 : ¬ x.toInt < lo) (h2 : ¬ hi < x.toInt) (ho : offs[(x.toInt - lo).toNat]? = some off) (ht : (pc : Int) + off = (tgt : Int)) (k : AW κ (δ, b, n, nL, sh, tp, Qc, mc, ms) N cells slots tgt ls st μ) : AW κ (δ, b, n, nL, sh, tp, Qc, mc, ms) N cells slots pc ls (.int x :: st) μ := by
  obtain ⟨p, l, e, R, s, m, args, below, meth, c⟩ := κ
  intro H locs lsr hP hT hS h
  exact lv_tableIn X.1 X.2.1 hd h1 h2 ho ht (k H locs lsr hP hT hS h)
theorem AW.ldci (X : CX κ (δ, b, n, nL, sh, tp, Qc, mc, ms) own nm cc ret d) {i : Nat} {v : Int32} (hd : decode cc pc = .ok (.ldc i, 2)) (hv : Cond.constant own i v ∈ TT) (k : AW κ (δ, b, n, nL, sh, tp, Qc, mc, ms) N cells slots (pc + 2) ls (.int v :: st) μ) : AW κ (δ, b, n, nL, sh, tp, Qc, mc, ms) N cells slots pc ls st μ := by
  obtain ⟨p, l, e, R, s, m, args, below, meth, c⟩ := κ
  intro H locs lsr hP hT hS h
  exact lv_ldc X.1 X.2.1 X.2.2.2.1 (X.2.2.2.2.1 _ hv) hd (k H locs lsr hP hT hS h)
theorem AW.ldciw (X : CX κ (δ, b, n, nL, sh, tp, Qc, mc, ms) own nm cc ret d) {i : Nat} {v : Int32} (hd : decode cc pc = .ok (.ldc_w i, 3)) (hv : Cond.constant own i v ∈ TT) (k : AW κ (δ, b, n, nL, sh, tp, Qc, mc, ms) N cells slots (pc + 3) ls (.int v :: st) μ) : AW κ (δ, b, n, nL, sh, tp, Qc, mc, ms) N cells slots pc ls st μ := by
  obtain ⟨p, l, e, R, s, m, args, below, meth, c⟩ := κ
  intro H locs lsr hP hT hS h
  exact lv_ldcw X.1 X.2.1 X.2.2.2.1 (X.2.2.2.2.1 _ hv) hd (k H locs lsr hP hT hS h)
theorem AW.ldcl (X : CX κ (δ, b, n, nL, sh, tp, Qc, mc, ms) own nm cc ret d) {i : Nat} {v : Int64} (hd : decode cc pc = .ok (.ldc2_w i, 3)) (hv : Cond.constantLong own i v ∈ TT) (k : AW κ (δ, b, n, nL, sh, tp, Qc, mc, ms) N cells slots (pc + 3) ls (.long v :: st) μ) : AW κ (δ, b, n, nL, sh, tp, Qc, mc, ms) N cells slots pc ls st μ := by
  obtain ⟨p, l, e, R, s, m, args, below, meth, c⟩ := κ
  intro H locs lsr hP hT hS h
  exact lv_ldc2 X.1 X.2.1 X.2.2.2.1 (X.2.2.2.2.1 _ hv) hd (k H locs lsr hP hT hS h)
/-- a class of the worlds: its fields, as the tables have them -/
def CF (c : Nat) (C : String) (T : u_T) : Prop := vwCl[c]? = some (C, T, ncf c) ∧ (∀ w ∈ u_ws C T (ncf c), w ∈ TT) ∧ (∀ k, k < ncf c → parseFieldDescriptor (T k).2.2.1 = some (cft c k)) ∧ ∀ a, a < ncf c → ∀ b, b < ncf c → a ≠ b → (T a).2.1 ≠ (T b).2.1
def GF (own : String) (idx c k : Nat) (C : String) (T : u_T) : Prop := CF c C T ∧ k < ncf c ∧ Cond.fieldLink own idx (T k).1 (T k).2.1 (T k).2.2.1 ∈ TT
def isI (c k : Nat) : Bool := match cft c k with
  | .int => true
  | .boolean => true
  | _ => false
def isR (c k : Nat) : Bool := match cft c k with
  | .int => false
  | .boolean => false
  | .long => false
  | .byte => false
  | .short => false
  | .char => false
  | .float => false
  | .double => false
  | _ => true
theorem isI_or {c k : Nat} (h : isI c k = true) : cft c k = .int ∨ cft c k = .boolean := by
  unfold isI at h
  split at h
  · exact Or.inl ‹_›
  · exact Or.inr ‹_›
  · cases h
theorem isR_val {c k : Nat} (h : isR c k = true) (b : Nat) (μ : Mm) (o : Nat) : fval b μ o k (cft c k) = va_rf ((μ.2.2 o k).map (fun j => b + j)) := by
  unfold isR at h
  cases e : cft c k <;> simp [e] at h <;> rfl
theorem isR_fits {c k : Nat} (h : isR c k = true) (r : Option Nat) : narrow (cft c k) (va_rf r) = va_rf r ∧ fits (cft c k) (va_rf r) = true := by
  unfold isR at h
  cases e : cft c k <;> simp [e] at h <;> cases r <;> exact ⟨rfl, rfl⟩
theorem fl_get {b : Nat} {μ : Mm} {o c k : Nat} (hk : k < ncf c) : ((List.range (ncf c)).map (fun k => fval b μ o k (cft c k)))[k]? = some (fval b μ o k (cft c k)) := by
  rw [List.getElem?_map, List.getElem?_range hk]
  rfl
theorem AW.getI (X : CX κ (δ, b, n, nL, sh, tp, Qc, mc, ms) own nm cc ret d) {idx c k0 o : Nat} {C : String} {T : u_T} (hd : decode cc pc = .ok (.getfield idx, 3)) (g : GF own idx c k0 C T) (ht : isI c k0 = true) (ho : OB sh N o c) {v : Int32} (hv : μ.1 o k0 = v) (k : AW κ (δ, b, n, nL, sh, tp, Qc, mc, ms) N cells slots (pc + 3) ls (.int v :: st) μ) : AW κ (δ, b, n, nL, sh, tp, Qc, mc, ms) N cells slots pc ls (.ref (b + o) :: st) μ := by
  obtain ⟨p, l, e, R, s, m, args, below, meth, c⟩ := κ
  intro H locs lsr hP hT hS h
  subst hv
  obtain ⟨⟨g1, g2, g3, g4⟩, g5, g6⟩ := g
  refine va_get X.1 X.2.1 X.2.2.2.2.1 g2 X.2.2.2.1 X.2.2.2.2.2.2.2.2.1.1 hP o (ob_get ho) g1 k0 g5 (X.2.2.2.2.1 _ g6) (fun x hx => hx) (v := .int (μ.1 o k0)) ?_ hd (k H locs lsr hP hT hS h)
  rw [fl_get g5]
  rcases isI_or ht with e | e <;> rw [e] <;> rfl
theorem AW.getR (X : CX κ (δ, b, n, nL, sh, tp, Qc, mc, ms) own nm cc ret d) {idx c k0 o r : Nat} {C : String} {T : u_T} (hd : decode cc pc = .ok (.getfield idx, 3)) (g : GF own idx c k0 C T) (ht : isR c k0 = true) (ho : OB sh N o c) (hr : μ.2.2 o k0 = some r) (k : AW κ (δ, b, n, nL, sh, tp, Qc, mc, ms) N cells slots (pc + 3) ls (.ref (b + r) :: st) μ) : AW κ (δ, b, n, nL, sh, tp, Qc, mc, ms) N cells slots pc ls (.ref (b + o) :: st) μ := by
  obtain ⟨p, l, e, R, s, m, args, below, meth, c⟩ := κ
  intro H locs lsr hP hT hS h
  obtain ⟨⟨g1, g2, g3, g4⟩, g5, g6⟩ := g
  refine va_get X.1 X.2.1 X.2.2.2.2.1 g2 X.2.2.2.1 X.2.2.2.2.2.2.2.2.1.1 hP o (ob_get ho) g1 k0 g5 (X.2.2.2.2.1 _ g6) (fun x hx => hx) (v := .ref (b + r)) ?_ hd (k H locs lsr hP hT hS h)
  rw [fl_get g5, isR_val ht, hr]
  rfl
theorem put_fits {δ : Dl} {s : State} {args : Array Value} (hts : ∀ w ∈ TT, w.before args s = true) (hK : KX δ s) {c k0 : Nat} {C : String} {T : u_T} (g : CF c C T) (g5 : k0 < ncf c) {b : Nat} {sh : Sh} {N o : Nat} {μ : Mm} {H : Heap} (hP : va_P δ.1 vwCl (wl δ b sh N μ) H) (ho : OB sh N o c) :
    ∃ (cf : ClassId) (kf : Class) (fi : Nat) (f : Field) (cell : Cell) (kC : Class), s.fieldFound? (T k0).1 (T k0).2.1 (T k0).2.2.1 = some (cf, kf, fi, f) ∧ f.isStatic = false ∧ s.vm.findClass C = some (δ.1.1 c) ∧ s.vm.classes[δ.1.1 c]? = some kC ∧ kC.kind = .ordinary ∧ H[b + o]? = some cell ∧ cell.cls = δ.1.1 c ∧ cell.vm = .none ∧ f.slot < cell.slots.size ∧
      ∀ (v : Value) (H1 : Heap), H1[b + o]? = some (cell.setSlot f.slot v) → va_at δ.1 vwCl (b + o, .inr (c, ((List.range (ncf c)).map (fun k => fval b μ o k (cft c k))).set k0 v)) H1 := by
  obtain ⟨g1, g2, g3, g4⟩ := g
  have hap := va_apart (own := C) hts g2 (cft c) g3 g4 hK.1 g1
  obtain ⟨r, h1, cell, q1, q2, q3, q4⟩ := hP o _ (ob_get ho)
  have hr : r = (C, T, ncf c) := Option.some.inj (h1.symm.trans g1)
  subst hr
  obtain ⟨hS, hfc, kC, hkC, hkind⟩ := hK.1.1 c _ g1
  obtain ⟨cf, kf, fi, f, hi, hsl⟩ := hS k0 g5
  refine ⟨cf, kf, fi, f, cell, kC, hi, (u_facts hfc hkC (u_lays hts g2 g5) hi).1, hfc, hkC, hkind, q1, q2, q3, by rw [hsl]; exact k2_hasslot (q4 k0 g5), fun v H1 e1 => ?_⟩
  rw [hsl] at e1
  exact ⟨_, g1, t_OB.to (V := updV (vp_V ((List.range (ncf c)).map (fun k => fval b μ o k (cft c k)))) k0 v) ⟨_, e1, q2, q3, t_set q4 hap g5 v⟩ (fun j _ => vp_updV_set (by rw [List.length_map, List.length_range]; exact g5) v j)⟩
theorem AW.putG (X : CX κ (δ, b, n, nL, sh, tp, Qc, mc, ms) own nm cc ret d) {idx ci k0 o : Nat} {C : String} {T : u_T} {v : Value} {μ2 : Mm} (hd : decode cc pc = .ok (.putfield idx, 3)) (g : GF own idx ci k0 C T) (hfin : (T k0).2.2.2 = false) (hf : narrow (cft ci k0) v = v ∧ fits (cft ci k0) v = true) (hset : (wl δ b sh N μ).set o (b + o, .inr (ci, ((List.range (ncf ci)).map (fun k => fval b μ o k (cft ci k))).set k0 v)) = wl δ b sh N μ2) (hn : N ≤ n) (ho : OB sh N o ci) (k : AW κ (δ, b, n, nL, sh, tp, Qc, mc, ms) N cells slots (pc + 3) ls st μ2) : AW κ (δ, b, n, nL, sh, tp, Qc, mc, ms) N cells slots pc ls (v :: .ref (b + o) :: st) μ := by
  obtain ⟨p, l, e, R, s, m, args, below, meth, c⟩ := κ
  intro H locs lsr hP hT hS h
  obtain ⟨g0, g5, g6⟩ := g
  have hts := X.2.2.2.2.1
  obtain ⟨cf, kf, fi, f, cell, kC, hi, hst, hfc, hkC, hkind, q1, q2, q3, hlt, hat⟩ := put_fits hts X.2.2.2.2.2.2.2.2.1 g0 g5 hP ho
  have hlay := hts _ (g0.2.1 _ (u_in_lay g5))
  unfold u_lay at hlay
  rw [if_neg (by rw [hfin]; decide)] at hlay
  have h6 := u_store hfc hkC hkind hlay hi (g0.2.2.1 k0 g5) hf.1 hf.2
  refine W.putK X.1 X.2.1 (f := f) ⟨X.2.2.2.1, hts _ g6, ⟨_, _, _, hi⟩, hst⟩ (by rw [q2]; exact h6) q1 q3 hlt rfl rfl hd fun H1 e1 e2 e3 => ?_
  have hD := wl_D (δ := δ) (b := b) (sh := sh) (μ := μ) hn
  have hP1 := hP.set hD (ob_get ho) (hat v H1 e1) e3
  rw [hset] at hP1
  exact k H1 _ lsr hP1 (fun q => e2.trans (hT q)) (hS.put e2 e3 (hD.2 o _ (ob_get ho))) h
theorem AW.putGF (X : CX κ (δ, b, n, nL, sh, tp, Qc, mc, ms) own nm cc ret d) {idx ci k0 o : Nat} {C : String} {T : u_T} {v : Value} {μ2 : Mm} (hd : decode cc pc = .ok (.putfield idx, 3)) (g : GF own idx ci k0 C T) (hfin : (T k0).2.2.2 = true) (hdecl : (T k0).1 = own) (hnm : nm = "<init>") (hf : narrow (cft ci k0) v = v ∧ fits (cft ci k0) v = true) (hset : (wl δ b sh N μ).set o (b + o, .inr (ci, ((List.range (ncf ci)).map (fun k => fval b μ o k (cft ci k))).set k0 v)) = wl δ b sh N μ2) (hn : N ≤ n) (ho : OB sh N o ci) (k : AW κ (δ, b, n, nL, sh, tp, Qc, mc, ms) N cells slots (pc + 3) ls st μ2) : AW κ (δ, b, n, nL, sh, tp, Qc, mc, ms) N cells slots pc ls (v :: .ref (b + o) :: st) μ := by
  obtain ⟨p, l, e, R, s, m, args, below, meth, c⟩ := κ
  intro H locs lsr hP hT hS h
  obtain ⟨g0, g5, g6⟩ := g
  have hts := X.2.2.2.2.1
  obtain ⟨cf, kf, fi, f, cell, kC, hi, hst, hfc, hkC, hkind, q1, q2, q3, hlt, hat⟩ := put_fits hts X.2.2.2.2.2.2.2.2.1 g0 g5 hP ho
  have hlay := hts _ (g0.2.1 _ (u_in_lay g5))
  unfold u_lay at hlay
  rw [if_pos hfin] at hlay
  have hcf : m.cls = cf := by
    obtain ⟨_, _, c', _, _, _, -, -, hf', -, -, -, hown2, -⟩ := Cond.laysFinal_spec hlay
    have e1 : c' = cf := by have := hi.symm.trans hf'; simp at this; exact this.1.symm
    rw [hdecl] at hown2
    rw [← e1]; exact Option.some.inj (X.2.2.2.1.symm.trans hown2)
  have h6 := u_fits hfc hkC hkind (Or.inr hlay) hi (g0.2.2.1 k0 g5) hf.1 hf.2
  refine W.putFinK X.1 X.2.1 X.2.2.2.1 (hts _ g6) hi hst hcf (X.2.2.2.2.2.2.2.1.trans hnm) (by rw [q2]; exact h6) q1 q3 hlt rfl rfl hd fun H1 e1 e2 e3 => ?_
  have hD := wl_D (δ := δ) (b := b) (sh := sh) (μ := μ) hn
  have hP1 := hP.set hD (ob_get ho) (hat v H1 e1) e3
  rw [hset] at hP1
  exact k H1 _ lsr hP1 (fun q => e2.trans (hT q)) (hS.put e2 e3 (hD.2 o _ (ob_get ho))) h
theorem AW.putI (X : CX κ (δ, b, n, nL, sh, tp, Qc, mc, ms) own nm cc ret d) {idx ci k0 o : Nat} {C : String} {T : u_T} {v : Int32} (hd : decode cc pc = .ok (.putfield idx, 3)) (g : GF own idx ci k0 C T) (ht : isI ci k0 = true) (hfin : (T k0).2.2.2 = false) (hf : narrow (cft ci k0) (.int v) = .int v ∧ fits (cft ci k0) (.int v) = true) (hn : N ≤ n) (ho : OB sh N o ci) (k : AW κ (δ, b, n, nL, sh, tp, Qc, mc, ms) N cells slots (pc + 3) ls st (wI μ o k0 v)) : AW κ (δ, b, n, nL, sh, tp, Qc, mc, ms) N cells slots pc ls (.int v :: .ref (b + o) :: st) μ :=
  AW.putG X hd g hfin hf (ob_setI ho g.2.1 (isI_or ht)) hn ho k
theorem AW.putR (X : CX κ (δ, b, n, nL, sh, tp, Qc, mc, ms) own nm cc ret d) {idx ci k0 o r : Nat} {C : String} {T : u_T} (hd : decode cc pc = .ok (.putfield idx, 3)) (g : GF own idx ci k0 C T) (ht : isR ci k0 = true) (hfin : (T k0).2.2.2 = false) (hn : N ≤ n) (ho : OB sh N o ci) (k : AW κ (δ, b, n, nL, sh, tp, Qc, mc, ms) N cells slots (pc + 3) ls st (wR μ o k0 (some r))) : AW κ (δ, b, n, nL, sh, tp, Qc, mc, ms) N cells slots pc ls (.ref (b + r) :: .ref (b + o) :: st) μ :=
  AW.putG (v := .ref (b + r)) X hd g hfin (isR_fits ht (some (b + r))) (ob_setR (v := some r) ho g.2.1 (isR_val ht)) hn ho k
theorem AW.putIF (X : CX κ (δ, b, n, nL, sh, tp, Qc, mc, ms) own nm cc ret d) {idx ci k0 o : Nat} {C : String} {T : u_T} {v : Int32} (hd : decode cc pc = .ok (.putfield idx, 3)) (g : GF own idx ci k0 C T) (ht : isI ci k0 = true) (hfin : (T k0).2.2.2 = true) (hdecl : (T k0).1 = own) (hnm : nm = "<init>") (hf : narrow (cft ci k0) (.int v) = .int v ∧ fits (cft ci k0) (.int v) = true) (hn : N ≤ n) (ho : OB sh N o ci) (k : AW κ (δ, b, n, nL, sh, tp, Qc, mc, ms) N cells slots (pc + 3) ls st (wI μ o k0 v)) : AW κ (δ, b, n, nL, sh, tp, Qc, mc, ms) N cells slots pc ls (.int v :: .ref (b + o) :: st) μ :=
  AW.putGF X hd g hfin hdecl hnm hf (ob_setI ho g.2.1 (isI_or ht)) hn ho k
theorem AW.putRF (X : CX κ (δ, b, n, nL, sh, tp, Qc, mc, ms) own nm cc ret d) {idx ci k0 o r : Nat} {C : String} {T : u_T} (hd : decode cc pc = .ok (.putfield idx, 3)) (g : GF own idx ci k0 C T) (ht : isR ci k0 = true) (hfin : (T k0).2.2.2 = true) (hdecl : (T k0).1 = own) (hnm : nm = "<init>") (hn : N ≤ n) (ho : OB sh N o ci) (k : AW κ (δ, b, n, nL, sh, tp, Qc, mc, ms) N cells slots (pc + 3) ls st (wR μ o k0 (some r))) : AW κ (δ, b, n, nL, sh, tp, Qc, mc, ms) N cells slots pc ls (.ref (b + r) :: .ref (b + o) :: st) μ :=
  AW.putGF (v := .ref (b + r)) X hd g hfin hdecl hnm (isR_fits ht (some (b + r))) (ob_setR (v := some r) ho g.2.1 (isR_val ht)) hn ho k
theorem storeI (cA : ClassId) (a9 : Nat) (f : Nat → Int32) (k : Nat) (v : Int32) : (vp_cell cA (a9, .inl f)).setSlot k (.int v) = vp_cell cA (a9, .inl (upd f k v)) := by
  rw [vp_cell_i, vp_cell_i, arrV_store]
  congr 1
  funext j
  simp only [updV, upd]
  split <;> rfl
theorem storeL (cA : ClassId) (a9 : Nat) (f : Nat → Int64) (k : Nat) (v : Int64) : (vp_cell cA (a9, .inr (.inl f))).setSlot k (.long v) = vp_cell cA (a9, .inr (.inl (vp_updL f k v))) := by
  rw [vp_cell_l, vp_cell_l, arrV_store]
  congr 1
  funext j
  simp only [updV, vp_updL]
  split <;> rfl
theorem AW.iaload (X : CX κ (δ, b, n, nL, sh, tp, Qc, mc, ms) own nm cc ret d) {o a9 : Nat} {i : Int32} (hd : decode cc pc = .ok (.iaload, 1)) (ho : AR sh N o 0 a9) (hi : vp_in i a9) {v : Int32} (hv : μ.1 o i.toNatClampNeg = v) (k : AW κ (δ, b, n, nL, sh, tp, Qc, mc, ms) N cells slots (pc + 1) ls (.int v :: st) μ) : AW κ (δ, b, n, nL, sh, tp, Qc, mc, ms) N cells slots pc ls (.int i :: .ref (b + o) :: st) μ := by
  obtain ⟨p, l, e, R, s, m, args, below, meth, c⟩ := κ
  intro H locs lsr hP hT hS h
  subst hv
  exact va_iald X.1 X.2.1 X.2.2.2.2.2.2.2.2.1.1 hP o 0 (ar_getI ho) rfl hi hd (k H locs lsr hP hT hS h)
theorem AW.laload (X : CX κ (δ, b, n, nL, sh, tp, Qc, mc, ms) own nm cc ret d) {o a9 : Nat} {i : Int32} (hd : decode cc pc = .ok (.laload, 1)) (ho : AR sh N o 1 a9) (hi : vp_in i a9) {v : Int64} (hv : μ.2.1 o i.toNatClampNeg = v) (k : AW κ (δ, b, n, nL, sh, tp, Qc, mc, ms) N cells slots (pc + 1) ls (.long v :: st) μ) : AW κ (δ, b, n, nL, sh, tp, Qc, mc, ms) N cells slots pc ls (.int i :: .ref (b + o) :: st) μ := by
  obtain ⟨p, l, e, R, s, m, args, below, meth, c⟩ := κ
  intro H locs lsr hP hT hS h
  subst hv
  exact va_lald X.1 X.2.1 X.2.2.2.2.2.2.2.2.1.1 hP o 1 (ar_getL ho) rfl hi hd (k H locs lsr hP hT hS h)
theorem AW.aaload (X : CX κ (δ, b, n, nL, sh, tp, Qc, mc, ms) own nm cc ret d) {o t9 a9 r : Nat} {i : Int32} {ty : FieldType} (hd : decode cc pc = .ok (.aaload, 1)) (ht : (tys δ)[t9 + 2]? = some (δ.2.1 (t9 + 2), ty)) (hty : ty.isReference = true) (ho : AR sh N o (t9 + 2) a9) (hi : vp_in i a9) (hr : μ.2.2 o i.toNatClampNeg = some r) (k : AW κ (δ, b, n, nL, sh, tp, Qc, mc, ms) N cells slots (pc + 1) ls (.ref (b + r) :: st) μ) : AW κ (δ, b, n, nL, sh, tp, Qc, mc, ms) N cells slots pc ls (.int i :: .ref (b + o) :: st) μ := by
  obtain ⟨p, l, e, R, s, m, args, below, meth, c⟩ := κ
  intro H locs lsr hP hT hS h
  have hlt : i.toNatClampNeg < a9 := Nat.not_le.mp fun q => hi (Or.inr q)
  refine W.aald (v := .ref (b + r)) X.1 X.2.1 (hP o _ (ar_getR ho)) ((X.2.2.2.2.2.2.2.2.1.1.2 _ _ ht).1 a9 (fun j => va_rf ((μ.2.2 o j).map (fun i => b + i)))) hty (fun q => by cases q) (by show ¬ (i < 0 ∨ (arrV _ _ _).slots.size ≤ _); rw [arrV_size]; exact hi) ?_ rfl rfl hd (k H locs lsr hP hT hS h)
  show (arrV _ _ _).slots[_]? = _
  rw [arrV_read _ _ hlt]
  show some (va_rf ((μ.2.2 o i.toNatClampNeg).map (fun i => b + i))) = _
  rw [hr]
  rfl
theorem AW.iastore (X : CX κ (δ, b, n, nL, sh, tp, Qc, mc, ms) own nm cc ret d) {o a9 : Nat} {i : Int32} {v : Int32} (hd : decode cc pc = .ok (.iastore, 1)) (hn : N ≤ n) (ho : AR sh N o 0 a9) (hi : vp_in i a9) (k : AW κ (δ, b, n, nL, sh, tp, Qc, mc, ms) N cells slots (pc + 1) ls st (wI μ o i.toNatClampNeg v)) : AW κ (δ, b, n, nL, sh, tp, Qc, mc, ms) N cells slots pc ls (.int v :: .int i :: .ref (b + o) :: st) μ := by
  obtain ⟨p, l, e, R, s, m, args, below, meth, c⟩ := κ
  intro H locs lsr hP hT hS h
  refine W.iast X.1 X.2.1 (hP o _ (ar_getI ho)) ((X.2.2.2.2.2.2.2.2.1.1.2 0 _ rfl).1 a9 _) (fun q => by cases q) (by show ¬ (i < 0 ∨ (arrV _ _ _).slots.size ≤ _); rw [arrV_size]; exact hi) rfl rfl hd fun H1 e z oq => ?_
  have hD := wl_D (δ := δ) (b := b) (sh := sh) (μ := μ) hn
  have hP1 := hP.set hD (ar_getI ho) (e := .inl (δ.2.1 0, a9, .inl (upd (μ.1 o) i.toNatClampNeg v))) (by show H1[b + o]? = some (vp_cell _ _); rw [e]; exact congrArg some (storeI _ _ _ _ _)) oq
  exact k H1 _ lsr (by rw [ar_setI ho] at hP1; exact hP1) (fun q => z.trans (hT q)) (hS.put z oq (hD.2 o _ (ar_getI ho))) h
theorem AW.lastore (X : CX κ (δ, b, n, nL, sh, tp, Qc, mc, ms) own nm cc ret d) {o a9 : Nat} {i : Int32} {v : Int64} (hd : decode cc pc = .ok (.lastore, 1)) (hn : N ≤ n) (ho : AR sh N o 1 a9) (hi : vp_in i a9) (k : AW κ (δ, b, n, nL, sh, tp, Qc, mc, ms) N cells slots (pc + 1) ls st (wL μ o i.toNatClampNeg v)) : AW κ (δ, b, n, nL, sh, tp, Qc, mc, ms) N cells slots pc ls (.long v :: .int i :: .ref (b + o) :: st) μ := by
  obtain ⟨p, l, e, R, s, m, args, below, meth, c⟩ := κ
  intro H locs lsr hP hT hS h
  refine W.last X.1 X.2.1 (hP o _ (ar_getL ho)) ((X.2.2.2.2.2.2.2.2.1.1.2 1 _ rfl).1 a9 _) (fun q => by cases q) (by show ¬ (i < 0 ∨ (arrV _ _ _).slots.size ≤ _); rw [arrV_size]; exact hi) rfl rfl hd fun H1 e z oq => ?_
  have hD := wl_D (δ := δ) (b := b) (sh := sh) (μ := μ) hn
  have hP1 := hP.set hD (ar_getL ho) (e := .inl (δ.2.1 1, a9, .inr (.inl (vp_updL (μ.2.1 o) i.toNatClampNeg v)))) (by show H1[b + o]? = some (vp_cell _ _); rw [e]; exact congrArg some (storeL _ _ _ _ _)) oq
  exact k H1 _ lsr (by rw [ar_setL ho] at hP1; exact hP1) (fun q => z.trans (hT q)) (hS.put z oq (hD.2 o _ (ar_getL ho))) h
theorem AW.alen (X : CX κ (δ, b, n, nL, sh, tp, Qc, mc, ms) own nm cc ret d) {o t9 a9 : Nat} {ty : FieldType} (hd : decode cc pc = .ok (.arraylength, 1)) (ht : (tys δ)[t9]? = some (δ.2.1 t9, ty)) (ho : AR sh N o t9 a9) (k : AW κ (δ, b, n, nL, sh, tp, Qc, mc, ms) N cells slots (pc + 1) ls (.int (nI a9) :: st) μ) : AW κ (δ, b, n, nL, sh, tp, Qc, mc, ms) N cells slots pc ls (.ref (b + o) :: st) μ := by
  obtain ⟨p, l, e, R, s, m, args, below, meth, c⟩ := κ
  intro H locs lsr hP hT hS h
  have key : ∃ z : Nat → Value, va_at δ.1 vwCl (b + o, ent δ b sh μ o) H → H[b + o]? = some (arrV (δ.2.1 t9) a9 z) := by
    unfold ent
    rw [ho.2]
    match t9 with
    | 0 => exact ⟨fun j => .int (μ.1 o j), fun q => q⟩
    | 1 => exact ⟨fun j => .long (μ.2.1 o j), fun q => q⟩
    | t + 2 => exact ⟨fun j => va_rf ((μ.2.2 o j).map (fun i => b + i)), fun q => q⟩
  obtain ⟨z, hz⟩ := key
  refine W.alen X.1 X.2.1 (hz (hP o _ (wl_get ho.1))) ((X.2.2.2.2.2.2.2.2.1.1.2 _ _ ht).1 a9 z) ?_ rfl rfl hd (k H locs lsr hP hT hS h)
  rw [arrV_size]
  rfl
theorem AW.iret (X : CX κ (δ, b, n, nL, sh, tp, Qc, mc, ms) own nm cc (some .int) d) {post : Option Value → Mm → Prop} {v : Int32} (hQ : Qc = MQc δ b n sh N tp post) (hd : decode cc pc = .ok (.ireturn, 1)) (hp : post (some (.int v)) μ) : AW κ (δ, b, n, nL, sh, tp, Qc, mc, ms) N mc ms pc ls [.int v] μ := by
  obtain ⟨p, l, e, R, s, m, args, below, meth, c⟩ := κ
  intro H locs lsr hP hT hS h
  subst hQ
  exact W.iret X.1 X.2.1 X.2.2.2.2.2.2.1 (fun t ht hW => ⟨⟨_, μ, rfl, hp, by rw [ht]; exact hP, fun q => by rw [ht]; exact hT q⟩, hS.F ht⟩) hS.2.2 hd X.2.2.2.2.2.1
theorem AW.zret {ty : FieldType} (X : CX κ (δ, b, n, nL, sh, tp, Qc, mc, ms) own nm cc (some ty) d) {post : Option Value → Mm → Prop} {v : Int32} (hv : narrow ty (.int v) = .int v) (hQ : Qc = MQc δ b n sh N tp post) (hd : decode cc pc = .ok (.ireturn, 1)) (hp : post (some (.int v)) μ) : AW κ (δ, b, n, nL, sh, tp, Qc, mc, ms) N mc ms pc ls [.int v] μ := by
  obtain ⟨p, l, e, R, s, m, args, below, meth, c⟩ := κ
  intro H locs lsr hP hT hS h
  subst hQ
  exact W.zret X.1 X.2.1 X.2.2.2.2.2.2.1 hv (fun t ht hW => ⟨⟨_, μ, rfl, hp, by rw [ht]; exact hP, fun q => by rw [ht]; exact hT q⟩, hS.F ht⟩) hS.2.2 hd X.2.2.2.2.2.1
theorem AW.lret (X : CX κ (δ, b, n, nL, sh, tp, Qc, mc, ms) own nm cc (some .long) d) {post : Option Value → Mm → Prop} {v : Int64} (hQ : Qc = MQc δ b n sh N tp post) (hd : decode cc pc = .ok (.lreturn, 1)) (hp : post (some (.long v)) μ) : AW κ (δ, b, n, nL, sh, tp, Qc, mc, ms) N mc ms pc ls [.long v] μ := by
  obtain ⟨p, l, e, R, s, m, args, below, meth, c⟩ := κ
  intro H locs lsr hP hT hS h
  subst hQ
  exact W.lret X.1 X.2.1 X.2.2.2.2.2.2.1 (fun t ht hW => ⟨⟨_, μ, rfl, hp, by rw [ht]; exact hP, fun q => by rw [ht]; exact hT q⟩, hS.F ht⟩) hS.2.2 hd X.2.2.2.2.2.1
theorem AW.vret (X : CX κ (δ, b, n, nL, sh, tp, Qc, mc, ms) own nm cc (none) d) {post : Option Value → Mm → Prop} (hQ : Qc = MQc δ b n sh N tp post) (hd : decode cc pc = .ok (.return_, 1)) (hp : post (none) μ) : AW κ (δ, b, n, nL, sh, tp, Qc, mc, ms) N mc ms pc ls [] μ := by
  obtain ⟨p, l, e, R, s, m, args, below, meth, c⟩ := κ
  intro H locs lsr hP hT hS h
  subst hQ
  exact W.vret X.1 X.2.1 X.2.2.2.2.2.2.1 (fun t ht hW => ⟨⟨_, μ, rfl, hp, by rw [ht]; exact hP, fun q => by rw [ht]; exact hT q⟩, hS.F ht⟩) hS.2.2 hd X.2.2.2.2.2.1
theorem AW.aret {C : String} (X : CX κ (δ, b, n, nL, sh, tp, Qc, mc, ms) own nm cc (some (.object C)) d) {post : Option Value → Mm → Prop} {v : Nat} (hQ : Qc = MQc δ b n sh N tp post) (hd : decode cc pc = .ok (.areturn, 1)) (hp : post (some (.ref v)) μ) : AW κ (δ, b, n, nL, sh, tp, Qc, mc, ms) N mc ms pc ls [.ref v] μ := by
  obtain ⟨p, l, e, R, s, m, args, below, meth, c⟩ := κ
  intro H locs lsr hP hT hS h
  subst hQ
  exact W.aret X.1 X.2.1 X.2.2.2.2.2.2.1 (Or.inl ⟨C, rfl⟩) (Or.inr ⟨v, rfl⟩) (fun t ht hW => ⟨⟨_, μ, rfl, hp, by rw [ht]; exact hP, fun q => by rw [ht]; exact hT q⟩, hS.F ht⟩) hS.2.2 hd X.2.2.2.2.2.1
theorem nI_adds (a b : Nat) : nI a + nI b = nI (a + b) := nI_add a b
theorem n2_clamp {a : Nat} (h : a < 2147483648) : (nI a).toNatClampNeg = a := nI_clamp h
theorem n2_in {a N : Nat} (h : a < N) (hN : N < 2147483648) : vp_in (nI a) N := vp_in_nI h hN
theorem n2_eq {a b : Nat} (ha : a < 2147483648) (hb : b < 2147483648) : nI a = nI b ↔ a = b := nI_eq ha hb
theorem n2_le {a b : Nat} (ha : a < 2147483648) (hb : b < 2147483648) : nI a ≤ nI b ↔ a ≤ b := nI_leI ha hb
theorem n2_lt {a b : Nat} (ha : a < 2147483648) (hb : b < 2147483648) : nI a < nI b ↔ a < b := nI_ltI ha hb
theorem AW.iconstN (X : CX κ (δ, b, n, nL, sh, tp, Qc, mc, ms) own nm cc ret d) {i : Int} (a : Nat) (hd : decode cc pc = .ok (.iconst i, 1)) (hv : Int32.ofInt i = nI a) (k : AW κ (δ, b, n, nL, sh, tp, Qc, mc, ms) N cells slots (pc + 1) ls (.int (nI a) :: st) μ) : AW κ (δ, b, n, nL, sh, tp, Qc, mc, ms) N cells slots pc ls st μ := by
  obtain ⟨p, l, e, R, s, m, args, below, meth, c⟩ := κ
  intro H locs lsr hP hT hS h
  exact lv_iconst X.1 X.2.1 hd hv (k H locs lsr hP hT hS h)
theorem AW.bipushN (X : CX κ (δ, b, n, nL, sh, tp, Qc, mc, ms) own nm cc ret d) {i : Int} (a : Nat) (hd : decode cc pc = .ok (.bipush i, 2)) (hv : (Int8.ofInt i).toInt32 = nI a) (k : AW κ (δ, b, n, nL, sh, tp, Qc, mc, ms) N cells slots (pc + 2) ls (.int (nI a) :: st) μ) : AW κ (δ, b, n, nL, sh, tp, Qc, mc, ms) N cells slots pc ls st μ := by
  obtain ⟨p, l, e, R, s, m, args, below, meth, c⟩ := κ
  intro H locs lsr hP hT hS h
  exact lv_bipush X.1 X.2.1 hd hv (k H locs lsr hP hT hS h)
theorem AW.sipushN (X : CX κ (δ, b, n, nL, sh, tp, Qc, mc, ms) own nm cc ret d) {i : Int} (a : Nat) (hd : decode cc pc = .ok (.sipush i, 3)) (hv : (Int16.ofInt i).toInt32 = nI a) (k : AW κ (δ, b, n, nL, sh, tp, Qc, mc, ms) N cells slots (pc + 3) ls (.int (nI a) :: st) μ) : AW κ (δ, b, n, nL, sh, tp, Qc, mc, ms) N cells slots pc ls st μ := by
  obtain ⟨p, l, e, R, s, m, args, below, meth, c⟩ := κ
  intro H locs lsr hP hT hS h
  exact lv_sipush X.1 X.2.1 hd hv (k H locs lsr hP hT hS h)
theorem AW.iaddN (X : CX κ (δ, b, n, nL, sh, tp, Qc, mc, ms) own nm cc ret d) {a c : Nat} (hd : decode cc pc = .ok (.iadd, 1)) (k : AW κ (δ, b, n, nL, sh, tp, Qc, mc, ms) N cells slots (pc + 1) ls (.int (nI (a + c)) :: st) μ) : AW κ (δ, b, n, nL, sh, tp, Qc, mc, ms) N cells slots pc ls (.int (nI c) :: .int (nI a) :: st) μ := by
  obtain ⟨p, l, e, R, s, m, args, below, meth, c⟩ := κ
  intro H locs lsr hP hT hS h
  exact lv_iadd X.1 X.2.1 hd (by rw [nI_add]; exact (k H locs lsr hP hT hS h))
theorem AW.imulN (X : CX κ (δ, b, n, nL, sh, tp, Qc, mc, ms) own nm cc ret d) {a c : Nat} (hd : decode cc pc = .ok (.imul, 1)) (k : AW κ (δ, b, n, nL, sh, tp, Qc, mc, ms) N cells slots (pc + 1) ls (.int (nI (a * c)) :: st) μ) : AW κ (δ, b, n, nL, sh, tp, Qc, mc, ms) N cells slots pc ls (.int (nI c) :: .int (nI a) :: st) μ := by
  obtain ⟨p, l, e, R, s, m, args, below, meth, c⟩ := κ
  intro H locs lsr hP hT hS h
  exact lv_imul X.1 X.2.1 hd (by rw [pk_mul]; exact (k H locs lsr hP hT hS h))
theorem AW.isubN (X : CX κ (δ, b, n, nL, sh, tp, Qc, mc, ms) own nm cc ret d) {a c : Nat} (hd : decode cc pc = .ok (.isub, 1)) (hle : c ≤ a) (k : AW κ (δ, b, n, nL, sh, tp, Qc, mc, ms) N cells slots (pc + 1) ls (.int (nI (a - c)) :: st) μ) : AW κ (δ, b, n, nL, sh, tp, Qc, mc, ms) N cells slots pc ls (.int (nI c) :: .int (nI a) :: st) μ := by
  obtain ⟨p, l, e, R, s, m, args, below, meth, c⟩ := κ
  intro H locs lsr hP hT hS h
  exact lv_isub X.1 X.2.1 hd (by rw [pk_sub hle]; exact (k H locs lsr hP hT hS h))
theorem AW.iincN (X : CX κ (δ, b, n, nL, sh, tp, Qc, mc, ms) own nm cc ret d) {k0 a c : Nat} {i : Int} (hd : decode cc pc = .ok (.iinc k0 i, 3)) (hl : ls[k0]? = some (some (.int (nI a)))) (hv : nI a + Int32.ofInt i = nI c) (hl2 : (decide (k0 < nL) && okst ls k0) = true) (k : AW κ (δ, b, n, nL, sh, tp, Qc, mc, ms) N cells slots (pc + 3) (ls.set k0 (some (.int (nI c)))) st μ) : AW κ (δ, b, n, nL, sh, tp, Qc, mc, ms) N cells slots pc ls st μ := AW.iinc X hd hl rfl hl2 (by rw [hv]; exact k)
theorem inc_1 (a : Nat) : nI a + Int32.ofInt 1 = nI (a + 1) := nI_1 a
theorem dec_1 (a : Nat) : nI (a + 1) + Int32.ofInt (-1) = nI a := pk_m1 a
theorem AW.icmp_eqN (X : CX κ (δ, b, n, nL, sh, tp, Qc, mc, ms) own nm cc ret d) {a c : Nat} {off : Int} {tgt : Nat} (hd : decode cc pc = .ok (.if_icmp .eq off, 3)) (ht : (pc : Int) + off = (tgt : Int)) (ha : a < 2147483648) (hc : c < 2147483648) (k1 : a = c → AW κ (δ, b, n, nL, sh, tp, Qc, mc, ms) N cells slots tgt ls st μ) (k2 : a ≠ c → AW κ (δ, b, n, nL, sh, tp, Qc, mc, ms) N cells slots (pc + 3) ls st μ) : AW κ (δ, b, n, nL, sh, tp, Qc, mc, ms) N cells slots pc ls (.int (nI c) :: .int (nI a) :: st) μ := AW.icmp_eq X hd ht (fun q => k1 ((n2_eq ha hc).mp q)) (fun q => k2 (fun z => q ((n2_eq ha hc).mpr z)))
theorem AW.icmp_neN (X : CX κ (δ, b, n, nL, sh, tp, Qc, mc, ms) own nm cc ret d) {a c : Nat} {off : Int} {tgt : Nat} (hd : decode cc pc = .ok (.if_icmp .ne off, 3)) (ht : (pc : Int) + off = (tgt : Int)) (ha : a < 2147483648) (hc : c < 2147483648) (k1 : a ≠ c → AW κ (δ, b, n, nL, sh, tp, Qc, mc, ms) N cells slots tgt ls st μ) (k2 : a = c → AW κ (δ, b, n, nL, sh, tp, Qc, mc, ms) N cells slots (pc + 3) ls st μ) : AW κ (δ, b, n, nL, sh, tp, Qc, mc, ms) N cells slots pc ls (.int (nI c) :: .int (nI a) :: st) μ := AW.icmp_ne X hd ht (fun q => k1 (fun z => q ((n2_eq ha hc).mpr z))) (fun q => k2 ((n2_eq ha hc).mp q))
theorem AW.icmp_ltN (X : CX κ (δ, b, n, nL, sh, tp, Qc, mc, ms) own nm cc ret d) {a c : Nat} {off : Int} {tgt : Nat} (hd : decode cc pc = .ok (.if_icmp .lt off, 3)) (ht : (pc : Int) + off = (tgt : Int)) (ha : a < 2147483648) (hc : c < 2147483648) (k1 : a < c → AW κ (δ, b, n, nL, sh, tp, Qc, mc, ms) N cells slots tgt ls st μ) (k2 : c ≤ a → AW κ (δ, b, n, nL, sh, tp, Qc, mc, ms) N cells slots (pc + 3) ls st μ) : AW κ (δ, b, n, nL, sh, tp, Qc, mc, ms) N cells slots pc ls (.int (nI c) :: .int (nI a) :: st) μ := AW.icmp_lt X hd ht (fun q => k1 ((n2_lt ha hc).mp q)) (fun q => k2 (by have := mt (n2_lt ha hc).mpr q; omega))
theorem AW.icmp_geN (X : CX κ (δ, b, n, nL, sh, tp, Qc, mc, ms) own nm cc ret d) {a c : Nat} {off : Int} {tgt : Nat} (hd : decode cc pc = .ok (.if_icmp .ge off, 3)) (ht : (pc : Int) + off = (tgt : Int)) (ha : a < 2147483648) (hc : c < 2147483648) (k1 : c ≤ a → AW κ (δ, b, n, nL, sh, tp, Qc, mc, ms) N cells slots tgt ls st μ) (k2 : a < c → AW κ (δ, b, n, nL, sh, tp, Qc, mc, ms) N cells slots (pc + 3) ls st μ) : AW κ (δ, b, n, nL, sh, tp, Qc, mc, ms) N cells slots pc ls (.int (nI c) :: .int (nI a) :: st) μ := AW.icmp_ge X hd ht (fun q => k1 ((n2_le hc ha).mp q)) (fun q => k2 (by have := mt (n2_le hc ha).mpr q; omega))
theorem AW.icmp_gtN (X : CX κ (δ, b, n, nL, sh, tp, Qc, mc, ms) own nm cc ret d) {a c : Nat} {off : Int} {tgt : Nat} (hd : decode cc pc = .ok (.if_icmp .gt off, 3)) (ht : (pc : Int) + off = (tgt : Int)) (ha : a < 2147483648) (hc : c < 2147483648) (k1 : c < a → AW κ (δ, b, n, nL, sh, tp, Qc, mc, ms) N cells slots tgt ls st μ) (k2 : a ≤ c → AW κ (δ, b, n, nL, sh, tp, Qc, mc, ms) N cells slots (pc + 3) ls st μ) : AW κ (δ, b, n, nL, sh, tp, Qc, mc, ms) N cells slots pc ls (.int (nI c) :: .int (nI a) :: st) μ := AW.icmp_gt X hd ht (fun q => k1 ((n2_lt hc ha).mp q)) (fun q => k2 (by have := mt (n2_lt hc ha).mpr q; omega))
theorem AW.icmp_leN (X : CX κ (δ, b, n, nL, sh, tp, Qc, mc, ms) own nm cc ret d) {a c : Nat} {off : Int} {tgt : Nat} (hd : decode cc pc = .ok (.if_icmp .le off, 3)) (ht : (pc : Int) + off = (tgt : Int)) (ha : a < 2147483648) (hc : c < 2147483648) (k1 : a ≤ c → AW κ (δ, b, n, nL, sh, tp, Qc, mc, ms) N cells slots tgt ls st μ) (k2 : c < a → AW κ (δ, b, n, nL, sh, tp, Qc, mc, ms) N cells slots (pc + 3) ls st μ) : AW κ (δ, b, n, nL, sh, tp, Qc, mc, ms) N cells slots pc ls (.int (nI c) :: .int (nI a) :: st) μ := AW.icmp_le X hd ht (fun q => k1 ((n2_le ha hc).mp q)) (fun q => k2 (by have := mt (n2_le ha hc).mpr q; omega))
def bI (p : Bool) : Int32 := if p then 1 else 0
theorem bI_0 {p : Bool} : bI p = 0 ↔ p = false := by cases p <;> simp [bI]
theorem bI_t : bI true = 1 := rfl
theorem bI_f : bI false = 0 := rfl
theorem bI_n (p : Bool) : narrow .boolean (.int (bI p)) = .int (bI p) := by cases p <;> rfl
theorem n0_eq {a : Nat} (ha : a < 2147483648) : nI a = 0 ↔ a = 0 := n2_eq (b := 0) ha (by decide)
theorem AW.if_eqB (X : CX κ (δ, b, n, nL, sh, tp, Qc, mc, ms) own nm cc ret d) {p : Bool} {off : Int} {tgt : Nat} (hd : decode cc pc = .ok (.ifCond .eq off, 3)) (ht : (pc : Int) + off = (tgt : Int)) (k1 : p = false → AW κ (δ, b, n, nL, sh, tp, Qc, mc, ms) N cells slots tgt ls st μ) (k2 : p = true → AW κ (δ, b, n, nL, sh, tp, Qc, mc, ms) N cells slots (pc + 3) ls st μ) : AW κ (δ, b, n, nL, sh, tp, Qc, mc, ms) N cells slots pc ls (.int (bI p) :: st) μ := AW.if_eq X hd ht (fun q => k1 (bI_0.mp q)) (fun q => k2 (by cases p <;> simp [bI] at q ⊢))
theorem AW.if_eqN (X : CX κ (δ, b, n, nL, sh, tp, Qc, mc, ms) own nm cc ret d) {a : Nat} {off : Int} {tgt : Nat} (hd : decode cc pc = .ok (.ifCond .eq off, 3)) (ht : (pc : Int) + off = (tgt : Int)) (ha : a < 2147483648) (k1 : a = 0 → AW κ (δ, b, n, nL, sh, tp, Qc, mc, ms) N cells slots tgt ls st μ) (k2 : a ≠ 0 → AW κ (δ, b, n, nL, sh, tp, Qc, mc, ms) N cells slots (pc + 3) ls st μ) : AW κ (δ, b, n, nL, sh, tp, Qc, mc, ms) N cells slots pc ls (.int (nI a) :: st) μ := AW.if_eq X hd ht (fun q => k1 ((n0_eq ha).mp q)) (fun q => k2 (fun z => q ((n0_eq ha).mpr z)))
theorem AW.if_neB (X : CX κ (δ, b, n, nL, sh, tp, Qc, mc, ms) own nm cc ret d) {p : Bool} {off : Int} {tgt : Nat} (hd : decode cc pc = .ok (.ifCond .ne off, 3)) (ht : (pc : Int) + off = (tgt : Int)) (k1 : p = true → AW κ (δ, b, n, nL, sh, tp, Qc, mc, ms) N cells slots tgt ls st μ) (k2 : p = false → AW κ (δ, b, n, nL, sh, tp, Qc, mc, ms) N cells slots (pc + 3) ls st μ) : AW κ (δ, b, n, nL, sh, tp, Qc, mc, ms) N cells slots pc ls (.int (bI p) :: st) μ := AW.if_ne X hd ht (fun q => k1 (by cases p <;> simp [bI] at q ⊢)) (fun q => k2 (bI_0.mp q))
theorem AW.if_neN (X : CX κ (δ, b, n, nL, sh, tp, Qc, mc, ms) own nm cc ret d) {a : Nat} {off : Int} {tgt : Nat} (hd : decode cc pc = .ok (.ifCond .ne off, 3)) (ht : (pc : Int) + off = (tgt : Int)) (ha : a < 2147483648) (k1 : a ≠ 0 → AW κ (δ, b, n, nL, sh, tp, Qc, mc, ms) N cells slots tgt ls st μ) (k2 : a = 0 → AW κ (δ, b, n, nL, sh, tp, Qc, mc, ms) N cells slots (pc + 3) ls st μ) : AW κ (δ, b, n, nL, sh, tp, Qc, mc, ms) N cells slots pc ls (.int (nI a) :: st) μ := AW.if_ne X hd ht (fun q => k1 (fun z => q ((n0_eq ha).mpr z))) (fun q => k2 ((n0_eq ha).mp q))
theorem AW.if_ltN (X : CX κ (δ, b, n, nL, sh, tp, Qc, mc, ms) own nm cc ret d) {a : Nat} {off : Int} {tgt : Nat} (hd : decode cc pc = .ok (.ifCond .lt off, 3)) (ht : (pc : Int) + off = (tgt : Int)) (ha : a < 2147483648) (k1 : False → AW κ (δ, b, n, nL, sh, tp, Qc, mc, ms) N cells slots tgt ls st μ) (k2 : True → AW κ (δ, b, n, nL, sh, tp, Qc, mc, ms) N cells slots (pc + 3) ls st μ) : AW κ (δ, b, n, nL, sh, tp, Qc, mc, ms) N cells slots pc ls (.int (nI a) :: st) μ := AW.if_lt X hd ht (fun q => k1 (by have := (n2_lt (b := 0) ha (by decide)).mp q; omega)) (fun q => k2 trivial)
theorem AW.if_geN (X : CX κ (δ, b, n, nL, sh, tp, Qc, mc, ms) own nm cc ret d) {a : Nat} {off : Int} {tgt : Nat} (hd : decode cc pc = .ok (.ifCond .ge off, 3)) (ht : (pc : Int) + off = (tgt : Int)) (ha : a < 2147483648) (k1 : True → AW κ (δ, b, n, nL, sh, tp, Qc, mc, ms) N cells slots tgt ls st μ) (k2 : False → AW κ (δ, b, n, nL, sh, tp, Qc, mc, ms) N cells slots (pc + 3) ls st μ) : AW κ (δ, b, n, nL, sh, tp, Qc, mc, ms) N cells slots pc ls (.int (nI a) :: st) μ := AW.if_ge X hd ht (fun q => k1 trivial) (fun q => k2 (by have := mt (n2_le (a := 0) (by decide) ha).mpr q; omega))
theorem AW.if_gtN (X : CX κ (δ, b, n, nL, sh, tp, Qc, mc, ms) own nm cc ret d) {a : Nat} {off : Int} {tgt : Nat} (hd : decode cc pc = .ok (.ifCond .gt off, 3)) (ht : (pc : Int) + off = (tgt : Int)) (ha : a < 2147483648) (k1 : 0 < a → AW κ (δ, b, n, nL, sh, tp, Qc, mc, ms) N cells slots tgt ls st μ) (k2 : a = 0 → AW κ (δ, b, n, nL, sh, tp, Qc, mc, ms) N cells slots (pc + 3) ls st μ) : AW κ (δ, b, n, nL, sh, tp, Qc, mc, ms) N cells slots pc ls (.int (nI a) :: st) μ := AW.if_gt X hd ht (fun q => k1 ((n2_lt (a := 0) (by decide) ha).mp q)) (fun q => k2 (by have := mt (n2_lt (a := 0) (by decide) ha).mpr q; omega))
theorem AW.if_leN (X : CX κ (δ, b, n, nL, sh, tp, Qc, mc, ms) own nm cc ret d) {a : Nat} {off : Int} {tgt : Nat} (hd : decode cc pc = .ok (.ifCond .le off, 3)) (ht : (pc : Int) + off = (tgt : Int)) (ha : a < 2147483648) (k1 : a = 0 → AW κ (δ, b, n, nL, sh, tp, Qc, mc, ms) N cells slots tgt ls st μ) (k2 : 0 < a → AW κ (δ, b, n, nL, sh, tp, Qc, mc, ms) N cells slots (pc + 3) ls st μ) : AW κ (δ, b, n, nL, sh, tp, Qc, mc, ms) N cells slots pc ls (.int (nI a) :: st) μ := AW.if_le X hd ht (fun q => k1 (by have := (n2_le (b := 0) ha (by decide)).mp q; omega)) (fun q => k2 (by have := mt (n2_le (b := 0) ha (by decide)).mpr q; omega))
/-- the forms of a contract's end -/
def pI (q : Int32 → Mm → Prop) : Option Value → Mm → Prop := fun v μ => ∃ r, v = some (.int r) ∧ q r μ
def pL (q : Int64 → Mm → Prop) : Option Value → Mm → Prop := fun v μ => ∃ r, v = some (.long r) ∧ q r μ
def pV (q : Mm → Prop) : Option Value → Mm → Prop := fun v μ => v = none ∧ q μ
def pA (q : Nat → Mm → Prop) : Option Value → Mm → Prop := fun v μ => ∃ r, v = some (.ref r) ∧ q r μ
end ROWS
