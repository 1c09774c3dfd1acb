theorem la_len : ∀ vs : List Value, (lg_sl vs).length = (la vs).length
  | [] => rfl
  | v :: r => by
    have ih := la_len r
    unfold lg_sl at ih ⊢
    rw [List.flatMap_cons, List.length_append, ih, la]
    split
    · simp only [List.length_cons, List.length_nil]; omega
    · simp only [List.length_cons, List.length_nil]; omega
theorem KS.at {δ : Dl} {b n : Nat} {s U : State} {H : Heap} {locs : List Loc} (h : KS δ (RG b n) s s.heap) (hS : va_S (RG b n) s.heap H locs) (hU : U.heap = H) (hW : s.WarmedH U.vm) : KS δ (RG b n) U U.heap := by
  rw [hU]
  exact ⟨vk_S.moved hW.alike (vk_S.kept h.1 hS.2.1), va_Z.moved hW.alike (va_Z.kept h.2.1 hS.2.1), va_Zq.moved hW.alike (va_Zq.kept h.2.2 hS.2.1)⟩
theorem MC.intro {l : Launch} {δ : Dl} {b n : Nat} {sh : Sh} {tp : Prop} {y : MethodName} {bytes : ByteArray} {nL : Nat} {ret : Option FieldType} {d mc ms N N' : Nat} {av : List Value} {μ : Mm} {post : Option Value → Mm → Prop} (ls : List (Option Value)) (hy : plainName y.cls = true) (hls : la av ++ List.replicate (nL - (la av).length) none = ls) (hlen : Nat.ble (la av).length nL = true)
    (body : ∀ (κ : Kt) (Qc : Array Value → State → Outcome → State → Prop), κ.2.1 = l → Qc = MQc δ b n sh N' tp post → CX κ (δ, b, n, nL, sh, tp, Qc, mc, ms) y.cls y.name bytes ret d → AW κ (δ, b, n, nL, sh, tp, Qc, mc, ms) N 0 0 0 ls [] μ) : MC l δ b n sh tp y bytes nL ret d mc ms N N' av μ post := by
  refine Met.ofW (cc := bytes) (maxL := nL) (ret := ret) hy rfl ?_
  intro p e s m args below meth c s₁ B hml hv
  obtain ⟨rfl, hP, hT, hK, hS⟩ := hv
  have hw := body (p, l, e, rmD d mc ms, s, m, av.toArray, below, meth, c) _ rfl rfl ⟨B.exec, B.bytes, hml, findClass_of_methodNamed B.named, fun w hw => atoms_spec (ws := Cond.code y bytes nL ret :: TT) B.pre w (List.mem_cons_of_mem _ hw), B.notSynchronized, B.returns, (name_of_methodNamed B.named B.method).1, hK, hS, rfl⟩
  rw [lg_entry_eq]
  refine hw s.heap [] _ hP hT va_S.rf ?_
  have he := lv_entry av (n := nL) (by rw [la_len]; exact Nat.le_of_ble_eq_true hlen)
  refine lh_sub he fun i v hi => ?_
  rw [← hls] at hi
  have := la_args av 0 i _ v hi
  simpa using this
section CALLS
variable {κ : Kt} {δ : Dl} {b n nL : Nat} {sh : Sh} {tp : Prop} {Qc : Array Value → State → Outcome → State → Prop} {mc ms d : Nat} {own nm : String} {cc : ByteArray} {ret : Option FieldType} {N cells slots pc : Nat} {ls : List (Option Value)} {st st0 : List Value} {μ : Mm}
variable {idx : Nat} {y' : MethodName} {bytes : ByteArray} {maxL : Nat} {ret' : Option FieldType} {d' mc' ms' N2 k0 : Nat} {av : List Value} {post : Option Value → Mm → Prop}
theorem run_core {p : Program} {l : Launch} {e : Env} {R : Room} {s : State} {m : MethodId} {args : Array Value} {below : List Frame} {meth : Method} {c : Code} {H : Heap} {locs : List Loc} {lsr : Array Slot} {Q : State → Prop} {a : Array Value}
    (hr : va_Run p l e R s m args below meth c H locs cells slots mc' ms' (F0 m pc lsr st0) st (MQc δ b n sh N2 tp post a) (RG b n)) (hS : va_S (RG b n) s.heap H locs)
    (kk : ∀ (v : Option Value) (μ' : Mm) (H1 : Heap) (locs1 : List Loc), post v μ' → va_P δ.1 vwCl (wl δ b sh N2 μ') H1 → (tp → H1.size = b + N2) → va_S (RG b n) s.heap H1 locs1 → W p l e R s m args below meth c H1 locs1 (cells + mc') (slots + ms') Q (F0 m (pc + 3) lsr (v.toList ++ st))) : W p l e R s m args below meth c H locs cells slots Q (F0 m pc lsr st0) := by
  intro T hT X
  obtain ⟨v, st₀, t, T', L, h0, X', hL, e1, e2, ⟨⟨v', μ', hv, hp, hb, hz0⟩, hz, hk⟩, step⟩ := hr T hT X
  cases hv
  rw [h0] at hz hk
  rw [← e1] at hz hk hb hz0
  obtain ⟨t2, a1, b1⟩ := kk v μ' T'.heap (locs ++ L) hp hb hz0 ⟨Nat.le_trans hS.1 hz, fun q h1 h2 => (hk q (Nat.lt_of_lt_of_le h1 hS.1) h2).trans (hS.2.1 q h1 h2), fun q hq => by
    rcases List.mem_append.mp hq with h | h
    · exact hS.2.2 q h
    · exact hL q h⟩ T' rfl X'
  exact ⟨t2, step t2 a1, b1⟩
theorem pc_blind (av : List Value) (μ : Mm) (tp : Prop) (N : Nat) : FrameBlind (va_Pc av (fun U => va_P δ.1 vwCl (wl δ b sh N μ) U.heap ∧ (tp → U.heap.size = b + N) ∧ KX δ U ∧ KS δ (RG b n) U U.heap)) := fun a U g mk q => ⟨q.1, q.2.1, q.2.2.1, KX.same (u := U) (U := U.calling g mk a) rfl q.2.2.2.1, ⟨vk_S.moved (u := U) (U := U.calling g mk a) (Vm.Alike.refl U.vm) q.2.2.2.2.1, va_Z.moved (u := U) (U := U.calling g mk a) (Vm.Alike.refl U.vm) q.2.2.2.2.2.1, va_Zq.moved (u := U) (U := U.calling g mk a) (Vm.Alike.refl U.vm) q.2.2.2.2.2.2⟩⟩
/-- what a call asks of the tables: by invokevirtual on an object of C, of a method of C -/
def LV (own : String) (idx : Nat) (C : String) (y' : MethodName) (bytes : ByteArray) (maxL : Nat) (ret' : Option FieldType) (k0 : Nat) : Prop :=
  Cond.methodLink own idx y' ∈ TT ∧ Cond.instanceMethod y' ∈ TT ∧ Cond.selects C y' y' ∈ TT ∧ Cond.initialized C ∈ TT ∧ Cond.code y' bytes maxL ret' ∈ TT ∧ maxL ≤ 45 ∧ (y'.cls = C ∧ y'.cls ≠ "java/lang/invoke/MethodHandle" ∧ y'.cls ≠ "java/lang/invoke/VarHandle" ∧ (parseMethodDescriptor y'.desc).map (fun d => d.parameters.length) = some k0)
/-- invokestatic -/
def LSt (own : String) (idx : Nat) (y' : MethodName) (bytes : ByteArray) (maxL : Nat) (ret' : Option FieldType) (k0 : Nat) : Prop :=
  Cond.methodLink own idx y' ∈ TT ∧ Cond.static y' ∈ TT ∧ Cond.initialized y'.cls ∈ TT ∧ Cond.code y' bytes maxL ret' ∈ TT ∧ maxL ≤ 45 ∧ (y'.cls ≠ "java/lang/invoke/MethodHandle" ∧ y'.cls ≠ "java/lang/invoke/VarHandle" ∧ (parseMethodDescriptor y'.desc).map (fun d => d.parameters.length) = some k0)
/-- invokestatic of a nest mate's private method -/
def LSN (own : String) (idx : Nat) (y' : MethodName) (host : String) (bytes : ByteArray) (maxL : Nat) (ret' : Option FieldType) (k0 : Nat) : Prop :=
  Cond.methodLinkNest own idx y' host ∈ NW ∧ Cond.static y' ∈ TT ∧ Cond.initialized y'.cls ∈ TT ∧ Cond.code y' bytes maxL ret' ∈ TT ∧ maxL ≤ 45 ∧ (y'.cls ≠ "java/lang/invoke/MethodHandle" ∧ y'.cls ≠ "java/lang/invoke/VarHandle" ∧ (parseMethodDescriptor y'.desc).map (fun d => d.parameters.length) = some k0)
/-- invokevirtual of x on an object of C that inherits or overrides it: y' runs -/
def LU (own : String) (idx : Nat) (C owner : String) (x y' : MethodName) (bytes : ByteArray) (maxL : Nat) (ret' : Option FieldType) (k0 : Nat) : Prop :=
  (Cond.methodLink own idx x ∈ TT ∧ Cond.sameMethod x.cls owner x.name x.desc ∈ TT ∧ Cond.selects C x y' ∈ TT ∧ Cond.instanceMethod y' ∈ TT ∧ Cond.initialized y'.cls ∈ TT ∧ Cond.code y' bytes maxL ret' ∈ TT ∧ maxL ≤ 45) ∧ (y' = ⟨owner, x.name, x.desc⟩ ∨ (Cond.instanceMethod ⟨owner, x.name, x.desc⟩ ∈ TT ∧ ∃ (b0 : ByteArray) (m0 : Nat) (r0 : Option FieldType), Cond.code ⟨owner, x.name, x.desc⟩ b0 m0 r0 ∈ TT)) ∧ (owner ≠ "java/lang/invoke/MethodHandle" ∧ owner ≠ "java/lang/invoke/VarHandle" ∧ (parseMethodDescriptor x.desc).map (fun d => d.parameters.length) = some k0)
/-- super.y' -/
def LSU (own : String) (idx : Nat) (y' : MethodName) (bytes : ByteArray) (maxL : Nat) (ret' : Option FieldType) (k0 : Nat) : Prop :=
  Cond.methodLink own idx y' ∈ TT ∧ Cond.sameMethod y'.cls y'.cls y'.name y'.desc ∈ TT ∧ Cond.superclass own y'.cls ∈ TT ∧ Cond.instanceMethod y' ∈ TT ∧ Cond.initialized y'.cls ∈ TT ∧ Cond.code y' bytes maxL ret' ∈ TT ∧ maxL ≤ 45 ∧ (y'.name ≠ "<init>" ∧ (parseMethodDescriptor y'.desc).map (fun d => d.parameters.length) = some k0)
/-- a constructor -/
def LI (own : String) (idx : Nat) (y' : MethodName) (bytes : ByteArray) (maxL : Nat) (k0 : Nat) : Prop :=
  Cond.methodLink own idx y' ∈ TT ∧ Cond.instanceMethod y' ∈ TT ∧ Cond.initialized y'.cls ∈ TT ∧ Cond.code y' bytes maxL none ∈ TT ∧ maxL ≤ 45 ∧ y'.name = "<init>" ∧ (y'.cls ≠ "java/lang/invoke/MethodHandle" ∧ y'.cls ≠ "java/lang/invoke/VarHandle" ∧ (parseMethodDescriptor y'.desc).map (fun d => d.parameters.length) = some k0)
/-- a nest mate's private constructor -/
def LIN (own : String) (idx : Nat) (y' : MethodName) (host : String) (bytes : ByteArray) (maxL : Nat) (k0 : Nat) : Prop :=
  Cond.methodLinkNest own idx y' host ∈ NW ∧ Cond.instanceMethod y' ∈ TT ∧ Cond.initialized y'.cls ∈ TT ∧ Cond.code y' bytes maxL none ∈ TT ∧ maxL ≤ 45 ∧ y'.name = "<init>" ∧ (y'.cls ≠ "java/lang/invoke/MethodHandle" ∧ y'.cls ≠ "java/lang/invoke/VarHandle" ∧ (parseMethodDescriptor y'.desc).map (fun d => d.parameters.length) = some k0)
theorem rm_fit {d d' mc ms mc' ms' maxL : Nat} (h : d' + 1 ≤ d) (hm : maxL ≤ 45) : (rmD d' mc' ms').frames + 1 ≤ (rmD d mc ms).frames ∧ 8 + (maxL + 11) + (rmD d' mc' ms').locals ≤ (rmD d mc ms).locals := by
  unfold rmD
  dsimp only
  omega
theorem cat_fit {m : MethodId} {pc : Nat} {lsr : Array Slot} {st0 st : List Value} (h : (st.map fun v => v.category).sum ≤ 8) : 2 * (F0 m pc lsr st0).monitorRoom + (st.map fun v => v.category).sum ≤ 8 := lv_room h
theorem AW.callV (X : CX κ (δ, b, n, nL, sh, tp, Qc, mc, ms) own nm cc ret d) {C : String} {T : u_T} {o ci : Nat} (hd : decode cc pc = .ok (.invokevirtual idx, 3)) (L : LV own idx C y' bytes maxL ret' k0) (hC : CF ci C T) (hM : MC κ.2.1 δ b n sh tp y' bytes maxL ret' d' mc' ms' N N2 (.ref (b + o) :: av) μ post) (ho : OB sh N o ci) (hav : av.length = k0) (hst : st0 = av.reverse ++ .ref (b + o) :: st) (hcat : Nat.ble (st.map fun v => v.category).sum 8 = true) (hd' : Nat.ble (d' + 1) d = true) (hr : Nat.ble (cells + mc') mc = true ∧ Nat.ble (slots + ms') ms = true)
    (kk : ∀ (v : Option Value) (μ' : Mm), post v μ' → AW κ (δ, b, n, nL, sh, tp, Qc, mc, ms) N2 (cells + mc') (slots + ms') (pc + 3) ls (v.toList ++ st) μ') : AW κ (δ, b, n, nL, sh, tp, Qc, mc, ms) N cells slots pc ls st0 μ := by
  obtain ⟨p, l, e, R, s, m, args, below, meth, c⟩ := κ
  intro H locs lsr hP hT hS h
  subst hst
  obtain ⟨x1, x2, x3, x4, hts, x6, x7, x8, hK, hKS, hR⟩ := X
  obtain ⟨l1, l2, l3, l4, l5, l6, l7⟩ := L
  subst hR
  refine run_core (va_runV (As := av) (rest := st) ⟨x1, x2, x3, x4, hts⟩ hM (cwV k0 hts (fun w hw => ?_) rfl rfl rfl l7 (rm_fit (Nat.le_of_ble_eq_true hd') l6)) ⟨pc_blind _ _ _ _, va_recv hK.1 hP hC.1 (ob_get ho), fun U hU hW => ⟨rfl, by rw [hU]; exact hP, by rw [hU]; exact hT, KX.warm hW hK, KS.at hKS hS hU hW⟩⟩ rfl hav h.1 rfl (cat_fit (Nat.le_of_ble_eq_true hcat)) hd ⟨Nat.le_of_ble_eq_true hr.1, Nat.le_of_ble_eq_true hr.2⟩) hS (fun v μ' H1 locs1 hp hP1 hT1 hS1 => kk v μ' hp H1 locs1 lsr hP1 hT1 hS1 h)
  have key : w ∈ TT := by
    simp only [wsV, List.cons_append, List.nil_append, List.mem_cons] at hw
    rcases hw with rfl | rfl | rfl | rfl | rfl | hw <;> assumption
  exact ⟨key, tt_good key⟩
theorem AW.callS (X : CX κ (δ, b, n, nL, sh, tp, Qc, mc, ms) own nm cc ret d) (hd : decode cc pc = .ok (.invokestatic idx, 3)) (L : LSt own idx y' bytes maxL ret' k0) (hM : MC κ.2.1 δ b n sh tp y' bytes maxL ret' d' mc' ms' N N2 av μ post) (hav : av.length = k0) (hst : st0 = av.reverse ++ st) (hcat : Nat.ble (st.map fun v => v.category).sum 8 = true) (hd' : Nat.ble (d' + 1) d = true) (hr : Nat.ble (cells + mc') mc = true ∧ Nat.ble (slots + ms') ms = true)
    (kk : ∀ (v : Option Value) (μ' : Mm), post v μ' → AW κ (δ, b, n, nL, sh, tp, Qc, mc, ms) N2 (cells + mc') (slots + ms') (pc + 3) ls (v.toList ++ st) μ') : AW κ (δ, b, n, nL, sh, tp, Qc, mc, ms) N cells slots pc ls st0 μ := by
  obtain ⟨p, l, e, R, s, m, args, below, meth, c⟩ := κ
  intro H locs lsr hP hT hS h
  subst hst
  obtain ⟨x1, x2, x3, x4, hts, x6, x7, x8, hK, hKS, hR⟩ := X
  obtain ⟨l1, l2, l3, l4, l5, l6⟩ := L
  subst hR
  refine run_core (va_runS (As := av) (rest := st) ⟨x1, x2, x3, x4, hts⟩ hM (va_cwS k0 hts (fun w hw => ?_) rfl rfl rfl l6 (rm_fit (Nat.le_of_ble_eq_true hd') l5)) ⟨pc_blind _ _ _ _, fun U hU hW => ⟨rfl, by rw [hU]; exact hP, by rw [hU]; exact hT, KX.warm hW hK, KS.at hKS hS hU hW⟩⟩ rfl hav h.1 rfl (cat_fit (Nat.le_of_ble_eq_true hcat)) hd ⟨Nat.le_of_ble_eq_true hr.1, Nat.le_of_ble_eq_true hr.2⟩) hS (fun v μ' H1 locs1 hp hP1 hT1 hS1 => kk v μ' hp H1 locs1 lsr hP1 hT1 hS1 h)
  have key : w ∈ TT := by
    simp only [va_wsS, List.cons_append, List.nil_append, List.mem_cons] at hw
    rcases hw with rfl | rfl | rfl | rfl | hw <;> assumption
  exact ⟨key, tt_good key⟩
theorem AW.callSN (X : CX κ (δ, b, n, nL, sh, tp, Qc, mc, ms) own nm cc ret d) {host : String} (hd : decode cc pc = .ok (.invokestatic idx, 3)) (L : LSN own idx y' host bytes maxL ret' k0) (hM : MC κ.2.1 δ b n sh tp y' bytes maxL ret' d' mc' ms' N N2 av μ post) (hav : av.length = k0) (hst : st0 = av.reverse ++ st) (hcat : Nat.ble (st.map fun v => v.category).sum 8 = true) (hd' : Nat.ble (d' + 1) d = true) (hr : Nat.ble (cells + mc') mc = true ∧ Nat.ble (slots + ms') ms = true)
    (kk : ∀ (v : Option Value) (μ' : Mm), post v μ' → AW κ (δ, b, n, nL, sh, tp, Qc, mc, ms) N2 (cells + mc') (slots + ms') (pc + 3) ls (v.toList ++ st) μ') : AW κ (δ, b, n, nL, sh, tp, Qc, mc, ms) N cells slots pc ls st0 μ := by
  obtain ⟨p, l, e, R, s, m, args, below, meth, c⟩ := κ
  intro H locs lsr hP hT hS h
  subst hst
  obtain ⟨x1, x2, x3, x4, hts, x6, x7, x8, hK, hKS, hR⟩ := X
  obtain ⟨l1, l2, l3, l4, l5, l6⟩ := L
  subst hR
  exact run_core (va_runSN (As := av) (rest := st) ⟨x1, x2, x3, x4, hts⟩ hM ⟨va_cnB k0 hts (tt_goodIn l4) rfl rfl rfl (hK.2.1 _ l1) (hts _ l3) l6 (rm_fit (Nat.le_of_ble_eq_true hd') l5), hts _ l2, trivial⟩ ⟨pc_blind _ _ _ _, fun U hU hW => ⟨rfl, by rw [hU]; exact hP, by rw [hU]; exact hT, KX.warm hW hK, KS.at hKS hS hU hW⟩⟩ rfl hav h.1 rfl (cat_fit (Nat.le_of_ble_eq_true hcat)) hd ⟨Nat.le_of_ble_eq_true hr.1, Nat.le_of_ble_eq_true hr.2⟩) hS (fun v μ' H1 locs1 hp hP1 hT1 hS1 => kk v μ' hp H1 locs1 lsr hP1 hT1 hS1 h)
theorem AW.callU (X : CX κ (δ, b, n, nL, sh, tp, Qc, mc, ms) own nm cc ret d) {C owner : String} {T : u_T} {x : MethodName} {o ci : Nat} (hd : decode cc pc = .ok (.invokevirtual idx, 3)) (L : LU own idx C owner x y' bytes maxL ret' k0) (hC : CF ci C T) (hM : MC κ.2.1 δ b n sh tp y' bytes maxL ret' d' mc' ms' N N2 (.ref (b + o) :: av) μ post) (ho : OB sh N o ci) (hav : av.length = k0) (hst : st0 = av.reverse ++ .ref (b + o) :: st) (hcat : Nat.ble (st.map fun v => v.category).sum 8 = true) (hd' : Nat.ble (d' + 1) d = true) (hr : Nat.ble (cells + mc') mc = true ∧ Nat.ble (slots + ms') ms = true)
    (kk : ∀ (v : Option Value) (μ' : Mm), post v μ' → AW κ (δ, b, n, nL, sh, tp, Qc, mc, ms) N2 (cells + mc') (slots + ms') (pc + 3) ls (v.toList ++ st) μ') : AW κ (δ, b, n, nL, sh, tp, Qc, mc, ms) N cells slots pc ls st0 μ := by
  obtain ⟨p, l, e, R, s, m, args, below, meth, c⟩ := κ
  intro H locs lsr hP hT hS h
  subst hst
  obtain ⟨x1, x2, x3, x4, hts, x6, x7, x8, hK, hKS, hR⟩ := X
  obtain ⟨⟨l1, l2, l3, l4, l5, l6, l7⟩, l8, l9⟩ := L
  subst hR
  have cu : va_CU (rmD d mc ms) s args own C owner idx x y' bytes maxL ret' (Cond.code y' bytes maxL ret' :: TT) (rmD d' mc' ms') mc' ms' k0 := by
    rcases l8 with l8 | ⟨l8, b0, m0, r0, l10⟩
    · refine va_cwU k0 hts (fun w hw => ?_) rfl rfl rfl l8 l9 (rm_fit (Nat.le_of_ble_eq_true hd') l7)
      have key : w ∈ TT := by
        simp only [va_wsU, List.cons_append, List.nil_append, List.mem_cons] at hw
        rcases hw with rfl | rfl | rfl | rfl | rfl | rfl | hw <;> assumption
      exact ⟨key, tt_good key⟩
    · refine va_cwO k0 hts (fun w hw => ?_) rfl rfl rfl l10 l9 (rm_fit (Nat.le_of_ble_eq_true hd') l7)
      have key : w ∈ TT := by
        simp only [va_wsO, List.cons_append, List.nil_append, List.mem_cons] at hw
        rcases hw with rfl | rfl | rfl | rfl | rfl | rfl | rfl | hw <;> assumption
      exact ⟨key, tt_good key⟩
  exact run_core (va_runU (As := av) (rest := st) ⟨x1, x2, x3, x4, hts⟩ hM cu ⟨pc_blind _ _ _ _, va_recv hK.1 hP hC.1 (ob_get ho), fun U hU hW => ⟨rfl, by rw [hU]; exact hP, by rw [hU]; exact hT, KX.warm hW hK, KS.at hKS hS hU hW⟩⟩ rfl hav h.1 rfl (cat_fit (Nat.le_of_ble_eq_true hcat)) hd ⟨Nat.le_of_ble_eq_true hr.1, Nat.le_of_ble_eq_true hr.2⟩) hS (fun v μ' H1 locs1 hp hP1 hT1 hS1 => kk v μ' hp H1 locs1 lsr hP1 hT1 hS1 h)
theorem AW.callSU (X : CX κ (δ, b, n, nL, sh, tp, Qc, mc, ms) own nm cc ret d) {C : String} {T : u_T} {o ci : Nat} (hd : decode cc pc = .ok (.invokespecial idx, 3)) (L : LSU own idx y' bytes maxL ret' k0) (hC : CF ci C T) (hM : MC κ.2.1 δ b n sh tp y' bytes maxL ret' d' mc' ms' N N2 (.ref (b + o) :: av) μ post) (ho : OB sh N o ci) (hav : av.length = k0) (hst : st0 = av.reverse ++ .ref (b + o) :: st) (hcat : Nat.ble (st.map fun v => v.category).sum 8 = true) (hd' : Nat.ble (d' + 1) d = true) (hr : Nat.ble (cells + mc') mc = true ∧ Nat.ble (slots + ms') ms = true)
    (kk : ∀ (v : Option Value) (μ' : Mm), post v μ' → AW κ (δ, b, n, nL, sh, tp, Qc, mc, ms) N2 (cells + mc') (slots + ms') (pc + 3) ls (v.toList ++ st) μ') : AW κ (δ, b, n, nL, sh, tp, Qc, mc, ms) N cells slots pc ls st0 μ := by
  obtain ⟨p, l, e, R, s, m, args, below, meth, c⟩ := κ
  intro H locs lsr hP hT hS h
  subst hst
  obtain ⟨x1, x2, x3, x4, hts, x6, x7, x8, hK, hKS, hR⟩ := X
  obtain ⟨l1, l2, l3, l4, l5, l6, l7, l8⟩ := L
  subst hR
  refine run_core (va_runSU (As := av) (rest := st) (hK.1.1 ci _ hC.1).2 ⟨x1, x2, x3, x4, hts⟩ hM (va_cwSU k0 hts (fun w hw => ?_) rfl rfl rfl l8 (rm_fit (Nat.le_of_ble_eq_true hd') l7)) ⟨pc_blind _ _ _ _, va_recv hK.1 hP hC.1 (ob_get ho), fun U hU hW => ⟨rfl, by rw [hU]; exact hP, by rw [hU]; exact hT, KX.warm hW hK, KS.at hKS hS hU hW⟩⟩ rfl hav h.1 rfl (cat_fit (Nat.le_of_ble_eq_true hcat)) hd ⟨Nat.le_of_ble_eq_true hr.1, Nat.le_of_ble_eq_true hr.2⟩) hS (fun v μ' H1 locs1 hp hP1 hT1 hS1 => kk v μ' hp H1 locs1 lsr hP1 hT1 hS1 h)
  have key : w ∈ TT := by
    simp only [va_wsSU, List.cons_append, List.nil_append, List.mem_cons] at hw
    rcases hw with rfl | rfl | rfl | rfl | rfl | rfl | hw <;> assumption
  exact ⟨key, tt_good key⟩
theorem AW.callI (X : CX κ (δ, b, n, nL, sh, tp, Qc, mc, ms) own nm cc ret d) {o : Nat} (hd : decode cc pc = .ok (.invokespecial idx, 3)) (L : LI own idx y' bytes maxL k0) (hM : MC κ.2.1 δ b n sh tp y' bytes maxL none d' mc' ms' N N2 (.ref (b + o) :: av) μ post) (hav : av.length = k0) (hst : st0 = av.reverse ++ .ref (b + o) :: st) (hcat : Nat.ble (st.map fun v => v.category).sum 8 = true) (hd' : Nat.ble (d' + 1) d = true) (hr : Nat.ble (cells + mc') mc = true ∧ Nat.ble (slots + ms') ms = true)
    (kk : ∀ (v : Option Value) (μ' : Mm), post v μ' → AW κ (δ, b, n, nL, sh, tp, Qc, mc, ms) N2 (cells + mc') (slots + ms') (pc + 3) ls (v.toList ++ st) μ') : AW κ (δ, b, n, nL, sh, tp, Qc, mc, ms) N cells slots pc ls st0 μ := by
  obtain ⟨p, l, e, R, s, m, args, below, meth, c⟩ := κ
  intro H locs lsr hP hT hS h
  subst hst
  obtain ⟨x1, x2, x3, x4, hts, x6, x7, x8, hK, hKS, hR⟩ := X
  obtain ⟨l1, l2, l3, l4, l5, l6, l7⟩ := L
  subst hR
  exact run_core (va_runI (As := av) (rest := st) ⟨x1, x2, x3, x4, hts⟩ hM ⟨callB_of k0 hts (tt_goodIn l4) rfl rfl rfl (hts _ l3) (hts _ l1) l7 (rm_fit (Nat.le_of_ble_eq_true hd') l5), l6, hts _ l2⟩ ⟨pc_blind _ _ _ _, fun U hU hW => ⟨rfl, by rw [hU]; exact hP, by rw [hU]; exact hT, KX.warm hW hK, KS.at hKS hS hU hW⟩⟩ rfl hav h.1 rfl (cat_fit (Nat.le_of_ble_eq_true hcat)) hd ⟨Nat.le_of_ble_eq_true hr.1, Nat.le_of_ble_eq_true hr.2⟩) hS (fun v μ' H1 locs1 hp hP1 hT1 hS1 => kk v μ' hp H1 locs1 lsr hP1 hT1 hS1 h)
theorem AW.callIN (X : CX κ (δ, b, n, nL, sh, tp, Qc, mc, ms) own nm cc ret d) {host : String} {o : Nat} (hd : decode cc pc = .ok (.invokespecial idx, 3)) (L : LIN own idx y' host bytes maxL k0) (hM : MC κ.2.1 δ b n sh tp y' bytes maxL none d' mc' ms' N N2 (.ref (b + o) :: av) μ post) (hav : av.length = k0) (hst : st0 = av.reverse ++ .ref (b + o) :: st) (hcat : Nat.ble (st.map fun v => v.category).sum 8 = true) (hd' : Nat.ble (d' + 1) d = true) (hr : Nat.ble (cells + mc') mc = true ∧ Nat.ble (slots + ms') ms = true)
    (kk : ∀ (v : Option Value) (μ' : Mm), post v μ' → AW κ (δ, b, n, nL, sh, tp, Qc, mc, ms) N2 (cells + mc') (slots + ms') (pc + 3) ls (v.toList ++ st) μ') : AW κ (δ, b, n, nL, sh, tp, Qc, mc, ms) N cells slots pc ls st0 μ := by
  obtain ⟨p, l, e, R, s, m, args, below, meth, c⟩ := κ
  intro H locs lsr hP hT hS h
  subst hst
  obtain ⟨x1, x2, x3, x4, hts, x6, x7, x8, hK, hKS, hR⟩ := X
  obtain ⟨l1, l2, l3, l4, l5, l6, l7⟩ := L
  subst hR
  exact run_core (va_runIN (As := av) (rest := st) ⟨x1, x2, x3, x4, hts⟩ hM ⟨va_cnB k0 hts (tt_goodIn l4) rfl rfl rfl (hK.2.1 _ l1) (hts _ l3) l7 (rm_fit (Nat.le_of_ble_eq_true hd') l5), l6, hts _ l2⟩ ⟨pc_blind _ _ _ _, fun U hU hW => ⟨rfl, by rw [hU]; exact hP, by rw [hU]; exact hT, KX.warm hW hK, KS.at hKS hS hU hW⟩⟩ rfl hav h.1 rfl (cat_fit (Nat.le_of_ble_eq_true hcat)) hd ⟨Nat.le_of_ble_eq_true hr.1, Nat.le_of_ble_eq_true hr.2⟩) hS (fun v μ' H1 locs1 hp hP1 hT1 hS1 => kk v μ' hp H1 locs1 lsr hP1 hT1 hS1 h)
end CALLS
section FORMS
variable {κ : Kt} {K : Wt} {N cells slots pc : Nat} {ls : List (Option Value)} {st : List Value}
theorem pI_k {q : Int32 → Mm → Prop} (k : ∀ (r : Int32) (μ' : Mm), q r μ' → AW κ K N cells slots pc ls (.int r :: st) μ') : ∀ (v : Option Value) (μ' : Mm), pI q v μ' → AW κ K N cells slots pc ls (v.toList ++ st) μ' := by
  rintro v μ' ⟨r, rfl, h⟩
  exact k r μ' h
theorem pL_k {q : Int64 → Mm → Prop} (k : ∀ (r : Int64) (μ' : Mm), q r μ' → AW κ K N cells slots pc ls (.long r :: st) μ') : ∀ (v : Option Value) (μ' : Mm), pL q v μ' → AW κ K N cells slots pc ls (v.toList ++ st) μ' := by
  rintro v μ' ⟨r, rfl, h⟩
  exact k r μ' h
theorem pA_k {q : Nat → Mm → Prop} (k : ∀ (r : Nat) (μ' : Mm), q r μ' → AW κ K N cells slots pc ls (.ref r :: st) μ') : ∀ (v : Option Value) (μ' : Mm), pA q v μ' → AW κ K N cells slots pc ls (v.toList ++ st) μ' := by
  rintro v μ' ⟨r, rfl, h⟩
  exact k r μ' h
theorem pV_k {q : Mm → Prop} (k : ∀ (μ' : Mm), q μ' → AW κ K N cells slots pc ls st μ') : ∀ (v : Option Value) (μ' : Mm), pV q v μ' → AW κ K N cells slots pc ls (v.toList ++ st) μ' := by
  rintro v μ' ⟨rfl, h⟩
  exact k μ' h
/-- an answer that reads alone -/
theorem pR_k {f : Int32} {μ : Mm} (k : AW κ K N cells slots pc ls (.int f :: st) μ) : ∀ (v : Option Value) (μ' : Mm), pI (fun r μ' => r = f ∧ μ' = μ) v μ' → AW κ K N cells slots pc ls (v.toList ++ st) μ' := by
  rintro v μ' ⟨r, rfl, rfl, rfl⟩
  exact k
theorem pR_ke {f f' : Int32} {μ : Mm} (e : f = f') (k : AW κ K N cells slots pc ls (.int f' :: st) μ) : ∀ (v : Option Value) (μ' : Mm), pI (fun r μ' => r = f ∧ μ' = μ) v μ' → AW κ K N cells slots pc ls (v.toList ++ st) μ' := by
  subst e
  exact pR_k k
end FORMS
