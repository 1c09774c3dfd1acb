/-! rows that make: a new object or array stands at the next place of the world, blank -/
/-- nothing stands from place N on -/
def ZF (μ : Mm) (N : Nat) : Prop := ∀ o, N ≤ o → ∀ k, μ.1 o k = 0 ∧ μ.2.1 o k = 0 ∧ μ.2.2 o k = none
theorem ZF.mono {μ : Mm} {N N' : Nat} (h : ZF μ N) (hn : N ≤ N') : ZF μ N' := fun o ho k => h o (Nat.le_trans hn ho) k
theorem ZF.wI {μ : Mm} {N o k : Nat} {v : Int32} (h : ZF μ N) (ho : o < N) : ZF (wI μ o k v) N := fun q hq j => by
  have hne : ¬ (q = o ∧ j = k) := fun z => by omega
  refine ⟨?_, (h q hq j).2⟩
  show (if q = o ∧ j = k then v else μ.1 q j) = 0
  rw [if_neg hne]
  exact (h q hq j).1
theorem ZF.wR {μ : Mm} {N o k : Nat} {v : Option Nat} (h : ZF μ N) (ho : o < N) : ZF (wR μ o k v) N := fun q hq j => by
  have hne : ¬ (q = o ∧ j = k) := fun z => by omega
  refine ⟨(h q hq j).1, (h q hq j).2.1, ?_⟩
  show (if q = o ∧ j = k then v else μ.2.2 q j) = none
  rw [if_neg hne]
  exact (h q hq j).2.2
theorem wI_z {μ : Mm} {o k : Nat} (h : μ.1 o k = 0) : wI μ o k (nI 0) = μ := by
  unfold wI
  refine Prod.ext (funext fun q => funext fun j => ?_) rfl
  show (if q = o ∧ j = k then nI 0 else μ.1 q j) = μ.1 q j
  by_cases e : q = o ∧ j = k
  · rw [if_pos e, e.1, e.2, h]
    rfl
  · rw [if_neg e]
theorem wR_ne {μ : Mm} {o k q j : Nat} {v : Option Nat} (h : q ≠ o) : (wR μ o k v).2.2 q j = μ.2.2 q j := if_neg fun z => h z.1
theorem wR_nk {μ : Mm} {o k q j : Nat} {v : Option Nat} (h : j ≠ k) : (wR μ o k v).2.2 q j = μ.2.2 q j := if_neg fun z => h z.2
theorem wR_at {μ : Mm} {o k : Nat} {v : Option Nat} : (wR μ o k v).2.2 o k = v := if_pos ⟨rfl, rfl⟩
theorem wI_ne {μ : Mm} {o k q j : Nat} {v : Int32} (h : q ≠ o) : (wI μ o k v).1 q j = μ.1 q j := if_neg fun z => h z.1
theorem wI_nk {μ : Mm} {o k q j : Nat} {v : Int32} (h : j ≠ k) : (wI μ o k v).1 q j = μ.1 q j := if_neg fun z => h z.2
/-- fields of these types are blank at first as a blank memory tells -/
def dfT : FieldType → Bool
  | .int => true
  | .boolean => true
  | .long => true
  | .object _ => true
  | .array _ => true
  | _ => false
theorem zf_val {μ : Mm} {N o b k : Nat} {ty : FieldType} (h : ZF μ N) (ho : N ≤ o) (ht : dfT ty = true) : defaultValue ty = fval b μ o k ty := by
  obtain ⟨h1, h2, h3⟩ := h o ho k
  cases ty <;> first | (exfalso; cases ht; done) | (simp [fval, h1, h2, h3, defaultValue, va_rf]; done)
theorem wl_at {δ : Dl} {b : Nat} {sh : Sh} {N N1 : Nat} {μ μ1 : Mm} {H H1 : Heap} {cl : List vw_C} (hP : va_P δ.1 cl (wl δ b sh N μ) H) (ho : ∀ q : Nat, q < H.size → H1[q]? = H[q]?) (he : ∀ o, o < N → ent δ b sh μ1 o = ent δ b sh μ o) (hnew : ∀ o, N ≤ o → o < N1 → va_at δ.1 cl (b + o, ent δ b sh μ1 o) H1) : va_P δ.1 cl (wl δ b sh N1 μ1) H1 := by
  intro k q hq
  obtain ⟨hk, rfl⟩ := wl_inv hq
  by_cases h : k < N
  · have h0 := hP k _ (wl_get h)
    have hlt : b + k < H.size := h0.lt
    rw [he k h]
    exact va_P.kept (ws := [(b + k, ent δ b sh μ k)]) (H := H) (fun j x hx => by
      have hj : j < 1 := (List.getElem?_eq_some_iff.mp hx).1
      rw [show j = 0 by omega] at hx
      cases hx
      exact h0) (fun j x hx => by
      have hj : j < 1 := (List.getElem?_eq_some_iff.mp hx).1
      rw [show j = 0 by omega] at hx
      cases hx
      exact ho _ hlt) 0 _ rfl
  · exact hnew k (by omega) hk
theorem vS_grow {A : Nat → Prop} {H0 H H1 : Heap} {locs : List Loc} (hS : va_S A H0 H locs) (hz : H.size ≤ H1.size) (ho : ∀ q : Nat, q < H.size → H1[q]? = H[q]?) : va_S A H0 H1 locs := ⟨Nat.le_trans hS.1 hz, fun x h1 h2 => (ho x (Nat.lt_of_lt_of_le h1 hS.1)).trans (hS.2.1 x h1 h2), hS.2.2⟩
section ALLOC
variable {κ : Kt} {δ : Dl} {b n nL : Nat} {sh : Sh} {tp : Prop} {Qc : Array Value → State → Outcome → State → Prop} {mc ms d : Nat} {own nm : String} {cc : ByteArray} {ret : Option FieldType} {N cells slots pc : Nat} {ls : List (Option Value)} {st : List Value} {μ : Mm}
theorem AW.objInit (X : CX κ (δ, b, n, nL, sh, tp, Qc, mc, ms) own nm cc ret d) {idx o : Nat} (hd : decode cc pc = .ok (.invokespecial idx, 3)) (hL : Cond.methodLink own idx Lib.objectInit ∈ TT) (hr : Nat.ble 1 d = true ∧ Nat.ble ((st.map fun v => v.category).sum) 8 = true) (k : AW κ (δ, b, n, nL, sh, tp, Qc, mc, ms) N cells slots (pc + 3) ls st μ) : AW κ (δ, b, n, nL, sh, tp, Qc, mc, ms) N cells slots pc ls (.ref (b + o) :: st) μ := by
  obtain ⟨p, l, e, R, s, m, args, below, meth, c⟩ := κ
  intro H locs lsr hP hT hS h
  obtain ⟨x1, x2, x3, x4, hts, x6, x7, x8, hK, hKS, hR⟩ := X
  subst hR
  have h1 := Nat.le_of_ble_eq_true hr.1
  have h2 := Nat.le_of_ble_eq_true hr.2
  refine W.objInit x1 x2 x4 (hts _ hL) (hts _ oi_i) (hts _ oi_c) rfl (h.1.trans x3.symm) rfl hd h1 ?_ ?_
  · have := cat_fit (m := m) (pc := pc) (lsr := lsr) (st0 := .ref (b + o) :: st) h2
    show _ ≤ 64 * d
    omega
  · exact k H locs lsr hP hT hS h
theorem AW.newO (X : CX κ (δ, b, n, nL, sh, tp, Qc, mc, ms) own nm cc ret d) {idx ci N1 c1 s1 : Nat} {C : String} {T : u_T} (hd : decode cc pc = .ok (.new idx, 3)) (hC : CF ci C T) (hL : Cond.classLink own idx C ∈ TT) (hI : Cond.instantiable C (ncf ci) ∈ TT) (hi : Cond.initialized C ∈ TT) (hdf : ∀ k, k < ncf ci → dfT (cft ci k) = true) (htp : tp) (hz : ZF μ N) (hsh : sh N = .inl ci) (hN : N + 1 = N1) (hc1 : cells + 1 = c1) (hs1 : slots + ncf ci = s1) (hr : Nat.ble c1 mc = true ∧ Nat.ble s1 ms = true) (k : AW κ (δ, b, n, nL, sh, tp, Qc, mc, ms) N1 c1 s1 (pc + 3) ls (.ref (b + N) :: st) μ) : AW κ (δ, b, n, nL, sh, tp, Qc, mc, ms) N cells slots pc ls st μ := by
  subst hN
  subst hc1
  subst hs1
  obtain ⟨p, l, e, R, s, m, args, below, meth, c⟩ := κ
  intro H locs lsr hP hT hS h
  obtain ⟨x1, x2, x3, x4, hts, x6, x7, x8, hK, hKS, hR⟩ := X
  subst hR
  have hKn := hK.1.1 ci _ hC.1
  have hsz : H.size = b + N := hT htp
  refine W.newcK x1 x2 x4 (hts _ hL) (hts _ hI) (hts _ hi) rfl hd (Nat.le_of_ble_eq_true hr.1) (Nat.le_of_ble_eq_true hr.2) hKn.2.1 hsz fun H1 kC hkC e1 z1 o1 => ?_
  have o2 : ∀ q : Nat, q < H.size → H1[q]? = H[q]? := fun q hq => o1 q (hsz ▸ hq)
  refine k H1 locs lsr (wl_at hP o2 (fun _ _ => rfl) (fun o h1 h2 => ?_)) (fun _ => by rw [z1, Nat.add_assoc]) (vS_grow hS (by omega) o2) h
  obtain rfl : o = N := by omega
  unfold ent
  rw [hsh]
  refine ⟨_, hC.1, (u_born (cft ci) hts hC.2.1 hKn hkC e1 hC.2.2.1).to (fun j hj => ?_)⟩
  show _ = ((List.range (ncf ci)).map (fun k => fval b μ o k (cft ci k))).getD j .null
  rw [List.getD_eq_getElem?_getD, List.getElem?_map, List.getElem?_range hj]
  exact zf_val hz (Nat.le_refl _) (hdf j hj)
theorem AW.newI (X : CX κ (δ, b, n, nL, sh, tp, Qc, mc, ms) own nm cc ret d) {a N1 c1 s1 : Nat} (hd : decode cc pc = .ok (.newarray .int, 2)) (ha : a < 100000) (htp : tp) (hz : ZF μ N) (hsh : sh N = .inr (0, a)) (hN : N + 1 = N1) (hc1 : cells + 1 = c1) (hs1 : slots + a = s1) (hr : Nat.ble c1 mc = true ∧ Nat.ble s1 ms = true) (k : AW κ (δ, b, n, nL, sh, tp, Qc, mc, ms) N1 c1 s1 (pc + 2) ls (.ref (b + N) :: st) μ) : AW κ (δ, b, n, nL, sh, tp, Qc, mc, ms) N cells slots pc ls (.int (nI a) :: st) μ := by
  subst hN
  subst hc1
  subst hs1
  obtain ⟨p, l, e, R, s, m, args, below, meth, c⟩ := κ
  intro H locs lsr hP hT hS h
  obtain ⟨x1, x2, x3, x4, hts, x6, x7, x8, hK, hKS, hR⟩ := X
  subst hR
  have hsz : H.size = b + N := hT htp
  refine va_newaK (atype := .int) x1 x2 (hts _ ac_I) rfl hd rfl (nI_pos (by omega)) (n2_clamp (by omega)) (by show a * 4 ≤ _; omega) (Nat.le_of_ble_eq_true hr.1) (Nat.le_of_ble_eq_true hr.2) hsz fun H1 cA e1 z1 o1 hAr hNm => ?_
  have hcA : cA = δ.2.1 0 := Option.some.inj (hNm.symm.trans (hK.1.2 0 (δ.2.1 0, .int) rfl).2)
  subst hcA
  have o2 : ∀ q : Nat, q < H.size → H1[q]? = H[q]? := fun q hq => o1 q (hsz ▸ hq)
  refine k H1 locs lsr (wl_at hP o2 (fun _ _ => rfl) (fun o h1 h2 => ?_)) (fun _ => by rw [z1, Nat.add_assoc]) (vS_grow hS (by omega) o2) h
  obtain rfl : o = N := by omega
  unfold ent
  rw [hsh]
  show H1[b + o]? = some (vp_cell (δ.2.1 0) (a, .inl (μ.1 o)))
  rw [e1, vp_cell_i]
  exact congrArg some (arrV_cong fun j _ => by rw [(hz o (Nat.le_refl _) j).1]; rfl)
theorem AW.newL (X : CX κ (δ, b, n, nL, sh, tp, Qc, mc, ms) own nm cc ret d) {a N1 c1 s1 : Nat} (hd : decode cc pc = .ok (.newarray .long, 2)) (ha : a < 100000) (htp : tp) (hz : ZF μ N) (hsh : sh N = .inr (1, a)) (hN : N + 1 = N1) (hc1 : cells + 1 = c1) (hs1 : slots + a = s1) (hr : Nat.ble c1 mc = true ∧ Nat.ble s1 ms = true) (k : AW κ (δ, b, n, nL, sh, tp, Qc, mc, ms) N1 c1 s1 (pc + 2) ls (.ref (b + N) :: st) μ) : AW κ (δ, b, n, nL, sh, tp, Qc, mc, ms) N cells slots pc ls (.int (nI a) :: st) μ := by
  subst hN
  subst hc1
  subst hs1
  obtain ⟨p, l, e, R, s, m, args, below, meth, c⟩ := κ
  intro H locs lsr hP hT hS h
  obtain ⟨x1, x2, x3, x4, hts, x6, x7, x8, hK, hKS, hR⟩ := X
  subst hR
  have hsz : H.size = b + N := hT htp
  refine va_newaK (atype := .long) x1 x2 (hts _ ac_J) rfl hd rfl (nI_pos (by omega)) (n2_clamp (by omega)) (by show a * 8 ≤ _; omega) (Nat.le_of_ble_eq_true hr.1) (Nat.le_of_ble_eq_true hr.2) hsz fun H1 cA e1 z1 o1 hAr hNm => ?_
  have hcA : cA = δ.2.1 1 := Option.some.inj (hNm.symm.trans (hK.1.2 1 (δ.2.1 1, .long) rfl).2)
  subst hcA
  have o2 : ∀ q : Nat, q < H.size → H1[q]? = H[q]? := fun q hq => o1 q (hsz ▸ hq)
  refine k H1 locs lsr (wl_at hP o2 (fun _ _ => rfl) (fun o h1 h2 => ?_)) (fun _ => by rw [z1, Nat.add_assoc]) (vS_grow hS (by omega) o2) h
  obtain rfl : o = N := by omega
  unfold ent
  rw [hsh]
  show H1[b + o]? = some (vp_cell (δ.2.1 1) (a, .inr (.inl (μ.2.1 o))))
  rw [e1, vp_cell_l]
  exact congrArg some (arrV_cong fun j _ => by rw [(hz o (Nat.le_refl _) j).2.1]; rfl)
theorem AW.newQ (X : CX κ (δ, b, n, nL, sh, tp, Qc, mc, ms) own nm cc ret d) {idx a t N1 c1 s1 : Nat} {C : String} (hd : decode cc pc = .ok (.anewarray idx, 3)) (hL : Cond.classLink own idx C ∈ TT) (hao : FieldType.object C ∈ AOt) (ht : (tys δ)[t + 2]? = some (δ.2.1 (t + 2), .object C)) (ha : a < 100000) (htp : tp) (hz : ZF μ N) (hsh : sh N = .inr (t + 2, a)) (hN : N + 1 = N1) (hc1 : cells + 1 = c1) (hs1 : slots + a = s1) (hr : Nat.ble c1 mc = true ∧ Nat.ble s1 ms = true) (k : AW κ (δ, b, n, nL, sh, tp, Qc, mc, ms) N1 c1 s1 (pc + 3) ls (.ref (b + N) :: st) μ) : AW κ (δ, b, n, nL, sh, tp, Qc, mc, ms) N cells slots pc ls (.int (nI a) :: st) μ := by
  subst hN
  subst hc1
  subst hs1
  obtain ⟨p, l, e, R, s, m, args, below, meth, c⟩ := κ
  intro H locs lsr hP hT hS h
  obtain ⟨x1, x2, x3, x4, hts, x6, x7, x8, hK, hKS, hR⟩ := X
  subst hR
  have hsz : H.size = b + N := hT htp
  have hcl : (nI a).toNatClampNeg = a := n2_clamp (by omega)
  refine W.anew x1 x2 x4 (hts _ hL) (hK.2.2.2.2 _ hao) rfl hd rfl (nI_pos (by omega)) (by rw [hcl]; omega) (Nat.le_of_ble_eq_true hr.1) (by rw [hcl]; exact Nat.le_of_ble_eq_true hr.2) fun cA kA comp f1 f2 f3 f4 => ?_
  rw [hcl, hsz]
  generalize hH1 : H.push ({ cls := cA, slots := Array.replicate a .null, vm := .none } : Cell) = H1
  have z1 : H1.size = H.size + 1 := by rw [← hH1, Array.size_push]
  have e1 : H1[b + N]? = some (arrV cA a (fun _ => .null)) := by rw [← hH1, ← hsz, Array.getElem?_push_size, ← arrV_new]
  have o2 : ∀ q : Nat, q < H.size → H1[q]? = H[q]? := fun q hq => by rw [← hH1, Array.getElem?_push, if_neg (Nat.ne_of_lt hq)]
  obtain ⟨kA9, comp9, -, -, -, hNm⟩ := (hK.1.2 (t + 2) _ ht).2
  have hcA : cA = δ.2.1 (t + 2) := Option.some.inj (f1.symm.trans hNm)
  subst hcA
  refine k H1 locs lsr (wl_at hP o2 (fun _ _ => rfl) (fun o h1 h2 => ?_)) (fun _ => by rw [z1, hsz, Nat.add_assoc]) (vS_grow hS (by omega) o2) h
  obtain rfl : o = N := by omega
  unfold ent
  rw [hsh]
  show H1[b + o]? = some (vp_cell (δ.2.1 (t + 2)) (a, .inr (.inr (.inr (.inr (fun j => (μ.2.2 o j).map (fun i => b + i)))))))
  rw [e1, vp_cell_q]
  exact congrArg some (arrV_cong fun j _ => by rw [(hz o (Nat.le_refl _) j).2.2]; rfl)
/-- the rows of a matrix that was made at place N -/
def mnM (μ : Mm) (N a : Nat) : Mm := (μ.1, μ.2.1, fun o j => if o = N ∧ j < a then some (N + 1 + j) else μ.2.2 o j)
theorem ZF.mnM {μ : Mm} {N a N' : Nat} (h : ZF μ N') (hn : N < N') : ZF (mnM μ N a) N' := fun q hq j => by
  have hne : ¬ (q = N ∧ j < a) := fun z => by omega
  refine ⟨(h q hq j).1, (h q hq j).2.1, ?_⟩
  show (if q = N ∧ j < a then some (N + 1 + j) else μ.2.2 q j) = none
  rw [if_neg hne]
  exact (h q hq j).2.2
theorem AW.mna (X : CX κ (δ, b, n, nL, sh, tp, Qc, mc, ms) own nm cc ret d) {idx a a2 N1 c1 s1 : Nat} (hd : decode cc pc = .ok (.multianewarray idx 2, 4)) (hL : Cond.classLink own idx "[[J" ∈ TT) (ha : a < 100000) (ha2 : a2 < 100000) (htp : tp) (hz : ZF μ N) (hsh : sh N = .inr (4, a)) (hsh2 : ∀ j, j < a → sh (N + 1 + j) = .inr (1, a2)) (hN : N + 1 + a = N1) (hc1 : cells + 1 + a = c1) (hs1 : slots + a + a * a2 = s1) (hr : Nat.ble c1 mc = true ∧ Nat.ble s1 ms = true) (k : AW κ (δ, b, n, nL, sh, tp, Qc, mc, ms) N1 c1 s1 (pc + 4) ls (.ref (b + N) :: st) (mnM μ N a)) : AW κ (δ, b, n, nL, sh, tp, Qc, mc, ms) N cells slots pc ls (.int (nI a2) :: .int (nI a) :: st) μ := by
  subst hN
  subst hc1
  subst hs1
  obtain ⟨p, l, e, R, s, m, args, below, meth, c⟩ := κ
  intro H locs lsr hP hT hS h
  obtain ⟨x1, x2, x3, x4, hts, x6, x7, x8, hK, hKS, hR⟩ := X
  subst hR
  have hsz : H.size = b + N := hT htp
  have hr1 := Nat.le_of_ble_eq_true hr.1
  have hr2 := Nat.le_of_ble_eq_true hr.2
  refine W.mnx (ty := .long) (N' := a) (K' := a2) x1 x2 x4 (hts _ hL) (hK.2.2.2.2 (.array .long) (List.Mem.tail _ (List.Mem.tail _ (List.Mem.head _)))) (hts _ ac_J) (nI_pos (by omega)) (nI_pos (by omega)) (n2_clamp (by omega)) (n2_clamp (by omega)) (by omega) (by show a2 * 8 ≤ _; omega) (by omega) rfl rfl (by show _ ≤ mc; omega) (by show _ ≤ ms; omega) hd fun H1 cA cy f1 f2 z1 o1 e1 e2 => ?_
  have hcA : cA = δ.2.1 4 := Option.some.inj (f1.symm.trans (hK.1.2 4 (δ.2.1 4, .array .long) rfl).2)
  have hcy : cy = δ.2.1 1 := Option.some.inj (f2.symm.trans (hK.1.2 1 (δ.2.1 1, .long) rfl).2)
  subst hcA
  subst hcy
  rw [hsz]
  refine k H1 locs lsr (wl_at hP o1 (fun o ho => ?_) (fun o h1 h2 => ?_)) (fun _ => by rw [z1, hsz, Nat.add_assoc, Nat.add_assoc, Nat.add_assoc]) (vS_grow hS (by omega) o1) h
  · have e3 : (mnM μ N a).2.2 o = μ.2.2 o := funext fun j => if_neg fun z => by omega
    have ef : ∀ (k' : Nat) (ty : FieldType), fval b (mnM μ N a) o k' ty = fval b μ o k' ty := fun k' ty => by
      cases ty <;> simp [fval, e3] <;> rfl
    unfold ent
    simp only [e3, ef]
    rfl
  · by_cases ho : o = N
    · subst ho
      unfold ent
      rw [hsh]
      show H1[b + o]? = some (vp_cell (δ.2.1 4) (a, .inr (.inr (.inr (.inr (fun j => ((mnM μ o a).2.2 o j).map (fun i => b + i)))))))
      rw [← hsz, e1, vp_cell_q]
      refine congrArg some (arrV_cong fun j hj => ?_)
      rw [if_pos hj, show (mnM μ o a).2.2 o j = some (o + 1 + j) from if_pos ⟨rfl, hj⟩]
      show va_rf (some _) = va_rf (some _)
      rw [hsz, Nat.add_assoc, Nat.add_assoc, Nat.add_assoc]
    · obtain ⟨j, rfl⟩ : ∃ j, o = N + 1 + j := ⟨o - (N + 1), by omega⟩
      have hj : j < a := by omega
      unfold ent
      rw [hsh2 j hj]
      show H1[b + (N + 1 + j)]? = some (vp_cell (δ.2.1 1) (a2, .inr (.inl (μ.2.1 (N + 1 + j)))))
      rw [show b + (N + 1 + j) = H.size + 1 + j by omega, e2 j hj, vp_cell_l]
      exact congrArg some (arrV_cong fun i _ => by rw [(hz (N + 1 + j) (by omega) i).2.1]; rfl)
theorem ar_setQ {t o a9 k : Nat} {v : Nat} (h : AR sh N o (t + 2) a9) : (wl δ b sh N μ).set o (b + o, .inl (δ.2.1 (t + 2), a9, .inr (.inr (.inr (.inr (va_up (fun j => (μ.2.2 o j).map (fun i => b + i)) k (some (b + v)))))))) = wl δ b sh N (wR μ o k (some v)) := by
  refine wl_set h.1 ?_ (fun j hj => ent_wR hj)
  unfold ent
  rw [h.2]
  refine congrArg (fun f => Sum.inl (δ.2.1 (t + 2), a9, Sum.inr (Sum.inr (Sum.inr (Sum.inr f))))) (funext fun j => ?_)
  by_cases e : j = k
  · subst e
    simp [wR, va_up]
  · simp [wR, va_up, e]
theorem AW.aast (X : CX κ (δ, b, n, nL, sh, tp, Qc, mc, ms) own nm cc ret d) {o t9 a9 i v ci : Nat} {C E : String} {T : u_T} (hd : decode cc pc = .ok (.aastore, 1)) (hn : N ≤ n) (ho : AR sh N o (t9 + 2) a9) (ht : (tys δ)[t9 + 2]? = some (δ.2.1 (t9 + 2), .object E)) (hv : OB sh N v ci) (hC : CF ci C T) (hcast : C = E ∨ Cond.castable C E ∈ NW) (hi : i < a9) (ha : a9 < 2147483648) (k : AW κ (δ, b, n, nL, sh, tp, Qc, mc, ms) N cells slots (pc + 1) ls st (wR μ o i (some v))) : AW κ (δ, b, n, nL, sh, tp, Qc, mc, ms) N cells slots pc ls (.ref (b + v) :: .int (nI i) :: .ref (b + o) :: st) μ := by
  obtain ⟨p, l, e, R, s, m, args, below, meth, c⟩ := κ
  intro H locs lsr hP hT hS h
  obtain ⟨x1, x2, x3, x4, hts, x6, x7, x8, hK, hKS, hR⟩ := X
  obtain ⟨r', hr', cellV, g1, g2, g3, -⟩ := hP v _ (ob_get hv)
  have hcls := (hK.1.1 ci _ hC.1).2
  obtain ⟨kA, comp, k1, k2, k3, -⟩ := (hK.1.2 (t9 + 2) _ ht).2
  have hasg : s.vm.assignable (δ.1.1 ci) comp = true ∧ ∃ kE, s.vm.classes[comp]? = some kE := by
    rcases hcast with hc | hc
    · subst hc
      have hcomp : comp = δ.1.1 ci := Option.some.inj (k3.symm.trans hcls.1)
      subst hcomp
      obtain ⟨kC, hkC, -⟩ := hcls.2
      exact ⟨va_assign hcls, kC, hkC⟩
    · obtain ⟨kE, hkE, -⟩ := Vm.findClass_spec k3
      obtain ⟨c0, t1, f1, f2, f3⟩ := Cond.castable_spec (va_Nw.use (A := args) rfl (hK.2.1 _ hc))
      cases hcls.1.symm.trans f1
      cases k3.symm.trans f2
      exact ⟨f3, kE, hkE⟩
  obtain ⟨hinst, kE, hkE⟩ := hasg
  obtain ⟨kC, hkC, -⟩ := hcls.2
  have hin : vp_in (nI i) a9 := n2_in hi ha
  refine W.aast x1 x2 (hP o _ (ar_getR ho)) (fun q h => by cases h) (fun h => by cases h) k1 k2 rfl hkE ⟨fun q => hin (Or.inl q), by show _ < (arrV _ _ _).slots.size; rw [arrV_size, n2_clamp (by omega)]; exact hi⟩ g1 (fun q h => by rw [g3] at h; cases h) (by rw [g2]; exact hkC) (by rw [g2]; exact hinst) rfl rfl hd fun H1 e z oq => ?_
  rw [n2_clamp (by omega)] at e ⊢
  have hD := wl_D (δ := δ) (b := b) (sh := sh) (μ := μ) hn
  have hP1 := hP.set hD (ar_getR ho) (e := .inl (δ.2.1 (t9 + 2), a9, .inr (.inr (.inr (.inr (va_up (fun j => (μ.2.2 o j).map (fun i => b + i)) i (some (b + v)))))))) (by
    show H1[b + o]? = some (vp_cell _ _)
    rw [e]
    rw [vp_cell_q, vp_cell_q, arrV_store]
    refine congrArg some (arrV_cong fun q _ => ?_)
    by_cases hq : q = i
    · subst hq
      simp [updV, va_up, va_rf]
    · simp [updV, va_up, hq]) oq
  exact k H1 _ lsr (by rw [ar_setQ ho] at hP1; exact hP1) (fun q => z.trans (hT q)) (hS.put z oq (hD.2 o _ (ar_getR ho))) h
theorem AW.nrm {N1 c1 s1 : Nat} {K : Wt} (hN : N = N1) (hc : cells = c1) (hs : slots = s1) (k : AW κ K N1 c1 s1 pc ls st μ) : AW κ K N cells slots pc ls st μ := by
  subst hN
  subst hc
  subst hs
  exact k
theorem AW.iastN (X : CX κ (δ, b, n, nL, sh, tp, Qc, mc, ms) own nm cc ret d) {o a9 i : Nat} {v : Int32} (hd : decode cc pc = .ok (.iastore, 1)) (hn : N ≤ n) (ho : AR sh N o 0 a9) (hi : i < a9) (ha : a9 < 2147483648) (k : AW κ (δ, b, n, nL, sh, tp, Qc, mc, ms) N cells slots (pc + 1) ls st (wI μ o i v)) : AW κ (δ, b, n, nL, sh, tp, Qc, mc, ms) N cells slots pc ls (.int v :: .int (nI i) :: .ref (b + o) :: st) μ := by
  refine AW.iastore X hd hn ho (n2_in hi ha) ?_
  rw [n2_clamp (by omega)]
  exact k
end ALLOC
