/-! the law's own judgement: both worlds side by side -/
def LXc (κ : Kt) (δ : Dl) (b b0 L : Nat) (xs : Nat → Int32) : Prop :=
  match κ with
  | (p, l, e, R, s, m, args, below, meth, c) =>
    (p.tables.exec = Jvm.exec ∧ c.code = code ∧ c.maxLocals = 4 ∧ s.vm.findClass "PaintedOverLaw" = some m.cls) ∧ (∀ w ∈ TT, w.before args s = true) ∧ KX δ s ∧ KS δ (fun q => b ≤ q) s s.heap ∧ R = room_1 ∧ s.heap.size = b ∧ va_X b0 L xs s s.heap ∧ b0 < b
def LW (κ : Kt) (δ : Dl) (b : Nat) (Q : State → Prop) (cells slots pc : Nat) (ls : List (Option Value)) (st : List Value) (μ ν : Mm) : Prop :=
  match κ with
  | (p, l, e, R, s, m, args, below, meth, c) =>
    ∀ (H : Heap) (locs : List Loc) (lsr : Array Slot), va_P δ.1 vwCl (wl δ b shX NX μ) H → va_P δ.1 vwCl (wl δ (b + NX) shM NM ν) H → va_S (fun q => b ≤ q) s.heap H locs → lh lsr 4 ls →
      W p l e R s m args below meth c H locs cells slots Q (F0 m pc lsr st)
theorem KS.at2 {δ : Dl} {b n : Nat} {A : Nat → Prop} {s U : State} {H : Heap} {locs : List Loc} (h : KS δ A s s.heap) (hS : va_S A s.heap H locs) (hA : ∀ q, RG b n q → A q) (hU : U.heap = H) (hW : s.WarmedH U.vm) : KS δ (RG b n) U U.heap := by
  rw [hU]
  exact ⟨vk_S.narrow (vk_S.moved hW.alike (vk_S.kept h.1 hS.2.1)) hA, va_Z.narrow (va_Z.moved hW.alike (va_Z.kept h.2.1 hS.2.1)) hA, va_Zq.narrow (va_Zq.moved hW.alike (va_Zq.kept h.2.2 hS.2.1)) hA⟩
theorem P_keep {δ : Dl} {b n b2 N2 : Nat} {sh2 : Sh} {ν : Mm} {H H1 : Heap} (h : va_P δ.1 vwCl (wl δ b2 sh2 N2 ν) H) (hk : ∀ q : Nat, q < H.size → ¬ RG b n q → H1[q]? = H[q]?) (hd : ∀ o, o < N2 → ¬ RG b n (b2 + o)) : va_P δ.1 vwCl (wl δ b2 sh2 N2 ν) H1 :=
  h.kept fun k x hx => by
    have hlt := (h k x hx).lt
    obtain ⟨h1, rfl⟩ := wl_inv hx
    exact hk _ hlt (hd k h1)
theorem run_core2 {κ : Kt} {δ : Dl} {b n : Nat} {sh : Sh} {tp : Prop} {mc' ms' N2 cells slots pc : Nat} {st st0 : List Value} {post : Option Value → Mm → Prop} {p : Program} {l : Launch} {e : Env} {R : Room} {s : State} {m : MethodId} {args : Array Value} {below : List Frame} {meth : Method} {c : Code} {H : Heap} {locs : List Loc} {lsr : Array Slot} {Q : State → Prop} {a : Array Value} {A : Nat → Prop}
    (hr : va_Run p l e R s m args below meth c H locs cells slots mc' ms' (F0 m pc lsr st0) st (MQc δ b n sh N2 tp post a) (RG b n)) (hS : va_S A s.heap H locs) (hA : ∀ q, RG b n q → A q)
    (kk : ∀ (v : Option Value) (μ' : Mm) (H1 : Heap) (locs1 : List Loc), post v μ' → va_P δ.1 vwCl (wl δ b sh N2 μ') H1 → (tp → H1.size = b + N2) → va_S A s.heap H1 locs1 → (∀ q : Nat, q < H.size → ¬ RG b n q → H1[q]? = H[q]?) → W p l e R s m args below meth c H1 locs1 (cells + mc') (slots + ms') Q (F0 m (pc + 3) lsr (v.toList ++ st))) : W p l e R s m args below meth c H locs cells slots Q (F0 m pc lsr st0) := by
  intro T hT X
  obtain ⟨v, st₀, t, T', L, h0, X', hL, e1, e2, ⟨⟨v', μ', hv, hp, hb, hz0⟩, hz, hk⟩, step⟩ := hr T hT X
  cases hv
  rw [h0] at hz hk
  rw [← e1] at hz hk hb hz0
  obtain ⟨t2, a1, b1⟩ := kk v μ' T'.heap (locs ++ L) hp hb hz0 ⟨Nat.le_trans hS.1 hz, fun q h1 h2 => (hk q (Nat.lt_of_lt_of_le h1 hS.1) (fun z => h2 (hA q z))).trans (hS.2.1 q h1 h2), fun q hq => by
    rcases List.mem_append.mp hq with h | h
    · exact hS.2.2 q h
    · exact hA _ (hL q h)⟩ hk T' rfl X'
  exact ⟨t2, step t2 a1, b1⟩
theorem lw_fit {d' mc' ms' maxL : Nat} (h : d' ≤ 100) (hm : maxL ≤ 45) : (rmD d' mc' ms').frames + 1 ≤ room_1.frames ∧ 8 + (maxL + 11) + (rmD d' mc' ms').locals ≤ room_1.locals := by
  unfold rmD room_1
  dsimp only
  omega
section LROWS
variable {κ : Kt} {δ : Dl} {b b0 L : Nat} {xs : Nat → Int32} {Q : State → Prop} {cells slots pc : Nat} {ls : List (Option Value)} {st st0 : List Value} {μ ν : Mm}
theorem LW.aload_n (X : LXc κ δ b b0 L xs) {k0 : Fin 4} {x : Nat} (hd : decode code pc = .ok (.aload_n k0, 1)) {i : Nat} (hi : (k0 : Nat) = i) (hl : ls[i]? = some (some (.ref x))) (k : LW κ δ b Q cells slots (pc + 1) ls (.ref x :: st) μ ν) : LW κ δ b Q cells slots pc ls st μ ν := by
  obtain ⟨p, l, e, R, s, m, args, below, meth, c⟩ := κ
  intro H locs lsr hP hP2 hS h
  exact lv_aload_n X.1.1 X.1.2.1 hd hi (lh_at h hl) (k H locs lsr hP hP2 hS h)
theorem LW.arg (X : LXc κ δ b b0 L xs) {i j : Nat} {jj : Int} (h0 : decode code pc = .ok (.aload_n 0, 1)) (h1 : decode code (pc + 1) = .ok (.iload_n 3, 1)) (h2 : decode code (pc + 2) = .ok (.iconst jj, 1)) (h3 : decode code (pc + 3) = .ok (.iadd, 1)) (h4 : decode code (pc + 4) = .ok (.iaload, 1)) (hj : Int32.ofInt jj = nI j) (hl0 : ls[0]? = some (some (.ref b0))) (hl3 : ls[3]? = some (some (.int (nI i)))) (hi : i + j < L) (hL : L ≤ 3072) (k : LW κ δ b Q cells slots (pc + 5) ls (.int (xs (i + j)) :: st) μ ν) : LW κ δ b Q cells slots pc ls st μ ν := by
  obtain ⟨p, l, e, R, s, m, args, below, meth, c⟩ := κ
  intro H locs lsr hP hP2 hS h
  obtain ⟨⟨x1, x2, x3, x4⟩, hts, hK, hKS, hR, hb, hX, hbl⟩ := X
  refine lv_aload_n x1 x2 h0 (i := 0) rfl (lh_at h hl0) ?_
  refine lv_iload_n x1 x2 h1 (i := 3) rfl (lh_at h hl3) ?_
  refine lv_iconst x1 x2 h2 hj ?_
  refine lv_iadd x1 x2 h3 ?_
  rw [nI_add]
  refine va_sld x1 x2 hX (by omega) (A := fun q => b ≤ q) (Nat.not_le.mpr hbl) hS (n2_in hi (by omega)) h4 ?_
  rw [n2_clamp (by omega)]
  exact k H locs lsr hP hP2 hS h
theorem LW.i2l (X : LXc κ δ b b0 L xs) {x : Int32} (hd : decode code pc = .ok (.i2l, 1)) (k : LW κ δ b Q cells slots (pc + 1) ls (.long x.toInt64 :: st) μ ν) : LW κ δ b Q cells slots pc ls (.int x :: st) μ ν := by
  obtain ⟨p, l, e, R, s, m, args, below, meth, c⟩ := κ
  intro H locs lsr hP hP2 hS h
  exact lv_i2l X.1.1 X.1.2.1 hd rfl (k H locs lsr hP hP2 hS h)
theorem LW.bipush (X : LXc κ δ b b0 L xs) {i : Int} {v : Int32} (hd : decode code pc = .ok (.bipush i, 2)) (hv : (Int8.ofInt i).toInt32 = v) (k : LW κ δ b Q cells slots (pc + 2) ls (.int v :: st) μ ν) : LW κ δ b Q cells slots pc ls st μ ν := by
  obtain ⟨p, l, e, R, s, m, args, below, meth, c⟩ := κ
  intro H locs lsr hP hP2 hS h
  exact lv_bipush X.1.1 X.1.2.1 hd hv (k H locs lsr hP hP2 hS h)
theorem LW.lshl (X : LXc κ δ b b0 L xs) {x : Int64} {z : Int32} (hd : decode code pc = .ok (.lshl, 1)) (k : LW κ δ b Q cells slots (pc + 1) ls (.long (x <<< (z.toInt64 &&& 63)) :: st) μ ν) : LW κ δ b Q cells slots pc ls (.int z :: .long x :: st) μ ν := by
  obtain ⟨p, l, e, R, s, m, args, below, meth, c⟩ := κ
  intro H locs lsr hP hP2 hS h
  exact lv_lshl X.1.1 X.1.2.1 hd rfl (k H locs lsr hP hP2 hS h)
theorem LW.land (X : LXc κ δ b b0 L xs) {x z : Int64} (hd : decode code pc = .ok (.land, 1)) (k : LW κ δ b Q cells slots (pc + 1) ls (.long (x &&& z) :: st) μ ν) : LW κ δ b Q cells slots pc ls (.long z :: .long x :: st) μ ν := by
  obtain ⟨p, l, e, R, s, m, args, below, meth, c⟩ := κ
  intro H locs lsr hP hP2 hS h
  exact lv_land X.1.1 X.1.2.1 hd (k H locs lsr hP hP2 hS h)
theorem LW.lor (X : LXc κ δ b b0 L xs) {x z : Int64} (hd : decode code pc = .ok (.lor, 1)) (k : LW κ δ b Q cells slots (pc + 1) ls (.long (x ||| z) :: st) μ ν) : LW κ δ b Q cells slots pc ls (.long z :: .long x :: st) μ ν := by
  obtain ⟨p, l, e, R, s, m, args, below, meth, c⟩ := κ
  intro H locs lsr hP hP2 hS h
  exact lv_lor X.1.1 X.1.2.1 hd (k H locs lsr hP hP2 hS h)
theorem LW.ldcl (X : LXc κ δ b b0 L xs) {i : Nat} {v : Int64} (hd : decode code pc = .ok (.ldc2_w i, 3)) (hv : Cond.constantLong "PaintedOverLaw" i v ∈ TT) (k : LW κ δ b Q cells slots (pc + 3) ls (.long v :: st) μ ν) : LW κ δ b Q cells slots pc ls st μ ν := by
  obtain ⟨p, l, e, R, s, m, args, below, meth, c⟩ := κ
  intro H locs lsr hP hP2 hS h
  exact lv_ldc2 X.1.1 X.1.2.1 X.1.2.2.2 (X.2.1 _ hv) hd (k H locs lsr hP hP2 hS h)
theorem LW.goto (X : LXc κ δ b b0 L xs) {off : Int} {tgt : Nat} (hd : decode code pc = .ok (.goto off, 3)) (ht : (pc : Int) + off = (tgt : Int)) (k : LW κ δ b Q cells slots tgt ls st μ ν) : LW κ δ b Q cells slots pc ls st μ ν := by
  obtain ⟨p, l, e, R, s, m, args, below, meth, c⟩ := κ
  intro H locs lsr hP hP2 hS h
  exact lv_goto X.1.1 X.1.2.1 hd ht (k H locs lsr hP hP2 hS h)
theorem LW.eqI (X : LXc κ δ b b0 L xs) {x z : Int32} {off : Int} {tgt : Nat} (hd : decode code pc = .ok (.if_icmp .eq off, 3)) (ht : (pc : Int) + off = (tgt : Int)) (he : x = z) (k : LW κ δ b Q cells slots tgt ls st μ ν) : LW κ δ b Q cells slots pc ls (.int z :: .int x :: st) μ ν := by
  obtain ⟨p, l, e, R, s, m, args, below, meth, c⟩ := κ
  intro H locs lsr hP hP2 hS h
  exact lv_icmp_eq X.1.1 X.1.2.1 hd ht (fun _ => k H locs lsr hP hP2 hS h) (fun q => absurd he q)
theorem lg_cmp_self (x : Int64) : lg_cmp x x = 0 := by
  unfold lg_cmp
  simp
theorem LW.eqL (X : LXc κ δ b b0 L xs) {x z : Int64} {off : Int} {tgt : Nat} (hd1 : decode code pc = .ok (.lcmp, 1)) (hd : decode code (pc + 1) = .ok (.ifCond .eq off, 3)) (ht : ((pc + 1 : Nat) : Int) + off = (tgt : Int)) (he : x = z) (k : LW κ δ b Q cells slots tgt ls st μ ν) : LW κ δ b Q cells slots pc ls (.long z :: .long x :: st) μ ν := by
  obtain ⟨p, l, e, R, s, m, args, below, meth, c⟩ := κ
  intro H locs lsr hP hP2 hS h
  subst he
  refine W.lcmp X.1.1 X.1.2.1 hd1 ?_
  rw [lg_cmp_self]
  exact lv_if_eq X.1.1 X.1.2.1 hd ht (fun _ => k H locs lsr hP hP2 hS h) (fun q => absurd rfl q)
theorem LW.tableOut (X : LXc κ δ b b0 L xs) {dflt lo hi : Int} {offs : Array Int} {len : Nat} {x : Int32} {tgt : Nat} (hd : decode code pc = .ok (.tableswitch dflt lo hi offs, len)) (hx : x.toInt < lo ∨ hi < x.toInt) (ht : (pc : Int) + dflt = (tgt : Int)) (k : LW κ δ b Q cells slots tgt ls st μ ν) : LW κ δ b Q cells slots pc ls (.int x :: st) μ ν := by
  obtain ⟨p, l, e, R, s, m, args, below, meth, c⟩ := κ
  intro H locs lsr hP hP2 hS h
  exact lv_tableOut X.1.1 X.1.2.1 hd hx ht (k H locs lsr hP hP2 hS h)
theorem LW.tableIn (X : LXc κ δ b b0 L xs) {dflt lo hi : Int} {offs : Array Int} {len : Nat} {x : Int32} {off : Int} {tgt : Nat} (hd : decode code pc = .ok (.tableswitch dflt lo hi offs, len)) (h1 : ¬ x.toInt < lo) (h2 : ¬ hi < x.toInt) (ho : offs[(x.toInt - lo).toNat]? = some off) (ht : (pc : Int) + off = (tgt : Int)) (k : LW κ δ b Q cells slots tgt ls st μ ν) : LW κ δ b Q cells slots pc ls (.int x :: st) μ ν := by
  obtain ⟨p, l, e, R, s, m, args, below, meth, c⟩ := κ
  intro H locs lsr hP hP2 hS h
  exact lv_tableIn X.1.1 X.1.2.1 hd h1 h2 ho ht (k H locs lsr hP hP2 hS h)
variable {idx d' maxL k0 : Nat} {y' : MethodName} {bytes : ByteArray} {ret' : Option FieldType} {av : List Value} {post : Option Value → Mm → Prop}
theorem LW.callX (X : LXc κ δ b b0 L xs) (hd : decode code pc = .ok (.invokevirtual idx, 3)) (Lk : LV "PaintedOverLaw" idx RX11 y' bytes maxL ret' k0) (hM : MCX κ.2.1 δ b y' bytes maxL ret' d' (.ref (b + 0) :: av) μ post) (hav : av.length = k0) (hst : st0 = av.reverse ++ .ref (b + 0) :: st) (hcat : Nat.ble (st.map fun v => v.category).sum 8 = true) (hd' : Nat.ble d' 100 = true) (hr : Nat.ble cells 600000 = true ∧ Nat.ble slots 7302250 = true)
    (kk : ∀ (v : Option Value) (μ' : Mm), post v μ' → LW κ δ b Q cells slots (pc + 3) ls (v.toList ++ st) μ' ν) : LW κ δ b Q cells slots pc ls st0 μ ν := by
  obtain ⟨p, l, e, R, s, m, args, below, meth, c⟩ := κ
  intro H locs lsr hP hP2 hS h
  subst hst
  obtain ⟨⟨x1, x2, x3, x4⟩, hts, hK, hKS, hR, hb, hX, hbl⟩ := X
  obtain ⟨l1, l2, l3, l4, l5, l6, l7⟩ := Lk
  subst hR
  have hA : ∀ q, RG b NX q → b ≤ q := fun q z => z.1
  refine run_core2 (κ := (p, l, e, room_1, s, m, args, below, meth, c)) (va_runV (As := av) (rest := st) ⟨x1, x2, x3, x4, hts⟩ hM (cwV k0 hts (fun w hw => ?_) rfl rfl rfl l7 (lw_fit (Nat.le_of_ble_eq_true hd') l6)) ⟨pc_blind _ _ _ _, va_recv hK.1 hP cfX11.1 (ob_get ox0), fun U hU hW => ⟨rfl, by rw [hU]; exact hP, fun z => z.elim, KX.warm hW hK, KS.at2 hKS hS hA hU hW⟩⟩ rfl hav h.1 rfl (cat_fit (Nat.le_of_ble_eq_true hcat)) hd ⟨Nat.le_of_ble_eq_true hr.1, Nat.le_of_ble_eq_true hr.2⟩) hS hA (fun v μ' H1 locs1 hp hP1 hT1 hS1 hk1 => kk v μ' hp H1 locs1 lsr hP1 (P_keep hP2 hk1 (fun o ho z => by have := z.2; omega)) hS1 h)
  have key : w ∈ TT := by
    simp only [wsV, List.cons_append, List.nil_append, List.mem_cons] at hw
    rcases hw with rfl | rfl | rfl | rfl | rfl | hw <;> assumption
  exact ⟨key, tt_good key⟩
theorem LW.callM (X : LXc κ δ b b0 L xs) (hd : decode code pc = .ok (.invokevirtual idx, 3)) (Lk : LV "PaintedOverLaw" idx RX12 y' bytes maxL ret' k0) (hM : MCM κ.2.1 δ (b + NX) y' bytes maxL ret' d' (.ref (b + NX + 0) :: av) ν post) (hav : av.length = k0) (hst : st0 = av.reverse ++ .ref (b + NX + 0) :: st) (hcat : Nat.ble (st.map fun v => v.category).sum 8 = true) (hd' : Nat.ble d' 100 = true) (hr : Nat.ble cells 600000 = true ∧ Nat.ble slots 7302250 = true)
    (kk : ∀ (v : Option Value) (ν' : Mm), post v ν' → LW κ δ b Q cells slots (pc + 3) ls (v.toList ++ st) μ ν') : LW κ δ b Q cells slots pc ls st0 μ ν := by
  obtain ⟨p, l, e, R, s, m, args, below, meth, c⟩ := κ
  intro H locs lsr hP hP2 hS h
  subst hst
  obtain ⟨⟨x1, x2, x3, x4⟩, hts, hK, hKS, hR, hb, hX, hbl⟩ := X
  obtain ⟨l1, l2, l3, l4, l5, l6, l7⟩ := Lk
  subst hR
  have hA : ∀ q, RG (b + NX) NM q → b ≤ q := fun q z => by have := z.1; omega
  refine run_core2 (κ := (p, l, e, room_1, s, m, args, below, meth, c)) (va_runV (As := av) (rest := st) ⟨x1, x2, x3, x4, hts⟩ hM (cwV k0 hts (fun w hw => ?_) rfl rfl rfl l7 (lw_fit (Nat.le_of_ble_eq_true hd') l6)) ⟨pc_blind _ _ _ _, va_recv hK.1 hP2 cfX12.1 (ob_get om0), fun U hU hW => ⟨rfl, by rw [hU]; exact hP2, fun z => z.elim, KX.warm hW hK, KS.at2 hKS hS hA hU hW⟩⟩ rfl hav h.1 rfl (cat_fit (Nat.le_of_ble_eq_true hcat)) hd ⟨Nat.le_of_ble_eq_true hr.1, Nat.le_of_ble_eq_true hr.2⟩) hS hA (fun v ν' H1 locs1 hp hP1 hT1 hS1 hk1 => kk v ν' hp H1 locs1 lsr (P_keep hP hk1 (fun o ho z => by have := z.1; omega)) hP1 hS1 h)
  have key : w ∈ TT := by
    simp only [wsV, List.cons_append, List.nil_append, List.mem_cons] at hw
    rcases hw with rfl | rfl | rfl | rfl | rfl | hw <;> assumption
  exact ⟨key, tt_good key⟩
end LROWS
