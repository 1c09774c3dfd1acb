/-! the law's loop -/
theorem len_6 {L i : Nat} (hL : L ≤ 3072) (hi : i ≤ L) (hq : ¬ Int32.ofNat L - 6 < nI i) : i + 6 ≤ L := by
  by_cases h6 : 6 ≤ L
  · have e : Int32.ofNat L - 6 = nI (L - 6) := pk_sub (a := L) (b := 6) h6
    rw [e, n2_lt (by omega) (by omega)] at hq
    omega
  · exfalso
    refine hq ?_
    have h0 : (0 : Int32) ≤ nI i := (n2_le (a := 0) (by decide) (by omega)).mpr (Nat.zero_le i)
    have hneg : ∀ z : Nat, z < 6 → Int32.ofNat z - 6 < 0 := by decide
    exact Int32.lt_of_lt_of_le (hneg L (by omega)) h0
set_option maxRecDepth 100000 in
set_option maxHeartbeats 4000000 in
theorem law_loop {κ : Kt} {δ : Dl} {b b0 L : Nat} {xs : Nat → Int32} {Q : State → Prop} (X : LXc κ δ b b0 L xs) (hL : L ≤ 3072) (kend : ∀ (i : Nat) (μ ν : Mm), LW κ δ b Q 186 5241 1612 [some (.ref b0), some (.ref (b + 0)), some (.ref (b + NX + 0)), some (.int (nI i))] [] μ ν) : ∀ (n i : Nat) (μ ν : Mm) (S : St), L - i < n → i ≤ L → RX μ S → RMX ν S → LW κ δ b Q 186 5241 18 [some (.ref b0), some (.ref (b + 0)), some (.ref (b + NX + 0)), some (.int (nI i))] [] μ ν := by
  intro n
  induction n with
  | zero => intro i μ ν S hm; exact absurd hm (Nat.not_lt_zero _)
  | succ n ih =>
    intro i μ ν S hm hi hR hM
    have kback : i + 6 ≤ L → ∀ (μ1 ν1 : Mm) (S1 : St), RX μ1 S1 → RMX ν1 S1 → LW κ δ b Q 186 5241 1606 [some (.ref b0), some (.ref (b + 0)), some (.ref (b + NX + 0)), some (.int (nI i))] [] μ1 ν1 := by
      intro hi6 μ1 ν1 S1 r1 r2
      have kk := ih (i + 6) μ1 ν1 S1 (by omega) hi6 r1 r2
      obtain ⟨p, l, e, R, s, m, args, below, meth, c⟩ := κ
      intro H locs lsr hP hP2 hS h
      obtain ⟨⟨x1, x2, x3, x4⟩, hts, hK, hKS, hRm, hb, hX, hbl⟩ := X
      obtain ⟨k9, hk9⟩ := lh_find (show ([some (.ref b0), some (.ref (b + 0)), some (.ref (b + NX + 0)), some (.int (nI i))] : List (Option Value))[3]? = some (some (.int (nI i))) from rfl)
      refine lv_iinc (k := k9) x1 x2 dL_law_1606 h hk9 (v := nI (i + 6)) (by rw [← nI_add]; rfl) (by decide) rfl (fun ls2 h2 => ?_)
      refine lv_goto x1 x2 (tgt := 18) dL_law_1609 (by decide) ?_
      exact kk H locs ls2 hP hP2 hS (lh_set1 (ls := [some (.ref b0), some (.ref (b + 0)), some (.ref (b + NX + 0)), some (.int (nI i))]) rfl h2)
    have kcase : ∀ (k9 : Nat), k9 < 64 → i + 6 ≤ L → LW κ δ b Q 186 5241 33 [some (.ref b0), some (.ref (b + 0)), some (.ref (b + NX + 0)), some (.int (nI i))] [.int (nI k9)] μ ν := fun k9 h9 hi6 => lc_sw h9 X hL hi6 hR hM (kback hi6)
    have ke := kend i μ ν
    obtain ⟨p, l, e, R, s, m, args, below, meth, c⟩ := κ
    intro H locs lsr hP hP2 hS h
    obtain ⟨⟨x1, x2, x3, x4⟩, hts, hK, hKS, hRm, hb, hX, hbl⟩ := X
    refine lv_iload_n x1 x2 dL_law_18 (i := 3) rfl (lh_at h rfl) ?_
    refine lv_aload_n x1 x2 dL_law_19 (i := 0) rfl (lh_at h rfl) ?_
    refine va_slen x1 x2 hX (by omega) (A := fun q => b ≤ q) (Nat.not_le.mpr hbl) hS dL_law_20 ?_
    refine lv_bipush x1 x2 (v := 6) dL_law_21 rfl ?_
    refine lv_isub x1 x2 dL_law_23 ?_
    refine lv_icmp_gt x1 x2 (tgt := 1612) dL_law_24 (by decide) (fun _ => ke H locs lsr hP hP2 hS h) (fun hq => ?_)
    have hi6 : i + 6 ≤ L := len_6 hL hi hq
    refine lv_aload_n x1 x2 dL_law_27 (i := 0) rfl (lh_at h rfl) ?_
    refine lv_iload_n x1 x2 dL_law_28 (i := 3) rfl (lh_at h rfl) ?_
    refine va_sld x1 x2 hX (by omega) (A := fun q => b ≤ q) (Nat.not_le.mpr hbl) hS (n2_in (show i < L by omega) (by omega)) dL_law_29 ?_
    rw [n2_clamp (by omega)]
    refine lv_bipush x1 x2 (v := 63) dL_law_30 rfl ?_
    refine lv_iand x1 x2 dL_law_32 ?_
    obtain ⟨k9, h9, e9⟩ := and63 (xs i)
    rw [e9]
    exact kcase k9 h9 hi6 H locs lsr hP hP2 hS h
/-! the law's two objects -/
theorem wl_0 {δ : Dl} {b : Nat} {sh : Sh} {μ : Mm} {H : Heap} : va_P δ.1 vwCl (wl δ b sh 0 μ) H := fun k q hq => absurd (wl_inv hq).1 (Nat.not_lt_zero k)
section NEWX
variable {p : Program} {l : Launch} {e : Env} {R : Room} {s : State} {m : MethodId} {args : Array Value} {below : List Frame} {meth : Method} {c : Code} {H : Heap} {locs : List Loc} {cells slots : Nat} {Q : State → Prop}
variable {pc : Nat} {lsr : Array Slot} {rest : List Value}
theorem W.newX {δ : Dl} {b idx ci : Nat} {sh : Sh} {C : String} {T : u_T} (x1 : p.tables.exec = Jvm.exec) (x2 : c.code = code) (x4 : s.vm.findClass "PaintedOverLaw" = some m.cls) (hts : ∀ w ∈ TT, w.before args s = true) (hK : KX δ s) (hd : decode code pc = .ok (.new idx, 3)) (hC : CF ci C T) (hL : Cond.classLink "PaintedOverLaw" idx C ∈ TT) (hI : Cond.instantiable C (ncf ci) ∈ TT) (hi : Cond.initialized C ∈ TT) (hdf : ∀ k, k < ncf ci → dfT (cft ci k) = true) (hsz : H.size = b) (hsh : sh 0 = .inl ci) (hr : cells + 1 ≤ R.cells ∧ slots + ncf ci ≤ R.slots)
    (kk : ∀ H1 : Heap, va_P δ.1 vwCl (wl δ b sh 1 zM) H1 → H1.size = b + 1 → (∀ q : Nat, q < H.size → H1[q]? = H[q]?) → W p l e R s m args below meth c H1 locs (cells + 1) (slots + ncf ci) Q (F0 m (pc + 3) lsr (.ref (b + 0) :: rest))) : W p l e R s m args below meth c H locs cells slots Q (F0 m pc lsr rest) := by
  have hKn := hK.1.1 ci _ hC.1
  refine W.newcK x1 x2 x4 (hts _ hL) (hts _ hI) (hts _ hi) rfl hd hr.1 hr.2 hKn.2.1 hsz fun H1 kC hkC e1 z1 o1 => ?_
  have o2 : ∀ q : Nat, q < H.size → H1[q]? = H[q]? := fun q hq => o1 q (hsz ▸ hq)
  refine kk H1 (wl_at (N := 0) (μ := zM) (H := H) wl_0 o2 (fun _ _ => rfl) (fun o h1 h2 => ?_)) z1 o2
  obtain rfl : o = 0 := by omega
  unfold ent
  rw [hsh]
  refine ⟨_, hC.1, (u_born (cft ci) hts hC.2.1 hKn hkC e1 hC.2.2.1).to (fun j hj => ?_)⟩
  show _ = ((List.range (ncf ci)).map (fun k => fval b zM 0 k (cft ci k))).getD j .null
  rw [List.getD_eq_getElem?_getD, List.getElem?_map, List.getElem?_range hj]
  exact zf_val (zf_zM 0) (Nat.le_refl _) (hdf j hj)
end NEWX
