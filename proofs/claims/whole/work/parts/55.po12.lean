/-! how many orders -/
def sumT (f : Nat → Nat) : Nat → Nat
  | 0 => 0
  | t + 1 => sumT f t + f t
theorem sumT_le {f g : Nat → Nat} : ∀ {n : Nat}, (∀ t, t < n → f t ≤ g t) → sumT f n ≤ sumT g n
  | 0, _ => Nat.le_refl _
  | n + 1, h => Nat.add_le_add (sumT_le (fun t ht => h t (by omega))) (h n (by omega))
theorem sumT_eq {f g : Nat → Nat} : ∀ {n : Nat}, (∀ t, t < n → f t = g t) → sumT f n = sumT g n
  | 0, _ => rfl
  | n + 1, h => by rw [sumT, sumT, sumT_eq (fun t ht => h t (by omega)), h n (by omega)]
theorem sumT_at {f : Nat → Nat} : ∀ {n t : Nat}, t < n → f t ≤ sumT f n
  | 0, t, h => absurd h (Nat.not_lt_zero t)
  | n + 1, t, h => by
    rw [sumT]
    by_cases z : t = n
    · subst z; omega
    · have := sumT_at (f := f) (show t < n by omega); omega
theorem sumT_pos {f : Nat → Nat} : ∀ {n : Nat}, 0 < sumT f n → ∃ t, t < n ∧ 0 < f t
  | 0, h => absurd h (Nat.lt_irrefl 0)
  | n + 1, h => by
    rw [sumT] at h
    by_cases z : 0 < f n
    · exact ⟨n, by omega, z⟩
    · obtain ⟨t, a, c⟩ := sumT_pos (f := f) (n := n) (by omega)
      exact ⟨t, by omega, c⟩
/-- how many orders go on from those placed -/
def ordF (N : Nat) (U : Nat → Nat) : Nat → Nat → Nat
  | 0, p => if p = N then 1 else 0
  | f + 1, p => if p = N then 1 else sumT (fun t => if mayC N U t p = true then ordF N U f (p ||| 2 ^ t) else 0) 8
theorem tb_andN (a y t : Nat) : (andN a y).testBit t = (a.testBit t && !y.testBit t) := by
  rw [andN, Nat.testBit_xor, Nat.testBit_and]
  cases a.testBit t <;> cases y.testBit t <;> rfl
theorem andN_0 {a y : Nat} : andN a y = 0 ↔ ∀ t, a.testBit t = true → y.testBit t = true := by
  constructor
  · intro h t ha
    have := tb_andN a y t
    rw [h, ha] at this
    cases hy : y.testBit t
    · rw [hy] at this; simp at this
    · rfl
  · intro h
    apply Nat.eq_of_testBit_eq
    intro t
    rw [tb_andN, Nat.zero_testBit]
    cases ha : a.testBit t
    · rfl
    · rw [h t ha]; rfl
theorem mayC_iff {N t p : Nat} {U : Nat → Nat} : mayC N U t p = true ↔ N.testBit t = true ∧ p.testBit t = false ∧ ∀ i, (U t).testBit i = true → p.testBit i = true := by
  unfold mayC
  rw [Bool.and_eq_true, tb_andN, decide_eq_true_eq, andN_0]
  cases N.testBit t <;> cases p.testBit t <;> simp
theorem or_gt {p t : Nat} (h : p.testBit t = false) : p < p ||| 2 ^ t := by
  refine Nat.lt_of_le_of_ne Nat.left_le_or (fun e => ?_)
  have := tb_or2 p t t
  rw [← e, h] at this
  simp at this
section ORD
variable {N : Nat} {U : Nat → Nat}
theorem ordF_N (f : Nat) : ordF N U f N = 1 := by
  cases f <;> simp [ordF]
theorem ordF_st : ∀ (f g p : Nat), p < 256 → 256 - p ≤ f → 256 - p ≤ g → ordF N U f p = ordF N U g p
  | 0, g, p, h, a, c => by omega
  | f + 1, 0, p, h, a, c => by omega
  | f + 1, g + 1, p, h, a, c => by
    unfold ordF
    split
    · rfl
    · refine sumT_eq (fun t ht => ?_)
      split
      · rename_i q
        have q := mayC_iff.mp q
        have := or_gt q.2.1
        exact ordF_st f g _ (or_lt8 h (pow_lt8 ht)) (by omega) (by omega)
      · rfl
theorem ordF_rec {p : Nat} (hp : p < 256) (hn : p ≠ N) : ordF N U 256 p = sumT (fun t => if mayC N U t p = true then ordF N U 256 (p ||| 2 ^ t) else 0) 8 := by
  rw [show ordF N U 256 p = sumT (fun t => if mayC N U t p = true then ordF N U 255 (p ||| 2 ^ t) else 0) 8 from if_neg hn]
  refine sumT_eq (fun t ht => ?_)
  split
  · rename_i q
    have := or_gt (mayC_iff.mp q).2.1
    exact ordF_st _ _ _ (or_lt8 hp (pow_lt8 ht)) (by omega) (by omega)
  · rfl
theorem eq_of_sub {m n : Nat} (h : ∀ t, m.testBit t = true → n.testBit t = true) (h2 : ∀ t, n.testBit t = true → m.testBit t = true) : m = n := by
  apply Nat.eq_of_testBit_eq
  intro t
  cases a : m.testBit t
  · cases c : n.testBit t
    · rfl
    · rw [h2 t c] at a; cases a
  · rw [h t a]
/-- what lies more has orders too -/
theorem ordF_more : ∀ (f m lie : Nat), lie < 256 → (∀ t, m.testBit t = true → lie.testBit t = true) → (∀ t, lie.testBit t = true → N.testBit t = true) → 0 < ordF N U f m → 0 < ordF N U 256 lie
  | 0, m, lie, hl, h1, h2, h => by
    unfold ordF at h
    split at h
    · subst m
      rw [eq_of_sub h2 h1, ordF_N]; exact Nat.one_pos
    · exact absurd h (Nat.lt_irrefl 0)
  | f + 1, m, lie, hl, h1, h2, h => by
    unfold ordF at h
    split at h
    · subst m
      rw [eq_of_sub h2 h1, ordF_N]; exact Nat.one_pos
    · obtain ⟨t, ht, hq⟩ := sumT_pos h
      split at hq
      · rename_i q
        have q := mayC_iff.mp q
        cases hb : lie.testBit t
        · have hc : mayC N U t lie = true := mayC_iff.mpr ⟨q.1, hb, fun i hi => h1 i (q.2.2 i hi)⟩
          have k := ordF_more f (m ||| 2 ^ t) (lie ||| 2 ^ t) (or_lt8 hl (pow_lt8 ht)) (fun i hi => by
            rw [tb_or2] at hi ⊢
            cases hm : m.testBit i
            · rw [hm, Bool.false_or] at hi; rw [hi, Bool.or_true]
            · rw [h1 i hm]; rfl) (fun i hi => by
            rw [tb_or2] at hi
            cases hm : lie.testBit i
            · rw [hm, Bool.false_or] at hi
              have := of_decide_eq_true hi
              rw [← this]; exact q.1
            · exact h2 i hm) hq
          by_cases e : lie = N
          · rw [e, ordF_N]; exact Nat.one_pos
          · rw [ordF_rec hl e]
            refine Nat.lt_of_lt_of_le k ?_
            have := sumT_at (f := fun t => if mayC N U t lie = true then ordF N U 256 (lie ||| 2 ^ t) else 0) ht
            rw [if_pos hc] at this
            exact this
        · refine ordF_more f (m ||| 2 ^ t) lie hl (fun i hi => ?_) h2 hq
          rw [tb_or2] at hi
          cases hm : m.testBit i
          · rw [hm, Bool.false_or] at hi
            have := of_decide_eq_true hi
            rw [← this]; exact hb
          · exact h1 i hm
      · exact absurd hq (Nat.lt_irrefl 0)
theorem lowO_may {p t : Nat} (h : lowO N U p = some t) : mayC N U t p = true := (fstUp_s h).1
theorem grd_sub : ∀ k t, (grd N U k).testBit t = true → N.testBit t = true
  | 0, t, h => by rw [grd, Nat.zero_testBit] at h; cases h
  | k + 1, t, h => by
    rw [grd] at h
    cases q : lowO N U (grd N U k) with
    | none => rw [q, oBit, Nat.or_zero] at h; exact grd_sub k t h
    | some c =>
      rw [q, oBit, tb_or2] at h
      cases hm : (grd N U k).testBit t
      · rw [hm, Bool.false_or] at h
        have := of_decide_eq_true h
        rw [← this]; exact (mayC_iff.mp (lowO_may q)).1
      · exact grd_sub k t hm
theorem pcnt_or : ∀ p, p < 256 → ∀ t, t < 8 → p.testBit t = false → pcnt (p ||| 2 ^ t) = pcnt p + 1 := by decide +kernel
theorem pcnt_8 : ∀ p, p < 256 → 8 ≤ pcnt p → p = 255 := by decide +kernel
theorem grd_cnt : ∀ k, pcnt (grd N U k) ≤ k
  | 0 => by show pcnt 0 ≤ 0; decide
  | k + 1 => by
    have ih := grd_cnt k
    rw [grd]
    cases q : lowO N U (grd N U k) with
    | none => rw [oBit, Nat.or_zero]; omega
    | some c =>
      rw [oBit, pcnt_or _ (grd_lt k) c (lowO_lt q) (mayC_iff.mp (lowO_may q)).2.1]; omega
theorem grd_stop {k : Nat} (h : lowO N U (grd N U k) = none) : ∀ i, grd N U (k + i) = grd N U k
  | 0 => rfl
  | i + 1 => by
    have ih := grd_stop h i
    rw [← Nat.add_assoc, grd, ih, h, oBit, Nat.or_zero]
/-- where the lowest-first order fits, each of its steps has a tenant -/
theorem grd_some {m : Nat} (h : grd N U 8 = N) (hm : m < pcnt N) : ∀ k, k ≤ m → ∃ t, lowO N U (grd N U k) = some t := by
  intro k hk
  cases q : lowO N U (grd N U k) with
  | some t => exact ⟨t, rfl⟩
  | none =>
    have h8 := pcnt_le N
    have e := grd_stop q (8 - k)
    rw [show k + (8 - k) = 8 by omega, h] at e
    have := grd_cnt (N := N) (U := U) k
    rw [← e] at this
    omega
theorem grd_fits (hN : N < 256) (h : 0 < ordF N U 256 0) : grd N U 8 = N := by
  have st : ∀ k, grd N U k ≠ N → ∃ t, lowO N U (grd N U k) = some t := fun k hk => by
    have hp := ordF_more 256 0 (grd N U k) (grd_lt k) (fun t ht => by rw [Nat.zero_testBit] at ht; cases ht) (grd_sub k) h
    rw [ordF_rec (grd_lt k) hk] at hp
    obtain ⟨t, ht, hq⟩ := sumT_pos hp
    cases q : lowO N U (grd N U k) with
    | some t => exact ⟨t, rfl⟩
    | none =>
      have := fstUp_none q t (by omega) (by omega)
      rw [this] at hq
      exact absurd hq (Nat.lt_irrefl 0)
  have cn : ∀ k, grd N U k = N ∨ k ≤ pcnt (grd N U k) := fun k => by
    induction k with
    | zero => exact Or.inr (Nat.zero_le _)
    | succ k ih =>
      by_cases e : grd N U k = N
      · refine Or.inl ?_
        cases q : lowO N U (grd N U k) with
        | none => rw [grd, q, oBit, Nat.or_zero]; exact e
        | some t =>
          have := mayC_iff.mp (lowO_may q)
          rw [e] at this
          rw [this.1] at this
          cases this.2.1
      · obtain ⟨t, q⟩ := st k e
        have := ih.resolve_left e
        refine Or.inr ?_
        rw [grd, q, oBit, pcnt_or _ (grd_lt k) t (lowO_lt q) (mayC_iff.mp (lowO_may q)).2.1]
        omega
  rcases cn 8 with e | e
  · exact e
  · have := pcnt_8 _ (grd_lt 8) e
    have sub := grd_sub (N := N) (U := U) 8
    rw [this] at sub ⊢
    refine eq_of_sub sub (fun t ht => ?_)
    have : t < 8 := Nat.lt_of_not_le (fun z => by
      rw [Nat.testBit_lt_two_pow (Nat.lt_of_lt_of_le hN (Nat.pow_le_pow_right (n := 2) (by decide) z))] at ht
      cases ht)
    exact (by decide : ∀ t, t < 8 → (255 : Nat).testBit t = true) t this
theorem grd_pos (h : grd N U 8 = N) : ∀ j, j ≤ 8 → 0 < ordF N U 256 (grd N U (8 - j))
  | 0, _ => by rw [h, ordF_N]; exact Nat.one_pos
  | j + 1, hj => by
    have ih := grd_pos h j (by omega)
    have e : 8 - j = (8 - (j + 1)) + 1 := by omega
    rw [e, grd] at ih
    by_cases z : grd N U (8 - (j + 1)) = N
    · rw [z, ordF_N]; exact Nat.one_pos
    · cases q : lowO N U (grd N U (8 - (j + 1))) with
      | none => rw [q, oBit, Nat.or_zero] at ih; exact ih
      | some t =>
        rw [q, oBit] at ih
        rw [ordF_rec (grd_lt _) z]
        refine Nat.lt_of_lt_of_le ih ?_
        have := sumT_at (f := fun t => if mayC N U t (grd N U (8 - (j + 1))) = true then ordF N U 256 (grd N U (8 - (j + 1)) ||| 2 ^ t) else 0) (lowO_lt q)
        rw [if_pos (lowO_may q)] at this
        exact this
theorem fits_iff (hN : N < 256) : grd N U 8 = N ↔ ordF N U 256 0 ≠ 0 := by
  constructor
  · intro h
    have := grd_pos h 8 (Nat.le_refl _)
    exact Nat.pos_iff_ne_zero.mp this
  · intro h
    exact grd_fits hN (Nat.pos_of_ne_zero h)
end ORD
/-! the class counts them from below -/
def wT (N : Nat) (U : Nat → Nat) (p : Nat) (w : Nat → Nat) : Nat → Nat → Nat
  | 0 => w
  | t + 1 => if mayC N U t p = true then (fun m => if m = p ||| 2 ^ t then wT N U p w t m + wT N U p w t p else wT N U p w t m) else wT N U p w t
def wP (N : Nat) (U : Nat → Nat) : Nat → Nat → Nat
  | 0 => fun m => if m = 0 then 1 else 0
  | p + 1 => wT N U p (wP N U p) 8
def tl (f : Nat → Nat) : Nat → Nat → Nat
  | 0, _ => 0
  | n + 1, p => f p + tl f n (p + 1)
theorem tl_eq {f g : Nat → Nat} : ∀ {n p : Nat}, (∀ m, p ≤ m → f m = g m) → tl f n p = tl g n p
  | 0, _, _ => rfl
  | n + 1, p, h => by rw [tl, tl, h p (Nat.le_refl _), tl_eq (fun m hm => h m (by omega))]
theorem tl_up {f g : Nat → Nat} {q d : Nat} (hq : g q = f q + d) (h : ∀ m, m ≠ q → g m = f m) : ∀ {n p : Nat}, p ≤ q → q < p + n → tl g n p = tl f n p + d
  | 0, p, a, c => by omega
  | n + 1, p, a, c => by
    rw [tl, tl]
    by_cases z : p = q
    · subst z
      rw [hq, tl_eq (f := g) (g := f) (fun m hm => h m (by omega))]; omega
    · rw [h p z, tl_up hq h (show p + 1 ≤ q by omega) (by omega)]; omega
theorem tl_at {f : Nat → Nat} {q : Nat} : ∀ {n p : Nat}, p ≤ q → q < p + n → f q ≤ tl f n p
  | 0, p, a, c => by omega
  | n + 1, p, a, c => by
    rw [tl]
    by_cases z : p = q
    · subst z; omega
    · have := tl_at (f := f) (show p + 1 ≤ q by omega) (show q < p + 1 + n by omega); omega
theorem tl_0 {f : Nat → Nat} : ∀ {n p : Nat}, (∀ m, p ≤ m → f m = 0) → tl f n p = 0
  | 0, _, _ => rfl
  | n + 1, p, h => by rw [tl, h p (Nat.le_refl _), tl_0 (fun m hm => h m (by omega))]
section CNT
variable {N : Nat} {U : Nat → Nat}
theorem wT_low {p m : Nat} {w : Nat → Nat} (hm : m ≤ p) : ∀ t, wT N U p w t m = w m
  | 0 => rfl
  | t + 1 => by
    unfold wT
    split
    · rename_i q
      have := or_gt (mayC_iff.mp q).2.1
      dsimp only
      rw [if_neg (by omega)]; exact wT_low hm t
    · exact wT_low hm t
theorem wT_le {p m : Nat} {w : Nat → Nat} (t : Nat) : wT N U p w t m ≤ wT N U p w (t + 1) m := by
  rw [wT]
  split
  · dsimp only
    split <;> omega
  · exact Nat.le_refl _
theorem wT_mono {p m : Nat} {w : Nat → Nat} : ∀ (j t : Nat), wT N U p w t m ≤ wT N U p w (t + j) m
  | 0, _ => Nat.le_refl _
  | j + 1, t => Nat.le_trans (wT_mono j t) (by rw [← Nat.add_assoc]; exact wT_le (t + j))
theorem wT_tl {G : Nat → Nat} {p : Nat} {w : Nat → Nat} (hp : p < 256) : ∀ t, t ≤ 8 → tl (fun m => wT N U p w t m * G m) (255 - p) (p + 1) = tl (fun m => w m * G m) (255 - p) (p + 1) + w p * sumT (fun t => if mayC N U t p = true then G (p ||| 2 ^ t) else 0) t
  | 0, _ => by rw [sumT]; rfl
  | t + 1, ht => by
    have ih := wT_tl (G := G) (w := w) hp t (by omega)
    rw [sumT, Nat.mul_add, ← Nat.add_assoc, ← ih]
    by_cases q : mayC N U t p = true
    · rw [if_pos q]
      have g1 := or_gt (mayC_iff.mp q).2.1
      have g2 := or_lt8 hp (pow_lt8 (show t < 8 by omega))
      refine tl_up (q := p ||| 2 ^ t) ?_ (fun m hm => ?_) (by omega) (by omega)
      · rw [wT, if_pos q, if_pos rfl, wT_low (Nat.le_refl p), Nat.add_mul]
      · rw [wT, if_pos q, if_neg hm]
    · rw [if_neg q, Nat.mul_zero, Nat.add_zero]
      refine tl_eq (fun m _ => ?_)
      rw [wT, if_neg q]
def ptl (N : Nat) (U : Nat → Nat) (G : Nat → Nat) (p : Nat) : Nat := tl (fun m => wP N U p m * G m) (256 - p) p
theorem ptl_s {G : Nat → Nat} {p : Nat} (hp : p < 256) : ptl N U G (p + 1) + wP N U p p * G p = ptl N U G p + wP N U p p * sumT (fun t => if mayC N U t p = true then G (p ||| 2 ^ t) else 0) 8 := by
  have h := wT_tl (N := N) (U := U) (G := G) (w := wP N U p) hp 8 (Nat.le_refl _)
  have e1 : ptl N U G (p + 1) = tl (fun m => wT N U p (wP N U p) 8 m * G m) (255 - p) (p + 1) := by
    rw [ptl, show 256 - (p + 1) = 255 - p by omega]; rfl
  have e2 : ptl N U G p = wP N U p p * G p + tl (fun m => wP N U p m * G m) (255 - p) (p + 1) := by
    rw [ptl, show 256 - p = (255 - p) + 1 by omega, tl]
  rw [e1, e2, h]
  omega
theorem ptl_0 {G : Nat → Nat} : ptl N U G 0 = G 0 := by
  rw [ptl, show 256 - 0 = 255 + 1 by rfl, tl, tl_0]
  · simp [wP]
  · intro m hm
    have : ¬ m = 0 := by omega
    simp [wP, this]
theorem wP_low {p m : Nat} (hm : m ≤ p) : ∀ j, wP N U (p + j) m = wP N U p m
  | 0 => rfl
  | j + 1 => by
    rw [← Nat.add_assoc, wP, wT_low (by omega)]
    exact wP_low hm j
theorem ptl_up (hN : N < 256) : ∀ p, p ≤ N → ptl N U (ordF N U 256) p = ordF N U 256 0
  | 0, _ => ptl_0
  | p + 1, h => by
    have ih := ptl_up hN p (by omega)
    have s := ptl_s (N := N) (U := U) (G := ordF N U 256) (p := p) (by omega)
    rw [← ordF_rec (by omega) (by omega), ih] at s
    omega
theorem ptl_dn : ∀ j, j + N + 1 ≤ 256 → ptl N U (ordF N U 256) (256 - j) = 0
  | 0, _ => by rw [ptl]; rfl
  | j + 1, h => by
    have ih := ptl_dn j (by omega)
    have s := ptl_s (N := N) (U := U) (G := ordF N U 256) (p := 256 - (j + 1)) (by omega)
    rw [← ordF_rec (by omega) (by omega), show 256 - (j + 1) + 1 = 256 - j by omega, ih] at s
    omega
theorem wP_N (hN : N < 256) : wP N U 256 N = ordF N U 256 0 := by
  have s := ptl_s (N := N) (U := U) (G := ordF N U 256) hN
  have z : sumT (fun t => if mayC N U t N = true then ordF N U 256 (N ||| 2 ^ t) else 0) 8 = sumT (fun _ => 0) 8 := sumT_eq (fun t _ => if_neg (fun q => by
    have := mayC_iff.mp q
    rw [this.1] at this
    cases this.2.1))
  have a := ptl_up (U := U) hN N (Nat.le_refl _)
  have c := ptl_dn (N := N) (U := U) (255 - N) (by omega)
  rw [show 256 - (255 - N) = N + 1 by omega] at c
  have z0 : sumT (fun _ => 0) 8 = 0 := rfl
  rw [z, z0, a, c, ordF_N] at s
  have l := wP_low (N := N) (U := U) (Nat.le_refl N) (256 - N)
  rw [show N + (256 - N) = 256 by omega] at l
  omega
def fc8 (p : Nat) : Nat := match pcnt p with
  | 0 => 40320
  | 1 => 5040
  | 2 => 720
  | 3 => 120
  | 4 => 24
  | 5 => 6
  | 6 => 2
  | _ => 1
theorem fc8_s : ∀ p, p < 256 → sumT (fun t => if p.testBit t = true then 0 else fc8 (p ||| 2 ^ t)) 8 ≤ fc8 p := by decide +kernel
theorem fc8_1 (p : Nat) : 1 ≤ fc8 p := by
  unfold fc8
  split <;> decide
theorem ptl_fc : ∀ p, p ≤ 256 → ptl N U fc8 p ≤ 40320
  | 0, _ => by rw [ptl_0]; decide
  | p + 1, h => by
    have ih := ptl_fc p (by omega)
    have s := ptl_s (N := N) (U := U) (G := fc8) (p := p) (by omega)
    have l : sumT (fun t => if mayC N U t p = true then fc8 (p ||| 2 ^ t) else 0) 8 ≤ fc8 p := Nat.le_trans (sumT_le (fun t _ => by
      split
      · rename_i q
        rw [if_neg (by rw [(mayC_iff.mp q).2.1]; decide)]
        exact Nat.le_refl _
      · exact Nat.zero_le _)) (fc8_s p (by omega))
    have l2 := Nat.mul_le_mul_left (wP N U p p) l
    omega
theorem wP_le {p m : Nat} (hp : p ≤ 256) (hm : m < 256) : wP N U p m ≤ 40320 := by
  have key : ∀ q, q ≤ 256 → q ≤ m → wP N U q m ≤ 40320 := fun q hq hqm => by
    have a := ptl_fc (N := N) (U := U) q hq
    have c := tl_at (f := fun m => wP N U q m * fc8 m) (q := m) (n := 256 - q) (p := q) hqm (by omega)
    have d := Nat.mul_le_mul_left (wP N U q m) (fc8_1 m)
    rw [ptl] at a
    omega
  by_cases z : p ≤ m
  · exact key p hp z
  · have := wP_low (N := N) (U := U) (Nat.le_refl m) (p - m)
    rw [show m + (p - m) = p by omega] at this
    rw [this]; exact key m (by omega) (Nat.le_refl _)
theorem wT_le8 {p m t : Nat} (hp : p < 256) (hm : m < 256) (ht : t ≤ 8) : wT N U p (wP N U p) t m ≤ 40320 := by
  have := wT_mono (N := N) (U := U) (p := p) (m := m) (w := wP N U p) (8 - t) t
  rw [show t + (8 - t) = 8 by omega] at this
  exact Nat.le_trans this (wP_le (p := p + 1) (by omega) hm)
end CNT
