/-! shelves: what becomes of the state, and what each call answers -/
def cl (x : Int32) : Nat := x.toNatClampNeg
theorem cl_n {a : Nat} (h : a < 2147483648) : cl (nI a) = a := n2_clamp h
def S_row (S : St) (x q m : Int32) : Int32 × St :=
  if inr x 8 = false then ref S 1 0 else if m < 0 then ref S 4 0 else if inr q 4 = false then ref S 6 0 else if nI 160 < m then ref S 7 0
  else (nI 1, eU (kU (kU S 0 (cl x) (101 + cl q)) 1 (cl x) (cl m)) (cl x) (fun _ => 0))
def S_set (S : St) (x i : Int32) (v : Int64) : Int32 × St :=
  if rowT S x ≠ 0 then ref S (rowT S x) 0 else if inr i (kk S 1 (cl x)) = false then ref S 5 0
  else (nI 1, eU S (cl x) (fun j => if j = cl i then lowB (kk S 0 (cl x) - 101) v else S.2.2.2 (cl x) j))
def isH (S : St) (s : Nat) : Bool := decide (1 ≤ kk S 0 s ∧ kk S 0 s ≤ 100)
def isRw (S : St) (s : Nat) : Bool := decide (101 ≤ kk S 0 s)
/-- the part of m elements from x on isn't there -/
def nsp (S : St) (s : Nat) (x : Int32) (m : Nat) : Bool := decide (x < 0 ∨ kk S 1 s < m ∨ nI (kk S 1 s - m) < x)
def S_copy (S : St) (p q i j m : Int32) : Int32 × St :=
  if inr p 8 = false ∨ inr q 8 = false then ref S 1 0
  else if isH S (cl p) = true ∨ isH S (cl q) = true ∨ (isRw S (cl p) = true ∧ isRw S (cl q) = true ∧ kk S 0 (cl p) ≠ kk S 0 (cl q)) then ref S 2 0
  else if isRw S (cl p) = false ∨ isRw S (cl q) = false then ref S 3 0
  else if m < 0 then ref S 4 0
  else if nsp S (cl p) i (cl m) = true ∨ nsp S (cl q) j (cl m) = true then ref S 5 0
  else (nI 1, eU S (cl q) (va_cpy (S.2.2.2 (cl p)) (S.2.2.2 (cl q)) (cl i) (cl j) (cl m)))
def S_element (S : St) (x i : Int32) : Int64 := if rowT S x ≠ 0 ∨ inr i (kk S 1 (cl x)) = false then 0 else S.2.2.2 (cl x) (cl i)
def S_show (S : St) (x h : Int32) : Int32 × St :=
  if inr x 8 = false ∨ (h ≠ -1 ∧ inr h (S.1 6 0 0) = false) then ref S 1 0 else if h = -1 then (nI 0, kU S 0 (cl x) 0) else (nI 1, kU S 0 (cl x) (cl h + 1))
def S_holds (S : St) (x : Int32) : Int32 := if inr x 8 = false then -1 else dn (kk S 0 (cl x))
/-- is kind k the kind 'want', or one under it -/
def under (k want : Nat) : Bool := decide (want = 0 ∨ want = k ∨ (want = 1 ∧ k = 3) ∨ (want = 2 ∧ (k = 5 ∨ k = 6)))
def topStr (hd : Nat → Nat) (V : Vt) : Nat := if V 0 2 = 0 then 0 else strength hd V (V 0 2 - 1)
def saidBy (τ : Tt) (V : Vt) (k : Nat) : Nat :=
  if k = 1 then wet V 0 10 else if k = 2 then hard V 0 10 else if k = 3 then wet V 8 10 else if k = 4 then topStr (τ 6 1) V else if k = 5 then hard V 4 10 else if k = 6 then V 0 1 else skin V
def S_says (S : St) (x k : Int32) : Int32 × St :=
  if inr x 8 = false ∨ inr k 7 = false then ref S 1 0 else if isRw S (cl x) = true then ref S 2 0 else if isH S (cl x) = false then ref S 3 0
  else if under (S.1 (kk S 0 (cl x) - 1) 0 0) (cl k) = false then ref S 2 0 else (nI (saidBy S.1 (S.1 (kk S 0 (cl x) - 1)) (cl k)), S)
def zlM (μ : Mm) (o i : Nat) : Mm := (μ.1, fun q k => if q = o ∧ k < i then 0 else μ.2.1 q k, μ.2.2)
theorem zl_0 (μ : Mm) (o : Nat) : μ = zlM μ o 0 := by
  refine Prod.ext rfl (Prod.ext (funext fun q => funext fun k => ?_) rfl)
  simp [zlM]
theorem zl_s (μ : Mm) (o i : Nat) : wL (zlM μ o i) o i 0 = zlM μ o (i + 1) := by
  refine Prod.ext rfl (Prod.ext (funext fun q => funext fun k => ?_) rfl)
  simp only [wL, zlM]
  by_cases h1 : q = o
  · subst h1
    by_cases h2 : k = i
    · subst h2; simp
    · by_cases h3 : k < i
      · have : k < i + 1 := by omega
        simp [h2, h3, this]
      · have h4 : ¬ k < i + 1 := by omega
        simp [h2, h3, h4]
  · simp [h1]
/-- shelves, the class's own numbers: all towns stay -/
theorem rx_low {μ μ' : Mm} {S S' : St} (h : RX μ S) (e1 : ∀ q, 26 ≤ q → μ'.1 q = μ.1 q) (eL : ∀ q, 26 ≤ q → μ'.2.1 q = μ.2.1 q) (e2 : μ'.2.2 = μ.2.2) (h1 : S'.1 = S.1) (h2 : S'.2.1 = S.2.1) (hi : SI S') (h31 : kk S' 3 1 = kk S 3 1) (hx : SX μ' S') : RX μ' S' := by
  have m : SameI (fun q => q < 26) μ (μ'.1, μ.2) := ⟨fun q hq => e1 q (Nat.le_of_not_lt hq), rfl⟩
  obtain ⟨-, W, ⟨B, Bd, tb, hB, hBd, hT⟩, h4, -⟩ := h
  have ta := two_ta tb
  have key : ∀ {B : Nat} {τ : Tt}, 26 ≤ B → TX μ B τ → TX μ' B τ := fun {B τ} hb q => by
    have f : TX (μ'.1, μ.2) B τ := tx_same q m.same (fun x z y => by have := z.1; omega)
    refine ⟨f.1, f.2.1, f.2.2.1, fun i hi => ?_⟩
    have g := f.2.2.2 i hi
    exact ⟨g.1, by rw [e2]; exact g.2.1, g.2.2⟩
  exact ⟨hi, by rw [e2]; exact W, ⟨B, Bd, tb, by rw [e2]; exact hB, by rw [e2]; exact hBd, by rw [h1]; exact key (by omega) hT⟩, fun hi2 => by rw [h2]; exact key (by decide) (h4 (h31 ▸ hi2)), hx⟩
theorem rx_row {μ : Mm} {S : St} {s q m : Nat} (h : RX μ S) (hs : s < 8) (hq : q < 4) (hm : m ≤ 160) : RX (zlM (wI (wI μ 1 s (nI (100 + q))) 2 s (nI m)) (4 + s) m) (eU (kU (kU S 0 s (101 + q)) 1 s m) s (fun _ => 0)) := by
  obtain ⟨i1, i2, i3, i4, i5, i6⟩ := h.1
  have hx := h.2.2.2.2
  refine rx_low h (fun o ho => funext fun k => ?_) (fun o ho => funext fun k => ?_) rfl rfl rfl ⟨i1, i2, fun t ht => ?_, fun t ht => ?_, i5, i6⟩ rfl ⟨fun t ht => ?_, fun i hi => ?_, hx.2.2.1, hx.2.2.2.1, hx.2.2.2.2.1, hx.2.2.2.2.2.1, fun t ht i hi => ?_⟩
  · simp [zlM, wI, show ¬ o = 2 by omega, show ¬ o = 1 by omega]
  · simp [zlM, wI, show ¬ o = 4 + s by omega]
  · have e : kk (eU (kU (kU S 0 s (101 + q)) 1 s m) s (fun _ => 0)) 0 t = if t = s then 101 + q else kk S 0 t := by
      show kk (kU (kU S 0 s (101 + q)) 1 s m) 0 t = _
      rw [kk_kU, kk_kU]
      simp
    rw [e]
    show _ ∨ (_ ∧ _ ≤ S.1 6 0 0) ∨ _
    split
    · omega
    · exact i3 t ht
  · show kk (kU (kU S 0 s (101 + q)) 1 s m) 1 t ≤ 160
    rw [kk_kU, kk_kU]
    by_cases z : t = s
    · simpa [z] using hm
    · simpa [z] using i4 t ht
  · show (wI (wI μ 1 s (nI (100 + q))) 2 s (nI m)).1 1 t = dn (kk (kU (kU S 0 s (101 + q)) 1 s m) 0 t) ∧ (wI (wI μ 1 s (nI (100 + q))) 2 s (nI m)).1 2 t = nI (kk (kU (kU S 0 s (101 + q)) 1 s m) 1 t)
    rw [kk_kU, kk_kU, kk_kU, kk_kU]
    by_cases z : t = s
    · subst z
      have e : 101 + q = (100 + q) + 1 := by omega
      simp [wI, e, dn_s]
    · simpa [wI, z] using hx.1 t ht
  · show (wI (wI μ 1 s (nI (100 + q))) 2 s (nI m)).1 12 i = nI (kk (kU (kU S 0 s (101 + q)) 1 s m) 2 i)
    rw [kk_kU, kk_kU]
    simpa [wI] using hx.2.1 i hi
  · have hi : i < kk (kU (kU S 0 s (101 + q)) 1 s m) 1 t := hi
    rw [kk_kU, kk_kU] at hi
    by_cases z : t = s
    · subst z
      simp at hi
      simp [zlM, eU, hi]
    · simp [z] at hi
      simp [zlM, eU, z, wI, kU, show ¬ (4 + t = 4 + s) by omega]
      exact hx.2.2.2.2.2.2 t ht i hi
theorem rx_elems {μ μ' : Mm} {S : St} {s : Nat} {f : Nat → Int64} (h : RX μ S) (hs : s < 8) (e1 : μ'.1 = μ.1) (e2 : μ'.2.2 = μ.2.2) (eL : ∀ q, q ≠ 4 + s → μ'.2.1 q = μ.2.1 q) (hf : ∀ i, i < kk S 1 s → μ'.2.1 (4 + s) i = f i) : RX μ' (eU S s f) := by
  have hx := h.2.2.2.2
  refine rx_low h (fun o ho => by rw [e1]) (fun o ho => eL o (by omega)) e2 rfl rfl h.1 rfl ⟨fun t ht => by rw [e1]; exact hx.1 t ht, fun i hi => by rw [e1]; exact hx.2.1 i hi, by rw [e1]; exact hx.2.2.1, by rw [e1]; exact hx.2.2.2.1, by rw [e1]; exact hx.2.2.2.2.1, fun i hi hr => by rw [e1]; exact hx.2.2.2.2.2.1 i hi hr, fun t ht i hi => ?_⟩
  by_cases z : t = s
  · subst z
    rw [hf i hi]
    simp [eU]
  · rw [eL (4 + t) (by omega)]
    simp [eU, z]
    exact hx.2.2.2.2.2.2 t ht i hi
theorem rx_show {μ : Mm} {S : St} {s v : Nat} (h : RX μ S) (hs : s < 8) (hv : v = 0 ∨ (1 ≤ v ∧ v ≤ S.1 6 0 0)) : RX (wI μ 1 s (dn v)) (kU S 0 s v) := by
  obtain ⟨i1, i2, i3, i4, i5, i6⟩ := h.1
  have hx := h.2.2.2.2
  refine rx_small h (SameI.wI (by decide)) rfl rfl ⟨i1, i2, fun t ht => ?_, i4, i5, i6⟩ rfl ⟨fun t ht => ?_, hx.2.1, hx.2.2.1, hx.2.2.2.1, hx.2.2.2.2.1, hx.2.2.2.2.2.1, hx.2.2.2.2.2.2⟩
  · rw [kk_kU]
    by_cases z : t = s
    · simp only [z, and_self, if_true]
      rcases hv with hv | hv
      · exact Or.inl hv
      · exact Or.inr (Or.inl hv)
    · show _ ∨ (_ ∧ _ ≤ S.1 6 0 0) ∨ _
      simpa [z] using i3 t ht
  · rw [kk_kU, kk_kU]
    by_cases z : t = s
    · subst z
      have := hx.1 t ht
      simp [wI, this.2]
    · simpa [wI, z] using hx.1 t ht
