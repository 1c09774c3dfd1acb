/-! a layer of my own over the kit's rows: the world as one list of objects at b, b + 1, .., its memory as three functions -/
-- the words that hold on, as one list
def TT : List Cond := lw_tbl.filter goodWord
theorem tt_in {w : Cond} (i : Nat) (h : lw_tbl[i]? = some w) (hg : goodWord w = true) : w ∈ TT := List.mem_filter.mpr ⟨List.mem_of_getElem? h, hg⟩
theorem tt_mem {w : Cond} (h : w ∈ lw_tbl) (hg : goodWord w = true) : w ∈ TT := List.mem_filter.mpr ⟨h, hg⟩
theorem tt_lw {w : Cond} (h : w ∈ TT) : w ∈ lw_tbl := (List.mem_filter.mp h).1
theorem tt_good {w : Cond} (h : w ∈ TT) : (w.onTables && w.keeps) = true ∨ ∃ ty, w = .arrayClass ty := good_of_word (List.mem_filter.mp h).2
theorem tt_goodIn {w : Cond} (h : w ∈ TT) : GoodIn TT (w :: TT) := fun u hu => by
  rcases List.mem_cons.mp hu with rfl | hu
  · exact ⟨h, tt_good h⟩
  · exact ⟨hu, tt_good hu⟩
-- memory: ints, longs, references (by place in the world)
abbrev Mm : Type := (Nat → Nat → Int32) × (Nat → Nat → Int64) × (Nat → Nat → Option Nat)
abbrev Sh : Type := Nat → Nat ⊕ (Nat × Nat)
-- classes and their fields' places, classes of arrays, addresses of the String constants and of their bytes
abbrev Dl : Type := va_G × (Nat → ClassId) × (Nat → Nat) × (Nat → Nat)
def wI (μ : Mm) (o k : Nat) (v : Int32) : Mm := (fun o' k' => if o' = o ∧ k' = k then v else μ.1 o' k', μ.2)
def wL (μ : Mm) (o k : Nat) (v : Int64) : Mm := (μ.1, fun o' k' => if o' = o ∧ k' = k then v else μ.2.1 o' k', μ.2.2)
def wR (μ : Mm) (o k : Nat) (v : Option Nat) : Mm := (μ.1, μ.2.1, fun o' k' => if o' = o ∧ k' = k then v else μ.2.2 o' k')
def w0 (μ : Mm) (o : Nat) : Mm := (fun o' k' => if o' = o then 0 else μ.1 o' k', fun o' k' => if o' = o then 0 else μ.2.1 o' k', fun o' k' => if o' = o then none else μ.2.2 o' k')
def ncf (c : Nat) : Nat := match vwCl[c]? with
  | some q => q.2.2
  | none => 0
def cft (c k : Nat) : FieldType := match c with
  | 3 => tyX3 k
  | 6 => tyX6 k
  | 9 => tyX9 k
  | 10 => tyX10 k
  | 11 => tyX11 k
  | 12 => tyX12 k
  | _ => .int
def fval (b : Nat) (μ : Mm) (o k : Nat) : FieldType → Value
  | .int => .int (μ.1 o k)
  | .boolean => .int (μ.1 o k)
  | .long => .long (μ.2.1 o k)
  | _ => va_rf ((μ.2.2 o k).map (fun j => b + j))
def ent (δ : Dl) (b : Nat) (sh : Sh) (μ : Mm) (o : Nat) : va_E := match sh o with
  | .inl c => .inr (c, (List.range (ncf c)).map (fun k => fval b μ o k (cft c k)))
  | .inr (0, n) => .inl (δ.2.1 0, n, .inl (μ.1 o))
  | .inr (1, n) => .inl (δ.2.1 1, n, .inr (.inl (μ.2.1 o)))
  | .inr (t, n) => .inl (δ.2.1 t, n, .inr (.inr (.inr (.inr (fun j => (μ.2.2 o j).map (fun i => b + i))))))
def wl (δ : Dl) (b : Nat) (sh : Sh) (N : Nat) (μ : Mm) : va_W := (List.range N).map (fun o => (b + o, ent δ b sh μ o))
def tys (δ : Dl) : List (ClassId × FieldType) := [(δ.2.1 0, .int), (δ.2.1 1, .long), (δ.2.1 2, .object "PaintedOver$Front"), (δ.2.1 3, .object "PaintedOver$Kind"), (δ.2.1 4, .array .long)]
def RG (b n : Nat) : Nat → Prop := fun q => b ≤ q ∧ q < b + n
theorem wl_get {δ : Dl} {b : Nat} {sh : Sh} {N : Nat} {μ : Mm} {o : Nat} (h : o < N) : (wl δ b sh N μ)[o]? = some (b + o, ent δ b sh μ o) := by
  unfold wl
  rw [List.getElem?_map, List.getElem?_range h]
  rfl
theorem wl_inv {δ : Dl} {b : Nat} {sh : Sh} {N : Nat} {μ : Mm} {o : Nat} {q : Nat × va_E} (h : (wl δ b sh N μ)[o]? = some q) : o < N ∧ q = (b + o, ent δ b sh μ o) := by
  by_cases ho : o < N
  · rw [wl_get ho] at h
    exact ⟨ho, (Option.some.inj h).symm⟩
  · unfold wl at h
    rw [List.getElem?_map, List.getElem?_eq_none (by rw [List.length_range]; omega)] at h
    cases h
theorem wl_D {δ : Dl} {b n : Nat} {sh : Sh} {N : Nat} {μ : Mm} (h : N ≤ n) : va_D (RG b n) (wl δ b sh N μ) := by
  refine ⟨fun i j p q hi hj hpq => ?_, fun k q hk => ?_⟩
  · obtain ⟨h1, rfl⟩ := wl_inv hi
    obtain ⟨h2, rfl⟩ := wl_inv hj
    have : b + i = b + j := hpq
    omega
  · obtain ⟨h1, rfl⟩ := wl_inv hk
    exact ⟨Nat.le_add_right _ _, by show b + k < b + n; omega⟩
theorem wl_set {δ : Dl} {b : Nat} {sh : Sh} {N : Nat} {μ μ' : Mm} {o : Nat} {e : va_E} (h : o < N) (he : ent δ b sh μ' o = e) (hn : ∀ j, j ≠ o → ent δ b sh μ' j = ent δ b sh μ j) : (wl δ b sh N μ).set o (b + o, e) = wl δ b sh N μ' := by
  apply List.ext_getElem?
  intro j
  rw [List.getElem?_set]
  by_cases hj : o = j
  · subst hj
    rw [if_pos rfl, if_pos (by unfold wl; rw [List.length_map, List.length_range]; exact h), wl_get h, he]
  · rw [if_neg hj]
    by_cases hl : j < N
    · rw [wl_get hl, wl_get hl, hn j (Ne.symm hj)]
    · unfold wl
      rw [List.getElem?_map, List.getElem?_map, List.getElem?_eq_none (by rw [List.length_range]; omega)]
      rfl
theorem ent_wI {δ : Dl} {b : Nat} {sh : Sh} {μ : Mm} {o k j : Nat} {v : Int32} (h : j ≠ o) : ent δ b sh (wI μ o k v) j = ent δ b sh μ j := by
  have e : (wI μ o k v).1 j = μ.1 j := funext fun k' => by simp [wI, h]
  have ef : ∀ (k' : Nat) (ty : FieldType), fval b (wI μ o k v) j k' ty = fval b μ j k' ty := fun k' ty => by
    cases ty <;> simp [fval, wI, h]
  unfold ent
  simp only [e, ef]
  rfl
theorem ent_wL {δ : Dl} {b : Nat} {sh : Sh} {μ : Mm} {o k j : Nat} {v : Int64} (h : j ≠ o) : ent δ b sh (wL μ o k v) j = ent δ b sh μ j := by
  have e : (wL μ o k v).2.1 j = μ.2.1 j := funext fun k' => by simp [wL, h]
  have ef : ∀ (k' : Nat) (ty : FieldType), fval b (wL μ o k v) j k' ty = fval b μ j k' ty := fun k' ty => by
    cases ty <;> simp [fval, wL, h]
  unfold ent
  simp only [e, ef]
  rfl
theorem ent_wR {δ : Dl} {b : Nat} {sh : Sh} {μ : Mm} {o k j : Nat} {v : Option Nat} (h : j ≠ o) : ent δ b sh (wR μ o k v) j = ent δ b sh μ j := by
  have e : (wR μ o k v).2.2 j = μ.2.2 j := funext fun k' => by simp [wR, h]
  have ef : ∀ (k' : Nat) (ty : FieldType), fval b (wR μ o k v) j k' ty = fval b μ j k' ty := fun k' ty => by
    cases ty <;> simp [fval, wR, h]
  unfold ent
  simp only [e, ef]
  rfl
theorem ent_w0 {δ : Dl} {b : Nat} {sh : Sh} {μ : Mm} {o j : Nat} (h : j ≠ o) : ent δ b sh (w0 μ o) j = ent δ b sh μ j := by
  have e1 : (w0 μ o).1 j = μ.1 j := funext fun k' => by simp [w0, h]
  have e2 : (w0 μ o).2.1 j = μ.2.1 j := funext fun k' => by simp [w0, h]
  have e3 : (w0 μ o).2.2 j = μ.2.2 j := funext fun k' => by simp [w0, h]
  have ef : ∀ (k' : Nat) (ty : FieldType), fval b (w0 μ o) j k' ty = fval b μ j k' ty := fun k' ty => by
    cases ty <;> simp [fval, w0, h]
  unfold ent
  simp only [e1, e2, e3, ef]
theorem map_range_set {α : Type} {n k : Nat} {f g : Nat → α} {v : α} (hk : k < n) (hv : g k = v) (h : ∀ j, j ≠ k → g j = f j) : ((List.range n).map f).set k v = (List.range n).map g := by
  apply List.ext_getElem?
  intro j
  rw [List.getElem?_set]
  by_cases hj : k = j
  · subst hj
    rw [if_pos rfl, if_pos (by rw [List.length_map, List.length_range]; exact hk), List.getElem?_map, List.getElem?_range hk, ← hv]
    rfl
  · rw [if_neg hj, List.getElem?_map, List.getElem?_map]
    by_cases hl : j < n
    · rw [List.getElem?_range hl]
      exact congrArg some (h j (Ne.symm hj)).symm
    · rw [List.getElem?_eq_none (by rw [List.length_range]; omega)]
      rfl
-- what stands at a place of the world
def OB (sh : Sh) (N o c : Nat) : Prop := o < N ∧ sh o = .inl c
def AR (sh : Sh) (N o t n : Nat) : Prop := o < N ∧ sh o = .inr (t, n)
theorem ob_get {δ : Dl} {b : Nat} {sh : Sh} {N : Nat} {μ : Mm} {o c : Nat} (h : OB sh N o c) : (wl δ b sh N μ)[o]? = some (b + o, .inr (c, (List.range (ncf c)).map (fun k => fval b μ o k (cft c k)))) := by
  rw [wl_get h.1]
  unfold ent
  rw [h.2]
theorem ar_getI {δ : Dl} {b : Nat} {sh : Sh} {N : Nat} {μ : Mm} {o n : Nat} (h : AR sh N o 0 n) : (wl δ b sh N μ)[o]? = some (b + o, .inl (δ.2.1 0, n, .inl (μ.1 o))) := by
  rw [wl_get h.1]
  unfold ent
  rw [h.2]
  rfl
theorem ar_getL {δ : Dl} {b : Nat} {sh : Sh} {N : Nat} {μ : Mm} {o n : Nat} (h : AR sh N o 1 n) : (wl δ b sh N μ)[o]? = some (b + o, .inl (δ.2.1 1, n, .inr (.inl (μ.2.1 o)))) := by
  rw [wl_get h.1]
  unfold ent
  rw [h.2]
  rfl
theorem ar_getR {δ : Dl} {b : Nat} {sh : Sh} {N : Nat} {μ : Mm} {o t n : Nat} (h : AR sh N o (t + 2) n) : (wl δ b sh N μ)[o]? = some (b + o, .inl (δ.2.1 (t + 2), n, .inr (.inr (.inr (.inr (fun j => (μ.2.2 o j).map (fun i => b + i))))))) := by
  rw [wl_get h.1]
  unfold ent
  rw [h.2]
  rfl
theorem ob_setI {δ : Dl} {b : Nat} {sh : Sh} {N : Nat} {μ : Mm} {o c k : Nat} {v : Int32} (h : OB sh N o c) (hk : k < ncf c) (ht : cft c k = .int ∨ cft c k = .boolean) : (wl δ b sh N μ).set o (b + o, .inr (c, ((List.range (ncf c)).map (fun k => fval b μ o k (cft c k))).set k (.int v))) = wl δ b sh N (wI μ o k v) := by
  refine wl_set h.1 ?_ (fun j hj => ent_wI hj)
  unfold ent
  rw [h.2]
  dsimp only
  rw [map_range_set hk (g := fun k' => fval b (wI μ o k v) o k' (cft c k'))]
  · rcases ht with ht | ht <;> simp [fval, ht, wI]
  · intro j hj
    cases cft c j <;> simp [fval, wI, hj]
theorem ob_setR {δ : Dl} {b : Nat} {sh : Sh} {N : Nat} {μ : Mm} {o c k : Nat} {v : Option Nat} (h : OB sh N o c) (hk : k < ncf c) (ht : ∀ (b : Nat) (μ : Mm) (o : Nat), fval b μ o k (cft c k) = va_rf ((μ.2.2 o k).map (fun j => b + j))) : (wl δ b sh N μ).set o (b + o, .inr (c, ((List.range (ncf c)).map (fun k => fval b μ o k (cft c k))).set k (va_rf (v.map (fun j => b + j))))) = wl δ b sh N (wR μ o k v) := by
  refine wl_set h.1 ?_ (fun j hj => ent_wR hj)
  unfold ent
  rw [h.2]
  dsimp only
  rw [map_range_set hk (g := fun k' => fval b (wR μ o k v) o k' (cft c k'))]
  · rw [ht]
    simp [wR]
  · intro j hj
    cases cft c j <;> simp [fval, wR, hj]
theorem ar_setI {δ : Dl} {b : Nat} {sh : Sh} {N : Nat} {μ : Mm} {o n k : Nat} {v : Int32} (h : AR sh N o 0 n) : (wl δ b sh N μ).set o (b + o, .inl (δ.2.1 0, n, .inl (upd (μ.1 o) k v))) = wl δ b sh N (wI μ o k v) := by
  refine wl_set h.1 ?_ (fun j hj => ent_wI hj)
  unfold ent
  rw [h.2]
  refine congrArg (fun f => Sum.inl (δ.2.1 0, n, Sum.inl f)) (funext fun j => ?_)
  simp [wI, upd]
theorem ar_setL {δ : Dl} {b : Nat} {sh : Sh} {N : Nat} {μ : Mm} {o n k : Nat} {v : Int64} (h : AR sh N o 1 n) : (wl δ b sh N μ).set o (b + o, .inl (δ.2.1 1, n, .inr (.inl (vp_updL (μ.2.1 o) k v)))) = wl δ b sh N (wL μ o k v) := by
  refine wl_set h.1 ?_ (fun j hj => ent_wL hj)
  unfold ent
  rw [h.2]
  refine congrArg (fun f => Sum.inl (δ.2.1 1, n, Sum.inr (Sum.inl f))) (funext fun j => ?_)
  simp [wL, vp_updL]
