/-! locals by their places -/
def lp : Nat → List (Option Value) → List (Nat × Value)
  | _, [] => []
  | k, none :: t => lp (k + 1) t
  | k, some v :: t => (k, v) :: lp (k + 1) t
theorem lp_mem : ∀ (ls : List (Option Value)) (k i : Nat) (v : Value), (i, v) ∈ lp k ls ↔ ∃ j, i = k + j ∧ ls[j]? = some (some v)
  | [], k, i, v => by simp [lp]
  | none :: t, k, i, v => by
    rw [lp, lp_mem t (k + 1) i v]
    constructor
    · rintro ⟨j, rfl, h⟩
      exact ⟨j + 1, by omega, by simpa using h⟩
    · rintro ⟨j, rfl, h⟩
      cases j with
      | zero => simp at h
      | succ j => exact ⟨j, by omega, by simpa using h⟩
  | some w :: t, k, i, v => by
    rw [lp, List.mem_cons, lp_mem t (k + 1) i v]
    constructor
    · rintro (h | ⟨j, rfl, h⟩)
      · cases h
        exact ⟨0, by omega, by simp⟩
      · exact ⟨j + 1, by omega, by simpa using h⟩
    · rintro ⟨j, rfl, h⟩
      cases j with
      | zero => exact Or.inl (by simp at h; rw [h]; rfl)
      | succ j => exact Or.inr ⟨j, by omega, by simpa using h⟩
def lh (lsr : Array Slot) (nL : Nat) (ls : List (Option Value)) : Prop := lv_has lsr nL (lp 0 ls)
theorem lh_at {lsr : Array Slot} {nL : Nat} {ls : List (Option Value)} (h : lh lsr nL ls) {i : Nat} {v : Value} (hi : ls[i]? = some (some v)) : lsr[i]? = some (.val v) :=
  h.2.2 (i, v) ((lp_mem ls 0 i v).mpr ⟨i, by omega, hi⟩)
theorem lh_sub {lsr : Array Slot} {nL : Nat} {l : List (Nat × Value)} {ls : List (Option Value)} (h : lv_has lsr nL l) (hs : ∀ (i : Nat) (v : Value), ls[i]? = some (some v) → (i, v) ∈ l) : lh lsr nL ls :=
  ⟨h.1, h.2.1, fun q hq => by
    obtain ⟨j, hj, hv⟩ := (lp_mem ls 0 q.1 q.2).mp hq
    have e : q.1 = j := by omega
    exact h.2.2 q (hs q.1 q.2 (by rw [e]; exact hv))⟩
/-- forget what some places hold -/
theorem lh_weak {lsr : Array Slot} {nL : Nat} {ls ls' : List (Option Value)} (h : lh lsr nL ls) (hs : ∀ (i : Nat) (v : Value), ls'[i]? = some (some v) → ls[i]? = some (some v)) : lh lsr nL ls' :=
  lh_sub h fun i v hi => (lp_mem ls 0 i v).mpr ⟨i, by omega, hs i v hi⟩
/-- no long ends at place i -/
def okst (ls : List (Option Value)) : Nat → Bool
  | 0 => true
  | i + 1 => match ls[i]? with
    | some (some w) => w.category == 1
    | _ => true
theorem lh_set1 {lsr : Array Slot} {nL i : Nat} {v : Value} {ls : List (Option Value)} (hok : okst ls i = true) (h : lv_has lsr nL ((i, v) :: (lp 0 ls).filter (fun q => !(q.1 == i) && !(q.1 + 1 == i && q.2.category == 2)))) : lh lsr nL (ls.set i (some v)) := by
  refine lh_sub h fun j w hj => ?_
  by_cases e : i = j
  · subst e
    rw [List.getElem?_set] at hj
    simp only [if_true] at hj
    split at hj
    · cases hj
      exact List.mem_cons_self
    · cases hj
  · rw [List.getElem?_set_ne e] at hj
    refine List.mem_cons_of_mem _ (List.mem_filter.mpr ⟨(lp_mem ls 0 j w).mpr ⟨j, by omega, hj⟩, ?_⟩)
    have e' : ¬ j = i := fun z => e z.symm
    by_cases e2 : j + 1 = i
    · subst e2
      simp only [okst, hj] at hok
      have hw : w.category = 1 := by simpa using hok
      simp [hw]
    · simp [e', e2]
def la : List Value → List (Option Value)
  | [] => []
  | v :: r => if v.category = 2 then some v :: none :: la r else some v :: la r
theorem la_args : ∀ (vs : List Value) (k i n : Nat) (v : Value), (la vs ++ List.replicate n none)[i]? = some (some v) → (k + i, v) ∈ lv_args k vs
  | [], k, i, n, v, h => by
    simp only [la, List.nil_append] at h
    rw [List.getElem?_replicate] at h
    split at h <;> cases h
  | w :: r, k, i, n, v, h => by
    unfold la at h
    unfold lv_args
    split at h
    · rename_i hc
      rw [if_pos hc]
      match i, h with
      | 0, h => simp at h; rw [h]; exact List.mem_cons_self
      | 1, h => simp at h
      | j + 2, h =>
        have h2 : (la r ++ List.replicate n none)[j]? = some (some v) := by simpa using h
        have := la_args r (k + 2) j n v h2
        rw [show k + (j + 2) = k + 2 + j by omega]
        exact List.mem_cons_of_mem _ this
    · rename_i hc
      rw [if_neg hc]
      match i, h with
      | 0, h => simp at h; rw [h]; exact List.mem_cons_self
      | j + 1, h =>
        have h2 : (la r ++ List.replicate n none)[j]? = some (some v) := by simpa using h
        have := la_args r (k + 1) j n v h2
        rw [show k + (j + 1) = k + 1 + j by omega]
        exact List.mem_cons_of_mem _ this
/-! what the tables say beside TT: links in a nest, casts, String constants -/
def NW : List Cond := lw_tbl.filter (fun w => match w with
  | .methodLinkNest _ _ _ _ => true
  | .castable _ _ => true
  | _ => false)
def kinds7 : List String := [RX4, RX2, RX5, RX1, RX7, RX8, RX0]
def NC : List (String × String) := (kinds7.flatMap fun C => kinds7.map fun D => (C, D)).filter (fun q => !(q.1 == q.2) && !(q.2 == RX4) && !(q.1 == RX1 && q.2 == RX2) && !(q.1 == RX0 && q.2 == RX5) && !(q.1 == RX8 && q.2 == RX5))
def skey : List (String × Nat × String × List Int32) := [(RX6, 74, "house", [104, 111, 117, 115, 101]), (RX6, 76, "coat", [99, 111, 97, 116]), (RX6, 78, "hides", [104, 105, 100, 101, 115]), (RX6, 79, "costs", [99, 111, 115, 116, 115]), (RX6, 80, "hail", [104, 97, 105, 108]), (RX6, 82, "scratch", [115, 99, 114, 97, 116, 99, 104]), (RX12, 181, "cratch", [99, 114, 97, 116, 99, 104]), (RX12, 197, "ts", [116, 115]), (RX12, 199, "at", [97, 116]), (RX12, 200, "des", [100, 101, 115]), (RX12, 202, "il", [105, 108]), (RX12, 207, "ouse", [111, 117, 115, 101])]
def sbyt : List (List Int32) := skey.map fun q => q.2.2.2
/-- what arrays are made over -/
def AOt : List FieldType := [.object RX4, .object RX3, .array .long]
theorem ao_same {u U : State} {ty : FieldType} (hv : u.vm = U.vm) (h : (Cond.arrayOver ty).before #[] u = true) : (Cond.arrayOver ty).before #[] U = true := by
  simp only [Cond.before, Cond.holds, Cond.value] at h ⊢
  rw [← hv]
  exact h
theorem ao_warm {s U : State} {ty : FieldType} (hW : s.WarmedH U.vm) (h : (Cond.arrayOver ty).before #[] s = true) : (Cond.arrayOver ty).before #[] U = true :=
  ao_same (u := s.setVm U.vm) rfl (by rw [Cond.arrayOver_setVmC hW.alike]; exact h)
def KX (δ : Dl) (U : State) : Prop := va_K δ.1 vwCl (tys δ) U ∧ (∀ w ∈ NW, va_Nw w U) ∧ (∀ q ∈ NC, va_Nc q.1 q.2 U) ∧ (∀ (i : Nat) (q : String × Nat × String × List Int32), skey[i]? = some q → vk_R q.1 q.2.1 q.2.2.1 (δ.2.2.1 i) U) ∧ ∀ ty ∈ AOt, (Cond.arrayOver ty).before #[] U = true
def KS (δ : Dl) (A : Nat → Prop) (U : State) (H : Heap) : Prop := vk_S 12 (sbyt.map List.length) sbyt δ.2.2.1 δ.2.2.2 A U H ∧ va_Z "java/lang/String" "COMPACT_STRINGS" "Z" (.int 1) A U H ∧ va_Zq "jdk/internal/util/Preconditions" "SIOOBE_FORMATTER" "Ljava/util/function/BiFunction;" A U H
theorem KX.warm {δ : Dl} {s U : State} (hW : s.WarmedH U.vm) (h : KX δ s) : KX δ U := by
  refine ⟨va_K.moved hW.alike h.1, fun w hw => ?_, fun q hq => va_Nc.moved hW.alike (h.2.2.1 q hq), fun i q hq => vk_R.warm hW (h.2.2.2.1 i q hq), fun ty ht => ao_warm hW (h.2.2.2.2 ty ht)⟩
  have h1 := h.2.1 w hw
  have h2 := (List.mem_filter.mp hw).2
  cases w with
  | methodLinkNest a i x hh => exact va_Nw.warmM hW h1
  | castable a c => exact va_Nw.warmC hW h1
  | _ => cases h2
theorem KX.same {δ : Dl} {u U : State} (hv : u.vm = U.vm) (h : KX δ u) : KX δ U := by
  refine ⟨va_K.moved (by rw [hv]; exact Vm.Alike.refl _) h.1, fun w hw => ?_, fun q hq => va_Nc.moved (by rw [hv]; exact Vm.Alike.refl _) (h.2.2.1 q hq), fun i q hq => vk_R.same hv.symm (h.2.2.2.1 i q hq), fun ty ht => ao_same hv (h.2.2.2.2 ty ht)⟩
  have h1 := h.2.1 w hw
  have h2 := (List.mem_filter.mp hw).2
  cases w with
  | methodLinkNest a i x hh => exact va_Nw.same rfl hv h1
  | castable a c => exact va_Nw.same rfl hv h1
  | _ => cases h2
