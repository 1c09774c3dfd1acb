/-! what a change leaves as it was -/
def FR (o : Nat) : Nat → Prop := fun q => o ≤ q ∧ q ≤ o + 6
def TR (B : Nat) : Nat → Prop := fun q => B ≤ q ∧ q < B + 46
/-- all but the places in P is as it was -/
def Same (P : Nat → Prop) (μ μ' : Mm) : Prop := (∀ q, ¬ P q → μ'.1 q = μ.1 q ∧ μ'.2.2 q = μ.2.2 q) ∧ μ'.2.1 = μ.2.1
/-- and no reference has changed -/
def SameI (P : Nat → Prop) (μ μ' : Mm) : Prop := (∀ q, ¬ P q → μ'.1 q = μ.1 q) ∧ μ'.2 = μ.2
section SAME
variable {P Q : Nat → Prop} {μ μ1 μ2 : Mm}
theorem SameI.same (h : SameI P μ μ1) : Same P μ μ1 := ⟨fun q hq => ⟨h.1 q hq, by rw [h.2]⟩, by rw [h.2]⟩
theorem Same.rf : Same P μ μ := ⟨fun _ _ => ⟨rfl, rfl⟩, rfl⟩
theorem SameI.rf : SameI P μ μ := ⟨fun _ _ => rfl, rfl⟩
theorem Same.tr (h : Same P μ μ1) (h1 : Same P μ1 μ2) : Same P μ μ2 := ⟨fun q hq => ⟨(h1.1 q hq).1.trans (h.1 q hq).1, (h1.1 q hq).2.trans (h.1 q hq).2⟩, h1.2.trans h.2⟩
theorem SameI.tr (h : SameI P μ μ1) (h1 : SameI P μ1 μ2) : SameI P μ μ2 := ⟨fun q hq => (h1.1 q hq).trans (h.1 q hq), h1.2.trans h.2⟩
theorem Same.mono (h : Same P μ μ1) (hq : ∀ q, P q → Q q) : Same Q μ μ1 := ⟨fun q z => h.1 q (fun y => z (hq q y)), h.2⟩
theorem SameI.mono (h : SameI P μ μ1) (hq : ∀ q, P q → Q q) : SameI Q μ μ1 := ⟨fun q z => h.1 q (fun y => z (hq q y)), h.2⟩
theorem SameI.wI {o k : Nat} {v : Int32} (h : P o) : SameI P μ (wI μ o k v) := ⟨fun q hq => funext fun k' => by
  have : ¬ q = o := fun e => hq (e ▸ h)
  simp [_root_.Jvm.Pilot.@@N@@.wI, this], rfl⟩
theorem wx_same (W : WX μ.2.2) (h : SameI P μ μ1) : WX μ1.2.2 := by rw [h.2]; exact W
end SAME
theorem hv_same {P : Nat → Prop} {μ μ' : Mm} {o : Nat} {V : Vt} (h : HV μ o V) (hs : Same P μ μ') (hP : ∀ q, FR o q → ¬ P q) : HV μ' o V := by
  have e : ∀ j, j ≤ 6 → μ'.1 (o + j) = μ.1 (o + j) := fun j hj => (hs.1 (o + j) (hP _ ⟨by omega, by omega⟩)).1
  have e0 : μ'.1 o = μ.1 o := e 0 (by omega)
  have r0 : μ'.2.2 o = μ.2.2 o := (hs.1 o (hP _ ⟨by omega, by omega⟩)).2
  obtain ⟨h1, h2, h3, h4, h5, h6, h7⟩ := h
  refine ⟨h1, by rw [r0]; exact h2, by rw [e0]; exact h3, by rw [e0]; exact h4, by rw [e0]; exact h5, fun c hc => ?_, fun k hk => by rw [e 6 (by omega)]; exact h7 k hk⟩
  rw [e 1 (by omega), e 2 (by omega), e 3 (by omega), e 4 (by omega), e 5 (by omega)]
  exact h6 c hc
/-! changes of a house -/
def upV (V : Vt) (j k x : Nat) : Vt := fun j' k' => if j' = j ∧ k' = k then x else V j' k'
def clearV (V : Vt) : Vt := fun j k => if (j = 0 ∧ k = 2) ∨ j = 6 then 0 else V j k
def put5 (t c th g y : Nat) : Nat → Nat
  | 1 => t
  | 2 => c
  | 3 => th
  | 4 => g
  | _ => y
def putV (V : Vt) (t c th g y : Nat) : Vt := fun j k => if 1 ≤ j ∧ j ≤ 5 ∧ k = V 0 2 then put5 t c th g y j else if j = 0 ∧ k = 2 then V 0 2 + 1 else V j k
def clrM (μ : Mm) (o i : Nat) : Mm := (fun q k => if q = o ∧ k = 3 then nI 0 else if q = o + 6 ∧ k < i then nI 0 else μ.1 q k, μ.2)
theorem clr_0 (μ : Mm) (o : Nat) : wI μ o 3 (nI 0) = clrM μ o 0 := by
  refine Prod.ext (funext fun q => funext fun k => ?_) rfl
  simp [wI, clrM]
theorem clr_s (μ : Mm) (o i : Nat) : wI (clrM μ o i) (o + 6) i (nI 0) = clrM μ o (i + 1) := by
  refine Prod.ext (funext fun q => funext fun k => ?_) rfl
  simp only [wI, clrM]
  by_cases h1 : q = o + 6
  · subst h1
    have : ¬ o + 6 = o := by omega
    by_cases h2 : k = i
    · subst h2; simp [this]
    · by_cases h3 : k < i
      · simp [this, h2, h3]; omega
      · have h4 : ¬ k < i + 1 := by omega
        simp [this, h2, h3, h4]
  · simp [h1]
theorem clr_same (μ : Mm) (o i : Nat) : SameI (FR o) μ (clrM μ o i) := ⟨fun q hq => funext fun k => by
  have h1 : ¬ q = o := fun e => hq ⟨by omega, by omega⟩
  have h2 : ¬ q = o + 6 := fun e => hq ⟨by omega, by omega⟩
  simp [clrM, h1, h2], rfl⟩
theorem hi_clear {V : Vt} (h : HI V) : HI (clearV V) := ⟨h.1, h.2.1, Nat.zero_le _, fun c hc => absurd hc (Nat.not_lt_zero c), fun k _ => (by decide : (0 : Nat) < 256)⟩
theorem hv_clear {μ : Mm} {o : Nat} {V : Vt} (h : HV μ o V) : HV (clrM μ o 12) o (clearV V) := by
  refine ⟨hi_clear h.1, h.2.1, ?_, ?_, by simp [clrM, clearV], fun c hc => absurd hc (Nat.not_lt_zero c), fun k hk => ?_⟩
  · simpa [clrM, clearV] using hv_k h
  · simpa [clrM, clearV] using hv_a h
  · simp [clrM, clearV, hk]
def putM (μ : Mm) (o n t c th g y : Nat) : Mm := wI (wI (wI (wI (wI (wI μ (o + 1) n (nI t)) (o + 2) n (nI c)) (o + 3) n (nI th)) (o + 4) n (nI g)) (o + 5) n (nI y)) o 3 (nI (n + 1))
theorem put_same (μ : Mm) (o n t c th g y : Nat) : SameI (FR o) μ (putM μ o n t c th g y) :=
  (((((SameI.wI ⟨by omega, by omega⟩).tr (SameI.wI ⟨by omega, by omega⟩)).tr (SameI.wI ⟨by omega, by omega⟩)).tr (SameI.wI ⟨by omega, by omega⟩)).tr (SameI.wI ⟨by omega, by omega⟩)).tr (SameI.wI ⟨by omega, by omega⟩)
theorem hi_put {V : Vt} {t c th g : Nat} (y : Nat) (h : HI V) (hn : V 0 2 < 8) (ht : t < 8) (hc : c < 6) (h1 : 1 ≤ th) (h9 : th ≤ 9) (hg : g < 12) : HI (putV V t c th g y) := by
  have e0 : ∀ k, ¬ k = 2 → putV V t c th g y 0 k = V 0 k := fun k hk => by simp [putV, hk]
  have en : putV V t c th g y 0 2 = V 0 2 + 1 := by simp [putV]
  have e6 : ∀ k, putV V t c th g y 6 k = V 6 k := fun k => by simp [putV]
  refine ⟨by rw [e0 0 (by decide)]; exact h.1, by rw [e0 1 (by decide)]; exact h.2.1, by rw [en]; omega, fun i hi => ?_, fun k hk => by rw [e6]; exact h.2.2.2.2 k hk⟩
  rw [en] at hi
  by_cases q : i = V 0 2
  · simp [putV, put5, q]
    omega
  · simpa [putV, q] using h.2.2.2.1 i (by omega)
theorem hv_put {μ : Mm} {o : Nat} {V : Vt} {t c th g : Nat} (y : Nat) (h : HV μ o V) (hn : V 0 2 < 8) (ht : t < 8) (hc : c < 6) (h1 : 1 ≤ th) (h9 : th ≤ 9) (hg : g < 12) : HV (putM μ o (V 0 2) t c th g y) o (putV V t c th g y) := by
  have e0 : ∀ k, ¬ k = 2 → putV V t c th g y 0 k = V 0 k := fun k hk => by simp [putV, hk]
  have en : putV V t c th g y 0 2 = V 0 2 + 1 := by simp [putV]
  have e6 : ∀ k, putV V t c th g y 6 k = V 6 k := fun k => by simp [putV]
  refine ⟨hi_put y h.1 hn ht hc h1 h9 hg, ?_, ?_, ?_, ?_, fun i hi => ?_, fun k hk => ?_⟩
  · rw [e0 0 (by decide)]; show μ.2.2 o 0 = _; exact hv_kind h
  · rw [e0 0 (by decide)]; simpa [putM, wI] using hv_k h
  · rw [e0 1 (by decide)]; simpa [putM, wI] using hv_a h
  · rw [en]; simp [putM, wI]
  · rw [en] at hi
    by_cases q : i = V 0 2
    · simp [putM, wI, putV, put5, q]
    · have hv := h.2.2.2.2.2.1 i (by omega)
      simpa [putM, wI, putV, q] using hv
  · rw [e6]; simpa [putM, wI] using hv_6 h hk
theorem hi_gone {V : Vt} {k x : Nat} (h : HI V) (hx : x < 256) : HI (upV V 6 k x) := by
  refine ⟨by simpa [upV] using h.1, by simpa [upV] using h.2.1, by simpa [upV] using h.2.2.1, fun c hc => ?_, fun i hi => ?_⟩
  · simpa [upV] using h.2.2.2.1 c (by simpa [upV] using hc)
  · by_cases q : i = k
    · simpa [upV, q] using hx
    · simpa [upV, q] using h.2.2.2.2 i hi
theorem hv_gone {μ : Mm} {o : Nat} {V : Vt} {k x : Nat} (h : HV μ o V) (hx : x < 256) : HV (wI μ (o + 6) k (nI x)) o (upV V 6 k x) := by
  refine ⟨hi_gone h.1 hx, by simpa [upV, wI] using hv_kind h, by simpa [upV, wI] using hv_k h, by simpa [upV, wI] using hv_a h, by simpa [upV, wI] using hv_n h, fun c hc => ?_, fun i hi => ?_⟩
  · simpa [upV, wI] using h.2.2.2.2.2.1 c (by simpa [upV] using hc)
  · by_cases q : i = k
    · simp [upV, wI, q]
    · simpa [upV, wI, q] using hv_6 h hi
/-! changes of a town -/
def upH (τ : Tt) (h : Nat) (V : Vt) : Tt := fun h' => if h' = h then V else τ h'
def upS (τ : Tt) (j k x : Nat) : Tt := fun h' => if h' = 6 then upV (τ 6) j k x else τ h'
theorem upH_6 {τ : Tt} {h : Nat} {V : Vt} (hh : h < 6) : upH τ h V 6 = τ 6 := if_neg (by omega)
theorem ti_upH {τ : Tt} {h : Nat} {V : Vt} (q : TI τ) (hh : h < 6) (hV : HI V) : TI (upH τ h V) := by
  unfold TI
  rw [upH_6 hh]
  refine ⟨q.1, q.2.1, q.2.2.1, q.2.2.2.1, fun i hi => ?_⟩
  by_cases e : i = h
  · rw [upH, if_pos e]; exact hV
  · rw [upH, if_neg e]; exact q.2.2.2.2 i hi
theorem tx_house {μ μ' : Mm} {B h : Nat} {τ : Tt} {V : Vt} (q : TX μ B τ) (hh : h < 6) (hs : Same (FR (B + 4 + 7 * h)) μ μ') (hV : HV μ' (B + 4 + 7 * h) V) : TX μ' B (upH τ h V) := by
  have e : ∀ j, j < 4 → μ'.1 (B + j) = μ.1 (B + j) := fun j hj => (hs.1 (B + j) (fun z => by have := z.1; omega)).1
  have e0 : μ'.1 B = μ.1 B := e 0 (by omega)
  refine ⟨ti_upH q.1 hh hV.1, ?_, ?_, fun i hi => ?_⟩
  · rw [e0, upH_6 hh]; exact q.2.1
  · rw [e 2 (by omega), e 3 (by omega), upH_6 hh]; exact q.2.2.1
  · rw [upH_6 hh] at hi
    by_cases z : i = h
    · subst z; rw [upH, if_pos rfl]; exact hV
    · rw [upH, if_neg z]
      refine hv_same (q.2.2.2 i hi) hs (fun x hx hy => ?_)
      obtain ⟨h1, h2⟩ := hx
      obtain ⟨h3, h4⟩ := hy
      omega
theorem tx_same {P : Nat → Prop} {μ μ' : Mm} {B : Nat} {τ : Tt} (q : TX μ B τ) (hs : Same P μ μ') (hP : ∀ x, TR B x → ¬ P x) : TX μ' B τ := by
  have e : ∀ j, j < 46 → μ'.1 (B + j) = μ.1 (B + j) := fun j hj => (hs.1 (B + j) (hP _ ⟨by omega, by omega⟩)).1
  have e0 : μ'.1 B = μ.1 B := e 0 (by omega)
  refine ⟨q.1, by rw [e0]; exact q.2.1, by rw [e 2 (by omega), e 3 (by omega)]; exact q.2.2.1, fun i hi => hv_same (q.2.2.2 i hi) hs (fun x hx => hP x ?_)⟩
  have := q.1.1
  obtain ⟨h1, h2⟩ := hx
  exact ⟨by omega, by omega⟩
theorem fr_tr {B h : Nat} (hh : h < 6) : ∀ q, FR (B + 4 + 7 * h) q → TR B q := fun q z => by
  obtain ⟨h1, h2⟩ := z
  exact ⟨by omega, by omega⟩

section CGM
variable {κ : Kt} {K : Wt} {N cells slots pc : Nat} {ls : List (Option Value)} {st : List Value} {μ μ' : Mm}
theorem AW.cgm (h : μ = μ') (k : AW κ K N cells slots pc ls st μ') : AW κ K N cells slots pc ls st μ := h ▸ k
end CGM
