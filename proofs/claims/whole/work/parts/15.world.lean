/-! the two worlds: what stands at each place -/
def NX : Nat := 164
def NM : Nat := 22
def townX : List (Nat ⊕ (Nat × Nat)) := [.inl 9, .inr (2, 6), .inr (0, 6), .inr (0, 6)] ++ (List.range 6).flatMap fun _ => [.inl 3, .inr (0, 8), .inr (0, 8), .inr (0, 8), .inr (0, 8), .inr (0, 8), .inr (0, 12)]
def listX : List (Nat ⊕ (Nat × Nat)) := [.inl 11, .inr (0, 8), .inr (0, 8), .inr (4, 8)] ++ List.replicate 8 (.inr (1, 160)) ++ [.inr (0, 8), .inr (0, 8), .inr (0, 256), .inl 6, .inl 10, .inr (0, 20), .inr (3, 7), .inl 4, .inl 2, .inl 5, .inl 1, .inl 7, .inl 8, .inl 0] ++ townX ++ townX ++ townX
def listM : List (Nat ⊕ (Nat × Nat)) := [.inl 12, .inr (0, 8), .inr (0, 8), .inr (1, 1280), .inr (0, 6), .inr (0, 6), .inr (0, 6), .inr (0, 48), .inr (0, 48), .inr (0, 48), .inr (0, 48), .inr (0, 48), .inr (0, 72), .inr (0, 6), .inr (0, 6), .inr (0, 8), .inr (0, 20), .inr (0, 347), .inr (0, 347), .inr (0, 5), .inr (0, 8), .inr (0, 8)]
def shX : Sh := fun o => listX.getD o (.inr (0, 0))
def shM : Sh := fun o => listM.getD o (.inr (0, 0))
abbrev OX (o c : Nat) : Prop := OB shX NX o c
abbrev AX (o t n : Nat) : Prop := AR shX NX o t n
abbrev OM (o c : Nat) : Prop := OB shM NM o c
abbrev AM (o t n : Nat) : Prop := AR shM NM o t n
/-- a town's place, a front's place -/
def TA (B : Nat) : Prop := B = 26 ∨ B = 72 ∨ B = 118
def FA (o : Nat) : Prop := ∃ B h, TA B ∧ h < 6 ∧ o = B + 4 + 7 * h
theorem fa_of {B h : Nat} (hB : TA B) (hh : h < 6) : FA (B + 4 + 7 * h) := ⟨B, h, hB, hh, rfl⟩
theorem six {P : Nat → Prop} (h0 : P 0) (h1 : P 1) (h2 : P 2) (h3 : P 3) (h4 : P 4) (h5 : P 5) {h : Nat} (hh : h < 6) : P h := by
  match h, hh with
  | 0, _ => exact h0
  | 1, _ => exact h1
  | 2, _ => exact h2
  | 3, _ => exact h3
  | 4, _ => exact h4
  | 5, _ => exact h5
theorem fa_cases {P : Nat → Prop} (h : ∀ B ∈ [26, 72, 118], ∀ h ∈ [0, 1, 2, 3, 4, 5], P (B + 4 + 7 * h)) {o : Nat} (ho : FA o) : P o := by
  obtain ⟨B, k, hB, hk, rfl⟩ := ho
  refine h B ?_ k ?_
  · rcases hB with rfl | rfl | rfl <;> simp
  · have : k = 0 ∨ k = 1 ∨ k = 2 ∨ k = 3 ∨ k = 4 ∨ k = 5 := by omega
    rcases this with rfl | rfl | rfl | rfl | rfl | rfl <;> simp
theorem dAR {sh : Sh} {N o t n : Nat} (h : (decide (o < N) && decide (sh o = .inr (t, n))) = true) : AR sh N o t n := by
  simp only [Bool.and_eq_true, decide_eq_true_eq] at h
  exact h
theorem dOB {sh : Sh} {N o c : Nat} (h : (decide (o < N) && decide (sh o = .inl c)) = true) : OB sh N o c := by
  simp only [Bool.and_eq_true, decide_eq_true_eq] at h
  exact h
theorem fa_ob {o : Nat} (h : FA o) : OX o 3 := dOB (fa_cases (P := fun o => (decide (o < NX) && decide (shX o = .inl 3)) = true) (by decide +kernel) h)
theorem fa_1 {o : Nat} (h : FA o) : AX (o + 1) 0 8 := dAR (fa_cases (P := fun o => (decide (o + 1 < NX) && decide (shX (o + 1) = .inr (0, 8))) = true) (by decide +kernel) h)
theorem fa_2 {o : Nat} (h : FA o) : AX (o + 2) 0 8 := dAR (fa_cases (P := fun o => (decide (o + 2 < NX) && decide (shX (o + 2) = .inr (0, 8))) = true) (by decide +kernel) h)
theorem fa_3 {o : Nat} (h : FA o) : AX (o + 3) 0 8 := dAR (fa_cases (P := fun o => (decide (o + 3 < NX) && decide (shX (o + 3) = .inr (0, 8))) = true) (by decide +kernel) h)
theorem fa_4 {o : Nat} (h : FA o) : AX (o + 4) 0 8 := dAR (fa_cases (P := fun o => (decide (o + 4 < NX) && decide (shX (o + 4) = .inr (0, 8))) = true) (by decide +kernel) h)
theorem fa_5 {o : Nat} (h : FA o) : AX (o + 5) 0 8 := dAR (fa_cases (P := fun o => (decide (o + 5 < NX) && decide (shX (o + 5) = .inr (0, 8))) = true) (by decide +kernel) h)
theorem fa_6 {o : Nat} (h : FA o) : AX (o + 6) 0 12 := dAR (fa_cases (P := fun o => (decide (o + 6 < NX) && decide (shX (o + 6) = .inr (0, 12))) = true) (by decide +kernel) h)
theorem ta_ob {B : Nat} (h : TA B) : OX B 9 := by rcases h with rfl | rfl | rfl <;> exact dOB (by decide +kernel)
theorem ta_f {B : Nat} (h : TA B) : AX (B + 1) 2 6 := by rcases h with rfl | rfl | rfl <;> exact dAR (by decide +kernel)
theorem ta_h {B : Nat} (h : TA B) : AX (B + 2) 0 6 := by rcases h with rfl | rfl | rfl <;> exact dAR (by decide +kernel)
theorem ta_c {B : Nat} (h : TA B) : AX (B + 3) 0 6 := by rcases h with rfl | rfl | rfl <;> exact dAR (by decide +kernel)
theorem ox0 : OX 0 11 := dOB (by decide +kernel)
theorem ox15 : OX 15 6 := dOB (by decide +kernel)
theorem ox16 : OX 16 10 := dOB (by decide +kernel)
theorem ax1 : AX 1 0 8 := dAR (by decide +kernel)
theorem ax2 : AX 2 0 8 := dAR (by decide +kernel)
theorem ax3 : AX 3 4 8 := dAR (by decide +kernel)
theorem ax12 : AX 12 0 8 := dAR (by decide +kernel)
theorem ax13 : AX 13 0 8 := dAR (by decide +kernel)
theorem ax14 : AX 14 0 256 := dAR (by decide +kernel)
theorem ax17 : AX 17 0 20 := dAR (by decide +kernel)
theorem ax18 : AX 18 3 7 := dAR (by decide +kernel)
theorem ax_el {s : Nat} (h : s < 8) : AX (4 + s) 1 160 := by
  have : s = 0 ∨ s = 1 ∨ s = 2 ∨ s = 3 ∨ s = 4 ∨ s = 5 ∨ s = 6 ∨ s = 7 := by omega
  rcases this with rfl | rfl | rfl | rfl | rfl | rfl | rfl | rfl <;> exact dAR (by decide +kernel)
/-- the references of the class's world that never change -/
def WX (r : Nat → Nat → Option Nat) : Prop :=
  (r 0 0 = some 1 ∧ r 0 1 = some 2 ∧ r 0 2 = some 3 ∧ r 0 3 = some 12 ∧ r 0 5 = some 13 ∧ r 0 6 = some 14 ∧ r 0 9 = some 118 ∧ r 0 11 = some 15 ∧ r 0 13 = some 16) ∧ (∀ s, s < 8 → r 3 s = some (4 + s)) ∧ r 16 3 = some 17 ∧ (∀ k, k < 7 → r 18 k = some (19 + k)) ∧
  (∀ B, TA B → r B 0 = some 18 ∧ r B 1 = some (B + 1) ∧ r B 3 = some (B + 2) ∧ r B 4 = some (B + 3) ∧ ∀ h, h < 6 → r (B + 1) h = some (B + 4 + 7 * h)) ∧
  ∀ o, FA o → r o 4 = some (o + 1) ∧ r o 5 = some (o + 2) ∧ r o 6 = some (o + 3) ∧ r o 7 = some (o + 4) ∧ r o 8 = some (o + 5) ∧ r o 9 = some (o + 6)
section WXS
variable {r : Nat → Nat → Option Nat} {o B : Nat}
theorem wx_held (W : WX r) : r 0 0 = some 1 := W.1.1
theorem wx_sizes (W : WX r) : r 0 1 = some 2 := W.1.2.1
theorem wx_elements (W : WX r) : r 0 2 = some 3 := W.1.2.2.1
theorem wx_refusals (W : WX r) : r 0 3 = some 12 := W.1.2.2.2.1
theorem wx_beneath (W : WX r) : r 0 5 = some 13 := W.1.2.2.2.2.1
theorem wx_ways (W : WX r) : r 0 6 = some 14 := W.1.2.2.2.2.2.1
theorem wx_kept (W : WX r) : r 0 9 = some 118 := W.1.2.2.2.2.2.2.1
theorem wx_reader (W : WX r) : r 0 11 = some 15 := W.1.2.2.2.2.2.2.2.1
theorem wx_latest (W : WX r) : r 0 13 = some 16 := W.1.2.2.2.2.2.2.2.2
theorem wx_el (W : WX r) {s : Nat} (h : s < 8) : r 3 s = some (4 + s) := W.2.1 s h
theorem wx_bodies (W : WX r) : r 16 3 = some 17 := W.2.2.1
theorem wx_kind (W : WX r) {k : Nat} (h : k < 7) : r 18 k = some (19 + k) := W.2.2.2.1 k h
theorem wx_kinds (W : WX r) (h : TA B) : r B 0 = some 18 := (W.2.2.2.2.1 B h).1
theorem wx_fronts (W : WX r) (h : TA B) : r B 1 = some (B + 1) := (W.2.2.2.2.1 B h).2.1
theorem wx_hides (W : WX r) (h : TA B) : r B 3 = some (B + 2) := (W.2.2.2.2.1 B h).2.2.1
theorem wx_costs (W : WX r) (h : TA B) : r B 4 = some (B + 3) := (W.2.2.2.2.1 B h).2.2.2.1
theorem wx_front (W : WX r) (h : TA B) {k : Nat} (hk : k < 6) : r (B + 1) k = some (B + 4 + 7 * k) := (W.2.2.2.2.1 B h).2.2.2.2 k hk
theorem wx_tenant (W : WX r) (h : FA o) : r o 4 = some (o + 1) := (W.2.2.2.2.2 o h).1
theorem wx_colour (W : WX r) (h : FA o) : r o 5 = some (o + 2) := (W.2.2.2.2.2 o h).2.1
theorem wx_thick (W : WX r) (h : FA o) : r o 6 = some (o + 3) := (W.2.2.2.2.2 o h).2.2.1
theorem wx_gap (W : WX r) (h : FA o) : r o 7 = some (o + 4) := (W.2.2.2.2.2 o h).2.2.2.1
theorem wx_year (W : WX r) (h : FA o) : r o 8 = some (o + 5) := (W.2.2.2.2.2 o h).2.2.2.2.1
theorem wx_gone (W : WX r) (h : FA o) : r o 9 = some (o + 6) := (W.2.2.2.2.2 o h).2.2.2.2.2
end WXS
theorem om0 : OM 0 12 := dOB (by decide +kernel)
/-- the references of the reference's world -/
def mref : List (Nat × Nat × Nat × Nat) := [(0, 1, 0, 8), (1, 2, 0, 8), (2, 3, 1, 1280), (4, 4, 0, 6), (5, 5, 0, 6), (6, 6, 0, 6), (7, 7, 0, 48), (8, 8, 0, 48), (9, 9, 0, 48), (10, 10, 0, 48), (11, 11, 0, 48), (12, 12, 0, 72), (13, 13, 0, 6), (14, 14, 0, 6), (21, 15, 0, 8), (23, 16, 0, 20), (25, 17, 0, 347), (26, 18, 0, 347), (29, 19, 0, 5), (30, 20, 0, 8), (32, 21, 0, 8)]
def WM (r : Nat → Nat → Option Nat) : Prop := ∀ q ∈ mref, r 0 q.1 = some q.2.1
theorem wm_at {r : Nat → Nat → Option Nat} (W : WM r) (i : Nat) {k o t n : Nat} (h : mref[i]? = some (k, o, t, n)) : r 0 k = some o := W (k, o, t, n) (List.mem_of_getElem? h)
theorem am_all : ∀ q ∈ mref, (decide (q.2.1 < NM) && decide (shM q.2.1 = .inr (q.2.2.1, q.2.2.2))) = true := by decide +kernel
theorem am_at (i : Nat) {k o t n : Nat} (h : mref[i]? = some (k, o, t, n)) : AM o t n := dAR (am_all (k, o, t, n) (List.mem_of_getElem? h))
/-- contracts over each of the worlds -/
abbrev MCX (l : Launch) (δ : Dl) (b : Nat) (y : MethodName) (bytes : ByteArray) (nL : Nat) (ret : Option FieldType) (d : Nat) (av : List Value) (μ : Mm) (post : Option Value → Mm → Prop) : Prop := MC l δ b NX shX False y bytes nL ret d 0 0 NX NX av μ post
abbrev MCM (l : Launch) (δ : Dl) (b : Nat) (y : MethodName) (bytes : ByteArray) (nL : Nat) (ret : Option FieldType) (d : Nat) (av : List Value) (μ : Mm) (post : Option Value → Mm → Prop) : Prop := MC l δ b NM shM False y bytes nL ret d 0 0 NM NM av μ post
