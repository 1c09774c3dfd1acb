/-! the reader: its letters, its place, its fault -/
def enR (n : Nat) (L : Nat → Int64) (i : Nat) : Int32 := if i < n then (L i).toInt32 else -1
def dgt (e : Int32) : Bool := decide (¬ e < nI 48 ∧ ¬ nI 57 < e)
def RDX (μ : Mm) (Bd s n p : Nat) (L : Nat → Int64) : Prop := WX μ.2.2 ∧ (μ.2.2 15 0 = some Bd ∧ μ.2.2 15 1 = some (4 + s)) ∧ (μ.1 15 2 = nI n ∧ μ.1 15 3 = nI p ∧ μ.1 15 5 = -1) ∧ (∀ i, i < n → μ.2.1 (4 + s) i = L i) ∧ s < 8 ∧ n ≤ 160 ∧ p ≤ n
section RDS
variable {μ μ' : Mm} {Bd s n p : Nat} {L : Nat → Int64}
theorem rdx_w (h : RDX μ Bd s n p L) : WX μ.2.2 := h.1
theorem rdx_t (h : RDX μ Bd s n p L) : μ.2.2 15 0 = some Bd := h.2.1.1
theorem rdx_r (h : RDX μ Bd s n p L) : μ.2.2 15 1 = some (4 + s) := h.2.1.2
theorem rdx_n (h : RDX μ Bd s n p L) : μ.1 15 2 = nI n := h.2.2.1.1
theorem rdx_p (h : RDX μ Bd s n p L) : μ.1 15 3 = nI p := h.2.2.1.2.1
theorem rdx_f (h : RDX μ Bd s n p L) : μ.1 15 5 = -1 := h.2.2.1.2.2
theorem rdx_l (h : RDX μ Bd s n p L) {i : Nat} (hi : i < n) : μ.2.1 (4 + s) i = L i := h.2.2.2.1 i hi
theorem rdx_s (h : RDX μ Bd s n p L) : s < 8 := h.2.2.2.2.1
theorem rdx_k (h : RDX μ Bd s n p L) : n ≤ 160 := h.2.2.2.2.2.1
theorem rdx_q (h : RDX μ Bd s n p L) : p ≤ n := h.2.2.2.2.2.2
/-- at another place -/
theorem rdx_at (h : RDX μ Bd s n p L) {q : Nat} (hq : q ≤ n) : RDX (wI μ 15 3 (nI q)) Bd s n q L :=
  ⟨h.1, h.2.1, ⟨by simpa [wI] using h.2.2.1.1, by simp [wI], by simpa [wI] using h.2.2.1.2.2⟩, h.2.2.2.1, h.2.2.2.2.1, h.2.2.2.2.2.1, hq⟩
theorem rdx_na (h : RDX μ Bd s n p L) {v : Int32} : RDX (wI μ 15 4 v) Bd s n p L :=
  ⟨h.1, h.2.1, ⟨by simpa [wI] using h.2.2.1.1, by simpa [wI] using h.2.2.1.2.1, by simpa [wI] using h.2.2.1.2.2⟩, h.2.2.2.1, h.2.2.2.2.1, h.2.2.2.2.2.1, h.2.2.2.2.2.2⟩
end RDS
theorem s15 {μ : Mm} {k : Nat} {v : Int32} : SameI (fun q => q = 15) μ (wI μ 15 k v) := SameI.wI rfl
theorem enR_lt {n p c : Nat} {L : Nat → Int64} (hc : c < 1000) (h : enR n L p = nI c) : p < n := by
  unfold enR at h
  split at h
  · assumption
  · exact absurd h.symm (nI_m1 (by omega))
theorem dgt_of {e : Int32} (h : dgt e = true) : ∃ x : Nat, 48 ≤ x ∧ x ≤ 57 ∧ e = nI x := by
  have h := of_decide_eq_true h
  obtain ⟨x, hx, rfl, h1⟩ := ge_of (by decide) h.1
  refine ⟨x, h1, ?_, rfl⟩
  have := h.2
  rw [n2_lt (by decide) hx] at this
  omega
theorem dgt_lt {n p : Nat} {L : Nat → Int64} (h : dgt (enR n L p) = true) : p < n := by
  obtain ⟨x, h1, h2, e⟩ := dgt_of h
  exact enR_lt (c := x) (by omega) e
/-- a blank and a number of lo .. hx - 1: where the fault lies, or the number and the place behind it -/
def rdN (E : Nat → Int32) (lo hx p : Nat) : Nat ⊕ (Nat × Nat) :=
  if E p = nI 32 then
    (if dgt (E (p + 1)) = true then
      (if dgt (E (p + 1 + 1)) = true then
        (if lo ≤ 10 * (cl (E (p + 1)) - 48) + cl (E (p + 1 + 1)) - 48 ∧ 10 * (cl (E (p + 1)) - 48) + cl (E (p + 1 + 1)) - 48 < hx then .inr (10 * (cl (E (p + 1)) - 48) + cl (E (p + 1 + 1)) - 48, p + 1 + 1 + 1) else .inl (p + 1))
      else (if lo ≤ cl (E (p + 1)) - 48 ∧ cl (E (p + 1)) - 48 < hx then .inr (cl (E (p + 1)) - 48, p + 1 + 1) else .inl (p + 1)))
    else .inl (p + 1))
  else .inl p
/-- how many letters stand there as in text i -/
def smL (E : Nat → Int32) (i p : Nat) : Nat := match fstUp (fun j => !decide (E (p + j) = nI (sch i j))) (slen i) 0 with
  | none => slen i
  | some j => j
theorem smL_le (E : Nat → Int32) (i p : Nat) : smL E i p ≤ slen i := by
  unfold smL
  split
  · exact Nat.le_refl _
  · rename_i j h
    have := fstUp_s h
    omega
def furT (E : Nat → Int32) (p : Nat) : Nat → Nat
  | 0 => 0
  | k + 1 => max (furT E p k) (smL E k p)
theorem furT_le (E : Nat → Int32) (p : Nat) : ∀ k, k ≤ 6 → furT E p k ≤ 8
  | 0, _ => Nat.zero_le _
  | k + 1, h => by
    have := furT_le E p k (by omega)
    have h1 := smL_le E k p
    have h2 := slen_lt k (by omega)
    unfold furT
    omega
def isW (E : Nat → Int32) (p : Nat) : Nat → Bool := fun w => decide (smL E w p = slen w)
/-- the word that stands there: where the fault lies, or which, and the place behind it -/
def rdW (E : Nat → Int32) (p : Nat) : Nat ⊕ (Nat × Nat) := match fstUp (isW E p) 6 0 with
  | some w => .inr (w, p + slen w)
  | none => .inl (p + furT E p 6)
set_option maxRecDepth 100000 in
set_option maxHeartbeats 4000000 in
theorem c_X6_elementAt {l : Launch} {δ : Dl} {b : Nat} {μ : Mm} {Bd s n p : Nat} {L : Nat → Int64} (hD : RDX μ Bd s n p L) {i : Nat} (hi : i < 1000) : MCX l δ b yX6_elementAt cX6_elementAt 2 (some .int) 1 [.ref (b + 15), .int (nI i)] μ (pI fun r μ' => r = enR n L i ∧ μ' = μ) := by
  have hk := rdx_k hD
  have hq := rdx_q hD
  refine MC.intro ([some (.ref (b + 15)), some (.int (nI i))]) (by decide) rfl rfl fun κ Qc hl hQ X => ?_
  subst hl
  refine AW.iload_n X dX6_elementAt_0 (i := 1) rfl rfl ?_
  refine AW.if_ltN X (tgt := 22) dX6_elementAt_1 (by decide) (by omega) (fun h1 => ?_) (fun h1 => ?_)
  · exact h1.elim
  · refine AW.iload_n X dX6_elementAt_4 (i := 1) rfl rfl ?_
    refine AW.aload_n X dX6_elementAt_5 (i := 0) rfl rfl ?_
    refine AW.getI X dX6_elementAt_6 fX6_9 rfl ox15 (rdx_n hD) ?_
    refine AW.icmp_geN X (tgt := 22) dX6_elementAt_9 (by decide) (by omega) (by omega) (fun h9 => ?_) (fun h9 => ?_)
    · have n9 := Nat.not_lt_of_le h9
      refine AW.iconst X (v := -1) dX6_elementAt_22 rfl ?_
      refine AW.iret X hQ dX6_elementAt_23 ⟨_, rfl, ?_⟩
      exact ⟨by simp [enR, *], rfl⟩
    · have n9 := Nat.not_le_of_lt h9
      refine AW.aload_n X dX6_elementAt_12 (i := 0) rfl rfl ?_
      refine AW.getR X dX6_elementAt_13 fX6_28 rfl ox15 (rdx_r hD) ?_
      refine AW.iload_n X dX6_elementAt_16 (i := 1) rfl rfl ?_
      refine AW.laload X dX6_elementAt_17 (ax_el (rdx_s hD)) (n2_in (by omega) (by decide)) (v := (L i)) (by rw [n2_clamp (by omega)]; exact rdx_l hD (by omega)) ?_
      refine AW.l2i X dX6_elementAt_18 ?_
      refine AW.goto X (tgt := 23) dX6_elementAt_19 (by decide) ?_
      refine AW.iret X hQ dX6_elementAt_23 ⟨_, rfl, ?_⟩
      exact ⟨by simp [enR, *], rfl⟩
set_option maxRecDepth 100000 in
set_option maxHeartbeats 4000000 in
theorem c_X6_isDigit {l : Launch} {δ : Dl} {b : Nat} {μ : Mm} {Bd s n p : Nat} {L : Nat → Int64} (hD : RDX μ Bd s n p L) {i : Nat} (hi : i < 1000) : MCX l δ b yX6_isDigit cX6_isDigit 3 (some .boolean) 2 [.ref (b + 15), .int (nI i)] μ (pI fun r μ' => r = bI (dgt (enR n L i)) ∧ μ' = μ) := by
  have hk := rdx_k hD
  have hq := rdx_q hD
  refine MC.intro ([some (.ref (b + 15)), some (.int (nI i)), none]) (by decide) rfl rfl fun κ Qc hl hQ X => ?_
  subst hl
  refine AW.aload_n X dX6_isDigit_0 (i := 0) rfl rfl ?_
  refine AW.iload_n X dX6_isDigit_1 (i := 1) rfl rfl ?_
  refine AW.callV X dX6_isDigit_2 lX6_102 cfX6 (c_X6_elementAt hD (by omega)) ox15 rfl rfl rfl rfl ⟨rfl, rfl⟩ (pR_k ?_)
  refine AW.istore_n X dX6_isDigit_5 (i := 2) rfl rfl ?_
  refine AW.iload_n X dX6_isDigit_6 (i := 2) rfl rfl ?_
  refine AW.bipushN X 48 dX6_isDigit_7 rfl ?_
  refine AW.icmp_lt X (tgt := 22) dX6_isDigit_9 (by decide) (fun h9 => ?_) (fun h9 => ?_)
  · refine AW.iconstN X 0 dX6_isDigit_22 rfl ?_
    refine AW.zret X rfl hQ dX6_isDigit_23 ⟨_, rfl, ?_⟩
    have e : dgt (enR n L i) = false := by simp [dgt, *]
    exact ⟨by rw [e]; rfl, rfl⟩
  · refine AW.iload_n X dX6_isDigit_12 (i := 2) rfl rfl ?_
    refine AW.bipushN X 57 dX6_isDigit_13 rfl ?_
    refine AW.icmp_gt X (tgt := 22) dX6_isDigit_15 (by decide) (fun h15 => ?_) (fun h15 => ?_)
    · refine AW.iconstN X 0 dX6_isDigit_22 rfl ?_
      refine AW.zret X rfl hQ dX6_isDigit_23 ⟨_, rfl, ?_⟩
      have e : dgt (enR n L i) = false := by simp [dgt, *]
      exact ⟨by rw [e]; rfl, rfl⟩
    · refine AW.iconstN X 1 dX6_isDigit_18 rfl ?_
      refine AW.goto X (tgt := 23) dX6_isDigit_19 (by decide) ?_
      refine AW.zret X rfl hQ dX6_isDigit_23 ⟨_, rfl, ?_⟩
      have e : dgt (enR n L i) = true := by simp [dgt, *]
      exact ⟨by rw [e]; rfl, rfl⟩
set_option maxRecDepth 100000 in
set_option maxHeartbeats 4000000 in
theorem cb_stands {l : Launch} {δ : Dl} {b : Nat} {μ : Mm} (W : WX μ.2.2) {k : Nat} (hf : μ.1 15 5 = nI k) (hk9 : k < 100000) {c : Int32} : MCX l δ b yX6_stands cX6_stands 2 (some .boolean) 2 [.ref (b + 15), .int c] μ (pI fun r μ' => r = bI false ∧ μ' = μ) := by
  refine MC.intro ([some (.ref (b + 15)), some (.int c)]) (by decide) rfl rfl fun κ Qc hl hQ X => ?_
  subst hl
  refine AW.aload_n X dX6_stands_0 (i := 0) rfl rfl ?_
  refine AW.getI X dX6_stands_1 fX6_21 rfl ox15 hf ?_
  refine AW.iconst X (v := -1) dX6_stands_4 rfl ?_
  refine AW.icmp_eq X (tgt := 10) dX6_stands_5 (by decide) (fun h5 => ?_) (fun h5 => ?_)
  · exact absurd h5 (nI_m1 (by omega))
  · refine AW.iconstN X 0 dX6_stands_8 rfl ?_
    refine AW.zret X rfl hQ dX6_stands_9 ⟨_, rfl, ?_⟩
    exact ⟨rfl, rfl⟩
set_option maxRecDepth 100000 in
set_option maxHeartbeats 4000000 in
theorem ct_stands {l : Launch} {δ : Dl} {b : Nat} {μ : Mm} {Bd s n p : Nat} {L : Nat → Int64} (hD : RDX μ Bd s n p L) {c : Nat} (hc : c < 1000) (he : enR n L p = nI c) : MCX l δ b yX6_stands cX6_stands 2 (some .boolean) 2 [.ref (b + 15), .int (nI c)] μ (pI fun r μ' => r = bI true ∧ μ' = wI μ 15 3 (nI (p + 1))) := by
  have hk := rdx_k hD
  have hq := rdx_q hD
  refine MC.intro ([some (.ref (b + 15)), some (.int (nI c))]) (by decide) rfl rfl fun κ Qc hl hQ X => ?_
  subst hl
  refine AW.aload_n X dX6_stands_0 (i := 0) rfl rfl ?_
  refine AW.getI X dX6_stands_1 fX6_21 rfl ox15 (rdx_f hD) ?_
  refine AW.iconst X (v := -1) dX6_stands_4 rfl ?_
  refine AW.icmp_eq X (tgt := 10) dX6_stands_5 (by decide) (fun h5 => ?_) (fun h5 => ?_)
  · refine AW.aload_n X dX6_stands_10 (i := 0) rfl rfl ?_
    refine AW.aload_n X dX6_stands_11 (i := 0) rfl rfl ?_
    refine AW.getI X dX6_stands_12 fX6_15 rfl ox15 (rdx_p hD) ?_
    refine AW.callV X dX6_stands_15 lX6_102 cfX6 (c_X6_elementAt hD (by omega)) ox15 rfl rfl rfl rfl ⟨rfl, rfl⟩ (pR_k ?_)
    refine AW.iload_n X dX6_stands_18 (i := 1) rfl rfl ?_
    refine AW.icmp_eq X (tgt := 32) dX6_stands_19 (by decide) (fun h19 => ?_) (fun h19 => ?_)
    · refine AW.aload_n X dX6_stands_32 (i := 0) rfl rfl ?_
      refine AW.dup X dX6_stands_33 rfl ?_
      refine AW.getI X dX6_stands_34 fX6_15 rfl ox15 (rdx_p hD) ?_
      refine AW.iconstN X 1 dX6_stands_37 rfl ?_
      refine AW.iaddN X dX6_stands_38 ?_
      refine AW.putI X dX6_stands_39 fX6_15 rfl rfl ⟨rfl, rfl⟩ (by decide) ox15 ?_
      refine AW.iconstN X 1 dX6_stands_42 rfl ?_
      refine AW.zret X rfl hQ dX6_stands_43 ⟨_, rfl, ?_⟩
      exact ⟨rfl, rfl⟩
    · exact absurd he h19
  · exact absurd rfl h5
set_option maxRecDepth 100000 in
set_option maxHeartbeats 4000000 in
theorem cf_stands {l : Launch} {δ : Dl} {b : Nat} {μ : Mm} {Bd s n p : Nat} {L : Nat → Int64} (hD : RDX μ Bd s n p L) {c : Nat} (hc : c < 1000) (he : ¬ enR n L p = nI c) : MCX l δ b yX6_stands cX6_stands 2 (some .boolean) 2 [.ref (b + 15), .int (nI c)] μ (pI fun r μ' => r = bI false ∧ μ' = wI μ 15 5 (nI p)) := by
  have hk := rdx_k hD
  have hq := rdx_q hD
  refine MC.intro ([some (.ref (b + 15)), some (.int (nI c))]) (by decide) rfl rfl fun κ Qc hl hQ X => ?_
  subst hl
  refine AW.aload_n X dX6_stands_0 (i := 0) rfl rfl ?_
  refine AW.getI X dX6_stands_1 fX6_21 rfl ox15 (rdx_f hD) ?_
  refine AW.iconst X (v := -1) dX6_stands_4 rfl ?_
  refine AW.icmp_eq X (tgt := 10) dX6_stands_5 (by decide) (fun h5 => ?_) (fun h5 => ?_)
  · refine AW.aload_n X dX6_stands_10 (i := 0) rfl rfl ?_
    refine AW.aload_n X dX6_stands_11 (i := 0) rfl rfl ?_
    refine AW.getI X dX6_stands_12 fX6_15 rfl ox15 (rdx_p hD) ?_
    refine AW.callV X dX6_stands_15 lX6_102 cfX6 (c_X6_elementAt hD (by omega)) ox15 rfl rfl rfl rfl ⟨rfl, rfl⟩ (pR_k ?_)
    refine AW.iload_n X dX6_stands_18 (i := 1) rfl rfl ?_
    refine AW.icmp_eq X (tgt := 32) dX6_stands_19 (by decide) (fun h19 => ?_) (fun h19 => ?_)
    · exact absurd h19 he
    · refine AW.aload_n X dX6_stands_22 (i := 0) rfl rfl ?_
      refine AW.aload_n X dX6_stands_23 (i := 0) rfl rfl ?_
      refine AW.getI X dX6_stands_24 fX6_15 rfl ox15 (rdx_p hD) ?_
      refine AW.putI X dX6_stands_27 fX6_21 rfl rfl ⟨rfl, rfl⟩ (by decide) ox15 ?_
      refine AW.iconstN X 0 dX6_stands_30 rfl ?_
      refine AW.zret X rfl hQ dX6_stands_31 ⟨_, rfl, ?_⟩
      exact ⟨rfl, rfl⟩
  · exact absurd rfl h5
set_option maxRecDepth 100000 in
set_option maxHeartbeats 4000000 in
theorem c_X6_readNumber {l : Launch} {δ : Dl} {b : Nat} {μ : Mm} {Bd s n p : Nat} {L : Nat → Int64} (hD : RDX μ Bd s n p L) {lo hx : Nat} (hlo : lo < 1000) (hhx : hx < 1000) {hi : Int32} (hh : hi = dn hx)  : MCX l δ b yX6_readNumber cX6_readNumber 4 (some .int) 3 [.ref (b + 15), .int (nI lo), .int hi] μ (pI fun r μ' => (∀ k, rdN (enR n L) lo hx p = .inl k → r = -1 ∧ SameI (fun q => q = 15) μ μ' ∧ μ'.1 15 5 = nI k ∧ k ≤ n + 1) ∧ (∀ v q, rdN (enR n L) lo hx p = .inr (v, q) → r = nI v ∧ SameI (fun q => q = 15) μ μ' ∧ RDX μ' Bd s n q L ∧ μ'.1 15 4 = nI (p + 1) ∧ p < q ∧ v < hx ∧ lo ≤ v)) := by
  have hk := rdx_k hD
  have hq := rdx_q hD
  refine MC.intro ([some (.ref (b + 15)), some (.int (nI lo)), some (.int hi), none]) (by decide) rfl rfl fun κ Qc hl hQ X => ?_
  subst hl
  subst hh
  refine AW.aload_n X dX6_readNumber_0 (i := 0) rfl rfl ?_
  refine AW.bipushN X 32 dX6_readNumber_1 rfl ?_
  by_cases he3 : enR n L p = nI 32
  · have hl3 := enR_lt (by decide) he3
    refine AW.callV X dX6_readNumber_3 lX6_35 cfX6 (ct_stands hD (by decide) he3) ox15 rfl rfl rfl rfl ⟨rfl, rfl⟩ (pI_k fun r3 μr3 hr3 => ?_)
    obtain ⟨rfl, rfl⟩ := hr3
    have hD3 := rdx_at hD (q := p + 1) (by omega)
    refine AW.if_neB X (tgt := 11) dX6_readNumber_6 (by decide) (fun h6 => ?_) (fun h6 => ?_)
    · refine AW.aload_n X dX6_readNumber_11 (i := 0) rfl rfl ?_
      refine AW.aload_n X dX6_readNumber_12 (i := 0) rfl rfl ?_
      refine AW.getI X dX6_readNumber_13 fX6_15 rfl ox15 (rdx_p hD3) ?_
      refine AW.putI X dX6_readNumber_16 fX6_18 rfl rfl ⟨rfl, rfl⟩ (by decide) ox15 ?_
      have hD16 := rdx_na (v := nI (p + 1)) hD3
      refine AW.aload_n X dX6_readNumber_19 (i := 0) rfl rfl ?_
      refine AW.aload_n X dX6_readNumber_20 (i := 0) rfl rfl ?_
      refine AW.getI X dX6_readNumber_21 fX6_15 rfl ox15 (rdx_p hD16) ?_
      refine AW.callV X dX6_readNumber_24 lX6_134 cfX6 (c_X6_isDigit hD16 (by omega)) ox15 rfl rfl rfl rfl ⟨rfl, rfl⟩ (pR_k ?_)
      refine AW.if_neB X (tgt := 40) dX6_readNumber_27 (by decide) (fun h27 => ?_) (fun h27 => ?_)
      · obtain ⟨xq, xq1, xq2, exq⟩ := dgt_of h27
        have lxq := dgt_lt h27
        have cxq := cl_n (show xq < 2147483648 by omega)
        refine AW.aload_n X dX6_readNumber_40 (i := 0) rfl rfl ?_
        refine AW.aload_n X dX6_readNumber_41 (i := 0) rfl rfl ?_
        refine AW.getI X dX6_readNumber_42 fX6_15 rfl ox15 (rdx_p hD16) ?_
        refine AW.callV X dX6_readNumber_45 lX6_102 cfX6 (c_X6_elementAt hD16 (by omega)) ox15 rfl rfl rfl rfl ⟨rfl, rfl⟩ (pR_k ?_)
        rw [exq]
        refine AW.bipushN X 48 dX6_readNumber_48 rfl ?_
        refine AW.isubN X dX6_readNumber_50 (by omega) ?_
        refine AW.istore_n X dX6_readNumber_51 (i := 3) rfl rfl ?_
        refine AW.aload_n X dX6_readNumber_52 (i := 0) rfl rfl ?_
        refine AW.dup X dX6_readNumber_53 rfl ?_
        refine AW.getI X dX6_readNumber_54 fX6_15 rfl ox15 (rdx_p hD16) ?_
        refine AW.iconstN X 1 dX6_readNumber_57 rfl ?_
        refine AW.iaddN X dX6_readNumber_58 ?_
        refine AW.putI X dX6_readNumber_59 fX6_15 rfl rfl ⟨rfl, rfl⟩ (by decide) ox15 ?_
        have hD59 := rdx_at hD16 (q := (p + 1 + 1)) (by omega)
        refine AW.aload_n X dX6_readNumber_62 (i := 0) rfl rfl ?_
        refine AW.aload_n X dX6_readNumber_63 (i := 0) rfl rfl ?_
        refine AW.getI X dX6_readNumber_64 fX6_15 rfl ox15 (rdx_p hD59) ?_
        refine AW.callV X dX6_readNumber_67 lX6_134 cfX6 (c_X6_isDigit hD59 (by omega)) ox15 rfl rfl rfl rfl ⟨rfl, rfl⟩ (pR_k ?_)
        refine AW.if_eqB X (tgt := 100) dX6_readNumber_70 (by decide) (fun h70 => ?_) (fun h70 => ?_)
        · refine AW.iload_n X dX6_readNumber_100 (i := 3) rfl rfl ?_
          refine AW.iload_n X dX6_readNumber_101 (i := 1) rfl rfl ?_
          refine AW.icmp_ltN X (tgt := 110) dX6_readNumber_102 (by decide) (by omega) (by omega) (fun h102 => ?_) (fun h102 => ?_)
          · have n102 := Nat.not_le_of_lt h102
            refine AW.aload_n X dX6_readNumber_110 (i := 0) rfl rfl ?_
            refine AW.aload_n X dX6_readNumber_111 (i := 0) rfl rfl ?_
            refine AW.getI X dX6_readNumber_112 fX6_18 rfl ox15 (show (wI (wI (wI μ 15 3 (nI (p + 1))) 15 4 (nI (p + 1))) 15 3 (nI ((p + 1) + 1))).1 15 4 = nI (p + 1) by simp [wI]) ?_
            refine AW.putI X dX6_readNumber_115 fX6_21 rfl rfl ⟨rfl, rfl⟩ (by decide) ox15 ?_
            refine AW.iconst X (v := -1) dX6_readNumber_118 rfl ?_
            refine AW.iret X hQ dX6_readNumber_119 ⟨_, rfl, ?_⟩
            have e : rdN (enR n L) lo hx p = .inl (p + 1) := by rw [rdN, if_pos he3, if_pos h27, if_neg (by rw [h70]; decide), exq, cxq, if_neg (by omega)]
            exact ⟨fun k2 hk2 => by rw [e] at hk2; cases hk2; exact ⟨rfl, (((s15.tr s15).tr s15).tr s15), by simp [wI], by omega⟩, fun v q hq2 => by rw [e] at hq2; cases hq2⟩
          · have n102 := Nat.not_lt_of_le h102
            refine AW.iload_n X dX6_readNumber_105 (i := 3) rfl rfl ?_
            refine AW.iload_n X dX6_readNumber_106 (i := 2) rfl rfl ?_
            refine AW.icmp_le X (tgt := 120) dX6_readNumber_107 (by decide) (fun h107 => ?_) (fun h107 => ?_)
            · replace h107 := Int32.not_lt.mpr h107
              have hn3 := (dn_ge (by omega) (by omega)).mp (Int32.not_lt.mp h107)
              refine AW.iload_n X dX6_readNumber_120 (i := 3) rfl rfl ?_
              refine AW.iret X hQ dX6_readNumber_121 ⟨_, rfl, ?_⟩
              have e : rdN (enR n L) lo hx p = .inr ((xq - 48), (p + 1 + 1)) := by rw [rdN, if_pos he3, if_pos h27, if_neg (by rw [h70]; decide), exq, cxq, if_pos (by omega)]
              exact ⟨fun k2 hk2 => (by rw [e] at hk2; cases hk2), fun v q hq2 => by rw [e] at hq2; cases hq2; exact ⟨rfl, ((s15.tr s15).tr s15), hD59, by simp [wI], by omega, by omega, by omega⟩⟩
            · replace h107 := Int32.not_le.mp h107
              have hn3 := (dn_lt (by omega) (by omega)).mp h107
              refine AW.aload_n X dX6_readNumber_110 (i := 0) rfl rfl ?_
              refine AW.aload_n X dX6_readNumber_111 (i := 0) rfl rfl ?_
              refine AW.getI X dX6_readNumber_112 fX6_18 rfl ox15 (show (wI (wI (wI μ 15 3 (nI (p + 1))) 15 4 (nI (p + 1))) 15 3 (nI ((p + 1) + 1))).1 15 4 = nI (p + 1) by simp [wI]) ?_
              refine AW.putI X dX6_readNumber_115 fX6_21 rfl rfl ⟨rfl, rfl⟩ (by decide) ox15 ?_
              refine AW.iconst X (v := -1) dX6_readNumber_118 rfl ?_
              refine AW.iret X hQ dX6_readNumber_119 ⟨_, rfl, ?_⟩
              have e : rdN (enR n L) lo hx p = .inl (p + 1) := by rw [rdN, if_pos he3, if_pos h27, if_neg (by rw [h70]; decide), exq, cxq, if_neg (by omega)]
              exact ⟨fun k2 hk2 => by rw [e] at hk2; cases hk2; exact ⟨rfl, (((s15.tr s15).tr s15).tr s15), by simp [wI], by omega⟩, fun v q hq2 => by rw [e] at hq2; cases hq2⟩
        · obtain ⟨yq, yq1, yq2, eyq⟩ := dgt_of h70
          have lyq := dgt_lt h70
          have cyq := cl_n (show yq < 2147483648 by omega)
          refine AW.bipushN X 10 dX6_readNumber_73 rfl ?_
          refine AW.iload_n X dX6_readNumber_75 (i := 3) rfl rfl ?_
          refine AW.imulN X dX6_readNumber_76 ?_
          refine AW.aload_n X dX6_readNumber_77 (i := 0) rfl rfl ?_
          refine AW.aload_n X dX6_readNumber_78 (i := 0) rfl rfl ?_
          refine AW.getI X dX6_readNumber_79 fX6_15 rfl ox15 (rdx_p hD59) ?_
          refine AW.callV X dX6_readNumber_82 lX6_102 cfX6 (c_X6_elementAt hD59 (by omega)) ox15 rfl rfl rfl rfl ⟨rfl, rfl⟩ (pR_k ?_)
          rw [eyq]
          refine AW.iaddN X dX6_readNumber_85 ?_
          refine AW.bipushN X 48 dX6_readNumber_86 rfl ?_
          refine AW.isubN X dX6_readNumber_88 (by omega) ?_
          refine AW.istore_n X dX6_readNumber_89 (i := 3) rfl rfl ?_
          refine AW.aload_n X dX6_readNumber_90 (i := 0) rfl rfl ?_
          refine AW.dup X dX6_readNumber_91 rfl ?_
          refine AW.getI X dX6_readNumber_92 fX6_15 rfl ox15 (rdx_p hD59) ?_
          refine AW.iconstN X 1 dX6_readNumber_95 rfl ?_
          refine AW.iaddN X dX6_readNumber_96 ?_
          refine AW.putI X dX6_readNumber_97 fX6_15 rfl rfl ⟨rfl, rfl⟩ (by decide) ox15 ?_
          have hD97 := rdx_at hD59 (q := (p + 1 + 1 + 1)) (by omega)
          refine AW.iload_n X dX6_readNumber_100 (i := 3) rfl rfl ?_
          refine AW.iload_n X dX6_readNumber_101 (i := 1) rfl rfl ?_
          refine AW.icmp_ltN X (tgt := 110) dX6_readNumber_102 (by decide) (by omega) (by omega) (fun h102 => ?_) (fun h102 => ?_)
          · have n102 := Nat.not_le_of_lt h102
            refine AW.aload_n X dX6_readNumber_110 (i := 0) rfl rfl ?_
            refine AW.aload_n X dX6_readNumber_111 (i := 0) rfl rfl ?_
            refine AW.getI X dX6_readNumber_112 fX6_18 rfl ox15 (show (wI (wI (wI (wI μ 15 3 (nI (p + 1))) 15 4 (nI (p + 1))) 15 3 (nI ((p + 1) + 1))) 15 3 (nI ((p + 1 + 1) + 1))).1 15 4 = nI (p + 1) by simp [wI]) ?_
            refine AW.putI X dX6_readNumber_115 fX6_21 rfl rfl ⟨rfl, rfl⟩ (by decide) ox15 ?_
            refine AW.iconst X (v := -1) dX6_readNumber_118 rfl ?_
            refine AW.iret X hQ dX6_readNumber_119 ⟨_, rfl, ?_⟩
            have e : rdN (enR n L) lo hx p = .inl (p + 1) := by rw [rdN, if_pos he3, if_pos h27, if_pos h70, exq, eyq, cxq, cyq, if_neg (by omega)]
            exact ⟨fun k2 hk2 => by rw [e] at hk2; cases hk2; exact ⟨rfl, ((((s15.tr s15).tr s15).tr s15).tr s15), by simp [wI], by omega⟩, fun v q hq2 => by rw [e] at hq2; cases hq2⟩
          · have n102 := Nat.not_lt_of_le h102
            refine AW.iload_n X dX6_readNumber_105 (i := 3) rfl rfl ?_
            refine AW.iload_n X dX6_readNumber_106 (i := 2) rfl rfl ?_
            refine AW.icmp_le X (tgt := 120) dX6_readNumber_107 (by decide) (fun h107 => ?_) (fun h107 => ?_)
            · replace h107 := Int32.not_lt.mpr h107
              have hn3 := (dn_ge (by omega) (by omega)).mp (Int32.not_lt.mp h107)
              refine AW.iload_n X dX6_readNumber_120 (i := 3) rfl rfl ?_
              refine AW.iret X hQ dX6_readNumber_121 ⟨_, rfl, ?_⟩
              have e : rdN (enR n L) lo hx p = .inr ((((10 * (xq - 48)) + yq) - 48), (p + 1 + 1 + 1)) := by rw [rdN, if_pos he3, if_pos h27, if_pos h70, exq, eyq, cxq, cyq, if_pos (by omega)]
              exact ⟨fun k2 hk2 => (by rw [e] at hk2; cases hk2), fun v q hq2 => by rw [e] at hq2; cases hq2; exact ⟨rfl, (((s15.tr s15).tr s15).tr s15), hD97, by simp [wI], by omega, by omega, by omega⟩⟩
            · replace h107 := Int32.not_le.mp h107
              have hn3 := (dn_lt (by omega) (by omega)).mp h107
              refine AW.aload_n X dX6_readNumber_110 (i := 0) rfl rfl ?_
              refine AW.aload_n X dX6_readNumber_111 (i := 0) rfl rfl ?_
              refine AW.getI X dX6_readNumber_112 fX6_18 rfl ox15 (show (wI (wI (wI (wI μ 15 3 (nI (p + 1))) 15 4 (nI (p + 1))) 15 3 (nI ((p + 1) + 1))) 15 3 (nI ((p + 1 + 1) + 1))).1 15 4 = nI (p + 1) by simp [wI]) ?_
              refine AW.putI X dX6_readNumber_115 fX6_21 rfl rfl ⟨rfl, rfl⟩ (by decide) ox15 ?_
              refine AW.iconst X (v := -1) dX6_readNumber_118 rfl ?_
              refine AW.iret X hQ dX6_readNumber_119 ⟨_, rfl, ?_⟩
              have e : rdN (enR n L) lo hx p = .inl (p + 1) := by rw [rdN, if_pos he3, if_pos h27, if_pos h70, exq, eyq, cxq, cyq, if_neg (by omega)]
              exact ⟨fun k2 hk2 => by rw [e] at hk2; cases hk2; exact ⟨rfl, ((((s15.tr s15).tr s15).tr s15).tr s15), by simp [wI], by omega⟩, fun v q hq2 => by rw [e] at hq2; cases hq2⟩
      · refine AW.aload_n X dX6_readNumber_30 (i := 0) rfl rfl ?_
        refine AW.aload_n X dX6_readNumber_31 (i := 0) rfl rfl ?_
        refine AW.getI X dX6_readNumber_32 fX6_15 rfl ox15 (rdx_p hD16) ?_
        refine AW.putI X dX6_readNumber_35 fX6_21 rfl rfl ⟨rfl, rfl⟩ (by decide) ox15 ?_
        refine AW.iconst X (v := -1) dX6_readNumber_38 rfl ?_
        refine AW.iret X hQ dX6_readNumber_39 ⟨_, rfl, ?_⟩
        have e : rdN (enR n L) lo hx p = .inl (p + 1) := by rw [rdN, if_pos he3, if_neg (by rw [h27]; decide)]
        exact ⟨fun k2 hk2 => by rw [e] at hk2; cases hk2; exact ⟨rfl, ((s15.tr s15).tr s15), by simp [wI], by omega⟩, fun v q hq2 => by rw [e] at hq2; cases hq2⟩
    · exact absurd h6 (by decide)
  · refine AW.callV X dX6_readNumber_3 lX6_35 cfX6 (cf_stands hD (by decide) he3) ox15 rfl rfl rfl rfl ⟨rfl, rfl⟩ (pI_k fun r3 μr3 hr3 => ?_)
    obtain ⟨rfl, rfl⟩ := hr3
    refine AW.if_neB X (tgt := 11) dX6_readNumber_6 (by decide) (fun h6 => ?_) (fun h6 => ?_)
    · exact absurd h6 (by decide)
    · refine AW.iconst X (v := -1) dX6_readNumber_9 rfl ?_
      refine AW.iret X hQ dX6_readNumber_10 ⟨_, rfl, ?_⟩
      have e : rdN (enR n L) lo hx p = .inl (p) := by rw [rdN, if_neg he3]
      exact ⟨fun k2 hk2 => by rw [e] at hk2; cases hk2; exact ⟨rfl, s15, by simp [wI], by omega⟩, fun v q hq2 => by rw [e] at hq2; cases hq2⟩
set_option maxRecDepth 100000 in
set_option maxHeartbeats 4000000 in
theorem cb_readNumber {l : Launch} {δ : Dl} {b : Nat} {μ : Mm} (W : WX μ.2.2) {k : Nat} (hf : μ.1 15 5 = nI k) (hk9 : k < 100000) {lo hi : Int32} : MCX l δ b yX6_readNumber cX6_readNumber 4 (some .int) 3 [.ref (b + 15), .int lo, .int hi] μ (pI fun r μ' => r = -1 ∧ μ' = μ) := by
  refine MC.intro ([some (.ref (b + 15)), some (.int lo), some (.int hi), none]) (by decide) rfl rfl fun κ Qc hl hQ X => ?_
  subst hl
  refine AW.aload_n X dX6_readNumber_0 (i := 0) rfl rfl ?_
  refine AW.bipushN X 32 dX6_readNumber_1 rfl ?_
  refine AW.callV X dX6_readNumber_3 lX6_35 cfX6 (cb_stands W hf (by omega)) ox15 rfl rfl rfl rfl ⟨rfl, rfl⟩ (pR_k ?_)
  refine AW.if_neB X (tgt := 11) dX6_readNumber_6 (by decide) (fun h6 => ?_) (fun h6 => ?_)
  · exact absurd h6 (by decide)
  · refine AW.iconst X (v := -1) dX6_readNumber_9 rfl ?_
    refine AW.iret X hQ dX6_readNumber_10 ⟨_, rfl, ?_⟩
    exact ⟨rfl, rfl⟩
set_option maxRecDepth 100000 in
set_option maxHeartbeats 4000000 in
theorem c_X6_word {l : Launch} {δ : Dl} {b : Nat} {μ : Mm} {w : Nat} (hw : w < 6) : MCX l δ b yX6_word cX6_word 1 (some (.object "java/lang/String")) 1 [.int (nI w)] μ (pA fun r μ' => r = δ.2.2.1 w ∧ μ' = μ) := by
  refine MC.intro ([some (.int (nI w))]) (by decide) rfl rfl fun κ Qc hl hQ X => ?_
  subst hl
  refine AW.iload_n X dX6_word_0 (i := 0) rfl rfl ?_
  have hsw : w = 0 ∨ w = 1 ∨ w = 2 ∨ w = 3 ∨ w = 4 ∨ w = 5 := by omega
  rcases hsw with rfl | rfl | rfl | rfl | rfl | rfl
  · refine AW.tableIn X (tgt := 36) dX6_word_1 (by decide) (by decide) rfl (by decide) ?_
    refine AW.ldcS X (i := 0) dX6_word_36 rfl ?_
    exact AW.aret X hQ dX6_word_38 ⟨_, rfl, rfl, rfl⟩
  · refine AW.tableIn X (tgt := 39) dX6_word_1 (by decide) (by decide) rfl (by decide) ?_
    refine AW.ldcS X (i := 1) dX6_word_39 rfl ?_
    exact AW.aret X hQ dX6_word_41 ⟨_, rfl, rfl, rfl⟩
  · refine AW.tableIn X (tgt := 42) dX6_word_1 (by decide) (by decide) rfl (by decide) ?_
    refine AW.ldcS X (i := 2) dX6_word_42 rfl ?_
    exact AW.aret X hQ dX6_word_44 ⟨_, rfl, rfl, rfl⟩
  · refine AW.tableIn X (tgt := 45) dX6_word_1 (by decide) (by decide) rfl (by decide) ?_
    refine AW.ldcS X (i := 3) dX6_word_45 rfl ?_
    exact AW.aret X hQ dX6_word_47 ⟨_, rfl, rfl, rfl⟩
  · refine AW.tableIn X (tgt := 48) dX6_word_1 (by decide) (by decide) rfl (by decide) ?_
    refine AW.ldcS X (i := 4) dX6_word_48 rfl ?_
    exact AW.aret X hQ dX6_word_50 ⟨_, rfl, rfl, rfl⟩
  · refine AW.tableOut X (tgt := 51) dX6_word_1 (by decide) (by decide) ?_
    refine AW.ldcS X (i := 5) dX6_word_51 rfl ?_
    exact AW.aret X hQ dX6_word_53 ⟨_, rfl, rfl, rfl⟩
set_option maxRecDepth 100000 in
set_option maxHeartbeats 4000000 in
theorem c_X6_sameLetters {l : Launch} {δ : Dl} {b : Nat} {μ : Mm} {Bd s n p : Nat} {L : Nat → Int64} (hD : RDX μ Bd s n p L) {i : Nat} (hi : i < 6) : MCX l δ b yX6_sameLetters cX6_sameLetters 3 (some .int) 6 [.ref (b + 15), .ref (δ.2.2.1 i)] μ (pI fun r μ' => r = nI (smL (enR n L) i p) ∧ μ' = μ) := by
  have hk := rdx_k hD
  have hq := rdx_q hD
  have h8 := slen_lt i (by omega)
  refine MC.intro ([some (.ref (b + 15)), some (.ref (δ.2.2.1 i)), none]) (by decide) rfl rfl fun κ Qc hl hQ X => ?_
  subst hl
  refine AW.iconstN X 0 dX6_sameLetters_0 rfl ?_
  refine AW.istore_n X dX6_sameLetters_1 (i := 2) rfl rfl ?_
  have L2 : ∀ (m2 jx : Nat), slen i - jx < m2 → jx ≤ slen i → (fstUp (fun j => !decide (enR n L (p + j) = nI (sch i j))) (slen i) 0 = fstUp (fun j => !decide (enR n L (p + j) = nI (sch i j))) (slen i - jx) jx) → AW κ (δ, b, NX, 3, shX, False, Qc, 0, 0) NX 0 0 2 [some (.ref (b + 15)), some (.ref (δ.2.2.1 i)), some (.int (nI jx))] [] μ := by
    intro m2
    induction m2 with
    | zero => intro jx hm; exact absurd hm (Nat.not_lt_zero _)
    | succ m2 ih2 =>
      intro jx hm2 hi2 hr9
      refine AW.iload_n X dX6_sameLetters_2 (i := 2) rfl rfl ?_
      refine AW.aload_n X dX6_sameLetters_3 (i := 1) rfl rfl ?_
      refine AW.callVS X (show i < 12 by omega) dX6_sameLetters_4 lX6_92 (c_J0_length_8abf5 (by omega)) rfl rfl rfl rfl ⟨rfl, rfl⟩ (pR_k ?_)
      refine AW.icmp_geN X (tgt := 36) dX6_sameLetters_7 (by decide) (by omega) (by omega) (fun h7 => ?_) (fun h7 => ?_)
      · obtain rfl : slen i = jx := by omega
        rw [fstUp_0 (by omega)] at hr9
        have n7 := Nat.not_lt_of_le h7
        refine AW.aload_n X dX6_sameLetters_36 (i := 1) rfl rfl ?_
        refine AW.callVS X (show i < 12 by omega) dX6_sameLetters_37 lX6_92 (c_J0_length_8abf5 (by omega)) rfl rfl rfl rfl ⟨rfl, rfl⟩ (pR_k ?_)
        refine AW.iret X hQ dX6_sameLetters_40 ⟨_, rfl, ?_⟩
        exact ⟨by rw [smL, hr9], rfl⟩
      · have n7 := Nat.not_le_of_lt h7
        refine AW.aload_n X dX6_sameLetters_10 (i := 0) rfl rfl ?_
        refine AW.aload_n X dX6_sameLetters_11 (i := 0) rfl rfl ?_
        refine AW.getI X dX6_sameLetters_12 fX6_15 rfl ox15 (rdx_p hD) ?_
        refine AW.iload_n X dX6_sameLetters_15 (i := 2) rfl rfl ?_
        refine AW.iaddN X dX6_sameLetters_16 ?_
        refine AW.callV X dX6_sameLetters_17 lX6_102 cfX6 (c_X6_elementAt hD (by omega)) ox15 rfl rfl rfl rfl ⟨rfl, rfl⟩ (pR_k ?_)
        refine AW.aload_n X dX6_sameLetters_20 (i := 1) rfl rfl ?_
        refine AW.iload_n X dX6_sameLetters_21 (i := 2) rfl rfl ?_
        refine AW.callVS X (show i < 12 by omega) dX6_sameLetters_22 lX6_105 (c_J0_charAt_5068e (j := jx) (by omega) (by omega)) rfl rfl rfl rfl ⟨rfl, rfl⟩ (pR_k ?_)
        refine AW.icmp_eq X (tgt := 30) dX6_sameLetters_25 (by decide) (fun h25 => ?_) (fun h25 => ?_)
        · rw [fstUp_f (p := fun j => !decide (enR n L (p + j) = nI (sch i j))) (by omega) (by simp [h25])] at hr9
          refine AW.iincN X (c := (jx + 1)) dX6_sameLetters_30 rfl (inc_1 _) rfl ?_
          refine AW.goto X (tgt := 2) dX6_sameLetters_33 (by decide) ?_
          refine AW.cgw (ih2 (jx + 1) (by omega) (by omega) hr9) ⟨rfl, rfl, rfl, trivial⟩
        · rw [fstUp_t (p := fun j => !decide (enR n L (p + j) = nI (sch i j))) (by omega) (by simp [h25])] at hr9
          refine AW.iload_n X dX6_sameLetters_28 (i := 2) rfl rfl ?_
          refine AW.iret X hQ dX6_sameLetters_29 ⟨_, rfl, ?_⟩
          exact ⟨by rw [smL, hr9], rfl⟩
  refine AW.cgw (L2 _ 0 (Nat.lt_succ_self _) (by omega) rfl) ⟨rfl, rfl, rfl, trivial⟩
theorem slen_pos : ∀ i, i < 12 → 0 < slen i := by decide +kernel
theorem sch_lt : ∀ i, i < 12 → ∀ j, j < slen i → sch i j < 1000 := by decide +kernel
/-- where a whole text stands, the letters reach that far -/
theorem smL_in {n p i : Nat} {L : Nat → Int64} (hi : i < 12) (h : smL (enR n L) i p = slen i) : p + slen i ≤ n := by
  have hp := slen_pos i hi
  have h8 := slen_lt i hi
  have key : fstUp (fun j => !decide (enR n L (p + j) = nI (sch i j))) (slen i) 0 = none := by
    unfold smL at h
    split at h
    · assumption
    · rename_i j hj
      have := fstUp_s hj
      omega
  have := fstUp_none key (slen i - 1) (by omega) (by omega)
  have h2 := enR_lt (n := n) (p := p + (slen i - 1)) (c := sch i (slen i - 1)) (L := L) (sch_lt i hi _ (by omega)) (by simpa using this)
  omega
set_option maxRecDepth 100000 in
set_option maxHeartbeats 4000000 in
theorem c_X6_readWord {l : Launch} {δ : Dl} {b : Nat} {μ : Mm} {Bd s n p : Nat} {L : Nat → Int64} (hD : RDX μ Bd s n p L)  : MCX l δ b yX6_readWord cX6_readWord 4 (some .int) 7 [.ref (b + 15)] μ (pI fun r μ' => (∀ k, rdW (enR n L) p = .inl k → r = -1 ∧ μ' = wI μ 15 5 (nI k) ∧ k < 1000) ∧ (∀ w q, rdW (enR n L) p = .inr (w, q) → r = nI w ∧ μ' = wI μ 15 3 (nI q) ∧ w < 6 ∧ p < q ∧ q ≤ n)) := by
  have hk := rdx_k hD
  have hq := rdx_q hD
  refine MC.intro ([some (.ref (b + 15)), none, none, none]) (by decide) rfl rfl fun κ Qc hl hQ X => ?_
  subst hl
  refine AW.iconstN X 0 dX6_readWord_0 rfl ?_
  refine AW.istore_n X dX6_readWord_1 (i := 1) rfl rfl ?_
  refine AW.iconstN X 0 dX6_readWord_2 rfl ?_
  refine AW.istore_n X dX6_readWord_3 (i := 2) rfl rfl ?_
  have L4 : ∀ (m4 ix : Nat), 6 - ix < m4 → ix ≤ 6 → (fstUp (isW (enR n L) p) 6 0 = fstUp (isW (enR n L) p) (6 - ix) ix) → AW κ (δ, b, NX, 4, shX, False, Qc, 0, 0) NX 0 0 4 [some (.ref (b + 15)), some (.int (nI (furT (enR n L) p ix))), some (.int (nI ix)), none] [] μ := by
    intro m4
    induction m4 with
    | zero => intro ix hm; exact absurd hm (Nat.not_lt_zero _)
    | succ m4 ih4 =>
      intro ix hm4 hi4 hr9
      have hfu := furT_le (enR n L) p ix (by omega)
      refine AW.iload_n X dX6_readWord_4 (i := 2) rfl rfl ?_
      refine AW.bipushN X 6 dX6_readWord_5 rfl ?_
      refine AW.icmp_geN X (tgt := 54) dX6_readWord_7 (by decide) (by omega) (by omega) (fun h7 => ?_) (fun h7 => ?_)
      · obtain rfl : 6 = ix := by omega
        rw [fstUp_0 (by omega)] at hr9
        have n7 := Nat.not_lt_of_le h7
        refine AW.aload_n X dX6_readWord_54 (i := 0) rfl rfl ?_
        refine AW.aload_n X dX6_readWord_55 (i := 0) rfl rfl ?_
        refine AW.getI X dX6_readWord_56 fX6_15 rfl ox15 (rdx_p hD) ?_
        refine AW.iload_n X dX6_readWord_59 (i := 1) rfl rfl ?_
        refine AW.iaddN X dX6_readWord_60 ?_
        refine AW.putI X dX6_readWord_61 fX6_21 rfl rfl ⟨rfl, rfl⟩ (by decide) ox15 ?_
        refine AW.iconst X (v := -1) dX6_readWord_64 rfl ?_
        refine AW.iret X hQ dX6_readWord_65 ⟨_, rfl, ?_⟩
        have e : rdW (enR n L) p = .inl (p + furT (enR n L) p 6) := by rw [rdW, hr9]
        exact ⟨fun k2 hk2 => by rw [e] at hk2; cases hk2; exact ⟨rfl, rfl, by omega⟩, fun v q hq2 => by rw [e] at hq2; cases hq2⟩
      · have n7 := Nat.not_le_of_lt h7
        refine AW.aload_n X dX6_readWord_10 (i := 0) rfl rfl ?_
        refine AW.iload_n X dX6_readWord_11 (i := 2) rfl rfl ?_
        refine AW.callS X dX6_readWord_12 lX6_84 (c_X6_word (w := ix) (by omega)) rfl rfl rfl rfl ⟨rfl, rfl⟩ (pA_k fun rs12 ms12 hs12 => ?_)
        obtain ⟨rfl, rfl⟩ := hs12
        refine AW.callV X dX6_readWord_15 lX6_88 cfX6 (c_X6_sameLetters hD (by omega)) ox15 rfl rfl rfl rfl ⟨rfl, rfl⟩ (pR_k ?_)
        have hsm := smL_le (enR n L) ix p
        have h8 := slen_lt ix (by omega)
        refine AW.istore_n X dX6_readWord_18 (i := 3) rfl rfl ?_
        refine AW.iload_n X dX6_readWord_19 (i := 3) rfl rfl ?_
        refine AW.iload_n X dX6_readWord_20 (i := 2) rfl rfl ?_
        refine AW.callS X dX6_readWord_21 lX6_84 (c_X6_word (w := ix) (by omega)) rfl rfl rfl rfl ⟨rfl, rfl⟩ (pA_k fun rs21 ms21 hs21 => ?_)
        obtain ⟨rfl, rfl⟩ := hs21
        refine AW.callVS X (show ix < 12 by omega) dX6_readWord_24 lX6_92 (c_J0_length_8abf5 (by omega)) rfl rfl rfl rfl ⟨rfl, rfl⟩ (pR_k ?_)
        refine AW.icmp_neN X (tgt := 42) dX6_readWord_27 (by decide) (by omega) (by omega) (fun h27 => ?_) (fun h27 => ?_)
        · rw [fstUp_f (p := isW (enR n L) p) (by omega) (by simp [isW, h27])] at hr9
          refine AW.iload_n X dX6_readWord_42 (i := 1) rfl rfl ?_
          refine AW.iload_n X dX6_readWord_43 (i := 3) rfl rfl ?_
          refine AW.maxN X dX6_readWord_44 (by omega) (by omega) lX6_max (by decide) ?_
          refine AW.istore_n X dX6_readWord_47 (i := 1) rfl rfl ?_
          refine AW.iincN X (c := (ix + 1)) dX6_readWord_48 rfl (inc_1 _) rfl ?_
          refine AW.goto X (tgt := 4) dX6_readWord_51 (by decide) ?_
          refine AW.cgw (ih4 (ix + 1) (by omega) (by omega) hr9) ⟨rfl, ?_, rfl, trivial⟩
          · simp [furT]
        · have hin := smL_in (by omega) h27
          have hps := slen_pos ix (by omega)
          rw [fstUp_t (p := isW (enR n L) p) (by omega) (by simp [isW, h27])] at hr9
          refine AW.aload_n X dX6_readWord_30 (i := 0) rfl rfl ?_
          refine AW.dup X dX6_readWord_31 rfl ?_
          refine AW.getI X dX6_readWord_32 fX6_15 rfl ox15 (rdx_p hD) ?_
          refine AW.iload_n X dX6_readWord_35 (i := 3) rfl rfl ?_
          refine AW.iaddN X dX6_readWord_36 ?_
          refine AW.putI X dX6_readWord_37 fX6_15 rfl rfl ⟨rfl, rfl⟩ (by decide) ox15 ?_
          refine AW.iload_n X dX6_readWord_40 (i := 2) rfl rfl ?_
          refine AW.iret X hQ dX6_readWord_41 ⟨_, rfl, ?_⟩
          have e : rdW (enR n L) p = .inr (ix, p + slen ix) := by rw [rdW, hr9]
          rw [h27]
          exact ⟨fun k2 hk2 => (by rw [e] at hk2; cases hk2), fun v q hq2 => by rw [e] at hq2; cases hq2; exact ⟨rfl, rfl, by omega, by omega, by omega⟩⟩
  refine AW.cgw (L4 _ 0 (Nat.lt_succ_self _) (by omega) rfl) ⟨rfl, ?_, rfl, trivial⟩
  · simp [furT]
