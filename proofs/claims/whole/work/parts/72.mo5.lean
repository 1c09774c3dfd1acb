/-! changes of the reference's towns -/
def HPl (h q k : Nat) : Prop := ((q = 4 ∨ q = 5 ∨ q = 6) ∧ k = h) ∨ (7 ≤ q ∧ q ≤ 11 ∧ 8 * h ≤ k ∧ k < 8 * h + 8) ∨ (q = 12 ∧ 12 * h ≤ k ∧ k < 12 * h + 12)
theorem hpl_t {h q k : Nat} (z : HPl h q k) : TPl q k := by unfold HPl at z; unfold TPl; omega
theorem hmx_same {P : Nat → Nat → Prop} {μ μ' : Mm} {h : Nat} {V : Vt} (q : HMX μ h V) (hs : SmM P μ μ') (hP : ∀ o k, HPl h o k → ¬ P o k) : HMX μ' h V := by
  have e : ∀ o k, HPl h o k → μ'.1 o k = μ.1 o k := fun o k z => hs.2 o k (hP o k z)
  have hn := hi_n q.1
  refine ⟨q.1, ?_, fun c hc => ?_, fun k hk => ?_⟩
  · rw [e 4 h (Or.inl ⟨by omega, rfl⟩), e 5 h (Or.inl ⟨by omega, rfl⟩), e 6 h (Or.inl ⟨by omega, rfl⟩)]; exact q.2.1
  · have z : ∀ o, 7 ≤ o → o ≤ 11 → HPl h o (8 * h + c) := fun o a b => Or.inr (Or.inl ⟨a, b, by omega, by omega⟩)
    rw [e 7 _ (z 7 (by decide) (by decide)), e 8 _ (z 8 (by decide) (by decide)), e 9 _ (z 9 (by decide) (by decide)), e 10 _ (z 10 (by decide) (by decide)), e 11 _ (z 11 (by decide) (by decide))]
    exact q.2.2.1 c hc
  · rw [e 12 _ (Or.inr (Or.inr ⟨rfl, by omega, by omega⟩))]; exact q.2.2.2 k hk
theorem tmx_up {μ μ' : Mm} {τ : Tt} {h : Nat} {V : Vt} (q : TMX μ τ) (hh : h < 6) (hs : SmM (HPl h) μ μ') (hV : HMX μ' h V) : TMX μ' (upH τ h V) := by
  have e0 : ∀ k, μ'.1 0 k = μ.1 0 k := fun k => hs.2 0 k (fun z => by unfold HPl at z; omega)
  have e1 : ∀ o k, 13 ≤ o → μ'.1 o k = μ.1 o k := fun o k a => hs.2 o k (fun z => by unfold HPl at z; omega)
  refine ⟨ti_upH q.1 hh hV.1, ?_, fun c hc => ?_, fun i hi => ?_⟩
  · rw [e0, e0, e0, e0, e0, e0, upH_6 hh]; exact q.2.1
  · rw [e1 13 c (by decide), e1 14 c (by decide), upH_6 hh]; exact q.2.2.1 c hc
  · rw [upH_6 hh] at hi
    by_cases z : i = h
    · subst z; rw [upH, if_pos rfl]; exact hV
    · rw [upH, if_neg z]
      exact hmx_same (q.2.2.2 i hi) hs (fun o k a c => by unfold HPl at a c; omega)
theorem tmx_num {μ : Mm} {τ : Tt} (q : TMX μ τ) (i x : Nat) (hi : 3 ≤ i) (hi5 : i ≤ 5) : TMX (wI μ 0 (i + 14) (nI x)) (upS τ 0 i x) := by
  have e : ∀ k', k' ≠ i → upS τ 0 i x 6 0 k' = τ 6 0 k' := fun k' h => by rw [upS_6, if_neg (fun z => h z.2)]
  have e1 : upS τ 0 i x 6 0 i = x := by rw [upS_6, if_pos ⟨rfl, rfl⟩]
  have e2 : ∀ j k', j ≠ 0 → upS τ 0 i x 6 j k' = τ 6 j k' := fun j k' h => by rw [upS_6, if_neg (fun z => h z.1)]
  have hw : ∀ k', k' ≠ i + 14 → (wI μ 0 (i + 14) (nI x)).1 0 k' = μ.1 0 k' := fun k' h => by simp [wI, h]
  have hw1 : (wI μ 0 (i + 14) (nI x)).1 0 (i + 14) = nI x := by simp [wI]
  have sm : SmM (fun o _ => o = 0) μ (wI μ 0 (i + 14) (nI x)) := SmM.w rfl
  refine ⟨ti_upS q.1 hi, ⟨?_, ?_, ?_, ?_, ?_, ?_⟩, fun c hc => ?_, fun h hh => ?_⟩
  · rw [e 0 (by omega), hw 3 (by omega)]; exact q.2.1.1
  · rw [e 1 (by omega), hw 15 (by omega)]; exact q.2.1.2.1
  · rw [e 2 (by omega), hw 16 (by omega)]; exact q.2.1.2.2.1
  · by_cases z : i = 3
    · subst z; rw [e1]; exact hw1
    · rw [e 3 (by omega), hw 17 (by omega)]; exact q.2.1.2.2.2.1
  · by_cases z : i = 4
    · subst z; rw [e1]; exact hw1
    · rw [e 4 (by omega), hw 18 (by omega)]; exact q.2.1.2.2.2.2.1
  · by_cases z : i = 5
    · subst z; rw [e1]; exact hw1
    · rw [e 5 (by omega), hw 19 (by omega)]; exact q.2.1.2.2.2.2.2
  · rw [e2 1 c (by decide), e2 2 c (by decide), sm.2 13 c (show ¬ (13 : Nat) = 0 by decide), sm.2 14 c (show ¬ (14 : Nat) = 0 by decide)]; exact q.2.2.1 c hc
  · rw [e 0 (by omega)] at hh
    have := q.1.1
    rw [upS_n (by omega)]
    exact hmx_same (q.2.2.2 h hh) sm (fun o k a c => by unfold HPl at a; omega)
theorem num_tp {μ : Mm} {i x : Nat} (hi : 1 ≤ i) (hi5 : i ≤ 5) : SmM TPl μ (wI μ 0 (i + 14) (nI x)) := SmM.w (Or.inr ⟨rfl, Or.inr ⟨by omega, by omega⟩⟩)
/-- a front is made bare: coats none, nothing gone -/
def bareM (μ : Mm) (h i : Nat) : Mm := (fun q k => if q = 6 ∧ k = h then nI 0 else if q = 12 ∧ 12 * h ≤ k ∧ k < 12 * h + i then nI 0 else μ.1 q k, μ.2)
theorem bare_0 (μ : Mm) (h : Nat) : wI μ 6 h (nI 0) = bareM μ h 0 := by
  refine Prod.ext (funext fun q => funext fun k => ?_) rfl
  simp only [wI, bareM]
  by_cases a : q = 6 ∧ k = h
  · simp [a]
  · rw [if_neg a, if_neg a, if_neg (by omega)]
theorem bare_s (μ : Mm) (h i : Nat) : wI (bareM μ h i) 12 (12 * h + i) (nI 0) = bareM μ h (i + 1) := by
  refine Prod.ext (funext fun q => funext fun k => ?_) rfl
  simp only [wI, bareM]
  by_cases a : q = 12 ∧ k = 12 * h + i
  · obtain ⟨rfl, rfl⟩ := a
    simp
  · rw [if_neg a]
    by_cases b : q = 6 ∧ k = h
    · rw [if_pos b, if_pos b]
    · rw [if_neg b, if_neg b]
      by_cases c : q = 12 ∧ 12 * h ≤ k ∧ k < 12 * h + i
      · rw [if_pos c, if_pos (by omega)]
      · rw [if_neg c, if_neg (by omega)]
theorem bare_sm {μ : Mm} {h i : Nat} (hi : i ≤ 12) : SmM (HPl h) μ (bareM μ h i) := ⟨rfl, fun q k a => by
  unfold HPl at a
  simp only [bareM]
  rw [if_neg (by omega), if_neg (by omega)]⟩
theorem hmx_bare {μ : Mm} {h : Nat} {V : Vt} (q : HMX μ h V) : HMX (bareM μ h 12) h (clearV V) := by
  refine ⟨hi_clear q.1, ⟨?_, ?_, ?_⟩, fun c hc => absurd hc (Nat.not_lt_zero c), fun k hk => ?_⟩
  · simpa [bareM, clearV] using q.2.1.1
  · simpa [bareM, clearV] using q.2.1.2.1
  · simp [bareM, clearV]
  · show (if 12 = 6 ∧ 12 * h + k = h then nI 0 else if 12 = 12 ∧ 12 * h ≤ 12 * h + k ∧ 12 * h + k < 12 * h + 12 then nI 0 else μ.1 12 (12 * h + k)) = nI 0
    rw [if_neg (by omega), if_pos (by omega)]
set_option maxRecDepth 100000 in
set_option maxHeartbeats 4000000 in
theorem c_X12_bare {l : Launch} {δ : Dl} {b : Nat} {μ : Mm} (W : WM μ.2.2) {h : Nat} (hh : h < 6) : MCM l δ b yX12_bare cX12_bare 3 none 1 [.ref (b + 0), .int (nI h)] μ (pV fun μ' => μ' = bareM μ h 12) := by
  refine MC.intro ([some (.ref (b + 0)), some (.int (nI h)), none]) (by decide) rfl rfl fun κ Qc hl hQ X => ?_
  subst hl
  refine AW.aload_n X dX12_bare_0 (i := 0) rfl rfl ?_
  refine AW.getR X dX12_bare_1 fX12_26 rfl om0 (wm_at W 5 rfl) ?_
  refine AW.iload_n X dX12_bare_4 (i := 1) rfl rfl ?_
  refine AW.iconstN X 0 dX12_bare_5 rfl ?_
  refine AW.iastore X dX12_bare_6 (by decide) (am_at 5 rfl) (n2_in (by omega) (by decide)) ?_
  rw [n2_clamp (by omega)]
  refine AW.iconstN X 0 dX12_bare_7 rfl ?_
  refine AW.istore_n X dX12_bare_8 (i := 2) rfl rfl ?_
  have L9 : ∀ (m9 ix : Nat) (μc : Mm), 12 - ix < m9 → ix ≤ 12 → (μc = bareM μ h ix) → AW κ (δ, b, NM, 3, shM, False, Qc, 0, 0) NM 0 0 9 [some (.ref (b + 0)), some (.int (nI h)), some (.int (nI ix))] [] μc := by
    intro m9
    induction m9 with
    | zero => intro ix μc hm; exact absurd hm (Nat.not_lt_zero _)
    | succ m9 ih9 =>
      intro ix μc hm9 hi9 hm
      have Wc : WM μc.2.2 := by rw [hm]; exact W
      refine AW.iload_n X dX12_bare_9 (i := 2) rfl rfl ?_
      refine AW.bipushN X 12 dX12_bare_10 rfl ?_
      refine AW.icmp_geN X (tgt := 33) dX12_bare_12 (by decide) (by omega) (by omega) (fun h12 => ?_) (fun h12 => ?_)
      · obtain rfl : 12 = ix := by omega
        have n12 := Nat.not_lt_of_le h12
        refine AW.vret X hQ dX12_bare_33 ⟨rfl, ?_⟩
        exact hm
      · have n12 := Nat.not_le_of_lt h12
        refine AW.aload_n X dX12_bare_15 (i := 0) rfl rfl ?_
        refine AW.getR X dX12_bare_16 fX12_44 rfl om0 (wm_at Wc 11 rfl) ?_
        refine AW.bipushN X 12 dX12_bare_19 rfl ?_
        refine AW.iload_n X dX12_bare_21 (i := 1) rfl rfl ?_
        refine AW.imulN X dX12_bare_22 ?_
        refine AW.iload_n X dX12_bare_23 (i := 2) rfl rfl ?_
        refine AW.iaddN X dX12_bare_24 ?_
        refine AW.iconstN X 0 dX12_bare_25 rfl ?_
        refine AW.iastore X dX12_bare_26 (by decide) (am_at 11 rfl) (n2_in (by omega) (by decide)) ?_
        rw [n2_clamp (by omega)]
        refine AW.iincN X (c := (ix + 1)) dX12_bare_27 rfl (inc_1 _) rfl ?_
        refine AW.goto X (tgt := 9) dX12_bare_30 (by decide) ?_
        refine AW.cgw (ih9 (ix + 1) (wI μc 12 ((12 * h) + ix) (nI 0)) (by omega) (by omega) (by rw [hm, bare_s])) ⟨rfl, rfl, rfl, trivial⟩
  refine AW.cgw (L9 _ 0 (wI μ 6 h (nI 0)) (Nat.lt_succ_self _) (by omega) (bare_0 μ h)) ⟨rfl, rfl, rfl, trivial⟩
/-- a coat is put on -/
def pmM (μ : Mm) (h n t c th g y : Nat) : Mm := wI (wI (wI (wI (wI (wI μ 7 (8 * h + n) (nI t)) 8 (8 * h + n) (nI c)) 9 (8 * h + n) (nI th)) 10 (8 * h + n) (nI g)) 11 (8 * h + n) (nI y)) 6 h (nI (n + 1))
theorem pm_sm {μ : Mm} {h n t c th g y : Nat} (hn : n < 8) : SmM (HPl h) μ (pmM μ h n t c th g y) := by
  have z : ∀ o, 7 ≤ o → o ≤ 11 → HPl h o (8 * h + n) := fun o a b => Or.inr (Or.inl ⟨a, b, by omega, by omega⟩)
  exact (((((SmM.w (z 7 (by decide) (by decide))).trn (SmM.w (z 8 (by decide) (by decide)))).trn (SmM.w (z 9 (by decide) (by decide)))).trn (SmM.w (z 10 (by decide) (by decide)))).trn (SmM.w (z 11 (by decide) (by decide)))).trn (SmM.w (Or.inl ⟨by omega, rfl⟩))
theorem hmx_put {μ : Mm} {h : Nat} {V : Vt} {t c th g : Nat} (y : Nat) (q : HMX μ h V) (hn : V 0 2 < 8) (ht : t < 8) (hc : c < 6) (h1 : 1 ≤ th) (h9 : th ≤ 9) (hg : g < 12) : HMX (pmM μ h (V 0 2) t c th g y) h (putV V t c th g y) := by
  have e0 : ∀ k, ¬ k = 2 → putV V t c th g y 0 k = V 0 k := fun k hk => by simp [putV, hk]
  have en : putV V t c th g y 0 2 = V 0 2 + 1 := by simp [putV]
  have e6 : ∀ k, putV V t c th g y 6 k = V 6 k := fun k => by simp [putV]
  refine ⟨hi_put y q.1 hn ht hc h1 h9 hg, ⟨?_, ?_, ?_⟩, fun i hi => ?_, fun k hk => ?_⟩
  · rw [e0 0 (by decide)]; simpa [pmM, wI] using q.2.1.1
  · rw [e0 1 (by decide)]; simpa [pmM, wI] using q.2.1.2.1
  · rw [en]; simp [pmM, wI]
  · rw [en] at hi
    by_cases z : i = V 0 2
    · subst z; simp [pmM, wI, putV, put5]
    · have hv := q.2.2.1 i (by omega)
      simpa [pmM, wI, putV, z] using hv
  · rw [e6]; simpa [pmM, wI] using q.2.2.2 k hk
theorem hmx_gone {μ : Mm} {h : Nat} {V : Vt} {k x : Nat} (q : HMX μ h V) (hx : x < 256) : HMX (wI μ 12 (12 * h + k) (nI x)) h (upV V 6 k x) := by
  refine ⟨hi_gone q.1 hx, by simpa [upV, wI] using q.2.1, fun c hc => ?_, fun i hi => ?_⟩
  · simpa [upV, wI] using q.2.2.1 c (by simpa [upV] using hc)
  · by_cases z : i = k
    · simp [upV, wI, z]
    · have : ¬ (12 * h + i = 12 * h + k) := by omega
      simpa [upV, wI, z, this] using q.2.2.2 i hi
theorem gone_sm {μ : Mm} {h k : Nat} {v : Int32} (hk : k < 12) : SmM (HPl h) μ (wI μ 12 (12 * h + k) v) := SmM.w (Or.inr (Or.inr ⟨rfl, by omega, by omega⟩))
set_option maxRecDepth 100000 in
set_option maxHeartbeats 4000000 in
theorem c_X12_paints {l : Launch} {δ : Dl} {b : Nat} {μ : Mm} (W : WM μ.2.2) {τ : Tt} (hT : TMX μ τ) {h : Nat} (hh : h < τ 6 0 0) {t c th gq : Nat} (hn8 : τ h 0 2 < 8)  : MCM l δ b yX12_paints cX12_paints 7 (some .int) 1 [.ref (b + 0), .int (nI h), .int (nI t), .int (nI c), .int (nI th), .int (nI gq)] μ (pI fun r μ' => r = nI (τ h 0 2) ∧ μ' = pmM μ h (τ h 0 2) t c th gq (τ 6 0 3)) := by
  have bn := ti_n hT.1
  have hI := tm_hi hT hh
  have bc := hi_n hI
  have ba := hi_a hI
  have bk := hi_k hI
  refine MC.intro ([some (.ref (b + 0)), some (.int (nI h)), some (.int (nI t)), some (.int (nI c)), some (.int (nI th)), some (.int (nI gq)), none]) (by decide) rfl rfl fun κ Qc hl hQ X => ?_
  subst hl
  refine AW.bipushN X 8 dX12_paints_0 rfl ?_
  refine AW.iload_n X dX12_paints_2 (i := 1) rfl rfl ?_
  refine AW.imulN X dX12_paints_3 ?_
  refine AW.aload_n X dX12_paints_4 (i := 0) rfl rfl ?_
  refine AW.getR X dX12_paints_5 fX12_26 rfl om0 (wm_at W 5 rfl) ?_
  refine AW.iload_n X dX12_paints_8 (i := 1) rfl rfl ?_
  refine AW.iaload X dX12_paints_9 (am_at 5 rfl) (n2_in (by omega) (by decide)) (v := (nI (τ h 0 2))) (by rw [n2_clamp (by omega)]; exact tm_n hT (by omega)) ?_
  refine AW.iaddN X dX12_paints_10 ?_
  refine AW.istore X dX12_paints_11 rfl ?_
  refine AW.aload_n X dX12_paints_13 (i := 0) rfl rfl ?_
  refine AW.getR X dX12_paints_14 fX12_29 rfl om0 (wm_at W 6 rfl) ?_
  refine AW.iload X dX12_paints_17 rfl ?_
  refine AW.iload_n X dX12_paints_19 (i := 2) rfl rfl ?_
  refine AW.iastore X dX12_paints_20 (by decide) (am_at 6 rfl) (n2_in (by omega) (by decide)) ?_
  rw [n2_clamp (by omega)]
  refine AW.aload_n X dX12_paints_21 (i := 0) rfl rfl ?_
  refine AW.getR X dX12_paints_22 fX12_32 rfl om0 (wm_at W 7 rfl) ?_
  refine AW.iload X dX12_paints_25 rfl ?_
  refine AW.iload_n X dX12_paints_27 (i := 3) rfl rfl ?_
  refine AW.iastore X dX12_paints_28 (by decide) (am_at 7 rfl) (n2_in (by omega) (by decide)) ?_
  rw [n2_clamp (by omega)]
  refine AW.aload_n X dX12_paints_29 (i := 0) rfl rfl ?_
  refine AW.getR X dX12_paints_30 fX12_35 rfl om0 (wm_at W 8 rfl) ?_
  refine AW.iload X dX12_paints_33 rfl ?_
  refine AW.iload X dX12_paints_35 rfl ?_
  refine AW.iastore X dX12_paints_37 (by decide) (am_at 8 rfl) (n2_in (by omega) (by decide)) ?_
  rw [n2_clamp (by omega)]
  refine AW.aload_n X dX12_paints_38 (i := 0) rfl rfl ?_
  refine AW.getR X dX12_paints_39 fX12_38 rfl om0 (wm_at W 9 rfl) ?_
  refine AW.iload X dX12_paints_42 rfl ?_
  refine AW.iload X dX12_paints_44 rfl ?_
  refine AW.iastore X dX12_paints_46 (by decide) (am_at 9 rfl) (n2_in (by omega) (by decide)) ?_
  rw [n2_clamp (by omega)]
  refine AW.aload_n X dX12_paints_47 (i := 0) rfl rfl ?_
  refine AW.getR X dX12_paints_48 fX12_41 rfl om0 (wm_at W 10 rfl) ?_
  refine AW.iload X dX12_paints_51 rfl ?_
  refine AW.aload_n X dX12_paints_53 (i := 0) rfl rfl ?_
  refine AW.getI X dX12_paints_54 fX12_139 rfl om0 (show (wI (wI (wI (wI μ 7 ((8 * h) + (τ h 0 2)) (nI t)) 8 ((8 * h) + (τ h 0 2)) (nI c)) 9 ((8 * h) + (τ h 0 2)) (nI th)) 10 ((8 * h) + (τ h 0 2)) (nI gq)).1 0 17 = nI (τ 6 0 3) by simp [wI]; exact tm_y hT) ?_
  refine AW.iastore X dX12_paints_57 (by decide) (am_at 10 rfl) (n2_in (by omega) (by decide)) ?_
  rw [n2_clamp (by omega)]
  refine AW.aload_n X dX12_paints_58 (i := 0) rfl rfl ?_
  refine AW.getR X dX12_paints_59 fX12_26 rfl om0 (wm_at W 5 rfl) ?_
  refine AW.iload_n X dX12_paints_62 (i := 1) rfl rfl ?_
  refine AW.dup2 X dX12_paints_63 rfl rfl ?_
  refine AW.iaload X dX12_paints_64 (am_at 5 rfl) (n2_in (by omega) (by decide)) (v := (nI (τ h 0 2))) (by rw [n2_clamp (by omega)]; simp [wI]; exact tm_n hT hh) ?_
  refine AW.dup_x2 X dX12_paints_65 rfl rfl rfl ?_
  refine AW.iconstN X 1 dX12_paints_66 rfl ?_
  refine AW.iaddN X dX12_paints_67 ?_
  refine AW.iastore X dX12_paints_68 (by decide) (am_at 5 rfl) (n2_in (by omega) (by decide)) ?_
  rw [n2_clamp (by omega)]
  refine AW.iret X hQ dX12_paints_69 ⟨_, rfl, ?_⟩
  exact ⟨rfl, rfl⟩
