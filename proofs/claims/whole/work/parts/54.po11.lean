/-! pairs: who is named N (bits), who lies under each U (bits) -/
def PRX (μ : Mm) (N : Nat) (U : Nat → Nat) : Prop := μ.1 0 4 = nI N ∧ N < 256 ∧ ∀ t, t < 8 → μ.1 13 t = nI (U t) ∧ U t < 256
/-- nothing but the pairs' own fields has changed -/
def PRS (μ μ' : Mm) : Prop := μ'.2 = μ.2 ∧ ∀ q k, q ≠ 13 → q ≠ 14 → ¬ (q = 0 ∧ k = 4) → μ'.1 q k = μ.1 q k
theorem PRS.rf {μ : Mm} : PRS μ μ := ⟨rfl, fun _ _ _ _ _ => rfl⟩
theorem PRS.tr {μ μ1 μ2 : Mm} (h : PRS μ μ1) (h1 : PRS μ1 μ2) : PRS μ μ2 := ⟨h1.1.trans h.1, fun q k a c d => (h1.2 q k a c d).trans (h.2 q k a c d)⟩
theorem PRS.wI {μ : Mm} {o k : Nat} {v : Int32} (h : o = 13 ∨ o = 14 ∨ (o = 0 ∧ k = 4)) : PRS μ (wI μ o k v) := ⟨rfl, fun q i a c d => by
  have : ¬ (q = o ∧ i = k) := by omega
  simp only [_root_.Jvm.Pilot.@@N@@.wI, if_neg this]⟩
theorem rx_ps {μ μ' : Mm} {S : St} (h : RX μ S) (hs : PRS μ μ') : RX μ' S := by
  have hx := h.2.2.2.2
  have e : ∀ q, q ≠ 0 → q ≠ 13 → q ≠ 14 → μ'.1 q = μ.1 q := fun q a c d => funext fun k => hs.2 q k c d (fun z => a z.1)
  have eL : μ'.2.1 = μ.2.1 := by rw [hs.1]
  obtain ⟨i, W, ⟨B, Bd, tb, h7, h8, hT⟩, h4, x1, x2, x3, x4, x5, x6, x7⟩ := h
  have ta := two_ta tb
  have sm : SameI (fun q => q < 26) μ μ' := ⟨fun q hq => e q (by omega) (by omega) (by omega), hs.1⟩
  refine ⟨i, wx_same W sm, ⟨B, Bd, tb, by rw [hs.1]; exact h7, by rw [hs.1]; exact h8, tx_same hT sm.same (fun q z y => by have := z.1; omega)⟩, fun hi => tx_same (h4 hi) sm.same (fun q z y => by have := z.1; omega), ?_⟩
  refine ⟨fun s hs8 => by rw [e 1 (by decide) (by decide) (by decide), e 2 (by decide) (by decide) (by decide)]; exact x1 s hs8, fun k hk => by rw [e 12 (by decide) (by decide) (by decide)]; exact x2 k hk, ?_, ?_, by rw [e 16 (by decide) (by decide) (by decide)]; exact x5, fun k hk hr => by rw [e 17 (by decide) (by decide) (by decide)]; exact x6 k hk hr, fun s hs8 k hk => by rw [eL]; exact x7 s hs8 k hk⟩
  · rw [hs.2 0 10 (by decide) (by decide) (by decide)]; exact x3
  · rw [hs.2 0 12 (by decide) (by decide) (by decide)]; exact x4
def mayC (N : Nat) (U : Nat → Nat) (t p : Nat) : Bool := (andN N p).testBit t && decide (andN (U t) p = 0)
def lowO (N : Nat) (U : Nat → Nat) (p : Nat) : Option Nat := fstUp (fun t => mayC N U t p) 8 0
/-- those placed behind k steps, the lowest first -/
def grd (N : Nat) (U : Nat → Nat) : Nat → Nat
  | 0 => 0
  | k + 1 => grd N U k ||| oBit (lowO N U (grd N U k))
theorem fstUp_s {p : Nat → Bool} {t : Nat} : ∀ {m d : Nat}, fstUp p m d = some t → p t = true ∧ d ≤ t ∧ t < d + m
  | 0, d, h => by cases h
  | m + 1, d, h => by
    unfold fstUp at h
    split at h
    · cases h; exact ⟨‹_›, by omega, by omega⟩
    · have := fstUp_s h; exact ⟨this.1, by omega, by omega⟩
theorem fstUp_min {p : Nat → Bool} {t : Nat} : ∀ {m d : Nat}, fstUp p m d = some t → ∀ t', d ≤ t' → t' < t → p t' = false
  | 0, d, h => by cases h
  | m + 1, d, h => by
    unfold fstUp at h
    split at h
    · cases h; intro t' a c; omega
    · rename_i q
      intro t' a c
      by_cases z : t' = d
      · subst z; simpa using q
      · exact fstUp_min h t' (by omega) c
theorem fstUp_none {p : Nat → Bool} : ∀ {m d : Nat}, fstUp p m d = none → ∀ t', d ≤ t' → t' < d + m → p t' = false
  | 0, d, _ => fun t' a c => by omega
  | m + 1, d, h => by
    unfold fstUp at h
    split at h
    · cases h
    · rename_i q
      intro t' a c
      by_cases z : t' = d
      · subst z; simpa using q
      · exact fstUp_none h t' (by omega) (by omega)
theorem lowO_lt {N : Nat} {U : Nat → Nat} {p t : Nat} (h : lowO N U p = some t) : t < 8 := by
  have := fstUp_s h
  omega
theorem grd_lt {N : Nat} {U : Nat → Nat} : ∀ k, grd N U k < 256
  | 0 => by show (0 : Nat) < 256; decide
  | k + 1 => or_lt8 (grd_lt k) (oBit_lt (n := 8) (fun c hc => lowO_lt hc))
def isP (x : Int32) : Bool := decide (¬ x < 0 ∧ cl x / 10 < 8 ∧ cl x % 10 < 8 ∧ cl x / 10 ≠ cl x % 10)
def nmd (e : Nat → Nat) : Nat → Nat
  | 0 => 0
  | k + 1 => nmd e k ||| (2 ^ (e k / 10) ||| 2 ^ (e k % 10))
def ovr (e : Nat → Nat) : Nat → Nat → Nat
  | 0, _ => 0
  | k + 1, t => if t = e k / 10 then ovr e k t ||| 2 ^ (e k % 10) else ovr e k t
theorem bitAnd_0 {a t : Nat} : (a &&& 2 ^ t = 0) ↔ a.testBit t = false := by
  constructor
  · intro h
    have := congrArg (fun z => z.testBit t) h
    simpa [Nat.testBit_and, Nat.testBit_two_pow] using this
  · intro h
    apply Nat.eq_of_testBit_eq
    intro i
    rw [Nat.testBit_and, Nat.testBit_two_pow, Nat.zero_testBit]
    by_cases z : t = i
    · subst z; rw [h]; rfl
    · simp [z]
theorem px_n {μ : Mm} {N : Nat} {U : Nat → Nat} (h : PRX μ N U) : μ.1 0 4 = nI N := h.1
theorem px_u {μ : Mm} {N t : Nat} {U : Nat → Nat} (h : PRX μ N U) (ht : t < 8) : μ.1 13 t = nI (U t) := (h.2.2 t ht).1
theorem px_lt {μ : Mm} {N t : Nat} {U : Nat → Nat} (h : PRX μ N U) (ht : t < 8) : U t < 256 := (h.2.2 t ht).2
def zrM (μ : Mm) (o i : Nat) : Mm := (fun q k => if q = o ∧ k < i then nI 0 else μ.1 q k, μ.2)
theorem zr_0 (μ : Mm) (o : Nat) : μ = zrM μ o 0 := by
  refine Prod.ext (funext fun q => funext fun k => ?_) rfl
  simp [zrM]
theorem zr_s (μ : Mm) (o i : Nat) : wI (zrM μ o i) o i (nI 0) = zrM μ o (i + 1) := by
  refine Prod.ext (funext fun q => funext fun k => ?_) rfl
  simp only [wI, zrM]
  by_cases h1 : q = o
  · subst h1
    by_cases h2 : k = i
    · subst h2; simp
    · by_cases h3 : k < i
      · simp [h2, h3]; omega
      · have h4 : ¬ k < i + 1 := by omega
        simp [h2, h3, h4]
  · simp [h1]
set_option maxRecDepth 100000 in
set_option maxHeartbeats 4000000 in
theorem c_X11_isPair {l : Launch} {δ : Dl} {b : Nat} {μ : Mm} {xa : Int32} : MCX l δ b yX11_isPair cX11_isPair 1 (some .boolean) 1 [.int xa] μ (pI fun r μ' => r = bI (isP xa) ∧ μ' = μ) := by
  refine MC.intro ([some (.int xa)]) (by decide) rfl rfl fun κ Qc hl hQ X => ?_
  subst hl
  refine AW.iload_n X dX11_isPair_0 (i := 0) rfl rfl ?_
  refine AW.if_lt X (tgt := 37) dX11_isPair_1 (by decide) (fun h1 => ?_) (fun h1 => ?_)
  · refine AW.iconstN X 0 dX11_isPair_37 rfl ?_
    refine AW.zret X rfl hQ dX11_isPair_38 ⟨_, rfl, ?_⟩
    have e : (isP xa) = false := by simp [isP, *]
    exact ⟨by rw [e]; rfl, rfl⟩
  · obtain ⟨v, hv, ev⟩ := nI_of h1
    subst ev
    have cv := cl_n hv
    refine AW.iload_n X dX11_isPair_4 (i := 0) rfl rfl ?_
    refine AW.bipushN X 10 dX11_isPair_5 rfl ?_
    refine AW.idivN X dX11_isPair_7 (by omega) (by omega) (by omega) ?_
    refine AW.bipushN X 8 dX11_isPair_8 rfl ?_
    refine AW.icmp_geN X (tgt := 37) dX11_isPair_10 (by decide) (by omega) (by omega) (fun h10 => ?_) (fun h10 => ?_)
    · have n10 := Nat.not_lt_of_le h10
      refine AW.iconstN X 0 dX11_isPair_37 rfl ?_
      refine AW.zret X rfl hQ dX11_isPair_38 ⟨_, rfl, ?_⟩
      have e : (isP (nI v)) = false := by simp [isP, *] <;> omega
      exact ⟨by rw [e]; rfl, rfl⟩
    · have n10 := Nat.not_le_of_lt h10
      refine AW.iload_n X dX11_isPair_13 (i := 0) rfl rfl ?_
      refine AW.bipushN X 10 dX11_isPair_14 rfl ?_
      refine AW.iremN X dX11_isPair_16 (by omega) (by omega) (by omega) ?_
      refine AW.bipushN X 8 dX11_isPair_17 rfl ?_
      refine AW.icmp_geN X (tgt := 37) dX11_isPair_19 (by decide) (by omega) (by omega) (fun h19 => ?_) (fun h19 => ?_)
      · have n19 := Nat.not_lt_of_le h19
        refine AW.iconstN X 0 dX11_isPair_37 rfl ?_
        refine AW.zret X rfl hQ dX11_isPair_38 ⟨_, rfl, ?_⟩
        have e : (isP (nI v)) = false := by simp [isP, *] <;> omega
        exact ⟨by rw [e]; rfl, rfl⟩
      · have n19 := Nat.not_le_of_lt h19
        refine AW.iload_n X dX11_isPair_22 (i := 0) rfl rfl ?_
        refine AW.bipushN X 10 dX11_isPair_23 rfl ?_
        refine AW.idivN X dX11_isPair_25 (by omega) (by omega) (by omega) ?_
        refine AW.iload_n X dX11_isPair_26 (i := 0) rfl rfl ?_
        refine AW.bipushN X 10 dX11_isPair_27 rfl ?_
        refine AW.iremN X dX11_isPair_29 (by omega) (by omega) (by omega) ?_
        refine AW.icmp_eqN X (tgt := 37) dX11_isPair_30 (by decide) (by omega) (by omega) (fun h30 => ?_) (fun h30 => ?_)
        · refine AW.iconstN X 0 dX11_isPair_37 rfl ?_
          refine AW.zret X rfl hQ dX11_isPair_38 ⟨_, rfl, ?_⟩
          have e : (isP (nI v)) = false := by simp [isP, *] <;> omega
          exact ⟨by rw [e]; rfl, rfl⟩
        · refine AW.iconstN X 1 dX11_isPair_33 rfl ?_
          refine AW.goto X (tgt := 38) dX11_isPair_34 (by decide) ?_
          refine AW.zret X rfl hQ dX11_isPair_38 ⟨_, rfl, ?_⟩
          have e : (isP (nI v)) = true := by simp [isP, *] <;> omega
          exact ⟨by rw [e]; rfl, rfl⟩
set_option maxRecDepth 100000 in
set_option maxHeartbeats 4000000 in
theorem c_X11_forgetPairs {l : Launch} {δ : Dl} {b : Nat} {μ : Mm} (W : WX μ.2.2) : MCX l δ b yX11_forgetPairs cX11_forgetPairs 2 none 1 [.ref (b + 0)] μ (pV fun μ' => μ' = zrM (wI μ 0 4 (nI 0)) 13 8) := by
  refine MC.intro ([some (.ref (b + 0)), none]) (by decide) rfl rfl fun κ Qc hl hQ X => ?_
  subst hl
  refine AW.aload_n X dX11_forgetPairs_0 (i := 0) rfl rfl ?_
  refine AW.iconstN X 0 dX11_forgetPairs_1 rfl ?_
  refine AW.putI X dX11_forgetPairs_2 fX11_24 rfl rfl ⟨rfl, rfl⟩ (by decide) ox0 ?_
  refine AW.iconstN X 0 dX11_forgetPairs_5 rfl ?_
  refine AW.istore_n X dX11_forgetPairs_6 (i := 1) rfl rfl ?_
  have L7 : ∀ (m7 ix : Nat) (μc : Mm), 8 - ix < m7 → ix ≤ 8 → (μc = zrM (wI μ 0 4 (nI 0)) 13 ix) → AW κ (δ, b, NX, 2, shX, False, Qc, 0, 0) NX 0 0 7 [some (.ref (b + 0)), some (.int (nI ix))] [] μc := by
    intro m7
    induction m7 with
    | zero => intro ix μc hm; exact absurd hm (Nat.not_lt_zero _)
    | succ m7 ih7 =>
      intro ix μc hm7 hi7 hm
      have Wc : WX μc.2.2 := by rw [hm]; exact W
      refine AW.iload_n X dX11_forgetPairs_7 (i := 1) rfl rfl ?_
      refine AW.bipushN X 8 dX11_forgetPairs_8 rfl ?_
      refine AW.icmp_geN X (tgt := 26) dX11_forgetPairs_10 (by decide) (by omega) (by omega) (fun h10 => ?_) (fun h10 => ?_)
      · obtain rfl : ix = 8 := by omega
        have n10 := Nat.not_lt_of_le h10
        refine AW.vret X hQ dX11_forgetPairs_26 ⟨rfl, ?_⟩
        exact hm
      · have n10 := Nat.not_le_of_lt h10
        refine AW.aload_n X dX11_forgetPairs_13 (i := 0) rfl rfl ?_
        refine AW.getR X dX11_forgetPairs_14 fX11_28 rfl ox0 (wx_beneath Wc) ?_
        refine AW.iload_n X dX11_forgetPairs_17 (i := 1) rfl rfl ?_
        refine AW.iconstN X 0 dX11_forgetPairs_18 rfl ?_
        refine AW.iastore X dX11_forgetPairs_19 (by decide) ax13 (n2_in (by omega) (by decide)) ?_
        rw [n2_clamp (by omega)]
        refine AW.iincN X (c := (ix + 1)) dX11_forgetPairs_20 rfl (inc_1 _) rfl ?_
        refine AW.goto X (tgt := 7) dX11_forgetPairs_23 (by decide) ?_
        refine AW.cgw (ih7 (ix + 1) (wI μc 13 ix (nI 0)) (by omega) (by omega) (by rw [hm, zr_s])) ⟨rfl, rfl, trivial⟩
  refine AW.cgw (L7 _ 0 (wI μ 0 4 (nI 0)) (Nat.lt_succ_self _) (by omega) (zr_0 _ _)) ⟨rfl, rfl, trivial⟩
theorem isP_n {v : Nat} (h1 : v / 10 < 8) (h2 : v % 10 < 8) (h3 : v / 10 ≠ v % 10) : isP (nI v) = true := by
  have h0 : ¬ nI v < 0 := Int32.not_lt.mpr ((n2_le (a := 0) (by decide) (by omega)).mpr (Nat.zero_le _))
  rw [isP, cl_n (by omega)]
  exact decide_eq_true ⟨h0, h1, h2, h3⟩
theorem isP_of {x : Int32} (h : isP x = true) : ∃ v : Nat, x = nI v ∧ v / 10 < 8 ∧ v % 10 < 8 ∧ v / 10 ≠ v % 10 := by
  have h := of_decide_eq_true h
  obtain ⟨v, hv, rfl⟩ := nI_of h.1
  rw [cl_n hv] at h
  exact ⟨v, rfl, h.2⟩
theorem px_add {μ : Mm} {N v : Nat} {U : Nat → Nat} (h : PRX μ N U) (h1 : v / 10 < 8) (h2 : v % 10 < 8) : PRX (wI (wI μ 0 4 (nI (N ||| (2 ^ (v / 10) ||| 2 ^ (v % 10))))) 13 (v / 10) (nI (U (v / 10) ||| 2 ^ (v % 10)))) (N ||| (2 ^ (v / 10) ||| 2 ^ (v % 10))) (fun t => if t = v / 10 then U t ||| 2 ^ (v % 10) else U t) := by
  refine ⟨by simp [wI], or_lt8 h.2.1 (or_lt8 (pow_lt8 h1) (pow_lt8 h2)), fun t ht => ?_⟩
  by_cases z : t = v / 10
  · subst z
    simp [wI, or_lt8 (px_lt h ht) (pow_lt8 h2)]
  · simpa [wI, z] using h.2.2 t ht
set_option maxRecDepth 100000 in
set_option maxHeartbeats 4000000 in
theorem c_X11_addPair {l : Launch} {δ : Dl} {b : Nat} {μ : Mm} (W : WX μ.2.2) {N : Nat} {U : Nat → Nat} (hp : PRX μ N U) {v : Nat} (h1 : v / 10 < 8) (h2 : v % 10 < 8) (h3 : v / 10 ≠ v % 10) : MCX l δ b yX11_addPair cX11_addPair 2 none 2 [.ref (b + 0), .int (nI v)] μ (pV fun μ' => PRX μ' (N ||| (2 ^ (v / 10) ||| 2 ^ (v % 10))) (fun t => if t = v / 10 then U t ||| 2 ^ (v % 10) else U t) ∧ PRS μ μ') := by
  have p1 := px_lt hp h1
  refine MC.intro ([some (.ref (b + 0)), some (.int (nI v))]) (by decide) rfl rfl fun κ Qc hl hQ X => ?_
  subst hl
  refine AW.iload_n X dX11_addPair_0 (i := 1) rfl rfl ?_
  refine AW.callS X dX11_addPair_1 lX11_337 (c_X11_isPair) rfl rfl rfl rfl ⟨rfl, rfl⟩ (pR_k ?_)
  refine AW.if_eqB X (tgt := 47) dX11_addPair_4 (by decide) (fun h4 => ?_) (fun h4 => ?_)
  · exact absurd (h4.symm.trans (isP_n h1 h2 h3)) (by decide)
  · refine AW.aload_n X dX11_addPair_7 (i := 0) rfl rfl ?_
    refine AW.dup X dX11_addPair_8 rfl ?_
    refine AW.getI X dX11_addPair_9 fX11_24 rfl ox0 (v := (nI N)) (px_n hp) ?_
    refine AW.iconstN X 1 dX11_addPair_12 rfl ?_
    refine AW.iload_n X dX11_addPair_13 (i := 1) rfl rfl ?_
    refine AW.bipushN X 10 dX11_addPair_14 rfl ?_
    refine AW.idivN X dX11_addPair_16 (by omega) (by omega) (by omega) ?_
    refine AW.shl1 X dX11_addPair_17 (by omega) ?_
    refine AW.iconstN X 1 dX11_addPair_18 rfl ?_
    refine AW.iload_n X dX11_addPair_19 (i := 1) rfl rfl ?_
    refine AW.bipushN X 10 dX11_addPair_20 rfl ?_
    refine AW.iremN X dX11_addPair_22 (by omega) (by omega) (by omega) ?_
    refine AW.shl1 X dX11_addPair_23 (by omega) ?_
    refine AW.iorN X dX11_addPair_24 ?_
    refine AW.iorN X dX11_addPair_25 ?_
    refine AW.putI X dX11_addPair_26 fX11_24 rfl rfl ⟨rfl, rfl⟩ (by decide) ox0 ?_
    refine AW.aload_n X dX11_addPair_29 (i := 0) rfl rfl ?_
    refine AW.getR X dX11_addPair_30 fX11_28 rfl ox0 (wx_beneath W) ?_
    refine AW.iload_n X dX11_addPair_33 (i := 1) rfl rfl ?_
    refine AW.bipushN X 10 dX11_addPair_34 rfl ?_
    refine AW.idivN X dX11_addPair_36 (by omega) (by omega) (by omega) ?_
    refine AW.dup2 X dX11_addPair_37 rfl rfl ?_
    refine AW.iaload X dX11_addPair_38 ax13 (n2_in (by omega) (by decide)) (v := (nI (U (v / 10)))) (by rw [n2_clamp (by omega)]; simpa [wI] using px_u hp h1) ?_
    refine AW.iconstN X 1 dX11_addPair_39 rfl ?_
    refine AW.iload_n X dX11_addPair_40 (i := 1) rfl rfl ?_
    refine AW.bipushN X 10 dX11_addPair_41 rfl ?_
    refine AW.iremN X dX11_addPair_43 (by omega) (by omega) (by omega) ?_
    refine AW.shl1 X dX11_addPair_44 (by omega) ?_
    refine AW.iorN X dX11_addPair_45 ?_
    refine AW.iastore X dX11_addPair_46 (by decide) ax13 (n2_in (by omega) (by decide)) ?_
    rw [n2_clamp (by omega)]
    refine AW.vret X hQ dX11_addPair_47 ⟨rfl, ?_⟩
    exact ⟨px_add hp h1 h2, (PRS.wI (by omega)).tr (PRS.wI (by omega))⟩
set_option maxRecDepth 100000 in
set_option maxHeartbeats 4000000 in
theorem c_X11_mayComeOn {l : Launch} {δ : Dl} {b : Nat} {μ : Mm} (W : WX μ.2.2) {N : Nat} {U : Nat → Nat} (hp : PRX μ N U) {t p : Nat} (ht : t < 8) (hp8 : p < 256) : MCX l δ b yX11_mayComeOn cX11_mayComeOn 3 (some .boolean) 1 [.ref (b + 0), .int (nI t), .int (nI p)] μ (pI fun r μ' => r = bI (mayC N U t p) ∧ μ' = μ) := by
  have p1 := px_lt hp ht
  have p2 := hp.2.1
  have p3 := andN_lt (c := p) p2
  have p4 := andN_lt (c := p) p1
  have p5 : andN N p &&& 2 ^ t < 256 := Nat.lt_of_le_of_lt Nat.and_le_left p3
  refine MC.intro ([some (.ref (b + 0)), some (.int (nI t)), some (.int (nI p))]) (by decide) rfl rfl fun κ Qc hl hQ X => ?_
  subst hl
  refine AW.aload_n X dX11_mayComeOn_0 (i := 0) rfl rfl ?_
  refine AW.getI X dX11_mayComeOn_1 fX11_24 rfl ox0 (v := (nI N)) (px_n hp) ?_
  refine AW.iload_n X dX11_mayComeOn_4 (i := 2) rfl rfl ?_
  refine AW.andNotN X dX11_mayComeOn_5 dX11_mayComeOn_6 dX11_mayComeOn_7 ?_
  refine AW.iconstN X 1 dX11_mayComeOn_8 rfl ?_
  refine AW.iload_n X dX11_mayComeOn_9 (i := 1) rfl rfl ?_
  refine AW.shl1 X dX11_mayComeOn_10 (by omega) ?_
  refine AW.iandN X dX11_mayComeOn_11 ?_
  refine AW.if_eqN X (tgt := 32) dX11_mayComeOn_12 (by decide) (by omega) (fun h12 => ?_) (fun h12 => ?_)
  · have g12 := bitAnd_0.mp h12
    refine AW.iconstN X 0 dX11_mayComeOn_32 rfl ?_
    refine AW.zret X rfl hQ dX11_mayComeOn_33 ⟨_, rfl, ?_⟩
    have e : mayC N U t p = false := by simp [mayC, *]
    exact ⟨by rw [e]; rfl, rfl⟩
  · have g12 : (andN N p).testBit t = true := by cases q : (andN N p).testBit t; exact absurd (bitAnd_0.mpr q) h12; rfl
    refine AW.aload_n X dX11_mayComeOn_15 (i := 0) rfl rfl ?_
    refine AW.getR X dX11_mayComeOn_16 fX11_28 rfl ox0 (wx_beneath W) ?_
    refine AW.iload_n X dX11_mayComeOn_19 (i := 1) rfl rfl ?_
    refine AW.iaload X dX11_mayComeOn_20 ax13 (n2_in (by omega) (by decide)) (v := (nI (U t))) (by rw [n2_clamp (by omega)]; exact px_u hp ht) ?_
    refine AW.iload_n X dX11_mayComeOn_21 (i := 2) rfl rfl ?_
    refine AW.andNotN X dX11_mayComeOn_22 dX11_mayComeOn_23 dX11_mayComeOn_24 ?_
    refine AW.if_neN X (tgt := 32) dX11_mayComeOn_25 (by decide) (by omega) (fun h25 => ?_) (fun h25 => ?_)
    · refine AW.iconstN X 0 dX11_mayComeOn_32 rfl ?_
      refine AW.zret X rfl hQ dX11_mayComeOn_33 ⟨_, rfl, ?_⟩
      have e : mayC N U t p = false := by simp [mayC, *]
      exact ⟨by rw [e]; rfl, rfl⟩
    · refine AW.iconstN X 1 dX11_mayComeOn_28 rfl ?_
      refine AW.goto X (tgt := 33) dX11_mayComeOn_29 (by decide) ?_
      refine AW.zret X rfl hQ dX11_mayComeOn_33 ⟨_, rfl, ?_⟩
      have e : mayC N U t p = true := by simp [mayC, *]
      exact ⟨by rw [e]; rfl, rfl⟩
set_option maxRecDepth 100000 in
set_option maxHeartbeats 4000000 in
theorem c_X11_lowestOn {l : Launch} {δ : Dl} {b : Nat} {μ : Mm} (W : WX μ.2.2) {N : Nat} {U : Nat → Nat} (hp : PRX μ N U) {p : Nat} (hp8 : p < 256) : MCX l δ b yX11_lowestOn cX11_lowestOn 3 (some .int) 2 [.ref (b + 0), .int (nI p)] μ (pI fun r μ' => r = oI (lowO N U p) ∧ μ' = μ) := by
  refine MC.intro ([some (.ref (b + 0)), some (.int (nI p)), none]) (by decide) rfl rfl fun κ Qc hl hQ X => ?_
  subst hl
  refine AW.iconstN X 0 dX11_lowestOn_0 rfl ?_
  refine AW.istore_n X dX11_lowestOn_1 (i := 2) rfl rfl ?_
  have L2 : ∀ (m2 ix : Nat), 8 - ix < m2 → ix ≤ 8 → (lowO N U p = fstUp (fun t => mayC N U t p) (8 - ix) ix) → AW κ (δ, b, NX, 3, shX, False, Qc, 0, 0) NX 0 0 2 [some (.ref (b + 0)), some (.int (nI p)), some (.int (nI ix))] [] μ := by
    intro m2
    induction m2 with
    | zero => intro ix hm; exact absurd hm (Nat.not_lt_zero _)
    | succ m2 ih2 =>
      intro ix hm2 hi2 hr9
      refine AW.iload_n X dX11_lowestOn_2 (i := 2) rfl rfl ?_
      refine AW.bipushN X 8 dX11_lowestOn_3 rfl ?_
      refine AW.icmp_geN X (tgt := 25) dX11_lowestOn_5 (by decide) (by omega) (by omega) (fun h5 => ?_) (fun h5 => ?_)
      · obtain rfl : ix = 8 := by omega
        rw [fstUp_0 (by omega)] at hr9
        have n5 := Nat.not_lt_of_le h5
        refine AW.iconst X (v := -1) dX11_lowestOn_25 rfl ?_
        refine AW.iret X hQ dX11_lowestOn_26 ⟨_, rfl, ?_⟩
        exact ⟨by rw [hr9]; rfl, rfl⟩
      · have n5 := Nat.not_le_of_lt h5
        refine AW.aload_n X dX11_lowestOn_8 (i := 0) rfl rfl ?_
        refine AW.iload_n X dX11_lowestOn_9 (i := 2) rfl rfl ?_
        refine AW.iload_n X dX11_lowestOn_10 (i := 1) rfl rfl ?_
        refine AW.callV X dX11_lowestOn_11 lX11_340 cfX11 (c_X11_mayComeOn W hp (by omega) (by omega)) ox0 rfl rfl rfl rfl ⟨rfl, rfl⟩ (pR_k ?_)
        refine AW.if_eqB X (tgt := 19) dX11_lowestOn_14 (by decide) (fun h14 => ?_) (fun h14 => ?_)
        · rw [fstUp_f (p := fun t => mayC N U t p) (by omega) h14] at hr9
          refine AW.iincN X (c := (ix + 1)) dX11_lowestOn_19 rfl (inc_1 _) rfl ?_
          refine AW.goto X (tgt := 2) dX11_lowestOn_22 (by decide) ?_
          refine AW.cgw (ih2 (ix + 1) (by omega) (by omega) hr9) ⟨rfl, rfl, rfl, trivial⟩
        · rw [fstUp_t (p := fun t => mayC N U t p) (by omega) h14] at hr9
          refine AW.iload_n X dX11_lowestOn_17 (i := 2) rfl rfl ?_
          refine AW.iret X hQ dX11_lowestOn_18 ⟨_, rfl, ?_⟩
          exact ⟨by rw [hr9]; rfl, rfl⟩
  refine AW.cgw (L2 _ 0 (Nat.lt_succ_self _) (by omega) rfl) ⟨rfl, rfl, rfl, trivial⟩
set_option maxRecDepth 100000 in
set_option maxHeartbeats 4000000 in
theorem c_X11_orderFits {l : Launch} {δ : Dl} {b : Nat} {μ : Mm} (W : WX μ.2.2) {N : Nat} {U : Nat → Nat} (hp : PRX μ N U)  : MCX l δ b yX11_orderFits cX11_orderFits 4 (some .boolean) 3 [.ref (b + 0)] μ (pI fun r μ' => r = bI (decide (grd N U 8 = N)) ∧ μ' = μ) := by
  have p2 := hp.2.1
  refine MC.intro ([some (.ref (b + 0)), none, none, none]) (by decide) rfl rfl fun κ Qc hl hQ X => ?_
  subst hl
  refine AW.iconstN X 0 dX11_orderFits_0 rfl ?_
  refine AW.istore_n X dX11_orderFits_1 (i := 1) rfl rfl ?_
  refine AW.iconstN X 0 dX11_orderFits_2 rfl ?_
  refine AW.istore_n X dX11_orderFits_3 (i := 2) rfl rfl ?_
  have L4 : ∀ (m4 ix : Nat), 8 - ix < m4 → ix ≤ 8 → AW κ (δ, b, NX, 4, shX, False, Qc, 0, 0) NX 0 0 4 [some (.ref (b + 0)), some (.int (nI (grd N U ix))), some (.int (nI ix)), none] [] μ := by
    intro m4
    induction m4 with
    | zero => intro ix hm; exact absurd hm (Nat.not_lt_zero _)
    | succ m4 ih4 =>
      intro ix hm4 hi4 
      refine AW.iload_n X dX11_orderFits_4 (i := 2) rfl rfl ?_
      refine AW.bipushN X 8 dX11_orderFits_5 rfl ?_
      refine AW.icmp_geN X (tgt := 33) dX11_orderFits_7 (by decide) (by omega) (by omega) (fun h7 => ?_) (fun h7 => ?_)
      · obtain rfl : ix = 8 := by omega
        have n7 := Nat.not_lt_of_le h7
        have p3 := grd_lt (N := N) (U := U) 8
        refine AW.iload_n X dX11_orderFits_33 (i := 1) rfl rfl ?_
        refine AW.aload_n X dX11_orderFits_34 (i := 0) rfl rfl ?_
        refine AW.getI X dX11_orderFits_35 fX11_24 rfl ox0 (v := (nI N)) (px_n hp) ?_
        refine AW.icmp_neN X (tgt := 45) dX11_orderFits_38 (by decide) (by omega) (by omega) (fun h38 => ?_) (fun h38 => ?_)
        · refine AW.iconstN X 0 dX11_orderFits_45 rfl ?_
          refine AW.zret X rfl hQ dX11_orderFits_46 ⟨_, rfl, ?_⟩
          exact ⟨by rw [decide_eq_false h38]; rfl, rfl⟩
        · refine AW.iconstN X 1 dX11_orderFits_41 rfl ?_
          refine AW.goto X (tgt := 46) dX11_orderFits_42 (by decide) ?_
          refine AW.zret X rfl hQ dX11_orderFits_46 ⟨_, rfl, ?_⟩
          exact ⟨by rw [decide_eq_true h38]; rfl, rfl⟩
      · have n7 := Nat.not_le_of_lt h7
        refine AW.aload_n X dX11_orderFits_10 (i := 0) rfl rfl ?_
        refine AW.iload_n X dX11_orderFits_11 (i := 1) rfl rfl ?_
        refine AW.callV X dX11_orderFits_12 lX11_343 cfX11 (c_X11_lowestOn W hp (grd_lt _)) ox0 rfl rfl rfl rfl ⟨rfl, rfl⟩ (pR_k ?_)
        rcases hx12 : lowO N U (grd N U ix) with _ | c
        · show AW κ _ _ _ _ _ _ (.int (-1) :: _) _
          refine AW.istore_n X dX11_orderFits_15 (i := 3) rfl rfl ?_
          refine AW.iload_n X dX11_orderFits_16 (i := 3) rfl rfl ?_
          refine AW.iconst X (v := -1) dX11_orderFits_17 rfl ?_
          refine AW.icmp_eq X (tgt := 27) dX11_orderFits_18 (by decide) (fun h18 => ?_) (fun h18 => ?_)
          · refine AW.iincN X (c := (ix + 1)) dX11_orderFits_27 rfl (inc_1 _) rfl ?_
            refine AW.goto X (tgt := 4) dX11_orderFits_30 (by decide) ?_
            refine AW.cgw (ih4 (ix + 1) (by omega) (by omega)) ⟨rfl, ?_, rfl, trivial⟩
            · simp [grd, hx12, oBit]
          · exact absurd rfl h18
        · show AW κ _ _ _ _ _ _ (.int (nI c) :: _) _
          have b4 := lowO_lt hx12
          refine AW.istore_n X dX11_orderFits_15 (i := 3) rfl rfl ?_
          refine AW.iload_n X dX11_orderFits_16 (i := 3) rfl rfl ?_
          refine AW.iconst X (v := -1) dX11_orderFits_17 rfl ?_
          refine AW.icmp_eq X (tgt := 27) dX11_orderFits_18 (by decide) (fun h18 => ?_) (fun h18 => ?_)
          · exact absurd h18 (nI_m1 (by omega))
          · refine AW.iload_n X dX11_orderFits_21 (i := 1) rfl rfl ?_
            refine AW.iconstN X 1 dX11_orderFits_22 rfl ?_
            refine AW.iload_n X dX11_orderFits_23 (i := 3) rfl rfl ?_
            refine AW.shl1 X dX11_orderFits_24 (by omega) ?_
            refine AW.iorN X dX11_orderFits_25 ?_
            refine AW.istore_n X dX11_orderFits_26 (i := 1) rfl rfl ?_
            refine AW.iincN X (c := (ix + 1)) dX11_orderFits_27 rfl (inc_1 _) rfl ?_
            refine AW.goto X (tgt := 4) dX11_orderFits_30 (by decide) ?_
            refine AW.cgw (ih4 (ix + 1) (by omega) (by omega)) ⟨rfl, ?_, rfl, trivial⟩
            · simp [grd, hx12, oBit]
  refine AW.cgw (L4 _ 0 (Nat.lt_succ_self _) (by omega)) ⟨rfl, ?_, rfl, trivial⟩
  · simp [grd]
def tnA (N : Nat) (U : Nat → Nat) : Nat → Int32
  | 0 => -1
  | k + 1 => oI (lowO N U (grd N U k))
set_option maxRecDepth 100000 in
set_option maxHeartbeats 4000000 in
theorem c_X11_inFirstOrder {l : Launch} {δ : Dl} {b : Nat} {μ : Mm} (W : WX μ.2.2) {N : Nat} {U : Nat → Nat} (hp : PRX μ N U) {m : Nat} (hm : m < 8) (hf : ∀ k, k ≤ m → ∃ t, lowO N U (grd N U k) = some t) : MCX l δ b yX11_inFirstOrder cX11_inFirstOrder 5 (some .int) 3 [.ref (b + 0), .int (nI m)] μ (pI fun r μ' => r = oI (lowO N U (grd N U m)) ∧ μ' = μ) := by
  refine MC.intro ([some (.ref (b + 0)), some (.int (nI m)), none, none, none]) (by decide) rfl rfl fun κ Qc hl hQ X => ?_
  subst hl
  refine AW.iconstN X 0 dX11_inFirstOrder_0 rfl ?_
  refine AW.istore_n X dX11_inFirstOrder_1 (i := 2) rfl rfl ?_
  refine AW.iconst X (v := -1) dX11_inFirstOrder_2 rfl ?_
  refine AW.istore_n X dX11_inFirstOrder_3 (i := 3) rfl rfl ?_
  refine AW.iconstN X 0 dX11_inFirstOrder_4 rfl ?_
  refine AW.istore X dX11_inFirstOrder_5 rfl ?_
  have L7 : ∀ (m7 ix : Nat), m + 1 - ix < m7 → ix ≤ m + 1 → AW κ (δ, b, NX, 5, shX, False, Qc, 0, 0) NX 0 0 7 [some (.ref (b + 0)), some (.int (nI m)), some (.int (nI (grd N U ix))), some (.int (tnA N U ix)), some (.int (nI ix))] [] μ := by
    intro m7
    induction m7 with
    | zero => intro ix hm; exact absurd hm (Nat.not_lt_zero _)
    | succ m7 ih7 =>
      intro ix hm7 hi7 
      refine AW.iload X dX11_inFirstOrder_7 rfl ?_
      refine AW.iload_n X dX11_inFirstOrder_9 (i := 1) rfl rfl ?_
      refine AW.icmp_gtN X (tgt := 38) dX11_inFirstOrder_10 (by decide) (by omega) (by omega) (fun h10 => ?_) (fun h10 => ?_)
      · obtain rfl : ix = m + 1 := by omega
        have n10 := Nat.not_le_of_lt h10
        refine AW.iload_n X dX11_inFirstOrder_38 (i := 3) rfl rfl ?_
        refine AW.iret X hQ dX11_inFirstOrder_39 ⟨_, rfl, ?_⟩
        exact ⟨rfl, rfl⟩
      · have n10 := Nat.not_lt_of_le h10
        refine AW.aload_n X dX11_inFirstOrder_13 (i := 0) rfl rfl ?_
        refine AW.iload_n X dX11_inFirstOrder_14 (i := 2) rfl rfl ?_
        refine AW.callV X dX11_inFirstOrder_15 lX11_343 cfX11 (c_X11_lowestOn W hp (grd_lt _)) ox0 rfl rfl rfl rfl ⟨rfl, rfl⟩ (pR_k ?_)
        rcases hx15 : lowO N U (grd N U ix) with _ | c
        · show AW κ _ _ _ _ _ _ (.int (-1) :: _) _
          refine AW.istore_n X dX11_inFirstOrder_18 (i := 3) rfl rfl ?_
          refine AW.iload_n X dX11_inFirstOrder_19 (i := 3) rfl rfl ?_
          refine AW.iconst X (v := -1) dX11_inFirstOrder_20 rfl ?_
          refine AW.icmp_ne X (tgt := 26) dX11_inFirstOrder_21 (by decide) (fun h21 => ?_) (fun h21 => ?_)
          · exact absurd rfl h21
          · exact ((by obtain ⟨t, ht⟩ := hf ix (by omega); rw [hx15] at ht; cases ht) : False).elim
        · show AW κ _ _ _ _ _ _ (.int (nI c) :: _) _
          have b4 := lowO_lt hx15
          refine AW.istore_n X dX11_inFirstOrder_18 (i := 3) rfl rfl ?_
          refine AW.iload_n X dX11_inFirstOrder_19 (i := 3) rfl rfl ?_
          refine AW.iconst X (v := -1) dX11_inFirstOrder_20 rfl ?_
          refine AW.icmp_ne X (tgt := 26) dX11_inFirstOrder_21 (by decide) (fun h21 => ?_) (fun h21 => ?_)
          · refine AW.iload_n X dX11_inFirstOrder_26 (i := 2) rfl rfl ?_
            refine AW.iconstN X 1 dX11_inFirstOrder_27 rfl ?_
            refine AW.iload_n X dX11_inFirstOrder_28 (i := 3) rfl rfl ?_
            refine AW.shl1 X dX11_inFirstOrder_29 (by omega) ?_
            refine AW.iorN X dX11_inFirstOrder_30 ?_
            refine AW.istore_n X dX11_inFirstOrder_31 (i := 2) rfl rfl ?_
            refine AW.iincN X (c := (ix + 1)) dX11_inFirstOrder_32 rfl (inc_1 _) rfl ?_
            refine AW.goto X (tgt := 7) dX11_inFirstOrder_35 (by decide) ?_
            refine AW.cgw (ih7 (ix + 1) (by omega) (by omega)) ⟨rfl, rfl, ?_, ?_, rfl, trivial⟩
            · simp [grd, tnA, hx15, oBit, oI]
            · simp [grd, tnA, hx15, oBit, oI]
          · exact absurd h21 (nI_m1 (by omega))
  refine AW.cgw (L7 _ 0 (Nat.lt_succ_self _) (by omega)) ⟨rfl, rfl, ?_, ?_, rfl, trivial⟩
  · simp [grd, tnA]
  · simp [grd, tnA]
