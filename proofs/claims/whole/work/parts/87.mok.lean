/-! the reference reads -/
def RDM (μ : Mm) (s n p : Nat) (L : Nat → Int64) : Prop := (μ.1 0 27 = nI s ∧ μ.1 0 28 = nI p ∧ μ.1 2 s = nI n) ∧ (∀ i, i < n → μ.2.1 3 (160 * s + i) = L i) ∧ s < 8 ∧ n ≤ 160 ∧ p ≤ n
def ATp (q k : Nat) : Prop := q = 0 ∧ k = 28
def NUp (i q k : Nat) : Prop := (q = 0 ∧ k = 28) ∨ (q = 19 ∧ k = i)
section RDM
variable {μ μ' : Mm} {s n p : Nat} {L : Nat → Int64}
theorem rdm_at (h : RDM μ s n p L) {q : Nat} (hq : q ≤ n) : RDM (wI μ 0 28 (nI q)) s n q L :=
  ⟨⟨by simpa [wI] using h.1.1, by simp [wI], by simpa [wI] using h.1.2.2⟩, h.2.1, h.2.2.1, h.2.2.2.1, hq⟩
theorem rdm_far {P : Nat → Nat → Prop} (h : RDM μ s n p L) (hs : SmM P μ μ') (h27 : ¬ P 0 27) (h28 : ¬ P 0 28) (h2 : ∀ k, ¬ P 2 k) : RDM μ' s n p L :=
  ⟨⟨(hs.2 0 27 h27).trans h.1.1, (hs.2 0 28 h28).trans h.1.2.1, (hs.2 2 s (h2 s)).trans h.1.2.2⟩, fun i hi => by rw [hs.1]; exact h.2.1 i hi, h.2.2⟩
theorem rdm_to {P : Nat → Nat → Prop} (h : RDM μ s n p L) (hs : SmM P μ μ') (h27 : ¬ P 0 27) (h2 : ∀ k, ¬ P 2 k) {q : Nat} (hq : q ≤ n) (h28 : μ'.1 0 28 = nI q) : RDM μ' s n q L :=
  ⟨⟨(hs.2 0 27 h27).trans h.1.1, h28, (hs.2 2 s (h2 s)).trans h.1.2.2⟩, fun i hi => by rw [hs.1]; exact h.2.1 i hi, h.2.2.1, h.2.2.2.1, hq⟩
end RDM
theorem win_dn {v lo hx : Nat} (hv : v < 1000) (hl : lo < 1000) (hh : hx < 1000) : win (nI v) (nI lo) (dn hx) = decide (lo ≤ v ∧ v < hx) := by
  unfold win
  refine decide_eq_decide.mpr ?_
  have e := dn_lt (a := hx) (c := v) (by omega) (by omega)
  rw [n2_lt (by omega) (by omega), e]
  omega
set_option maxRecDepth 100000 in
set_option maxHeartbeats 4000000 in
theorem c_X12_sign {l : Launch} {δ : Dl} {b : Nat} {μ : Mm} (W : WM μ.2.2) {s n p : Nat} {L : Nat → Int64} (hD : RDM μ s n p L)  : MCM l δ b yX12_sign cX12_sign 1 (some .int) 1 [.ref (b + 0)] μ (pI fun r μ' => r = enR n L p ∧ μ' = μ) := by
  have hs8 := hD.2.2.1
  have hk := hD.2.2.2.1
  have hq := hD.2.2.2.2
  refine MC.intro ([some (.ref (b + 0))]) (by decide) rfl rfl fun κ Qc hl hQ X => ?_
  subst hl
  refine AW.aload_n X dX12_sign_0 (i := 0) rfl rfl ?_
  refine AW.getI X dX12_sign_1 fX12_158 rfl om0 (v := (nI p)) hD.1.2.1 ?_
  refine AW.aload_n X dX12_sign_4 (i := 0) rfl rfl ?_
  refine AW.getR X dX12_sign_5 fX12_13 rfl om0 (wm_at W 1 rfl) ?_
  refine AW.aload_n X dX12_sign_8 (i := 0) rfl rfl ?_
  refine AW.getI X dX12_sign_9 fX12_161 rfl om0 (v := (nI s)) hD.1.1 ?_
  refine AW.iaload X dX12_sign_12 (am_at 1 rfl) (n2_in (by omega) (by decide)) (v := (nI n)) (by rw [n2_clamp (by omega)]; exact hD.1.2.2) ?_
  refine AW.icmp_geN X (tgt := 38) dX12_sign_13 (by decide) (by omega) (by omega) (fun h13 => ?_) (fun h13 => ?_)
  · have n13 := Nat.not_lt_of_le h13
    refine AW.iconst X (v := -1) dX12_sign_38 rfl ?_
    refine AW.iret X hQ dX12_sign_39 ⟨_, rfl, ?_⟩
    exact ⟨by simp [enR, *], rfl⟩
  · have n13 := Nat.not_le_of_lt h13
    refine AW.aload_n X dX12_sign_16 (i := 0) rfl rfl ?_
    refine AW.getR X dX12_sign_17 fX12_16 rfl om0 (wm_at W 2 rfl) ?_
    refine AW.sipushN X 160 dX12_sign_20 rfl ?_
    refine AW.aload_n X dX12_sign_23 (i := 0) rfl rfl ?_
    refine AW.getI X dX12_sign_24 fX12_161 rfl om0 (v := (nI s)) hD.1.1 ?_
    refine AW.imulN X dX12_sign_27 ?_
    refine AW.aload_n X dX12_sign_28 (i := 0) rfl rfl ?_
    refine AW.getI X dX12_sign_29 fX12_158 rfl om0 (v := (nI p)) hD.1.2.1 ?_
    refine AW.iaddN X dX12_sign_32 ?_
    refine AW.laload X dX12_sign_33 (am_at 2 rfl) (n2_in (by omega) (by decide)) (v := (L p)) (by rw [n2_clamp (by omega)]; exact hD.2.1 p (by omega)) ?_
    refine AW.l2i X dX12_sign_34 ?_
    refine AW.goto X (tgt := 39) dX12_sign_35 (by decide) ?_
    refine AW.iret X hQ dX12_sign_39 ⟨_, rfl, ?_⟩
    exact ⟨by simp [enR, *], rfl⟩
set_option maxRecDepth 100000 in
set_option maxHeartbeats 4000000 in
theorem c_X12_sign_ {l : Launch} {δ : Dl} {b : Nat} {μ : Mm} (W : WM μ.2.2) {s n p : Nat} {L : Nat → Int64} (hD : RDM μ s n p L) {i : Nat} (hi : i < n) : MCM l δ b yX12_sign_ cX12_sign_ 2 (some .int) 1 [.ref (b + 0), .int (nI i)] μ (pI fun r μ' => r = enR n L i ∧ μ' = μ) := by
  have hs8 := hD.2.2.1
  have hk := hD.2.2.2.1
  have hq := hD.2.2.2.2
  refine MC.intro ([some (.ref (b + 0)), some (.int (nI i))]) (by decide) rfl rfl fun κ Qc hl hQ X => ?_
  subst hl
  refine AW.aload_n X dX12_sign__0 (i := 0) rfl rfl ?_
  refine AW.getR X dX12_sign__1 fX12_16 rfl om0 (wm_at W 2 rfl) ?_
  refine AW.sipushN X 160 dX12_sign__4 rfl ?_
  refine AW.aload_n X dX12_sign__7 (i := 0) rfl rfl ?_
  refine AW.getI X dX12_sign__8 fX12_161 rfl om0 (v := (nI s)) hD.1.1 ?_
  refine AW.imulN X dX12_sign__11 ?_
  refine AW.iload_n X dX12_sign__12 (i := 1) rfl rfl ?_
  refine AW.iaddN X dX12_sign__13 ?_
  refine AW.laload X dX12_sign__14 (am_at 2 rfl) (n2_in (by omega) (by decide)) (v := (L i)) (by rw [n2_clamp (by omega)]; exact hD.2.1 i (by omega)) ?_
  refine AW.l2i X dX12_sign__15 ?_
  refine AW.iret X hQ dX12_sign__16 ⟨_, rfl, ?_⟩
  exact ⟨by simp [enR, *], rfl⟩
set_option maxRecDepth 100000 in
set_option maxHeartbeats 4000000 in
theorem ct_is {l : Launch} {δ : Dl} {b : Nat} {μ : Mm} (W : WM μ.2.2) {s n p : Nat} {L : Nat → Int64} (hD : RDM μ s n p L) {c : Nat} (hc : c < 1000) (he : enR n L p = nI c) : MCM l δ b yX12_is cX12_is 2 (some .boolean) 2 [.ref (b + 0), .int (nI c)] μ (pI fun r μ' => r = nI 1 ∧ μ' = wI μ 0 28 (nI (p + 1))) := by
  have hs8 := hD.2.2.1
  have hk := hD.2.2.2.1
  have hq := hD.2.2.2.2
  refine MC.intro ([some (.ref (b + 0)), some (.int (nI c))]) (by decide) rfl rfl fun κ Qc hl hQ X => ?_
  subst hl
  refine AW.aload_n X dX12_is_0 (i := 0) rfl rfl ?_
  refine AW.callV X dX12_is_1 lX12_164 cfX12 (c_X12_sign W hD) om0 rfl rfl rfl rfl ⟨rfl, rfl⟩ (pR_k ?_)
  refine AW.iload_n X dX12_is_4 (i := 1) rfl rfl ?_
  refine AW.icmp_eq X (tgt := 10) dX12_is_5 (by decide) (fun h5 => ?_) (fun h5 => ?_)
  · refine AW.aload_n X dX12_is_10 (i := 0) rfl rfl ?_
    refine AW.dup X dX12_is_11 rfl ?_
    refine AW.getI X dX12_is_12 fX12_158 rfl om0 (v := (nI p)) hD.1.2.1 ?_
    refine AW.iconstN X 1 dX12_is_15 rfl ?_
    refine AW.iaddN X dX12_is_16 ?_
    refine AW.putI X dX12_is_17 fX12_158 rfl rfl ⟨rfl, rfl⟩ (by decide) om0 ?_
    refine AW.iconstN X 1 dX12_is_20 rfl ?_
    refine AW.zret X rfl hQ dX12_is_21 ⟨_, rfl, ?_⟩
    exact ⟨rfl, rfl⟩
  · exact absurd he h5
set_option maxRecDepth 100000 in
set_option maxHeartbeats 4000000 in
theorem cf_is {l : Launch} {δ : Dl} {b : Nat} {μ : Mm} (W : WM μ.2.2) {s n p : Nat} {L : Nat → Int64} (hD : RDM μ s n p L) {c : Nat} (hc : c < 1000) (he : ¬ enR n L p = nI c) : MCM l δ b yX12_is cX12_is 2 (some .boolean) 2 [.ref (b + 0), .int (nI c)] μ (pI fun r μ' => r = nI 0 ∧ μ' = μ) := by
  have hs8 := hD.2.2.1
  have hk := hD.2.2.2.1
  have hq := hD.2.2.2.2
  refine MC.intro ([some (.ref (b + 0)), some (.int (nI c))]) (by decide) rfl rfl fun κ Qc hl hQ X => ?_
  subst hl
  refine AW.aload_n X dX12_is_0 (i := 0) rfl rfl ?_
  refine AW.callV X dX12_is_1 lX12_164 cfX12 (c_X12_sign W hD) om0 rfl rfl rfl rfl ⟨rfl, rfl⟩ (pR_k ?_)
  refine AW.iload_n X dX12_is_4 (i := 1) rfl rfl ?_
  refine AW.icmp_eq X (tgt := 10) dX12_is_5 (by decide) (fun h5 => ?_) (fun h5 => ?_)
  · exact absurd h5 he
  · refine AW.iconstN X 0 dX12_is_8 rfl ?_
    refine AW.zret X rfl hQ dX12_is_9 ⟨_, rfl, ?_⟩
    exact ⟨rfl, rfl⟩
set_option maxRecDepth 100000 in
set_option maxHeartbeats 4000000 in
theorem c_X12_word {l : Launch} {δ : Dl} {b : Nat} {μ : Mm} (W : WM μ.2.2) {s n p : Nat} {L : Nat → Int64} (hD : RDM μ s n p L) {i : Nat} (hi12 : i < 12) : MCM l δ b yX12_word cX12_word 3 (some .boolean) 6 [.ref (b + 0), .ref (δ.2.2.1 i)] μ (pI fun r μ' => (smL (enR n L) i p = slen i → r = nI 1) ∧ (smL (enR n L) i p ≠ slen i → r = nI 0) ∧ RDM μ' s n (p + smL (enR n L) i p) L ∧ SmM ATp μ μ') := by
  have hs8 := hD.2.2.1
  have hk := hD.2.2.2.1
  have hq := hD.2.2.2.2
  have h8 := slen_lt i hi12
  refine MC.intro ([some (.ref (b + 0)), some (.ref (δ.2.2.1 i)), none]) (by decide) rfl rfl fun κ Qc hl hQ X => ?_
  subst hl
  refine AW.iconstN X 0 dX12_word_0 rfl ?_
  refine AW.istore_n X dX12_word_1 (i := 2) rfl rfl ?_
  have L2 : ∀ (m2 jx : Nat) (μc : Mm), slen i - jx < m2 → jx ≤ slen i → RDM μc s n (p + jx) L → SmM ATp μ μc → fstUp (fun j => !decide (enR n L (p + j) = nI (sch i j))) (slen i) 0 = fstUp (fun j => !decide (enR n L (p + j) = nI (sch i j))) (slen i - jx) jx → AW κ (δ, b, NM, 3, shM, False, Qc, 0, 0) NM 0 0 2 [some (.ref (b + 0)), some (.ref (δ.2.2.1 i)), some (.int (nI jx))] [] μc := by
    intro m2
    induction m2 with
    | zero => intro jx μc hm; exact absurd hm (Nat.not_lt_zero _)
    | succ m2 ih2 =>
      intro jx μc hm2 hi2 hDc hsc hr9
      have Wc := wm_same W hsc
      have hq9 := hDc.2.2.2.2
      refine AW.iload_n X dX12_word_2 (i := 2) rfl rfl ?_
      refine AW.aload_n X dX12_word_3 (i := 1) rfl rfl ?_
      refine AW.callVS X (show i < 12 by omega) dX12_word_4 lX12_168 (c_J0_length_8abf5 (by omega)) rfl rfl rfl rfl ⟨rfl, rfl⟩ (pR_k ?_)
      refine AW.icmp_geN X (tgt := 30) dX12_word_7 (by decide) (by omega) (by omega) (fun h7 => ?_) (fun h7 => ?_)
      · obtain rfl : slen i = jx := by omega
        rw [fstUp_0 (by omega)] at hr9
        have n7 := Nat.not_lt_of_le h7
        refine AW.iconstN X 1 dX12_word_30 rfl ?_
        refine AW.zret X rfl hQ dX12_word_31 ⟨_, rfl, ?_⟩
        have e : smL (enR n L) i p = slen i := by rw [smL, hr9]
        exact ⟨fun _ => rfl, fun q => absurd e q, by rw [e]; exact hDc, hsc⟩
      · have n7 := Nat.not_le_of_lt h7
        refine AW.aload_n X dX12_word_10 (i := 0) rfl rfl ?_
        refine AW.aload_n X dX12_word_11 (i := 1) rfl rfl ?_
        refine AW.iload_n X dX12_word_12 (i := 2) rfl rfl ?_
        have hcl := sch_lt i hi12 jx (by omega)
        refine AW.callVS X (show i < 12 by omega) dX12_word_13 lX12_173 (c_J0_charAt_5068e (j := jx) (by omega) (by omega)) rfl rfl rfl rfl ⟨rfl, rfl⟩ (pR_k ?_)
        by_cases he16 : enR n L (p + jx) = nI (sch i jx)
        · have hl16 := enR_lt (by omega) he16
          refine AW.callV X dX12_word_16 lX12_177 cfX12 (ct_is Wc hDc (by omega) he16) om0 rfl rfl rfl rfl ⟨rfl, rfl⟩ (pI_k fun r16 μr16 hr16 => ?_)
          obtain ⟨rfl, rfl⟩ := hr16
          have hD16 := rdm_at hDc (q := (p + jx) + 1) (by omega)
          have W16 : WM (wI μc 0 28 (nI ((p + jx) + 1))).2.2 := Wc
          have hs16 := hsc.trn (SmM.w (o := 0) (k := 28) (v := nI ((p + jx) + 1)) ⟨rfl, rfl⟩)
          refine AW.if_neN X (tgt := 24) dX12_word_19 (by decide) (by omega) (fun h19 => ?_) (fun h19 => ?_)
          · refine AW.iincN X (c := (jx + 1)) dX12_word_24 rfl (inc_1 _) rfl ?_
            refine AW.goto X (tgt := 2) dX12_word_27 (by decide) ?_
            rw [fstUp_f (p := fun j => !decide (enR n L (p + j) = nI (sch i j))) (by omega) (by simp [he16])] at hr9
            refine AW.cgw (ih2 (jx + 1) (wI μc 0 28 (nI ((p + jx) + 1))) (by omega) (by omega) hD16 hs16 hr9) ⟨rfl, rfl, rfl, trivial⟩
          · exact absurd h19 (by decide)
        · refine AW.callV X dX12_word_16 lX12_177 cfX12 (cf_is Wc hDc (by omega) he16) om0 rfl rfl rfl rfl ⟨rfl, rfl⟩ (pI_k fun r16 μr16 hr16 => ?_)
          obtain ⟨rfl, hm16⟩ := hr16
          obtain rfl : μc = μr16 := hm16.symm
          refine AW.if_neN X (tgt := 24) dX12_word_19 (by decide) (by omega) (fun h19 => ?_) (fun h19 => ?_)
          · exact absurd h19 (by decide)
          · refine AW.iconstN X 0 dX12_word_22 rfl ?_
            refine AW.zret X rfl hQ dX12_word_23 ⟨_, rfl, ?_⟩
            rw [fstUp_t (p := fun j => !decide (enR n L (p + j) = nI (sch i j))) (by omega) (by simp [he16])] at hr9
            have e : smL (enR n L) i p = jx := by rw [smL, hr9]
            exact ⟨fun q => absurd (e.symm.trans q) (by omega), fun _ => rfl, by rw [e]; exact hDc, hsc⟩
  refine AW.cgw (L2 _ 0 μ (Nat.lt_succ_self _) (Nat.zero_le _) hD SmM.rf rfl) ⟨rfl, rfl, rfl, trivial⟩
