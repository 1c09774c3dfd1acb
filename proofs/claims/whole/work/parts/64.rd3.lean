section PIU
variable {μ μ1 μ' : Mm} {Bd s n p q : Nat} {L : Nat → Int64} {o o2 : Nat ⊕ (Tt × Nat)}
theorem pit_up (h : PIt μ1 Bd s n q L o μ') (hs : SameI (fun q => q = 15) μ μ1) (hpq : p < q) (e : o2 = o) : PIt μ Bd s n p L o2 μ' := by
  subst e
  exact ⟨(o15 hs).tr h.1, h.2.1, h.2.2.1, fun τ' q' h2 => ⟨(h.2.2.2 τ' q' h2).1, (h.2.2.2 τ' q' h2).2.1, Nat.lt_trans hpq (h.2.2.2 τ' q' h2).2.2⟩⟩
end PIU
theorem fa_26 {o : Nat} (h : FA o) : 26 ≤ o := by
  obtain ⟨B, i, hB, hi, rfl⟩ := h
  rcases hB with rfl | rfl | rfl <;> omega
theorem wx_no {r r' : Nat → Nat → Option Nat} {z : Nat} (W : WX r) (hz : z = 15) (h : ∀ q, q ≠ z → r' q = r q) : WX r' := by
  subst hz
  obtain ⟨w0, w1, w2, w3, w4, w5⟩ := W
  refine ⟨by rw [h 0 (by decide)]; exact w0, fun s hs => by rw [h 3 (by decide)]; exact w1 s hs, by rw [h 16 (by decide)]; exact w2, fun k hk => by rw [h 18 (by decide)]; exact w3 k hk, fun B hB => ?_, fun o ho => ?_⟩
  · have hb : 26 ≤ B := by rcases hB with rfl | rfl | rfl <;> decide
    rw [h B (by omega), h (B + 1) (by omega)]
    exact w4 B hB
  · rw [h o (fun z => by have := fa_26 ho; omega)]
    exact w5 o ho
theorem wx_78 {r r' : Nat → Nat → Option Nat} (W : WX r) (h : ∀ q, q ≠ 0 → r' q = r q) (h0 : ∀ k, k ≠ 7 → k ≠ 8 → r' 0 k = r 0 k) : WX r' := by
  obtain ⟨w0, w1, w2, w3, w4, w5⟩ := W
  refine ⟨?_, fun s hs => by rw [h 3 (by decide)]; exact w1 s hs, by rw [h 16 (by decide)]; exact w2, fun k hk => by rw [h 18 (by decide)]; exact w3 k hk, fun B hB => ?_, fun o ho => ?_⟩
  · rw [h0 0 (by decide) (by decide), h0 1 (by decide) (by decide), h0 2 (by decide) (by decide), h0 3 (by decide) (by decide), h0 5 (by decide) (by decide), h0 6 (by decide) (by decide), h0 9 (by decide) (by decide), h0 11 (by decide) (by decide), h0 13 (by decide) (by decide)]
    exact w0
  · have hb : 26 ≤ B := by rcases hB with rfl | rfl | rfl <;> decide
    rw [h B (by omega), h (B + 1) (by omega)]
    exact w4 B hB
  · rw [h o (fun z => by have := fa_26 ho; omega)]
    exact w5 o ho
theorem rdN_in {E : Nat → Int32} {lo hx p v q : Nat} (h : rdN E lo hx p = .inr (v, q)) : lo ≤ v ∧ v < hx ∧ p < q := by
  unfold rdN at h
  split at h
  · split at h
    · split at h
      · split at h
        · cases h; rename_i z; exact ⟨z.1, z.2, by omega⟩
        · cases h
      · split at h
        · cases h; rename_i z; exact ⟨z.1, z.2, by omega⟩
        · cases h
    · cases h
  · cases h
set_option maxRecDepth 100000 in
set_option maxHeartbeats 4000000 in
theorem c_X6_readItem {l : Launch} {δ : Dl} {b : Nat} {μ : Mm} {Bd s n p : Nat} {L : Nat → Int64} (hD : RDX μ Bd s n p L) (hBd : TA Bd) {τ : Tt} (hT : TX μ Bd τ)  : MCX l δ b yX6_readItem cX6_readItem 3 none 8 [.ref (b + 15)] μ (pV fun μ' => PIt μ Bd s n p L (itOne (enR n L) τ p) μ') := by
  have hk := rdx_k hD
  have hq := rdx_q hD
  have bn := ti_n hT.1
  refine MC.intro ([some (.ref (b + 15)), none, none]) (by decide) rfl rfl fun κ Qc hl hQ X => ?_
  subst hl
  refine AW.aload_n X dX6_readItem_0 (i := 0) rfl rfl ?_
  refine AW.getI X dX6_readItem_1 fX6_15 rfl ox15 (rdx_p hD) ?_
  refine AW.istore_n X dX6_readItem_4 (i := 1) rfl rfl ?_
  refine AW.aload_n X dX6_readItem_5 (i := 0) rfl rfl ?_
  rcases hw6 : rdW (enR n L) p with k6 | ⟨w6, q6⟩
  · refine AW.callV X dX6_readItem_6 lX6_39 cfX6 (c_X6_readWord hD) ox15 rfl rfl rfl rfl ⟨rfl, rfl⟩ (pI_k fun r6 μ6 hr6 => ?_)
    obtain ⟨rfl, rfl, hk6⟩ := hr6.1 _ hw6
    have Wb : WX (wI μ 15 5 (nI k6)).2.2 := hD.1
    refine AW.tableOut X (tgt := 130) dX6_readItem_9 (by decide) (by decide) ?_
    refine AW.vret X hQ dX6_readItem_130 ⟨rfl, ?_⟩
    have e : itOne (enR n L) τ p = .inl k6 := by simp [itOne, itL, *]
    exact pit_l e (o15 s15) Wb (show (wI μ 15 5 (nI k6)).1 15 5 = nI k6 by simp [wI]) (by omega)
  · refine AW.callV X dX6_readItem_6 lX6_39 cfX6 (c_X6_readWord hD) ox15 rfl rfl rfl rfl ⟨rfl, rfl⟩ (pI_k fun r6 μ6 hr6 => ?_)
    obtain ⟨rfl, rfl, hv6, hl6, hn6⟩ := hr6.2 _ _ hw6
    have hD6 := rdx_at hD hn6
    have hT6 : TX (wI μ 15 3 (nI q6)) Bd τ := tx_15 hBd hT s15
    have hsw : w6 = 0 ∨ w6 = 1 ∨ w6 = 2 ∨ w6 = 3 ∨ w6 = 4 ∨ w6 = 5 := by omega
    rcases hsw with rfl | rfl | rfl | rfl | rfl | rfl
    · refine AW.tableIn X (tgt := 48) dX6_readItem_9 (by decide) (by decide) rfl (by decide) ?_
      refine AW.aload_n X dX6_readItem_48 (i := 0) rfl rfl ?_
      refine AW.iload_n X dX6_readItem_49 (i := 1) rfl rfl ?_
      refine AW.callV X dX6_readItem_50 lX6_43 cfX6 (c_X6_readHouse hD6 hBd hT6 (p0 := p) (by omega)) ox15 rfl rfl rfl rfl ⟨rfl, rfl⟩ (pV_k fun μs hps => ?_)
      refine AW.goto X (tgt := 130) dX6_readItem_53 (by decide) ?_
      refine AW.vret X hQ dX6_readItem_130 ⟨rfl, ?_⟩
      exact pit_up hps s15 hl6 (by simp [itOne, hw6])
    · refine AW.tableIn X (tgt := 56) dX6_readItem_9 (by decide) (by decide) rfl (by decide) ?_
      refine AW.aload_n X dX6_readItem_56 (i := 0) rfl rfl ?_
      refine AW.callV X dX6_readItem_57 lX6_47 cfX6 (c_X6_readCoat hD6 hBd hT6) ox15 rfl rfl rfl rfl ⟨rfl, rfl⟩ (pV_k fun μs hps => ?_)
      refine AW.goto X (tgt := 130) dX6_readItem_60 (by decide) ?_
      refine AW.vret X hQ dX6_readItem_130 ⟨rfl, ?_⟩
      exact pit_up hps s15 hl6 (by simp [itOne, hw6])
    · refine AW.tableIn X (tgt := 63) dX6_readItem_9 (by decide) (by decide) rfl (by decide) ?_
      refine AW.aload_n X dX6_readItem_63 (i := 0) rfl rfl ?_
      refine AW.aload_n X dX6_readItem_64 (i := 0) rfl rfl ?_
      refine AW.getR X dX6_readItem_65 fX6_24 rfl ox15 (rdx_t hD6) ?_
      refine AW.getR X dX6_readItem_68 fX6_50 rfl (ta_ob hBd) (wx_hides (rdx_w hD6) hBd) ?_
      refine AW.bipushN X 9 dX6_readItem_71 rfl ?_
      refine AW.callV X dX6_readItem_73 lX6_56 cfX6 (c_readHides hD6 hBd hT6) ox15 rfl rfl rfl rfl ⟨rfl, rfl⟩ (pV_k fun μs hps => ?_)
      refine AW.goto X (tgt := 130) dX6_readItem_76 (by decide) ?_
      refine AW.vret X hQ dX6_readItem_130 ⟨rfl, ?_⟩
      exact pit_up hps s15 hl6 (by simp [itOne, hw6])
    · refine AW.tableIn X (tgt := 79) dX6_readItem_9 (by decide) (by decide) rfl (by decide) ?_
      refine AW.aload_n X dX6_readItem_79 (i := 0) rfl rfl ?_
      refine AW.aload_n X dX6_readItem_80 (i := 0) rfl rfl ?_
      refine AW.getR X dX6_readItem_81 fX6_24 rfl ox15 (rdx_t hD6) ?_
      refine AW.getR X dX6_readItem_84 fX6_60 rfl (ta_ob hBd) (wx_costs (rdx_w hD6) hBd) ?_
      refine AW.bipushN X 99 dX6_readItem_87 rfl ?_
      refine AW.callV X dX6_readItem_89 lX6_56 cfX6 (c_readCosts hD6 hBd hT6) ox15 rfl rfl rfl rfl ⟨rfl, rfl⟩ (pV_k fun μs hps => ?_)
      refine AW.goto X (tgt := 130) dX6_readItem_92 (by decide) ?_
      refine AW.vret X hQ dX6_readItem_130 ⟨rfl, ?_⟩
      exact pit_up hps s15 hl6 (by simp [itOne, hw6])
    · refine AW.tableIn X (tgt := 95) dX6_readItem_9 (by decide) (by decide) rfl (by decide) ?_
      refine AW.aload_n X dX6_readItem_95 (i := 0) rfl rfl ?_
      refine AW.iconstN X 0 dX6_readItem_96 rfl ?_
      refine AW.bipushN X 99 dX6_readItem_97 rfl ?_
      rcases hn99 : rdN (enR n L) 0 100 q6 with k99 | ⟨v99, q99⟩
      · refine AW.callV X dX6_readItem_99 lX6_63 cfX6 (c_X6_readNumber hD6 (lo := 0) (hx := 100) (by omega) (by omega) (dn_s 99).symm) ox15 rfl rfl rfl rfl ⟨rfl, rfl⟩ (pI_k fun r99 μ99 hr99 => ?_)
        obtain ⟨rfl, hs99, hf99, hk99⟩ := hr99.1 _ hn99
        have W99 := wx_same (rdx_w hD6) hs99
        refine AW.istore_n X dX6_readItem_102 (i := 2) rfl rfl ?_
        refine AW.aload_n X dX6_readItem_103 (i := 0) rfl rfl ?_
        refine AW.getI X dX6_readItem_104 fX6_21 rfl ox15 hf99 ?_
        refine AW.iconst X (v := -1) dX6_readItem_107 rfl ?_
        refine AW.icmp_ne X (tgt := 130) dX6_readItem_108 (by decide) (fun h108 => ?_) (fun h108 => ?_)
        · refine AW.vret X hQ dX6_readItem_130 ⟨rfl, ?_⟩
          have e : itOne (enR n L) τ p = .inl k99 := by simp [itOne, itL, *]
          exact pit_l e ((o15 s15).tr (o15 hs99)) W99 hf99 (by omega)
        · exact absurd h108 (nI_m1 (by omega))
      · refine AW.callV X dX6_readItem_99 lX6_63 cfX6 (c_X6_readNumber hD6 (lo := 0) (hx := 100) (by omega) (by omega) (dn_s 99).symm) ox15 rfl rfl rfl rfl ⟨rfl, rfl⟩ (pI_k fun r99 μ99 hr99 => ?_)
        obtain ⟨rfl, hs99, hD99, ha99, hl99, hv99, hw99⟩ := hr99.2 _ _ hn99
        have hT99 := tx_15 hBd hT6 hs99
        have hq99 := rdx_q hD99
        refine AW.istore_n X dX6_readItem_102 (i := 2) rfl rfl ?_
        refine AW.aload_n X dX6_readItem_103 (i := 0) rfl rfl ?_
        refine AW.getI X dX6_readItem_104 fX6_21 rfl ox15 (rdx_f hD99) ?_
        refine AW.iconst X (v := -1) dX6_readItem_107 rfl ?_
        refine AW.icmp_ne X (tgt := 130) dX6_readItem_108 (by decide) (fun h108 => ?_) (fun h108 => ?_)
        · exact absurd rfl h108
        · refine AW.aload_n X dX6_readItem_111 (i := 0) rfl rfl ?_
          refine AW.getR X dX6_readItem_112 fX6_24 rfl ox15 (rdx_t hD99) ?_
          refine AW.iload_n X dX6_readItem_115 (i := 2) rfl rfl ?_
          refine AW.callV X dX6_readItem_116 lX6_67 cfX9 (c_X9_hailOnAll (rdx_w hD99) hBd hT99 (by omega)) (ta_ob hBd) rfl rfl rfl rfl ⟨rfl, rfl⟩ (pI_k fun rb μb hb => ?_)
          refine AW.pop X dX6_readItem_119 rfl ?_
          refine AW.goto X (tgt := 130) dX6_readItem_120 (by decide) ?_
          refine AW.vret X hQ dX6_readItem_130 ⟨rfl, ?_⟩
          obtain ⟨rfl, hB1, hB2⟩ := hb
          have e : itOne (enR n L) τ p = .inr (hailT τ v99 (τ 6 0 0), q99) := by simp [itOne, itL, *]
          exact pit_r e (((o15 s15).tr (o15 hs99)).tr (oTR hB2.same)) (rdx_far hD99 hBd hB2.same (wx_same hD99.1 hB2)) hB1 (by omega)
    · refine AW.tableIn X (tgt := 123) dX6_readItem_9 (by decide) (by decide) rfl (by decide) ?_
      refine AW.aload_n X dX6_readItem_123 (i := 0) rfl rfl ?_
      refine AW.callV X dX6_readItem_124 lX6_71 cfX6 (c_X6_readScratch hD6 hBd hT6) ox15 rfl rfl rfl rfl ⟨rfl, rfl⟩ (pV_k fun μs hps => ?_)
      refine AW.goto X (tgt := 130) dX6_readItem_127 (by decide) ?_
      refine AW.vret X hQ dX6_readItem_130 ⟨rfl, ?_⟩
      exact pit_up hps s15 hl6 (by simp [itOne, hw6])
theorem rdx_init {μ : Mm} {Bd s n : Nat} {L : Nat → Int64} (W : WX μ.2.2) (hs : s < 8) (hn : n ≤ 160) (hL : ∀ i, i < n → μ.2.1 (4 + s) i = L i) : RDX (wI (wI (wI (wR (wR μ 15 0 (some Bd)) 15 1 (some (4 + s))) 15 2 (nI n)) 15 3 (nI 0)) 15 5 (-1)) Bd s n 0 L :=
  ⟨wx_no W rfl (fun q hq => funext fun k => by simp [wI, wR, hq]), ⟨by simp [wI, wR], by simp [wI, wR]⟩, ⟨by simp [wI], by simp [wI], by simp [wI]⟩, hL, hs, hn, Nat.zero_le _⟩
theorem same_init {μ : Mm} {Bd s n : Nat} : Same (fun q => q = 15) μ (wI (wI (wI (wR (wR μ 15 0 (some Bd)) 15 1 (some (4 + s))) 15 2 (nI n)) 15 3 (nI 0)) 15 5 (-1)) :=
  ⟨fun q hq => ⟨funext fun k => by simp [wI, wR, hq], funext fun k => by simp [wI, wR, hq]⟩, rfl⟩
/-- what the whole reading leaves -/
def PAl (μ : Mm) (Bd : Nat) (o : Nat ⊕ (Tt × Nat)) (r : Int32) (μ' : Mm) : Prop :=
  Same (fun q => TR Bd q ∨ q = 15) μ μ' ∧ WX μ'.2.2 ∧ (∀ k, o = .inl k → μ'.1 15 5 = nI k ∧ k < 1000) ∧ ∀ τ' m, o = .inr (τ', m) → r = nI m ∧ μ'.1 15 5 = -1 ∧ TX μ' Bd τ'
theorem pal_l {μ μ' : Mm} {Bd k : Nat} {o : Nat ⊕ (Tt × Nat)} {r : Int32} (e : o = .inl k) (hs : Same (fun q => TR Bd q ∨ q = 15) μ μ') (W : WX μ'.2.2) (hf : μ'.1 15 5 = nI k) (hk : k < 1000) : PAl μ Bd o r μ' :=
  ⟨hs, W, fun k2 h2 => (by rw [e] at h2; cases h2; exact ⟨hf, hk⟩), fun τ2 q2 h2 => (by rw [e] at h2; cases h2)⟩
theorem pal_r {μ μ' : Mm} {Bd m : Nat} {τ' : Tt} {o : Nat ⊕ (Tt × Nat)} {r : Int32} (e : o = .inr (τ', m)) (hs : Same (fun q => TR Bd q ∨ q = 15) μ μ') (W : WX μ'.2.2) (hr : r = nI m) (hf : μ'.1 15 5 = -1) (hT : TX μ' Bd τ') : PAl μ Bd o r μ' :=
  ⟨hs, W, fun k2 h2 => (by rw [e] at h2; cases h2), fun τ2 q2 h2 => (by rw [e] at h2; cases h2; exact ⟨hr, hf, hT⟩)⟩
set_option maxRecDepth 100000 in
set_option maxHeartbeats 4000000 in
theorem c_X6_readAll {l : Launch} {δ : Dl} {b : Nat} {μ : Mm} (W : WX μ.2.2) {Bd s n : Nat} {L : Nat → Int64} (hBd : TA Bd) {τ : Tt} (hT : TX μ Bd τ) (hs : s < 8) (hn : n ≤ 160) (hL : ∀ i, i < n → μ.2.1 (4 + s) i = L i)  : MCX l δ b yX6_readAll cX6_readAll 6 (some .int) 9 [.ref (b + 15), .ref (b + Bd), .ref (b + (4 + s)), .int (nI n)] μ (pI fun r μ' => PAl μ Bd (itemsA (enR n L) n 161 τ 0 0) r μ') := by
  have hb : 26 ≤ Bd := by rcases hBd with rfl | rfl | rfl <;> decide
  refine MC.intro ([some (.ref (b + 15)), some (.ref (b + Bd)), some (.ref (b + (4 + s))), some (.int (nI n)), none, none]) (by decide) rfl rfl fun κ Qc hl hQ X => ?_
  subst hl
  have L31z : ∀ (m : Nat) (μc : Mm), PAl μ Bd (itemsA (enR n L) n 161 τ 0 0) (nI m) μc → AW κ (δ, b, NX, 6, shX, False, Qc, 0, 0) NX 0 0 31 [some (.ref (b + 15)), some (.ref (b + Bd)), some (.ref (b + (4 + s))), some (.int (nI n)), some (.int (nI m)), some (.int (nI 0))] [] μc := by
    intro m μc hz
    refine AW.iload X dX6_readAll_31 rfl ?_
    refine AW.if_eqN X (tgt := 90) dX6_readAll_33 (by decide) (by omega) (fun h33 => ?_) (fun h33 => ?_)
    · refine AW.iload X dX6_readAll_90 rfl ?_
      refine AW.iret X hQ dX6_readAll_92 ⟨_, rfl, ?_⟩
      exact hz
    · exact absurd h33 (by decide)
  have L31 : ∀ (f pq m : Nat) (τc : Tt) (μc : Mm), 161 ≤ pq + f → m ≤ pq → RDX μc Bd s n pq L → TX μc Bd τc → Same (fun q => TR Bd q ∨ q = 15) μ μc → itemsA (enR n L) n 161 τ 0 0 = itemsA (enR n L) n f τc pq m → AW κ (δ, b, NX, 6, shX, False, Qc, 0, 0) NX 0 0 31 [some (.ref (b + 15)), some (.ref (b + Bd)), some (.ref (b + (4 + s))), some (.int (nI n)), some (.int (nI m)), some (.int (nI 1))] [] μc := by
    intro f
    induction f with
    | zero => intro pq m τc μc h1 h2 hD; exact absurd (rdx_q hD) (by have := rdx_k hD; omega)
    | succ f ih =>
      intro pq m τc μc h1 h2 hD hTc hsc hr9
      have hk := rdx_k hD
      have hq := rdx_q hD
      refine AW.iload X dX6_readAll_31 rfl ?_
      refine AW.if_eqN X (tgt := 90) dX6_readAll_33 (by decide) (by omega) (fun h33 => ?_) (fun h33 => ?_)
      · exact absurd h33 (by decide)
      · refine AW.iload X dX6_readAll_36 rfl ?_
        refine AW.aload_n X dX6_readAll_38 (i := 0) rfl rfl ?_
        refine AW.getI X dX6_readAll_39 fX6_9 rfl ox15 (rdx_n hD) ?_
        refine AW.icmp_gtN X (tgt := 90) dX6_readAll_42 (by decide) (by omega) (by omega) (fun h42 => ?_) (fun h42 => ?_)
        · exact absurd h42 (by omega)
        · have n42 := Nat.not_lt_of_le h42
          refine AW.aload_n X dX6_readAll_45 (i := 0) rfl rfl ?_
          refine AW.callV X dX6_readAll_46 lX6_32 cfX6 (c_X6_readItem hD hBd hTc) ox15 rfl rfl rfl rfl ⟨rfl, rfl⟩ (pV_k fun μi hpi => ?_)
          rcases hit46 : itOne (enR n L) τc pq with k46 | ⟨τ46, q46⟩
          · have hf46 := hpi.2.2.1 _ hit46
            have hk46 := hf46.2
            refine AW.iincN X (c := (m + 1)) dX6_readAll_49 rfl (inc_1 _) rfl ?_
            refine AW.aload_n X dX6_readAll_52 (i := 0) rfl rfl ?_
            refine AW.getI X dX6_readAll_53 fX6_21 rfl ox15 hf46.1 ?_
            refine AW.iconst X (v := -1) dX6_readAll_56 rfl ?_
            refine AW.icmp_ne X (tgt := 84) dX6_readAll_57 (by decide) (fun h57 => ?_) (fun h57 => ?_)
            · refine AW.iconstN X 0 dX6_readAll_84 rfl ?_
              refine AW.istore X dX6_readAll_85 rfl ?_
              refine AW.goto X (tgt := 31) dX6_readAll_87 (by decide) ?_
              exact L31z (m + 1) _ (pal_l (k := k46) (hr9.trans (by simp only [itemsA, hit46])) (hsc.tr hpi.1) hpi.2.1 hf46.1 hf46.2)
            · exact absurd h57 (nI_m1 (by omega))
          · have hp46 := hpi.2.2.2 _ _ hit46
            have hq46 := rdx_q hp46.1
            have hl46 := hp46.2.2
            refine AW.iincN X (c := (m + 1)) dX6_readAll_49 rfl (inc_1 _) rfl ?_
            refine AW.aload_n X dX6_readAll_52 (i := 0) rfl rfl ?_
            refine AW.getI X dX6_readAll_53 fX6_21 rfl ox15 (rdx_f hp46.1) ?_
            refine AW.iconst X (v := -1) dX6_readAll_56 rfl ?_
            refine AW.icmp_ne X (tgt := 84) dX6_readAll_57 (by decide) (fun h57 => ?_) (fun h57 => ?_)
            · exact absurd rfl h57
            · refine AW.aload_n X dX6_readAll_60 (i := 0) rfl rfl ?_
              refine AW.getI X dX6_readAll_61 fX6_15 rfl ox15 (rdx_p hp46.1) ?_
              refine AW.aload_n X dX6_readAll_64 (i := 0) rfl rfl ?_
              refine AW.getI X dX6_readAll_65 fX6_9 rfl ox15 (rdx_n hp46.1) ?_
              refine AW.icmp_geN X (tgt := 84) dX6_readAll_68 (by decide) (by omega) (by omega) (fun h68 => ?_) (fun h68 => ?_)
              · have n68 := Nat.not_lt_of_le h68
                refine AW.iconstN X 0 dX6_readAll_84 rfl ?_
                refine AW.istore X dX6_readAll_85 rfl ?_
                refine AW.goto X (tgt := 31) dX6_readAll_87 (by decide) ?_
                exact L31z (m + 1) _ (pal_r (m := m + 1) (τ' := τ46) (hr9.trans (by simp only [itemsA, hit46]; rw [if_pos h68])) (hsc.tr hpi.1) hpi.2.1 rfl (rdx_f hp46.1) hp46.2.1)
              · have n68 := Nat.not_le_of_lt h68
                refine AW.aload_n X dX6_readAll_71 (i := 0) rfl rfl ?_
                refine AW.bipushN X 59 dX6_readAll_72 rfl ?_
                by_cases he74 : enR n L q46 = nI 59
                · have hl74 := enR_lt (by decide) he74
                  refine AW.callV X dX6_readAll_74 lX6_35 cfX6 (ct_stands hp46.1 (by decide) he74) ox15 rfl rfl rfl rfl ⟨rfl, rfl⟩ (pI_k fun r74 μr74 hr74 => ?_)
                  obtain ⟨rfl, rfl⟩ := hr74
                  have hD74 := rdx_at hp46.1 (q := q46 + 1) (by omega)
                  refine AW.if_eqB X (tgt := 84) dX6_readAll_77 (by decide) (fun h77 => ?_) (fun h77 => ?_)
                  · exact absurd h77 (by decide)
                  · refine AW.iconstN X 1 dX6_readAll_80 rfl ?_
                    refine AW.goto X (tgt := 85) dX6_readAll_81 (by decide) ?_
                    refine AW.istore X dX6_readAll_85 rfl ?_
                    refine AW.goto X (tgt := 31) dX6_readAll_87 (by decide) ?_
                    exact ih (q46 + 1) (m + 1) τ46 _ (by omega) (by omega) hD74 (tx_15 hBd hp46.2.1 s15) ((hsc.tr hpi.1).tr (o15 s15)) (hr9.trans (by simp only [itemsA, hit46]; rw [if_neg (by omega), if_pos he74]))
                · refine AW.callV X dX6_readAll_74 lX6_35 cfX6 (cf_stands hp46.1 (by decide) he74) ox15 rfl rfl rfl rfl ⟨rfl, rfl⟩ (pI_k fun r74 μr74 hr74 => ?_)
                  obtain ⟨rfl, rfl⟩ := hr74
                  refine AW.if_eqB X (tgt := 84) dX6_readAll_77 (by decide) (fun h77 => ?_) (fun h77 => ?_)
                  · refine AW.iconstN X 0 dX6_readAll_84 rfl ?_
                    refine AW.istore X dX6_readAll_85 rfl ?_
                    refine AW.goto X (tgt := 31) dX6_readAll_87 (by decide) ?_
                    exact L31z (m + 1) _ (pal_l (k := q46) (hr9.trans (by simp only [itemsA, hit46]; rw [if_neg (by omega), if_neg he74])) ((hsc.tr hpi.1).tr (o15 s15)) hpi.2.1 (by simp [wI]) (by omega))
                  · exact absurd h77 (by decide)
  refine AW.aload_n X dX6_readAll_0 (i := 0) rfl rfl ?_
  refine AW.aload_n X dX6_readAll_1 (i := 1) rfl rfl ?_
  refine AW.putR X dX6_readAll_2 fX6_24 rfl rfl (by decide) ox15 ?_
  refine AW.aload_n X dX6_readAll_5 (i := 0) rfl rfl ?_
  refine AW.aload_n X dX6_readAll_6 (i := 2) rfl rfl ?_
  refine AW.putR X dX6_readAll_7 fX6_28 rfl rfl (by decide) ox15 ?_
  refine AW.aload_n X dX6_readAll_10 (i := 0) rfl rfl ?_
  refine AW.iload_n X dX6_readAll_11 (i := 3) rfl rfl ?_
  refine AW.putI X dX6_readAll_12 fX6_9 rfl rfl ⟨rfl, rfl⟩ (by decide) ox15 ?_
  refine AW.aload_n X dX6_readAll_15 (i := 0) rfl rfl ?_
  refine AW.iconstN X 0 dX6_readAll_16 rfl ?_
  refine AW.putI X dX6_readAll_17 fX6_15 rfl rfl ⟨rfl, rfl⟩ (by decide) ox15 ?_
  refine AW.aload_n X dX6_readAll_20 (i := 0) rfl rfl ?_
  refine AW.iconst X (v := -1) dX6_readAll_21 rfl ?_
  refine AW.putI X dX6_readAll_22 fX6_21 rfl rfl ⟨rfl, rfl⟩ (by decide) ox15 ?_
  refine AW.iconstN X 0 dX6_readAll_25 rfl ?_
  refine AW.istore X dX6_readAll_26 rfl ?_
  refine AW.iconstN X 1 dX6_readAll_28 rfl ?_
  refine AW.istore X dX6_readAll_29 rfl ?_
  exact L31 161 0 0 τ _ (by omega) (Nat.le_refl _) (rdx_init W hs hn hL) (tx_same hT same_init (fun q z y => by have := z.1; have y : q = 15 := y; omega)) (same_init.mono (fun q z => Or.inr z)) rfl
