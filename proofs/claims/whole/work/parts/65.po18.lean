/-! street -/
def rdSt (S : St) (s : Nat) : Nat ⊕ (Tt × Nat) := itemsA (enR (kk S 1 s) (S.2.2.2 s)) (kk S 1 s) 161 S.1 0 0
def S_street (S : St) (x : Int32) : Int32 × St := if rowT S x ≠ 0 then ref S (rowT S x) 0 else match rdSt S (cl x) with
  | .inl k => ref (kU S 3 0 (k + 1)) 6 0
  | .inr (τ', m) => (nI m, tU (kU S 3 0 0) τ')
/-- an item that is read: the town's houses, at most six before it: no fewer behind it, and at most six -/
theorem itOne_n {E : Nat → Int32} {τ τ' : Tt} {p q : Nat} (hI : τ 6 0 0 ≤ 6) (h : itOne E τ p = .inr (τ', q)) : τ 6 0 0 ≤ τ' 6 0 0 ∧ τ' 6 0 0 ≤ 6 := by
  have hS : ∀ j c v, j = 1 ∨ j = 2 → upS τ j c v 6 0 0 = τ 6 0 0 := fun j c v hj => by rw [upS_6]; rw [if_neg (by omega)]
  have kH : ∀ {x q0 : Nat}, itH E τ x q0 = .inr (τ', q) → τ 6 0 0 ≤ τ' 6 0 0 ∧ τ' 6 0 0 ≤ 6 := fun {x q0} h => by
    unfold itH at h
    split at h
    · cases h
    · split at h
      · cases h
      · split at h
        · cases h
        · cases h
          have e : ∀ k a, buildT τ k a 6 0 0 = τ 6 0 0 + 1 := fun k a => by simp [buildT, upV]
          rw [e]; omega
  have kC : ∀ {q0 : Nat}, itC E τ q0 = .inr (τ', q) → τ 6 0 0 ≤ τ' 6 0 0 ∧ τ' 6 0 0 ≤ 6 := fun {q0} h => by
    unfold itC at h
    split at h
    · cases h
    · rename_i hh q1 e1
      have := rdN_in e1
      split at h
      · cases h
      · split at h
        · cases h
        · split at h
          · cases h
          · split at h
            · cases h
            · split at h
              · cases h
              · cases h; rw [upH_6 (by omega)]; omega
  have kK : ∀ {j hx q0 : Nat}, (j = 1 ∨ j = 2) → itK E τ j hx q0 = .inr (τ', q) → τ 6 0 0 ≤ τ' 6 0 0 ∧ τ' 6 0 0 ≤ 6 := fun {j hx q0} hj h => by
    unfold itK at h
    split at h
    · cases h
    · split at h
      · cases h
      · cases h; rw [hS _ _ _ hj]; omega
  have kL : ∀ {q0 : Nat}, itL E τ q0 = .inr (τ', q) → τ 6 0 0 ≤ τ' 6 0 0 ∧ τ' 6 0 0 ≤ 6 := fun {q0} h => by
    unfold itL at h
    split at h
    · cases h
    · cases h; rw [hailT_6 _ _ _ hI]; omega
  have kS : ∀ {q0 : Nat}, itS E τ q0 = .inr (τ', q) → τ 6 0 0 ≤ τ' 6 0 0 ∧ τ' 6 0 0 ≤ 6 := fun {q0} h => by
    unfold itS at h
    split at h
    · cases h
    · rename_i hh q1 e1
      have := rdN_in e1
      split at h
      · cases h
      · split at h
        · cases h
        · cases h; rw [upH_6 (by omega)]; omega
  unfold itOne at h
  split at h
  · cases h
  · split at h
    · exact kH h
    · split at h
      · exact kC h
      · split at h
        · exact kK (Or.inl rfl) h
        · split at h
          · exact kK (Or.inr rfl) h
          · split at h
            · exact kL h
            · exact kS h
theorem itemsA_n {E : Nat → Int32} {n : Nat} : ∀ {f : Nat} {τ τ' : Tt} {p m m' : Nat}, τ 6 0 0 ≤ 6 → itemsA E n f τ p m = .inr (τ', m') → τ 6 0 0 ≤ τ' 6 0 0
  | 0, τ, τ', p, m, m', h6, h => by cases h
  | f + 1, τ, τ', p, m, m', h6, h => by
    unfold itemsA at h
    split at h
    · cases h
    · rename_i τ1 q1 e1
      have h1 := itOne_n h6 e1
      split at h
      · cases h; exact h1.1
      · split at h
        · exact Nat.le_trans h1.1 (itemsA_n h1.2 h)
        · cases h
/-- behind a reading: the fault is kept -/
theorem rx_flt {μ μ' : Mm} {S : St} {B Bd f : Nat} (h : RX μ S) (tb : two B Bd) (hn : μ.2.2 0 7 = some B) (hd : μ.2.2 0 8 = some Bd) (hs : Same (fun q => TR Bd q ∨ q = 15) μ μ') (W : WX μ'.2.2) : RX (wI μ' 0 12 (dn f)) (kU S 3 0 f) := by
  obtain ⟨⟨i1, i2, i3, i4, i5, i6⟩, -, ⟨B1, Bd1, tb1, h7, h8, hT⟩, h4, x1, x2, x3, x4, x5, x6, x7⟩ := h
  have ta := two_ta tb
  obtain rfl : B = B1 := Option.some.inj (hn.symm.trans h7)
  obtain rfl : Bd = Bd1 := Option.some.inj (hd.symm.trans h8)
  have e : ∀ q, q < 26 → q ≠ 15 → μ'.1 q = μ.1 q ∧ μ'.2.2 q = μ.2.2 q := fun q a c => hs.1 q (fun z => by
    rcases z with z | z
    · have := z.1; omega
    · exact c z)
  have far : ∀ q, TR B q → ¬ (TR Bd q ∨ q = 15) := fun q z y => by
    rcases y with y | y
    · exact tr_apart (by rcases tb with ⟨rfl, rfl⟩ | ⟨rfl, rfl⟩ <;> omega) q z y
    · have := z.1; omega
  have far2 : ∀ q, TR 118 q → ¬ (TR Bd q ∨ q = 15) := fun q z y => by
    rcases y with y | y
    · exact tr_apart (by omega) q z y
    · have := z.1; omega
  have s0 : SameI (fun q => q = 0) μ' (wI μ' 0 12 (dn f)) := SameI.wI rfl
  have K : ∀ j k, ¬ (j = 3 ∧ k = 0) → kk (kU S 3 0 f) j k = kk S j k := fun j k q => by rw [kk_kU, if_neg q]
  have eq : ∀ q, q ≠ 0 → q < 26 → q ≠ 15 → (wI μ' 0 12 (dn f)).1 q = μ.1 q := fun q a c d => (s0.1 q a).trans (e q c d).1
  have e0 : ∀ k, k ≠ 12 → (wI μ' 0 12 (dn f)).1 0 k = μ.1 0 k := fun k hk => by
    have := (e 0 (by decide) (by decide)).1
    simp [wI, hk, this]
  refine ⟨⟨i1, fun q => i2 (by rw [← K 3 1 (by decide)]; exact q), fun s hs8 => by rw [K 0 s (by omega)]; exact i3 s hs8, fun s hs8 => by rw [K 1 s (by omega)]; exact i4 s hs8, by rw [K 3 1 (by decide)]; exact i5, by rw [K 3 2 (by decide)]; exact i6⟩, W, ⟨B, Bd, tb, by show μ'.2.2 0 7 = _; rw [(e 0 (by decide) (by decide)).2]; exact hn, by show μ'.2.2 0 8 = _; rw [(e 0 (by decide) (by decide)).2]; exact hd, ?_⟩, fun q => ?_, ?_⟩
  · exact tx_same (tx_same hT hs far) s0.same (fun q z y => by have := z.1; have y : q = 0 := y; omega)
  · exact tx_same (tx_same (h4 (by rw [← K 3 1 (by decide)]; exact q)) hs far2) s0.same (fun q z y => by have := z.1; have y : q = 0 := y; omega)
  · refine ⟨fun s hs8 => by rw [eq 1 (by decide) (by decide) (by decide), eq 2 (by decide) (by decide) (by decide), K 0 s (by omega), K 1 s (by omega)]; exact x1 s hs8, fun i hi => by rw [eq 12 (by decide) (by decide) (by decide), K 2 i (by omega)]; exact x2 i hi, by rw [e0 10 (by decide), K 3 1 (by decide)]; exact x3, by rw [kk_kU, if_pos ⟨rfl, rfl⟩]; simp [wI], by rw [eq 16 (by decide) (by decide) (by decide), K 3 2 (by decide)]; exact x5, fun i hi hr => by rw [eq 17 (by decide) (by decide) (by decide), K 4 i (by omega)]; exact x6 i hi (by rw [← K 3 2 (by decide)]; exact hr), fun s hs8 i hi => ?_⟩
    show μ'.2.1 (4 + s) i = _
    rw [hs.2]
    exact x7 s hs8 i (by rw [← K 1 s (by omega)]; exact hi)
theorem two_sym {B Bd : Nat} (h : two B Bd) : two Bd B := by
  rcases h with ⟨rfl, rfl⟩ | ⟨rfl, rfl⟩
  · exact Or.inr ⟨rfl, rfl⟩
  · exact Or.inl ⟨rfl, rfl⟩
/-- the draft becomes the street -/
theorem rx_swap {μ : Mm} {S : St} {B Bd : Nat} {τ' : Tt} (h : RX μ S) (tb : two B Bd) (hn : μ.2.2 0 7 = some B) (hd : μ.2.2 0 8 = some Bd) (hT : TX μ Bd τ') (hh : S.1 6 0 0 ≤ τ' 6 0 0) : RX (wR (wR μ 0 7 (some Bd)) 0 8 (some B)) (tU S τ') := by
  obtain ⟨⟨i1, i2, i3, i4, i5, i6⟩, W, -, h4, x1, x2, x3, x4, x5, x6, x7⟩ := h
  have ta := two_ta tb
  have s0 : Same (fun q => q = 0) μ (wR (wR μ 0 7 (some Bd)) 0 8 (some B)) := ⟨fun q hq => ⟨rfl, funext fun k => by simp [wR, show ¬ q = 0 from hq]⟩, rfl⟩
  have hb := ta.2.2.2.2.2.2.1
  refine ⟨⟨hT.1, i2, fun s hs8 => ?_, i4, i5, i6⟩, wx_78 W (fun q hq => funext fun k => by simp [wR, hq]) (fun k a c => by simp [wR, a, c]), ⟨Bd, B, (two_sym tb), by simp [wR], by simp [wR], tx_same hT s0 (fun q z y => by have := z.1; have y : q = 0 := y; omega)⟩, fun q => tx_same (h4 q) s0 (fun q z y => by have := z.1; have y : q = 0 := y; omega), x1, x2, x3, x4, x5, x6, x7⟩
  rcases i3 s hs8 with q | q | q
  · exact Or.inl q
  · exact Or.inr (Or.inl ⟨q.1, Nat.le_trans q.2 hh⟩)
  · exact Or.inr (Or.inr q)
set_option maxRecDepth 100000 in
set_option maxHeartbeats 4000000 in
theorem c_X11_street {l : Launch} {δ : Dl} {b : Nat} {μ : Mm} {S : St} (hR : RX μ S) {xa : Int32} : MCX l δ b yX11_street cX11_street 5 (some .int) 10 [.ref (b + 0), .int xa] μ (pI fun r μ' => r = (S_street S xa).1 ∧ RX μ' (S_street S xa).2) := by
  obtain ⟨B, Bd, tb, hnow, hdr, hT⟩ := hR.2.2.1
  have W := rx_w hR
  have ta := two_ta tb
  have hB := ta.1
  have hBd := ta.2.1
  have bn := ti_n hT.1
  have hrt := rowT_le S xa
  refine MC.intro ([some (.ref (b + 0)), some (.int xa), none, none, none]) (by decide) rfl rfl fun κ Qc hl hQ X => ?_
  subst hl
  refine AW.aload_n X dX11_street_0 (i := 0) rfl rfl ?_
  refine AW.iload_n X dX11_street_1 (i := 1) rfl rfl ?_
  refine AW.callV X dX11_street_2 lX11_99 cfX11 (c_X11_rowTrouble hR) ox0 rfl rfl rfl rfl ⟨rfl, rfl⟩ (pR_k ?_)
  refine AW.istore_n X dX11_street_5 (i := 2) rfl rfl ?_
  refine AW.iload_n X dX11_street_6 (i := 2) rfl rfl ?_
  refine AW.if_eqN X (tgt := 16) dX11_street_7 (by decide) (by omega) (fun h7 => ?_) (fun h7 => ?_)
  · obtain ⟨s, hs, es, hk⟩ := rowT_0 h7
    subst es
    have hz := hR.1.2.2.2.1 s hs
    have cs := cl_n (show s < 2147483648 by omega)
    have g7 : rowT S (nI s) = 0 := h7
    refine AW.aload_n X dX11_street_16 (i := 0) rfl rfl ?_
    refine AW.getR X dX11_street_17 fX11_85 rfl ox0 hdr ?_
    refine AW.aload_n X dX11_street_20 (i := 0) rfl rfl ?_
    refine AW.getR X dX11_street_21 fX11_81 rfl ox0 hnow ?_
    refine AW.callV X dX11_street_24 lX11_210 cfX9 (c_X9_become W hBd hB hT (by rcases tb with ⟨rfl, rfl⟩ | ⟨rfl, rfl⟩ <;> decide)) (ta_ob hBd) rfl rfl rfl rfl ⟨rfl, rfl⟩ (pV_k fun μ2 hp => ?_)
    obtain ⟨p1, p2, p3⟩ := hp
    have f0 : ∀ k, μ2.2.2 0 k = μ.2.2 0 k := fun k => by rw [(p2.1 0 (fun z => by have := z.1; omega)).2]
    have hnow2 : μ2.2.2 0 7 = some B := by rw [f0]; exact hnow
    have hdr2 : μ2.2.2 0 8 = some Bd := by rw [f0]; exact hdr
    have hsz2 : μ2.1 2 s = nI (kk S 1 s) := by rw [(p2.1 2 (fun z => by have := z.1; omega)).1]; exact rx_size hR hs
    refine AW.aload_n X dX11_street_27 (i := 0) rfl rfl ?_
    refine AW.getR X dX11_street_28 fX11_41 rfl ox0 (wx_reader p3) ?_
    refine AW.aload_n X dX11_street_31 (i := 0) rfl rfl ?_
    refine AW.getR X dX11_street_32 fX11_85 rfl ox0 hdr2 ?_
    refine AW.aload_n X dX11_street_35 (i := 0) rfl rfl ?_
    refine AW.getR X dX11_street_36 fX11_18 rfl ox0 (wx_elements p3) ?_
    refine AW.iload_n X dX11_street_39 (i := 1) rfl rfl ?_
    refine AW.aaload X (r := (4 + s)) dX11_street_40 rfl rfl ax3 (n2_in (by omega) (by decide)) (by rw [n2_clamp (by omega)]; exact wx_el p3 (by omega)) ?_
    refine AW.aload_n X dX11_street_41 (i := 0) rfl rfl ?_
    refine AW.getR X dX11_street_42 fX11_13 rfl ox0 (wx_sizes p3) ?_
    refine AW.iload_n X dX11_street_45 (i := 1) rfl rfl ?_
    refine AW.iaload X dX11_street_46 ax2 (n2_in (by omega) (by decide)) (v := (nI (kk S 1 s))) (by rw [n2_clamp (by omega)]; exact hsz2) ?_
    have hL2 : ∀ i, i < kk S 1 s → μ2.2.1 (4 + s) i = S.2.2.2 s i := fun i hi => by rw [p2.2]; exact rx_elem hR hs hi
    refine AW.callV X dX11_street_47 lX11_214 cfX6 (c_X6_readAll (L := S.2.2.2 s) p3 hBd p1 hs hz hL2) ox15 rfl rfl rfl rfl ⟨rfl, rfl⟩ (pI_k fun r3 μ3 hr3 => ?_)
    obtain ⟨q1, q2, q3, q4⟩ := hr3
    have hsm : Same (fun q => TR Bd q ∨ q = 15) μ μ3 := (oTR p2).tr q1
    have e0 : ∀ k, μ3.2.2 0 k = μ.2.2 0 k := fun k => by rw [(hsm.1 0 (fun z => by rcases z with z | z; (have := z.1; omega); cases z)).2]
    have hnow3 : μ3.2.2 0 7 = some B := by rw [e0]; exact hnow
    have hdr3 : μ3.2.2 0 8 = some Bd := by rw [e0]; exact hdr
    rcases hall : rdSt S s with kf | ⟨τf, mf⟩
    · have hq := q3 _ hall
      have hR3 := rx_flt (f := kf + 1) hR tb hnow hdr hsm q2
      rw [dn_s] at hR3
      refine AW.istore_n X dX11_street_50 (i := 3) rfl rfl ?_
      refine AW.aload_n X dX11_street_51 (i := 0) rfl rfl ?_
      refine AW.aload_n X dX11_street_52 (i := 0) rfl rfl ?_
      refine AW.getR X dX11_street_53 fX11_41 rfl ox0 (wx_reader q2) ?_
      refine AW.getI X dX11_street_56 fX11_218 rfl ox15 hq.1 ?_
      refine AW.putI X dX11_street_59 fX11_45 rfl rfl ⟨rfl, rfl⟩ (by decide) ox0 ?_
      refine AW.aload_n X dX11_street_62 (i := 0) rfl rfl ?_
      refine AW.getI X dX11_street_63 fX11_45 rfl ox0 (show (wI μ3 0 12 (nI kf)).1 0 12 = nI kf by simp [wI]) ?_
      refine AW.iconst X (v := -1) dX11_street_66 rfl ?_
      refine AW.icmp_eq X (tgt := 77) dX11_street_67 (by decide) (fun h67 => ?_) (fun h67 => ?_)
      · exact absurd h67 (nI_m1 (by omega))
      · refine AW.aload_n X dX11_street_70 (i := 0) rfl rfl ?_
        refine AW.bipushN X 6 dX11_street_71 rfl ?_
        refine AW.callV X dX11_street_73 lX11_95 cfX11 (c_X11_refuse (k := 6) hR3 (by decide)) ox0 rfl rfl rfl rfl ⟨rfl, rfl⟩ (pI_k fun r μ1 hr => ?_)
        refine AW.iret X hQ dX11_street_76 ⟨_, rfl, ?_⟩
        refine rx_of ?_ hr
        simp [S_street, *]
    · have hq := q4 _ _ hall
      obtain ⟨rfl, hq1, hq2⟩ := hq
      have hR3 := rx_flt (f := 0) hR tb hnow hdr hsm q2
      rw [dn_0] at hR3
      refine AW.istore_n X dX11_street_50 (i := 3) rfl rfl ?_
      refine AW.aload_n X dX11_street_51 (i := 0) rfl rfl ?_
      refine AW.aload_n X dX11_street_52 (i := 0) rfl rfl ?_
      refine AW.getR X dX11_street_53 fX11_41 rfl ox0 (wx_reader q2) ?_
      refine AW.getI X dX11_street_56 fX11_218 rfl ox15 hq1 ?_
      refine AW.putI X dX11_street_59 fX11_45 rfl rfl ⟨rfl, rfl⟩ (by decide) ox0 ?_
      refine AW.aload_n X dX11_street_62 (i := 0) rfl rfl ?_
      refine AW.getI X dX11_street_63 fX11_45 rfl ox0 (show (wI μ3 0 12 (-1)).1 0 12 = -1 by simp [wI]) ?_
      refine AW.iconst X (v := -1) dX11_street_66 rfl ?_
      refine AW.icmp_eq X (tgt := 77) dX11_street_67 (by decide) (fun h67 => ?_) (fun h67 => ?_)
      · refine AW.aload_n X dX11_street_77 (i := 0) rfl rfl ?_
        refine AW.getR X dX11_street_78 fX11_81 rfl ox0 hnow3 ?_
        refine AW.astore X dX11_street_81 rfl ?_
        refine AW.aload_n X dX11_street_83 (i := 0) rfl rfl ?_
        refine AW.aload_n X dX11_street_84 (i := 0) rfl rfl ?_
        refine AW.getR X dX11_street_85 fX11_85 rfl ox0 hdr3 ?_
        refine AW.putR X dX11_street_88 fX11_81 rfl rfl (by decide) ox0 ?_
        refine AW.aload_n X dX11_street_91 (i := 0) rfl rfl ?_
        refine AW.aload X dX11_street_92 rfl ?_
        refine AW.putR X dX11_street_94 fX11_85 rfl rfl (by decide) ox0 ?_
        refine AW.iload_n X dX11_street_97 (i := 3) rfl rfl ?_
        refine AW.iret X hQ dX11_street_98 ⟨_, rfl, ?_⟩
        exact rx_val (by simp [S_street, *]) (rx_swap hR3 tb hnow3 hdr3 (tx_same hq2 (SameI.wI (P := fun q => q = 0) rfl).same (fun q z y => by have := z.1; have y : q = 0 := y; omega)) (itemsA_n bn hall))
      · exact absurd rfl h67
  · have g7 : ¬ rowT S xa = 0 := h7
    refine AW.aload_n X dX11_street_10 (i := 0) rfl rfl ?_
    refine AW.iload_n X dX11_street_11 (i := 2) rfl rfl ?_
    refine AW.callV X dX11_street_12 lX11_95 cfX11 (c_X11_refuse (k := (rowT S xa)) hR (by first | decide | omega)) ox0 rfl rfl rfl rfl ⟨rfl, rfl⟩ (pI_k fun r μ1 hr => ?_)
    refine AW.iret X hQ dX11_street_15 ⟨_, rfl, ?_⟩
    refine rx_of ?_ hr
    simp [S_street, *]
