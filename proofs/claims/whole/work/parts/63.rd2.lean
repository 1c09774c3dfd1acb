/-! items of a street's text: where the fault lies, or the town and the place behind it -/
def itH (E : Nat → Int32) (τ : Tt) (p0 q : Nat) : Nat ⊕ (Tt × Nat) := if 6 ≤ τ 6 0 0 then .inl p0 else match rdN E 0 7 q with
  | .inl k => .inl k
  | .inr (x, q1) => match rdN E 0 10 q1 with
    | .inl k => .inl k
    | .inr (a, q2) => .inr (buildT τ x a, q2)
def itC (E : Nat → Int32) (τ : Tt) (q : Nat) : Nat ⊕ (Tt × Nat) := match rdN E 0 (τ 6 0 0) q with
  | .inl k => .inl k
  | .inr (h, q1) => if 8 ≤ τ h 0 2 then .inl (q + 1) else match rdN E 0 8 q1 with
    | .inl k => .inl k
    | .inr (t, q2) => match rdN E 0 6 q2 with
      | .inl k => .inl k
      | .inr (c, q3) => match rdN E 1 10 q3 with
        | .inl k => .inl k
        | .inr (th, q4) => match rdN E 0 12 q4 with
          | .inl k => .inl k
          | .inr (g, q5) => .inr (upH τ h (putV (τ h) t c th g (τ 6 0 3)), q5)
def itK (E : Nat → Int32) (τ : Tt) (j hx q : Nat) : Nat ⊕ (Tt × Nat) := match rdN E 0 6 q with
  | .inl k => .inl k
  | .inr (c, q1) => match rdN E 0 hx q1 with
    | .inl k => .inl k
    | .inr (v, q2) => .inr (upS τ j c v, q2)
def itL (E : Nat → Int32) (τ : Tt) (q : Nat) : Nat ⊕ (Tt × Nat) := match rdN E 0 100 q with
  | .inl k => .inl k
  | .inr (h, q1) => .inr (hailT τ h (τ 6 0 0), q1)
def itS (E : Nat → Int32) (τ : Tt) (q : Nat) : Nat ⊕ (Tt × Nat) := match rdN E 0 (τ 6 0 0) q with
  | .inl k => .inl k
  | .inr (h, q1) => match rdN E 0 12 q1 with
    | .inl k => .inl k
    | .inr (c, q2) => match upmost (τ h) c (τ h 0 2) with
      | none => .inl (q1 + 1)
      | some co => .inr (upH τ h (upV (τ h) 6 c (τ h 6 c ||| 2 ^ co)), q2)
def itOne (E : Nat → Int32) (τ : Tt) (p : Nat) : Nat ⊕ (Tt × Nat) := match rdW E p with
  | .inl k => .inl k
  | .inr (w, q) => if w = 0 then itH E τ p q else if w = 1 then itC E τ q else if w = 2 then itK E τ 1 10 q else if w = 3 then itK E τ 2 100 q else if w = 4 then itL E τ q else itS E τ q
/-- all of them: the fault, or the town and how many -/
def itemsA (E : Nat → Int32) (n : Nat) : Nat → Tt → Nat → Nat → Nat ⊕ (Tt × Nat)
  | 0, _, p, _ => .inl p
  | f + 1, τ, p, m => match itOne E τ p with
    | .inl k => .inl k
    | .inr (τ', q) => if n ≤ q then .inr (τ', m + 1) else if E q = nI 59 then itemsA E n f τ' (q + 1) (m + 1) else .inl q
/-- what an item's reader leaves -/
def PIt (μ : Mm) (Bd s n p : Nat) (L : Nat → Int64) (o : Nat ⊕ (Tt × Nat)) (μ' : Mm) : Prop :=
  Same (fun q => TR Bd q ∨ q = 15) μ μ' ∧ WX μ'.2.2 ∧ (∀ k, o = .inl k → μ'.1 15 5 = nI k ∧ k < 1000) ∧ ∀ τ' q, o = .inr (τ', q) → RDX μ' Bd s n q L ∧ TX μ' Bd τ' ∧ p < q
section PIS
variable {μ μ' : Mm} {Bd s n p q k : Nat} {L : Nat → Int64} {o : Nat ⊕ (Tt × Nat)} {τ τ' : Tt}
theorem pit_l (e : o = .inl k) (hs : Same (fun q => TR Bd q ∨ q = 15) μ μ') (W : WX μ'.2.2) (hf : μ'.1 15 5 = nI k) (hk : k < 1000) : PIt μ Bd s n p L o μ' :=
  ⟨hs, W, fun k2 h2 => by rw [e] at h2; cases h2; exact ⟨hf, hk⟩, fun τ2 q2 h2 => by rw [e] at h2; cases h2⟩
theorem pit_r (e : o = .inr (τ', q)) (hs : Same (fun q => TR Bd q ∨ q = 15) μ μ') (hD : RDX μ' Bd s n q L) (hT : TX μ' Bd τ') (hp : p < q) : PIt μ Bd s n p L o μ' :=
  ⟨hs, hD.1, fun k2 h2 => (by rw [e] at h2; cases h2), fun τ2 q2 h2 => by rw [e] at h2; cases h2; exact ⟨hD, hT, hp⟩⟩
theorem rdx_far (h : RDX μ Bd s n p L) (hB : TA Bd) (hs : Same (TR Bd) μ μ') (W : WX μ'.2.2) : RDX μ' Bd s n p L := by
  have hb : 26 ≤ Bd := by rcases hB with rfl | rfl | rfl <;> decide
  have e := hs.1 15 (fun z => by have := z.1; omega)
  refine ⟨W, by rw [e.2]; exact h.2.1, by rw [e.1]; exact h.2.2.1, fun i hi => by rw [hs.2]; exact h.2.2.2.1 i hi, h.2.2.2.2⟩
theorem tx_15 (hB : TA Bd) (hT : TX μ Bd τ) (hs : SameI (fun q => q = 15) μ μ') : TX μ' Bd τ := by
  have hb : 26 ≤ Bd := by rcases hB with rfl | rfl | rfl <;> decide
  exact tx_same hT hs.same (fun q z y => by have := z.1; have y : q = 15 := y; omega)
theorem o15 (hs : SameI (fun q => q = 15) μ μ') : Same (fun q => TR Bd q ∨ q = 15) μ μ' := hs.same.mono (fun q z => Or.inr z)
theorem oTR (hs : Same (TR Bd) μ μ') : Same (fun q => TR Bd q ∨ q = 15) μ μ' := hs.mono (fun q z => Or.inl z)
end PIS
set_option maxRecDepth 100000 in
set_option maxHeartbeats 4000000 in
theorem c_X6_readHouse {l : Launch} {δ : Dl} {b : Nat} {μ : Mm} {Bd s n p : Nat} {L : Nat → Int64} (hD : RDX μ Bd s n p L) (hBd : TA Bd) {τ : Tt} (hT : TX μ Bd τ) {p0 : Nat} (hp0 : p0 ≤ n)  : MCX l δ b yX6_readHouse cX6_readHouse 4 none 4 [.ref (b + 15), .int (nI p0)] μ (pV fun μ' => PIt μ Bd s n p L (itH (enR n L) τ p0 p) μ') := by
  have hk := rdx_k hD
  have hq := rdx_q hD
  have bn := ti_n hT.1
  refine MC.intro ([some (.ref (b + 15)), some (.int (nI p0)), none, none]) (by decide) rfl rfl fun κ Qc hl hQ X => ?_
  subst hl
  refine AW.aload_n X dX6_readHouse_0 (i := 0) rfl rfl ?_
  refine AW.getR X dX6_readHouse_1 fX6_24 rfl ox15 (rdx_t hD) ?_
  refine AW.getI X dX6_readHouse_4 fX6_109 rfl (ta_ob hBd) (tx_n hT) ?_
  refine AW.bipushN X 6 dX6_readHouse_7 rfl ?_
  refine AW.icmp_ltN X (tgt := 17) dX6_readHouse_9 (by decide) (by omega) (by omega) (fun h9 => ?_) (fun h9 => ?_)
  · have g9 : ¬ 6 ≤ τ 6 0 0 := by omega
    have n9 := Nat.not_le_of_lt h9
    refine AW.aload_n X dX6_readHouse_17 (i := 0) rfl rfl ?_
    refine AW.iconstN X 0 dX6_readHouse_18 rfl ?_
    refine AW.bipushN X 6 dX6_readHouse_19 rfl ?_
    rcases hn21 : rdN (enR n L) 0 7 p with k21 | ⟨v21, q21⟩
    · refine AW.callV X dX6_readHouse_21 lX6_63 cfX6 (c_X6_readNumber hD (lo := 0) (hx := 7) (by omega) (by omega) (dn_s 6).symm) ox15 rfl rfl rfl rfl ⟨rfl, rfl⟩ (pI_k fun r21 μ21 hr21 => ?_)
      obtain ⟨rfl, hs21, hf21, hk21⟩ := hr21.1 _ hn21
      have W21 := wx_same (rdx_w hD) hs21
      refine AW.istore_n X dX6_readHouse_24 (i := 2) rfl rfl ?_
      refine AW.aload_n X dX6_readHouse_25 (i := 0) rfl rfl ?_
      refine AW.iconstN X 0 dX6_readHouse_26 rfl ?_
      refine AW.bipushN X 9 dX6_readHouse_27 rfl ?_
      refine AW.callV X dX6_readHouse_29 lX6_63 cfX6 (cb_readNumber W21 hf21 (by omega)) ox15 rfl rfl rfl rfl ⟨rfl, rfl⟩ (pR_k ?_)
      refine AW.istore_n X dX6_readHouse_32 (i := 3) rfl rfl ?_
      refine AW.aload_n X dX6_readHouse_33 (i := 0) rfl rfl ?_
      refine AW.getI X dX6_readHouse_34 fX6_21 rfl ox15 hf21 ?_
      refine AW.iconst X (v := -1) dX6_readHouse_37 rfl ?_
      refine AW.icmp_ne X (tgt := 51) dX6_readHouse_38 (by decide) (fun h38 => ?_) (fun h38 => ?_)
      · refine AW.vret X hQ dX6_readHouse_51 ⟨rfl, ?_⟩
        have e : itH (enR n L) τ p0 p = .inl k21 := by simp [itH, *]
        exact pit_l e (o15 hs21) W21 hf21 (by omega)
      · exact absurd h38 (nI_m1 (by omega))
    · refine AW.callV X dX6_readHouse_21 lX6_63 cfX6 (c_X6_readNumber hD (lo := 0) (hx := 7) (by omega) (by omega) (dn_s 6).symm) ox15 rfl rfl rfl rfl ⟨rfl, rfl⟩ (pI_k fun r21 μ21 hr21 => ?_)
      obtain ⟨rfl, hs21, hD21, ha21, hl21, hv21, hw21⟩ := hr21.2 _ _ hn21
      have hT21 := tx_15 hBd hT hs21
      have hq21 := rdx_q hD21
      refine AW.istore_n X dX6_readHouse_24 (i := 2) rfl rfl ?_
      refine AW.aload_n X dX6_readHouse_25 (i := 0) rfl rfl ?_
      refine AW.iconstN X 0 dX6_readHouse_26 rfl ?_
      refine AW.bipushN X 9 dX6_readHouse_27 rfl ?_
      rcases hn29 : rdN (enR n L) 0 10 q21 with k29 | ⟨v29, q29⟩
      · refine AW.callV X dX6_readHouse_29 lX6_63 cfX6 (c_X6_readNumber hD21 (lo := 0) (hx := 10) (by omega) (by omega) (dn_s 9).symm) ox15 rfl rfl rfl rfl ⟨rfl, rfl⟩ (pI_k fun r29 μ29 hr29 => ?_)
        obtain ⟨rfl, hs29, hf29, hk29⟩ := hr29.1 _ hn29
        have W29 := wx_same (rdx_w hD21) hs29
        refine AW.istore_n X dX6_readHouse_32 (i := 3) rfl rfl ?_
        refine AW.aload_n X dX6_readHouse_33 (i := 0) rfl rfl ?_
        refine AW.getI X dX6_readHouse_34 fX6_21 rfl ox15 hf29 ?_
        refine AW.iconst X (v := -1) dX6_readHouse_37 rfl ?_
        refine AW.icmp_ne X (tgt := 51) dX6_readHouse_38 (by decide) (fun h38 => ?_) (fun h38 => ?_)
        · refine AW.vret X hQ dX6_readHouse_51 ⟨rfl, ?_⟩
          have e : itH (enR n L) τ p0 p = .inl k29 := by simp [itH, *]
          exact pit_l e ((o15 hs21).tr (o15 hs29)) W29 hf29 (by omega)
        · exact absurd h38 (nI_m1 (by omega))
      · refine AW.callV X dX6_readHouse_29 lX6_63 cfX6 (c_X6_readNumber hD21 (lo := 0) (hx := 10) (by omega) (by omega) (dn_s 9).symm) ox15 rfl rfl rfl rfl ⟨rfl, rfl⟩ (pI_k fun r29 μ29 hr29 => ?_)
        obtain ⟨rfl, hs29, hD29, ha29, hl29, hv29, hw29⟩ := hr29.2 _ _ hn29
        have hT29 := tx_15 hBd hT21 hs29
        have hq29 := rdx_q hD29
        refine AW.istore_n X dX6_readHouse_32 (i := 3) rfl rfl ?_
        refine AW.aload_n X dX6_readHouse_33 (i := 0) rfl rfl ?_
        refine AW.getI X dX6_readHouse_34 fX6_21 rfl ox15 (rdx_f hD29) ?_
        refine AW.iconst X (v := -1) dX6_readHouse_37 rfl ?_
        refine AW.icmp_ne X (tgt := 51) dX6_readHouse_38 (by decide) (fun h38 => ?_) (fun h38 => ?_)
        · exact absurd rfl h38
        · refine AW.aload_n X dX6_readHouse_41 (i := 0) rfl rfl ?_
          refine AW.getR X dX6_readHouse_42 fX6_24 rfl ox15 (rdx_t hD29) ?_
          refine AW.iload_n X dX6_readHouse_45 (i := 2) rfl rfl ?_
          refine AW.iload_n X dX6_readHouse_46 (i := 3) rfl rfl ?_
          refine AW.callV X dX6_readHouse_47 lX6_112 cfX9 (c_X9_build (rdx_w hD29) hBd hT29 (by omega) (by omega) (by omega)) (ta_ob hBd) rfl rfl rfl rfl ⟨rfl, rfl⟩ (pI_k fun rb μb hb => ?_)
          refine AW.pop X dX6_readHouse_50 rfl ?_
          refine AW.vret X hQ dX6_readHouse_51 ⟨rfl, ?_⟩
          obtain ⟨rfl, hB1, hB2, hB3⟩ := hb
          have e : itH (enR n L) τ p0 p = .inr (buildT τ v21 v29, q29) := by simp [itH, *]
          exact pit_r e (((o15 hs21).tr (o15 hs29)).tr (oTR hB2)) (rdx_far hD29 hBd hB2 hB3) (hB1) (by omega)
  · have n9 := Nat.not_lt_of_le h9
    refine AW.aload_n X dX6_readHouse_12 (i := 0) rfl rfl ?_
    refine AW.iload_n X dX6_readHouse_13 (i := 1) rfl rfl ?_
    refine AW.putI X dX6_readHouse_14 fX6_21 rfl rfl ⟨rfl, rfl⟩ (by decide) ox15 ?_
    have Wb0 := (rdx_w hD)
    have Wb : WX (wI μ 15 5 (nI p0)).2.2 := Wb0
    refine AW.aload_n X dX6_readHouse_17 (i := 0) rfl rfl ?_
    refine AW.iconstN X 0 dX6_readHouse_18 rfl ?_
    refine AW.bipushN X 6 dX6_readHouse_19 rfl ?_
    refine AW.callV X dX6_readHouse_21 lX6_63 cfX6 (cb_readNumber Wb (show (wI μ 15 5 (nI p0)).1 15 5 = nI p0 by simp [wI]) (by omega)) ox15 rfl rfl rfl rfl ⟨rfl, rfl⟩ (pR_k ?_)
    refine AW.istore_n X dX6_readHouse_24 (i := 2) rfl rfl ?_
    refine AW.aload_n X dX6_readHouse_25 (i := 0) rfl rfl ?_
    refine AW.iconstN X 0 dX6_readHouse_26 rfl ?_
    refine AW.bipushN X 9 dX6_readHouse_27 rfl ?_
    refine AW.callV X dX6_readHouse_29 lX6_63 cfX6 (cb_readNumber Wb (show (wI μ 15 5 (nI p0)).1 15 5 = nI p0 by simp [wI]) (by omega)) ox15 rfl rfl rfl rfl ⟨rfl, rfl⟩ (pR_k ?_)
    refine AW.istore_n X dX6_readHouse_32 (i := 3) rfl rfl ?_
    refine AW.aload_n X dX6_readHouse_33 (i := 0) rfl rfl ?_
    refine AW.getI X dX6_readHouse_34 fX6_21 rfl ox15 (show (wI μ 15 5 (nI p0)).1 15 5 = nI p0 by simp [wI]) ?_
    refine AW.iconst X (v := -1) dX6_readHouse_37 rfl ?_
    refine AW.icmp_ne X (tgt := 51) dX6_readHouse_38 (by decide) (fun h38 => ?_) (fun h38 => ?_)
    · refine AW.vret X hQ dX6_readHouse_51 ⟨rfl, ?_⟩
      have e : itH (enR n L) τ p0 p = .inl p0 := by simp [itH, *]
      exact pit_l e (o15 s15) Wb (show (wI μ 15 5 (nI p0)).1 15 5 = nI p0 by simp [wI]) (by omega)
    · exact absurd h38 (nI_m1 (by omega))
set_option maxRecDepth 100000 in
set_option maxHeartbeats 4000000 in
theorem c_X6_readCoat {l : Launch} {δ : Dl} {b : Nat} {μ : Mm} {Bd s n p : Nat} {L : Nat → Int64} (hD : RDX μ Bd s n p L) (hBd : TA Bd) {τ : Tt} (hT : TX μ Bd τ)  : MCX l δ b yX6_readCoat cX6_readCoat 6 none 4 [.ref (b + 15)] μ (pV fun μ' => PIt μ Bd s n p L (itC (enR n L) τ p) μ') := by
  have hk := rdx_k hD
  have hq := rdx_q hD
  have bn := ti_n hT.1
  refine MC.intro ([some (.ref (b + 15)), none, none, none, none, none]) (by decide) rfl rfl fun κ Qc hl hQ X => ?_
  subst hl
  refine AW.aload_n X dX6_readCoat_0 (i := 0) rfl rfl ?_
  refine AW.iconstN X 0 dX6_readCoat_1 rfl ?_
  refine AW.aload_n X dX6_readCoat_2 (i := 0) rfl rfl ?_
  refine AW.getR X dX6_readCoat_3 fX6_24 rfl ox15 (rdx_t hD) ?_
  refine AW.getI X dX6_readCoat_6 fX6_109 rfl (ta_ob hBd) (tx_n hT) ?_
  refine AW.iconstN X 1 dX6_readCoat_9 rfl ?_
  refine AW.isub X dX6_readCoat_10 ?_
  rcases hn11 : rdN (enR n L) 0 (τ 6 0 0) p with k11 | ⟨v11, q11⟩
  · refine AW.callV X dX6_readCoat_11 lX6_63 cfX6 (c_X6_readNumber hD (lo := 0) (hx := (τ 6 0 0)) (by omega) (by omega) (dn_sub _)) ox15 rfl rfl rfl rfl ⟨rfl, rfl⟩ (pI_k fun r11 μ11 hr11 => ?_)
    obtain ⟨rfl, hs11, hf11, hk11⟩ := hr11.1 _ hn11
    have W11 := wx_same (rdx_w hD) hs11
    refine AW.istore_n X dX6_readCoat_14 (i := 1) rfl rfl ?_
    refine AW.aload_n X dX6_readCoat_15 (i := 0) rfl rfl ?_
    refine AW.getI X dX6_readCoat_16 fX6_21 rfl ox15 hf11 ?_
    refine AW.iconst X (v := -1) dX6_readCoat_19 rfl ?_
    refine AW.icmp_ne X (tgt := 48) dX6_readCoat_20 (by decide) (fun h20 => ?_) (fun h20 => ?_)
    · refine AW.aload_n X dX6_readCoat_48 (i := 0) rfl rfl ?_
      refine AW.iconstN X 0 dX6_readCoat_49 rfl ?_
      refine AW.bipushN X 7 dX6_readCoat_50 rfl ?_
      refine AW.callV X dX6_readCoat_52 lX6_63 cfX6 (cb_readNumber W11 hf11 (by omega)) ox15 rfl rfl rfl rfl ⟨rfl, rfl⟩ (pR_k ?_)
      refine AW.istore_n X dX6_readCoat_55 (i := 2) rfl rfl ?_
      refine AW.aload_n X dX6_readCoat_56 (i := 0) rfl rfl ?_
      refine AW.iconstN X 0 dX6_readCoat_57 rfl ?_
      refine AW.iconstN X 5 dX6_readCoat_58 rfl ?_
      refine AW.callV X dX6_readCoat_59 lX6_63 cfX6 (cb_readNumber W11 hf11 (by omega)) ox15 rfl rfl rfl rfl ⟨rfl, rfl⟩ (pR_k ?_)
      refine AW.istore_n X dX6_readCoat_62 (i := 3) rfl rfl ?_
      refine AW.aload_n X dX6_readCoat_63 (i := 0) rfl rfl ?_
      refine AW.iconstN X 1 dX6_readCoat_64 rfl ?_
      refine AW.bipushN X 9 dX6_readCoat_65 rfl ?_
      refine AW.callV X dX6_readCoat_67 lX6_63 cfX6 (cb_readNumber W11 hf11 (by omega)) ox15 rfl rfl rfl rfl ⟨rfl, rfl⟩ (pR_k ?_)
      refine AW.istore X dX6_readCoat_70 rfl ?_
      refine AW.aload_n X dX6_readCoat_72 (i := 0) rfl rfl ?_
      refine AW.iconstN X 0 dX6_readCoat_73 rfl ?_
      refine AW.bipushN X 11 dX6_readCoat_74 rfl ?_
      refine AW.callV X dX6_readCoat_76 lX6_63 cfX6 (cb_readNumber W11 hf11 (by omega)) ox15 rfl rfl rfl rfl ⟨rfl, rfl⟩ (pR_k ?_)
      refine AW.istore X dX6_readCoat_79 rfl ?_
      refine AW.aload_n X dX6_readCoat_81 (i := 0) rfl rfl ?_
      refine AW.getI X dX6_readCoat_82 fX6_21 rfl ox15 hf11 ?_
      refine AW.iconst X (v := -1) dX6_readCoat_85 rfl ?_
      refine AW.icmp_ne X (tgt := 115) dX6_readCoat_86 (by decide) (fun h86 => ?_) (fun h86 => ?_)
      · refine AW.vret X hQ dX6_readCoat_115 ⟨rfl, ?_⟩
        have e : itC (enR n L) τ p = .inl k11 := by simp [itC, *]
        exact pit_l e (o15 hs11) W11 hf11 (by omega)
      · exact absurd h86 (nI_m1 (by omega))
    · exact absurd h20 (nI_m1 (by omega))
  · refine AW.callV X dX6_readCoat_11 lX6_63 cfX6 (c_X6_readNumber hD (lo := 0) (hx := (τ 6 0 0)) (by omega) (by omega) (dn_sub _)) ox15 rfl rfl rfl rfl ⟨rfl, rfl⟩ (pI_k fun r11 μ11 hr11 => ?_)
    obtain ⟨rfl, hs11, hD11, ha11, hl11, hv11, hw11⟩ := hr11.2 _ _ hn11
    have hT11 := tx_15 hBd hT hs11
    have hq11 := rdx_q hD11
    refine AW.istore_n X dX6_readCoat_14 (i := 1) rfl rfl ?_
    refine AW.aload_n X dX6_readCoat_15 (i := 0) rfl rfl ?_
    refine AW.getI X dX6_readCoat_16 fX6_21 rfl ox15 (rdx_f hD11) ?_
    refine AW.iconst X (v := -1) dX6_readCoat_19 rfl ?_
    refine AW.icmp_ne X (tgt := 48) dX6_readCoat_20 (by decide) (fun h20 => ?_) (fun h20 => ?_)
    · exact absurd rfl h20
    · refine AW.aload_n X dX6_readCoat_23 (i := 0) rfl rfl ?_
      refine AW.getR X dX6_readCoat_24 fX6_24 rfl ox15 (rdx_t hD11) ?_
      refine AW.getR X dX6_readCoat_27 fX6_115 rfl (ta_ob hBd) (wx_fronts (rdx_w hD11) hBd) ?_
      refine AW.iload_n X dX6_readCoat_30 (i := 1) rfl rfl ?_
      refine AW.aaload X (r := (Bd + 4 + 7 * v11)) dX6_readCoat_31 rfl rfl (ta_f hBd) (n2_in (by omega) (by decide)) (by rw [n2_clamp (by omega)]; exact wx_front (rdx_w hD11) hBd (by omega)) ?_
      refine AW.getI X dX6_readCoat_32 fX6_119 rfl (fa_ob (fa_of hBd (by omega))) (hv_n (tx_h hT11 (by omega))) ?_
      have b8 := hi_n (tx_h hT11 (h := v11) (by omega)).1
      refine AW.bipushN X 8 dX6_readCoat_35 rfl ?_
      refine AW.icmp_ltN X (tgt := 48) dX6_readCoat_37 (by decide) (by omega) (by omega) (fun h37 => ?_) (fun h37 => ?_)
      · have g37 : ¬ 8 ≤ τ v11 0 2 := by omega
        have n37 := Nat.not_le_of_lt h37
        refine AW.aload_n X dX6_readCoat_48 (i := 0) rfl rfl ?_
        refine AW.iconstN X 0 dX6_readCoat_49 rfl ?_
        refine AW.bipushN X 7 dX6_readCoat_50 rfl ?_
        rcases hn52 : rdN (enR n L) 0 8 q11 with k52 | ⟨v52, q52⟩
        · refine AW.callV X dX6_readCoat_52 lX6_63 cfX6 (c_X6_readNumber hD11 (lo := 0) (hx := 8) (by omega) (by omega) (dn_s 7).symm) ox15 rfl rfl rfl rfl ⟨rfl, rfl⟩ (pI_k fun r52 μ52 hr52 => ?_)
          obtain ⟨rfl, hs52, hf52, hk52⟩ := hr52.1 _ hn52
          have W52 := wx_same (rdx_w hD11) hs52
          refine AW.istore_n X dX6_readCoat_55 (i := 2) rfl rfl ?_
          refine AW.aload_n X dX6_readCoat_56 (i := 0) rfl rfl ?_
          refine AW.iconstN X 0 dX6_readCoat_57 rfl ?_
          refine AW.iconstN X 5 dX6_readCoat_58 rfl ?_
          refine AW.callV X dX6_readCoat_59 lX6_63 cfX6 (cb_readNumber W52 hf52 (by omega)) ox15 rfl rfl rfl rfl ⟨rfl, rfl⟩ (pR_k ?_)
          refine AW.istore_n X dX6_readCoat_62 (i := 3) rfl rfl ?_
          refine AW.aload_n X dX6_readCoat_63 (i := 0) rfl rfl ?_
          refine AW.iconstN X 1 dX6_readCoat_64 rfl ?_
          refine AW.bipushN X 9 dX6_readCoat_65 rfl ?_
          refine AW.callV X dX6_readCoat_67 lX6_63 cfX6 (cb_readNumber W52 hf52 (by omega)) ox15 rfl rfl rfl rfl ⟨rfl, rfl⟩ (pR_k ?_)
          refine AW.istore X dX6_readCoat_70 rfl ?_
          refine AW.aload_n X dX6_readCoat_72 (i := 0) rfl rfl ?_
          refine AW.iconstN X 0 dX6_readCoat_73 rfl ?_
          refine AW.bipushN X 11 dX6_readCoat_74 rfl ?_
          refine AW.callV X dX6_readCoat_76 lX6_63 cfX6 (cb_readNumber W52 hf52 (by omega)) ox15 rfl rfl rfl rfl ⟨rfl, rfl⟩ (pR_k ?_)
          refine AW.istore X dX6_readCoat_79 rfl ?_
          refine AW.aload_n X dX6_readCoat_81 (i := 0) rfl rfl ?_
          refine AW.getI X dX6_readCoat_82 fX6_21 rfl ox15 hf52 ?_
          refine AW.iconst X (v := -1) dX6_readCoat_85 rfl ?_
          refine AW.icmp_ne X (tgt := 115) dX6_readCoat_86 (by decide) (fun h86 => ?_) (fun h86 => ?_)
          · refine AW.vret X hQ dX6_readCoat_115 ⟨rfl, ?_⟩
            have e : itC (enR n L) τ p = .inl k52 := by simp [itC, *]
            exact pit_l e ((o15 hs11).tr (o15 hs52)) W52 hf52 (by omega)
          · exact absurd h86 (nI_m1 (by omega))
        · refine AW.callV X dX6_readCoat_52 lX6_63 cfX6 (c_X6_readNumber hD11 (lo := 0) (hx := 8) (by omega) (by omega) (dn_s 7).symm) ox15 rfl rfl rfl rfl ⟨rfl, rfl⟩ (pI_k fun r52 μ52 hr52 => ?_)
          obtain ⟨rfl, hs52, hD52, ha52, hl52, hv52, hw52⟩ := hr52.2 _ _ hn52
          have hT52 := tx_15 hBd hT11 hs52
          have hq52 := rdx_q hD52
          refine AW.istore_n X dX6_readCoat_55 (i := 2) rfl rfl ?_
          refine AW.aload_n X dX6_readCoat_56 (i := 0) rfl rfl ?_
          refine AW.iconstN X 0 dX6_readCoat_57 rfl ?_
          refine AW.iconstN X 5 dX6_readCoat_58 rfl ?_
          rcases hn59 : rdN (enR n L) 0 6 q52 with k59 | ⟨v59, q59⟩
          · refine AW.callV X dX6_readCoat_59 lX6_63 cfX6 (c_X6_readNumber hD52 (lo := 0) (hx := 6) (by omega) (by omega) (dn_s 5).symm) ox15 rfl rfl rfl rfl ⟨rfl, rfl⟩ (pI_k fun r59 μ59 hr59 => ?_)
            obtain ⟨rfl, hs59, hf59, hk59⟩ := hr59.1 _ hn59
            have W59 := wx_same (rdx_w hD52) hs59
            refine AW.istore_n X dX6_readCoat_62 (i := 3) rfl rfl ?_
            refine AW.aload_n X dX6_readCoat_63 (i := 0) rfl rfl ?_
            refine AW.iconstN X 1 dX6_readCoat_64 rfl ?_
            refine AW.bipushN X 9 dX6_readCoat_65 rfl ?_
            refine AW.callV X dX6_readCoat_67 lX6_63 cfX6 (cb_readNumber W59 hf59 (by omega)) ox15 rfl rfl rfl rfl ⟨rfl, rfl⟩ (pR_k ?_)
            refine AW.istore X dX6_readCoat_70 rfl ?_
            refine AW.aload_n X dX6_readCoat_72 (i := 0) rfl rfl ?_
            refine AW.iconstN X 0 dX6_readCoat_73 rfl ?_
            refine AW.bipushN X 11 dX6_readCoat_74 rfl ?_
            refine AW.callV X dX6_readCoat_76 lX6_63 cfX6 (cb_readNumber W59 hf59 (by omega)) ox15 rfl rfl rfl rfl ⟨rfl, rfl⟩ (pR_k ?_)
            refine AW.istore X dX6_readCoat_79 rfl ?_
            refine AW.aload_n X dX6_readCoat_81 (i := 0) rfl rfl ?_
            refine AW.getI X dX6_readCoat_82 fX6_21 rfl ox15 hf59 ?_
            refine AW.iconst X (v := -1) dX6_readCoat_85 rfl ?_
            refine AW.icmp_ne X (tgt := 115) dX6_readCoat_86 (by decide) (fun h86 => ?_) (fun h86 => ?_)
            · refine AW.vret X hQ dX6_readCoat_115 ⟨rfl, ?_⟩
              have e : itC (enR n L) τ p = .inl k59 := by simp [itC, *]
              exact pit_l e (((o15 hs11).tr (o15 hs52)).tr (o15 hs59)) W59 hf59 (by omega)
            · exact absurd h86 (nI_m1 (by omega))
          · refine AW.callV X dX6_readCoat_59 lX6_63 cfX6 (c_X6_readNumber hD52 (lo := 0) (hx := 6) (by omega) (by omega) (dn_s 5).symm) ox15 rfl rfl rfl rfl ⟨rfl, rfl⟩ (pI_k fun r59 μ59 hr59 => ?_)
            obtain ⟨rfl, hs59, hD59, ha59, hl59, hv59, hw59⟩ := hr59.2 _ _ hn59
            have hT59 := tx_15 hBd hT52 hs59
            have hq59 := rdx_q hD59
            refine AW.istore_n X dX6_readCoat_62 (i := 3) rfl rfl ?_
            refine AW.aload_n X dX6_readCoat_63 (i := 0) rfl rfl ?_
            refine AW.iconstN X 1 dX6_readCoat_64 rfl ?_
            refine AW.bipushN X 9 dX6_readCoat_65 rfl ?_
            rcases hn67 : rdN (enR n L) 1 10 q59 with k67 | ⟨v67, q67⟩
            · refine AW.callV X dX6_readCoat_67 lX6_63 cfX6 (c_X6_readNumber hD59 (lo := 1) (hx := 10) (by omega) (by omega) (dn_s 9).symm) ox15 rfl rfl rfl rfl ⟨rfl, rfl⟩ (pI_k fun r67 μ67 hr67 => ?_)
              obtain ⟨rfl, hs67, hf67, hk67⟩ := hr67.1 _ hn67
              have W67 := wx_same (rdx_w hD59) hs67
              refine AW.istore X dX6_readCoat_70 rfl ?_
              refine AW.aload_n X dX6_readCoat_72 (i := 0) rfl rfl ?_
              refine AW.iconstN X 0 dX6_readCoat_73 rfl ?_
              refine AW.bipushN X 11 dX6_readCoat_74 rfl ?_
              refine AW.callV X dX6_readCoat_76 lX6_63 cfX6 (cb_readNumber W67 hf67 (by omega)) ox15 rfl rfl rfl rfl ⟨rfl, rfl⟩ (pR_k ?_)
              refine AW.istore X dX6_readCoat_79 rfl ?_
              refine AW.aload_n X dX6_readCoat_81 (i := 0) rfl rfl ?_
              refine AW.getI X dX6_readCoat_82 fX6_21 rfl ox15 hf67 ?_
              refine AW.iconst X (v := -1) dX6_readCoat_85 rfl ?_
              refine AW.icmp_ne X (tgt := 115) dX6_readCoat_86 (by decide) (fun h86 => ?_) (fun h86 => ?_)
              · refine AW.vret X hQ dX6_readCoat_115 ⟨rfl, ?_⟩
                have e : itC (enR n L) τ p = .inl k67 := by simp [itC, *]
                exact pit_l e ((((o15 hs11).tr (o15 hs52)).tr (o15 hs59)).tr (o15 hs67)) W67 hf67 (by omega)
              · exact absurd h86 (nI_m1 (by omega))
            · refine AW.callV X dX6_readCoat_67 lX6_63 cfX6 (c_X6_readNumber hD59 (lo := 1) (hx := 10) (by omega) (by omega) (dn_s 9).symm) ox15 rfl rfl rfl rfl ⟨rfl, rfl⟩ (pI_k fun r67 μ67 hr67 => ?_)
              obtain ⟨rfl, hs67, hD67, ha67, hl67, hv67, hw67⟩ := hr67.2 _ _ hn67
              have hT67 := tx_15 hBd hT59 hs67
              have hq67 := rdx_q hD67
              refine AW.istore X dX6_readCoat_70 rfl ?_
              refine AW.aload_n X dX6_readCoat_72 (i := 0) rfl rfl ?_
              refine AW.iconstN X 0 dX6_readCoat_73 rfl ?_
              refine AW.bipushN X 11 dX6_readCoat_74 rfl ?_
              rcases hn76 : rdN (enR n L) 0 12 q67 with k76 | ⟨v76, q76⟩
              · refine AW.callV X dX6_readCoat_76 lX6_63 cfX6 (c_X6_readNumber hD67 (lo := 0) (hx := 12) (by omega) (by omega) (dn_s 11).symm) ox15 rfl rfl rfl rfl ⟨rfl, rfl⟩ (pI_k fun r76 μ76 hr76 => ?_)
                obtain ⟨rfl, hs76, hf76, hk76⟩ := hr76.1 _ hn76
                have W76 := wx_same (rdx_w hD67) hs76
                refine AW.istore X dX6_readCoat_79 rfl ?_
                refine AW.aload_n X dX6_readCoat_81 (i := 0) rfl rfl ?_
                refine AW.getI X dX6_readCoat_82 fX6_21 rfl ox15 hf76 ?_
                refine AW.iconst X (v := -1) dX6_readCoat_85 rfl ?_
                refine AW.icmp_ne X (tgt := 115) dX6_readCoat_86 (by decide) (fun h86 => ?_) (fun h86 => ?_)
                · refine AW.vret X hQ dX6_readCoat_115 ⟨rfl, ?_⟩
                  have e : itC (enR n L) τ p = .inl k76 := by simp [itC, *]
                  exact pit_l e (((((o15 hs11).tr (o15 hs52)).tr (o15 hs59)).tr (o15 hs67)).tr (o15 hs76)) W76 hf76 (by omega)
                · exact absurd h86 (nI_m1 (by omega))
              · refine AW.callV X dX6_readCoat_76 lX6_63 cfX6 (c_X6_readNumber hD67 (lo := 0) (hx := 12) (by omega) (by omega) (dn_s 11).symm) ox15 rfl rfl rfl rfl ⟨rfl, rfl⟩ (pI_k fun r76 μ76 hr76 => ?_)
                obtain ⟨rfl, hs76, hD76, ha76, hl76, hv76, hw76⟩ := hr76.2 _ _ hn76
                have hT76 := tx_15 hBd hT67 hs76
                have hq76 := rdx_q hD76
                refine AW.istore X dX6_readCoat_79 rfl ?_
                refine AW.aload_n X dX6_readCoat_81 (i := 0) rfl rfl ?_
                refine AW.getI X dX6_readCoat_82 fX6_21 rfl ox15 (rdx_f hD76) ?_
                refine AW.iconst X (v := -1) dX6_readCoat_85 rfl ?_
                refine AW.icmp_ne X (tgt := 115) dX6_readCoat_86 (by decide) (fun h86 => ?_) (fun h86 => ?_)
                · exact absurd rfl h86
                · refine AW.aload_n X dX6_readCoat_89 (i := 0) rfl rfl ?_
                  refine AW.getR X dX6_readCoat_90 fX6_24 rfl ox15 (rdx_t hD76) ?_
                  refine AW.getR X dX6_readCoat_93 fX6_115 rfl (ta_ob hBd) (wx_fronts (rdx_w hD76) hBd) ?_
                  refine AW.iload_n X dX6_readCoat_96 (i := 1) rfl rfl ?_
                  refine AW.aaload X (r := (Bd + 4 + 7 * v11)) dX6_readCoat_97 rfl rfl (ta_f hBd) (n2_in (by omega) (by decide)) (by rw [n2_clamp (by omega)]; exact wx_front (rdx_w hD76) hBd (by omega)) ?_
                  refine AW.iload_n X dX6_readCoat_98 (i := 2) rfl rfl ?_
                  refine AW.iload_n X dX6_readCoat_99 (i := 3) rfl rfl ?_
                  refine AW.iload X dX6_readCoat_100 rfl ?_
                  refine AW.iload X dX6_readCoat_102 rfl ?_
                  refine AW.aload_n X dX6_readCoat_104 (i := 0) rfl rfl ?_
                  refine AW.getR X dX6_readCoat_105 fX6_24 rfl ox15 (rdx_t hD76) ?_
                  refine AW.getI X dX6_readCoat_108 fX6_124 rfl (ta_ob hBd) (tx_yr hT76) ?_
                  refine AW.callV X dX6_readCoat_111 lX6_127 cfX3 (c_X3_putOn (rdx_w hD76) (fa_of hBd (by omega)) (tx_h hT76 (by omega)) (by omega)) (fa_ob (fa_of hBd (by omega))) rfl rfl rfl rfl ⟨rfl, rfl⟩ (pI_k fun rb μb hp9 => ?_)
                  refine AW.pop X dX6_readCoat_114 rfl ?_
                  refine AW.vret X hQ dX6_readCoat_115 ⟨rfl, ?_⟩
                  obtain ⟨rfl, rfl⟩ := hp9
                  have hV9 := tx_h hT76 (h := v11) (by omega)
                  have f9 := tx_house hT76 (by omega) (put_same μ76 (Bd + 4 + 7 * v11) (τ v11 0 2) v52 v59 v67 v76 (τ 6 0 3)).same (hv_put (τ 6 0 3) hV9 (by omega) (by omega) (by omega) (by omega) (by omega) (by omega))
                  have s9 : Same (TR Bd) μ76 _ := ((put_same μ76 (Bd + 4 + 7 * v11) (τ v11 0 2) v52 v59 v67 v76 (τ 6 0 3)).mono (fr_tr (by omega))).same
                  have e : itC (enR n L) τ p = .inr (upH τ v11 (putV (τ v11) v52 v59 v67 v76 (τ 6 0 3)), q76) := by simp [itC, *]
                  exact pit_r e ((((((o15 hs11).tr (o15 hs52)).tr (o15 hs59)).tr (o15 hs67)).tr (o15 hs76)).tr (oTR s9)) (rdx_far hD76 hBd s9 hD76.1) (f9) (by omega)
      · have g37 : 8 ≤ τ v11 0 2 := h37
        have n37 := Nat.not_lt_of_le h37
        refine AW.aload_n X dX6_readCoat_40 (i := 0) rfl rfl ?_
        refine AW.aload_n X dX6_readCoat_41 (i := 0) rfl rfl ?_
        refine AW.getI X dX6_readCoat_42 fX6_18 rfl ox15 ha11 ?_
        refine AW.putI X dX6_readCoat_45 fX6_21 rfl rfl ⟨rfl, rfl⟩ (by decide) ox15 ?_
        have Wb0 := (rdx_w hD11)
        have Wb : WX (wI μ11 15 5 (nI (p + 1))).2.2 := Wb0
        refine AW.aload_n X dX6_readCoat_48 (i := 0) rfl rfl ?_
        refine AW.iconstN X 0 dX6_readCoat_49 rfl ?_
        refine AW.bipushN X 7 dX6_readCoat_50 rfl ?_
        refine AW.callV X dX6_readCoat_52 lX6_63 cfX6 (cb_readNumber Wb (show (wI μ11 15 5 (nI (p + 1))).1 15 5 = nI (p + 1) by simp [wI]) (by omega)) ox15 rfl rfl rfl rfl ⟨rfl, rfl⟩ (pR_k ?_)
        refine AW.istore_n X dX6_readCoat_55 (i := 2) rfl rfl ?_
        refine AW.aload_n X dX6_readCoat_56 (i := 0) rfl rfl ?_
        refine AW.iconstN X 0 dX6_readCoat_57 rfl ?_
        refine AW.iconstN X 5 dX6_readCoat_58 rfl ?_
        refine AW.callV X dX6_readCoat_59 lX6_63 cfX6 (cb_readNumber Wb (show (wI μ11 15 5 (nI (p + 1))).1 15 5 = nI (p + 1) by simp [wI]) (by omega)) ox15 rfl rfl rfl rfl ⟨rfl, rfl⟩ (pR_k ?_)
        refine AW.istore_n X dX6_readCoat_62 (i := 3) rfl rfl ?_
        refine AW.aload_n X dX6_readCoat_63 (i := 0) rfl rfl ?_
        refine AW.iconstN X 1 dX6_readCoat_64 rfl ?_
        refine AW.bipushN X 9 dX6_readCoat_65 rfl ?_
        refine AW.callV X dX6_readCoat_67 lX6_63 cfX6 (cb_readNumber Wb (show (wI μ11 15 5 (nI (p + 1))).1 15 5 = nI (p + 1) by simp [wI]) (by omega)) ox15 rfl rfl rfl rfl ⟨rfl, rfl⟩ (pR_k ?_)
        refine AW.istore X dX6_readCoat_70 rfl ?_
        refine AW.aload_n X dX6_readCoat_72 (i := 0) rfl rfl ?_
        refine AW.iconstN X 0 dX6_readCoat_73 rfl ?_
        refine AW.bipushN X 11 dX6_readCoat_74 rfl ?_
        refine AW.callV X dX6_readCoat_76 lX6_63 cfX6 (cb_readNumber Wb (show (wI μ11 15 5 (nI (p + 1))).1 15 5 = nI (p + 1) by simp [wI]) (by omega)) ox15 rfl rfl rfl rfl ⟨rfl, rfl⟩ (pR_k ?_)
        refine AW.istore X dX6_readCoat_79 rfl ?_
        refine AW.aload_n X dX6_readCoat_81 (i := 0) rfl rfl ?_
        refine AW.getI X dX6_readCoat_82 fX6_21 rfl ox15 (show (wI μ11 15 5 (nI (p + 1))).1 15 5 = nI (p + 1) by simp [wI]) ?_
        refine AW.iconst X (v := -1) dX6_readCoat_85 rfl ?_
        refine AW.icmp_ne X (tgt := 115) dX6_readCoat_86 (by decide) (fun h86 => ?_) (fun h86 => ?_)
        · refine AW.vret X hQ dX6_readCoat_115 ⟨rfl, ?_⟩
          have e : itC (enR n L) τ p = .inl (p + 1) := by simp [itC, *]
          exact pit_l e ((o15 hs11).tr (o15 s15)) Wb (show (wI μ11 15 5 (nI (p + 1))).1 15 5 = nI (p + 1) by simp [wI]) (by omega)
        · exact absurd h86 (nI_m1 (by omega))
set_option maxRecDepth 100000 in
set_option maxHeartbeats 4000000 in
theorem c_readHides {l : Launch} {δ : Dl} {b : Nat} {μ : Mm} {Bd s n p : Nat} {L : Nat → Int64} (hD : RDX μ Bd s n p L) (hBd : TA Bd) {τ : Tt} (hT : TX μ Bd τ)  : MCX l δ b yX6_readColour cX6_readColour 5 none 4 [.ref (b + 15), .ref (b + (Bd + 2)), .int (nI 9)] μ (pV fun μ' => PIt μ Bd s n p L (itK (enR n L) τ 1 10 p) μ') := by
  have hk := rdx_k hD
  have hq := rdx_q hD
  have bn := ti_n hT.1
  refine MC.intro ([some (.ref (b + 15)), some (.ref (b + (Bd + 2))), some (.int (nI 9)), none, none]) (by decide) rfl rfl fun κ Qc hl hQ X => ?_
  subst hl
  refine AW.aload_n X dX6_readColour_0 (i := 0) rfl rfl ?_
  refine AW.iconstN X 0 dX6_readColour_1 rfl ?_
  refine AW.iconstN X 5 dX6_readColour_2 rfl ?_
  rcases hn3 : rdN (enR n L) 0 6 p with k3 | ⟨v3, q3⟩
  · refine AW.callV X dX6_readColour_3 lX6_63 cfX6 (c_X6_readNumber hD (lo := 0) (hx := 6) (by omega) (by omega) (dn_s 5).symm) ox15 rfl rfl rfl rfl ⟨rfl, rfl⟩ (pI_k fun r3 μ3 hr3 => ?_)
    obtain ⟨rfl, hs3, hf3, hk3⟩ := hr3.1 _ hn3
    have W3 := wx_same (rdx_w hD) hs3
    refine AW.istore_n X dX6_readColour_6 (i := 3) rfl rfl ?_
    refine AW.aload_n X dX6_readColour_7 (i := 0) rfl rfl ?_
    refine AW.iconstN X 0 dX6_readColour_8 rfl ?_
    refine AW.iload_n X dX6_readColour_9 (i := 2) rfl rfl ?_
    refine AW.callV X dX6_readColour_10 lX6_63 cfX6 (cb_readNumber W3 hf3 (by omega)) ox15 rfl rfl rfl rfl ⟨rfl, rfl⟩ (pR_k ?_)
    refine AW.istore X dX6_readColour_13 rfl ?_
    refine AW.aload_n X dX6_readColour_15 (i := 0) rfl rfl ?_
    refine AW.getI X dX6_readColour_16 fX6_21 rfl ox15 hf3 ?_
    refine AW.iconst X (v := -1) dX6_readColour_19 rfl ?_
    refine AW.icmp_ne X (tgt := 28) dX6_readColour_20 (by decide) (fun h20 => ?_) (fun h20 => ?_)
    · refine AW.vret X hQ dX6_readColour_28 ⟨rfl, ?_⟩
      have e : itK (enR n L) τ 1 10 p = .inl k3 := by simp [itK, *]
      exact pit_l e (o15 hs3) W3 hf3 (by omega)
    · exact absurd h20 (nI_m1 (by omega))
  · refine AW.callV X dX6_readColour_3 lX6_63 cfX6 (c_X6_readNumber hD (lo := 0) (hx := 6) (by omega) (by omega) (dn_s 5).symm) ox15 rfl rfl rfl rfl ⟨rfl, rfl⟩ (pI_k fun r3 μ3 hr3 => ?_)
    obtain ⟨rfl, hs3, hD3, ha3, hl3, hv3, hw3⟩ := hr3.2 _ _ hn3
    have hT3 := tx_15 hBd hT hs3
    have hq3 := rdx_q hD3
    refine AW.istore_n X dX6_readColour_6 (i := 3) rfl rfl ?_
    refine AW.aload_n X dX6_readColour_7 (i := 0) rfl rfl ?_
    refine AW.iconstN X 0 dX6_readColour_8 rfl ?_
    refine AW.iload_n X dX6_readColour_9 (i := 2) rfl rfl ?_
    rcases hn10 : rdN (enR n L) 0 10 q3 with k10 | ⟨v10, q10⟩
    · refine AW.callV X dX6_readColour_10 lX6_63 cfX6 (c_X6_readNumber hD3 (lo := 0) (hx := 10) (by omega) (by omega) (dn_s 9).symm) ox15 rfl rfl rfl rfl ⟨rfl, rfl⟩ (pI_k fun r10 μ10 hr10 => ?_)
      obtain ⟨rfl, hs10, hf10, hk10⟩ := hr10.1 _ hn10
      have W10 := wx_same (rdx_w hD3) hs10
      refine AW.istore X dX6_readColour_13 rfl ?_
      refine AW.aload_n X dX6_readColour_15 (i := 0) rfl rfl ?_
      refine AW.getI X dX6_readColour_16 fX6_21 rfl ox15 hf10 ?_
      refine AW.iconst X (v := -1) dX6_readColour_19 rfl ?_
      refine AW.icmp_ne X (tgt := 28) dX6_readColour_20 (by decide) (fun h20 => ?_) (fun h20 => ?_)
      · refine AW.vret X hQ dX6_readColour_28 ⟨rfl, ?_⟩
        have e : itK (enR n L) τ 1 10 p = .inl k10 := by simp [itK, *]
        exact pit_l e ((o15 hs3).tr (o15 hs10)) W10 hf10 (by omega)
      · exact absurd h20 (nI_m1 (by omega))
    · refine AW.callV X dX6_readColour_10 lX6_63 cfX6 (c_X6_readNumber hD3 (lo := 0) (hx := 10) (by omega) (by omega) (dn_s 9).symm) ox15 rfl rfl rfl rfl ⟨rfl, rfl⟩ (pI_k fun r10 μ10 hr10 => ?_)
      obtain ⟨rfl, hs10, hD10, ha10, hl10, hv10, hw10⟩ := hr10.2 _ _ hn10
      have hT10 := tx_15 hBd hT3 hs10
      have hq10 := rdx_q hD10
      refine AW.istore X dX6_readColour_13 rfl ?_
      refine AW.aload_n X dX6_readColour_15 (i := 0) rfl rfl ?_
      refine AW.getI X dX6_readColour_16 fX6_21 rfl ox15 (rdx_f hD10) ?_
      refine AW.iconst X (v := -1) dX6_readColour_19 rfl ?_
      refine AW.icmp_ne X (tgt := 28) dX6_readColour_20 (by decide) (fun h20 => ?_) (fun h20 => ?_)
      · exact absurd rfl h20
      · refine AW.aload_n X dX6_readColour_23 (i := 1) rfl rfl ?_
        refine AW.iload_n X dX6_readColour_24 (i := 3) rfl rfl ?_
        refine AW.iload X dX6_readColour_25 rfl ?_
        refine AW.iastore X dX6_readColour_27 (by decide) (ta_h hBd) (n2_in (by omega) (by decide)) ?_
        rw [n2_clamp (by omega)]
        refine AW.vret X hQ dX6_readColour_28 ⟨rfl, ?_⟩
        have f9 := tx_pal hT10 1 v3 v10 (by decide) (by omega) ⟨fun _ => by omega, fun _ => by omega⟩
        have s9 : Same (TR Bd) μ10 _ := (SameI.wI (μ := μ10) (o := Bd + 2) (k := v3) (v := nI v10) (show TR Bd (Bd + 2) from ⟨by omega, by omega⟩)).same
        have e : itK (enR n L) τ 1 10 p = .inr (upS τ 1 v3 v10, q10) := by simp [itK, *]
        exact pit_r e (((o15 hs3).tr (o15 hs10)).tr (oTR s9)) (rdx_far hD10 hBd s9 hD10.1) (f9) (by omega)
set_option maxRecDepth 100000 in
set_option maxHeartbeats 4000000 in
theorem c_readCosts {l : Launch} {δ : Dl} {b : Nat} {μ : Mm} {Bd s n p : Nat} {L : Nat → Int64} (hD : RDX μ Bd s n p L) (hBd : TA Bd) {τ : Tt} (hT : TX μ Bd τ)  : MCX l δ b yX6_readColour cX6_readColour 5 none 4 [.ref (b + 15), .ref (b + (Bd + 3)), .int (nI 99)] μ (pV fun μ' => PIt μ Bd s n p L (itK (enR n L) τ 2 100 p) μ') := by
  have hk := rdx_k hD
  have hq := rdx_q hD
  have bn := ti_n hT.1
  refine MC.intro ([some (.ref (b + 15)), some (.ref (b + (Bd + 3))), some (.int (nI 99)), none, none]) (by decide) rfl rfl fun κ Qc hl hQ X => ?_
  subst hl
  refine AW.aload_n X dX6_readColour_0 (i := 0) rfl rfl ?_
  refine AW.iconstN X 0 dX6_readColour_1 rfl ?_
  refine AW.iconstN X 5 dX6_readColour_2 rfl ?_
  rcases hn3 : rdN (enR n L) 0 6 p with k3 | ⟨v3, q3⟩
  · refine AW.callV X dX6_readColour_3 lX6_63 cfX6 (c_X6_readNumber hD (lo := 0) (hx := 6) (by omega) (by omega) (dn_s 5).symm) ox15 rfl rfl rfl rfl ⟨rfl, rfl⟩ (pI_k fun r3 μ3 hr3 => ?_)
    obtain ⟨rfl, hs3, hf3, hk3⟩ := hr3.1 _ hn3
    have W3 := wx_same (rdx_w hD) hs3
    refine AW.istore_n X dX6_readColour_6 (i := 3) rfl rfl ?_
    refine AW.aload_n X dX6_readColour_7 (i := 0) rfl rfl ?_
    refine AW.iconstN X 0 dX6_readColour_8 rfl ?_
    refine AW.iload_n X dX6_readColour_9 (i := 2) rfl rfl ?_
    refine AW.callV X dX6_readColour_10 lX6_63 cfX6 (cb_readNumber W3 hf3 (by omega)) ox15 rfl rfl rfl rfl ⟨rfl, rfl⟩ (pR_k ?_)
    refine AW.istore X dX6_readColour_13 rfl ?_
    refine AW.aload_n X dX6_readColour_15 (i := 0) rfl rfl ?_
    refine AW.getI X dX6_readColour_16 fX6_21 rfl ox15 hf3 ?_
    refine AW.iconst X (v := -1) dX6_readColour_19 rfl ?_
    refine AW.icmp_ne X (tgt := 28) dX6_readColour_20 (by decide) (fun h20 => ?_) (fun h20 => ?_)
    · refine AW.vret X hQ dX6_readColour_28 ⟨rfl, ?_⟩
      have e : itK (enR n L) τ 2 100 p = .inl k3 := by simp [itK, *]
      exact pit_l e (o15 hs3) W3 hf3 (by omega)
    · exact absurd h20 (nI_m1 (by omega))
  · refine AW.callV X dX6_readColour_3 lX6_63 cfX6 (c_X6_readNumber hD (lo := 0) (hx := 6) (by omega) (by omega) (dn_s 5).symm) ox15 rfl rfl rfl rfl ⟨rfl, rfl⟩ (pI_k fun r3 μ3 hr3 => ?_)
    obtain ⟨rfl, hs3, hD3, ha3, hl3, hv3, hw3⟩ := hr3.2 _ _ hn3
    have hT3 := tx_15 hBd hT hs3
    have hq3 := rdx_q hD3
    refine AW.istore_n X dX6_readColour_6 (i := 3) rfl rfl ?_
    refine AW.aload_n X dX6_readColour_7 (i := 0) rfl rfl ?_
    refine AW.iconstN X 0 dX6_readColour_8 rfl ?_
    refine AW.iload_n X dX6_readColour_9 (i := 2) rfl rfl ?_
    rcases hn10 : rdN (enR n L) 0 100 q3 with k10 | ⟨v10, q10⟩
    · refine AW.callV X dX6_readColour_10 lX6_63 cfX6 (c_X6_readNumber hD3 (lo := 0) (hx := 100) (by omega) (by omega) (dn_s 99).symm) ox15 rfl rfl rfl rfl ⟨rfl, rfl⟩ (pI_k fun r10 μ10 hr10 => ?_)
      obtain ⟨rfl, hs10, hf10, hk10⟩ := hr10.1 _ hn10
      have W10 := wx_same (rdx_w hD3) hs10
      refine AW.istore X dX6_readColour_13 rfl ?_
      refine AW.aload_n X dX6_readColour_15 (i := 0) rfl rfl ?_
      refine AW.getI X dX6_readColour_16 fX6_21 rfl ox15 hf10 ?_
      refine AW.iconst X (v := -1) dX6_readColour_19 rfl ?_
      refine AW.icmp_ne X (tgt := 28) dX6_readColour_20 (by decide) (fun h20 => ?_) (fun h20 => ?_)
      · refine AW.vret X hQ dX6_readColour_28 ⟨rfl, ?_⟩
        have e : itK (enR n L) τ 2 100 p = .inl k10 := by simp [itK, *]
        exact pit_l e ((o15 hs3).tr (o15 hs10)) W10 hf10 (by omega)
      · exact absurd h20 (nI_m1 (by omega))
    · refine AW.callV X dX6_readColour_10 lX6_63 cfX6 (c_X6_readNumber hD3 (lo := 0) (hx := 100) (by omega) (by omega) (dn_s 99).symm) ox15 rfl rfl rfl rfl ⟨rfl, rfl⟩ (pI_k fun r10 μ10 hr10 => ?_)
      obtain ⟨rfl, hs10, hD10, ha10, hl10, hv10, hw10⟩ := hr10.2 _ _ hn10
      have hT10 := tx_15 hBd hT3 hs10
      have hq10 := rdx_q hD10
      refine AW.istore X dX6_readColour_13 rfl ?_
      refine AW.aload_n X dX6_readColour_15 (i := 0) rfl rfl ?_
      refine AW.getI X dX6_readColour_16 fX6_21 rfl ox15 (rdx_f hD10) ?_
      refine AW.iconst X (v := -1) dX6_readColour_19 rfl ?_
      refine AW.icmp_ne X (tgt := 28) dX6_readColour_20 (by decide) (fun h20 => ?_) (fun h20 => ?_)
      · exact absurd rfl h20
      · refine AW.aload_n X dX6_readColour_23 (i := 1) rfl rfl ?_
        refine AW.iload_n X dX6_readColour_24 (i := 3) rfl rfl ?_
        refine AW.iload X dX6_readColour_25 rfl ?_
        refine AW.iastore X dX6_readColour_27 (by decide) (ta_c hBd) (n2_in (by omega) (by decide)) ?_
        rw [n2_clamp (by omega)]
        refine AW.vret X hQ dX6_readColour_28 ⟨rfl, ?_⟩
        have f9 := tx_pal hT10 2 v3 v10 (by decide) (by omega) ⟨fun _ => by omega, fun _ => by omega⟩
        have s9 : Same (TR Bd) μ10 _ := (SameI.wI (μ := μ10) (o := Bd + 3) (k := v3) (v := nI v10) (show TR Bd (Bd + 3) from ⟨by omega, by omega⟩)).same
        have e : itK (enR n L) τ 2 100 p = .inr (upS τ 2 v3 v10, q10) := by simp [itK, *]
        exact pit_r e (((o15 hs3).tr (o15 hs10)).tr (oTR s9)) (rdx_far hD10 hBd s9 hD10.1) (f9) (by omega)
set_option maxRecDepth 100000 in
set_option maxHeartbeats 4000000 in
theorem c_X6_readScratch {l : Launch} {δ : Dl} {b : Nat} {μ : Mm} {Bd s n p : Nat} {L : Nat → Int64} (hD : RDX μ Bd s n p L) (hBd : TA Bd) {τ : Tt} (hT : TX μ Bd τ)  : MCX l δ b yX6_readScratch cX6_readScratch 3 none 4 [.ref (b + 15)] μ (pV fun μ' => PIt μ Bd s n p L (itS (enR n L) τ p) μ') := by
  have hk := rdx_k hD
  have hq := rdx_q hD
  have bn := ti_n hT.1
  refine MC.intro ([some (.ref (b + 15)), none, none]) (by decide) rfl rfl fun κ Qc hl hQ X => ?_
  subst hl
  refine AW.aload_n X dX6_readScratch_0 (i := 0) rfl rfl ?_
  refine AW.iconstN X 0 dX6_readScratch_1 rfl ?_
  refine AW.aload_n X dX6_readScratch_2 (i := 0) rfl rfl ?_
  refine AW.getR X dX6_readScratch_3 fX6_24 rfl ox15 (rdx_t hD) ?_
  refine AW.getI X dX6_readScratch_6 fX6_109 rfl (ta_ob hBd) (tx_n hT) ?_
  refine AW.iconstN X 1 dX6_readScratch_9 rfl ?_
  refine AW.isub X dX6_readScratch_10 ?_
  rcases hn11 : rdN (enR n L) 0 (τ 6 0 0) p with k11 | ⟨v11, q11⟩
  · refine AW.callV X dX6_readScratch_11 lX6_63 cfX6 (c_X6_readNumber hD (lo := 0) (hx := (τ 6 0 0)) (by omega) (by omega) (dn_sub _)) ox15 rfl rfl rfl rfl ⟨rfl, rfl⟩ (pI_k fun r11 μ11 hr11 => ?_)
    obtain ⟨rfl, hs11, hf11, hk11⟩ := hr11.1 _ hn11
    have W11 := wx_same (rdx_w hD) hs11
    refine AW.istore_n X dX6_readScratch_14 (i := 1) rfl rfl ?_
    refine AW.aload_n X dX6_readScratch_15 (i := 0) rfl rfl ?_
    refine AW.iconstN X 0 dX6_readScratch_16 rfl ?_
    refine AW.bipushN X 11 dX6_readScratch_17 rfl ?_
    refine AW.callV X dX6_readScratch_19 lX6_63 cfX6 (cb_readNumber W11 hf11 (by omega)) ox15 rfl rfl rfl rfl ⟨rfl, rfl⟩ (pR_k ?_)
    refine AW.istore_n X dX6_readScratch_22 (i := 2) rfl rfl ?_
    refine AW.aload_n X dX6_readScratch_23 (i := 0) rfl rfl ?_
    refine AW.getI X dX6_readScratch_24 fX6_21 rfl ox15 hf11 ?_
    refine AW.iconst X (v := -1) dX6_readScratch_27 rfl ?_
    refine AW.icmp_ne X (tgt := 56) dX6_readScratch_28 (by decide) (fun h28 => ?_) (fun h28 => ?_)
    · refine AW.vret X hQ dX6_readScratch_56 ⟨rfl, ?_⟩
      have e : itS (enR n L) τ p = .inl k11 := by simp [itS, *]
      exact pit_l e (o15 hs11) W11 hf11 (by omega)
    · exact absurd h28 (nI_m1 (by omega))
  · refine AW.callV X dX6_readScratch_11 lX6_63 cfX6 (c_X6_readNumber hD (lo := 0) (hx := (τ 6 0 0)) (by omega) (by omega) (dn_sub _)) ox15 rfl rfl rfl rfl ⟨rfl, rfl⟩ (pI_k fun r11 μ11 hr11 => ?_)
    obtain ⟨rfl, hs11, hD11, ha11, hl11, hv11, hw11⟩ := hr11.2 _ _ hn11
    have hT11 := tx_15 hBd hT hs11
    have hq11 := rdx_q hD11
    refine AW.istore_n X dX6_readScratch_14 (i := 1) rfl rfl ?_
    refine AW.aload_n X dX6_readScratch_15 (i := 0) rfl rfl ?_
    refine AW.iconstN X 0 dX6_readScratch_16 rfl ?_
    refine AW.bipushN X 11 dX6_readScratch_17 rfl ?_
    rcases hn19 : rdN (enR n L) 0 12 q11 with k19 | ⟨v19, q19⟩
    · refine AW.callV X dX6_readScratch_19 lX6_63 cfX6 (c_X6_readNumber hD11 (lo := 0) (hx := 12) (by omega) (by omega) (dn_s 11).symm) ox15 rfl rfl rfl rfl ⟨rfl, rfl⟩ (pI_k fun r19 μ19 hr19 => ?_)
      obtain ⟨rfl, hs19, hf19, hk19⟩ := hr19.1 _ hn19
      have W19 := wx_same (rdx_w hD11) hs19
      refine AW.istore_n X dX6_readScratch_22 (i := 2) rfl rfl ?_
      refine AW.aload_n X dX6_readScratch_23 (i := 0) rfl rfl ?_
      refine AW.getI X dX6_readScratch_24 fX6_21 rfl ox15 hf19 ?_
      refine AW.iconst X (v := -1) dX6_readScratch_27 rfl ?_
      refine AW.icmp_ne X (tgt := 56) dX6_readScratch_28 (by decide) (fun h28 => ?_) (fun h28 => ?_)
      · refine AW.vret X hQ dX6_readScratch_56 ⟨rfl, ?_⟩
        have e : itS (enR n L) τ p = .inl k19 := by simp [itS, *]
        exact pit_l e ((o15 hs11).tr (o15 hs19)) W19 hf19 (by omega)
      · exact absurd h28 (nI_m1 (by omega))
    · refine AW.callV X dX6_readScratch_19 lX6_63 cfX6 (c_X6_readNumber hD11 (lo := 0) (hx := 12) (by omega) (by omega) (dn_s 11).symm) ox15 rfl rfl rfl rfl ⟨rfl, rfl⟩ (pI_k fun r19 μ19 hr19 => ?_)
      obtain ⟨rfl, hs19, hD19, ha19, hl19, hv19, hw19⟩ := hr19.2 _ _ hn19
      have hT19 := tx_15 hBd hT11 hs19
      have hq19 := rdx_q hD19
      refine AW.istore_n X dX6_readScratch_22 (i := 2) rfl rfl ?_
      refine AW.aload_n X dX6_readScratch_23 (i := 0) rfl rfl ?_
      refine AW.getI X dX6_readScratch_24 fX6_21 rfl ox15 (rdx_f hD19) ?_
      refine AW.iconst X (v := -1) dX6_readScratch_27 rfl ?_
      refine AW.icmp_ne X (tgt := 56) dX6_readScratch_28 (by decide) (fun h28 => ?_) (fun h28 => ?_)
      · exact absurd rfl h28
      · refine AW.aload_n X dX6_readScratch_31 (i := 0) rfl rfl ?_
        refine AW.getR X dX6_readScratch_32 fX6_24 rfl ox15 (rdx_t hD19) ?_
        refine AW.getR X dX6_readScratch_35 fX6_115 rfl (ta_ob hBd) (wx_fronts (rdx_w hD19) hBd) ?_
        refine AW.iload_n X dX6_readScratch_38 (i := 1) rfl rfl ?_
        refine AW.aaload X (r := (Bd + 4 + 7 * v11)) dX6_readScratch_39 rfl rfl (ta_f hBd) (n2_in (by omega) (by decide)) (by rw [n2_clamp (by omega)]; exact wx_front (rdx_w hD19) hBd (by omega)) ?_
        refine AW.iload_n X dX6_readScratch_40 (i := 2) rfl rfl ?_
        have hV9 := tx_h hT19 (h := v11) (by omega)
        have b8 := hi_n hV9.1
        rcases hx41 : upmost (τ v11) v19 (τ v11 0 2) with _ | co
        · refine AW.callV X dX6_readScratch_41 lX6_131 cfX3 (c_X3_takeUppermost (rdx_w hD19) (fa_of hBd (by omega)) hV9 (by omega)) (fa_ob (fa_of hBd (by omega))) rfl rfl rfl rfl ⟨rfl, rfl⟩ (pI_k fun r41 μ41 hr41 => ?_)
          rw [hx41] at hr41
          obtain ⟨rfl, e41⟩ := hr41
          rw [e41]
          refine AW.iconst X (v := -1) dX6_readScratch_44 rfl ?_
          refine AW.icmp_ne X (tgt := 56) dX6_readScratch_45 (by decide) (fun h45 => ?_) (fun h45 => ?_)
          · exact absurd rfl h45
          · refine AW.aload_n X dX6_readScratch_48 (i := 0) rfl rfl ?_
            refine AW.aload_n X dX6_readScratch_49 (i := 0) rfl rfl ?_
            refine AW.getI X dX6_readScratch_50 fX6_18 rfl ox15 ha19 ?_
            refine AW.putI X dX6_readScratch_53 fX6_21 rfl rfl ⟨rfl, rfl⟩ (by decide) ox15 ?_
            have Wb0 := (rdx_w hD19)
            have Wb : WX (wI μ19 15 5 (nI (q11 + 1))).2.2 := Wb0
            refine AW.vret X hQ dX6_readScratch_56 ⟨rfl, ?_⟩
            have e : itS (enR n L) τ p = .inl (q11 + 1) := by simp [itS, *]
            exact pit_l e (((o15 hs11).tr (o15 hs19)).tr (o15 s15)) Wb (show (wI μ19 15 5 (nI (q11 + 1))).1 15 5 = nI (q11 + 1) by simp [wI]) (by omega)
        · refine AW.callV X dX6_readScratch_41 lX6_131 cfX3 (c_X3_takeUppermost (rdx_w hD19) (fa_of hBd (by omega)) hV9 (by omega)) (fa_ob (fa_of hBd (by omega))) rfl rfl rfl rfl ⟨rfl, rfl⟩ (pI_k fun r41 μ41 hr41 => ?_)
          rw [hx41] at hr41
          obtain ⟨rfl, rfl⟩ := hr41
          have b9 := upmost_lt hx41
          refine AW.iconst X (v := -1) dX6_readScratch_44 rfl ?_
          refine AW.icmp_ne X (tgt := 56) dX6_readScratch_45 (by decide) (fun h45 => ?_) (fun h45 => ?_)
          · refine AW.vret X hQ dX6_readScratch_56 ⟨rfl, ?_⟩
            have s8 := SameI.wI (μ := μ19) (o := Bd + 4 + 7 * v11 + 6) (k := v19) (v := nI (τ v11 6 v19 ||| 2 ^ co)) (show FR (Bd + 4 + 7 * v11) (Bd + 4 + 7 * v11 + 6) from ⟨by omega, by omega⟩)
            have f9 := tx_house hT19 (by omega) s8.same (hv_gone hV9 (k := v19) (x := τ v11 6 v19 ||| 2 ^ co) (or_lt8 (hi_go hV9.1 (by omega)) (pow_lt8 (by omega))))
            have s9 : Same (TR Bd) μ19 _ := (s8.mono (fr_tr (by omega))).same
            have e : itS (enR n L) τ p = .inr (upH τ v11 (upV (τ v11) 6 v19 (τ v11 6 v19 ||| 2 ^ co)), q19) := by simp [itS, *]
            exact pit_r e (((o15 hs11).tr (o15 hs19)).tr (oTR s9)) (rdx_far hD19 hBd s9 hD19.1) (f9) (by omega)
          · exact absurd h45 (nI_m1 (by omega))
