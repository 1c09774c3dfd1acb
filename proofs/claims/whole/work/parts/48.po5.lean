/-! houses, colours, coats: what each call answers -/
def S_house (S : St) (k a : Int32) : Int32 × St :=
  if inr k 7 = false then ref S 1 0 else if a < 0 ∨ nI 9 < a then ref S 6 0 else if 6 ≤ S.1 6 0 0 then ref S 7 0 else (nI (S.1 6 0 0), tU S (buildT S.1 (cl k) (cl a)))
def hOf (V : Vt) : Nat → Nat
  | 0 => V 0 0
  | 1 => V 0 1
  | 2 => V 0 2
  | 3 => skin V
  | _ => livedTo V (V 0 2)
def S_houseOf (S : St) (h w : Int32) : Int32 × St := if inr h (S.1 6 0 0) = false ∨ inr w 5 = false then ref S 5 0 else (nI (hOf (S.1 (cl h)) (cl w)), S)
def S_colour (S : St) (c w v : Int32) : Int32 × St :=
  if inr c 6 = false then ref S 1 0 else if ¬ w = nI 0 ∧ ¬ w = nI 1 then ref S 5 0 else if v < 0 ∨ (if w = nI 0 then nI 9 else nI 99) < v then ref S 6 0
  else (nI (S.1 6 (if w = nI 0 then 1 else 2) (cl c)), tU S (upS S.1 (if w = nI 0 then 1 else 2) (cl c) (cl v)))
def S_ask (S : St) (w v : Int32) : Int32 × St :=
  if w = nI 0 then (if v < nI 1 then ref S 6 0 else if nI 999 < v then ref S 6 0 else (nI (S.1 6 0 1), tU S (upS S.1 0 1 (cl v))))
  else if w = nI 1 then (if v < nI 10 then ref S 6 0 else if nI 99 < v then ref S 6 0 else (nI (S.1 6 0 2), tU S (upS S.1 0 2 (cl v)))) else ref S 6 0
def S_coat (S : St) (h t c th g : Int32) : Int32 × St :=
  if inr h (S.1 6 0 0) = false ∨ inr t 8 = false ∨ inr c 6 = false then ref S 1 0 else if th < nI 1 ∨ nI 9 < th ∨ inr g 12 = false then ref S 6 0 else if 8 ≤ S.1 (cl h) 0 2 then ref S 7 0
  else (nI (S.1 (cl h) 0 2), tU S (upH S.1 (cl h) (putV (S.1 (cl h)) (cl t) (cl c) (cl th) (cl g) (S.1 6 0 3))))
def cOf (hd : Nat → Nat) (V : Vt) (c : Nat) : Nat → Nat
  | 0 => V 1 c
  | 1 => V 2 c
  | 2 => V 3 c
  | 3 => V 4 c
  | 4 => V 5 c
  | 5 => strength hd V c
  | _ => cellsTo V c 12
def S_coatOf (S : St) (h c w : Int32) : Int32 × St := if inr h (S.1 6 0 0) = false ∨ inr c (S.1 (cl h) 0 2) = false ∨ inr w 7 = false then ref S 5 0 else (nI (cOf (S.1 6 1) (S.1 (cl h)) (cl c) (cl w)), S)
def S_fault (S : St) : Int32 := dn (kk S 3 0)
theorem cls : cl (nI 0) = 0 ∧ cl (nI 1) = 1 ∧ cl (nI 2) = 2 ∧ cl (nI 3) = 3 ∧ cl (nI 4) = 4 ∧ cl (nI 5) = 5 ∧ cl (nI 6) = 6 := ⟨rfl, rfl, rfl, rfl, rfl, rfl, rfl⟩
set_option maxRecDepth 100000 in
set_option maxHeartbeats 4000000 in
theorem c_X11_show {l : Launch} {δ : Dl} {b : Nat} {μ : Mm} {S : St} (hR : RX μ S) {x : Int32} {y : Int32} : MCX l δ b yX11_show cX11_show 3 (some .int) 3 [.ref (b + 0), .int x, .int y] μ (pI fun r μ' => r = (S_show S x y).1 ∧ RX μ' (S_show S x y).2) := by
  obtain ⟨B, Bd, tb, hnow, hdr, hT⟩ := hR.2.2.1
  have W := rx_w hR
  have ta := two_ta tb
  have hB := ta.1
  have hBd := ta.2.1
  have bn := ti_n hT.1
  refine MC.intro ([some (.ref (b + 0)), some (.int x), some (.int y)]) (by decide) rfl rfl fun κ Qc hl hQ X => ?_
  subst hl
  refine AW.iload_n X dX11_show_0 (i := 1) rfl rfl ?_
  refine AW.bipushN X 8 dX11_show_1 rfl ?_
  refine AW.callS X dX11_show_3 lX11_91 (c_X11_outside) rfl rfl rfl rfl ⟨rfl, rfl⟩ (pR_k ?_)
  refine AW.if_neB X (tgt := 22) dX11_show_6 (by decide) (fun h6 => ?_) (fun h6 => ?_)
  · simp only [Bool.not_eq_true', Bool.not_eq_false'] at h6
    refine AW.aload_n X dX11_show_22 (i := 0) rfl rfl ?_
    refine AW.iconstN X 1 dX11_show_23 rfl ?_
    refine AW.callV X dX11_show_24 lX11_95 cfX11 (c_X11_refuse (k := 1) hR (by first | decide | omega)) ox0 rfl rfl rfl rfl ⟨rfl, rfl⟩ (pI_k fun r μ1 hr => ?_)
    refine AW.iret X hQ dX11_show_27 ⟨_, rfl, ?_⟩
    refine rx_of ?_ hr
    simp [S_show, *]
  · simp only [Bool.not_eq_true', Bool.not_eq_false'] at h6
    obtain ⟨s, hs, es⟩ := inr_of (x := x) (m := 8) (by omega) h6
    subst es
    have cs := cl_n (show s < 2147483648 by omega)
    refine AW.iload_n X dX11_show_9 (i := 2) rfl rfl ?_
    refine AW.iconst X (v := -1) dX11_show_10 rfl ?_
    refine AW.icmp_eq X (tgt := 28) dX11_show_11 (by decide) (fun h11 => ?_) (fun h11 => ?_)
    · subst h11
      refine AW.aload_n X dX11_show_28 (i := 0) rfl rfl ?_
      refine AW.getR X dX11_show_29 fX11_9 rfl ox0 (wx_held W) ?_
      refine AW.iload_n X dX11_show_32 (i := 1) rfl rfl ?_
      refine AW.iload_n X dX11_show_33 (i := 2) rfl rfl ?_
      refine AW.iastore X dX11_show_34 (by decide) ax1 (n2_in (by omega) (by decide)) ?_
      rw [n2_clamp (by omega)]
      refine AW.iload_n X dX11_show_35 (i := 2) rfl rfl ?_
      refine AW.iconst X (v := -1) dX11_show_36 rfl ?_
      refine AW.icmp_ne X (tgt := 44) dX11_show_37 (by decide) (fun h37 => ?_) (fun h37 => ?_)
      · exact absurd rfl h37
      · refine AW.iconstN X 0 dX11_show_40 rfl ?_
        refine AW.goto X (tgt := 45) dX11_show_41 (by decide) ?_
        refine AW.iret X hQ dX11_show_45 ⟨_, rfl, ?_⟩
        have f := rx_show (v := 0) hR hs (Or.inl rfl)
        rw [dn_0] at f
        exact rx_val (by simp [S_show, *]) f
    · refine AW.aload_n X dX11_show_14 (i := 0) rfl rfl ?_
      refine AW.iload_n X dX11_show_15 (i := 2) rfl rfl ?_
      refine AW.callV X dX11_show_16 lX11_123 cfX11 (c_X11_noHouse hR) ox0 rfl rfl rfl rfl ⟨rfl, rfl⟩ (pR_k ?_)
      refine AW.if_eqB X (tgt := 28) dX11_show_19 (by decide) (fun h19 => ?_) (fun h19 => ?_)
      · simp only [Bool.not_eq_true', Bool.not_eq_false'] at h19
        obtain ⟨c, hc, ec⟩ := inr_of (x := y) (m := (S.1 6 0 0)) (by omega) h19
        subst ec
        have cc := cl_n (show c < 2147483648 by omega)
        have nc := nI_m1 (a := c) (by omega)
        refine AW.aload_n X dX11_show_28 (i := 0) rfl rfl ?_
        refine AW.getR X dX11_show_29 fX11_9 rfl ox0 (wx_held W) ?_
        refine AW.iload_n X dX11_show_32 (i := 1) rfl rfl ?_
        refine AW.iload_n X dX11_show_33 (i := 2) rfl rfl ?_
        refine AW.iastore X dX11_show_34 (by decide) ax1 (n2_in (by omega) (by decide)) ?_
        rw [n2_clamp (by omega)]
        refine AW.iload_n X dX11_show_35 (i := 2) rfl rfl ?_
        refine AW.iconst X (v := -1) dX11_show_36 rfl ?_
        refine AW.icmp_ne X (tgt := 44) dX11_show_37 (by decide) (fun h37 => ?_) (fun h37 => ?_)
        · refine AW.iconstN X 1 dX11_show_44 rfl ?_
          refine AW.iret X hQ dX11_show_45 ⟨_, rfl, ?_⟩
          have f := rx_show (v := c + 1) hR hs (Or.inr ⟨by omega, by omega⟩)
          rw [dn_s] at f
          exact rx_val (by simp [S_show, *]) f
        · exact absurd h37 (nI_m1 (by omega))
      · simp only [Bool.not_eq_true', Bool.not_eq_false'] at h19
        refine AW.aload_n X dX11_show_22 (i := 0) rfl rfl ?_
        refine AW.iconstN X 1 dX11_show_23 rfl ?_
        refine AW.callV X dX11_show_24 lX11_95 cfX11 (c_X11_refuse (k := 1) hR (by first | decide | omega)) ox0 rfl rfl rfl rfl ⟨rfl, rfl⟩ (pI_k fun r μ1 hr => ?_)
        refine AW.iret X hQ dX11_show_27 ⟨_, rfl, ?_⟩
        refine rx_of ?_ hr
        simp [S_show, *]
set_option maxRecDepth 100000 in
set_option maxHeartbeats 4000000 in
theorem c_X11_holds {l : Launch} {δ : Dl} {b : Nat} {μ : Mm} {S : St} (hR : RX μ S) {x : Int32} : MCX l δ b yX11_holds cX11_holds 2 (some .int) 2 [.ref (b + 0), .int x] μ (pI fun r μ' => r = S_holds S x ∧ μ' = μ) := by
  obtain ⟨B, Bd, tb, hnow, hdr, hT⟩ := hR.2.2.1
  have W := rx_w hR
  have ta := two_ta tb
  have hB := ta.1
  have hBd := ta.2.1
  have bn := ti_n hT.1
  refine MC.intro ([some (.ref (b + 0)), some (.int x)]) (by decide) rfl rfl fun κ Qc hl hQ X => ?_
  subst hl
  refine AW.iload_n X dX11_holds_0 (i := 1) rfl rfl ?_
  refine AW.bipushN X 8 dX11_holds_1 rfl ?_
  refine AW.callS X dX11_holds_3 lX11_91 (c_X11_outside) rfl rfl rfl rfl ⟨rfl, rfl⟩ (pR_k ?_)
  refine AW.if_eqB X (tgt := 13) dX11_holds_6 (by decide) (fun h6 => ?_) (fun h6 => ?_)
  · simp only [Bool.not_eq_true', Bool.not_eq_false'] at h6
    obtain ⟨s, hs, es⟩ := inr_of (x := x) (m := 8) (by omega) h6
    subst es
    have cs := cl_n (show s < 2147483648 by omega)
    refine AW.aload_n X dX11_holds_13 (i := 0) rfl rfl ?_
    refine AW.getR X dX11_holds_14 fX11_9 rfl ox0 (wx_held W) ?_
    refine AW.iload_n X dX11_holds_17 (i := 1) rfl rfl ?_
    refine AW.iaload X dX11_holds_18 ax1 (n2_in (by omega) (by decide)) (v := (dn (kk S 0 s))) (by rw [n2_clamp (by omega)]; exact rx_held hR (by omega)) ?_
    refine AW.iret X hQ dX11_holds_19 ⟨_, rfl, ?_⟩
    exact ⟨by simp [S_holds, *], rfl⟩
  · simp only [Bool.not_eq_true', Bool.not_eq_false'] at h6
    refine AW.iconst X (v := -1) dX11_holds_9 rfl ?_
    refine AW.goto X (tgt := 19) dX11_holds_10 (by decide) ?_
    refine AW.iret X hQ dX11_holds_19 ⟨_, rfl, ?_⟩
    exact ⟨by simp [S_holds, *], rfl⟩
set_option maxRecDepth 100000 in
set_option maxHeartbeats 4000000 in
theorem c_X11_says {l : Launch} {δ : Dl} {b : Nat} {μ : Mm} {S : St} (hR : RX μ S) {x : Int32} {y : Int32} : MCX l δ b yX11_says cX11_says 4 (some .int) 6 [.ref (b + 0), .int x, .int y] μ (pI fun r μ' => r = (S_says S x y).1 ∧ RX μ' (S_says S x y).2) := by
  obtain ⟨B, Bd, tb, hnow, hdr, hT⟩ := hR.2.2.1
  have W := rx_w hR
  have ta := two_ta tb
  have hB := ta.1
  have hBd := ta.2.1
  have bn := ti_n hT.1
  refine MC.intro ([some (.ref (b + 0)), some (.int x), some (.int y), none]) (by decide) rfl rfl fun κ Qc hl hQ X => ?_
  subst hl
  refine AW.iload_n X dX11_says_0 (i := 1) rfl rfl ?_
  refine AW.bipushN X 8 dX11_says_1 rfl ?_
  refine AW.callS X dX11_says_3 lX11_91 (c_X11_outside) rfl rfl rfl rfl ⟨rfl, rfl⟩ (pR_k ?_)
  refine AW.if_neB X (tgt := 18) dX11_says_6 (by decide) (fun h6 => ?_) (fun h6 => ?_)
  · simp only [Bool.not_eq_true', Bool.not_eq_false'] at h6
    refine AW.aload_n X dX11_says_18 (i := 0) rfl rfl ?_
    refine AW.iconstN X 1 dX11_says_19 rfl ?_
    refine AW.callV X dX11_says_20 lX11_95 cfX11 (c_X11_refuse (k := 1) hR (by first | decide | omega)) ox0 rfl rfl rfl rfl ⟨rfl, rfl⟩ (pI_k fun r μ1 hr => ?_)
    refine AW.iret X hQ dX11_says_23 ⟨_, rfl, ?_⟩
    refine rx_of ?_ hr
    simp [S_says, *]
  · simp only [Bool.not_eq_true', Bool.not_eq_false'] at h6
    obtain ⟨s, hs, es⟩ := inr_of (x := x) (m := 8) (by omega) h6
    subst es
    have cs := cl_n (show s < 2147483648 by omega)
    refine AW.iload_n X dX11_says_9 (i := 2) rfl rfl ?_
    refine AW.bipushN X 7 dX11_says_10 rfl ?_
    refine AW.callS X dX11_says_12 lX11_91 (c_X11_outside) rfl rfl rfl rfl ⟨rfl, rfl⟩ (pR_k ?_)
    refine AW.if_eqB X (tgt := 24) dX11_says_15 (by decide) (fun h15 => ?_) (fun h15 => ?_)
    · simp only [Bool.not_eq_true', Bool.not_eq_false'] at h15
      obtain ⟨k, hk, ek⟩ := inr_of (x := y) (m := 7) (by omega) h15
      subst ek
      have ck := cl_n (show k < 2147483648 by omega)
      refine AW.aload_n X dX11_says_24 (i := 0) rfl rfl ?_
      refine AW.iload_n X dX11_says_25 (i := 1) rfl rfl ?_
      refine AW.callV X dX11_says_26 lX11_110 cfX11 (c_isRw hR (by omega)) ox0 rfl rfl rfl rfl ⟨rfl, rfl⟩ (pR_k ?_)
      refine AW.if_eqB X (tgt := 38) dX11_says_29 (by decide) (fun h29 => ?_) (fun h29 => ?_)
      · refine AW.aload_n X dX11_says_38 (i := 0) rfl rfl ?_
        refine AW.iload_n X dX11_says_39 (i := 1) rfl rfl ?_
        refine AW.callV X dX11_says_40 lX11_106 cfX11 (c_isH hR (by omega)) ox0 rfl rfl rfl rfl ⟨rfl, rfl⟩ (pR_k ?_)
        refine AW.if_neB X (tgt := 52) dX11_says_43 (by decide) (fun h43 => ?_) (fun h43 => ?_)
        · have k43 := hR.1.2.2.1 s hs
          have g43 := isH_t h43
          have hV := tx_h hT (h := kk S 0 s - 1) (by omega)
          have hKn := hV.1.1
          refine AW.aload_n X dX11_says_52 (i := 0) rfl rfl ?_
          refine AW.getR X dX11_says_53 fX11_81 rfl ox0 hnow ?_
          refine AW.getR X dX11_says_56 fX11_126 rfl (ta_ob hB) (wx_fronts W hB) ?_
          refine AW.aload_n X dX11_says_59 (i := 0) rfl rfl ?_
          refine AW.getR X dX11_says_60 fX11_9 rfl ox0 (wx_held W) ?_
          refine AW.iload_n X dX11_says_63 (i := 1) rfl rfl ?_
          refine AW.iaload X dX11_says_64 ax1 (n2_in (by omega) (by decide)) (v := (nI (kk S 0 s - 1))) (by rw [n2_clamp (by omega), rx_held hR hs, show kk S 0 s = (kk S 0 s - 1) + 1 by omega, dn_s]; rfl) ?_
          refine AW.aaload X (r := (B + 4 + 7 * (kk S 0 s - 1))) dX11_says_65 rfl rfl (ta_f hB) (n2_in (by omega) (by decide)) (by rw [n2_clamp (by omega)]; exact wx_front W hB (by omega)) ?_
          refine AW.astore_n X dX11_says_66 (i := 3) rfl rfl ?_
          refine AW.aload_n X dX11_says_67 (i := 3) rfl rfl ?_
          refine AW.getR X dX11_says_68 fX11_130 rfl (fa_ob (fa_of hB (by omega))) (hv_kind (tx_h hT (by omega))) ?_
          refine AW.iload_n X dX11_says_71 (i := 2) rfl rfl ?_
          refine AW.callS X dX11_says_72 lX11_136 (c_X11_isOf (by omega) (by omega)) rfl rfl rfl rfl ⟨rfl, rfl⟩ (pR_k ?_)
          refine AW.if_neB X (tgt := 84) dX11_says_75 (by decide) (fun h75 => ?_) (fun h75 => ?_)
          · refine AW.aload_n X dX11_says_84 (i := 0) rfl rfl ?_
            refine AW.aload_n X dX11_says_85 (i := 3) rfl rfl ?_
            refine AW.iload_n X dX11_says_86 (i := 2) rfl rfl ?_
            refine AW.callV X dX11_says_87 lX11_140 cfX11 (c_X11_saidBy hR (fa_of hB (by omega)) (tx_h hT (by omega)) (by omega)) ox0 rfl rfl rfl rfl ⟨rfl, rfl⟩ (pR_k ?_)
            refine AW.iret X hQ dX11_says_90 ⟨_, rfl, ?_⟩
            refine rx_val ?_ hR
            simp [S_says, *]
          · refine AW.aload_n X dX11_says_78 (i := 0) rfl rfl ?_
            refine AW.iconstN X 2 dX11_says_79 rfl ?_
            refine AW.callV X dX11_says_80 lX11_95 cfX11 (c_X11_refuse (k := 2) hR (by first | decide | omega)) ox0 rfl rfl rfl rfl ⟨rfl, rfl⟩ (pI_k fun r μ1 hr => ?_)
            refine AW.iret X hQ dX11_says_83 ⟨_, rfl, ?_⟩
            refine rx_of ?_ hr
            simp [S_says, *]
        · refine AW.aload_n X dX11_says_46 (i := 0) rfl rfl ?_
          refine AW.iconstN X 3 dX11_says_47 rfl ?_
          refine AW.callV X dX11_says_48 lX11_95 cfX11 (c_X11_refuse (k := 3) hR (by first | decide | omega)) ox0 rfl rfl rfl rfl ⟨rfl, rfl⟩ (pI_k fun r μ1 hr => ?_)
          refine AW.iret X hQ dX11_says_51 ⟨_, rfl, ?_⟩
          refine rx_of ?_ hr
          simp [S_says, *]
      · refine AW.aload_n X dX11_says_32 (i := 0) rfl rfl ?_
        refine AW.iconstN X 2 dX11_says_33 rfl ?_
        refine AW.callV X dX11_says_34 lX11_95 cfX11 (c_X11_refuse (k := 2) hR (by first | decide | omega)) ox0 rfl rfl rfl rfl ⟨rfl, rfl⟩ (pI_k fun r μ1 hr => ?_)
        refine AW.iret X hQ dX11_says_37 ⟨_, rfl, ?_⟩
        refine rx_of ?_ hr
        simp [S_says, *]
    · simp only [Bool.not_eq_true', Bool.not_eq_false'] at h15
      refine AW.aload_n X dX11_says_18 (i := 0) rfl rfl ?_
      refine AW.iconstN X 1 dX11_says_19 rfl ?_
      refine AW.callV X dX11_says_20 lX11_95 cfX11 (c_X11_refuse (k := 1) hR (by first | decide | omega)) ox0 rfl rfl rfl rfl ⟨rfl, rfl⟩ (pI_k fun r μ1 hr => ?_)
      refine AW.iret X hQ dX11_says_23 ⟨_, rfl, ?_⟩
      refine rx_of ?_ hr
      simp [S_says, *]
theorem ge_of {x : Int32} {k : Nat} (hk : k < 2147483648) (h : ¬ x < nI k) : ∃ j : Nat, j < 2147483648 ∧ x = nI j ∧ k ≤ j := by
  have h1 := Int32.not_lt.mp h
  have h0 : ¬ x < 0 := by
    intro z
    have := Int32.le_iff_toInt_le.mp h1
    have z2 := Int32.lt_iff_toInt_lt.mp z
    rw [nI_toInt hk] at this
    have e0 : (0 : Int32).toInt = 0 := by decide
    omega
  obtain ⟨j, hj, rfl⟩ := nI_of (x := x) h0
  exact ⟨j, hj, rfl, (n2_le hk hj).mp h1⟩
theorem tx_ask {μ : Mm} {B : Nat} {τ : Tt} (q : TX μ B τ) (i x : Nat) (hi : i = 1 ∨ i = 2) (hI : (i = 1 → 1 ≤ x ∧ x ≤ 999) ∧ (i = 2 → 10 ≤ x ∧ x ≤ 99)) : TX (wI μ B (i + 4) (nI x)) B (upS τ 0 i x) := by
  have e : ∀ k', k' ≠ i → upS τ 0 i x 6 0 k' = τ 6 0 k' := fun k' h => by rw [upS_6, if_neg (fun z => h z.2)]
  have e1 : upS τ 0 i x 6 0 i = x := by rw [upS_6, if_pos ⟨rfl, rfl⟩]
  have e2 : ∀ j k', j ≠ 0 → upS τ 0 i x 6 j k' = τ 6 j k' := fun j k' h => by rw [upS_6, if_neg (fun z => h z.1)]
  have hw : ∀ k', k' ≠ i + 4 → (wI μ B (i + 4) (nI x)).1 B k' = μ.1 B k' := fun k' h => by simp [wI, h]
  have hw1 : (wI μ B (i + 4) (nI x)).1 B (i + 4) = nI x := by simp [wI]
  have hs : SameI (fun q => q = B) μ (wI μ B (i + 4) (nI x)) := SameI.wI rfl
  refine ⟨⟨?_, ?_, ?_, ?_, ?_⟩, ⟨?_, ?_, ?_, ?_, ?_, ?_⟩, fun c hc => ?_, fun h hh => ?_⟩
  · rw [e 0 (by omega)]; exact q.1.1
  · by_cases z : i = 1
    · subst z; rw [e1]; exact hI.1 rfl
    · rw [e 1 (by omega)]; exact q.1.2.1
  · by_cases z : i = 2
    · subst z; rw [e1]; exact hI.2 rfl
    · rw [e 2 (by omega)]; exact q.1.2.2.1
  · intro c hc; rw [e2 1 c (by decide), e2 2 c (by decide)]; exact q.1.2.2.2.1 c hc
  · intro h hh
    rw [e 0 (by omega)] at hh
    have := q.1.1
    rw [upS_n (by omega)]
    exact q.1.2.2.2.2 h hh
  · rw [e 0 (by omega), hw 2 (by omega)]; exact q.2.1.1
  · by_cases z : i = 1
    · subst z; rw [e1]; exact hw1
    · rw [e 1 (by omega), hw 5 (by omega)]; exact q.2.1.2.1
  · by_cases z : i = 2
    · subst z; rw [e1]; exact hw1
    · rw [e 2 (by omega), hw 6 (by omega)]; exact q.2.1.2.2.1
  · rw [e 3 (by omega), hw 7 (by omega)]; exact q.2.1.2.2.2.1
  · rw [e 4 (by omega), hw 8 (by omega)]; exact q.2.1.2.2.2.2.1
  · rw [e 5 (by omega), hw 9 (by omega)]; exact q.2.1.2.2.2.2.2
  · rw [e2 1 c (by decide), e2 2 c (by decide), hs.1 (B + 2) (by show ¬ B + 2 = B; omega), hs.1 (B + 3) (by show ¬ B + 3 = B; omega)]
    exact q.2.2.1 c hc
  · rw [e 0 (by omega)] at hh
    have := q.1.1
    rw [upS_n (by omega)]
    refine hv_same (q.2.2.2 h hh) hs.same (fun y hy hz => ?_)
    have := hy.1
    have hz : y = B := hz
    omega
theorem tx_pal {μ : Mm} {B : Nat} {τ : Tt} (q : TX μ B τ) (j c x : Nat) (hj : j = 1 ∨ j = 2) (hc : c < 6) (hI : (j = 1 → x ≤ 9) ∧ (j = 2 → x ≤ 99)) : TX (wI μ (B + j + 1) c (nI x)) B (upS τ j c x) := by
  have e0 : ∀ k', upS τ j c x 6 0 k' = τ 6 0 k' := fun k' => by rw [upS_6, if_neg (fun z => by have := z.1; omega)]
  have e : ∀ i c', upS τ j c x 6 i c' = if i = j ∧ c' = c then x else τ 6 i c' := fun i c' => upS_6 _ _ _ _ _ _
  have hs : SameI (fun q => q = B + j + 1) μ (wI μ (B + j + 1) c (nI x)) := SameI.wI rfl
  have hb : (wI μ (B + j + 1) c (nI x)).1 B = μ.1 B := hs.1 B (by show ¬ B = B + j + 1; omega)
  refine ⟨⟨?_, ?_, ?_, ?_, ?_⟩, ⟨?_, ?_, ?_, ?_, ?_, ?_⟩, fun c' hc' => ?_, fun h hh => ?_⟩
  · rw [e0]; exact q.1.1
  · rw [e0]; exact q.1.2.1
  · rw [e0]; exact q.1.2.2.1
  · intro c' hc'
    have := q.1.2.2.2.1 c' hc'
    rw [e, e]
    refine ⟨?_, ?_⟩
    · split
      · rename_i z; exact hI.1 z.1.symm
      · exact this.1
    · split
      · rename_i z; exact hI.2 z.1.symm
      · exact this.2
  · intro h hh
    rw [e0] at hh
    have := q.1.1
    rw [upS_n (by omega)]
    exact q.1.2.2.2.2 h hh
  · rw [e0, hb]; exact q.2.1.1
  · rw [e0, hb]; exact q.2.1.2.1
  · rw [e0, hb]; exact q.2.1.2.2.1
  · rw [e0, hb]; exact q.2.1.2.2.2.1
  · rw [e0, hb]; exact q.2.1.2.2.2.2.1
  · rw [e0, hb]; exact q.2.1.2.2.2.2.2
  · have := q.2.2.1 c' hc'
    rw [e, e]
    rcases hj with rfl | rfl
    · refine ⟨?_, ?_⟩
      · by_cases z : c' = c
        · simp [wI, z]
        · simpa [wI, z] using this.1
      · simpa [wI, show ¬ (2 = 1) by decide] using this.2
    · refine ⟨?_, ?_⟩
      · simpa [wI, show ¬ (1 = 2) by decide] using this.1
      · by_cases z : c' = c
        · simp [wI, z]
        · simpa [wI, z] using this.2
  · rw [e0] at hh
    have := q.1.1
    rw [upS_n (by omega)]
    refine hv_same (q.2.2.2 h hh) hs.same (fun y hy hz => ?_)
    have := hy.1
    have hz : y = B + j + 1 := hz
    omega
