def trT (S : St) (T : Nat × (Nat → Nat)) : St := (S.1, S.2.1, fun j k => if j = 3 ∧ k = 2 then T.1 else if j = 4 then T.2 k else kk S j k, S.2.2.2)
def actV (q k m a : Nat) (x : Int32) : Int32 := match q with
  | 0 => aPv k m a x
  | 1 => aLv k m a x
  | _ => aFv k m a x
def actB (q k : Nat) : List Nat := match q with
  | 0 => aPb k
  | 1 => aLb k
  | _ => aFb k
def S_act (S : St) (h w x : Int32) : Int32 × St := if inr h (S.1 6 0 0) = false ∨ inr w 3 = false then (0, trT S (0, fun i => kk S 4 i))
  else (actV (cl w) (S.1 (cl h) 0 0) (cl h) (S.1 (cl h) 0 1) x, trT S (runL (actB (cl w) (S.1 (cl h) 0 0)) (0, fun i => kk S 4 i)))
theorem rx_trT {μ μ' : Mm} {S : St} {T : Nat × (Nat → Nat)} (h : RX μ S) (h2 : μ'.2 = μ.2) (h1 : ∀ q k, q ≠ 17 → q ≠ 16 → μ'.1 q k = μ.1 q k) (hn : μ'.1 16 2 = nI T.1) (hT : T.1 < 1000) (hb : ∀ i, i < 20 → i < T.1 → μ'.1 17 i = nI (T.2 i)) : RX μ' (trT S T) := by
  obtain ⟨⟨i1, i2, i3, i4, i5, i6⟩, W, ⟨B, Bd, tb, h7, h8, hX⟩, h4, x1, x2, x3, x4, x5, x6, x7⟩ := h
  have ta := two_ta tb
  have e : ∀ q, q ≠ 16 → q ≠ 17 → μ'.1 q = μ.1 q := fun q a c => funext fun k => h1 q k c a
  have sm : SameI (fun q => q < 26) μ μ' := ⟨fun q hq => e q (by omega) (by omega), h2⟩
  refine ⟨⟨i1, i2, i3, i4, i5, hT⟩, wx_same W sm, ⟨B, Bd, tb, by rw [h2]; exact h7, by rw [h2]; exact h8, tx_same hX sm.same (fun q z y => by have := z.1; omega)⟩, fun hi => tx_same (h4 hi) sm.same (fun q z y => by have := z.1; omega), ?_⟩
  exact ⟨fun s hs => by rw [e 1 (by decide) (by decide), e 2 (by decide) (by decide)]; exact x1 s hs, fun i hi => by rw [e 12 (by decide) (by decide)]; exact x2 i hi, by rw [e 0 (by decide) (by decide)]; exact x3, by rw [e 0 (by decide) (by decide)]; exact x4, hn, hb, fun s hs i hi => by rw [h2]; exact x7 s hs i hi⟩
theorem rx_trR {μ μ3 μ' : Mm} {S : St} {T' : Nat × (Nat → Nat)} {m' a' : Nat} (h : RX μ S) (h2 : μ3.2 = μ.2) (h1 : ∀ q k, q ≠ 17 → q ≠ 16 → μ3.1 q k = μ.1 q k) (hs : TRS μ3 μ') (ht : TRX μ' m' a' T') : RX μ' (trT S T') :=
  rx_trT h (hs.1.trans h2) (fun q k a c => (hs.2 q k a (fun z => c z.1)).trans (h1 q k a c)) ht.2.2.1 (by have := ht.2.2.2.1; omega) ht.2.2.2.2
set_option maxRecDepth 100000 in
set_option maxHeartbeats 4000000 in
theorem c_X11_act {l : Launch} {δ : Dl} {b : Nat} {μ : Mm} {S : St} (hR : RX μ S) {x : Int32} {w : Int32} {z : Int32} : MCX l δ b yX11_act cX11_act 5 (some .int) 9 [.ref (b + 0), .int x, .int w, .int z] μ (pI fun r μ' => r = (S_act S x w z).1 ∧ RX μ' (S_act S x w z).2) := by
  obtain ⟨B, Bd, tb, hnow, hdr, hT⟩ := hR.2.2.1
  have W := rx_w hR
  have ta := two_ta tb
  have hB := ta.1
  have hBd := ta.2.1
  have bn := ti_n hT.1
  have hn9 : (wI μ 16 2 (nI 0)).1 B 2 = nI (S.1 6 0 0) := by simp [wI, show ¬ B = 16 by omega]; exact tx_n hT
  refine MC.intro ([some (.ref (b + 0)), some (.int x), some (.int w), some (.int z), none]) (by decide) rfl rfl fun κ Qc hl hQ X => ?_
  subst hl
  refine AW.aload_n X dX11_act_0 (i := 0) rfl rfl ?_
  refine AW.getR X dX11_act_1 fX11_51 rfl ox0 (wx_latest W) ?_
  refine AW.iconstN X 0 dX11_act_4 rfl ?_
  refine AW.putI X dX11_act_5 fX11_305 rfl rfl ⟨rfl, rfl⟩ (by decide) ox16 ?_
  refine AW.aload_n X dX11_act_8 (i := 0) rfl rfl ?_
  refine AW.iload_n X dX11_act_9 (i := 1) rfl rfl ?_
  refine AW.callV X dX11_act_10 lX11_123 cfX11 (cw_noHouse (μ := wI μ 16 2 (nI 0)) W hB hnow hn9) ox0 rfl rfl rfl rfl ⟨rfl, rfl⟩ (pR_k ?_)
  refine AW.if_eqB X (tgt := 18) dX11_act_13 (by decide) (fun h13 => ?_) (fun h13 => ?_)
  · simp only [Bool.not_eq_true', Bool.not_eq_false'] at h13
    obtain ⟨h, hh, eh⟩ := inr_of (x := x) (m := (S.1 6 0 0)) (by omega) h13
    subst eh
    have ch := cl_n (show h < 2147483648 by omega)
    have hVh := tx_h hT hh
    have bnh := hi_n hVh.1
    refine AW.aload_n X dX11_act_18 (i := 0) rfl rfl ?_
    refine AW.getR X dX11_act_19 fX11_81 rfl ox0 hnow ?_
    refine AW.getR X dX11_act_22 fX11_126 rfl (ta_ob hB) (wx_fronts W hB) ?_
    refine AW.iload_n X dX11_act_25 (i := 1) rfl rfl ?_
    refine AW.aaload X (r := (B + 4 + 7 * h)) dX11_act_26 rfl rfl (ta_f hB) (n2_in (by omega) (by decide)) (by rw [n2_clamp (by omega)]; exact wx_front W hB (by omega)) ?_
    refine AW.astore X dX11_act_27 rfl ?_
    refine AW.aload_n X dX11_act_29 (i := 0) rfl rfl ?_
    refine AW.getR X dX11_act_30 fX11_51 rfl ox0 (wx_latest W) ?_
    refine AW.iload_n X dX11_act_33 (i := 1) rfl rfl ?_
    refine AW.putI X dX11_act_34 fX11_308 rfl rfl ⟨rfl, rfl⟩ (by decide) ox16 ?_
    refine AW.aload_n X dX11_act_37 (i := 0) rfl rfl ?_
    refine AW.getR X dX11_act_38 fX11_51 rfl ox0 (wx_latest W) ?_
    refine AW.aload X dX11_act_41 rfl ?_
    refine AW.getI X dX11_act_43 fX11_154 rfl (fa_ob (fa_of hB (by omega))) (v := (nI (S.1 h 0 1))) (by simp [wI, show ¬ (B + 4 + 7 * h = 16) by omega]; exact hv_a hVh) ?_
    refine AW.putI X dX11_act_46 fX11_311 rfl rfl ⟨rfl, rfl⟩ (by decide) ox16 ?_
    refine AW.iload_n X dX11_act_49 (i := 2) rfl rfl ?_
    rcases Bool.eq_false_or_eq_true (inr w 3) with hin | hin
    · obtain ⟨jsw, hjsw, ejsw⟩ := inr_of (x := w) (m := 3) (by decide) hin
      subst ejsw
      have hsw : jsw = 0 ∨ jsw = 1 ∨ jsw = 2 := by omega
      rcases hsw with rfl | rfl | rfl
      · refine AW.tableIn X (tgt := 76) dX11_act_50 (by decide) (by decide) rfl (by decide) ?_
        refine AW.aload X dX11_act_76 rfl ?_
        refine AW.getR X dX11_act_78 fX11_130 rfl (fa_ob (fa_of hB (by omega))) (hv_kind (μ := μ) hVh) ?_
        refine AW.aload_n X dX11_act_81 (i := 0) rfl rfl ?_
        refine AW.getR X dX11_act_82 fX11_51 rfl ox0 (wx_latest W) ?_
        refine AW.iload_n X dX11_act_85 (i := 3) rfl rfl ?_
        have hT0 : TRX (wI (wI (wI μ 16 2 (nI 0)) 16 0 (nI h)) 16 1 (nI (S.1 h 0 1))) h (S.1 h 0 1) (0, fun i => kk S 4 i) := ⟨by simp [wI], by simp [wI], by simp [wI], (by show (0 : Nat) < 900; decide), fun i _ hi => absurd hi (Nat.not_lt_zero i)⟩
        refine seven (hi_k hVh.1) (fun e => ?_) (fun e => ?_) (fun e => ?_) (fun e => ?_) (fun e => ?_) (fun e => ?_) (fun e => ?_)
        · rw [e]
          refine AW.callV X dX11_act_86 lX11_314 cfX4 (k0_X4_actPaints (μ := (wI (wI (wI μ 16 2 (nI 0)) 16 0 (nI h)) 16 1 (nI (S.1 h 0 1)))) (T := (0, fun i => kk S 4 i)) W hT0 (by show (0 : Nat) < 870; decide)) ox_k0 rfl rfl rfl rfl ⟨rfl, rfl⟩ (pI_k fun r2 μ9 hc => ?_)
          obtain ⟨rfl, hta, hts⟩ := hc
          refine AW.iret X hQ dX11_act_89 ⟨_, rfl, ?_⟩
          refine rx_val (S' := trT S (runL (actB 0 0) (0, fun i => kk S 4 i))) ?_ (rx_trR (μ3 := (wI (wI (wI μ 16 2 (nI 0)) 16 0 (nI h)) 16 1 (nI (S.1 h 0 1)))) hR rfl (fun q k a c => by simp [wI, c]) hts hta)
          rw [S_act, if_neg (by simp [*]), ch]
          show (actV 0 (S.1 h 0 0) h (S.1 h 0 1) z, trT S (runL (actB 0 (S.1 h 0 0)) _)) = _
          rw [e]
          rfl
        · rw [e]
          refine AW.callU X dX11_act_86 lX11_314_X2 cfX2 (k1_X2_actPaints (μ := (wI (wI (wI μ 16 2 (nI 0)) 16 0 (nI h)) 16 1 (nI (S.1 h 0 1)))) (T := (0, fun i => kk S 4 i)) W hT0 (by show (0 : Nat) < 860; decide)) ox_k1 rfl rfl rfl rfl ⟨rfl, rfl⟩ (pI_k fun r2 μ9 hc => ?_)
          obtain ⟨rfl, hta, hts⟩ := hc
          refine AW.iret X hQ dX11_act_89 ⟨_, rfl, ?_⟩
          refine rx_val (S' := trT S (runL (actB 0 1) (0, fun i => kk S 4 i))) ?_ (rx_trR (μ3 := (wI (wI (wI μ 16 2 (nI 0)) 16 0 (nI h)) 16 1 (nI (S.1 h 0 1)))) hR rfl (fun q k a c => by simp [wI, c]) hts hta)
          rw [S_act, if_neg (by simp [*]), ch]
          show (actV 0 (S.1 h 0 0) h (S.1 h 0 1) z, trT S (runL (actB 0 (S.1 h 0 0)) _)) = _
          rw [e]
          rfl
        · rw [e]
          refine AW.callU X dX11_act_86 lX11_314_X5 cfX5 (k2_X4_actPaints (μ := (wI (wI (wI μ 16 2 (nI 0)) 16 0 (nI h)) 16 1 (nI (S.1 h 0 1)))) (T := (0, fun i => kk S 4 i)) W hT0 (by show (0 : Nat) < 870; decide)) ox_k2 rfl rfl rfl rfl ⟨rfl, rfl⟩ (pI_k fun r2 μ9 hc => ?_)
          obtain ⟨rfl, hta, hts⟩ := hc
          refine AW.iret X hQ dX11_act_89 ⟨_, rfl, ?_⟩
          refine rx_val (S' := trT S (runL (actB 0 2) (0, fun i => kk S 4 i))) ?_ (rx_trR (μ3 := (wI (wI (wI μ 16 2 (nI 0)) 16 0 (nI h)) 16 1 (nI (S.1 h 0 1)))) hR rfl (fun q k a c => by simp [wI, c]) hts hta)
          rw [S_act, if_neg (by simp [*]), ch]
          show (actV 0 (S.1 h 0 0) h (S.1 h 0 1) z, trT S (runL (actB 0 (S.1 h 0 0)) _)) = _
          rw [e]
          rfl
        · rw [e]
          refine AW.callU X dX11_act_86 lX11_314_X1 cfX1 (k3_X2_actPaints (μ := (wI (wI (wI μ 16 2 (nI 0)) 16 0 (nI h)) 16 1 (nI (S.1 h 0 1)))) (T := (0, fun i => kk S 4 i)) W hT0 (by show (0 : Nat) < 860; decide)) ox_k3 rfl rfl rfl rfl ⟨rfl, rfl⟩ (pI_k fun r2 μ9 hc => ?_)
          obtain ⟨rfl, hta, hts⟩ := hc
          refine AW.iret X hQ dX11_act_89 ⟨_, rfl, ?_⟩
          refine rx_val (S' := trT S (runL (actB 0 3) (0, fun i => kk S 4 i))) ?_ (rx_trR (μ3 := (wI (wI (wI μ 16 2 (nI 0)) 16 0 (nI h)) 16 1 (nI (S.1 h 0 1)))) hR rfl (fun q k a c => by simp [wI, c]) hts hta)
          rw [S_act, if_neg (by simp [*]), ch]
          show (actV 0 (S.1 h 0 0) h (S.1 h 0 1) z, trT S (runL (actB 0 (S.1 h 0 0)) _)) = _
          rw [e]
          rfl
        · rw [e]
          refine AW.callU X dX11_act_86 lX11_314_X7 cfX7 (k4_X7_actPaints (μ := (wI (wI (wI μ 16 2 (nI 0)) 16 0 (nI h)) 16 1 (nI (S.1 h 0 1)))) (T := (0, fun i => kk S 4 i)) W hT0 (by show (0 : Nat) < 860; decide)) ox_k4 rfl rfl rfl rfl ⟨rfl, rfl⟩ (pI_k fun r2 μ9 hc => ?_)
          obtain ⟨rfl, hta, hts⟩ := hc
          refine AW.iret X hQ dX11_act_89 ⟨_, rfl, ?_⟩
          refine rx_val (S' := trT S (runL (actB 0 4) (0, fun i => kk S 4 i))) ?_ (rx_trR (μ3 := (wI (wI (wI μ 16 2 (nI 0)) 16 0 (nI h)) 16 1 (nI (S.1 h 0 1)))) hR rfl (fun q k a c => by simp [wI, c]) hts hta)
          rw [S_act, if_neg (by simp [*]), ch]
          show (actV 0 (S.1 h 0 0) h (S.1 h 0 1) z, trT S (runL (actB 0 (S.1 h 0 0)) _)) = _
          rw [e]
          rfl
        · rw [e]
          refine AW.callU X dX11_act_86 lX11_314_X8 cfX8 (k5_X4_actPaints (μ := (wI (wI (wI μ 16 2 (nI 0)) 16 0 (nI h)) 16 1 (nI (S.1 h 0 1)))) (T := (0, fun i => kk S 4 i)) W hT0 (by show (0 : Nat) < 870; decide)) ox_k5 rfl rfl rfl rfl ⟨rfl, rfl⟩ (pI_k fun r2 μ9 hc => ?_)
          obtain ⟨rfl, hta, hts⟩ := hc
          refine AW.iret X hQ dX11_act_89 ⟨_, rfl, ?_⟩
          refine rx_val (S' := trT S (runL (actB 0 5) (0, fun i => kk S 4 i))) ?_ (rx_trR (μ3 := (wI (wI (wI μ 16 2 (nI 0)) 16 0 (nI h)) 16 1 (nI (S.1 h 0 1)))) hR rfl (fun q k a c => by simp [wI, c]) hts hta)
          rw [S_act, if_neg (by simp [*]), ch]
          show (actV 0 (S.1 h 0 0) h (S.1 h 0 1) z, trT S (runL (actB 0 (S.1 h 0 0)) _)) = _
          rw [e]
          rfl
        · rw [e]
          refine AW.callU X dX11_act_86 lX11_314_X0 cfX0 (k6_X0_actPaints (μ := (wI (wI (wI μ 16 2 (nI 0)) 16 0 (nI h)) 16 1 (nI (S.1 h 0 1)))) (T := (0, fun i => kk S 4 i)) W hT0 (by show (0 : Nat) < 860; decide)) ox_k6 rfl rfl rfl rfl ⟨rfl, rfl⟩ (pI_k fun r2 μ9 hc => ?_)
          obtain ⟨rfl, hta, hts⟩ := hc
          refine AW.iret X hQ dX11_act_89 ⟨_, rfl, ?_⟩
          refine rx_val (S' := trT S (runL (actB 0 6) (0, fun i => kk S 4 i))) ?_ (rx_trR (μ3 := (wI (wI (wI μ 16 2 (nI 0)) 16 0 (nI h)) 16 1 (nI (S.1 h 0 1)))) hR rfl (fun q k a c => by simp [wI, c]) hts hta)
          rw [S_act, if_neg (by simp [*]), ch]
          show (actV 0 (S.1 h 0 0) h (S.1 h 0 1) z, trT S (runL (actB 0 (S.1 h 0 0)) _)) = _
          rw [e]
          rfl
      · refine AW.tableIn X (tgt := 90) dX11_act_50 (by decide) (by decide) rfl (by decide) ?_
        refine AW.aload X dX11_act_90 rfl ?_
        refine AW.getR X dX11_act_92 fX11_130 rfl (fa_ob (fa_of hB (by omega))) (hv_kind (μ := μ) hVh) ?_
        refine AW.aload_n X dX11_act_95 (i := 0) rfl rfl ?_
        refine AW.getR X dX11_act_96 fX11_51 rfl ox0 (wx_latest W) ?_
        refine AW.iload_n X dX11_act_99 (i := 3) rfl rfl ?_
        have hT0 : TRX (wI (wI (wI μ 16 2 (nI 0)) 16 0 (nI h)) 16 1 (nI (S.1 h 0 1))) h (S.1 h 0 1) (0, fun i => kk S 4 i) := ⟨by simp [wI], by simp [wI], by simp [wI], (by show (0 : Nat) < 900; decide), fun i _ hi => absurd hi (Nat.not_lt_zero i)⟩
        refine seven (hi_k hVh.1) (fun e => ?_) (fun e => ?_) (fun e => ?_) (fun e => ?_) (fun e => ?_) (fun e => ?_) (fun e => ?_)
        · rw [e]
          refine AW.callV X dX11_act_100 lX11_318 cfX4 (k0_X4_actPeels (μ := (wI (wI (wI μ 16 2 (nI 0)) 16 0 (nI h)) 16 1 (nI (S.1 h 0 1)))) (T := (0, fun i => kk S 4 i)) W hT0 (by show (0 : Nat) < 850; decide)) ox_k0 rfl rfl rfl rfl ⟨rfl, rfl⟩ (pI_k fun r2 μ9 hc => ?_)
          obtain ⟨rfl, hta, hts⟩ := hc
          refine AW.iret X hQ dX11_act_103 ⟨_, rfl, ?_⟩
          refine rx_val (S' := trT S (runL (actB 1 0) (0, fun i => kk S 4 i))) ?_ (rx_trR (μ3 := (wI (wI (wI μ 16 2 (nI 0)) 16 0 (nI h)) 16 1 (nI (S.1 h 0 1)))) hR rfl (fun q k a c => by simp [wI, c]) hts hta)
          rw [S_act, if_neg (by simp [*]), ch]
          show (actV 1 (S.1 h 0 0) h (S.1 h 0 1) z, trT S (runL (actB 1 (S.1 h 0 0)) _)) = _
          rw [e]
          rfl
        · rw [e]
          refine AW.callU X dX11_act_100 lX11_318_X2 cfX2 (k1_X4_actPeels (μ := (wI (wI (wI μ 16 2 (nI 0)) 16 0 (nI h)) 16 1 (nI (S.1 h 0 1)))) (T := (0, fun i => kk S 4 i)) W hT0 (by show (0 : Nat) < 850; decide)) ox_k1 rfl rfl rfl rfl ⟨rfl, rfl⟩ (pI_k fun r2 μ9 hc => ?_)
          obtain ⟨rfl, hta, hts⟩ := hc
          refine AW.iret X hQ dX11_act_103 ⟨_, rfl, ?_⟩
          refine rx_val (S' := trT S (runL (actB 1 1) (0, fun i => kk S 4 i))) ?_ (rx_trR (μ3 := (wI (wI (wI μ 16 2 (nI 0)) 16 0 (nI h)) 16 1 (nI (S.1 h 0 1)))) hR rfl (fun q k a c => by simp [wI, c]) hts hta)
          rw [S_act, if_neg (by simp [*]), ch]
          show (actV 1 (S.1 h 0 0) h (S.1 h 0 1) z, trT S (runL (actB 1 (S.1 h 0 0)) _)) = _
          rw [e]
          rfl
        · rw [e]
          refine AW.callU X dX11_act_100 lX11_318_X5 cfX5 (k2_X5_actPeels (μ := (wI (wI (wI μ 16 2 (nI 0)) 16 0 (nI h)) 16 1 (nI (S.1 h 0 1)))) (T := (0, fun i => kk S 4 i)) W hT0 (by show (0 : Nat) < 840; decide)) ox_k2 rfl rfl rfl rfl ⟨rfl, rfl⟩ (pI_k fun r2 μ9 hc => ?_)
          obtain ⟨rfl, hta, hts⟩ := hc
          refine AW.iret X hQ dX11_act_103 ⟨_, rfl, ?_⟩
          refine rx_val (S' := trT S (runL (actB 1 2) (0, fun i => kk S 4 i))) ?_ (rx_trR (μ3 := (wI (wI (wI μ 16 2 (nI 0)) 16 0 (nI h)) 16 1 (nI (S.1 h 0 1)))) hR rfl (fun q k a c => by simp [wI, c]) hts hta)
          rw [S_act, if_neg (by simp [*]), ch]
          show (actV 1 (S.1 h 0 0) h (S.1 h 0 1) z, trT S (runL (actB 1 (S.1 h 0 0)) _)) = _
          rw [e]
          rfl
        · rw [e]
          refine AW.callU X dX11_act_100 lX11_318_X1 cfX1 (k3_X1_actPeels (μ := (wI (wI (wI μ 16 2 (nI 0)) 16 0 (nI h)) 16 1 (nI (S.1 h 0 1)))) (T := (0, fun i => kk S 4 i)) W hT0 (by show (0 : Nat) < 830; decide)) ox_k3 rfl rfl rfl rfl ⟨rfl, rfl⟩ (pI_k fun r2 μ9 hc => ?_)
          obtain ⟨rfl, hta, hts⟩ := hc
          refine AW.iret X hQ dX11_act_103 ⟨_, rfl, ?_⟩
          refine rx_val (S' := trT S (runL (actB 1 3) (0, fun i => kk S 4 i))) ?_ (rx_trR (μ3 := (wI (wI (wI μ 16 2 (nI 0)) 16 0 (nI h)) 16 1 (nI (S.1 h 0 1)))) hR rfl (fun q k a c => by simp [wI, c]) hts hta)
          rw [S_act, if_neg (by simp [*]), ch]
          show (actV 1 (S.1 h 0 0) h (S.1 h 0 1) z, trT S (runL (actB 1 (S.1 h 0 0)) _)) = _
          rw [e]
          rfl
        · rw [e]
          refine AW.callU X dX11_act_100 lX11_318_X7 cfX7 (k4_X4_actPeels (μ := (wI (wI (wI μ 16 2 (nI 0)) 16 0 (nI h)) 16 1 (nI (S.1 h 0 1)))) (T := (0, fun i => kk S 4 i)) W hT0 (by show (0 : Nat) < 850; decide)) ox_k4 rfl rfl rfl rfl ⟨rfl, rfl⟩ (pI_k fun r2 μ9 hc => ?_)
          obtain ⟨rfl, hta, hts⟩ := hc
          refine AW.iret X hQ dX11_act_103 ⟨_, rfl, ?_⟩
          refine rx_val (S' := trT S (runL (actB 1 4) (0, fun i => kk S 4 i))) ?_ (rx_trR (μ3 := (wI (wI (wI μ 16 2 (nI 0)) 16 0 (nI h)) 16 1 (nI (S.1 h 0 1)))) hR rfl (fun q k a c => by simp [wI, c]) hts hta)
          rw [S_act, if_neg (by simp [*]), ch]
          show (actV 1 (S.1 h 0 0) h (S.1 h 0 1) z, trT S (runL (actB 1 (S.1 h 0 0)) _)) = _
          rw [e]
          rfl
        · rw [e]
          refine AW.callU X dX11_act_100 lX11_318_X8 cfX8 (k5_X5_actPeels (μ := (wI (wI (wI μ 16 2 (nI 0)) 16 0 (nI h)) 16 1 (nI (S.1 h 0 1)))) (T := (0, fun i => kk S 4 i)) W hT0 (by show (0 : Nat) < 840; decide)) ox_k5 rfl rfl rfl rfl ⟨rfl, rfl⟩ (pI_k fun r2 μ9 hc => ?_)
          obtain ⟨rfl, hta, hts⟩ := hc
          refine AW.iret X hQ dX11_act_103 ⟨_, rfl, ?_⟩
          refine rx_val (S' := trT S (runL (actB 1 5) (0, fun i => kk S 4 i))) ?_ (rx_trR (μ3 := (wI (wI (wI μ 16 2 (nI 0)) 16 0 (nI h)) 16 1 (nI (S.1 h 0 1)))) hR rfl (fun q k a c => by simp [wI, c]) hts hta)
          rw [S_act, if_neg (by simp [*]), ch]
          show (actV 1 (S.1 h 0 0) h (S.1 h 0 1) z, trT S (runL (actB 1 (S.1 h 0 0)) _)) = _
          rw [e]
          rfl
        · rw [e]
          refine AW.callU X dX11_act_100 lX11_318_X0 cfX0 (k6_X0_actPeels (μ := (wI (wI (wI μ 16 2 (nI 0)) 16 0 (nI h)) 16 1 (nI (S.1 h 0 1)))) (T := (0, fun i => kk S 4 i)) W hT0 (by show (0 : Nat) < 830; decide)) ox_k6 rfl rfl rfl rfl ⟨rfl, rfl⟩ (pI_k fun r2 μ9 hc => ?_)
          obtain ⟨rfl, hta, hts⟩ := hc
          refine AW.iret X hQ dX11_act_103 ⟨_, rfl, ?_⟩
          refine rx_val (S' := trT S (runL (actB 1 6) (0, fun i => kk S 4 i))) ?_ (rx_trR (μ3 := (wI (wI (wI μ 16 2 (nI 0)) 16 0 (nI h)) 16 1 (nI (S.1 h 0 1)))) hR rfl (fun q k a c => by simp [wI, c]) hts hta)
          rw [S_act, if_neg (by simp [*]), ch]
          show (actV 1 (S.1 h 0 0) h (S.1 h 0 1) z, trT S (runL (actB 1 (S.1 h 0 0)) _)) = _
          rw [e]
          rfl
      · refine AW.tableIn X (tgt := 104) dX11_act_50 (by decide) (by decide) rfl (by decide) ?_
        refine AW.aload X dX11_act_104 rfl ?_
        refine AW.getR X dX11_act_106 fX11_130 rfl (fa_ob (fa_of hB (by omega))) (hv_kind (μ := μ) hVh) ?_
        refine AW.aload_n X dX11_act_109 (i := 0) rfl rfl ?_
        refine AW.getR X dX11_act_110 fX11_51 rfl ox0 (wx_latest W) ?_
        refine AW.iload_n X dX11_act_113 (i := 3) rfl rfl ?_
        have hT0 : TRX (wI (wI (wI μ 16 2 (nI 0)) 16 0 (nI h)) 16 1 (nI (S.1 h 0 1))) h (S.1 h 0 1) (0, fun i => kk S 4 i) := ⟨by simp [wI], by simp [wI], by simp [wI], (by show (0 : Nat) < 900; decide), fun i _ hi => absurd hi (Nat.not_lt_zero i)⟩
        refine seven (hi_k hVh.1) (fun e => ?_) (fun e => ?_) (fun e => ?_) (fun e => ?_) (fun e => ?_) (fun e => ?_) (fun e => ?_)
        · rw [e]
          refine AW.callV X dX11_act_114 lX11_321 cfX4 (k0_X4_actFalls (μ := (wI (wI (wI μ 16 2 (nI 0)) 16 0 (nI h)) 16 1 (nI (S.1 h 0 1)))) (T := (0, fun i => kk S 4 i)) W hT0 (by show (0 : Nat) < 820; decide)) ox_k0 rfl rfl rfl rfl ⟨rfl, rfl⟩ (pI_k fun r2 μ9 hc => ?_)
          obtain ⟨rfl, hta, hts⟩ := hc
          refine AW.iret X hQ dX11_act_117 ⟨_, rfl, ?_⟩
          refine rx_val (S' := trT S (runL (actB 2 0) (0, fun i => kk S 4 i))) ?_ (rx_trR (μ3 := (wI (wI (wI μ 16 2 (nI 0)) 16 0 (nI h)) 16 1 (nI (S.1 h 0 1)))) hR rfl (fun q k a c => by simp [wI, c]) hts hta)
          rw [S_act, if_neg (by simp [*]), ch]
          show (actV 2 (S.1 h 0 0) h (S.1 h 0 1) z, trT S (runL (actB 2 (S.1 h 0 0)) _)) = _
          rw [e]
          rfl
        · rw [e]
          refine AW.callU X dX11_act_114 lX11_321_X2 cfX2 (k1_X4_actFalls (μ := (wI (wI (wI μ 16 2 (nI 0)) 16 0 (nI h)) 16 1 (nI (S.1 h 0 1)))) (T := (0, fun i => kk S 4 i)) W hT0 (by show (0 : Nat) < 820; decide)) ox_k1 rfl rfl rfl rfl ⟨rfl, rfl⟩ (pI_k fun r2 μ9 hc => ?_)
          obtain ⟨rfl, hta, hts⟩ := hc
          refine AW.iret X hQ dX11_act_117 ⟨_, rfl, ?_⟩
          refine rx_val (S' := trT S (runL (actB 2 1) (0, fun i => kk S 4 i))) ?_ (rx_trR (μ3 := (wI (wI (wI μ 16 2 (nI 0)) 16 0 (nI h)) 16 1 (nI (S.1 h 0 1)))) hR rfl (fun q k a c => by simp [wI, c]) hts hta)
          rw [S_act, if_neg (by simp [*]), ch]
          show (actV 2 (S.1 h 0 0) h (S.1 h 0 1) z, trT S (runL (actB 2 (S.1 h 0 0)) _)) = _
          rw [e]
          rfl
        · rw [e]
          refine AW.callU X dX11_act_114 lX11_321_X5 cfX5 (k2_X4_actFalls (μ := (wI (wI (wI μ 16 2 (nI 0)) 16 0 (nI h)) 16 1 (nI (S.1 h 0 1)))) (T := (0, fun i => kk S 4 i)) W hT0 (by show (0 : Nat) < 820; decide)) ox_k2 rfl rfl rfl rfl ⟨rfl, rfl⟩ (pI_k fun r2 μ9 hc => ?_)
          obtain ⟨rfl, hta, hts⟩ := hc
          refine AW.iret X hQ dX11_act_117 ⟨_, rfl, ?_⟩
          refine rx_val (S' := trT S (runL (actB 2 2) (0, fun i => kk S 4 i))) ?_ (rx_trR (μ3 := (wI (wI (wI μ 16 2 (nI 0)) 16 0 (nI h)) 16 1 (nI (S.1 h 0 1)))) hR rfl (fun q k a c => by simp [wI, c]) hts hta)
          rw [S_act, if_neg (by simp [*]), ch]
          show (actV 2 (S.1 h 0 0) h (S.1 h 0 1) z, trT S (runL (actB 2 (S.1 h 0 0)) _)) = _
          rw [e]
          rfl
        · rw [e]
          refine AW.callU X dX11_act_114 lX11_321_X1 cfX1 (k3_X4_actFalls (μ := (wI (wI (wI μ 16 2 (nI 0)) 16 0 (nI h)) 16 1 (nI (S.1 h 0 1)))) (T := (0, fun i => kk S 4 i)) W hT0 (by show (0 : Nat) < 820; decide)) ox_k3 rfl rfl rfl rfl ⟨rfl, rfl⟩ (pI_k fun r2 μ9 hc => ?_)
          obtain ⟨rfl, hta, hts⟩ := hc
          refine AW.iret X hQ dX11_act_117 ⟨_, rfl, ?_⟩
          refine rx_val (S' := trT S (runL (actB 2 3) (0, fun i => kk S 4 i))) ?_ (rx_trR (μ3 := (wI (wI (wI μ 16 2 (nI 0)) 16 0 (nI h)) 16 1 (nI (S.1 h 0 1)))) hR rfl (fun q k a c => by simp [wI, c]) hts hta)
          rw [S_act, if_neg (by simp [*]), ch]
          show (actV 2 (S.1 h 0 0) h (S.1 h 0 1) z, trT S (runL (actB 2 (S.1 h 0 0)) _)) = _
          rw [e]
          rfl
        · rw [e]
          refine AW.callU X dX11_act_114 lX11_321_X7 cfX7 (k4_X7_actFalls (μ := (wI (wI (wI μ 16 2 (nI 0)) 16 0 (nI h)) 16 1 (nI (S.1 h 0 1)))) (T := (0, fun i => kk S 4 i)) W hT0 (by show (0 : Nat) < 810; decide)) ox_k4 rfl rfl rfl rfl ⟨rfl, rfl⟩ (pI_k fun r2 μ9 hc => ?_)
          obtain ⟨rfl, hta, hts⟩ := hc
          refine AW.iret X hQ dX11_act_117 ⟨_, rfl, ?_⟩
          refine rx_val (S' := trT S (runL (actB 2 4) (0, fun i => kk S 4 i))) ?_ (rx_trR (μ3 := (wI (wI (wI μ 16 2 (nI 0)) 16 0 (nI h)) 16 1 (nI (S.1 h 0 1)))) hR rfl (fun q k a c => by simp [wI, c]) hts hta)
          rw [S_act, if_neg (by simp [*]), ch]
          show (actV 2 (S.1 h 0 0) h (S.1 h 0 1) z, trT S (runL (actB 2 (S.1 h 0 0)) _)) = _
          rw [e]
          rfl
        · rw [e]
          refine AW.callU X dX11_act_114 lX11_321_X8 cfX8 (k5_X8_actFalls (μ := (wI (wI (wI μ 16 2 (nI 0)) 16 0 (nI h)) 16 1 (nI (S.1 h 0 1)))) (T := (0, fun i => kk S 4 i)) W hT0 (by show (0 : Nat) < 810; decide)) ox_k5 rfl rfl rfl rfl ⟨rfl, rfl⟩ (pI_k fun r2 μ9 hc => ?_)
          obtain ⟨rfl, hta, hts⟩ := hc
          refine AW.iret X hQ dX11_act_117 ⟨_, rfl, ?_⟩
          refine rx_val (S' := trT S (runL (actB 2 5) (0, fun i => kk S 4 i))) ?_ (rx_trR (μ3 := (wI (wI (wI μ 16 2 (nI 0)) 16 0 (nI h)) 16 1 (nI (S.1 h 0 1)))) hR rfl (fun q k a c => by simp [wI, c]) hts hta)
          rw [S_act, if_neg (by simp [*]), ch]
          show (actV 2 (S.1 h 0 0) h (S.1 h 0 1) z, trT S (runL (actB 2 (S.1 h 0 0)) _)) = _
          rw [e]
          rfl
        · rw [e]
          refine AW.callU X dX11_act_114 lX11_321_X0 cfX0 (k6_X4_actFalls (μ := (wI (wI (wI μ 16 2 (nI 0)) 16 0 (nI h)) 16 1 (nI (S.1 h 0 1)))) (T := (0, fun i => kk S 4 i)) W hT0 (by show (0 : Nat) < 820; decide)) ox_k6 rfl rfl rfl rfl ⟨rfl, rfl⟩ (pI_k fun r2 μ9 hc => ?_)
          obtain ⟨rfl, hta, hts⟩ := hc
          refine AW.iret X hQ dX11_act_117 ⟨_, rfl, ?_⟩
          refine rx_val (S' := trT S (runL (actB 2 6) (0, fun i => kk S 4 i))) ?_ (rx_trR (μ3 := (wI (wI (wI μ 16 2 (nI 0)) 16 0 (nI h)) 16 1 (nI (S.1 h 0 1)))) hR rfl (fun q k a c => by simp [wI, c]) hts hta)
          rw [S_act, if_neg (by simp [*]), ch]
          show (actV 2 (S.1 h 0 0) h (S.1 h 0 1) z, trT S (runL (actB 2 (S.1 h 0 0)) _)) = _
          rw [e]
          rfl
    · refine AW.tableOut X (tgt := 118) dX11_act_50 (inr_out (m := 3) (by decide) hin) (by decide) ?_
      refine AW.iconstN X 0 dX11_act_118 rfl ?_
      refine AW.iret X hQ dX11_act_119 ⟨_, rfl, ?_⟩
      exact rx_val (S' := trT S (0, fun i => kk S 4 i)) (by rw [S_act, if_pos (by simp [*])]; rfl) (rx_trT hR rfl (fun q k a c => by simp [wI, c]) (by simp [wI]) (by show (0 : Nat) < 1000; decide) (fun i _ hi => absurd hi (Nat.not_lt_zero i)))
  · simp only [Bool.not_eq_true', Bool.not_eq_false'] at h13
    refine AW.iconstN X 0 dX11_act_16 rfl ?_
    refine AW.iret X hQ dX11_act_17 ⟨_, rfl, ?_⟩
    exact rx_val (S' := trT S (0, fun i => kk S 4 i)) (by rw [S_act, if_pos (by simp [*])]; rfl) (rx_trT hR rfl (fun q k a c => by simp [wI, c]) (by simp [wI]) (by show (0 : Nat) < 1000; decide) (fun i _ hi => absurd hi (Nat.not_lt_zero i)))
