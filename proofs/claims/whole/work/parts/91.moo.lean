/-! street of the reference -/
def STf (q k : Nat) : Prop := q = 18 ∨ ITp q k ∨ (q = 0 ∧ (k = 27 ∨ k = 20))
theorem st_no {q k : Nat} (h : q = 1 ∨ q = 2 ∨ q = 3 ∨ q = 15 ∨ q = 16 ∨ q = 17 ∨ (q = 0 ∧ (k = 22 ∨ k = 24))) : ¬ STf q k := fun z => by unfold STf ITp TPl at z; omega
theorem rm_flt {μ μ' : Mm} {S : St} {f : Nat} {τ' : Tt} (h : RMX μ S) (hs : SmM STf μ μ') (hf : μ'.1 0 20 = dn f) (hT : TMX μ' τ') (hn : S.1 6 0 0 ≤ τ' 6 0 0) : RMX μ' (tU (kU S 3 0 f) τ') := by
  obtain ⟨⟨i1, i2, i3, i4, i5, i6⟩, W, -, h4, x1, x2, x3, x4, x5, x6, x7⟩ := h
  have K : ∀ j k, ¬ (j = 3 ∧ k = 0) → kk (tU (kU S 3 0 f) τ') j k = kk S j k := fun j k q => by show kk (kU S 3 0 f) j k = _; rw [kk_kU, if_neg q]
  have e : ∀ q k, (q = 1 ∨ q = 2 ∨ q = 3 ∨ q = 15 ∨ q = 16 ∨ q = 17 ∨ (q = 0 ∧ (k = 22 ∨ k = 24))) → μ'.1 q k = μ.1 q k := fun q k a => hs.2 q k (st_no a)
  refine ⟨⟨hT.1, fun q => i2 (by rw [← K 3 1 (by decide)]; exact q), fun s hs8 => ?_, fun s hs8 => by rw [K 1 s (by omega)]; exact i4 s hs8, by rw [K 3 1 (by decide)]; exact i5, by rw [K 3 2 (by decide)]; exact i6⟩, wm_same W hs, hT, fun q => old_same (h4 (by rw [← K 3 1 (by decide)]; exact q)) hs (fun k => st_no (by omega)), fun s hs8 => by rw [e 1 s (by omega), e 2 s (by omega), K 0 s (by omega), K 1 s (by omega)]; exact x1 s hs8, fun i hi => by rw [e 15 i (by omega), K 2 i (by omega)]; exact x2 i hi, by rw [e 0 24 (by omega), K 3 1 (by decide)]; exact x3, ?_, by rw [e 0 22 (by omega), K 3 2 (by decide)]; exact x5, fun i hi hr => by rw [e 16 i (by omega), K 4 i (by omega)]; exact x6 i hi (by rw [← K 3 2 (by decide)]; exact hr), fun s hs8 i hi => ?_⟩
  · rw [K 0 s (by omega)]
    rcases i3 s hs8 with q | q | q
    · exact Or.inl q
    · exact Or.inr (Or.inl ⟨q.1, Nat.le_trans q.2 hn⟩)
    · exact Or.inr (Or.inr q)
  · show _ = dn (kk (kU S 3 0 f) 3 0)
    rw [kk_kU, if_pos ⟨rfl, rfl⟩]; exact hf
  · rw [hs.1]
    exact x7 s hs8 i (by rw [← K 1 s (by omega)]; exact hi)
theorem rdm_init {μ μ2 : Mm} {S : St} {s : Nat} (h : RMX μ S) (hs : s < 8) (h2 : SmM (KOp 18) μ μ2) : RDM (wI (wI μ2 0 27 (nI s)) 0 28 (nI 0)) s (kk S 1 s) 0 (S.2.2.2 s) := by
  have e : μ2.1 2 s = nI (kk S 1 s) := (h2.2 2 s (by unfold KOp; decide)).trans (rm_size h hs)
  refine ⟨⟨by simp [wI], by simp [wI], by simpa [wI] using e⟩, fun i hi => ?_, hs, h.1.2.2.2.1 s hs, Nat.zero_le _⟩
  show μ2.2.1 3 (160 * s + i) = _
  rw [h2.1]
  exact rm_elem h hs hi
theorem it_st : ∀ q k, ITp q k → STf q k := fun _ _ z => Or.inr (Or.inl z)
theorem k18_st : ∀ q k, KOp 18 q k → STf q k := fun _ _ z => Or.inl z
theorem tp_st : ∀ q k, TPl q k → STf q k := fun _ _ z => Or.inr (Or.inl (Or.inl z))
theorem it_18 : ∀ k, ¬ ITp 18 k := fun k z => by unfold ITp TPl at z; omega
theorem tm_st0 {μ μ' : Mm} {τ : Tt} (h : TMX μ τ) (hs : SmM (fun q k => q = 0 ∧ (k = 20 ∨ k = 27 ∨ k = 28)) μ μ') : TMX μ' τ := tm_same h hs (fun q k a c => by unfold TPl at a; omega)
set_option maxRecDepth 100000 in
set_option maxHeartbeats 4000000 in
theorem c_X12_street {l : Launch} {δ : Dl} {b : Nat} {μ : Mm} {S : St} (hR : RMX μ S) {xa : Int32} : MCM l δ b yX12_street cX12_street 5 (some .int) 8 [.ref (b + 0), .int xa] μ (pI fun r μ' => r = (S_street S xa).1 ∧ RMX μ' (S_street S xa).2) := by
  have hT := rm_t hR
  have W := rm_w hR
  have bn := ti_n hT.1
  refine MC.intro ([some (.ref (b + 0)), some (.int xa), none, none, none]) (by decide) rfl rfl fun κ Qc hl hQ X => ?_
  subst hl
  refine AW.aload_n X dX12_street_0 (i := 0) rfl rfl ?_
  refine AW.iload_n X dX12_street_1 (i := 1) rfl rfl ?_
  refine AW.callV X dX12_street_2 lX12_105 cfX12 (c_X12_noRow hR) om0 rfl rfl rfl rfl ⟨rfl, rfl⟩ (pR_k ?_)
  refine AW.istore_n X dX12_street_5 (i := 2) rfl rfl ?_
  refine AW.iload_n X dX12_street_6 (i := 2) rfl rfl ?_
  refine AW.if_ge X (tgt := 16) dX12_street_7 (by decide) (fun h7 => ?_) (fun h7 => ?_)
  · replace h7 := Int32.not_lt.mpr h7
    have hr0 := rowT_le S xa
    have hz0 : rowT S xa = 0 := by by_cases q : rowT S xa = 0; exact q; exact absurd ((rt_neg _ (by omega)).mpr q) h7
    obtain ⟨s, hs, es, hk⟩ := rowT_0 hz0
    subst es
    have cs := cl_n (show s < 2147483648 by omega)
    have hz := hR.1.2.2.2.1 s hs
    have bk := hR.1.2.2.1 s hs
    have gr : rowT S (nI s) = 0 := hz0
    refine AW.aload_n X dX12_street_16 (i := 0) rfl rfl ?_
    refine AW.aload_n X dX12_street_17 (i := 0) rfl rfl ?_
    refine AW.getR X dX12_street_18 fX12_62 rfl om0 (wm_at W 17 rfl) ?_
    refine AW.callV X dX12_street_21 lX12_209 cfX12 (c_keep18 W hT) om0 rfl rfl rfl rfl ⟨rfl, rfl⟩ (pV_k fun μ2 hp => ?_)
    refine AW.aload_n X dX12_street_24 (i := 0) rfl rfl ?_
    refine AW.iload_n X dX12_street_25 (i := 1) rfl rfl ?_
    refine AW.putI X dX12_street_26 fX12_161 rfl rfl ⟨rfl, rfl⟩ (by decide) om0 ?_
    refine AW.aload_n X dX12_street_29 (i := 0) rfl rfl ?_
    refine AW.iconstN X 0 dX12_street_30 rfl ?_
    refine AW.putI X dX12_street_31 fX12_158 rfl rfl ⟨rfl, rfl⟩ (by decide) om0 ?_
    refine AW.iconstN X 0 dX12_street_34 rfl ?_
    refine AW.istore_n X dX12_street_35 (i := 3) rfl rfl ?_
    refine AW.iconstN X 1 dX12_street_36 rfl ?_
    refine AW.istore X dX12_street_37 rfl ?_
    have L39z : ∀ (k m : Nat) (μc : Mm), rdSt S s = .inl k → k < 1000 → SmM STf μ μc → OLD μc 18 S.1 → μc.1 0 28 = nI k → AW κ (δ, b, NM, 5, shM, False, Qc, 0, 0) NM 0 0 39 [some (.ref (b + 0)), some (.int (nI s)), some (.int (-(nI (rowT S (nI s))))), some (.int (nI m)), some (.int (nI 0))] [] μc := by
      intro k m μc hall hk9 hsc hO hat
      have Wc := wm_same W hsc
      refine AW.iload X dX12_street_39 rfl ?_
      refine AW.if_eqN X (tgt := 99) dX12_street_41 (by decide) (by omega) (fun h41 => ?_) (fun h41 => ?_)
      · refine AW.aload_n X dX12_street_99 (i := 0) rfl rfl ?_
        refine AW.aload_n X dX12_street_100 (i := 0) rfl rfl ?_
        refine AW.getI X dX12_street_101 fX12_158 rfl om0 hat ?_
        refine AW.putI X dX12_street_104 fX12_84 rfl rfl ⟨rfl, rfl⟩ (by decide) om0 ?_
        refine AW.aload_n X dX12_street_107 (i := 0) rfl rfl ?_
        refine AW.aload_n X dX12_street_108 (i := 0) rfl rfl ?_
        refine AW.getR X dX12_street_109 fX12_62 rfl om0 (wm_at Wc 17 rfl) ?_
        refine AW.callV X dX12_street_112 lX12_217 cfX12 (c_again18 Wc (old_same hO (SmM.w (P := fun q k => q = 0 ∧ k = 20) ⟨rfl, rfl⟩) (fun k z => by omega))) om0 rfl rfl rfl rfl ⟨rfl, rfl⟩ (pV_k fun μ5 hp5 => ?_)
        have hR3 := rm_flt (f := k + 1) hR ((hsc.trn (SmM.w (o := 0) (k := 20) (v := nI k) (Or.inr (Or.inr ⟨rfl, Or.inr rfl⟩)))).trn (hp5.2.mono tp_st)) (by rw [dn_s, hp5.2.2 0 20 (by unfold TPl; omega)]; simp [wI]) hp5.1 (Nat.le_refl _)
        refine AW.aload_n X dX12_street_115 (i := 0) rfl rfl ?_
        refine AW.bipush X (v := -6) dX12_street_116 rfl ?_
        refine AW.callV X dX12_street_118 lX12_98 cfX12 (c_X12_no (k := 6) hR3 (by decide) (by decide)) om0 rfl rfl rfl rfl ⟨rfl, rfl⟩ (pI_k fun r μ1 hr => ?_)
        refine AW.iret X hQ dX12_street_121 ⟨_, rfl, ?_⟩
        refine rm_of ?_ hr
        simp only [S_street, gr, cs, hall, ne_eq, not_true, if_false]
        rfl
      · exact absurd h41 (by decide)
    have L39 : ∀ (f pq m : Nat) (τc : Tt) (μc : Mm), 161 ≤ pq + f → m ≤ pq → RDM μc s (kk S 1 s) pq (S.2.2.2 s) → TMX μc τc → SmM STf μ μc → OLD μc 18 S.1 → rdSt S s = itemsA (enR (kk S 1 s) (S.2.2.2 s)) (kk S 1 s) f τc pq m → AW κ (δ, b, NM, 5, shM, False, Qc, 0, 0) NM 0 0 39 [some (.ref (b + 0)), some (.int (nI s)), some (.int (-(nI (rowT S (nI s))))), some (.int (nI m)), some (.int (nI 1))] [] μc := by
      intro f
      induction f with
      | zero => intro pq m τc μc h1 h2 hD; exact absurd hD.2.2.2.2 (by have := hD.2.2.2.1; omega)
      | succ f ih =>
        intro pq m τc μc h1 h2 hD hTc hsc hO hr9
        have Wc := wm_same W hsc
        have hk := hD.2.2.2.1
        have hq := hD.2.2.2.2
        refine AW.iload X dX12_street_39 rfl ?_
        refine AW.if_eqN X (tgt := 99) dX12_street_41 (by decide) (by omega) (fun h41 => ?_) (fun h41 => ?_)
        · exact absurd h41 (by decide)
        · refine AW.aload_n X dX12_street_44 (i := 0) rfl rfl ?_
          rcases hit45 : itOne (enR (kk S 1 s) (S.2.2.2 s)) τc pq with k45 | ⟨τ45, q45⟩
          · refine AW.callV X dX12_street_45 lX12_213 cfX12 (c_X12_item Wc hD hTc) om0 rfl rfl rfl rfl ⟨rfl, rfl⟩ (pI_k fun r45 μ45 hr45 => ?_)
            have hs45 := hsc.trn (hr45.1.mono it_st)
            have W45 := wm_same Wc hr45.1
            have hO45 := old_same hO hr45.1 it_18
            obtain ⟨rfl, hf45, hkk45⟩ := hr45.2.1 _ hit45
            refine AW.istore X dX12_street_48 rfl ?_
            refine AW.iload X dX12_street_50 rfl ?_
            refine AW.if_eqN X (tgt := 58) dX12_street_52 (by decide) (by omega) (fun h52 => ?_) (fun h52 => ?_)
            · refine AW.iload X dX12_street_58 rfl ?_
              refine AW.if_eqN X (tgt := 83) dX12_street_60 (by decide) (by omega) (fun h60 => ?_) (fun h60 => ?_)
              · refine AW.iload X dX12_street_83 rfl ?_
                refine AW.if_eqN X (tgt := 39) dX12_street_85 (by decide) (by omega) (fun h85 => ?_) (fun h85 => ?_)
                · exact L39z k45 m _ (hr9.trans (by simp only [itemsA, hit45])) hkk45 hs45 hO45 hf45
                · exact absurd h85 (by decide)
              · exact absurd h60 (by decide)
            · exact absurd h52 (by decide)
          · refine AW.callV X dX12_street_45 lX12_213 cfX12 (c_X12_item Wc hD hTc) om0 rfl rfl rfl rfl ⟨rfl, rfl⟩ (pI_k fun r45 μ45 hr45 => ?_)
            have hs45 := hsc.trn (hr45.1.mono it_st)
            have W45 := wm_same Wc hr45.1
            have hO45 := old_same hO hr45.1 it_18
            obtain ⟨rfl, hD45, hT45, hp45⟩ := hr45.2.2 _ _ hit45
            have hq45 := hD45.2.2.2.2
            refine AW.istore X dX12_street_48 rfl ?_
            refine AW.iload X dX12_street_50 rfl ?_
            refine AW.if_eqN X (tgt := 58) dX12_street_52 (by decide) (by omega) (fun h52 => ?_) (fun h52 => ?_)
            · exact absurd h52 (by decide)
            · refine AW.iincN X (c := (m + 1)) dX12_street_55 rfl (inc_1 _) rfl ?_
              refine AW.iload X dX12_street_58 rfl ?_
              refine AW.if_eqN X (tgt := 83) dX12_street_60 (by decide) (by omega) (fun h60 => ?_) (fun h60 => ?_)
              · exact absurd h60 (by decide)
              · refine AW.aload_n X dX12_street_63 (i := 0) rfl rfl ?_
                refine AW.getI X dX12_street_64 fX12_158 rfl om0 hD45.1.2.1 ?_
                refine AW.aload_n X dX12_street_67 (i := 0) rfl rfl ?_
                refine AW.getR X dX12_street_68 fX12_13 rfl om0 (wm_at W45 1 rfl) ?_
                refine AW.iload_n X dX12_street_71 (i := 1) rfl rfl ?_
                refine AW.iaload X dX12_street_72 (am_at 1 rfl) (n2_in (by omega) (by decide)) (v := (nI (kk S 1 s))) (by rw [n2_clamp (by omega)]; exact hD45.1.2.2) ?_
                refine AW.icmp_neN X (tgt := 83) dX12_street_73 (by decide) (by omega) (by omega) (fun h73 => ?_) (fun h73 => ?_)
                · refine AW.iload X dX12_street_83 rfl ?_
                  refine AW.if_eqN X (tgt := 39) dX12_street_85 (by decide) (by omega) (fun h85 => ?_) (fun h85 => ?_)
                  · exact absurd h85 (by decide)
                  · refine AW.aload_n X dX12_street_88 (i := 0) rfl rfl ?_
                    refine AW.bipushN X 59 dX12_street_89 rfl ?_
                    by_cases he91 : (enR (kk S 1 s) (S.2.2.2 s)) q45 = nI 59
                    · have hl91 := enR_lt (by decide) he91
                      refine AW.callV X dX12_street_91 lX12_177 cfX12 (ct_is W45 hD45 (by decide) he91) om0 rfl rfl rfl rfl ⟨rfl, rfl⟩ (pI_k fun r91 μr91 hr91 => ?_)
                      obtain ⟨rfl, rfl⟩ := hr91
                      have hD91 := rdm_at hD45 (q := q45 + 1) (by omega)
                      have W91 : WM (wI μ45 0 28 (nI (q45 + 1))).2.2 := W45
                      have hs91 := hs45.trn (SmM.w (o := 0) (k := 28) (v := nI (q45 + 1)) (Or.inr (Or.inl (Or.inr (Or.inl ⟨rfl, rfl⟩)))))
                      have hT91 : TMX (wI μ45 0 28 (nI (q45 + 1))) τ45 := tm_same hT45 (SmM.w (P := ATp) ⟨rfl, rfl⟩) (fun q k a c => by unfold TPl at a; unfold ATp at c; omega)
                      refine AW.istore X dX12_street_94 rfl ?_
                      refine AW.goto X (tgt := 39) dX12_street_96 (by decide) ?_
                      exact ih (q45 + 1) (m + 1) τ45 _ (by omega) (by omega) hD91 hT91 hs91 (old_same hO45 (SmM.w (P := ATp) ⟨rfl, rfl⟩) (fun k z => by unfold ATp at z; omega)) (hr9.trans (by simp only [itemsA, hit45]; rw [if_neg (by omega), if_pos he91]))
                    · refine AW.callV X dX12_street_91 lX12_177 cfX12 (cf_is W45 hD45 (by decide) he91) om0 rfl rfl rfl rfl ⟨rfl, rfl⟩ (pI_k fun r91 μr91 hr91 => ?_)
                      obtain ⟨rfl, hm91⟩ := hr91
                      obtain rfl : μ45 = μr91 := hm91.symm
                      refine AW.istore X dX12_street_94 rfl ?_
                      refine AW.goto X (tgt := 39) dX12_street_96 (by decide) ?_
                      exact L39z q45 (m + 1) _ (hr9.trans (by simp only [itemsA, hit45]; rw [if_neg (by omega), if_neg he91])) (by omega) hs45 hO45 hD45.1.2.1
                · refine AW.aload_n X dX12_street_76 (i := 0) rfl rfl ?_
                  refine AW.iconst X (v := -1) dX12_street_77 rfl ?_
                  refine AW.putI X dX12_street_78 fX12_84 rfl rfl ⟨rfl, rfl⟩ (by decide) om0 ?_
                  refine AW.iload_n X dX12_street_81 (i := 3) rfl rfl ?_
                  refine AW.iret X hQ dX12_street_82 ⟨_, rfl, ?_⟩
                  have hall : rdSt S s = .inr (τ45, m + 1) := hr9.trans (by simp only [itemsA, hit45]; rw [if_pos (by omega)])
                  exact rm_val (by simp only [S_street, gr, cs, hall, ne_eq, not_true, if_false]) (rm_flt (f := 0) hR (hs45.trn (SmM.w (Or.inr (Or.inr ⟨rfl, Or.inr rfl⟩)))) (by simp [wI, dn_0]) (tm_st0 hT45 (SmM.w ⟨rfl, Or.inl rfl⟩)) (itemsA_n bn hall))
    exact L39 161 0 0 S.1 _ (by omega) (Nat.le_refl _) (rdm_init hR hs hp.2) (tm_st0 (tm_same hT hp.2 (fun q k a c => by unfold TPl at a; unfold KOp at c; omega)) ((SmM.w ⟨rfl, Or.inr (Or.inl rfl)⟩ (P := fun q k => q = 0 ∧ (k = 20 ∨ k = 27 ∨ k = 28))).trn (SmM.w ⟨rfl, Or.inr (Or.inr rfl)⟩))) (((hp.2.mono k18_st).trn (SmM.w (Or.inr (Or.inr ⟨rfl, Or.inl rfl⟩)))).trn (SmM.w (Or.inr (Or.inl (Or.inr (Or.inl ⟨rfl, rfl⟩)))))) (old_same hp.1 ((SmM.w ⟨rfl, Or.inr (Or.inl rfl)⟩ (P := fun q k => q = 0 ∧ (k = 20 ∨ k = 27 ∨ k = 28))).trn (SmM.w ⟨rfl, Or.inr (Or.inr rfl)⟩)) (fun k z => by omega)) rfl
  · replace h7 := Int32.not_le.mp h7
    have hr0 := rowT_le S xa
    have gr : ¬ rowT S xa = 0 := (rt_neg _ (by omega)).mp h7
    refine AW.aload_n X dX12_street_10 (i := 0) rfl rfl ?_
    refine AW.iload_n X dX12_street_11 (i := 2) rfl rfl ?_
    refine AW.callV X dX12_street_12 lX12_98 cfX12 (c_X12_no (k := rowT S xa) hR (by omega) rfl) om0 rfl rfl rfl rfl ⟨rfl, rfl⟩ (pI_k fun r μ1 hr => ?_)
    refine AW.iret X hQ dX12_street_15 ⟨_, rfl, ?_⟩
    refine rm_of ?_ hr
    simp [S_street, *]
