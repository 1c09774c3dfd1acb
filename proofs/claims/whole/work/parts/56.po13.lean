theorem prx_ps {μ μ' : Mm} {N : Nat} {U : Nat → Nat} (h : PRX μ N U) (e : ∀ k, μ'.1 0 4 = μ.1 0 4 ∧ μ'.1 13 k = μ.1 13 k) : PRX μ' N U := ⟨by rw [(e 0).1]; exact h.1, h.2.1, fun t ht => by rw [(e t).2]; exact h.2.2 t ht⟩
theorem wx_ps {μ μ' : Mm} (W : WX μ.2.2) (h : PRS μ μ') : WX μ'.2.2 := by rw [h.1]; exact W
theorem wT_none {N p t m : Nat} {U w : Nat → Nat} (h : mayC N U t p = false) : wT N U p w (t + 1) m = wT N U p w t m := by rw [wT, if_neg (by rw [h]; decide)]
theorem wT_zero {N p t m : Nat} {U w : Nat → Nat} (h : w p = 0) : wT N U p w (t + 1) m = wT N U p w t m := by
  rw [wT]
  split
  · dsimp only
    split
    · rw [wT_low (Nat.le_refl p), h, Nat.add_zero]
    · rfl
  · rfl
theorem wT_put {N p t : Nat} {U w : Nat → Nat} {fa fb : Nat → Int32} (h : mayC N U t p = true) (hf : ∀ m, m < 256 → fa m = nI (wT N U p w t m)) (h1 : fb (p ||| 2 ^ t) = nI (wT N U p w t (p ||| 2 ^ t) + wT N U p w t p)) (h2 : ∀ m, m ≠ p ||| 2 ^ t → fb m = fa m) : ∀ m, m < 256 → fb m = nI (wT N U p w (t + 1) m) := by
  intro m hm
  rw [wT, if_pos h]
  by_cases z : m = p ||| 2 ^ t
  · subst z; rw [h1, if_pos rfl]
  · rw [h2 m z, if_neg z]; exact hf m hm
set_option maxRecDepth 100000 in
set_option maxHeartbeats 4000000 in
theorem c_X11_countOrders {l : Launch} {δ : Dl} {b : Nat} {μ : Mm} (W : WX μ.2.2) {N : Nat} {U : Nat → Nat} (hp : PRX μ N U)  : MCX l δ b yX11_countOrders cX11_countOrders 3 (some .int) 2 [.ref (b + 0)] μ (pI fun r μ' => r = nI (ordF N U 256 0) ∧ PRS μ μ') := by
  have hN := hp.2.1
  refine MC.intro ([some (.ref (b + 0)), none, none]) (by decide) rfl rfl fun κ Qc hl hQ X => ?_
  subst hl
  refine AW.iconstN X 0 dX11_countOrders_0 rfl ?_
  refine AW.istore_n X dX11_countOrders_1 (i := 1) rfl rfl ?_
  have L2 : ∀ (m2 ix : Nat) (μc : Mm), 256 - ix < m2 → ix ≤ 256 → (μc = zrM μ 14 ix) → AW κ (δ, b, NX, 3, shX, False, Qc, 0, 0) NX 0 0 2 [some (.ref (b + 0)), some (.int (nI ix)), none] [] μc := by
    intro m2
    induction m2 with
    | zero => intro ix μc hm; exact absurd hm (Nat.not_lt_zero _)
    | succ m2 ih2 =>
      intro ix μc hm2 hi2 hm
      have Wc : WX μc.2.2 := by rw [hm]; exact W
      refine AW.iload_n X dX11_countOrders_2 (i := 1) rfl rfl ?_
      refine AW.aload_n X dX11_countOrders_3 (i := 0) rfl rfl ?_
      refine AW.getR X dX11_countOrders_4 fX11_31 rfl ox0 (wx_ways Wc) ?_
      refine AW.alen X dX11_countOrders_7 rfl ax14 ?_
      refine AW.icmp_geN X (tgt := 24) dX11_countOrders_8 (by decide) (by omega) (by omega) (fun h8 => ?_) (fun h8 => ?_)
      · obtain rfl : ix = 256 := by omega
        have n8 := Nat.not_lt_of_le h8
        refine AW.aload_n X dX11_countOrders_24 (i := 0) rfl rfl ?_
        refine AW.getR X dX11_countOrders_25 fX11_31 rfl ox0 (wx_ways Wc) ?_
        refine AW.iconstN X 0 dX11_countOrders_28 rfl ?_
        refine AW.iconstN X 1 dX11_countOrders_29 rfl ?_
        refine AW.iastore X dX11_countOrders_30 (by decide) ax14 (n2_in (by omega) (by decide)) ?_
        rw [n2_clamp (by omega)]
        have hs1 : PRS μ (wI μc 14 0 (nI 1)) := by subst hm; exact ⟨rfl, fun q k a c d => by simp [wI, zrM, c]⟩
        have hp1 : PRX (wI μc 14 0 (nI 1)) N U := by subst hm; exact prx_ps hp (fun k => ⟨by simp [wI, zrM], by simp [wI, zrM]⟩)
        have hw1 : ∀ m, m < 256 → (wI μc 14 0 (nI 1)).1 14 m = nI (wP N U 0 m) := by subst hm; intro m h9; by_cases z : m = 0; (subst z; simp [wI, wP]); simp [wI, zrM, wP, z, h9]
        refine AW.iconstN X 0 dX11_countOrders_31 rfl ?_
        refine AW.istore_n X dX11_countOrders_32 (i := 1) rfl rfl ?_
        have L33 : ∀ (m33 ix : Nat) (μd : Mm), 256 - ix < m33 → ix ≤ 256 → (PRS μ μd) → (PRX μd N U) → (∀ m, m < 256 → μd.1 14 m = nI (wP N U ix m)) → AW κ (δ, b, NX, 3, shX, False, Qc, 0, 0) NX 0 0 33 [some (.ref (b + 0)), some (.int (nI ix)), none] [] μd := by
          intro m33
          induction m33 with
          | zero => intro ix μd hm; exact absurd hm (Nat.not_lt_zero _)
          | succ m33 ih33 =>
            intro ix μd hm33 hi33 hs hpd hw
            have Wd := wx_ps W hs
            refine AW.iload_n X dX11_countOrders_33 (i := 1) rfl rfl ?_
            refine AW.aload_n X dX11_countOrders_34 (i := 0) rfl rfl ?_
            refine AW.getR X dX11_countOrders_35 fX11_31 rfl ox0 (wx_ways Wd) ?_
            refine AW.alen X dX11_countOrders_38 rfl ax14 ?_
            refine AW.icmp_geN X (tgt := 99) dX11_countOrders_39 (by decide) (by omega) (by omega) (fun h39 => ?_) (fun h39 => ?_)
            · obtain rfl : ix = 256 := by omega
              have n39 := Nat.not_lt_of_le h39
              refine AW.aload_n X dX11_countOrders_99 (i := 0) rfl rfl ?_
              refine AW.getR X dX11_countOrders_100 fX11_31 rfl ox0 (wx_ways Wd) ?_
              refine AW.aload_n X dX11_countOrders_103 (i := 0) rfl rfl ?_
              refine AW.getI X dX11_countOrders_104 fX11_24 rfl ox0 (v := (nI N)) (px_n hpd) ?_
              refine AW.iaload X dX11_countOrders_107 ax14 (n2_in (by omega) (by decide)) (v := (nI (wP N U 256 N))) (by rw [n2_clamp (by omega)]; exact hw _ hN) ?_
              refine AW.iret X hQ dX11_countOrders_108 ⟨_, rfl, ?_⟩
              exact ⟨by rw [wP_N hN], hs⟩
            · have n39 := Nat.not_le_of_lt h39
              refine AW.iconstN X 0 dX11_countOrders_42 rfl ?_
              refine AW.istore_n X dX11_countOrders_43 (i := 2) rfl rfl ?_
              have L44 : ∀ (m44 jx : Nat) (μe : Mm), 8 - jx < m44 → jx ≤ 8 → (PRS μ μe) → (PRX μe N U) → (∀ m, m < 256 → μe.1 14 m = nI (wT N U ix (wP N U ix) jx m)) → AW κ (δ, b, NX, 3, shX, False, Qc, 0, 0) NX 0 0 44 [some (.ref (b + 0)), some (.int (nI ix)), some (.int (nI jx))] [] μe := by
                intro m44
                induction m44 with
                | zero => intro jx μe hm; exact absurd hm (Nat.not_lt_zero _)
                | succ m44 ih44 =>
                  intro jx μe hm44 hi44 hse hpe hwe
                  have We := wx_ps W hse
                  refine AW.iload_n X dX11_countOrders_44 (i := 2) rfl rfl ?_
                  refine AW.bipushN X 8 dX11_countOrders_45 rfl ?_
                  refine AW.icmp_geN X (tgt := 93) dX11_countOrders_47 (by decide) (by omega) (by omega) (fun h47 => ?_) (fun h47 => ?_)
                  · obtain rfl : jx = 8 := by omega
                    have n47 := Nat.not_lt_of_le h47
                    refine AW.iincN X (c := (ix + 1)) dX11_countOrders_93 rfl (inc_1 _) rfl ?_
                    refine AW.goto X (tgt := 33) dX11_countOrders_96 (by decide) ?_
                    refine AW.cgw (ih33 (ix + 1) μe (by omega) (by omega) hse hpe hwe) ⟨rfl, rfl, trivial⟩
                  · have n47 := Nat.not_le_of_lt h47
                    have b1 := wP_le (N := N) (U := U) (p := ix) (m := ix) (by omega) (by omega)
                    refine AW.aload_n X dX11_countOrders_50 (i := 0) rfl rfl ?_
                    refine AW.getR X dX11_countOrders_51 fX11_31 rfl ox0 (wx_ways We) ?_
                    refine AW.iload_n X dX11_countOrders_54 (i := 1) rfl rfl ?_
                    refine AW.iaload X dX11_countOrders_55 ax14 (n2_in (by omega) (by decide)) (v := (nI (wP N U ix ix))) (by rw [n2_clamp (by omega), hwe ix (by omega), wT_low (Nat.le_refl ix)]) ?_
                    refine AW.if_leN X (tgt := 87) dX11_countOrders_56 (by decide) (by omega) (fun h56 => ?_) (fun h56 => ?_)
                    · refine AW.iincN X (c := (jx + 1)) dX11_countOrders_87 rfl (inc_1 _) rfl ?_
                      refine AW.goto X (tgt := 44) dX11_countOrders_90 (by decide) ?_
                      refine AW.cgw (ih44 (jx + 1) μe (by omega) (by omega) hse hpe (fun m hm => (hwe m hm).trans (congrArg nI (wT_zero h56).symm))) ⟨rfl, rfl, rfl, trivial⟩
                    · refine AW.aload_n X dX11_countOrders_59 (i := 0) rfl rfl ?_
                      refine AW.iload_n X dX11_countOrders_60 (i := 2) rfl rfl ?_
                      refine AW.iload_n X dX11_countOrders_61 (i := 1) rfl rfl ?_
                      refine AW.callV X dX11_countOrders_62 lX11_340 cfX11 (c_X11_mayComeOn We hpe (by omega) (by omega)) ox0 rfl rfl rfl rfl ⟨rfl, rfl⟩ (pR_k ?_)
                      refine AW.if_eqB X (tgt := 87) dX11_countOrders_65 (by decide) (fun h65 => ?_) (fun h65 => ?_)
                      · refine AW.iincN X (c := (jx + 1)) dX11_countOrders_87 rfl (inc_1 _) rfl ?_
                        refine AW.goto X (tgt := 44) dX11_countOrders_90 (by decide) ?_
                        refine AW.cgw (ih44 (jx + 1) μe (by omega) (by omega) hse hpe (fun m hm => (hwe m hm).trans (congrArg nI (wT_none h65).symm))) ⟨rfl, rfl, rfl, trivial⟩
                      · have b2 := or_lt8 (show ix < 256 by omega) (pow_lt8 (show jx < 8 by omega))
                        refine AW.aload_n X dX11_countOrders_68 (i := 0) rfl rfl ?_
                        refine AW.getR X dX11_countOrders_69 fX11_31 rfl ox0 (wx_ways We) ?_
                        refine AW.iload_n X dX11_countOrders_72 (i := 1) rfl rfl ?_
                        refine AW.iconstN X 1 dX11_countOrders_73 rfl ?_
                        refine AW.iload_n X dX11_countOrders_74 (i := 2) rfl rfl ?_
                        refine AW.shl1 X dX11_countOrders_75 (by omega) ?_
                        refine AW.iorN X dX11_countOrders_76 ?_
                        refine AW.dup2 X dX11_countOrders_77 rfl rfl ?_
                        refine AW.iaload X dX11_countOrders_78 ax14 (n2_in (by omega) (by decide)) (v := (nI (wT N U ix (wP N U ix) jx (ix ||| 2 ^ jx)))) (by rw [n2_clamp (by omega)]; exact hwe _ b2) ?_
                        refine AW.aload_n X dX11_countOrders_79 (i := 0) rfl rfl ?_
                        refine AW.getR X dX11_countOrders_80 fX11_31 rfl ox0 (wx_ways We) ?_
                        refine AW.iload_n X dX11_countOrders_83 (i := 1) rfl rfl ?_
                        refine AW.iaload X dX11_countOrders_84 ax14 (n2_in (by omega) (by decide)) (v := (nI (wT N U ix (wP N U ix) jx ix))) (by rw [n2_clamp (by omega)]; exact hwe _ (by omega)) ?_
                        refine AW.iaddN X dX11_countOrders_85 ?_
                        refine AW.iastore X dX11_countOrders_86 (by decide) ax14 (n2_in (by omega) (by decide)) ?_
                        rw [n2_clamp (by omega)]
                        refine AW.iincN X (c := (jx + 1)) dX11_countOrders_87 rfl (inc_1 _) rfl ?_
                        refine AW.goto X (tgt := 44) dX11_countOrders_90 (by decide) ?_
                        refine AW.cgw (ih44 (jx + 1) (wI μe 14 (ix ||| (2 ^ jx)) (nI ((wT N U ix (wP N U ix) jx (ix ||| 2 ^ jx)) + (wT N U ix (wP N U ix) jx ix)))) (by omega) (by omega) (hse.tr (PRS.wI (by omega))) (prx_ps hpe (fun k => ⟨by simp [wI], by simp [wI]⟩)) (wT_put h65 hwe (by simp [wI, nI_add]) (fun m z => by simp [wI, z]))) ⟨rfl, rfl, rfl, trivial⟩
              refine AW.cgw (L44 _ 0 μd (Nat.lt_succ_self _) (by omega) hs hpd hw) ⟨rfl, rfl, rfl, trivial⟩
        refine AW.cgw (L33 _ 0 (wI μc 14 0 (nI 1)) (Nat.lt_succ_self _) (by omega) hs1 hp1 hw1) ⟨rfl, rfl, trivial⟩
      · have n8 := Nat.not_le_of_lt h8
        refine AW.aload_n X dX11_countOrders_11 (i := 0) rfl rfl ?_
        refine AW.getR X dX11_countOrders_12 fX11_31 rfl ox0 (wx_ways Wc) ?_
        refine AW.iload_n X dX11_countOrders_15 (i := 1) rfl rfl ?_
        refine AW.iconstN X 0 dX11_countOrders_16 rfl ?_
        refine AW.iastore X dX11_countOrders_17 (by decide) ax14 (n2_in (by omega) (by decide)) ?_
        rw [n2_clamp (by omega)]
        refine AW.iincN X (c := (ix + 1)) dX11_countOrders_18 rfl (inc_1 _) rfl ?_
        refine AW.goto X (tgt := 2) dX11_countOrders_21 (by decide) ?_
        refine AW.cgw (ih2 (ix + 1) (wI μc 14 ix (nI 0)) (by omega) (by omega) (by rw [hm, zr_s])) ⟨rfl, rfl, trivial⟩
  refine AW.cgw (L2 _ 0 μ (Nat.lt_succ_self _) (by omega) (zr_0 _ _)) ⟨rfl, rfl, trivial⟩
def eP (S : St) (x : Int32) (k : Nat) : Int32 := (S.2.2.2 (cl x) k).toInt32
def prsOK (S : St) (x : Int32) : Nat → Bool
  | 0 => true
  | k + 1 => prsOK S x k && isP (eP S x k)
theorem prsOK_at {S : St} {x : Int32} : ∀ {m k : Nat}, prsOK S x m = true → k < m → isP (eP S x k) = true
  | 0, k, _, h => absurd h (Nat.not_lt_zero k)
  | m + 1, k, h, hk => by
    rw [prsOK, Bool.and_eq_true] at h
    by_cases z : k = m
    · subst z; exact h.2
    · exact prsOK_at h.1 (by omega)
/-- why the first m elements of shelf x are no pairs -/
def prT (S : St) (x m : Int32) (bad : Bool) : Nat := if rowT S x ≠ 0 then rowT S x else if m < 0 then 4 else if nI (kk S 1 (cl x)) < m then 5 else if bad = true then 5 else if nI 20 < m then 6 else if prsOK S x (cl m) = true then 0 else 6
theorem prT_le (S : St) (x m : Int32) (bad : Bool) : prT S x m bad ≤ 6 := by
  have := rowT_le S x
  unfold prT
  repeat' split
  all_goals omega
set_option maxRecDepth 100000 in
set_option maxHeartbeats 4000000 in
theorem c_X11_pairsTrouble {l : Launch} {δ : Dl} {b : Nat} {μ : Mm} {S : St} (hR : RX μ S) {xa ya : Int32} {bad : Bool} : MCX l δ b yX11_pairsTrouble cX11_pairsTrouble 6 (some .int) 3 [.ref (b + 0), .int xa, .int ya, .int (bI bad)] μ (pI fun r μ' => r = nI (prT S xa ya bad) ∧ μ' = μ) := by
  obtain ⟨B, Bd, tb, hnow, hdr, hT⟩ := hR.2.2.1
  have W := rx_w hR
  have ta := two_ta tb
  have hB := ta.1
  have hBd := ta.2.1
  have bn := ti_n hT.1
  have hrt := rowT_le S xa
  refine MC.intro ([some (.ref (b + 0)), some (.int xa), some (.int ya), some (.int (bI bad)), none, none]) (by decide) rfl rfl fun κ Qc hl hQ X => ?_
  subst hl
  refine AW.aload_n X dX11_pairsTrouble_0 (i := 0) rfl rfl ?_
  refine AW.iload_n X dX11_pairsTrouble_1 (i := 1) rfl rfl ?_
  refine AW.callV X dX11_pairsTrouble_2 lX11_99 cfX11 (c_X11_rowTrouble hR) ox0 rfl rfl rfl rfl ⟨rfl, rfl⟩ (pR_k ?_)
  refine AW.istore X dX11_pairsTrouble_5 rfl ?_
  refine AW.iload X dX11_pairsTrouble_7 rfl ?_
  refine AW.if_eqN X (tgt := 15) dX11_pairsTrouble_9 (by decide) (by omega) (fun h9 => ?_) (fun h9 => ?_)
  · obtain ⟨s, hs, es, hk⟩ := rowT_0 h9
    subst es
    have hz := hR.1.2.2.2.1 s hs
    have cs := cl_n (show s < 2147483648 by omega)
    have g9 : rowT S (nI s) = 0 := h9
    refine AW.iload_n X dX11_pairsTrouble_15 (i := 2) rfl rfl ?_
    refine AW.if_ge X (tgt := 21) dX11_pairsTrouble_16 (by decide) (fun h16 => ?_) (fun h16 => ?_)
    · replace h16 := Int32.not_lt.mpr h16
      have g16 : ¬ ya < 0 := h16
      obtain ⟨m, hm, em⟩ := nI_of g16
      subst em
      have cm := cl_n hm
      refine AW.iload_n X dX11_pairsTrouble_21 (i := 2) rfl rfl ?_
      refine AW.aload_n X dX11_pairsTrouble_22 (i := 0) rfl rfl ?_
      refine AW.getR X dX11_pairsTrouble_23 fX11_13 rfl ox0 (wx_sizes W) ?_
      refine AW.iload_n X dX11_pairsTrouble_26 (i := 1) rfl rfl ?_
      refine AW.iaload X dX11_pairsTrouble_27 ax2 (n2_in (by omega) (by decide)) (v := (nI (kk S 1 s))) (by rw [n2_clamp (by omega)]; exact rx_size hR (by omega)) ?_
      refine AW.icmp_gtN X (tgt := 35) dX11_pairsTrouble_28 (by decide) (by omega) (by omega) (fun h28 => ?_) (fun h28 => ?_)
      · have g28 : nI (kk S 1 s) < nI m := (n2_lt (by omega) (by omega)).mpr h28
        have n28 := Nat.not_le_of_lt h28
        refine AW.iconstN X 5 dX11_pairsTrouble_35 rfl ?_
        refine AW.iret X hQ dX11_pairsTrouble_36 ⟨_, rfl, ?_⟩
        exact ⟨congrArg nI (by simp [prT, *]), rfl⟩
      · have g28 : ¬ nI (kk S 1 s) < nI m := by rw [n2_lt (by omega) (by omega)]; omega
        have n28 := Nat.not_lt_of_le h28
        refine AW.iload_n X dX11_pairsTrouble_31 (i := 3) rfl rfl ?_
        refine AW.if_eqB X (tgt := 37) dX11_pairsTrouble_32 (by decide) (fun h32 => ?_) (fun h32 => ?_)
        · refine AW.iload_n X dX11_pairsTrouble_37 (i := 2) rfl rfl ?_
          refine AW.bipushN X 20 dX11_pairsTrouble_38 rfl ?_
          refine AW.icmp_leN X (tgt := 46) dX11_pairsTrouble_40 (by decide) (by omega) (by omega) (fun h40 => ?_) (fun h40 => ?_)
          · have g40 : ¬ nI 20 < nI m := by rw [n2_lt (by decide) (by omega)]; omega
            have n40 := Nat.not_lt_of_le h40
            refine AW.iconstN X 0 dX11_pairsTrouble_46 rfl ?_
            refine AW.istore X dX11_pairsTrouble_47 rfl ?_
            have L49 : ∀ (m49 ix : Nat), m - ix < m49 → ix ≤ m → (prsOK S (nI s) ix = true) → AW κ (δ, b, NX, 6, shX, False, Qc, 0, 0) NX 0 0 49 [some (.ref (b + 0)), some (.int (nI s)), some (.int (nI m)), some (.int (bI bad)), some (.int (nI (rowT S (nI s)))), some (.int (nI ix))] [] μ := by
              intro m49
              induction m49 with
              | zero => intro ix hm; exact absurd hm (Nat.not_lt_zero _)
              | succ m49 ih49 =>
                intro ix hm49 hi49 hok
                refine AW.iload X dX11_pairsTrouble_49 rfl ?_
                refine AW.iload_n X dX11_pairsTrouble_51 (i := 2) rfl rfl ?_
                refine AW.icmp_geN X (tgt := 80) dX11_pairsTrouble_52 (by decide) (by omega) (by omega) (fun h52 => ?_) (fun h52 => ?_)
                · obtain rfl : ix = m := by omega
                  have n52 := Nat.not_lt_of_le h52
                  refine AW.iconstN X 0 dX11_pairsTrouble_80 rfl ?_
                  refine AW.iret X hQ dX11_pairsTrouble_81 ⟨_, rfl, ?_⟩
                  exact ⟨congrArg nI (by simp [prT, *]), rfl⟩
                · have n52 := Nat.not_le_of_lt h52
                  refine AW.aload_n X dX11_pairsTrouble_55 (i := 0) rfl rfl ?_
                  refine AW.getR X dX11_pairsTrouble_56 fX11_18 rfl ox0 (wx_elements W) ?_
                  refine AW.iload_n X dX11_pairsTrouble_59 (i := 1) rfl rfl ?_
                  refine AW.aaload X (r := (4 + s)) dX11_pairsTrouble_60 rfl rfl ax3 (n2_in (by omega) (by decide)) (by rw [n2_clamp (by omega)]; exact wx_el W (by omega)) ?_
                  refine AW.iload X dX11_pairsTrouble_61 rfl ?_
                  refine AW.laload X dX11_pairsTrouble_63 (ax_el (by omega)) (n2_in (by omega) (by decide)) (v := (S.2.2.2 s ix)) (by rw [n2_clamp (by omega)]; exact rx_elem hR hs (by omega)) ?_
                  refine AW.l2i X dX11_pairsTrouble_64 ?_
                  refine AW.callS X dX11_pairsTrouble_65 lX11_337 (c_X11_isPair) rfl rfl rfl rfl ⟨rfl, rfl⟩ (pR_k ?_)
                  refine AW.if_neB X (tgt := 74) dX11_pairsTrouble_68 (by decide) (fun h68 => ?_) (fun h68 => ?_)
                  · refine AW.iincN X (c := (ix + 1)) dX11_pairsTrouble_74 rfl (inc_1 _) rfl ?_
                    refine AW.goto X (tgt := 49) dX11_pairsTrouble_77 (by decide) ?_
                    refine AW.cgw (ih49 (ix + 1) (by omega) (by omega) (by rw [prsOK, hok, eP, cs]; exact h68)) ⟨rfl, rfl, rfl, rfl, rfl, rfl, trivial⟩
                  · have nok : prsOK S (nI s) m = false := by cases q : prsOK S (nI s) m; rfl; have q2 := prsOK_at q h52; rw [eP, cs] at q2; exact absurd (h68.symm.trans q2) (by decide)
                    refine AW.bipushN X 6 dX11_pairsTrouble_71 rfl ?_
                    refine AW.iret X hQ dX11_pairsTrouble_73 ⟨_, rfl, ?_⟩
                    exact ⟨congrArg nI (by simp [prT, *]), rfl⟩
            refine AW.cgw (L49 _ 0 (Nat.lt_succ_self _) (by omega) rfl) ⟨rfl, rfl, rfl, rfl, rfl, rfl, trivial⟩
          · have g40 : nI 20 < nI m := (n2_lt (by decide) (by omega)).mpr h40
            have n40 := Nat.not_le_of_lt h40
            refine AW.bipushN X 6 dX11_pairsTrouble_43 rfl ?_
            refine AW.iret X hQ dX11_pairsTrouble_45 ⟨_, rfl, ?_⟩
            exact ⟨congrArg nI (by simp [prT, *]), rfl⟩
        · refine AW.iconstN X 5 dX11_pairsTrouble_35 rfl ?_
          refine AW.iret X hQ dX11_pairsTrouble_36 ⟨_, rfl, ?_⟩
          exact ⟨congrArg nI (by simp [prT, *]), rfl⟩
    · replace h16 := Int32.not_le.mp h16
      refine AW.iconstN X 4 dX11_pairsTrouble_19 rfl ?_
      refine AW.iret X hQ dX11_pairsTrouble_20 ⟨_, rfl, ?_⟩
      exact ⟨congrArg nI (by simp [prT, *]), rfl⟩
  · have g9 : ¬ rowT S xa = 0 := h9
    refine AW.iload X dX11_pairsTrouble_12 rfl ?_
    refine AW.iret X hQ dX11_pairsTrouble_14 ⟨_, rfl, ?_⟩
    exact ⟨congrArg nI (by simp [prT, *]), rfl⟩
def ePN (S : St) (x : Int32) (k : Nat) : Nat := cl (eP S x k)
def S_orders (S : St) (x m i : Int32) : Int32 × St :=
  if prT S x m (decide (i < -1)) ≠ 0 then ref S (prT S x m (decide (i < -1))) 0
  else if i = -1 then (nI (ordF (nmd (ePN S x) (cl m)) (ovr (ePN S x) (cl m)) 256 0), S)
  else if pcnt (nmd (ePN S x) (cl m)) ≤ cl i then ref S 5 0
  else if grd (nmd (ePN S x) (cl m)) (ovr (ePN S x) (cl m)) 8 = nmd (ePN S x) (cl m) then (oI (lowO (nmd (ePN S x) (cl m)) (ovr (ePN S x) (cl m)) (grd (nmd (ePN S x) (cl m)) (ovr (ePN S x) (cl m)) (cl i))), S) else ref S 5 0
def fgd (S : St) (x : Int32) (k : Nat) : Bool := !decide (grd (nmd (ePN S x) (k + 1)) (ovr (ePN S x) (k + 1)) 8 = nmd (ePN S x) (k + 1))
def S_forged (S : St) (x m : Int32) : Int32 × St := if prT S x m false ≠ 0 then ref S (prT S x m false) 10 else (oI (fstUp (fgd S x) (cl m) 0), S)
/-- pairs that are told: what is known of them -/
theorem prT_0 {S : St} {x m : Int32} {bad : Bool} (h : prT S x m bad = 0) : ∃ s k : Nat, s < 8 ∧ x = nI s ∧ m = nI k ∧ k ≤ 20 ∧ k ≤ kk S 1 s ∧ 101 ≤ kk S 0 s ∧ bad = false ∧ prsOK S x k = true := by
  unfold prT at h
  split at h
  · exact absurd h ‹_›
  · rename_i q
    obtain ⟨s, hs, rfl, hk⟩ := rowT_0 (Decidable.of_not_not q)
    split at h
    · cases h
    · obtain ⟨k, hk2, rfl⟩ := nI_of (x := m) ‹_›
      rw [cl_n (show s < 2147483648 by omega), cl_n hk2] at h
      split at h
      · cases h
      · split at h
        · cases h
        · split at h
          · cases h
          · split at h
            · rename_i z1 z2 z3 z4
              refine ⟨s, k, hs, rfl, rfl, ?_, ?_, hk, by simpa using z2, z4⟩
              · have := (n2_le hk2 (by decide)).mp (Int32.not_lt.mp z3); omega
              · have z5 := Int32.not_lt.mp z1
                by_cases y : kk S 1 s < 2147483648
                · exact (n2_le hk2 y).mp z5
                · omega
            · cases h
theorem prx_0 {μ : Mm} : PRX (zrM (wI μ 0 4 (nI 0)) 13 8) 0 (fun _ => 0) := ⟨by simp [zrM, wI], by decide, fun t ht => ⟨by simp [zrM, ht], (by decide : (0 : Nat) < 256)⟩⟩
theorem prs_0 {μ : Mm} : PRS μ (zrM (wI μ 0 4 (nI 0)) 13 8) := ⟨rfl, fun q k a c d => by simp [zrM, wI, a, d]⟩
theorem prx_s {μ : Mm} {e : Nat → Nat} {k : Nat} (h : PRX μ (nmd e k ||| (2 ^ (e k / 10) ||| 2 ^ (e k % 10))) (fun t => if t = e k / 10 then ovr e k t ||| 2 ^ (e k % 10) else ovr e k t)) : PRX μ (nmd e (k + 1)) (ovr e (k + 1)) := h
theorem nmd_lt {e : Nat → Nat} {m : Nat} (h : ∀ k, k < m → e k / 10 < 8 ∧ e k % 10 < 8) : nmd e m < 256 := by
  induction m with
  | zero => exact (by decide : (0 : Nat) < 256)
  | succ m ih => exact or_lt8 (ih (fun k hk => h k (by omega))) (or_lt8 (pow_lt8 (h m (by omega)).1) (pow_lt8 (h m (by omega)).2))
theorem ePN_of {S : St} {x : Int32} {m k : Nat} (h : prsOK S x m = true) (hk : k < m) : eP S x k = nI (ePN S x k) ∧ ePN S x k / 10 < 8 ∧ ePN S x k % 10 < 8 ∧ ePN S x k / 10 ≠ ePN S x k % 10 := by
  obtain ⟨v, e, a⟩ := isP_of (prsOK_at h hk)
  have : ePN S x k = v := by rw [ePN, e, cl_n (by omega)]
  rw [this]
  exact ⟨e, a⟩
