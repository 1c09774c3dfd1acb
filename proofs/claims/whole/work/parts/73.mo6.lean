/-! the reference's shelves -/
theorem tm_ints {μ μ' : Mm} {τ : Tt} (h : TMX μ τ) (e : ∀ q k, TPl q k → μ'.1 q k = μ.1 q k) : TMX μ' τ := by
  have f : TMX (μ'.1, μ.2) τ := tm_same (P := fun q k => ¬ TPl q k) h ⟨rfl, fun q k a => e q k (Decidable.of_not_not a)⟩ (fun q k a c => c a)
  exact f
theorem old_ints {μ μ' : Mm} {o : Nat} {τ : Tt} (h : OLD μ o τ) (e : ∀ k, μ'.1 o k = μ.1 o k) : OLD μ' o τ := by
  have e : μ'.1 o = μ.1 o := funext e
  unfold OLD
  rw [e]
  exact h
/-- a shelf changes: what it holds, how long its row is, its elements -/
theorem rm_shelf {μ μ' : Mm} {S : St} {s v m : Nat} {fE : Nat → Int64} (h : RMX μ S) (hs : s < 8) (hv : v = 0 ∨ (1 ≤ v ∧ v ≤ S.1 6 0 0) ∨ (101 ≤ v ∧ v ≤ 104)) (hm : m ≤ 160) (e1 : ∀ q k, ¬ ((q = 1 ∨ q = 2) ∧ k = s) → μ'.1 q k = μ.1 q k) (e2 : μ'.2.2 = μ.2.2) (eL : ∀ k, ¬ (160 * s ≤ k ∧ k < 160 * s + 160) → μ'.2.1 3 k = μ.2.1 3 k) (h1 : μ'.1 1 s = dn v) (h2 : μ'.1 2 s = nI m) (h3 : ∀ i, i < m → μ'.2.1 3 (160 * s + i) = fE i) : RMX μ' (eU (kU (kU S 0 s v) 1 s m) s fE) := by
  obtain ⟨⟨i1, i2, i3, i4, i5, i6⟩, W, hT, h4, x1, x2, x3, x4, x5, x6, x7⟩ := h
  have K0 : ∀ t, kk (eU (kU (kU S 0 s v) 1 s m) s fE) 0 t = if t = s then v else kk S 0 t := fun t => by
    show (if 0 = 1 ∧ t = s then m else if 0 = 0 ∧ t = s then v else kk S 0 t) = _
    simp
  have K1 : ∀ t, kk (eU (kU (kU S 0 s v) 1 s m) s fE) 1 t = if t = s then m else kk S 1 t := fun t => by
    show (if 1 = 1 ∧ t = s then m else if 1 = 0 ∧ t = s then v else kk S 1 t) = _
    simp
  have K : ∀ j k, 2 ≤ j → kk (eU (kU (kU S 0 s v) 1 s m) s fE) j k = kk S j k := fun j k a => by
    show (if j = 1 ∧ k = s then m else if j = 0 ∧ k = s then v else kk S j k) = _
    rw [if_neg (by omega), if_neg (by omega)]
  refine ⟨⟨i1, fun q => i2 (by rw [← K 3 1 (by decide)]; exact q), fun t ht => ?_, fun t ht => ?_, by rw [K 3 1 (by decide)]; exact i5, by rw [K 3 2 (by decide)]; exact i6⟩, by rw [e2]; exact W, tm_ints hT (fun q k z => e1 q k (by unfold TPl at z; omega)), fun q => old_ints (h4 (by rw [← K 3 1 (by decide)]; exact q)) (fun k => e1 17 k (by omega)), fun t ht => ?_, fun i hi => by rw [e1 15 i (by omega), K 2 i (by decide)]; exact x2 i hi, by rw [e1 0 24 (by omega), K 3 1 (by decide)]; exact x3, by rw [e1 0 20 (by omega), K 3 0 (by decide)]; exact x4, by rw [e1 0 22 (by omega), K 3 2 (by decide)]; exact x5, fun i hi hr => by rw [e1 16 i (by omega), K 4 i (by decide)]; exact x6 i hi (by rw [← K 3 2 (by decide)]; exact hr), fun t ht i hi => ?_⟩
  · rw [K0]
    by_cases z : t = s
    · rw [if_pos z]; exact hv
    · rw [if_neg z]; exact i3 t ht
  · rw [K1]
    by_cases z : t = s
    · rw [if_pos z]; exact hm
    · rw [if_neg z]; exact i4 t ht
  · rw [K0, K1]
    by_cases z : t = s
    · subst z; rw [if_pos rfl, if_pos rfl]; exact ⟨h1, h2⟩
    · rw [if_neg z, if_neg z, e1 1 t (by omega), e1 2 t (by omega)]; exact x1 t ht
  · rw [K1] at hi
    by_cases z : t = s
    · subst z
      rw [if_pos rfl] at hi
      rw [h3 i hi]
      simp [eU]
    · rw [if_neg z] at hi
      have := i4 t ht
      rw [eL _ (by omega), x7 t ht i hi]
      simp [eU, z]
      rfl
theorem kU_id (S : St) (j k : Nat) : kU S j k (kk S j k) = S := by
  have : upV S.2.2.1 j k (kk S j k) = S.2.2.1 := funext fun a => funext fun c => by
    unfold upV
    split
    · rename_i z; rw [z.1, z.2]
    · rfl
  unfold kU
  rw [this]
theorem eU_id (S : St) (s : Nat) : eU S s (S.2.2.2 s) = S := by
  have : (fun s' => if s' = s then S.2.2.2 s else S.2.2.2 s') = S.2.2.2 := funext fun a => by
    split
    · rename_i z; rw [z]
    · rfl
  unfold eU
  rw [this]
def zmM (μ : Mm) (a i : Nat) : Mm := (μ.1, fun q k => if q = 3 ∧ a ≤ k ∧ k < a + i then 0 else μ.2.1 q k, μ.2.2)
theorem zm_0 (μ : Mm) (a : Nat) : μ = zmM μ a 0 := by
  have : (fun q k => if q = 3 ∧ a ≤ k ∧ k < a + 0 then (0 : Int64) else μ.2.1 q k) = μ.2.1 := funext fun q => funext fun k => if_neg (by omega)
  unfold zmM
  rw [this]
theorem zm_s (μ : Mm) (a i : Nat) : wL (zmM μ a i) 3 (a + i) 0 = zmM μ a (i + 1) := by
  have : (fun q k => if q = 3 ∧ k = a + i then (0 : Int64) else if q = 3 ∧ a ≤ k ∧ k < a + i then 0 else μ.2.1 q k) = fun q k => if q = 3 ∧ a ≤ k ∧ k < a + (i + 1) then 0 else μ.2.1 q k := funext fun q => funext fun k => by
    by_cases z : q = 3 ∧ k = a + i
    · rw [if_pos z, if_pos (by omega)]
    · rw [if_neg z]
      by_cases y : q = 3 ∧ a ≤ k ∧ k < a + i
      · rw [if_pos y, if_pos (by omega)]
      · rw [if_neg y, if_neg (by omega)]
  unfold zmM wL
  rw [← this]
set_option maxRecDepth 100000 in
set_option maxHeartbeats 4000000 in
theorem c_X12_row {l : Launch} {δ : Dl} {b : Nat} {μ : Mm} {S : St} (hR : RMX μ S) {x : Int32} {y : Int32} {z : Int32} : MCM l δ b yX12_row cX12_row 5 (some .int) 2 [.ref (b + 0), .int x, .int y, .int z] μ (pI fun r μ' => r = (S_row S x y z).1 ∧ RMX μ' (S_row S x y z).2) := by
  have hT := rm_t hR
  have W := rm_w hR
  have bn := ti_n hT.1
  refine MC.intro ([some (.ref (b + 0)), some (.int x), some (.int y), some (.int z), none]) (by decide) rfl rfl fun κ Qc hl hQ X => ?_
  subst hl
  refine AW.iload_n X dX12_row_0 (i := 1) rfl rfl ?_
  refine AW.iconstN X 0 dX12_row_1 rfl ?_
  refine AW.bipushN X 7 dX12_row_2 rfl ?_
  refine AW.callS X dX12_row_4 lX12_90 (c_within (m := 8) (dn_s 7).symm (by decide)) rfl rfl rfl rfl ⟨rfl, rfl⟩ (pR_k ?_)
  refine AW.if_neB X (tgt := 16) dX12_row_7 (by decide) (fun h7 => ?_) (fun h7 => ?_)
  · obtain ⟨s, hs, es⟩ := inr_of (x := x) (m := 8) (by omega) h7
    subst es
    have cs := cl_n (show s < 2147483648 by omega)
    refine AW.iload_n X dX12_row_16 (i := 3) rfl rfl ?_
    refine AW.if_ge X (tgt := 27) dX12_row_17 (by decide) (fun h17 => ?_) (fun h17 => ?_)
    · replace h17 := Int32.not_lt.mpr h17
      obtain ⟨m, hm, em⟩ := nI_of h17
      subst em
      have cm := cl_n hm
      refine AW.iload_n X dX12_row_27 (i := 2) rfl rfl ?_
      refine AW.iconstN X 0 dX12_row_28 rfl ?_
      refine AW.iconstN X 3 dX12_row_29 rfl ?_
      refine AW.callS X dX12_row_30 lX12_90 (c_within (m := 4) (dn_s 3).symm (by decide)) rfl rfl rfl rfl ⟨rfl, rfl⟩ (pR_k ?_)
      refine AW.if_neB X (tgt := 43) dX12_row_33 (by decide) (fun h33 => ?_) (fun h33 => ?_)
      · obtain ⟨q, hq, eq⟩ := inr_of (x := y) (m := 4) (by omega) h33
        subst eq
        have cq := cl_n (show q < 2147483648 by omega)
        refine AW.iload_n X dX12_row_43 (i := 3) rfl rfl ?_
        refine AW.sipushN X 160 dX12_row_44 rfl ?_
        refine AW.icmp_leN X (tgt := 57) dX12_row_47 (by decide) (by omega) (by omega) (fun h47 => ?_) (fun h47 => ?_)
        · have g47 : ¬ nI 160 < nI m := by rw [n2_lt (by decide) (by omega)]; omega
          have n47 := Nat.not_lt_of_le h47
          refine AW.aload_n X dX12_row_57 (i := 0) rfl rfl ?_
          refine AW.getR X dX12_row_58 fX12_7 rfl om0 (wm_at W 0 rfl) ?_
          refine AW.iload_n X dX12_row_61 (i := 1) rfl rfl ?_
          refine AW.bipushN X 100 dX12_row_62 rfl ?_
          refine AW.iload_n X dX12_row_64 (i := 2) rfl rfl ?_
          refine AW.iaddN X dX12_row_65 ?_
          refine AW.iastore X dX12_row_66 (by decide) (am_at 0 rfl) (n2_in (by omega) (by decide)) ?_
          rw [n2_clamp (by omega)]
          refine AW.aload_n X dX12_row_67 (i := 0) rfl rfl ?_
          refine AW.getR X dX12_row_68 fX12_13 rfl om0 (wm_at W 1 rfl) ?_
          refine AW.iload_n X dX12_row_71 (i := 1) rfl rfl ?_
          refine AW.iload_n X dX12_row_72 (i := 3) rfl rfl ?_
          refine AW.iastore X dX12_row_73 (by decide) (am_at 1 rfl) (n2_in (by omega) (by decide)) ?_
          rw [n2_clamp (by omega)]
          refine AW.iconstN X 0 dX12_row_74 rfl ?_
          refine AW.istore X dX12_row_75 rfl ?_
          have L77 : ∀ (m77 ix : Nat) (μc : Mm), 160 - ix < m77 → ix ≤ 160 → (μc = zmM (wI (wI μ 1 s (nI (100 + q))) 2 s (nI m)) (160 * s) ix) → AW κ (δ, b, NM, 5, shM, False, Qc, 0, 0) NM 0 0 77 [some (.ref (b + 0)), some (.int (nI s)), some (.int (nI q)), some (.int (nI m)), some (.int (nI ix))] [] μc := by
            intro m77
            induction m77 with
            | zero => intro ix μc hm; exact absurd hm (Nat.not_lt_zero _)
            | succ m77 ih77 =>
              intro ix μc hm77 hi77 hmc
              have Wc : WM μc.2.2 := by rw [hmc]; exact W
              refine AW.iload X dX12_row_77 rfl ?_
              refine AW.sipushN X 160 dX12_row_79 rfl ?_
              refine AW.icmp_geN X (tgt := 105) dX12_row_82 (by decide) (by omega) (by omega) (fun h82 => ?_) (fun h82 => ?_)
              · obtain rfl : 160 = ix := by omega
                have n82 := Nat.not_lt_of_le h82
                refine AW.iconstN X 1 dX12_row_105 rfl ?_
                refine AW.iret X hQ dX12_row_106 ⟨_, rfl, ?_⟩
                subst hmc
                exact rm_val (by simp [S_row, *]) (rm_shelf (v := 101 + q) hR hs (Or.inr (Or.inr ⟨by omega, by omega⟩)) (by omega) (fun a k z => by simp only [zmM, wI]; rw [if_neg (by omega), if_neg (by omega)]) rfl (fun k z => by simp only [zmM]; rw [if_neg (by omega)]; rfl) (by simp [zmM, wI, dn_s]) (by simp [zmM, wI]) (fun i hi => by simp only [zmM]; rw [if_pos (by omega)]))
              · have n82 := Nat.not_le_of_lt h82
                refine AW.aload_n X dX12_row_85 (i := 0) rfl rfl ?_
                refine AW.getR X dX12_row_86 fX12_16 rfl om0 (wm_at Wc 2 rfl) ?_
                refine AW.sipushN X 160 dX12_row_89 rfl ?_
                refine AW.iload_n X dX12_row_92 (i := 1) rfl rfl ?_
                refine AW.imulN X dX12_row_93 ?_
                refine AW.iload X dX12_row_94 rfl ?_
                refine AW.iaddN X dX12_row_96 ?_
                refine AW.lconst X (v := 0) dX12_row_97 rfl ?_
                refine AW.lastore X dX12_row_98 (by decide) (am_at 2 rfl) (n2_in (by omega) (by decide)) ?_
                rw [n2_clamp (by omega)]
                refine AW.iincN X (c := (ix + 1)) dX12_row_99 rfl (inc_1 _) rfl ?_
                refine AW.goto X (tgt := 77) dX12_row_102 (by decide) ?_
                refine AW.cgw (ih77 (ix + 1) (wL μc 3 ((160 * s) + ix) 0) (by omega) (by omega) (by rw [hmc, zm_s])) ⟨rfl, rfl, rfl, rfl, rfl, trivial⟩
          refine AW.cgw (L77 _ 0 (wI (wI μ 1 s (nI (100 + q))) 2 s (nI m)) (Nat.lt_succ_self _) (by omega) (zm_0 _ _)) ⟨rfl, rfl, rfl, rfl, rfl, trivial⟩
        · have g47 : nI 160 < nI m := (n2_lt (by decide) (by omega)).mpr h47
          have n47 := Nat.not_le_of_lt h47
          refine AW.aload_n X dX12_row_50 (i := 0) rfl rfl ?_
          refine AW.bipush X (v := -7) dX12_row_51 rfl ?_
          refine AW.callV X dX12_row_53 lX12_98 cfX12 (c_X12_no (k := 7) hR (by decide) (by decide)) om0 rfl rfl rfl rfl ⟨rfl, rfl⟩ (pI_k fun r μ1 hr => ?_)
          refine AW.iret X hQ dX12_row_56 ⟨_, rfl, ?_⟩
          refine rm_of ?_ hr
          simp [S_row, *]
      · refine AW.aload_n X dX12_row_36 (i := 0) rfl rfl ?_
        refine AW.bipush X (v := -6) dX12_row_37 rfl ?_
        refine AW.callV X dX12_row_39 lX12_98 cfX12 (c_X12_no (k := 6) hR (by decide) (by decide)) om0 rfl rfl rfl rfl ⟨rfl, rfl⟩ (pI_k fun r μ1 hr => ?_)
        refine AW.iret X hQ dX12_row_42 ⟨_, rfl, ?_⟩
        refine rm_of ?_ hr
        simp [S_row, *]
    · replace h17 := Int32.not_le.mp h17
      refine AW.aload_n X dX12_row_20 (i := 0) rfl rfl ?_
      refine AW.bipush X (v := -4) dX12_row_21 rfl ?_
      refine AW.callV X dX12_row_23 lX12_98 cfX12 (c_X12_no (k := 4) hR (by decide) (by decide)) om0 rfl rfl rfl rfl ⟨rfl, rfl⟩ (pI_k fun r μ1 hr => ?_)
      refine AW.iret X hQ dX12_row_26 ⟨_, rfl, ?_⟩
      refine rm_of ?_ hr
      simp [S_row, *]
  · refine AW.aload_n X dX12_row_10 (i := 0) rfl rfl ?_
    refine AW.iconst X (v := -1) dX12_row_11 rfl ?_
    refine AW.callV X dX12_row_12 lX12_98 cfX12 (c_X12_no (k := 1) hR (by decide) (by decide)) om0 rfl rfl rfl rfl ⟨rfl, rfl⟩ (pI_k fun r μ1 hr => ?_)
    refine AW.iret X hQ dX12_row_15 ⟨_, rfl, ?_⟩
    refine rm_of ?_ hr
    simp [S_row, *]
