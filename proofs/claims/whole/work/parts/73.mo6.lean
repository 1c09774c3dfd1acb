/-! the reference's shelves -/
theorem tm_ints {μ μ' : Mm} {τ : Tt} (h : TMX μ τ) (e : ∀ q k, TPl q k → μ'.1 q k = μ.1 q k) : TMX μ' τ := by
  have f : TMX (μ'.1, μ.2) τ := tm_same (P := fun q k => ¬ TPl q k) h ⟨rfl, fun q k a => e q k (Classical.byContradiction a)⟩ (fun q k a c => c a)
  exact f
theorem old_ints {μ μ' : Mm} {o : Nat} {τ : Tt} (h : OLD μ o τ) (e : ∀ k, μ'.1 o k = μ.1 o k) : OLD μ' o τ := by
  have e : μ'.1 o = μ.1 o := funext e
  unfold OLD
  rw [e]
  exact h
/-- a shelf changes: what it holds, how long its row is, its elements -/
theorem rm_shelf {μ μ' : Mm} {S : St} {s v m : Nat} {fE : Nat → Int64} (h : RMX μ S) (hs : s < 8) (hv : v = 0 ∨ (1 ≤ v ∧ v ≤ S.1 6 0 0) ∨ (101 ≤ v ∧ v ≤ 104)) (hm : m ≤ 160) (e1 : ∀ q k, ¬ ((q = 1 ∨ q = 2) ∧ k = s) → μ'.1 q k = μ.1 q k) (e2 : μ'.2.2 = μ.2.2) (eL : ∀ k, ¬ (160 * s ≤ k ∧ k < 160 * s + 160) → μ'.2.1 3 k = μ.2.1 3 k) (h1 : μ'.1 1 s = dn v) (h2 : μ'.1 2 s = nI m) (h3 : ∀ i, i < m → μ'.2.1 3 (160 * s + i) = fE i) : RMX μ' (eU (kU (kU S 0 s v) 1 s m) s fE) := by
  obtain ⟨⟨i1, i2, i3, i4, i5, i6⟩, W, hT, h4, x1, x2, x3, x4, x5, x6, x7⟩ := h
  have K0 : ∀ t, kk (eU (kU (kU S 0 s v) 1 s m) s fE) 0 t = if t = s then v else kk S 0 t := fun t => by
    show (if 0 = 1 ∧ t = s then m else if 0 = 0 ∧ t = s then v else kk S 0 t) = _
    simp
  have K1 : ∀ t, kk (eU (kU (kU S 0 s v) 1 s m) s fE) 1 t = if t = s then m else kk S 1 t := fun t => by
    show (if 1 = 1 ∧ t = s then m else if 1 = 0 ∧ t = s then v else kk S 1 t) = _
    simp
  have K : ∀ j k, 2 ≤ j → kk (eU (kU (kU S 0 s v) 1 s m) s fE) j k = kk S j k := fun j k a => by
    show (if j = 1 ∧ k = s then m else if j = 0 ∧ k = s then v else kk S j k) = _
    rw [if_neg (by omega), if_neg (by omega)]
  refine ⟨⟨i1, fun q => i2 (by rw [← K 3 1 (by decide)]; exact q), fun t ht => ?_, fun t ht => ?_, by rw [K 3 1 (by decide)]; exact i5, by rw [K 3 2 (by decide)]; exact i6⟩, by rw [e2]; exact W, tm_ints hT (fun q k z => e1 q k (by unfold TPl at z; omega)), fun q => old_ints (h4 (by rw [← K 3 1 (by decide)]; exact q)) (fun k => e1 17 k (by omega)), fun t ht => ?_, fun i hi => by rw [e1 15 i (by omega), K 2 i (by decide)]; exact x2 i hi, by rw [e1 0 24 (by omega), K 3 1 (by decide)]; exact x3, by rw [e1 0 20 (by omega), K 3 0 (by decide)]; exact x4, by rw [e1 0 22 (by omega), K 3 2 (by decide)]; exact x5, fun i hi hr => by rw [e1 16 i (by omega), K 4 i (by decide)]; exact x6 i hi (by rw [← K 3 2 (by decide)]; exact hr), fun t ht i hi => ?_⟩
  · rw [K0]
    by_cases z : t = s
    · rw [if_pos z]; exact hv
    · rw [if_neg z]; exact i3 t ht
  · rw [K1]
    by_cases z : t = s
    · rw [if_pos z]; exact hm
    · rw [if_neg z]; exact i4 t ht
  · rw [K0, K1]
    by_cases z : t = s
    · subst z; rw [if_pos rfl, if_pos rfl]; exact ⟨h1, h2⟩
    · rw [if_neg z, if_neg z, e1 1 t (by omega), e1 2 t (by omega)]; exact x1 t ht
  · rw [K1] at hi
    by_cases z : t = s
    · subst z
      rw [if_pos rfl] at hi
      rw [h3 i hi]
      simp [eU]
    · rw [if_neg z] at hi
      have := i4 t ht
      rw [eL _ (by omega), x7 t ht i hi]
      simp [eU, z]
      rfl
theorem kU_id (S : St) (j k : Nat) : kU S j k (kk S j k) = S := by
  have : upV S.2.2.1 j k (kk S j k) = S.2.2.1 := funext fun a => funext fun c => by
    unfold upV
    split
    · rename_i z; rw [z.1, z.2]
    · rfl
  unfold kU
  rw [this]
theorem eU_id (S : St) (s : Nat) : eU S s (S.2.2.2 s) = S := by
  have : (fun s' => if s' = s then S.2.2.2 s else S.2.2.2 s') = S.2.2.2 := funext fun a => by
    split
    · rename_i z; rw [z]
    · rfl
  unfold eU
  rw [this]
def zmM (μ : Mm) (a i : Nat) : Mm := (μ.1, fun q k => if q = 3 ∧ a ≤ k ∧ k < a + i then 0 else μ.2.1 q k, μ.2.2)
theorem zm_0 (μ : Mm) (a : Nat) : μ = zmM μ a 0 := by
  have : (fun q k => if q = 3 ∧ a ≤ k ∧ k < a + 0 then (0 : Int64) else μ.2.1 q k) = μ.2.1 := funext fun q => funext fun k => if_neg (by omega)
  unfold zmM
  rw [this]
theorem zm_s (μ : Mm) (a i : Nat) : wL (zmM μ a i) 3 (a + i) 0 = zmM μ a (i + 1) := by
  have : (fun q k => if q = 3 ∧ k = a + i then (0 : Int64) else if q = 3 ∧ a ≤ k ∧ k < a + i then 0 else μ.2.1 q k) = fun q k => if q = 3 ∧ a ≤ k ∧ k < a + (i + 1) then 0 else μ.2.1 q k := funext fun q => funext fun k => by
    by_cases z : q = 3 ∧ k = a + i
    · rw [if_pos z, if_pos (by omega)]
    · rw [if_neg z]
      by_cases y : q = 3 ∧ a ≤ k ∧ k < a + i
      · rw [if_pos y, if_pos (by omega)]
      · rw [if_neg y, if_neg (by omega)]
  unfold zmM wL
  rw [← this]
set_option maxRecDepth 100000 in
set_option maxHeartbeats 4000000 in
theorem c_X12_row {l : Launch} {δ : Dl} {b : Nat} {μ : Mm} {S : St} (hR : RMX μ S) {x : Int32} {y : Int32} {z : Int32} : MCM l δ b yX12_row cX12_row 5 (some .int) 2 [.ref (b + 0), .int x, .int y, .int z] μ (pI fun r μ' => r = (S_row S x y z).1 ∧ RMX μ' (S_row S x y z).2) := by
  have hT := rm_t hR
  have W := rm_w hR
  have bn := ti_n hT.1
  refine MC.intro ([some (.ref (b + 0)), some (.int x), some (.int y), some (.int z), none]) (by decide) rfl rfl fun κ Qc hl hQ X => ?_
  subst hl
  refine AW.iload_n X dX12_row_0 (i := 1) rfl rfl ?_
  refine AW.iconstN X 0 dX12_row_1 rfl ?_
  refine AW.bipushN X 7 dX12_row_2 rfl ?_
  refine AW.callS X dX12_row_4 lX12_90 (c_within (m := 8) (dn_s 7).symm (by decide)) rfl rfl rfl rfl ⟨rfl, rfl⟩ (pR_k ?_)
  refine AW.if_neB X (tgt := 16) dX12_row_7 (by decide) (fun h7 => ?_) (fun h7 => ?_)
  · obtain ⟨s, hs, es⟩ := inr_of (x := x) (m := 8) (by omega) h7
    subst es
    have cs := cl_n (show s < 2147483648 by omega)
    refine AW.iload_n X dX12_row_16 (i := 3) rfl rfl ?_
    refine AW.if_ge X (tgt := 27) dX12_row_17 (by decide) (fun h17 => ?_) (fun h17 => ?_)
    · replace h17 := Int32.not_lt.mpr h17
      obtain ⟨m, hm, em⟩ := nI_of h17
      subst em
      have cm := cl_n hm
      refine AW.iload_n X dX12_row_27 (i := 2) rfl rfl ?_
      refine AW.iconstN X 0 dX12_row_28 rfl ?_
      refine AW.iconstN X 3 dX12_row_29 rfl ?_
      refine AW.callS X dX12_row_30 lX12_90 (c_within (m := 4) (dn_s 3).symm (by decide)) rfl rfl rfl rfl ⟨rfl, rfl⟩ (pR_k ?_)
      refine AW.if_neB X (tgt := 43) dX12_row_33 (by decide) (fun h33 => ?_) (fun h33 => ?_)
      · obtain ⟨q, hq, eq⟩ := inr_of (x := y) (m := 4) (by omega) h33
        subst eq
        have cq := cl_n (show q < 2147483648 by omega)
        refine AW.iload_n X dX12_row_43 (i := 3) rfl rfl ?_
        refine AW.sipushN X 160 dX12_row_44 rfl ?_
        refine AW.icmp_leN X (tgt := 57) dX12_row_47 (by decide) (by omega) (by omega) (fun h47 => ?_) (fun h47 => ?_)
        · have g47 : ¬ nI 160 < nI m := by rw [n2_lt (by decide) (by omega)]; omega
          have n47 := Nat.not_lt_of_le h47
          refine AW.aload_n X dX12_row_57 (i := 0) rfl rfl ?_
          refine AW.getR X dX12_row_58 fX12_7 rfl om0 (wm_at W 0 rfl) ?_
          refine AW.iload_n X dX12_row_61 (i := 1) rfl rfl ?_
          refine AW.bipushN X 100 dX12_row_62 rfl ?_
          refine AW.iload_n X dX12_row_64 (i := 2) rfl rfl ?_
          refine AW.iaddN X dX12_row_65 ?_
          refine AW.iastore X dX12_row_66 (by decide) (am_at 0 rfl) (n2_in (by omega) (by decide)) ?_
          rw [n2_clamp (by omega)]
          refine AW.aload_n X dX12_row_67 (i := 0) rfl rfl ?_
          refine AW.getR X dX12_row_68 fX12_13 rfl om0 (wm_at W 1 rfl) ?_
          refine AW.iload_n X dX12_row_71 (i := 1) rfl rfl ?_
          refine AW.iload_n X dX12_row_72 (i := 3) rfl rfl ?_
          refine AW.iastore X dX12_row_73 (by decide) (am_at 1 rfl) (n2_in (by omega) (by decide)) ?_
          rw [n2_clamp (by omega)]
          refine AW.iconstN X 0 dX12_row_74 rfl ?_
          refine AW.istore X dX12_row_75 rfl ?_
          have L77 : ∀ (m77 ix : Nat) (μc : Mm), 160 - ix < m77 → ix ≤ 160 → (μc = zmM (wI (wI μ 1 s (nI (100 + q))) 2 s (nI m)) (160 * s) ix) → AW κ (δ, b, NM, 5, shM, False, Qc, 0, 0) NM 0 0 77 [some (.ref (b + 0)), some (.int (nI s)), some (.int (nI q)), some (.int (nI m)), some (.int (nI ix))] [] μc := by
            intro m77
            induction m77 with
            | zero => intro ix μc hm; exact absurd hm (Nat.not_lt_zero _)
            | succ m77 ih77 =>
              intro ix μc hm77 hi77 hmc
              have Wc : WM μc.2.2 := by rw [hmc]; exact W
              refine AW.iload X dX12_row_77 rfl ?_
              refine AW.sipushN X 160 dX12_row_79 rfl ?_
              refine AW.icmp_geN X (tgt := 105) dX12_row_82 (by decide) (by omega) (by omega) (fun h82 => ?_) (fun h82 => ?_)
              · obtain rfl : 160 = ix := by omega
                have n82 := Nat.not_lt_of_le h82
                refine AW.iconstN X 1 dX12_row_105 rfl ?_
                refine AW.iret X hQ dX12_row_106 ⟨_, rfl, ?_⟩
                subst hmc
                exact rm_val (by simp [S_row, *]) (rm_shelf (v := 101 + q) (m := m) (fE := fun _ => 0) hR hs (Or.inr (Or.inr ⟨by omega, by omega⟩)) (by omega) (fun a k z => by simp only [zmM, wI]; rw [if_neg (by omega), if_neg (by omega)]) rfl (fun k z => by simp only [zmM]; rw [if_neg (by omega)]; rfl) (by rw [show 101 + q = (100 + q) + 1 by omega, dn_s]; simp [zmM, wI]) (by simp [zmM, wI]) (fun i hi => (if_pos ⟨rfl, by omega, by omega⟩ : (if 3 = 3 ∧ 160 * s ≤ 160 * s + i ∧ 160 * s + i < 160 * s + 160 then (0 : Int64) else _) = 0)))
              · have n82 := Nat.not_le_of_lt h82
                refine AW.aload_n X dX12_row_85 (i := 0) rfl rfl ?_
                refine AW.getR X dX12_row_86 fX12_16 rfl om0 (wm_at Wc 2 rfl) ?_
                refine AW.sipushN X 160 dX12_row_89 rfl ?_
                refine AW.iload_n X dX12_row_92 (i := 1) rfl rfl ?_
                refine AW.imulN X dX12_row_93 ?_
                refine AW.iload X dX12_row_94 rfl ?_
                refine AW.iaddN X dX12_row_96 ?_
                refine AW.lconst X (v := 0) dX12_row_97 rfl ?_
                refine AW.lastore X dX12_row_98 (by decide) (am_at 2 rfl) (n2_in (by omega) (by decide)) ?_
                rw [n2_clamp (by omega)]
                refine AW.iincN X (c := (ix + 1)) dX12_row_99 rfl (inc_1 _) rfl ?_
                refine AW.goto X (tgt := 77) dX12_row_102 (by decide) ?_
                refine AW.cgw (ih77 (ix + 1) (wL μc 3 ((160 * s) + ix) 0) (by omega) (by omega) (by rw [hmc, zm_s])) ⟨rfl, rfl, rfl, rfl, rfl, trivial⟩
          refine AW.cgw (L77 _ 0 (wI (wI μ 1 s (nI (100 + q))) 2 s (nI m)) (Nat.lt_succ_self _) (by omega) (zm_0 _ _)) ⟨rfl, rfl, rfl, rfl, rfl, trivial⟩
        · have g47 : nI 160 < nI m := (n2_lt (by decide) (by omega)).mpr h47
          have n47 := Nat.not_le_of_lt h47
          refine AW.aload_n X dX12_row_50 (i := 0) rfl rfl ?_
          refine AW.bipush X (v := -7) dX12_row_51 rfl ?_
          refine AW.callV X dX12_row_53 lX12_98 cfX12 (c_X12_no (k := 7) hR (by decide) (by decide)) om0 rfl rfl rfl rfl ⟨rfl, rfl⟩ (pI_k fun r μ1 hr => ?_)
          refine AW.iret X hQ dX12_row_56 ⟨_, rfl, ?_⟩
          refine rm_of ?_ hr
          simp [S_row, *]
      · refine AW.aload_n X dX12_row_36 (i := 0) rfl rfl ?_
        refine AW.bipush X (v := -6) dX12_row_37 rfl ?_
        refine AW.callV X dX12_row_39 lX12_98 cfX12 (c_X12_no (k := 6) hR (by decide) (by decide)) om0 rfl rfl rfl rfl ⟨rfl, rfl⟩ (pI_k fun r μ1 hr => ?_)
        refine AW.iret X hQ dX12_row_42 ⟨_, rfl, ?_⟩
        refine rm_of ?_ hr
        simp [S_row, *]
    · replace h17 := Int32.not_le.mp h17
      refine AW.aload_n X dX12_row_20 (i := 0) rfl rfl ?_
      refine AW.bipush X (v := -4) dX12_row_21 rfl ?_
      refine AW.callV X dX12_row_23 lX12_98 cfX12 (c_X12_no (k := 4) hR (by decide) (by decide)) om0 rfl rfl rfl rfl ⟨rfl, rfl⟩ (pI_k fun r μ1 hr => ?_)
      refine AW.iret X hQ dX12_row_26 ⟨_, rfl, ?_⟩
      refine rm_of ?_ hr
      simp [S_row, *]
  · refine AW.aload_n X dX12_row_10 (i := 0) rfl rfl ?_
    refine AW.iconst X (v := -1) dX12_row_11 rfl ?_
    refine AW.callV X dX12_row_12 lX12_98 cfX12 (c_X12_no (k := 1) hR (by decide) (by decide)) om0 rfl rfl rfl rfl ⟨rfl, rfl⟩ (pI_k fun r μ1 hr => ?_)
    refine AW.iret X hQ dX12_row_15 ⟨_, rfl, ?_⟩
    refine rm_of ?_ hr
    simp [S_row, *]
theorem rm_elemsM {μ μ' : Mm} {S : St} {s : Nat} {fE : Nat → Int64} (h : RMX μ S) (hs : s < 8) (e1 : μ'.1 = μ.1) (e2 : μ'.2.2 = μ.2.2) (eL : ∀ k, ¬ (160 * s ≤ k ∧ k < 160 * s + 160) → μ'.2.1 3 k = μ.2.1 3 k) (h3 : ∀ i, i < kk S 1 s → μ'.2.1 3 (160 * s + i) = fE i) : RMX μ' (eU S s fE) := by
  have := rm_shelf (v := kk S 0 s) (m := kk S 1 s) (fE := fE) h hs (h.1.2.2.1 s hs) (h.1.2.2.2.1 s hs) (fun q k _ => by rw [e1]) e2 eL (by rw [e1]; exact rm_held h hs) (by rw [e1]; exact rm_size h hs) h3
  rw [kU_id, kU_id] at this
  exact this
set_option maxRecDepth 100000 in
set_option maxHeartbeats 4000000 in
theorem c_X12_set {l : Launch} {δ : Dl} {b : Nat} {μ : Mm} {S : St} (hR : RMX μ S) {x : Int32} {y : Int32} {v : Int64} : MCM l δ b yX12_set cX12_set 7 (some .int) 3 [.ref (b + 0), .int x, .int y, .long v] μ (pI fun r μ' => r = (S_set S x y v).1 ∧ RMX μ' (S_set S x y v).2) := by
  have hT := rm_t hR
  have W := rm_w hR
  have bn := ti_n hT.1
  refine MC.intro ([some (.ref (b + 0)), some (.int x), some (.int y), some (.long v), none, none, none]) (by decide) rfl rfl fun κ Qc hl hQ X => ?_
  subst hl
  refine AW.aload_n X dX12_set_0 (i := 0) rfl rfl ?_
  refine AW.iload_n X dX12_set_1 (i := 1) rfl rfl ?_
  refine AW.callV X dX12_set_2 lX12_105 cfX12 (c_X12_noRow hR) om0 rfl rfl rfl rfl ⟨rfl, rfl⟩ (pR_k ?_)
  refine AW.istore X dX12_set_5 rfl ?_
  refine AW.iload X dX12_set_7 rfl ?_
  refine AW.if_ge X (tgt := 19) dX12_set_9 (by decide) (fun h9 => ?_) (fun h9 => ?_)
  · replace h9 := Int32.not_lt.mpr h9
    have hr0 := rowT_le S x
    have hz0 : rowT S x = 0 := by by_cases q : rowT S x = 0; exact q; exact absurd ((rt_neg _ (by omega)).mpr q) h9
    obtain ⟨s, hs, es, hk⟩ := rowT_0 hz0
    subst es
    have cs := cl_n (show s < 2147483648 by omega)
    have hz := hR.1.2.2.2.1 s hs
    have bk := hR.1.2.2.1 s hs
    have gr : rowT S (nI s) = 0 := hz0
    refine AW.iload_n X dX12_set_19 (i := 2) rfl rfl ?_
    refine AW.iconstN X 0 dX12_set_20 rfl ?_
    refine AW.aload_n X dX12_set_21 (i := 0) rfl rfl ?_
    refine AW.getR X dX12_set_22 fX12_13 rfl om0 (wm_at W 1 rfl) ?_
    refine AW.iload_n X dX12_set_25 (i := 1) rfl rfl ?_
    refine AW.iaload X dX12_set_26 (am_at 1 rfl) (n2_in (by omega) (by decide)) (v := (nI (kk S 1 s))) (by rw [n2_clamp (by omega)]; exact rm_size hR (by omega)) ?_
    refine AW.iconstN X 1 dX12_set_27 rfl ?_
    refine AW.isub X dX12_set_28 ?_
    refine AW.callS X dX12_set_29 lX12_90 (c_within (dn_sub _) (by omega)) rfl rfl rfl rfl ⟨rfl, rfl⟩ (pR_k ?_)
    refine AW.if_neB X (tgt := 42) dX12_set_32 (by decide) (fun h32 => ?_) (fun h32 => ?_)
    · obtain ⟨i, hi, ei⟩ := inr_of (x := y) (m := (kk S 1 s)) (by omega) h32
      subst ei
      have ci := cl_n (show i < 2147483648 by omega)
      refine AW.aload_n X dX12_set_42 (i := 0) rfl rfl ?_
      refine AW.getR X dX12_set_43 fX12_7 rfl om0 (wm_at W 0 rfl) ?_
      refine AW.iload_n X dX12_set_46 (i := 1) rfl rfl ?_
      refine AW.iaload X dX12_set_47 (am_at 0 rfl) (n2_in (by omega) (by decide)) (v := (nI (kk S 0 s - 1))) (by rw [n2_clamp (by omega), rm_held hR hs, show kk S 0 s = (kk S 0 s - 1) + 1 by omega, dn_s]; rfl) ?_
      refine AW.bipushN X 100 dX12_set_48 rfl ?_
      refine AW.isubN X dX12_set_50 (by omega) ?_
      refine AW.istore X dX12_set_51 rfl ?_
      refine AW.aload_n X dX12_set_53 (i := 0) rfl rfl ?_
      refine AW.getR X dX12_set_54 fX12_16 rfl om0 (wm_at W 2 rfl) ?_
      refine AW.sipushN X 160 dX12_set_57 rfl ?_
      refine AW.iload_n X dX12_set_60 (i := 1) rfl rfl ?_
      refine AW.imulN X dX12_set_61 ?_
      refine AW.iload_n X dX12_set_62 (i := 2) rfl rfl ?_
      refine AW.iaddN X dX12_set_63 ?_
      refine AW.iload X dX12_set_64 rfl ?_
      refine AW.if_neN X (tgt := 76) dX12_set_66 (by decide) (by omega) (fun h66 => ?_) (fun h66 => ?_)
      · refine AW.iload X dX12_set_76 rfl ?_
        refine AW.iconstN X 1 dX12_set_78 rfl ?_
        refine AW.icmp_neN X (tgt := 89) dX12_set_79 (by decide) (by omega) (by omega) (fun h79 => ?_) (fun h79 => ?_)
        · refine AW.iload X dX12_set_89 rfl ?_
          refine AW.iconstN X 2 dX12_set_91 rfl ?_
          refine AW.icmp_neN X (tgt := 101) dX12_set_92 (by decide) (by omega) (by omega) (fun h92 => ?_) (fun h92 => ?_)
          · refine AW.lload_n X dX12_set_101 (i := 3) rfl rfl ?_
            refine AW.lastore X dX12_set_102 (by decide) (am_at 2 rfl) (n2_in (by omega) (by decide)) ?_
            rw [n2_clamp (by omega)]
            refine AW.iconstN X 1 dX12_set_103 rfl ?_
            refine AW.iret X hQ dX12_set_104 ⟨_, rfl, ?_⟩
            refine rm_val (S' := eU S s (fun j => if j = i then lowB (kk S 0 s - 101) v else S.2.2.2 s j)) (by simp [S_set, *]) (rm_elemsM hR hs rfl rfl (fun k z => by simp only [wL]; rw [if_neg (by omega)]) (fun j hj => ?_))
            by_cases z : j = i
            · subst z
              simp only [wL, and_self, if_true]
              unfold lowB
              repeat' split
              all_goals first | rfl | (exfalso; omega)
            · have : ¬ (160 * s + j = 160 * s + i) := by omega
              simp only [wL, z, this, and_false, if_false]; exact rm_elem hR hs hj
          · refine AW.lload_n X dX12_set_95 (i := 3) rfl rfl ?_
            refine AW.l2i X dX12_set_96 ?_
            refine AW.i2l X dX12_set_97 ?_
            refine AW.goto X (tgt := 102) dX12_set_98 (by decide) ?_
            refine AW.lastore X dX12_set_102 (by decide) (am_at 2 rfl) (n2_in (by omega) (by decide)) ?_
            rw [n2_clamp (by omega)]
            refine AW.iconstN X 1 dX12_set_103 rfl ?_
            refine AW.iret X hQ dX12_set_104 ⟨_, rfl, ?_⟩
            refine rm_val (S' := eU S s (fun j => if j = i then lowB (kk S 0 s - 101) v else S.2.2.2 s j)) (by simp [S_set, *]) (rm_elemsM hR hs rfl rfl (fun k z => by simp only [wL]; rw [if_neg (by omega)]) (fun j hj => ?_))
            by_cases z : j = i
            · subst z
              simp only [wL, and_self, if_true]
              unfold lowB
              repeat' split
              all_goals first | rfl | (exfalso; omega)
            · have : ¬ (160 * s + j = 160 * s + i) := by omega
              simp only [wL, z, this, and_false, if_false]; exact rm_elem hR hs hj
        · refine AW.lload_n X dX12_set_82 (i := 3) rfl rfl ?_
          refine AW.l2i X dX12_set_83 ?_
          refine AW.i2s X dX12_set_84 ?_
          refine AW.i2l X dX12_set_85 ?_
          refine AW.goto X (tgt := 102) dX12_set_86 (by decide) ?_
          refine AW.lastore X dX12_set_102 (by decide) (am_at 2 rfl) (n2_in (by omega) (by decide)) ?_
          rw [n2_clamp (by omega)]
          refine AW.iconstN X 1 dX12_set_103 rfl ?_
          refine AW.iret X hQ dX12_set_104 ⟨_, rfl, ?_⟩
          refine rm_val (S' := eU S s (fun j => if j = i then lowB (kk S 0 s - 101) v else S.2.2.2 s j)) (by simp [S_set, *]) (rm_elemsM hR hs rfl rfl (fun k z => by simp only [wL]; rw [if_neg (by omega)]) (fun j hj => ?_))
          by_cases z : j = i
          · subst z
            simp only [wL, and_self, if_true]
            unfold lowB
            repeat' split
            all_goals first | rfl | (exfalso; omega)
          · have : ¬ (160 * s + j = 160 * s + i) := by omega
            simp only [wL, z, this, and_false, if_false]; exact rm_elem hR hs hj
      · refine AW.lload_n X dX12_set_69 (i := 3) rfl rfl ?_
        refine AW.l2i X dX12_set_70 ?_
        refine AW.i2b X dX12_set_71 ?_
        refine AW.i2l X dX12_set_72 ?_
        refine AW.goto X (tgt := 102) dX12_set_73 (by decide) ?_
        refine AW.lastore X dX12_set_102 (by decide) (am_at 2 rfl) (n2_in (by omega) (by decide)) ?_
        rw [n2_clamp (by omega)]
        refine AW.iconstN X 1 dX12_set_103 rfl ?_
        refine AW.iret X hQ dX12_set_104 ⟨_, rfl, ?_⟩
        refine rm_val (S' := eU S s (fun j => if j = i then lowB (kk S 0 s - 101) v else S.2.2.2 s j)) (by simp [S_set, *]) (rm_elemsM hR hs rfl rfl (fun k z => by simp only [wL]; rw [if_neg (by omega)]) (fun j hj => ?_))
        by_cases z : j = i
        · subst z
          simp only [wL, and_self, if_true]
          unfold lowB
          repeat' split
          all_goals first | rfl | (exfalso; omega)
        · have : ¬ (160 * s + j = 160 * s + i) := by omega
          simp only [wL, z, this, and_false, if_false]; exact rm_elem hR hs hj
    · refine AW.aload_n X dX12_set_35 (i := 0) rfl rfl ?_
      refine AW.bipush X (v := -5) dX12_set_36 rfl ?_
      refine AW.callV X dX12_set_38 lX12_98 cfX12 (c_X12_no (k := 5) hR (by decide) (by decide)) om0 rfl rfl rfl rfl ⟨rfl, rfl⟩ (pI_k fun r μ1 hr => ?_)
      refine AW.iret X hQ dX12_set_41 ⟨_, rfl, ?_⟩
      refine rm_of ?_ hr
      simp [S_set, *]
  · replace h9 := Int32.not_le.mp h9
    have hr0 := rowT_le S x
    have gr : ¬ rowT S x = 0 := (rt_neg _ (by omega)).mp h9
    refine AW.aload_n X dX12_set_12 (i := 0) rfl rfl ?_
    refine AW.iload X dX12_set_13 rfl ?_
    refine AW.callV X dX12_set_15 lX12_98 cfX12 (c_X12_no (k := (rowT S x)) hR (by omega) rfl) om0 rfl rfl rfl rfl ⟨rfl, rfl⟩ (pI_k fun r μ1 hr => ?_)
    refine AW.iret X hQ dX12_set_18 ⟨_, rfl, ?_⟩
    refine rm_of ?_ hr
    simp [S_set, *]
set_option maxRecDepth 100000 in
set_option maxHeartbeats 4000000 in
theorem c_X12_element {l : Launch} {δ : Dl} {b : Nat} {μ : Mm} {S : St} (hR : RMX μ S) {x y : Int32} : MCM l δ b yX12_element cX12_element 3 (some .long) 2 [.ref (b + 0), .int x, .int y] μ (pL fun r μ' => r = S_element S x y ∧ μ' = μ) := by
  have hT := rm_t hR
  have W := rm_w hR
  have bn := ti_n hT.1
  refine MC.intro ([some (.ref (b + 0)), some (.int x), some (.int y)]) (by decide) rfl rfl fun κ Qc hl hQ X => ?_
  subst hl
  refine AW.iload_n X dX12_element_0 (i := 1) rfl rfl ?_
  refine AW.iconstN X 0 dX12_element_1 rfl ?_
  refine AW.bipushN X 7 dX12_element_2 rfl ?_
  refine AW.callS X dX12_element_4 lX12_90 (c_within (m := 8) (dn_s 7).symm (by decide)) rfl rfl rfl rfl ⟨rfl, rfl⟩ (pR_k ?_)
  refine AW.if_eqB X (tgt := 49) dX12_element_7 (by decide) (fun h7 => ?_) (fun h7 => ?_)
  · have g7 : ¬ rowT S x = 0 := by rw [rowT, if_pos h7]; decide
    refine AW.lconst X (v := 0) dX12_element_49 rfl ?_
    refine AW.lret X hQ dX12_element_50 ⟨_, rfl, ?_⟩
    exact ⟨by simp [S_element, *], rfl⟩
  · obtain ⟨s, hs, es⟩ := inr_of (x := x) (m := 8) (by omega) h7
    subst es
    have cs := cl_n (show s < 2147483648 by omega)
    have hz := hR.1.2.2.2.1 s hs
    have bk := hR.1.2.2.1 s hs
    refine AW.aload_n X dX12_element_10 (i := 0) rfl rfl ?_
    refine AW.iload_n X dX12_element_11 (i := 1) rfl rfl ?_
    refine AW.callV X dX12_element_12 lX12_102 cfX12 (c_X12_isRow hR (by omega)) om0 rfl rfl rfl rfl ⟨rfl, rfl⟩ (pR_k ?_)
    refine AW.if_eqB X (tgt := 49) dX12_element_15 (by decide) (fun h15 => ?_) (fun h15 => ?_)
    · have g15 : ¬ rowT S (nI s) = 0 := by have z := of_decide_eq_false h15; intro e; obtain ⟨s2, h2, e2, h3⟩ := rowT_0 e; rw [(n2_eq (by omega) (by omega)).mp e2] at z; exact z h3
      refine AW.lconst X (v := 0) dX12_element_49 rfl ?_
      refine AW.lret X hQ dX12_element_50 ⟨_, rfl, ?_⟩
      exact ⟨by simp [S_element, *], rfl⟩
    · have g15 : rowT S (nI s) = 0 := by have z := isRw_t h15; unfold rowT; simp only [n2_clamp (show s < 2147483648 by omega)]; rw [if_neg (by simp [h7]), if_neg (by omega), if_pos z]
      refine AW.iload_n X dX12_element_18 (i := 2) rfl rfl ?_
      refine AW.iconstN X 0 dX12_element_19 rfl ?_
      refine AW.aload_n X dX12_element_20 (i := 0) rfl rfl ?_
      refine AW.getR X dX12_element_21 fX12_13 rfl om0 (wm_at W 1 rfl) ?_
      refine AW.iload_n X dX12_element_24 (i := 1) rfl rfl ?_
      refine AW.iaload X dX12_element_25 (am_at 1 rfl) (n2_in (by omega) (by decide)) (v := (nI (kk S 1 s))) (by rw [n2_clamp (by omega)]; exact rm_size hR (by omega)) ?_
      refine AW.iconstN X 1 dX12_element_26 rfl ?_
      refine AW.isub X dX12_element_27 ?_
      refine AW.callS X dX12_element_28 lX12_90 (c_within (dn_sub _) (by omega)) rfl rfl rfl rfl ⟨rfl, rfl⟩ (pR_k ?_)
      refine AW.if_eqB X (tgt := 49) dX12_element_31 (by decide) (fun h31 => ?_) (fun h31 => ?_)
      · refine AW.lconst X (v := 0) dX12_element_49 rfl ?_
        refine AW.lret X hQ dX12_element_50 ⟨_, rfl, ?_⟩
        exact ⟨by simp [S_element, *], rfl⟩
      · obtain ⟨i, hi, ei⟩ := inr_of (x := y) (m := (kk S 1 s)) (by omega) h31
        subst ei
        have ci := cl_n (show i < 2147483648 by omega)
        refine AW.aload_n X dX12_element_34 (i := 0) rfl rfl ?_
        refine AW.getR X dX12_element_35 fX12_16 rfl om0 (wm_at W 2 rfl) ?_
        refine AW.sipushN X 160 dX12_element_38 rfl ?_
        refine AW.iload_n X dX12_element_41 (i := 1) rfl rfl ?_
        refine AW.imulN X dX12_element_42 ?_
        refine AW.iload_n X dX12_element_43 (i := 2) rfl rfl ?_
        refine AW.iaddN X dX12_element_44 ?_
        refine AW.laload X dX12_element_45 (am_at 2 rfl) (n2_in (by omega) (by decide)) (v := (S.2.2.2 s i)) (by rw [n2_clamp (by omega)]; exact rm_elem hR hs hi) ?_
        refine AW.goto X (tgt := 50) dX12_element_46 (by decide) ?_
        refine AW.lret X hQ dX12_element_50 ⟨_, rfl, ?_⟩
        exact ⟨by simp [S_element, *], rfl⟩
theorem rm_showM {μ : Mm} {S : St} {s v : Nat} (h : RMX μ S) (hs : s < 8) (hv : v = 0 ∨ (1 ≤ v ∧ v ≤ S.1 6 0 0)) : RMX (wI μ 1 s (dn v)) (kU S 0 s v) := by
  have := rm_shelf (μ' := wI μ 1 s (dn v)) (v := v) (m := kk S 1 s) (fE := S.2.2.2 s) h hs (hv.imp id Or.inl) (h.1.2.2.2.1 s hs) (fun q k z => by simp only [wI]; rw [if_neg (by omega)]) rfl (fun k z => rfl) (by simp [wI]) (by simpa [wI] using rm_size h hs) (fun i hi => rm_elem h hs hi)
  have e1 : kU (kU S 0 s v) 1 s (kk S 1 s) = kU S 0 s v := kU_id (kU S 0 s v) 1 s
  have e2 : eU (kU S 0 s v) s (S.2.2.2 s) = kU S 0 s v := eU_id (kU S 0 s v) s
  rw [e1, e2] at this
  exact this
set_option maxRecDepth 100000 in
set_option maxHeartbeats 4000000 in
theorem c_X12_show {l : Launch} {δ : Dl} {b : Nat} {μ : Mm} {S : St} (hR : RMX μ S) {x : Int32} {y : Int32} : MCM l δ b yX12_show cX12_show 3 (some .int) 3 [.ref (b + 0), .int x, .int y] μ (pI fun r μ' => r = (S_show S x y).1 ∧ RMX μ' (S_show S x y).2) := by
  have hT := rm_t hR
  have W := rm_w hR
  have bn := ti_n hT.1
  refine MC.intro ([some (.ref (b + 0)), some (.int x), some (.int y)]) (by decide) rfl rfl fun κ Qc hl hQ X => ?_
  subst hl
  refine AW.iload_n X dX12_show_0 (i := 1) rfl rfl ?_
  refine AW.iconstN X 0 dX12_show_1 rfl ?_
  refine AW.bipushN X 7 dX12_show_2 rfl ?_
  refine AW.callS X dX12_show_4 lX12_90 (c_within (m := 8) (dn_s 7).symm (by decide)) rfl rfl rfl rfl ⟨rfl, rfl⟩ (pR_k ?_)
  refine AW.if_eqB X (tgt := 23) dX12_show_7 (by decide) (fun h7 => ?_) (fun h7 => ?_)
  · refine AW.aload_n X dX12_show_23 (i := 0) rfl rfl ?_
    refine AW.iconst X (v := -1) dX12_show_24 rfl ?_
    refine AW.callV X dX12_show_25 lX12_98 cfX12 (c_X12_no (k := 1) hR (by decide) (by decide)) om0 rfl rfl rfl rfl ⟨rfl, rfl⟩ (pI_k fun r μ1 hr => ?_)
    refine AW.iret X hQ dX12_show_28 ⟨_, rfl, ?_⟩
    refine rm_of ?_ hr
    simp [S_show, *]
  · obtain ⟨s, hs, es⟩ := inr_of (x := x) (m := 8) (by omega) h7
    subst es
    have cs := cl_n (show s < 2147483648 by omega)
    refine AW.iload_n X dX12_show_10 (i := 2) rfl rfl ?_
    refine AW.iconst X (v := -1) dX12_show_11 rfl ?_
    refine AW.icmp_eq X (tgt := 29) dX12_show_12 (by decide) (fun h12 => ?_) (fun h12 => ?_)
    · subst h12
      refine AW.aload_n X dX12_show_29 (i := 0) rfl rfl ?_
      refine AW.getR X dX12_show_30 fX12_7 rfl om0 (wm_at W 0 rfl) ?_
      refine AW.iload_n X dX12_show_33 (i := 1) rfl rfl ?_
      refine AW.iload_n X dX12_show_34 (i := 2) rfl rfl ?_
      refine AW.iastore X dX12_show_35 (by decide) (am_at 0 rfl) (n2_in (by omega) (by decide)) ?_
      rw [n2_clamp (by omega)]
      refine AW.iload_n X dX12_show_36 (i := 2) rfl rfl ?_
      refine AW.iconst X (v := -1) dX12_show_37 rfl ?_
      refine AW.icmp_ne X (tgt := 45) dX12_show_38 (by decide) (fun h38 => ?_) (fun h38 => ?_)
      · exact absurd rfl h38
      · refine AW.iconstN X 0 dX12_show_41 rfl ?_
        refine AW.goto X (tgt := 46) dX12_show_42 (by decide) ?_
        refine AW.iret X hQ dX12_show_46 ⟨_, rfl, ?_⟩
        have f := rm_showM (v := 0) hR hs (Or.inl rfl)
        rw [dn_0] at f
        exact rm_val (by simp [S_show, *]) f
    · refine AW.aload_n X dX12_show_15 (i := 0) rfl rfl ?_
      refine AW.iload_n X dX12_show_16 (i := 2) rfl rfl ?_
      refine AW.callV X dX12_show_17 lX12_94 cfX12 (c_X12_isHouse W hT) om0 rfl rfl rfl rfl ⟨rfl, rfl⟩ (pR_k ?_)
      refine AW.if_neB X (tgt := 29) dX12_show_20 (by decide) (fun h20 => ?_) (fun h20 => ?_)
      · obtain ⟨c, hc, ec⟩ := inr_of (x := y) (m := (S.1 6 0 0)) (by omega) h20
        subst ec
        have cc := cl_n (show c < 2147483648 by omega)
        have hIc := tm_hi hT hc
        have bnc := hi_n hIc
        have bac := hi_a hIc
        have nc := nI_m1 (a := c) (by omega)
        refine AW.aload_n X dX12_show_29 (i := 0) rfl rfl ?_
        refine AW.getR X dX12_show_30 fX12_7 rfl om0 (wm_at W 0 rfl) ?_
        refine AW.iload_n X dX12_show_33 (i := 1) rfl rfl ?_
        refine AW.iload_n X dX12_show_34 (i := 2) rfl rfl ?_
        refine AW.iastore X dX12_show_35 (by decide) (am_at 0 rfl) (n2_in (by omega) (by decide)) ?_
        rw [n2_clamp (by omega)]
        refine AW.iload_n X dX12_show_36 (i := 2) rfl rfl ?_
        refine AW.iconst X (v := -1) dX12_show_37 rfl ?_
        refine AW.icmp_ne X (tgt := 45) dX12_show_38 (by decide) (fun h38 => ?_) (fun h38 => ?_)
        · refine AW.iconstN X 1 dX12_show_45 rfl ?_
          refine AW.iret X hQ dX12_show_46 ⟨_, rfl, ?_⟩
          have f := rm_showM (v := c + 1) hR hs (Or.inr ⟨by omega, by omega⟩)
          rw [dn_s] at f
          exact rm_val (by simp [S_show, *]) f
        · exact absurd h38 (nI_m1 (by omega))
      · refine AW.aload_n X dX12_show_23 (i := 0) rfl rfl ?_
        refine AW.iconst X (v := -1) dX12_show_24 rfl ?_
        refine AW.callV X dX12_show_25 lX12_98 cfX12 (c_X12_no (k := 1) hR (by decide) (by decide)) om0 rfl rfl rfl rfl ⟨rfl, rfl⟩ (pI_k fun r μ1 hr => ?_)
        refine AW.iret X hQ dX12_show_28 ⟨_, rfl, ?_⟩
        refine rm_of ?_ hr
        simp [S_show, *]
