theorem lgs {i m k : Nat} (hi : i < 2147483648) (hm : m < 2147483648) (hk : k < 2147483648) : (0 < lg_cmp ((nI i).toInt64 + (nI m).toInt64) (nI k).toInt64) ↔ k < i + m := by
  rw [lg_cmp_gt, Int64.lt_iff_toInt_lt, Int64.toInt_add, Int32.toInt_toInt64, Int32.toInt_toInt64, Int32.toInt_toInt64, nI_toInt hi, nI_toInt hm, nI_toInt hk, Int.bmod_eq_of_le (by omega) (by omega)]
  omega
theorem nsp_neg {S : St} {s m : Nat} {x : Int32} (h : x < 0) : nsp S s x m = true := decide_eq_true (Or.inl h)
theorem nsp_t {S : St} {s i m : Nat} (hi : i < 2147483648) (hz : kk S 1 s ≤ 160) (h : kk S 1 s < i + m) : nsp S s (nI i) m = true := by
  refine decide_eq_true (Or.inr ?_)
  by_cases q : kk S 1 s < m
  · exact Or.inl q
  · refine Or.inr ?_
    rw [n2_lt (by omega) hi]; omega
theorem nsp_f {S : St} {s i m : Nat} (hz : kk S 1 s ≤ 160) (h : ¬ kk S 1 s < i + m) : nsp S s (nI i) m = false := by
  refine decide_eq_false (fun q => ?_)
  rcases q with q | q | q
  · rw [show (0 : Int32) = nI 0 by decide, n2_lt (by omega) (by decide)] at q; omega
  · omega
  · rw [n2_lt (by omega) (by omega)] at q; omega
/-- the first t of m places from B come to D on -/
def cqU (μ : Mm) (D B t : Nat) : Mm := (μ.1, fun o k => if o = 3 ∧ D ≤ k ∧ k < D + t then μ.2.1 3 (B + (k - D)) else μ.2.1 o k, μ.2.2)
/-- the same, from place t to place m -/
def cqD (μ : Mm) (D B t m : Nat) : Mm := (μ.1, fun o k => if o = 3 ∧ D + t ≤ k ∧ k < D + m then μ.2.1 3 (B + (k - D)) else μ.2.1 o k, μ.2.2)
theorem cqU_0 (μ : Mm) (D B : Nat) : μ = cqU μ D B 0 := by
  refine Prod.ext rfl (Prod.ext (funext fun o => funext fun k => ?_) rfl)
  simp only [cqU]; rw [if_neg (by omega)]
theorem cqD_m (μ : Mm) (D B m : Nat) : μ = cqD μ D B m m := by
  refine Prod.ext rfl (Prod.ext (funext fun o => funext fun k => ?_) rfl)
  simp only [cqD]; rw [if_neg (by omega)]
theorem cqD_0 (μ : Mm) (D B m : Nat) : cqD μ D B 0 m = cqU μ D B m := rfl
theorem cqU_r {μ : Mm} {D B t k : Nat} (h : ¬ (D ≤ k ∧ k < D + t)) : (cqU μ D B t).2.1 3 k = μ.2.1 3 k := by
  simp only [cqU]; rw [if_neg (by omega)]
theorem cqD_r {μ : Mm} {D B t m k : Nat} (h : ¬ (D + t ≤ k ∧ k < D + m)) : (cqD μ D B t m).2.1 3 k = μ.2.1 3 k := by
  simp only [cqD]; rw [if_neg (by omega)]
theorem cqU_s (μ : Mm) (D B t : Nat) : wL (cqU μ D B t) 3 (D + t) (μ.2.1 3 (B + t)) = cqU μ D B (t + 1) := by
  refine Prod.ext rfl (Prod.ext (funext fun o => funext fun k => ?_) rfl)
  simp only [wL, cqU]
  by_cases z : o = 3 ∧ k = D + t
  · obtain ⟨rfl, rfl⟩ := z
    rw [if_pos ⟨rfl, rfl⟩, if_pos ⟨rfl, by omega, by omega⟩, show D + t - D = t by omega]
  · rw [if_neg z]
    by_cases y : o = 3 ∧ D ≤ k ∧ k < D + t
    · rw [if_pos y, if_pos (by omega)]
    · rw [if_neg y, if_neg (by omega)]
theorem cqD_s (μ : Mm) {D B t m : Nat} (ht : t < m) : wL (cqD μ D B (t + 1) m) 3 (D + t) (μ.2.1 3 (B + t)) = cqD μ D B t m := by
  refine Prod.ext rfl (Prod.ext (funext fun o => funext fun k => ?_) rfl)
  simp only [wL, cqD]
  by_cases z : o = 3 ∧ k = D + t
  · obtain ⟨rfl, rfl⟩ := z
    rw [if_pos ⟨rfl, rfl⟩, if_pos ⟨rfl, by omega, by omega⟩, show D + t - D = t by omega]
  · rw [if_neg z]
    by_cases y : o = 3 ∧ D + (t + 1) ≤ k ∧ k < D + m
    · rw [if_pos y, if_pos (by omega)]
    · rw [if_neg y, if_neg (by omega)]
theorem rm_copy {μ : Mm} {S : St} {p q i j m : Nat} (h : RMX μ S) (hp : p < 8) (hq : q < 8) (h1 : i + m ≤ kk S 1 p) (h2 : j + m ≤ kk S 1 q) : RMX (cqU μ (160 * q + j) (160 * p + i) m) (eU S q (va_cpy (S.2.2.2 p) (S.2.2.2 q) i j m)) := by
  have z2 := h.1.2.2.2.1 q hq
  refine rm_elemsM h hq rfl rfl (fun k z => cqU_r (by omega)) (fun k hk => ?_)
  simp only [va_cpy]
  by_cases y : j ≤ k ∧ k < j + m
  · rw [if_pos y]
    simp only [cqU]
    rw [if_pos (by first | exact ⟨rfl, by omega, by omega⟩ | exact ⟨trivial, by omega, by omega⟩), show 160 * p + i + (160 * q + k - (160 * q + j)) = 160 * p + (i + (k - j)) by omega]
    exact rm_elem h hp (by omega)
  · rw [if_neg y, cqU_r (by omega)]
    exact rm_elem h hq hk
set_option maxRecDepth 100000 in
set_option maxHeartbeats 4000000 in
theorem c_X12_copy {l : Launch} {δ : Dl} {b : Nat} {μ : Mm} {S : St} (hR : RMX μ S) {x : Int32} {y : Int32} {u : Int32} {v : Int32} {w : Int32} : MCM l δ b yX12_copy cX12_copy 7 (some .int) 2 [.ref (b + 0), .int x, .int y, .int u, .int v, .int w] μ (pI fun r μ' => r = (S_copy S x y u v w).1 ∧ RMX μ' (S_copy S x y u v w).2) := by
  have hT := rm_t hR
  have W := rm_w hR
  have bn := ti_n hT.1
  refine MC.intro ([some (.ref (b + 0)), some (.int x), some (.int y), some (.int u), some (.int v), some (.int w), none]) (by decide) rfl rfl fun κ Qc hl hQ X => ?_
  subst hl
  refine AW.iload_n X dX12_copy_0 (i := 1) rfl rfl ?_
  refine AW.iconstN X 0 dX12_copy_1 rfl ?_
  refine AW.bipushN X 7 dX12_copy_2 rfl ?_
  refine AW.callS X dX12_copy_4 lX12_90 (c_within (m := 8) (dn_s 7).symm (by decide)) rfl rfl rfl rfl ⟨rfl, rfl⟩ (pR_k ?_)
  refine AW.if_eqB X (tgt := 20) dX12_copy_7 (by decide) (fun h7 => ?_) (fun h7 => ?_)
  · refine AW.aload_n X dX12_copy_20 (i := 0) rfl rfl ?_
    refine AW.iconst X (v := -1) dX12_copy_21 rfl ?_
    refine AW.callV X dX12_copy_22 lX12_98 cfX12 (c_X12_no (k := 1) hR (by decide) (by decide)) om0 rfl rfl rfl rfl ⟨rfl, rfl⟩ (pI_k fun r μ1 hr => ?_)
    refine AW.iret X hQ dX12_copy_25 ⟨_, rfl, ?_⟩
    refine rm_of ?_ hr
    simp [S_copy, *]
  · obtain ⟨p, hp, ep⟩ := inr_of (x := x) (m := 8) (by omega) h7
    subst ep
    have cp := cl_n (show p < 2147483648 by omega)
    refine AW.iload_n X dX12_copy_10 (i := 2) rfl rfl ?_
    refine AW.iconstN X 0 dX12_copy_11 rfl ?_
    refine AW.bipushN X 7 dX12_copy_12 rfl ?_
    refine AW.callS X dX12_copy_14 lX12_90 (c_within (m := 8) (dn_s 7).symm (by decide)) rfl rfl rfl rfl ⟨rfl, rfl⟩ (pR_k ?_)
    refine AW.if_neB X (tgt := 26) dX12_copy_17 (by decide) (fun h17 => ?_) (fun h17 => ?_)
    · obtain ⟨q, hq, eq⟩ := inr_of (x := y) (m := 8) (by omega) h17
      subst eq
      have cq := cl_n (show q < 2147483648 by omega)
      have hzp := hR.1.2.2.2.1 p hp
      have hzq := hR.1.2.2.2.1 q hq
      have bkp := hR.1.2.2.1 p hp
      have bkq := hR.1.2.2.1 q hq
      refine AW.aload_n X dX12_copy_26 (i := 0) rfl rfl ?_
      refine AW.getR X dX12_copy_27 fX12_7 rfl om0 (wm_at W 0 rfl) ?_
      refine AW.iload_n X dX12_copy_30 (i := 1) rfl rfl ?_
      refine AW.iaload X dX12_copy_31 (am_at 0 rfl) (n2_in (by omega) (by decide)) (v := (dn (kk S 0 p))) (by rw [n2_clamp (by omega)]; exact rm_held hR (by omega)) ?_
      refine AW.if_lt X (tgt := 43) dX12_copy_32 (by decide) (fun h32 => ?_) (fun h32 => ?_)
      · rw [dn_neg (by omega)] at h32
        have rwp : isRw S p = false := decide_eq_false (by omega)
        have hHp : isH S p = false := decide_eq_false (by omega)
        refine AW.aload_n X dX12_copy_43 (i := 0) rfl rfl ?_
        refine AW.getR X dX12_copy_44 fX12_7 rfl om0 (wm_at W 0 rfl) ?_
        refine AW.iload_n X dX12_copy_47 (i := 2) rfl rfl ?_
        refine AW.iaload X dX12_copy_48 (am_at 0 rfl) (n2_in (by omega) (by decide)) (v := (dn (kk S 0 q))) (by rw [n2_clamp (by omega)]; exact rm_held hR (by omega)) ?_
        refine AW.if_lt X (tgt := 60) dX12_copy_49 (by decide) (fun h49 => ?_) (fun h49 => ?_)
        · rw [dn_neg (by omega)] at h49
          have rwq : isRw S q = false := decide_eq_false (by omega)
          have hHq : isH S q = false := decide_eq_false (by omega)
          refine AW.aload_n X dX12_copy_60 (i := 0) rfl rfl ?_
          refine AW.iload_n X dX12_copy_61 (i := 1) rfl rfl ?_
          refine AW.callV X dX12_copy_62 lX12_102 cfX12 (c_X12_isRow hR (by omega)) om0 rfl rfl rfl rfl ⟨rfl, rfl⟩ (pR_k ?_)
          refine AW.if_eqB X (tgt := 98) dX12_copy_65 (by decide) (fun h65 => ?_) (fun h65 => ?_)
          · refine AW.aload_n X dX12_copy_98 (i := 0) rfl rfl ?_
            refine AW.getR X dX12_copy_99 fX12_7 rfl om0 (wm_at W 0 rfl) ?_
            refine AW.iload_n X dX12_copy_102 (i := 1) rfl rfl ?_
            refine AW.iaload X dX12_copy_103 (am_at 0 rfl) (n2_in (by omega) (by decide)) (v := (dn (kk S 0 p))) (by rw [n2_clamp (by omega)]; exact rm_held hR (by omega)) ?_
            refine AW.if_lt X (tgt := 116) dX12_copy_104 (by decide) (fun h104 => ?_) (fun h104 => ?_)
            · refine AW.aload_n X dX12_copy_116 (i := 0) rfl rfl ?_
              refine AW.bipush X (v := -3) dX12_copy_117 rfl ?_
              refine AW.callV X dX12_copy_119 lX12_98 cfX12 (c_X12_no (k := 3) hR (by decide) (by decide)) om0 rfl rfl rfl rfl ⟨rfl, rfl⟩ (pI_k fun r μ1 hr => ?_)
              refine AW.iret X hQ dX12_copy_122 ⟨_, rfl, ?_⟩
              refine rm_of ?_ hr
              simp [S_copy, *]
            · exact absurd ((dn_neg (by omega)).mpr (by omega)) h104
          · exact absurd (rwp.symm.trans h65) (by decide)
        · rw [dn_neg (by omega)] at h49
          refine AW.aload_n X dX12_copy_52 (i := 0) rfl rfl ?_
          refine AW.iload_n X dX12_copy_53 (i := 2) rfl rfl ?_
          refine AW.callV X dX12_copy_54 lX12_102 cfX12 (c_X12_isRow hR (by omega)) om0 rfl rfl rfl rfl ⟨rfl, rfl⟩ (pR_k ?_)
          refine AW.if_eqB X (tgt := 91) dX12_copy_57 (by decide) (fun h57 => ?_) (fun h57 => ?_)
          · have hHq : isH S q = true := by have := of_decide_eq_false h57; exact decide_eq_true ⟨by omega, by omega⟩
            refine AW.aload_n X dX12_copy_91 (i := 0) rfl rfl ?_
            refine AW.bipush X (v := -2) dX12_copy_92 rfl ?_
            refine AW.callV X dX12_copy_94 lX12_98 cfX12 (c_X12_no (k := 2) hR (by decide) (by decide)) om0 rfl rfl rfl rfl ⟨rfl, rfl⟩ (pI_k fun r μ1 hr => ?_)
            refine AW.iret X hQ dX12_copy_97 ⟨_, rfl, ?_⟩
            refine rm_of ?_ hr
            simp [S_copy, *]
          · have rwq : isRw S q = true := h57
            have gwq := isRw_t rwq
            have hHq : isH S q = false := decide_eq_false (by omega)
            refine AW.aload_n X dX12_copy_60 (i := 0) rfl rfl ?_
            refine AW.iload_n X dX12_copy_61 (i := 1) rfl rfl ?_
            refine AW.callV X dX12_copy_62 lX12_102 cfX12 (c_X12_isRow hR (by omega)) om0 rfl rfl rfl rfl ⟨rfl, rfl⟩ (pR_k ?_)
            refine AW.if_eqB X (tgt := 98) dX12_copy_65 (by decide) (fun h65 => ?_) (fun h65 => ?_)
            · refine AW.aload_n X dX12_copy_98 (i := 0) rfl rfl ?_
              refine AW.getR X dX12_copy_99 fX12_7 rfl om0 (wm_at W 0 rfl) ?_
              refine AW.iload_n X dX12_copy_102 (i := 1) rfl rfl ?_
              refine AW.iaload X dX12_copy_103 (am_at 0 rfl) (n2_in (by omega) (by decide)) (v := (dn (kk S 0 p))) (by rw [n2_clamp (by omega)]; exact rm_held hR (by omega)) ?_
              refine AW.if_lt X (tgt := 116) dX12_copy_104 (by decide) (fun h104 => ?_) (fun h104 => ?_)
              · refine AW.aload_n X dX12_copy_116 (i := 0) rfl rfl ?_
                refine AW.bipush X (v := -3) dX12_copy_117 rfl ?_
                refine AW.callV X dX12_copy_119 lX12_98 cfX12 (c_X12_no (k := 3) hR (by decide) (by decide)) om0 rfl rfl rfl rfl ⟨rfl, rfl⟩ (pI_k fun r μ1 hr => ?_)
                refine AW.iret X hQ dX12_copy_122 ⟨_, rfl, ?_⟩
                refine rm_of ?_ hr
                simp [S_copy, *]
              · exact absurd ((dn_neg (by omega)).mpr (by omega)) h104
            · exact absurd (rwp.symm.trans h65) (by decide)
      · rw [dn_neg (by omega)] at h32
        refine AW.aload_n X dX12_copy_35 (i := 0) rfl rfl ?_
        refine AW.iload_n X dX12_copy_36 (i := 1) rfl rfl ?_
        refine AW.callV X dX12_copy_37 lX12_102 cfX12 (c_X12_isRow hR (by omega)) om0 rfl rfl rfl rfl ⟨rfl, rfl⟩ (pR_k ?_)
        refine AW.if_eqB X (tgt := 91) dX12_copy_40 (by decide) (fun h40 => ?_) (fun h40 => ?_)
        · have hHp : isH S p = true := by have := of_decide_eq_false h40; exact decide_eq_true ⟨by omega, by omega⟩
          refine AW.aload_n X dX12_copy_91 (i := 0) rfl rfl ?_
          refine AW.bipush X (v := -2) dX12_copy_92 rfl ?_
          refine AW.callV X dX12_copy_94 lX12_98 cfX12 (c_X12_no (k := 2) hR (by decide) (by decide)) om0 rfl rfl rfl rfl ⟨rfl, rfl⟩ (pI_k fun r μ1 hr => ?_)
          refine AW.iret X hQ dX12_copy_97 ⟨_, rfl, ?_⟩
          refine rm_of ?_ hr
          simp [S_copy, *]
        · have rwp : isRw S p = true := h40
          have gwp := isRw_t rwp
          have hHp : isH S p = false := decide_eq_false (by omega)
          refine AW.aload_n X dX12_copy_43 (i := 0) rfl rfl ?_
          refine AW.getR X dX12_copy_44 fX12_7 rfl om0 (wm_at W 0 rfl) ?_
          refine AW.iload_n X dX12_copy_47 (i := 2) rfl rfl ?_
          refine AW.iaload X dX12_copy_48 (am_at 0 rfl) (n2_in (by omega) (by decide)) (v := (dn (kk S 0 q))) (by rw [n2_clamp (by omega)]; exact rm_held hR (by omega)) ?_
          refine AW.if_lt X (tgt := 60) dX12_copy_49 (by decide) (fun h49 => ?_) (fun h49 => ?_)
          · rw [dn_neg (by omega)] at h49
            have rwq : isRw S q = false := decide_eq_false (by omega)
            have hHq : isH S q = false := decide_eq_false (by omega)
            refine AW.aload_n X dX12_copy_60 (i := 0) rfl rfl ?_
            refine AW.iload_n X dX12_copy_61 (i := 1) rfl rfl ?_
            refine AW.callV X dX12_copy_62 lX12_102 cfX12 (c_X12_isRow hR (by omega)) om0 rfl rfl rfl rfl ⟨rfl, rfl⟩ (pR_k ?_)
            refine AW.if_eqB X (tgt := 98) dX12_copy_65 (by decide) (fun h65 => ?_) (fun h65 => ?_)
            · exact absurd (rwp.symm.trans h65) (by decide)
            · refine AW.aload_n X dX12_copy_68 (i := 0) rfl rfl ?_
              refine AW.iload_n X dX12_copy_69 (i := 2) rfl rfl ?_
              refine AW.callV X dX12_copy_70 lX12_102 cfX12 (c_X12_isRow hR (by omega)) om0 rfl rfl rfl rfl ⟨rfl, rfl⟩ (pR_k ?_)
              refine AW.if_eqB X (tgt := 98) dX12_copy_73 (by decide) (fun h73 => ?_) (fun h73 => ?_)
              · refine AW.aload_n X dX12_copy_98 (i := 0) rfl rfl ?_
                refine AW.getR X dX12_copy_99 fX12_7 rfl om0 (wm_at W 0 rfl) ?_
                refine AW.iload_n X dX12_copy_102 (i := 1) rfl rfl ?_
                refine AW.iaload X dX12_copy_103 (am_at 0 rfl) (n2_in (by omega) (by decide)) (v := (dn (kk S 0 p))) (by rw [n2_clamp (by omega)]; exact rm_held hR (by omega)) ?_
                refine AW.if_lt X (tgt := 116) dX12_copy_104 (by decide) (fun h104 => ?_) (fun h104 => ?_)
                · exact absurd ((dn_neg (by omega)).mp h104) (by omega)
                · refine AW.aload_n X dX12_copy_107 (i := 0) rfl rfl ?_
                  refine AW.getR X dX12_copy_108 fX12_7 rfl om0 (wm_at W 0 rfl) ?_
                  refine AW.iload_n X dX12_copy_111 (i := 2) rfl rfl ?_
                  refine AW.iaload X dX12_copy_112 (am_at 0 rfl) (n2_in (by omega) (by decide)) (v := (dn (kk S 0 q))) (by rw [n2_clamp (by omega)]; exact rm_held hR (by omega)) ?_
                  refine AW.if_ge X (tgt := 123) dX12_copy_113 (by decide) (fun h113 => ?_) (fun h113 => ?_)
                  · replace h113 := Int32.not_lt.mpr h113
                    exact absurd ((dn_neg (by omega)).mpr (by omega)) h113
                  · replace h113 := Int32.not_le.mp h113
                    refine AW.aload_n X dX12_copy_116 (i := 0) rfl rfl ?_
                    refine AW.bipush X (v := -3) dX12_copy_117 rfl ?_
                    refine AW.callV X dX12_copy_119 lX12_98 cfX12 (c_X12_no (k := 3) hR (by decide) (by decide)) om0 rfl rfl rfl rfl ⟨rfl, rfl⟩ (pI_k fun r μ1 hr => ?_)
                    refine AW.iret X hQ dX12_copy_122 ⟨_, rfl, ?_⟩
                    refine rm_of ?_ hr
                    simp [S_copy, *]
              · exact absurd (rwq.symm.trans h73) (by decide)
          · rw [dn_neg (by omega)] at h49
            refine AW.aload_n X dX12_copy_52 (i := 0) rfl rfl ?_
            refine AW.iload_n X dX12_copy_53 (i := 2) rfl rfl ?_
            refine AW.callV X dX12_copy_54 lX12_102 cfX12 (c_X12_isRow hR (by omega)) om0 rfl rfl rfl rfl ⟨rfl, rfl⟩ (pR_k ?_)
            refine AW.if_eqB X (tgt := 91) dX12_copy_57 (by decide) (fun h57 => ?_) (fun h57 => ?_)
            · have hHq : isH S q = true := by have := of_decide_eq_false h57; exact decide_eq_true ⟨by omega, by omega⟩
              refine AW.aload_n X dX12_copy_91 (i := 0) rfl rfl ?_
              refine AW.bipush X (v := -2) dX12_copy_92 rfl ?_
              refine AW.callV X dX12_copy_94 lX12_98 cfX12 (c_X12_no (k := 2) hR (by decide) (by decide)) om0 rfl rfl rfl rfl ⟨rfl, rfl⟩ (pI_k fun r μ1 hr => ?_)
              refine AW.iret X hQ dX12_copy_97 ⟨_, rfl, ?_⟩
              refine rm_of ?_ hr
              simp [S_copy, *]
            · have rwq : isRw S q = true := h57
              have gwq := isRw_t rwq
              have hHq : isH S q = false := decide_eq_false (by omega)
              refine AW.aload_n X dX12_copy_60 (i := 0) rfl rfl ?_
              refine AW.iload_n X dX12_copy_61 (i := 1) rfl rfl ?_
              refine AW.callV X dX12_copy_62 lX12_102 cfX12 (c_X12_isRow hR (by omega)) om0 rfl rfl rfl rfl ⟨rfl, rfl⟩ (pR_k ?_)
              refine AW.if_eqB X (tgt := 98) dX12_copy_65 (by decide) (fun h65 => ?_) (fun h65 => ?_)
              · exact absurd (rwp.symm.trans h65) (by decide)
              · refine AW.aload_n X dX12_copy_68 (i := 0) rfl rfl ?_
                refine AW.iload_n X dX12_copy_69 (i := 2) rfl rfl ?_
                refine AW.callV X dX12_copy_70 lX12_102 cfX12 (c_X12_isRow hR (by omega)) om0 rfl rfl rfl rfl ⟨rfl, rfl⟩ (pR_k ?_)
                refine AW.if_eqB X (tgt := 98) dX12_copy_73 (by decide) (fun h73 => ?_) (fun h73 => ?_)
                · exact absurd (rwq.symm.trans h73) (by decide)
                · refine AW.aload_n X dX12_copy_76 (i := 0) rfl rfl ?_
                  refine AW.getR X dX12_copy_77 fX12_7 rfl om0 (wm_at W 0 rfl) ?_
                  refine AW.iload_n X dX12_copy_80 (i := 1) rfl rfl ?_
                  refine AW.iaload X dX12_copy_81 (am_at 0 rfl) (n2_in (by omega) (by decide)) (v := (dn (kk S 0 p))) (by rw [n2_clamp (by omega)]; exact rm_held hR (by omega)) ?_
                  refine AW.aload_n X dX12_copy_82 (i := 0) rfl rfl ?_
                  refine AW.getR X dX12_copy_83 fX12_7 rfl om0 (wm_at W 0 rfl) ?_
                  refine AW.iload_n X dX12_copy_86 (i := 2) rfl rfl ?_
                  refine AW.iaload X dX12_copy_87 (am_at 0 rfl) (n2_in (by omega) (by decide)) (v := (dn (kk S 0 q))) (by rw [n2_clamp (by omega)]; exact rm_held hR (by omega)) ?_
                  refine AW.icmp_eq X (tgt := 98) dX12_copy_88 (by decide) (fun h88 => ?_) (fun h88 => ?_)
                  · rw [dn_eq (by omega) (by omega)] at h88
                    refine AW.aload_n X dX12_copy_98 (i := 0) rfl rfl ?_
                    refine AW.getR X dX12_copy_99 fX12_7 rfl om0 (wm_at W 0 rfl) ?_
                    refine AW.iload_n X dX12_copy_102 (i := 1) rfl rfl ?_
                    refine AW.iaload X dX12_copy_103 (am_at 0 rfl) (n2_in (by omega) (by decide)) (v := (dn (kk S 0 p))) (by rw [n2_clamp (by omega)]; exact rm_held hR (by omega)) ?_
                    refine AW.if_lt X (tgt := 116) dX12_copy_104 (by decide) (fun h104 => ?_) (fun h104 => ?_)
                    · exact absurd ((dn_neg (by omega)).mp h104) (by omega)
                    · refine AW.aload_n X dX12_copy_107 (i := 0) rfl rfl ?_
                      refine AW.getR X dX12_copy_108 fX12_7 rfl om0 (wm_at W 0 rfl) ?_
                      refine AW.iload_n X dX12_copy_111 (i := 2) rfl rfl ?_
                      refine AW.iaload X dX12_copy_112 (am_at 0 rfl) (n2_in (by omega) (by decide)) (v := (dn (kk S 0 q))) (by rw [n2_clamp (by omega)]; exact rm_held hR (by omega)) ?_
                      refine AW.if_ge X (tgt := 123) dX12_copy_113 (by decide) (fun h113 => ?_) (fun h113 => ?_)
                      · replace h113 := Int32.not_lt.mpr h113
                        refine AW.iload X dX12_copy_123 rfl ?_
                        refine AW.if_ge X (tgt := 135) dX12_copy_125 (by decide) (fun h125 => ?_) (fun h125 => ?_)
                        · replace h125 := Int32.not_lt.mpr h125
                          obtain ⟨m, hm, em⟩ := nI_of h125
                          subst em
                          have cm := cl_n hm
                          refine AW.iload_n X dX12_copy_135 (i := 3) rfl rfl ?_
                          refine AW.if_lt X (tgt := 179) dX12_copy_136 (by decide) (fun h136 => ?_) (fun h136 => ?_)
                          · have gp := nsp_neg (S := S) (s := p) (m := m) h136
                            refine AW.aload_n X dX12_copy_179 (i := 0) rfl rfl ?_
                            refine AW.bipush X (v := -5) dX12_copy_180 rfl ?_
                            refine AW.callV X dX12_copy_182 lX12_98 cfX12 (c_X12_no (k := 5) hR (by decide) (by decide)) om0 rfl rfl rfl rfl ⟨rfl, rfl⟩ (pI_k fun r μ1 hr => ?_)
                            refine AW.iret X hQ dX12_copy_185 ⟨_, rfl, ?_⟩
                            refine rm_of ?_ hr
                            simp [S_copy, *]
                          · obtain ⟨i, hi, ei⟩ := nI_of h136
                            subst ei
                            have ci := cl_n hi
                            refine AW.iload X dX12_copy_139 rfl ?_
                            refine AW.if_lt X (tgt := 179) dX12_copy_141 (by decide) (fun h141 => ?_) (fun h141 => ?_)
                            · have gq := nsp_neg (S := S) (s := q) (m := m) h141
                              refine AW.aload_n X dX12_copy_179 (i := 0) rfl rfl ?_
                              refine AW.bipush X (v := -5) dX12_copy_180 rfl ?_
                              refine AW.callV X dX12_copy_182 lX12_98 cfX12 (c_X12_no (k := 5) hR (by decide) (by decide)) om0 rfl rfl rfl rfl ⟨rfl, rfl⟩ (pI_k fun r μ1 hr => ?_)
                              refine AW.iret X hQ dX12_copy_185 ⟨_, rfl, ?_⟩
                              refine rm_of ?_ hr
                              simp [S_copy, *]
                            · obtain ⟨j, hj, ej⟩ := nI_of h141
                              subst ej
                              have cj := cl_n hj
                              refine AW.iload_n X dX12_copy_144 (i := 3) rfl rfl ?_
                              refine AW.i2l X dX12_copy_145 ?_
                              refine AW.iload X dX12_copy_146 rfl ?_
                              refine AW.i2l X dX12_copy_148 ?_
                              refine AW.ladd X dX12_copy_149 ?_
                              refine AW.aload_n X dX12_copy_150 (i := 0) rfl rfl ?_
                              refine AW.getR X dX12_copy_151 fX12_13 rfl om0 (wm_at W 1 rfl) ?_
                              refine AW.iload_n X dX12_copy_154 (i := 1) rfl rfl ?_
                              refine AW.iaload X dX12_copy_155 (am_at 1 rfl) (n2_in (by omega) (by decide)) (v := (nI (kk S 1 p))) (by rw [n2_clamp (by omega)]; exact rm_size hR (by omega)) ?_
                              refine AW.i2l X dX12_copy_156 ?_
                              refine AW.lcmp X dX12_copy_157 ?_
                              refine AW.if_gt X (tgt := 179) dX12_copy_158 (by decide) (fun h158 => ?_) (fun h158 => ?_)
                              · rw [lgs hi hm (by omega)] at h158
                                have gp := nsp_t hi hzp h158
                                refine AW.aload_n X dX12_copy_179 (i := 0) rfl rfl ?_
                                refine AW.bipush X (v := -5) dX12_copy_180 rfl ?_
                                refine AW.callV X dX12_copy_182 lX12_98 cfX12 (c_X12_no (k := 5) hR (by decide) (by decide)) om0 rfl rfl rfl rfl ⟨rfl, rfl⟩ (pI_k fun r μ1 hr => ?_)
                                refine AW.iret X hQ dX12_copy_185 ⟨_, rfl, ?_⟩
                                refine rm_of ?_ hr
                                simp [S_copy, *]
                              · rw [lgs hi hm (by omega)] at h158
                                have gp := nsp_f hzp h158
                                refine AW.iload X dX12_copy_161 rfl ?_
                                refine AW.i2l X dX12_copy_163 ?_
                                refine AW.iload X dX12_copy_164 rfl ?_
                                refine AW.i2l X dX12_copy_166 ?_
                                refine AW.ladd X dX12_copy_167 ?_
                                refine AW.aload_n X dX12_copy_168 (i := 0) rfl rfl ?_
                                refine AW.getR X dX12_copy_169 fX12_13 rfl om0 (wm_at W 1 rfl) ?_
                                refine AW.iload_n X dX12_copy_172 (i := 2) rfl rfl ?_
                                refine AW.iaload X dX12_copy_173 (am_at 1 rfl) (n2_in (by omega) (by decide)) (v := (nI (kk S 1 q))) (by rw [n2_clamp (by omega)]; exact rm_size hR (by omega)) ?_
                                refine AW.i2l X dX12_copy_174 ?_
                                refine AW.lcmp X dX12_copy_175 ?_
                                refine AW.if_le X (tgt := 186) dX12_copy_176 (by decide) (fun h176 => ?_) (fun h176 => ?_)
                                · replace h176 := Int32.not_lt.mpr h176
                                  rw [lgs hj hm (by omega)] at h176
                                  have gq := nsp_f hzq h176
                                  have cm9 := cm
                                  refine AW.iload_n X dX12_copy_186 (i := 1) rfl rfl ?_
                                  refine AW.iload_n X dX12_copy_187 (i := 2) rfl rfl ?_
                                  refine AW.icmp_neN X (tgt := 248) dX12_copy_188 (by decide) (by omega) (by omega) (fun h188 => ?_) (fun h188 => ?_)
                                  · refine AW.iconstN X 0 dX12_copy_248 rfl ?_
                                    refine AW.istore X dX12_copy_249 rfl ?_
                                    have L251 : ∀ (m251 ix : Nat) (μc : Mm), m - ix < m251 → ix ≤ m → (μc = cqU μ ((160 * q) + j) ((160 * p) + i) ix) → AW κ (δ, b, NM, 7, shM, False, Qc, 0, 0) NM 0 0 251 [some (.ref (b + 0)), some (.int (nI p)), some (.int (nI q)), some (.int (nI i)), some (.int (nI j)), some (.int (nI m)), some (.int (nI ix))] [] μc := by
                                      intro m251
                                      induction m251 with
                                      | zero => intro ix μc hm; exact absurd hm (Nat.not_lt_zero _)
                                      | succ m251 ih251 =>
                                        intro ix μc hm251 hi251 hmc
                                        have Wc : WM μc.2.2 := by rw [hmc]; exact W
                                        refine AW.iload X dX12_copy_251 rfl ?_
                                        refine AW.iload X dX12_copy_253 rfl ?_
                                        refine AW.icmp_geN X (tgt := 295) dX12_copy_255 (by decide) (by omega) (by omega) (fun h255 => ?_) (fun h255 => ?_)
                                        · obtain rfl : m = ix := by omega
                                          have n255 := Nat.not_lt_of_le h255
                                          refine AW.iconstN X 1 dX12_copy_295 rfl ?_
                                          refine AW.iret X hQ dX12_copy_296 ⟨_, rfl, ?_⟩
                                          subst hmc
                                          exact rm_val (by clear h188; simp [S_copy, *]) (rm_copy hR hp hq (by omega) (by omega))
                                        · have n255 := Nat.not_le_of_lt h255
                                          refine AW.aload_n X dX12_copy_258 (i := 0) rfl rfl ?_
                                          refine AW.getR X dX12_copy_259 fX12_16 rfl om0 (wm_at Wc 2 rfl) ?_
                                          refine AW.sipushN X 160 dX12_copy_262 rfl ?_
                                          refine AW.iload_n X dX12_copy_265 (i := 2) rfl rfl ?_
                                          refine AW.imulN X dX12_copy_266 ?_
                                          refine AW.iload X dX12_copy_267 rfl ?_
                                          refine AW.iaddN X dX12_copy_269 ?_
                                          refine AW.iload X dX12_copy_270 rfl ?_
                                          refine AW.iaddN X dX12_copy_272 ?_
                                          refine AW.aload_n X dX12_copy_273 (i := 0) rfl rfl ?_
                                          refine AW.getR X dX12_copy_274 fX12_16 rfl om0 (wm_at Wc 2 rfl) ?_
                                          refine AW.sipushN X 160 dX12_copy_277 rfl ?_
                                          refine AW.iload_n X dX12_copy_280 (i := 1) rfl rfl ?_
                                          refine AW.imulN X dX12_copy_281 ?_
                                          refine AW.iload_n X dX12_copy_282 (i := 3) rfl rfl ?_
                                          refine AW.iaddN X dX12_copy_283 ?_
                                          refine AW.iload X dX12_copy_284 rfl ?_
                                          refine AW.iaddN X dX12_copy_286 ?_
                                          refine AW.laload X dX12_copy_287 (am_at 2 rfl) (n2_in (by omega) (by decide)) (v := (μ.2.1 3 (((160 * p) + i) + ix))) (by rw [n2_clamp (by omega), hmc]; exact cqU_r (by omega)) ?_
                                          refine AW.lastore X dX12_copy_288 (by decide) (am_at 2 rfl) (n2_in (by omega) (by decide)) ?_
                                          rw [n2_clamp (by omega)]
                                          refine AW.iincN X (c := (ix + 1)) dX12_copy_289 rfl (inc_1 _) rfl ?_
                                          refine AW.goto X (tgt := 251) dX12_copy_292 (by decide) ?_
                                          refine AW.cgw (ih251 (ix + 1) (wL μc 3 (((160 * q) + j) + ix) (μ.2.1 3 (((160 * p) + i) + ix))) (by omega) (by omega) (by rw [hmc]; exact cqU_s _ _ _ _)) ⟨rfl, rfl, rfl, rfl, rfl, rfl, rfl, trivial⟩
                                    refine AW.cgw (L251 _ 0 μ (Nat.lt_succ_self _) (by omega) (cqU_0 _ _ _)) ⟨rfl, rfl, rfl, rfl, rfl, rfl, rfl, trivial⟩
                                  · refine AW.iload_n X dX12_copy_191 (i := 3) rfl rfl ?_
                                    refine AW.iload X dX12_copy_192 rfl ?_
                                    refine AW.icmp_geN X (tgt := 248) dX12_copy_194 (by decide) (by omega) (by omega) (fun h194 => ?_) (fun h194 => ?_)
                                    · have n194 := Nat.not_lt_of_le h194
                                      refine AW.iconstN X 0 dX12_copy_248 rfl ?_
                                      refine AW.istore X dX12_copy_249 rfl ?_
                                      have L251 : ∀ (m251 ix : Nat) (μc : Mm), m - ix < m251 → ix ≤ m → (μc = cqU μ ((160 * q) + j) ((160 * p) + i) ix) → AW κ (δ, b, NM, 7, shM, False, Qc, 0, 0) NM 0 0 251 [some (.ref (b + 0)), some (.int (nI p)), some (.int (nI q)), some (.int (nI i)), some (.int (nI j)), some (.int (nI m)), some (.int (nI ix))] [] μc := by
                                        intro m251
                                        induction m251 with
                                        | zero => intro ix μc hm; exact absurd hm (Nat.not_lt_zero _)
                                        | succ m251 ih251 =>
                                          intro ix μc hm251 hi251 hmc
                                          have Wc : WM μc.2.2 := by rw [hmc]; exact W
                                          refine AW.iload X dX12_copy_251 rfl ?_
                                          refine AW.iload X dX12_copy_253 rfl ?_
                                          refine AW.icmp_geN X (tgt := 295) dX12_copy_255 (by decide) (by omega) (by omega) (fun h255 => ?_) (fun h255 => ?_)
                                          · obtain rfl : m = ix := by omega
                                            have n255 := Nat.not_lt_of_le h255
                                            refine AW.iconstN X 1 dX12_copy_295 rfl ?_
                                            refine AW.iret X hQ dX12_copy_296 ⟨_, rfl, ?_⟩
                                            subst hmc
                                            exact rm_val (by clear h188; simp [S_copy, *]) (rm_copy hR hp hq (by omega) (by omega))
                                          · have n255 := Nat.not_le_of_lt h255
                                            refine AW.aload_n X dX12_copy_258 (i := 0) rfl rfl ?_
                                            refine AW.getR X dX12_copy_259 fX12_16 rfl om0 (wm_at Wc 2 rfl) ?_
                                            refine AW.sipushN X 160 dX12_copy_262 rfl ?_
                                            refine AW.iload_n X dX12_copy_265 (i := 2) rfl rfl ?_
                                            refine AW.imulN X dX12_copy_266 ?_
                                            refine AW.iload X dX12_copy_267 rfl ?_
                                            refine AW.iaddN X dX12_copy_269 ?_
                                            refine AW.iload X dX12_copy_270 rfl ?_
                                            refine AW.iaddN X dX12_copy_272 ?_
                                            refine AW.aload_n X dX12_copy_273 (i := 0) rfl rfl ?_
                                            refine AW.getR X dX12_copy_274 fX12_16 rfl om0 (wm_at Wc 2 rfl) ?_
                                            refine AW.sipushN X 160 dX12_copy_277 rfl ?_
                                            refine AW.iload_n X dX12_copy_280 (i := 1) rfl rfl ?_
                                            refine AW.imulN X dX12_copy_281 ?_
                                            refine AW.iload_n X dX12_copy_282 (i := 3) rfl rfl ?_
                                            refine AW.iaddN X dX12_copy_283 ?_
                                            refine AW.iload X dX12_copy_284 rfl ?_
                                            refine AW.iaddN X dX12_copy_286 ?_
                                            refine AW.laload X dX12_copy_287 (am_at 2 rfl) (n2_in (by omega) (by decide)) (v := (μ.2.1 3 (((160 * p) + i) + ix))) (by rw [n2_clamp (by omega), hmc]; exact cqU_r (by omega)) ?_
                                            refine AW.lastore X dX12_copy_288 (by decide) (am_at 2 rfl) (n2_in (by omega) (by decide)) ?_
                                            rw [n2_clamp (by omega)]
                                            refine AW.iincN X (c := (ix + 1)) dX12_copy_289 rfl (inc_1 _) rfl ?_
                                            refine AW.goto X (tgt := 251) dX12_copy_292 (by decide) ?_
                                            refine AW.cgw (ih251 (ix + 1) (wL μc 3 (((160 * q) + j) + ix) (μ.2.1 3 (((160 * p) + i) + ix))) (by omega) (by omega) (by rw [hmc]; exact cqU_s _ _ _ _)) ⟨rfl, rfl, rfl, rfl, rfl, rfl, rfl, trivial⟩
                                      refine AW.cgw (L251 _ 0 μ (Nat.lt_succ_self _) (by omega) (cqU_0 _ _ _)) ⟨rfl, rfl, rfl, rfl, rfl, rfl, rfl, trivial⟩
                                    · have n194 := Nat.not_le_of_lt h194
                                      refine AW.iload X dX12_copy_197 rfl ?_
                                      refine AW.iconstN X 1 dX12_copy_199 rfl ?_
                                      refine AW.isub X dX12_copy_200 ?_
                                      rw [dn_sub]
                                      refine AW.istore X dX12_copy_201 rfl ?_
                                      have L203 : ∀ (ix : Nat) (μd : Mm), ix ≤ m → μd = cqD μ ((160 * q) + j) ((160 * p) + i) ix m → AW κ (δ, b, NM, 7, shM, False, Qc, 0, 0) NM 0 0 203 [some (.ref (b + 0)), some (.int (nI p)), some (.int (nI q)), some (.int (nI i)), some (.int (nI j)), some (.int (nI m)), some (.int (dn ix))] [] μd := by
                                        intro ix
                                        induction ix with
                                        | zero =>
                                          intro μd hi hmd
                                          have Wd : WM μd.2.2 := by rw [hmd]; exact W
                                          rw [dn_0]
                                          refine AW.iload X dX12_copy_203 rfl ?_
                                          refine AW.if_lt X (tgt := 245) dX12_copy_205 (by decide) (fun h205 => ?_) (fun h205 => ?_)
                                          · refine AW.goto X (tgt := 295) dX12_copy_245 (by decide) ?_
                                            refine AW.iconstN X 1 dX12_copy_295 rfl ?_
                                            refine AW.iret X hQ dX12_copy_296 ⟨_, rfl, ?_⟩
                                            subst hmd
                                            exact rm_val (by clear h188; simp [S_copy, *]) (rm_copy hR hp hq (by omega) (by omega))
                                          · exact absurd (by decide) h205
                                        | succ cx ih =>
                                          intro μd hi hmd
                                          have Wd : WM μd.2.2 := by rw [hmd]; exact W
                                          rw [dn_s]
                                          refine AW.iload X dX12_copy_203 rfl ?_
                                          refine AW.if_ltN X (tgt := 245) dX12_copy_205 (by decide) (by omega) (fun h205 => ?_) (fun h205 => ?_)
                                          · exact h205.elim
                                          · refine AW.aload_n X dX12_copy_208 (i := 0) rfl rfl ?_
                                            refine AW.getR X dX12_copy_209 fX12_16 rfl om0 (wm_at Wd 2 rfl) ?_
                                            refine AW.sipushN X 160 dX12_copy_212 rfl ?_
                                            refine AW.iload_n X dX12_copy_215 (i := 2) rfl rfl ?_
                                            refine AW.imulN X dX12_copy_216 ?_
                                            refine AW.iload X dX12_copy_217 rfl ?_
                                            refine AW.iaddN X dX12_copy_219 ?_
                                            refine AW.iload X dX12_copy_220 rfl ?_
                                            refine AW.iaddN X dX12_copy_222 ?_
                                            refine AW.aload_n X dX12_copy_223 (i := 0) rfl rfl ?_
                                            refine AW.getR X dX12_copy_224 fX12_16 rfl om0 (wm_at Wd 2 rfl) ?_
                                            refine AW.sipushN X 160 dX12_copy_227 rfl ?_
                                            refine AW.iload_n X dX12_copy_230 (i := 1) rfl rfl ?_
                                            refine AW.imulN X dX12_copy_231 ?_
                                            refine AW.iload_n X dX12_copy_232 (i := 3) rfl rfl ?_
                                            refine AW.iaddN X dX12_copy_233 ?_
                                            refine AW.iload X dX12_copy_234 rfl ?_
                                            refine AW.iaddN X dX12_copy_236 ?_
                                            refine AW.laload X dX12_copy_237 (am_at 2 rfl) (n2_in (by omega) (by decide)) (v := (μ.2.1 3 (((160 * p) + i) + cx))) (by rw [n2_clamp (by omega), hmd]; exact cqD_r (by omega)) ?_
                                            refine AW.lastore X dX12_copy_238 (by decide) (am_at 2 rfl) (n2_in (by omega) (by decide)) ?_
                                            rw [n2_clamp (by omega)]
                                            refine AW.iinc X (v := -1) dX12_copy_239 rfl rfl rfl ?_
                                            refine AW.goto X (tgt := 203) dX12_copy_242 (by decide) ?_
                                            refine AW.cgw (ih (wL μd 3 (((160 * q) + j) + cx) (μ.2.1 3 (((160 * p) + i) + cx))) (by omega) (by rw [hmd]; exact cqD_s μ (by omega))) ⟨rfl, rfl, rfl, rfl, rfl, rfl, rfl, trivial⟩
                                      refine AW.cgw (L203 _ μ (Nat.le_refl _) (cqD_m _ _ _ _)) ⟨rfl, rfl, rfl, rfl, rfl, rfl, rfl, trivial⟩
                                · replace h176 := Int32.not_le.mp h176
                                  rw [lgs hj hm (by omega)] at h176
                                  have gq := nsp_t hj hzq h176
                                  refine AW.aload_n X dX12_copy_179 (i := 0) rfl rfl ?_
                                  refine AW.bipush X (v := -5) dX12_copy_180 rfl ?_
                                  refine AW.callV X dX12_copy_182 lX12_98 cfX12 (c_X12_no (k := 5) hR (by decide) (by decide)) om0 rfl rfl rfl rfl ⟨rfl, rfl⟩ (pI_k fun r μ1 hr => ?_)
                                  refine AW.iret X hQ dX12_copy_185 ⟨_, rfl, ?_⟩
                                  refine rm_of ?_ hr
                                  simp [S_copy, *]
                        · replace h125 := Int32.not_le.mp h125
                          refine AW.aload_n X dX12_copy_128 (i := 0) rfl rfl ?_
                          refine AW.bipush X (v := -4) dX12_copy_129 rfl ?_
                          refine AW.callV X dX12_copy_131 lX12_98 cfX12 (c_X12_no (k := 4) hR (by decide) (by decide)) om0 rfl rfl rfl rfl ⟨rfl, rfl⟩ (pI_k fun r μ1 hr => ?_)
                          refine AW.iret X hQ dX12_copy_134 ⟨_, rfl, ?_⟩
                          refine rm_of ?_ hr
                          simp [S_copy, *]
                      · replace h113 := Int32.not_le.mp h113
                        exact absurd ((dn_neg (by omega)).mp h113) (by omega)
                  · rw [dn_eq (by omega) (by omega)] at h88
                    refine AW.aload_n X dX12_copy_91 (i := 0) rfl rfl ?_
                    refine AW.bipush X (v := -2) dX12_copy_92 rfl ?_
                    refine AW.callV X dX12_copy_94 lX12_98 cfX12 (c_X12_no (k := 2) hR (by decide) (by decide)) om0 rfl rfl rfl rfl ⟨rfl, rfl⟩ (pI_k fun r μ1 hr => ?_)
                    refine AW.iret X hQ dX12_copy_97 ⟨_, rfl, ?_⟩
                    refine rm_of ?_ hr
                    simp [S_copy, *]
    · refine AW.aload_n X dX12_copy_20 (i := 0) rfl rfl ?_
      refine AW.iconst X (v := -1) dX12_copy_21 rfl ?_
      refine AW.callV X dX12_copy_22 lX12_98 cfX12 (c_X12_no (k := 1) hR (by decide) (by decide)) om0 rfl rfl rfl rfl ⟨rfl, rfl⟩ (pI_k fun r μ1 hr => ?_)
      refine AW.iret X hQ dX12_copy_25 ⟨_, rfl, ?_⟩
      refine rm_of ?_ hr
      simp [S_copy, *]
