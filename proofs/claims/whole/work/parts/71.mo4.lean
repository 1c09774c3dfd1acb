theorem shl_n : ∀ a, a < 256 → ∀ k, k < 9 → nI a <<< (nI k &&& 31) = nI (a * 2 ^ k) := by decide +kernel
theorem shr_lt {a k : Nat} (h : a < 256) : a / 2 ^ k < 256 := Nat.lt_of_le_of_lt (Nat.div_le_self _ _) h
theorem cut_lt : ∀ a, a < 256 → ∀ k, k < 9 → a / 2 ^ k * 2 ^ k < 256 := by decide +kernel
theorem cut_bit : ∀ a, a < 256 → ∀ k, k < 9 → ∀ j, j < 8 → (a / 2 ^ k * 2 ^ k).testBit j = (decide (k ≤ j) && a.testBit j) := by decide +kernel
theorem sum_cut {V : Vt} (hV : HI V) {c k : Nat} (hc : c < V 0 2) : sumBt V (lyA V k / 2 ^ (c + 1) * 2 ^ (c + 1)) (V 0 2) = dsum V k (c + 1) (V 0 2) := by
  have hn := hi_n hV
  exact sumBt_d (lo := c + 1) (fun j hj => by rw [cut_bit _ (lyN hV k) _ (by omega) _ (by omega), lyA_bit hj]) _ (Nat.le_refl _)
theorem gpv_dep {hd : Nat → Nat} {V : Vt} {t : Nat} : ∀ {k p q : Nat}, gpv hd V t k = some (p, q) → q = depth V p
  | 0, p, q, h => by cases h
  | k + 1, p, q, h => by
    unfold gpv at h
    split at h
    · exact gpv_dep h
    · split at h
      · cases h; rfl
      · exact gpv_dep h
theorem wet_00 (V : Vt) (k : Nat) : wet V k 0 = 0 := by simp [wet]
set_option maxRecDepth 100000 in
set_option maxHeartbeats 4000000 in
theorem c_X12_razor {l : Launch} {δ : Dl} {b : Nat} {μ : Mm} {S : St} (hR : RMX μ S) {x : Int32} {y : Int32} {z : Int32} : MCM l δ b yX12_razor cX12_razor 9 (some .int) 4 [.ref (b + 0), .int x, .int y, .int z] μ (pI fun r μ' => r = (S_razor S x y z).1 ∧ RMX μ' (S_razor S x y z).2) := by
  have hT := rm_t hR
  have W := rm_w hR
  have bn := ti_n hT.1
  refine MC.intro ([some (.ref (b + 0)), some (.int x), some (.int y), some (.int z), none, none, none, none, none]) (by decide) rfl rfl fun κ Qc hl hQ X => ?_
  subst hl
  refine AW.aload_n X dX12_razor_0 (i := 0) rfl rfl ?_
  refine AW.iload_n X dX12_razor_1 (i := 1) rfl rfl ?_
  refine AW.iload_n X dX12_razor_2 (i := 2) rfl rfl ?_
  refine AW.callV X dX12_razor_3 lX12_149 cfX12 (c_X12_isCoat W hT) om0 rfl rfl rfl rfl ⟨rfl, rfl⟩ (pR_k ?_)
  refine AW.if_neB X (tgt := 15) dX12_razor_6 (by decide) (fun h6 => ?_) (fun h6 => ?_)
  · obtain ⟨hA, hB⟩ := Bool.and_eq_true_iff.mp h6
    obtain ⟨h, hh, eh⟩ := inr_of (x := x) (m := (S.1 6 0 0)) (by omega) hA
    subst eh
    have ch := cl_n (show h < 2147483648 by omega)
    have hIh := tm_hi hT hh
    have bnh := hi_n hIh
    have bah := hi_a hIh
    rw [ch] at hB
    obtain ⟨c, hc, ec⟩ := inr_of (x := y) (m := (S.1 h 0 2)) (by omega) hB
    subst ec
    have cc := cl_n (show c < 2147483648 by omega)
    refine AW.iload_n X dX12_razor_15 (i := 3) rfl rfl ?_
    refine AW.iconstN X 0 dX12_razor_16 rfl ?_
    refine AW.iconstN X 1 dX12_razor_17 rfl ?_
    refine AW.callS X dX12_razor_18 lX12_90 (c_within (m := 2) (dn_s 1).symm (by decide)) rfl rfl rfl rfl ⟨rfl, rfl⟩ (pR_k ?_)
    refine AW.if_neB X (tgt := 31) dX12_razor_21 (by decide) (fun h21 => ?_) (fun h21 => ?_)
    · obtain ⟨w, hw, ew⟩ := inr_of (x := z) (m := 2) (by omega) h21
      subst ew
      have cw := cl_n (show w < 2147483648 by omega)
      have gw : ¬ (¬ nI w = nI 0 ∧ ¬ nI w = nI 1) := by rw [n2_eq (by omega) (by decide), n2_eq (by omega) (by decide)]; omega
      refine AW.iconst X (v := -1) dX12_razor_31 rfl ?_
      refine AW.istore X dX12_razor_32 rfl ?_
      refine AW.iconstN X 0 dX12_razor_34 rfl ?_
      refine AW.istore X dX12_razor_35 rfl ?_
      refine AW.iconstN X 0 dX12_razor_37 rfl ?_
      refine AW.istore X dX12_razor_38 rfl ?_
      have L40 : ∀ (m40 ix : Nat), 12 - ix < m40 → ix ≤ 12 → AW κ (δ, b, NM, 9, shM, False, Qc, 0, 0) NM 0 0 40 [some (.ref (b + 0)), some (.int (nI h)), some (.int (nI c)), some (.int (nI w)), some (.int (oI (Option.map Prod.fst (rz (S.1 h) c ix)))), some (.int (nI (oL (rz (S.1 h) c ix)))), some (.int (nI ix)), none, none] [] μ := by
        intro m40
        induction m40 with
        | zero => intro ix hm; exact absurd hm (Nat.not_lt_zero _)
        | succ m40 ih40 =>
          intro ix hm40 hi40 
          rcases hz : (rz (S.1 h) c ix) with _ | ⟨p9, q9⟩
          · show AW κ (δ, b, NM, 9, shM, False, Qc, 0, 0) NM 0 0 40 [some (.ref (b + 0)), some (.int (nI h)), some (.int (nI c)), some (.int (nI w)), some (.int (-1)), some (.int (nI 0)), some (.int (nI ix)), none, none] [] μ
            refine AW.iload X dX12_razor_40 rfl ?_
            refine AW.bipushN X 12 dX12_razor_42 rfl ?_
            refine AW.icmp_geN X (tgt := 114) dX12_razor_44 (by decide) (by omega) (by omega) (fun h44 => ?_) (fun h44 => ?_)
            · obtain rfl : 12 = ix := by omega
              have n44 := Nat.not_lt_of_le h44
              refine AW.iload X dX12_razor_114 rfl ?_
              refine AW.iconst X (v := -1) dX12_razor_116 rfl ?_
              refine AW.icmp_eq X (tgt := 124) dX12_razor_117 (by decide) (fun h117 => ?_) (fun h117 => ?_)
              · refine AW.iload X dX12_razor_124 rfl ?_
                refine AW.goto X (tgt := 131) dX12_razor_126 (by decide) ?_
                refine AW.iret X hQ dX12_razor_131 ⟨_, rfl, ?_⟩
                refine rm_val ?_ hR
                simp [S_razor, oI, n01, *]
              · exact absurd rfl h117
            · have n44 := Nat.not_le_of_lt h44
              have by_ := lyN hIh ix
              have bd := dsum_le hIh ix (c + 1) (S.1 h 0 2) (Nat.le_refl _)
              refine AW.aload_n X dX12_razor_47 (i := 0) rfl rfl ?_
              refine AW.iload_n X dX12_razor_48 (i := 1) rfl rfl ?_
              refine AW.iload X dX12_razor_49 rfl ?_
              refine AW.callV X dX12_razor_51 lX12_152 cfX12 (c_X12_lies W hT (by omega) (by omega)) om0 rfl rfl rfl rfl ⟨rfl, rfl⟩ (pR_k ?_)
              refine AW.istore X dX12_razor_54 rfl ?_
              refine AW.iload X dX12_razor_56 rfl ?_
              refine AW.iload_n X dX12_razor_58 (i := 2) rfl rfl ?_
              refine AW.callS X dX12_razor_59 lX12_155 (c_X12_has (by omega) (by omega)) rfl rfl rfl rfl ⟨rfl, rfl⟩ (pR_k ?_)
              refine AW.if_neB X (tgt := 68) dX12_razor_62 (by decide) (fun h62 => ?_) (fun h62 => ?_)
              · have gl : lies (S.1 h) c ix = true := by rw [← lyA_bit hc]; exact h62
                refine AW.aload_n X dX12_razor_68 (i := 0) rfl rfl ?_
                refine AW.iload_n X dX12_razor_69 (i := 1) rfl rfl ?_
                refine AW.iload X dX12_razor_70 rfl ?_
                refine AW.iload_n X dX12_razor_72 (i := 2) rfl rfl ?_
                refine AW.iconstN X 1 dX12_razor_73 rfl ?_
                refine AW.iaddN X dX12_razor_74 ?_
                refine AW.ishr X dX12_razor_75 ?_
                rw [shr_n (by omega) (by omega)]
                refine AW.iload_n X dX12_razor_76 (i := 2) rfl rfl ?_
                refine AW.iconstN X 1 dX12_razor_77 rfl ?_
                refine AW.iaddN X dX12_razor_78 ?_
                refine AW.ishl X dX12_razor_79 ?_
                have by2 := shr_lt (k := c + 1) by_
                rw [shl_n _ by2 _ (by omega)]
                have by3 := cut_lt _ by_ (c + 1) (by omega)
                refine AW.callV X dX12_razor_80 lX12_231 cfX12 (c_X12_sum W hT (by omega) (by omega)) om0 rfl rfl rfl rfl ⟨rfl, rfl⟩ (pR_k ?_)
                rw [sum_cut hIh hc]
                refine AW.istore X dX12_razor_83 rfl ?_
                refine AW.iload X dX12_razor_85 rfl ?_
                refine AW.if_lt X (tgt := 100) dX12_razor_87 (by decide) (fun h87 => ?_) (fun h87 => ?_)
                · refine AW.iload X dX12_razor_100 rfl ?_
                  refine AW.istore X dX12_razor_102 rfl ?_
                  refine AW.iload X dX12_razor_104 rfl ?_
                  refine AW.istore X dX12_razor_106 rfl ?_
                  refine AW.iincN X (c := (ix + 1)) dX12_razor_108 rfl (inc_1 _) rfl ?_
                  refine AW.goto X (tgt := 40) dX12_razor_111 (by decide) ?_
                  refine AW.cgw (ih40 (ix + 1) (by omega) (by omega)) ⟨rfl, rfl, rfl, rfl, ?_, ?_, rfl, trivial⟩
                  · simp [rz, oI, oL, under1_n, under1_s, *]
                  · simp [rz, oI, oL, under1_n, under1_s, *]
                · exact absurd (by decide) h87
              · have gl : lies (S.1 h) c ix = false := by rw [← lyA_bit hc]; exact h62
                refine AW.goto X (tgt := 108) dX12_razor_65 (by decide) ?_
                refine AW.iincN X (c := (ix + 1)) dX12_razor_108 rfl (inc_1 _) rfl ?_
                refine AW.goto X (tgt := 40) dX12_razor_111 (by decide) ?_
                refine AW.cgw (ih40 (ix + 1) (by omega) (by omega)) ⟨rfl, rfl, rfl, rfl, ?_, ?_, rfl, trivial⟩
                · simp [rz, oI, oL, under1_n, under1_s, *]
                · simp [rz, oI, oL, under1_n, under1_s, *]
          · show AW κ (δ, b, NM, 9, shM, False, Qc, 0, 0) NM 0 0 40 [some (.ref (b + 0)), some (.int (nI h)), some (.int (nI c)), some (.int (nI w)), some (.int (nI p9)), some (.int (nI q9)), some (.int (nI ix)), none, none] [] μ
            have bz := rz_le hIh hz
            refine AW.iload X dX12_razor_40 rfl ?_
            refine AW.bipushN X 12 dX12_razor_42 rfl ?_
            refine AW.icmp_geN X (tgt := 114) dX12_razor_44 (by decide) (by omega) (by omega) (fun h44 => ?_) (fun h44 => ?_)
            · obtain rfl : 12 = ix := by omega
              have n44 := Nat.not_lt_of_le h44
              refine AW.iload X dX12_razor_114 rfl ?_
              refine AW.iconst X (v := -1) dX12_razor_116 rfl ?_
              refine AW.icmp_eq X (tgt := 124) dX12_razor_117 (by decide) (fun h117 => ?_) (fun h117 => ?_)
              · exact absurd h117 (nI_m1 (by omega))
              · refine AW.iload_n X dX12_razor_120 (i := 3) rfl rfl ?_
                refine AW.if_neN X (tgt := 129) dX12_razor_121 (by decide) (by omega) (fun h121 => ?_) (fun h121 => ?_)
                · have g121 : ¬ nI w = nI 0 := by rw [n2_eq (by omega) (by decide)]; omega
                  have k121 : nI w = nI 1 := by rw [n2_eq (by omega) (by decide)]; omega
                  refine AW.iload X dX12_razor_129 rfl ?_
                  refine AW.iret X hQ dX12_razor_131 ⟨_, rfl, ?_⟩
                  refine rm_val ?_ hR
                  simp [S_razor, oI, n01, *]
                · have g121 : nI w = nI 0 := by rw [n2_eq (by omega) (by decide)]; omega
                  refine AW.iload X dX12_razor_124 rfl ?_
                  refine AW.goto X (tgt := 131) dX12_razor_126 (by decide) ?_
                  refine AW.iret X hQ dX12_razor_131 ⟨_, rfl, ?_⟩
                  refine rm_val ?_ hR
                  simp [S_razor, oI, n01, *]
            · have n44 := Nat.not_le_of_lt h44
              have by_ := lyN hIh ix
              have bd := dsum_le hIh ix (c + 1) (S.1 h 0 2) (Nat.le_refl _)
              refine AW.aload_n X dX12_razor_47 (i := 0) rfl rfl ?_
              refine AW.iload_n X dX12_razor_48 (i := 1) rfl rfl ?_
              refine AW.iload X dX12_razor_49 rfl ?_
              refine AW.callV X dX12_razor_51 lX12_152 cfX12 (c_X12_lies W hT (by omega) (by omega)) om0 rfl rfl rfl rfl ⟨rfl, rfl⟩ (pR_k ?_)
              refine AW.istore X dX12_razor_54 rfl ?_
              refine AW.iload X dX12_razor_56 rfl ?_
              refine AW.iload_n X dX12_razor_58 (i := 2) rfl rfl ?_
              refine AW.callS X dX12_razor_59 lX12_155 (c_X12_has (by omega) (by omega)) rfl rfl rfl rfl ⟨rfl, rfl⟩ (pR_k ?_)
              refine AW.if_neB X (tgt := 68) dX12_razor_62 (by decide) (fun h62 => ?_) (fun h62 => ?_)
              · have gl : lies (S.1 h) c ix = true := by rw [← lyA_bit hc]; exact h62
                refine AW.aload_n X dX12_razor_68 (i := 0) rfl rfl ?_
                refine AW.iload_n X dX12_razor_69 (i := 1) rfl rfl ?_
                refine AW.iload X dX12_razor_70 rfl ?_
                refine AW.iload_n X dX12_razor_72 (i := 2) rfl rfl ?_
                refine AW.iconstN X 1 dX12_razor_73 rfl ?_
                refine AW.iaddN X dX12_razor_74 ?_
                refine AW.ishr X dX12_razor_75 ?_
                rw [shr_n (by omega) (by omega)]
                refine AW.iload_n X dX12_razor_76 (i := 2) rfl rfl ?_
                refine AW.iconstN X 1 dX12_razor_77 rfl ?_
                refine AW.iaddN X dX12_razor_78 ?_
                refine AW.ishl X dX12_razor_79 ?_
                have by2 := shr_lt (k := c + 1) by_
                rw [shl_n _ by2 _ (by omega)]
                have by3 := cut_lt _ by_ (c + 1) (by omega)
                refine AW.callV X dX12_razor_80 lX12_231 cfX12 (c_X12_sum W hT (by omega) (by omega)) om0 rfl rfl rfl rfl ⟨rfl, rfl⟩ (pR_k ?_)
                rw [sum_cut hIh hc]
                refine AW.istore X dX12_razor_83 rfl ?_
                refine AW.iload X dX12_razor_85 rfl ?_
                refine AW.if_ltN X (tgt := 100) dX12_razor_87 (by decide) (by omega) (fun h87 => ?_) (fun h87 => ?_)
                · exact h87.elim
                · refine AW.iload X dX12_razor_90 rfl ?_
                  refine AW.iload X dX12_razor_92 rfl ?_
                  refine AW.icmp_ltN X (tgt := 100) dX12_razor_94 (by decide) (by omega) (by omega) (fun h94 => ?_) (fun h94 => ?_)
                  · have n94 := Nat.not_le_of_lt h94
                    refine AW.iload X dX12_razor_100 rfl ?_
                    refine AW.istore X dX12_razor_102 rfl ?_
                    refine AW.iload X dX12_razor_104 rfl ?_
                    refine AW.istore X dX12_razor_106 rfl ?_
                    refine AW.iincN X (c := (ix + 1)) dX12_razor_108 rfl (inc_1 _) rfl ?_
                    refine AW.goto X (tgt := 40) dX12_razor_111 (by decide) ?_
                    refine AW.cgw (ih40 (ix + 1) (by omega) (by omega)) ⟨rfl, rfl, rfl, rfl, ?_, ?_, rfl, trivial⟩
                    · simp [rz, oI, oL, under1_n, under1_s, *]
                    · simp [rz, oI, oL, under1_n, under1_s, *]
                  · have n94 := Nat.not_lt_of_le h94
                    refine AW.goto X (tgt := 108) dX12_razor_97 (by decide) ?_
                    refine AW.iincN X (c := (ix + 1)) dX12_razor_108 rfl (inc_1 _) rfl ?_
                    refine AW.goto X (tgt := 40) dX12_razor_111 (by decide) ?_
                    refine AW.cgw (ih40 (ix + 1) (by omega) (by omega)) ⟨rfl, rfl, rfl, rfl, ?_, ?_, rfl, trivial⟩
                    · simp [rz, oI, oL, under1_n, under1_s, *]
                    · simp [rz, oI, oL, under1_n, under1_s, *]
              · have gl : lies (S.1 h) c ix = false := by rw [← lyA_bit hc]; exact h62
                refine AW.goto X (tgt := 108) dX12_razor_65 (by decide) ?_
                refine AW.iincN X (c := (ix + 1)) dX12_razor_108 rfl (inc_1 _) rfl ?_
                refine AW.goto X (tgt := 40) dX12_razor_111 (by decide) ?_
                refine AW.cgw (ih40 (ix + 1) (by omega) (by omega)) ⟨rfl, rfl, rfl, rfl, ?_, ?_, rfl, trivial⟩
                · simp [rz, oI, oL, under1_n, under1_s, *]
                · simp [rz, oI, oL, under1_n, under1_s, *]
      refine AW.cgw (L40 _ 0 (Nat.lt_succ_self _) (by omega)) ⟨rfl, rfl, rfl, rfl, ?_, ?_, rfl, trivial⟩
      · simp [rz, oI, oL]
      · simp [rz, oI, oL]
    · have gz : ¬ z = nI 0 ∧ ¬ z = nI 1 := ⟨by rintro rfl; exact absurd h21 (by decide), by rintro rfl; exact absurd h21 (by decide)⟩
      refine AW.aload_n X dX12_razor_24 (i := 0) rfl rfl ?_
      refine AW.bipush X (v := -5) dX12_razor_25 rfl ?_
      refine AW.callV X dX12_razor_27 lX12_237 cfX12 (c_X12_no10 (k := 5) hR (by decide) (by decide)) om0 rfl rfl rfl rfl ⟨rfl, rfl⟩ (pI_k fun r μ1 hr => ?_)
      refine AW.iret X hQ dX12_razor_30 ⟨_, rfl, ?_⟩
      refine rm_of ?_ hr
      simp [S_razor, oI, n01, *]
  · refine AW.aload_n X dX12_razor_9 (i := 0) rfl rfl ?_
    refine AW.iconst X (v := -1) dX12_razor_10 rfl ?_
    refine AW.callV X dX12_razor_11 lX12_237 cfX12 (c_X12_no10 (k := 1) hR (by decide) (by decide)) om0 rfl rfl rfl rfl ⟨rfl, rfl⟩ (pI_k fun r μ1 hr => ?_)
    refine AW.iret X hQ dX12_razor_14 ⟨_, rfl, ?_⟩
    refine rm_of ?_ hr
    rcases Bool.and_eq_false_iff.mp h6 with hA | hA <;> simp [S_razor, hA]
set_option maxRecDepth 100000 in
set_option maxHeartbeats 4000000 in
theorem c_X12_firstWet {l : Launch} {δ : Dl} {b : Nat} {μ : Mm} {S : St} (hR : RMX μ S) {x : Int32} {y : Int32} : MCM l δ b yX12_firstWet cX12_firstWet 4 (some .int) 5 [.ref (b + 0), .int x, .int y] μ (pI fun r μ' => r = (S_firstWet S x y).1 ∧ RMX μ' (S_firstWet S x y).2) := by
  have hT := rm_t hR
  have W := rm_w hR
  have bn := ti_n hT.1
  refine MC.intro ([some (.ref (b + 0)), some (.int x), some (.int y), none]) (by decide) rfl rfl fun κ Qc hl hQ X => ?_
  subst hl
  refine AW.aload_n X dX12_firstWet_0 (i := 0) rfl rfl ?_
  refine AW.iload_n X dX12_firstWet_1 (i := 1) rfl rfl ?_
  refine AW.iload_n X dX12_firstWet_2 (i := 2) rfl rfl ?_
  refine AW.callV X dX12_firstWet_3 lX12_149 cfX12 (c_X12_isCoat W hT) om0 rfl rfl rfl rfl ⟨rfl, rfl⟩ (pR_k ?_)
  refine AW.if_neB X (tgt := 15) dX12_firstWet_6 (by decide) (fun h6 => ?_) (fun h6 => ?_)
  · obtain ⟨hA, hB⟩ := Bool.and_eq_true_iff.mp h6
    obtain ⟨h, hh, eh⟩ := inr_of (x := x) (m := (S.1 6 0 0)) (by omega) hA
    subst eh
    have ch := cl_n (show h < 2147483648 by omega)
    have hIh := tm_hi hT hh
    have bnh := hi_n hIh
    have bah := hi_a hIh
    rw [ch] at hB
    obtain ⟨c, hc, ec⟩ := inr_of (x := y) (m := (S.1 h 0 2)) (by omega) hB
    subst ec
    have cc := cl_n (show c < 2147483648 by omega)
    refine AW.iconstN X 0 dX12_firstWet_15 rfl ?_
    refine AW.istore_n X dX12_firstWet_16 (i := 3) rfl rfl ?_
    have L17 : ∀ (m17 ix : Nat), 100 - ix < m17 → ix ≤ 100 → (fstUp (fw (S.1 6 1) (S.1 h) c) 100 0 = fstUp (fw (S.1 6 1) (S.1 h) c) (100 - ix) ix) → AW κ (δ, b, NM, 4, shM, False, Qc, 0, 0) NM 0 0 17 [some (.ref (b + 0)), some (.int (nI h)), some (.int (nI c)), some (.int (nI ix))] [] μ := by
      intro m17
      induction m17 with
      | zero => intro ix hm; exact absurd hm (Nat.not_lt_zero _)
      | succ m17 ih17 =>
        intro ix hm17 hi17 hr9
        refine AW.iload_n X dX12_firstWet_17 (i := 3) rfl rfl ?_
        refine AW.bipushN X 100 dX12_firstWet_18 rfl ?_
        refine AW.icmp_geN X (tgt := 44) dX12_firstWet_20 (by decide) (by omega) (by omega) (fun h20 => ?_) (fun h20 => ?_)
        · obtain rfl : 100 = ix := by omega
          rw [fstUp_0 (by omega)] at hr9
          have n20 := Nat.not_lt_of_le h20
          refine AW.iconst X (v := -1) dX12_firstWet_44 rfl ?_
          refine AW.iret X hQ dX12_firstWet_45 ⟨_, rfl, ?_⟩
          refine rm_val ?_ hR
          simp [S_firstWet, oI, *]
        · have n20 := Nat.not_le_of_lt h20
          refine AW.aload_n X dX12_firstWet_23 (i := 0) rfl rfl ?_
          refine AW.iload_n X dX12_firstWet_24 (i := 1) rfl rfl ?_
          refine AW.iload_n X dX12_firstWet_25 (i := 3) rfl rfl ?_
          refine AW.callV X dX12_firstWet_26 lX12_249 cfX12 (c_X12_seenAll W hT (by omega) (by omega)) om0 rfl rfl rfl rfl ⟨rfl, rfl⟩ (pR_k ?_)
          have bs := seenTo_lt (hd := S.1 6 1) hIh ix 12
          refine AW.iload_n X dX12_firstWet_29 (i := 2) rfl rfl ?_
          refine AW.callS X dX12_firstWet_30 lX12_155 (c_X12_has (by omega) (by omega)) rfl rfl rfl rfl ⟨rfl, rfl⟩ (pR_k ?_)
          refine AW.if_eqB X (tgt := 38) dX12_firstWet_33 (by decide) (fun h33 => ?_) (fun h33 => ?_)
          · rw [fstUp_f (by omega) (show fw (S.1 6 1) (S.1 h) c ix = false from h33)] at hr9
            refine AW.iincN X (c := (ix + 1)) dX12_firstWet_38 rfl (inc_1 _) rfl ?_
            refine AW.goto X (tgt := 17) dX12_firstWet_41 (by decide) ?_
            refine AW.cgw (ih17 (ix + 1) (by omega) (by omega) hr9) ⟨rfl, rfl, rfl, rfl, trivial⟩
          · rw [fstUp_t (by omega) (show fw (S.1 6 1) (S.1 h) c ix = true from h33)] at hr9
            refine AW.iload_n X dX12_firstWet_36 (i := 3) rfl rfl ?_
            refine AW.iret X hQ dX12_firstWet_37 ⟨_, rfl, ?_⟩
            refine rm_val ?_ hR
            simp [S_firstWet, oI, *]
    refine AW.cgw (L17 _ 0 (Nat.lt_succ_self _) (by omega) rfl) ⟨rfl, rfl, rfl, rfl, trivial⟩
  · refine AW.aload_n X dX12_firstWet_9 (i := 0) rfl rfl ?_
    refine AW.iconst X (v := -1) dX12_firstWet_10 rfl ?_
    refine AW.callV X dX12_firstWet_11 lX12_237 cfX12 (c_X12_no10 (k := 1) hR (by decide) (by decide)) om0 rfl rfl rfl rfl ⟨rfl, rfl⟩ (pI_k fun r μ1 hr => ?_)
    refine AW.iret X hQ dX12_firstWet_14 ⟨_, rfl, ?_⟩
    refine rm_of ?_ hr
    rcases Bool.and_eq_false_iff.mp h6 with hA | hA <;> simp [S_firstWet, hA]
set_option maxRecDepth 100000 in
set_option maxHeartbeats 4000000 in
theorem c_X12_shown {l : Launch} {δ : Dl} {b : Nat} {μ : Mm} {S : St} (hR : RMX μ S) {u : Int32} {v : Int32} : MCM l δ b yX12_shown cX12_shown 6 (some .int) 5 [.ref (b + 0), .int u, .int v] μ (pI fun r μ' => r = (S_shown S u v).1 ∧ RMX μ' (S_shown S u v).2) := by
  have hT := rm_t hR
  have W := rm_w hR
  have bn := ti_n hT.1
  refine MC.intro ([some (.ref (b + 0)), some (.int u), some (.int v), none, none, none]) (by decide) rfl rfl fun κ Qc hl hQ X => ?_
  subst hl
  refine AW.aload_n X dX12_shown_0 (i := 0) rfl rfl ?_
  refine AW.iload_n X dX12_shown_1 (i := 1) rfl rfl ?_
  refine AW.callV X dX12_shown_2 lX12_94 cfX12 (c_X12_isHouse W hT) om0 rfl rfl rfl rfl ⟨rfl, rfl⟩ (pR_k ?_)
  refine AW.if_neB X (tgt := 14) dX12_shown_5 (by decide) (fun h5 => ?_) (fun h5 => ?_)
  · obtain ⟨h, hh, eh⟩ := inr_of (x := u) (m := (S.1 6 0 0)) (by omega) h5
    subst eh
    have ch := cl_n (show h < 2147483648 by omega)
    have hIh := tm_hi hT hh
    have bnh := hi_n hIh
    have bah := hi_a hIh
    refine AW.iload_n X dX12_shown_14 (i := 2) rfl rfl ?_
    refine AW.callS X dX12_shown_15 lX12_240 (c_X12_isWeather) rfl rfl rfl rfl ⟨rfl, rfl⟩ (pR_k ?_)
    refine AW.if_neB X (tgt := 28) dX12_shown_18 (by decide) (fun h18 => ?_) (fun h18 => ?_)
    · obtain ⟨x, hx, ex⟩ := inr_of (x := v) (m := 100) (by omega) h18
      subst ex
      have cx := cl_n (show x < 2147483648 by omega)
      refine AW.iconstN X 0 dX12_shown_28 rfl ?_
      refine AW.istore_n X dX12_shown_29 (i := 3) rfl rfl ?_
      refine AW.iconstN X 0 dX12_shown_30 rfl ?_
      refine AW.istore X dX12_shown_31 rfl ?_
      have L33 : ∀ (m33 ix : Nat), 12 - ix < m33 → ix ≤ 12 → AW κ (δ, b, NM, 6, shM, False, Qc, 0, 0) NM 0 0 33 [some (.ref (b + 0)), some (.int (nI h)), some (.int (nI x)), some (.int (nI (shnTo (S.1 6 1) (S.1 h) x ix))), some (.int (nI ix)), none] [] μ := by
        intro m33
        induction m33 with
        | zero => intro ix hm; exact absurd hm (Nat.not_lt_zero _)
        | succ m33 ih33 =>
          intro ix hm33 hi33 
          refine AW.iload X dX12_shown_33 rfl ?_
          refine AW.bipushN X 12 dX12_shown_35 rfl ?_
          refine AW.icmp_geN X (tgt := 75) dX12_shown_37 (by decide) (by omega) (by omega) (fun h37 => ?_) (fun h37 => ?_)
          · obtain rfl : 12 = ix := by omega
            have n37 := Nat.not_lt_of_le h37
            refine AW.iload_n X dX12_shown_75 (i := 3) rfl rfl ?_
            refine AW.aload_n X dX12_shown_76 (i := 0) rfl rfl ?_
            refine AW.iload_n X dX12_shown_77 (i := 1) rfl rfl ?_
            refine AW.iconstN X 0 dX12_shown_78 rfl ?_
            refine AW.callV X dX12_shown_79 lX12_249 cfX12 (c_X12_seenAll W hT (by omega) (by omega)) om0 rfl rfl rfl rfl ⟨rfl, rfl⟩ (pR_k ?_)
            refine AW.andNotN X dX12_shown_82 dX12_shown_83 dX12_shown_84 ?_
            refine AW.iret X hQ dX12_shown_85 ⟨_, rfl, ?_⟩
            refine rm_val ?_ hR
            simp [S_shown, *]
          · have n37 := Nat.not_le_of_lt h37
            refine AW.aload_n X dX12_shown_40 (i := 0) rfl rfl ?_
            refine AW.iload_n X dX12_shown_41 (i := 1) rfl rfl ?_
            refine AW.aload_n X dX12_shown_42 (i := 0) rfl rfl ?_
            refine AW.iload_n X dX12_shown_43 (i := 1) rfl rfl ?_
            refine AW.iload X dX12_shown_44 rfl ?_
            refine AW.iload_n X dX12_shown_46 (i := 2) rfl rfl ?_
            refine AW.callV X dX12_shown_47 lX12_246 cfX12 (c_X12_behind W hT (by omega) (by omega) (by omega)) om0 rfl rfl rfl rfl ⟨rfl, rfl⟩ (pR_k ?_)
            refine AW.iconstN X 0 dX12_shown_50 rfl ?_
            refine AW.callV X dX12_shown_51 lX12_220 cfX12 (c_X12_seenIn W hT hh (behindH_lt hIh ix x) (by decide)) om0 rfl rfl rfl rfl ⟨rfl, rfl⟩ (pR_k ?_)
            rcases hx51 : seenIn (S.1 6 1) (S.1 h) (behindH (S.1 h) ix x) 0 (S.1 h 0 2) with _ | c
            · show AW κ _ _ _ _ _ _ (.int (-1) :: _) _
              refine AW.istore X dX12_shown_54 rfl ?_
              refine AW.iload X dX12_shown_56 rfl ?_
              refine AW.iconst X (v := -1) dX12_shown_58 rfl ?_
              refine AW.icmp_eq X (tgt := 69) dX12_shown_59 (by decide) (fun h59 => ?_) (fun h59 => ?_)
              · refine AW.iincN X (c := (ix + 1)) dX12_shown_69 rfl (inc_1 _) rfl ?_
                refine AW.goto X (tgt := 33) dX12_shown_72 (by decide) ?_
                refine AW.cgw (ih33 (ix + 1) (by omega) (by omega)) ⟨rfl, rfl, rfl, ?_, rfl, trivial⟩
                · simp [shnTo, wet_00, hx51, oBit]
              · exact absurd rfl h59
            · show AW κ _ _ _ _ _ _ (.int (nI c) :: _) _
              have b4 := seenIn_lt hx51
              refine AW.istore X dX12_shown_54 rfl ?_
              refine AW.iload X dX12_shown_56 rfl ?_
              refine AW.iconst X (v := -1) dX12_shown_58 rfl ?_
              refine AW.icmp_eq X (tgt := 69) dX12_shown_59 (by decide) (fun h59 => ?_) (fun h59 => ?_)
              · exact absurd h59 (nI_m1 (by omega))
              · refine AW.iload_n X dX12_shown_62 (i := 3) rfl rfl ?_
                refine AW.iconstN X 1 dX12_shown_63 rfl ?_
                refine AW.iload X dX12_shown_64 rfl ?_
                refine AW.shl1 X dX12_shown_66 (by omega) ?_
                refine AW.iorN X dX12_shown_67 ?_
                refine AW.istore_n X dX12_shown_68 (i := 3) rfl rfl ?_
                refine AW.iincN X (c := (ix + 1)) dX12_shown_69 rfl (inc_1 _) rfl ?_
                refine AW.goto X (tgt := 33) dX12_shown_72 (by decide) ?_
                refine AW.cgw (ih33 (ix + 1) (by omega) (by omega)) ⟨rfl, rfl, rfl, ?_, rfl, trivial⟩
                · simp [shnTo, wet_00, hx51, oBit]
      refine AW.cgw (L33 _ 0 (Nat.lt_succ_self _) (by omega)) ⟨rfl, rfl, rfl, ?_, rfl, trivial⟩
      · simp [shnTo]
    · refine AW.aload_n X dX12_shown_21 (i := 0) rfl rfl ?_
      refine AW.bipush X (v := -6) dX12_shown_22 rfl ?_
      refine AW.callV X dX12_shown_24 lX12_98 cfX12 (c_X12_no (k := 6) hR (by decide) (by decide)) om0 rfl rfl rfl rfl ⟨rfl, rfl⟩ (pI_k fun r μ1 hr => ?_)
      refine AW.iret X hQ dX12_shown_27 ⟨_, rfl, ?_⟩
      refine rm_of ?_ hr
      simp [S_shown, *]
  · refine AW.aload_n X dX12_shown_8 (i := 0) rfl rfl ?_
    refine AW.iconst X (v := -1) dX12_shown_9 rfl ?_
    refine AW.callV X dX12_shown_10 lX12_98 cfX12 (c_X12_no (k := 1) hR (by decide) (by decide)) om0 rfl rfl rfl rfl ⟨rfl, rfl⟩ (pI_k fun r μ1 hr => ?_)
    refine AW.iret X hQ dX12_shown_13 ⟨_, rfl, ?_⟩
    refine rm_of ?_ hr
    simp [S_shown, *]
set_option maxRecDepth 100000 in
set_option maxHeartbeats 4000000 in
theorem c_X12_gap {l : Launch} {δ : Dl} {b : Nat} {μ : Mm} {S : St} (hR : RMX μ S) {x : Int32} {y : Int32} : MCM l δ b yX12_gap cX12_gap 6 (some .int) 4 [.ref (b + 0), .int x, .int y] μ (pI fun r μ' => r = (S_gap S x y).1 ∧ RMX μ' (S_gap S x y).2) := by
  have hT := rm_t hR
  have W := rm_w hR
  have bn := ti_n hT.1
  refine MC.intro ([some (.ref (b + 0)), some (.int x), some (.int y), none, none, none]) (by decide) rfl rfl fun κ Qc hl hQ X => ?_
  subst hl
  refine AW.aload_n X dX12_gap_0 (i := 0) rfl rfl ?_
  refine AW.iload_n X dX12_gap_1 (i := 1) rfl rfl ?_
  refine AW.callV X dX12_gap_2 lX12_94 cfX12 (c_X12_isHouse W hT) om0 rfl rfl rfl rfl ⟨rfl, rfl⟩ (pR_k ?_)
  refine AW.if_eqB X (tgt := 18) dX12_gap_5 (by decide) (fun h5 => ?_) (fun h5 => ?_)
  · refine AW.aload_n X dX12_gap_18 (i := 0) rfl rfl ?_
    refine AW.iconst X (v := -1) dX12_gap_19 rfl ?_
    refine AW.callV X dX12_gap_20 lX12_237 cfX12 (c_X12_no10 (k := 1) hR (by decide) (by decide)) om0 rfl rfl rfl rfl ⟨rfl, rfl⟩ (pI_k fun r μ1 hr => ?_)
    refine AW.iret X hQ dX12_gap_23 ⟨_, rfl, ?_⟩
    refine rm_of ?_ hr
    simp [S_gap, oI, *]
  · obtain ⟨h, hh, eh⟩ := inr_of (x := x) (m := (S.1 6 0 0)) (by omega) h5
    subst eh
    have ch := cl_n (show h < 2147483648 by omega)
    have hIh := tm_hi hT hh
    have bnh := hi_n hIh
    have bah := hi_a hIh
    refine AW.iload_n X dX12_gap_8 (i := 2) rfl rfl ?_
    refine AW.iconstN X 0 dX12_gap_9 rfl ?_
    refine AW.bipushN X 7 dX12_gap_10 rfl ?_
    refine AW.callS X dX12_gap_12 lX12_90 (c_within (m := 8) (dn_s 7).symm (by decide)) rfl rfl rfl rfl ⟨rfl, rfl⟩ (pR_k ?_)
    refine AW.if_neB X (tgt := 24) dX12_gap_15 (by decide) (fun h15 => ?_) (fun h15 => ?_)
    · obtain ⟨t, ht, et⟩ := inr_of (x := y) (m := 8) (by omega) h15
      subst et
      have ct := cl_n (show t < 2147483648 by omega)
      refine AW.iconst X (v := -1) dX12_gap_24 rfl ?_
      refine AW.istore_n X dX12_gap_25 (i := 3) rfl rfl ?_
      refine AW.iconstN X 0 dX12_gap_26 rfl ?_
      refine AW.istore X dX12_gap_27 rfl ?_
      have L29 : ∀ (m29 ix : Nat), 12 - ix < m29 → ix ≤ 12 → AW κ (δ, b, NM, 6, shM, False, Qc, 0, 0) NM 0 0 29 [some (.ref (b + 0)), some (.int (nI h)), some (.int (nI t)), some (.int (oI (Option.map Prod.fst (gpv (S.1 6 1) (S.1 h) t ix)))), some (.int (nI ix)), none] [] μ := by
        intro m29
        induction m29 with
        | zero => intro ix hm; exact absurd hm (Nat.not_lt_zero _)
        | succ m29 ih29 =>
          intro ix hm29 hi29 
          rcases hz : (gpv (S.1 6 1) (S.1 h) t ix) with _ | ⟨p9, q9⟩
          · show AW κ (δ, b, NM, 6, shM, False, Qc, 0, 0) NM 0 0 29 [some (.ref (b + 0)), some (.int (nI h)), some (.int (nI t)), some (.int (-1)), some (.int (nI ix)), none] [] μ
            refine AW.iload X dX12_gap_29 rfl ?_
            refine AW.bipushN X 12 dX12_gap_31 rfl ?_
            refine AW.icmp_geN X (tgt := 101) dX12_gap_33 (by decide) (by omega) (by omega) (fun h33 => ?_) (fun h33 => ?_)
            · obtain rfl : 12 = ix := by omega
              have n33 := Nat.not_lt_of_le h33
              refine AW.iload_n X dX12_gap_101 (i := 3) rfl rfl ?_
              refine AW.iret X hQ dX12_gap_102 ⟨_, rfl, ?_⟩
              refine rm_val ?_ hR
              simp [S_gap, oI, *]
            · have n33 := Nat.not_le_of_lt h33
              refine AW.aload_n X dX12_gap_36 (i := 0) rfl rfl ?_
              refine AW.iload_n X dX12_gap_37 (i := 1) rfl rfl ?_
              refine AW.iload X dX12_gap_38 rfl ?_
              refine AW.iconstN X 0 dX12_gap_40 rfl ?_
              refine AW.callV X dX12_gap_41 lX12_243 cfX12 (c_X12_seenAt W hT hh (by omega) (by omega)) om0 rfl rfl rfl rfl ⟨rfl, rfl⟩ (pR_k ?_)
              rcases hx41 : seenAt (S.1 6 1) (S.1 h) ix 0 with _ | c
              · show AW κ _ _ _ _ _ _ (.int (-1) :: _) _
                refine AW.istore X dX12_gap_44 rfl ?_
                refine AW.iload X dX12_gap_46 rfl ?_
                refine AW.iconst X (v := -1) dX12_gap_48 rfl ?_
                refine AW.icmp_eq X (tgt := 71) dX12_gap_49 (by decide) (fun h49 => ?_) (fun h49 => ?_)
                · refine AW.iload_n X dX12_gap_71 (i := 3) rfl rfl ?_
                  refine AW.iconst X (v := -1) dX12_gap_72 rfl ?_
                  refine AW.icmp_eq X (tgt := 92) dX12_gap_73 (by decide) (fun h73 => ?_) (fun h73 => ?_)
                  · refine AW.iload X dX12_gap_92 rfl ?_
                    refine AW.istore_n X dX12_gap_94 (i := 3) rfl rfl ?_
                    refine AW.iincN X (c := (ix + 1)) dX12_gap_95 rfl (inc_1 _) rfl ?_
                    refine AW.goto X (tgt := 29) dX12_gap_98 (by decide) ?_
                    refine AW.cgw (ih29 (ix + 1) (by omega) (by omega)) ⟨rfl, rfl, rfl, ?_, rfl, trivial⟩
                    · simp [gpv, seenBy, oI, under1_n, under1_s, *]
                  · exact absurd rfl h73
                · exact absurd rfl h49
              · show AW κ _ _ _ _ _ _ (.int (nI c) :: _) _
                have b4 := seenIn_lt hx41
                have b5 := hi_ten hIh b4
                refine AW.istore X dX12_gap_44 rfl ?_
                refine AW.iload X dX12_gap_46 rfl ?_
                refine AW.iconst X (v := -1) dX12_gap_48 rfl ?_
                refine AW.icmp_eq X (tgt := 71) dX12_gap_49 (by decide) (fun h49 => ?_) (fun h49 => ?_)
                · exact absurd h49 (nI_m1 (by omega))
                · refine AW.aload_n X dX12_gap_52 (i := 0) rfl rfl ?_
                  refine AW.getR X dX12_gap_53 fX12_29 rfl om0 (wm_at W 6 rfl) ?_
                  refine AW.bipushN X 8 dX12_gap_56 rfl ?_
                  refine AW.iload_n X dX12_gap_58 (i := 1) rfl rfl ?_
                  refine AW.imulN X dX12_gap_59 ?_
                  refine AW.iload X dX12_gap_60 rfl ?_
                  refine AW.iaddN X dX12_gap_62 ?_
                  refine AW.iaload X dX12_gap_63 (am_at 6 rfl) (n2_in (by omega) (by decide)) (v := (nI (S.1 h 1 c))) (by rw [n2_clamp (by omega)]; exact tm_1 hT (by omega) (by omega)) ?_
                  refine AW.iload_n X dX12_gap_64 (i := 2) rfl rfl ?_
                  refine AW.icmp_neN X (tgt := 71) dX12_gap_65 (by decide) (by omega) (by omega) (fun h65 => ?_) (fun h65 => ?_)
                  · refine AW.iload_n X dX12_gap_71 (i := 3) rfl rfl ?_
                    refine AW.iconst X (v := -1) dX12_gap_72 rfl ?_
                    refine AW.icmp_eq X (tgt := 92) dX12_gap_73 (by decide) (fun h73 => ?_) (fun h73 => ?_)
                    · refine AW.iload X dX12_gap_92 rfl ?_
                      refine AW.istore_n X dX12_gap_94 (i := 3) rfl rfl ?_
                      refine AW.iincN X (c := (ix + 1)) dX12_gap_95 rfl (inc_1 _) rfl ?_
                      refine AW.goto X (tgt := 29) dX12_gap_98 (by decide) ?_
                      refine AW.cgw (ih29 (ix + 1) (by omega) (by omega)) ⟨rfl, rfl, rfl, ?_, rfl, trivial⟩
                      · simp [gpv, seenBy, oI, under1_n, under1_s, *]
                    · exact absurd rfl h73
                  · refine AW.goto X (tgt := 95) dX12_gap_68 (by decide) ?_
                    refine AW.iincN X (c := (ix + 1)) dX12_gap_95 rfl (inc_1 _) rfl ?_
                    refine AW.goto X (tgt := 29) dX12_gap_98 (by decide) ?_
                    refine AW.cgw (ih29 (ix + 1) (by omega) (by omega)) ⟨rfl, rfl, rfl, ?_, rfl, trivial⟩
                    · simp [gpv, seenBy, oI, under1_n, under1_s, *]
          · show AW κ (δ, b, NM, 6, shM, False, Qc, 0, 0) NM 0 0 29 [some (.ref (b + 0)), some (.int (nI h)), some (.int (nI t)), some (.int (nI p9)), some (.int (nI ix)), none] [] μ
            have bz := gpv_le hIh hz
            obtain rfl := gpv_dep hz
            refine AW.iload X dX12_gap_29 rfl ?_
            refine AW.bipushN X 12 dX12_gap_31 rfl ?_
            refine AW.icmp_geN X (tgt := 101) dX12_gap_33 (by decide) (by omega) (by omega) (fun h33 => ?_) (fun h33 => ?_)
            · obtain rfl : 12 = ix := by omega
              have n33 := Nat.not_lt_of_le h33
              refine AW.iload_n X dX12_gap_101 (i := 3) rfl rfl ?_
              refine AW.iret X hQ dX12_gap_102 ⟨_, rfl, ?_⟩
              refine rm_val ?_ hR
              simp [S_gap, oI, *]
            · have n33 := Nat.not_le_of_lt h33
              refine AW.aload_n X dX12_gap_36 (i := 0) rfl rfl ?_
              refine AW.iload_n X dX12_gap_37 (i := 1) rfl rfl ?_
              refine AW.iload X dX12_gap_38 rfl ?_
              refine AW.iconstN X 0 dX12_gap_40 rfl ?_
              refine AW.callV X dX12_gap_41 lX12_243 cfX12 (c_X12_seenAt W hT hh (by omega) (by omega)) om0 rfl rfl rfl rfl ⟨rfl, rfl⟩ (pR_k ?_)
              rcases hx41 : seenAt (S.1 6 1) (S.1 h) ix 0 with _ | c
              · show AW κ _ _ _ _ _ _ (.int (-1) :: _) _
                refine AW.istore X dX12_gap_44 rfl ?_
                refine AW.iload X dX12_gap_46 rfl ?_
                refine AW.iconst X (v := -1) dX12_gap_48 rfl ?_
                refine AW.icmp_eq X (tgt := 71) dX12_gap_49 (by decide) (fun h49 => ?_) (fun h49 => ?_)
                · refine AW.iload_n X dX12_gap_71 (i := 3) rfl rfl ?_
                  refine AW.iconst X (v := -1) dX12_gap_72 rfl ?_
                  refine AW.icmp_eq X (tgt := 92) dX12_gap_73 (by decide) (fun h73 => ?_) (fun h73 => ?_)
                  · exact absurd h73 (nI_m1 (by omega))
                  · have bd := depth_le hIh ix
                    refine AW.aload_n X dX12_gap_76 (i := 0) rfl rfl ?_
                    refine AW.iload_n X dX12_gap_77 (i := 1) rfl rfl ?_
                    refine AW.iload X dX12_gap_78 rfl ?_
                    refine AW.callV X dX12_gap_80 lX12_234 cfX12 (c_X12_deepOf W hT (by omega) (by omega)) om0 rfl rfl rfl rfl ⟨rfl, rfl⟩ (pR_k ?_)
                    refine AW.aload_n X dX12_gap_83 (i := 0) rfl rfl ?_
                    refine AW.iload_n X dX12_gap_84 (i := 1) rfl rfl ?_
                    refine AW.iload_n X dX12_gap_85 (i := 3) rfl rfl ?_
                    refine AW.callV X dX12_gap_86 lX12_234 cfX12 (c_X12_deepOf W hT (by omega) (by omega)) om0 rfl rfl rfl rfl ⟨rfl, rfl⟩ (pR_k ?_)
                    refine AW.icmp_geN X (tgt := 95) dX12_gap_89 (by decide) (by omega) (by omega) (fun h89 => ?_) (fun h89 => ?_)
                    · have n89 := Nat.not_lt_of_le h89
                      refine AW.iincN X (c := (ix + 1)) dX12_gap_95 rfl (inc_1 _) rfl ?_
                      refine AW.goto X (tgt := 29) dX12_gap_98 (by decide) ?_
                      refine AW.cgw (ih29 (ix + 1) (by omega) (by omega)) ⟨rfl, rfl, rfl, ?_, rfl, trivial⟩
                      · simp [gpv, seenBy, oI, under1_n, under1_s, *]
                    · have n89 := Nat.not_le_of_lt h89
                      refine AW.iload X dX12_gap_92 rfl ?_
                      refine AW.istore_n X dX12_gap_94 (i := 3) rfl rfl ?_
                      refine AW.iincN X (c := (ix + 1)) dX12_gap_95 rfl (inc_1 _) rfl ?_
                      refine AW.goto X (tgt := 29) dX12_gap_98 (by decide) ?_
                      refine AW.cgw (ih29 (ix + 1) (by omega) (by omega)) ⟨rfl, rfl, rfl, ?_, rfl, trivial⟩
                      · simp [gpv, seenBy, oI, under1_n, under1_s, *]
                · exact absurd rfl h49
              · show AW κ _ _ _ _ _ _ (.int (nI c) :: _) _
                have b4 := seenIn_lt hx41
                have b5 := hi_ten hIh b4
                refine AW.istore X dX12_gap_44 rfl ?_
                refine AW.iload X dX12_gap_46 rfl ?_
                refine AW.iconst X (v := -1) dX12_gap_48 rfl ?_
                refine AW.icmp_eq X (tgt := 71) dX12_gap_49 (by decide) (fun h49 => ?_) (fun h49 => ?_)
                · exact absurd h49 (nI_m1 (by omega))
                · refine AW.aload_n X dX12_gap_52 (i := 0) rfl rfl ?_
                  refine AW.getR X dX12_gap_53 fX12_29 rfl om0 (wm_at W 6 rfl) ?_
                  refine AW.bipushN X 8 dX12_gap_56 rfl ?_
                  refine AW.iload_n X dX12_gap_58 (i := 1) rfl rfl ?_
                  refine AW.imulN X dX12_gap_59 ?_
                  refine AW.iload X dX12_gap_60 rfl ?_
                  refine AW.iaddN X dX12_gap_62 ?_
                  refine AW.iaload X dX12_gap_63 (am_at 6 rfl) (n2_in (by omega) (by decide)) (v := (nI (S.1 h 1 c))) (by rw [n2_clamp (by omega)]; exact tm_1 hT (by omega) (by omega)) ?_
                  refine AW.iload_n X dX12_gap_64 (i := 2) rfl rfl ?_
                  refine AW.icmp_neN X (tgt := 71) dX12_gap_65 (by decide) (by omega) (by omega) (fun h65 => ?_) (fun h65 => ?_)
                  · refine AW.iload_n X dX12_gap_71 (i := 3) rfl rfl ?_
                    refine AW.iconst X (v := -1) dX12_gap_72 rfl ?_
                    refine AW.icmp_eq X (tgt := 92) dX12_gap_73 (by decide) (fun h73 => ?_) (fun h73 => ?_)
                    · exact absurd h73 (nI_m1 (by omega))
                    · have bd := depth_le hIh ix
                      refine AW.aload_n X dX12_gap_76 (i := 0) rfl rfl ?_
                      refine AW.iload_n X dX12_gap_77 (i := 1) rfl rfl ?_
                      refine AW.iload X dX12_gap_78 rfl ?_
                      refine AW.callV X dX12_gap_80 lX12_234 cfX12 (c_X12_deepOf W hT (by omega) (by omega)) om0 rfl rfl rfl rfl ⟨rfl, rfl⟩ (pR_k ?_)
                      refine AW.aload_n X dX12_gap_83 (i := 0) rfl rfl ?_
                      refine AW.iload_n X dX12_gap_84 (i := 1) rfl rfl ?_
                      refine AW.iload_n X dX12_gap_85 (i := 3) rfl rfl ?_
                      refine AW.callV X dX12_gap_86 lX12_234 cfX12 (c_X12_deepOf W hT (by omega) (by omega)) om0 rfl rfl rfl rfl ⟨rfl, rfl⟩ (pR_k ?_)
                      refine AW.icmp_geN X (tgt := 95) dX12_gap_89 (by decide) (by omega) (by omega) (fun h89 => ?_) (fun h89 => ?_)
                      · have n89 := Nat.not_lt_of_le h89
                        refine AW.iincN X (c := (ix + 1)) dX12_gap_95 rfl (inc_1 _) rfl ?_
                        refine AW.goto X (tgt := 29) dX12_gap_98 (by decide) ?_
                        refine AW.cgw (ih29 (ix + 1) (by omega) (by omega)) ⟨rfl, rfl, rfl, ?_, rfl, trivial⟩
                        · simp [gpv, seenBy, oI, under1_n, under1_s, *]
                      · have n89 := Nat.not_le_of_lt h89
                        refine AW.iload X dX12_gap_92 rfl ?_
                        refine AW.istore_n X dX12_gap_94 (i := 3) rfl rfl ?_
                        refine AW.iincN X (c := (ix + 1)) dX12_gap_95 rfl (inc_1 _) rfl ?_
                        refine AW.goto X (tgt := 29) dX12_gap_98 (by decide) ?_
                        refine AW.cgw (ih29 (ix + 1) (by omega) (by omega)) ⟨rfl, rfl, rfl, ?_, rfl, trivial⟩
                        · simp [gpv, seenBy, oI, under1_n, under1_s, *]
                  · refine AW.goto X (tgt := 95) dX12_gap_68 (by decide) ?_
                    refine AW.iincN X (c := (ix + 1)) dX12_gap_95 rfl (inc_1 _) rfl ?_
                    refine AW.goto X (tgt := 29) dX12_gap_98 (by decide) ?_
                    refine AW.cgw (ih29 (ix + 1) (by omega) (by omega)) ⟨rfl, rfl, rfl, ?_, rfl, trivial⟩
                    · simp [gpv, seenBy, oI, under1_n, under1_s, *]
      refine AW.cgw (L29 _ 0 (Nat.lt_succ_self _) (by omega)) ⟨rfl, rfl, rfl, ?_, rfl, trivial⟩
      · simp [gpv, oI]
    · refine AW.aload_n X dX12_gap_18 (i := 0) rfl rfl ?_
      refine AW.iconst X (v := -1) dX12_gap_19 rfl ?_
      refine AW.callV X dX12_gap_20 lX12_237 cfX12 (c_X12_no10 (k := 1) hR (by decide) (by decide)) om0 rfl rfl rfl rfl ⟨rfl, rfl⟩ (pI_k fun r μ1 hr => ?_)
      refine AW.iret X hQ dX12_gap_23 ⟨_, rfl, ?_⟩
      refine rm_of ?_ hr
      simp [S_gap, oI, *]
set_option maxRecDepth 100000 in
set_option maxHeartbeats 4000000 in
theorem c_X12_price {l : Launch} {δ : Dl} {b : Nat} {μ : Mm} {S : St} (hR : RMX μ S) {x : Int32} {y : Int32} : MCM l δ b yX12_price cX12_price 7 (some .int) 5 [.ref (b + 0), .int x, .int y] μ (pI fun r μ' => r = (S_price S x y).1 ∧ RMX μ' (S_price S x y).2) := by
  have hT := rm_t hR
  have W := rm_w hR
  have bn := ti_n hT.1
  refine MC.intro ([some (.ref (b + 0)), some (.int x), some (.int y), none, none, none, none]) (by decide) rfl rfl fun κ Qc hl hQ X => ?_
  subst hl
  refine AW.aload_n X dX12_price_0 (i := 0) rfl rfl ?_
  refine AW.iload_n X dX12_price_1 (i := 1) rfl rfl ?_
  refine AW.callV X dX12_price_2 lX12_94 cfX12 (c_X12_isHouse W hT) om0 rfl rfl rfl rfl ⟨rfl, rfl⟩ (pR_k ?_)
  refine AW.if_neB X (tgt := 14) dX12_price_5 (by decide) (fun h5 => ?_) (fun h5 => ?_)
  · obtain ⟨h, hh, eh⟩ := inr_of (x := x) (m := (S.1 6 0 0)) (by omega) h5
    subst eh
    have ch := cl_n (show h < 2147483648 by omega)
    have hIh := tm_hi hT hh
    have bnh := hi_n hIh
    have bah := hi_a hIh
    refine AW.iload_n X dX12_price_14 (i := 2) rfl rfl ?_
    refine AW.callS X dX12_price_15 lX12_240 (c_X12_isWeather) rfl rfl rfl rfl ⟨rfl, rfl⟩ (pR_k ?_)
    refine AW.if_neB X (tgt := 28) dX12_price_18 (by decide) (fun h18 => ?_) (fun h18 => ?_)
    · obtain ⟨d, hd, ed⟩ := inr_of (x := y) (m := 100) (by omega) h18
      subst ed
      have cd := cl_n (show d < 2147483648 by omega)
      refine AW.aload_n X dX12_price_28 (i := 0) rfl rfl ?_
      refine AW.iload_n X dX12_price_29 (i := 1) rfl rfl ?_
      refine AW.iload_n X dX12_price_30 (i := 2) rfl rfl ?_
      refine AW.callV X dX12_price_31 lX12_249 cfX12 (c_X12_seenAll W hT (by omega) (by omega)) om0 rfl rfl rfl rfl ⟨rfl, rfl⟩ (pR_k ?_)
      refine AW.istore_n X dX12_price_34 (i := 3) rfl rfl ?_
      have bs := seenTo_lt (hd := S.1 6 1) hIh d 12
      refine AW.iconstN X 0 dX12_price_35 rfl ?_
      refine AW.istore X dX12_price_36 rfl ?_
      refine AW.iconstN X 0 dX12_price_38 rfl ?_
      refine AW.istore X dX12_price_39 rfl ?_
      have L41 : ∀ (m41 ix : Nat), S.1 h 0 2 - ix < m41 → ix ≤ S.1 h 0 2 → AW κ (δ, b, NM, 7, shM, False, Qc, 0, 0) NM 0 0 41 [some (.ref (b + 0)), some (.int (nI h)), some (.int (nI d)), some (.int (nI (seenTo (S.1 6 1) (S.1 h) d 12))), some (.int (nI (colsS (S.1 h) (seenTo (S.1 6 1) (S.1 h) d 12) ix))), some (.int (nI ix)), none] [] μ := by
        intro m41
        induction m41 with
        | zero => intro ix hm; exact absurd hm (Nat.not_lt_zero _)
        | succ m41 ih41 =>
          intro ix hm41 hi41 
          refine AW.iload X dX12_price_41 rfl ?_
          refine AW.aload_n X dX12_price_43 (i := 0) rfl rfl ?_
          refine AW.getR X dX12_price_44 fX12_26 rfl om0 (wm_at W 5 rfl) ?_
          refine AW.iload_n X dX12_price_47 (i := 1) rfl rfl ?_
          refine AW.iaload X dX12_price_48 (am_at 5 rfl) (n2_in (by omega) (by decide)) (v := (nI (S.1 h 0 2))) (by rw [n2_clamp (by omega)]; exact tm_n hT (by omega)) ?_
          refine AW.icmp_geN X (tgt := 86) dX12_price_49 (by decide) (by omega) (by omega) (fun h49 => ?_) (fun h49 => ?_)
          · obtain rfl : S.1 h 0 2 = ix := by omega
            have bc := colsS_lt hIh (seenTo (S.1 6 1) (S.1 h) d 12) (S.1 h 0 2) (Nat.le_refl _)
            have n49 := Nat.not_lt_of_le h49
            refine AW.iconstN X 0 dX12_price_86 rfl ?_
            refine AW.istore X dX12_price_87 rfl ?_
            refine AW.iconstN X 0 dX12_price_89 rfl ?_
            refine AW.istore X dX12_price_90 rfl ?_
            have L92 : ∀ (m92 jx : Nat), 6 - jx < m92 → jx ≤ 6 → AW κ (δ, b, NM, 7, shM, False, Qc, 0, 0) NM 0 0 92 [some (.ref (b + 0)), some (.int (nI h)), some (.int (nI d)), some (.int (nI (seenTo (S.1 6 1) (S.1 h) d 12))), some (.int (nI (colsS (S.1 h) (seenTo (S.1 6 1) (S.1 h) d 12) (S.1 h 0 2)))), some (.int (nI (costS (S.1 6 2) (colsS (S.1 h) (seenTo (S.1 6 1) (S.1 h) d 12) (S.1 h 0 2)) jx))), some (.int (nI jx))] [] μ := by
              intro m92
              induction m92 with
              | zero => intro jx hm; exact absurd hm (Nat.not_lt_zero _)
              | succ m92 ih92 =>
                intro jx hm92 hi92 
                refine AW.iload X dX12_price_92 rfl ?_
                refine AW.bipushN X 6 dX12_price_94 rfl ?_
                refine AW.icmp_geN X (tgt := 127) dX12_price_96 (by decide) (by omega) (by omega) (fun h96 => ?_) (fun h96 => ?_)
                · obtain rfl : 6 = jx := by omega
                  have n96 := Nat.not_lt_of_le h96
                  refine AW.iload X dX12_price_127 rfl ?_
                  refine AW.iret X hQ dX12_price_129 ⟨_, rfl, ?_⟩
                  refine rm_val ?_ hR
                  simp [S_price, *]
                · have n96 := Nat.not_le_of_lt h96
                  refine AW.iload X dX12_price_99 rfl ?_
                  refine AW.iload X dX12_price_101 rfl ?_
                  refine AW.callS X dX12_price_103 lX12_155 (c_X12_has (by omega) (by omega)) rfl rfl rfl rfl ⟨rfl, rfl⟩ (pR_k ?_)
                  refine AW.if_eqB X (tgt := 121) dX12_price_106 (by decide) (fun h106 => ?_) (fun h106 => ?_)
                  · refine AW.iincN X (c := (jx + 1)) dX12_price_121 rfl (inc_1 _) rfl ?_
                    refine AW.goto X (tgt := 92) dX12_price_124 (by decide) ?_
                    refine AW.cgw (ih92 (jx + 1) (by omega) (by omega)) ⟨rfl, rfl, rfl, rfl, rfl, ?_, rfl, trivial⟩
                    · simp [costS, *]
                  · refine AW.iload X dX12_price_109 rfl ?_
                    refine AW.aload_n X dX12_price_111 (i := 0) rfl rfl ?_
                    refine AW.getR X dX12_price_112 fX12_50 rfl om0 (wm_at W 13 rfl) ?_
                    refine AW.iload X dX12_price_115 rfl ?_
                    refine AW.iaload X dX12_price_117 (am_at 13 rfl) (n2_in (by omega) (by decide)) (v := (nI (S.1 6 2 jx))) (by rw [n2_clamp (by omega)]; exact tm_cos hT (by omega)) ?_
                    refine AW.iaddN X dX12_price_118 ?_
                    refine AW.istore X dX12_price_119 rfl ?_
                    refine AW.iincN X (c := (jx + 1)) dX12_price_121 rfl (inc_1 _) rfl ?_
                    refine AW.goto X (tgt := 92) dX12_price_124 (by decide) ?_
                    refine AW.cgw (ih92 (jx + 1) (by omega) (by omega)) ⟨rfl, rfl, rfl, rfl, rfl, ?_, rfl, trivial⟩
                    · simp [costS, *]
            refine AW.cgw (L92 _ 0 (Nat.lt_succ_self _) (by omega)) ⟨rfl, rfl, rfl, rfl, rfl, ?_, rfl, trivial⟩
            · simp [costS, *]
          · have n49 := Nat.not_le_of_lt h49
            refine AW.iload_n X dX12_price_52 (i := 3) rfl rfl ?_
            refine AW.iload X dX12_price_53 rfl ?_
            refine AW.callS X dX12_price_55 lX12_155 (c_X12_has (by omega) (by omega)) rfl rfl rfl rfl ⟨rfl, rfl⟩ (pR_k ?_)
            refine AW.if_eqB X (tgt := 80) dX12_price_58 (by decide) (fun h58 => ?_) (fun h58 => ?_)
            · refine AW.iincN X (c := (ix + 1)) dX12_price_80 rfl (inc_1 _) rfl ?_
              refine AW.goto X (tgt := 41) dX12_price_83 (by decide) ?_
              refine AW.cgw (ih41 (ix + 1) (by omega) (by omega)) ⟨rfl, rfl, rfl, rfl, ?_, rfl, trivial⟩
              · simp [colsS, *]
            · have bq := hi_col hIh (c := ix) (by omega)
              refine AW.iload X dX12_price_61 rfl ?_
              refine AW.iconstN X 1 dX12_price_63 rfl ?_
              refine AW.aload_n X dX12_price_64 (i := 0) rfl rfl ?_
              refine AW.getR X dX12_price_65 fX12_32 rfl om0 (wm_at W 7 rfl) ?_
              refine AW.bipushN X 8 dX12_price_68 rfl ?_
              refine AW.iload_n X dX12_price_70 (i := 1) rfl rfl ?_
              refine AW.imulN X dX12_price_71 ?_
              refine AW.iload X dX12_price_72 rfl ?_
              refine AW.iaddN X dX12_price_74 ?_
              refine AW.iaload X dX12_price_75 (am_at 7 rfl) (n2_in (by omega) (by decide)) (v := (nI (S.1 h 2 ix))) (by rw [n2_clamp (by omega)]; exact tm_2 hT (by omega) (by omega)) ?_
              refine AW.shl1 X dX12_price_76 (by omega) ?_
              refine AW.iorN X dX12_price_77 ?_
              refine AW.istore X dX12_price_78 rfl ?_
              refine AW.iincN X (c := (ix + 1)) dX12_price_80 rfl (inc_1 _) rfl ?_
              refine AW.goto X (tgt := 41) dX12_price_83 (by decide) ?_
              refine AW.cgw (ih41 (ix + 1) (by omega) (by omega)) ⟨rfl, rfl, rfl, rfl, ?_, rfl, trivial⟩
              · simp [colsS, *]
      refine AW.cgw (L41 _ 0 (Nat.lt_succ_self _) (by omega)) ⟨rfl, rfl, rfl, rfl, ?_, rfl, trivial⟩
      · simp [colsS, *]
    · refine AW.aload_n X dX12_price_21 (i := 0) rfl rfl ?_
      refine AW.bipush X (v := -6) dX12_price_22 rfl ?_
      refine AW.callV X dX12_price_24 lX12_98 cfX12 (c_X12_no (k := 6) hR (by decide) (by decide)) om0 rfl rfl rfl rfl ⟨rfl, rfl⟩ (pI_k fun r μ1 hr => ?_)
      refine AW.iret X hQ dX12_price_27 ⟨_, rfl, ?_⟩
      refine rm_of ?_ hr
      simp [S_price, *]
  · refine AW.aload_n X dX12_price_8 (i := 0) rfl rfl ?_
    refine AW.iconst X (v := -1) dX12_price_9 rfl ?_
    refine AW.callV X dX12_price_10 lX12_98 cfX12 (c_X12_no (k := 1) hR (by decide) (by decide)) om0 rfl rfl rfl rfl ⟨rfl, rfl⟩ (pI_k fun r μ1 hr => ?_)
    refine AW.iret X hQ dX12_price_13 ⟨_, rfl, ?_⟩
    refine rm_of ?_ hr
    simp [S_price, *]
set_option maxRecDepth 100000 in
set_option maxHeartbeats 4000000 in
theorem c_X12_houseOf {l : Launch} {δ : Dl} {b : Nat} {μ : Mm} {S : St} (hR : RMX μ S) {x : Int32} {y : Int32} : MCM l δ b yX12_houseOf cX12_houseOf 3 (some .int) 5 [.ref (b + 0), .int x, .int y] μ (pI fun r μ' => r = (S_houseOf S x y).1 ∧ RMX μ' (S_houseOf S x y).2) := by
  have hT := rm_t hR
  have W := rm_w hR
  have bn := ti_n hT.1
  refine MC.intro ([some (.ref (b + 0)), some (.int x), some (.int y)]) (by decide) rfl rfl fun κ Qc hl hQ X => ?_
  subst hl
  refine AW.aload_n X dX12_houseOf_0 (i := 0) rfl rfl ?_
  refine AW.iload_n X dX12_houseOf_1 (i := 1) rfl rfl ?_
  refine AW.callV X dX12_houseOf_2 lX12_94 cfX12 (c_X12_isHouse W hT) om0 rfl rfl rfl rfl ⟨rfl, rfl⟩ (pR_k ?_)
  refine AW.if_eqB X (tgt := 17) dX12_houseOf_5 (by decide) (fun h5 => ?_) (fun h5 => ?_)
  · refine AW.aload_n X dX12_houseOf_17 (i := 0) rfl rfl ?_
    refine AW.bipush X (v := -5) dX12_houseOf_18 rfl ?_
    refine AW.callV X dX12_houseOf_20 lX12_98 cfX12 (c_X12_no (k := 5) hR (by decide) (by decide)) om0 rfl rfl rfl rfl ⟨rfl, rfl⟩ (pI_k fun r μ1 hr => ?_)
    refine AW.iret X hQ dX12_houseOf_23 ⟨_, rfl, ?_⟩
    refine rm_of ?_ hr
    simp [S_houseOf, hOf, cls, *]
  · obtain ⟨h, hh, eh⟩ := inr_of (x := x) (m := (S.1 6 0 0)) (by omega) h5
    subst eh
    have ch := cl_n (show h < 2147483648 by omega)
    have hIh := tm_hi hT hh
    have bnh := hi_n hIh
    have bah := hi_a hIh
    refine AW.iload_n X dX12_houseOf_8 (i := 2) rfl rfl ?_
    refine AW.iconstN X 0 dX12_houseOf_9 rfl ?_
    refine AW.iconstN X 4 dX12_houseOf_10 rfl ?_
    refine AW.callS X dX12_houseOf_11 lX12_90 (c_within (m := 5) (dn_s 4).symm (by decide)) rfl rfl rfl rfl ⟨rfl, rfl⟩ (pR_k ?_)
    refine AW.if_neB X (tgt := 24) dX12_houseOf_14 (by decide) (fun h14 => ?_) (fun h14 => ?_)
    · obtain ⟨w, hw, ew⟩ := inr_of (x := y) (m := 5) (by omega) h14
      subst ew
      have cw := cl_n (show w < 2147483648 by omega)
      refine AW.iload_n X dX12_houseOf_24 (i := 2) rfl rfl ?_
      have hsw : w = 0 ∨ w = 1 ∨ w = 2 ∨ w = 3 ∨ w = 4 := by omega
      rcases hsw with rfl | rfl | rfl | rfl | rfl
      · refine AW.tableIn X (tgt := 56) dX12_houseOf_25 (by decide) (by decide) rfl (by decide) ?_
        refine AW.aload_n X dX12_houseOf_56 (i := 0) rfl rfl ?_
        refine AW.getR X dX12_houseOf_57 fX12_20 rfl om0 (wm_at W 3 rfl) ?_
        refine AW.iload_n X dX12_houseOf_60 (i := 1) rfl rfl ?_
        refine AW.iaload X dX12_houseOf_61 (am_at 3 rfl) (n2_in (by omega) (by decide)) (v := (nI (S.1 h 0 0))) (by rw [n2_clamp (by omega)]; exact tm_k hT (by omega)) ?_
        refine AW.iret X hQ dX12_houseOf_62 ⟨_, rfl, ?_⟩
        refine rm_val ?_ hR
        simp [S_houseOf, hOf, cls, *]
      · refine AW.tableIn X (tgt := 63) dX12_houseOf_25 (by decide) (by decide) rfl (by decide) ?_
        refine AW.aload_n X dX12_houseOf_63 (i := 0) rfl rfl ?_
        refine AW.getR X dX12_houseOf_64 fX12_23 rfl om0 (wm_at W 4 rfl) ?_
        refine AW.iload_n X dX12_houseOf_67 (i := 1) rfl rfl ?_
        refine AW.iaload X dX12_houseOf_68 (am_at 4 rfl) (n2_in (by omega) (by decide)) (v := (nI (S.1 h 0 1))) (by rw [n2_clamp (by omega)]; exact tm_a hT (by omega)) ?_
        refine AW.iret X hQ dX12_houseOf_69 ⟨_, rfl, ?_⟩
        refine rm_val ?_ hR
        simp [S_houseOf, hOf, cls, *]
      · refine AW.tableIn X (tgt := 70) dX12_houseOf_25 (by decide) (by decide) rfl (by decide) ?_
        refine AW.aload_n X dX12_houseOf_70 (i := 0) rfl rfl ?_
        refine AW.getR X dX12_houseOf_71 fX12_26 rfl om0 (wm_at W 5 rfl) ?_
        refine AW.iload_n X dX12_houseOf_74 (i := 1) rfl rfl ?_
        refine AW.iaload X dX12_houseOf_75 (am_at 5 rfl) (n2_in (by omega) (by decide)) (v := (nI (S.1 h 0 2))) (by rw [n2_clamp (by omega)]; exact tm_n hT (by omega)) ?_
        refine AW.iret X hQ dX12_houseOf_76 ⟨_, rfl, ?_⟩
        refine rm_val ?_ hR
        simp [S_houseOf, hOf, cls, *]
      · refine AW.tableIn X (tgt := 77) dX12_houseOf_25 (by decide) (by decide) rfl (by decide) ?_
        refine AW.aload_n X dX12_houseOf_77 (i := 0) rfl rfl ?_
        refine AW.iload_n X dX12_houseOf_78 (i := 1) rfl rfl ?_
        refine AW.callV X dX12_houseOf_79 lX12_115 cfX12 (c_X12_skinOf W hT (by omega)) om0 rfl rfl rfl rfl ⟨rfl, rfl⟩ (pR_k ?_)
        refine AW.iret X hQ dX12_houseOf_82 ⟨_, rfl, ?_⟩
        refine rm_val ?_ hR
        simp [S_houseOf, hOf, cls, *]
      · refine AW.tableOut X (tgt := 83) dX12_houseOf_25 (by decide) (by decide) ?_
        refine AW.aload_n X dX12_houseOf_83 (i := 0) rfl rfl ?_
        refine AW.iload_n X dX12_houseOf_84 (i := 1) rfl rfl ?_
        refine AW.callV X dX12_houseOf_85 lX12_136 cfX12 (c_X12_lived W hT (by omega)) om0 rfl rfl rfl rfl ⟨rfl, rfl⟩ (pR_k ?_)
        refine AW.iret X hQ dX12_houseOf_88 ⟨_, rfl, ?_⟩
        refine rm_val ?_ hR
        simp [S_houseOf, hOf, cls, *]
    · refine AW.aload_n X dX12_houseOf_17 (i := 0) rfl rfl ?_
      refine AW.bipush X (v := -5) dX12_houseOf_18 rfl ?_
      refine AW.callV X dX12_houseOf_20 lX12_98 cfX12 (c_X12_no (k := 5) hR (by decide) (by decide)) om0 rfl rfl rfl rfl ⟨rfl, rfl⟩ (pI_k fun r μ1 hr => ?_)
      refine AW.iret X hQ dX12_houseOf_23 ⟨_, rfl, ?_⟩
      refine rm_of ?_ hr
      simp [S_houseOf, hOf, cls, *]
