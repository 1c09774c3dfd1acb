theorem nI_xr (a c : Nat) : nI a ^^^ nI c = nI (a ^^^ c) := by
  apply Int32.toBitVec_inj.mp
  show BitVec.ofNat 32 a ^^^ BitVec.ofNat 32 c = BitVec.ofNat 32 (a ^^^ c)
  apply BitVec.eq_of_getLsbD_eq
  intro i hi
  simp [BitVec.getLsbD_xor, BitVec.getLsbD_ofNat, Nat.testBit_xor, hi]
theorem top_f : ∀ a, a < 256 → 0 < a → a.testBit (top a) = true ∧ a ^^^ 2 ^ top a < 2 ^ top a ∧ a ^^^ 2 ^ top a < a ∧ top a < 8 ∧ ∀ c, c < 8 → top a < c → a.testBit c = false := by decide +kernel
theorem behind_0 (V : Vt) (x : Nat) : ∀ i, behind V i 0 x = 0
  | 0 => rfl
  | i + 1 => by rw [behind, Nat.zero_testBit]; exact behind_0 V x i
theorem behind_top {V : Vt} {bits x : Nat} (hb : bits < 256) (h0 : 0 < bits) : ∀ i, i ≤ 8 → top bits < i → behind V i bits x = if x < V 3 (top bits) then bits else behind V (top bits) (bits ^^^ 2 ^ top bits) (x - V 3 (top bits))
  | 0, _, h => absurd h (Nat.not_lt_zero _)
  | c + 1, h8, h => by
    have f := top_f bits hb h0
    by_cases z : c = top bits
    · subst z
      rw [behind, if_pos f.1]
    · rw [behind, if_neg (by rw [f.2.2.2.2 c (by omega) (by omega)]; decide)]
      exact behind_top hb h0 c (by omega) (by omega)
def sumBt (V : Vt) (bits : Nat) : Nat → Nat
  | 0 => 0
  | c + 1 => if bits.testBit c = true then sumBt V bits c + V 3 c else sumBt V bits c
theorem sumBt_le {V : Vt} (hV : HI V) (bits : Nat) : ∀ i, i ≤ V 0 2 → sumBt V bits i ≤ 9 * i
  | 0, _ => by simp [sumBt]
  | i + 1, h => by
    have ih := sumBt_le hV bits i (by omega)
    have := (hi_th hV (c := i) (by omega)).2
    unfold sumBt
    split <;> omega
theorem sumBt_d {V : Vt} {k lo bits : Nat} (hb : ∀ c, c < V 0 2 → bits.testBit c = (decide (lo ≤ c) && lies V c k)) : ∀ i, i ≤ V 0 2 → sumBt V bits i = dsum V k lo i
  | 0, _ => rfl
  | i + 1, h => by
    rw [sumBt, dsum, sumBt_d hb i (by omega), hb i (by omega)]
    by_cases a : lo ≤ i <;> cases q : lies V i k <;> simp [a]
theorem lyA_bit {V : Vt} {k c : Nat} (hc : c < V 0 2) : (lyA V k).testBit c = lies V c k := by
  rw [lyA, ly_bit, decide_eq_true hc, Bool.true_and]
theorem sumBt_depth (V : Vt) (k : Nat) : sumBt V (lyA V k) (V 0 2) = depth V k := sumBt_d (lo := 0) (fun c hc => by rw [lyA_bit hc]; simp) _ (Nat.le_refl _)
set_option maxRecDepth 100000 in
set_option maxHeartbeats 4000000 in
theorem c_X12_hard {l : Launch} {δ : Dl} {b : Nat} {μ : Mm} (W : WM μ.2.2) {τ : Tt} (hT : TMX μ τ) {h : Nat} (hh : h < τ 6 0 0) {k x : Nat} (hk : k < 12) (hx : x < 100) : MCM l δ b yX12_hard cX12_hard 6 (some .int) 2 [.ref (b + 0), .int (nI h), .int (nI k), .int (nI x)] μ (pI fun r μ' => r = nI (hard (τ h) k x) ∧ μ' = μ) := by
  have bn := ti_n hT.1
  have hI := tm_hi hT hh
  have bc := hi_n hI
  have ba := hi_a hI
  have bk := hi_k hI
  refine MC.intro ([some (.ref (b + 0)), some (.int (nI h)), some (.int (nI k)), some (.int (nI x)), none, none]) (by decide) rfl rfl fun κ Qc hl hQ X => ?_
  subst hl
  refine AW.aload_n X dX12_hard_0 (i := 0) rfl rfl ?_
  refine AW.getR X dX12_hard_1 fX12_20 rfl om0 (wm_at W 3 rfl) ?_
  refine AW.iload_n X dX12_hard_4 (i := 1) rfl rfl ?_
  refine AW.iaload X dX12_hard_5 (am_at 3 rfl) (n2_in (by omega) (by decide)) (v := (nI (τ h 0 0))) (by rw [n2_clamp (by omega)]; exact tm_k hT (by omega)) ?_
  refine AW.istore X dX12_hard_6 rfl ?_
  refine AW.iload X dX12_hard_8 rfl ?_
  refine AW.iconstN X 2 dX12_hard_10 rfl ?_
  refine AW.icmp_eqN X (tgt := 20) dX12_hard_11 (by decide) (by omega) (by omega) (fun h11 => ?_) (fun h11 => ?_)
  · refine AW.iconstN X 0 dX12_hard_20 rfl ?_
    refine AW.iload_n X dX12_hard_21 (i := 3) rfl rfl ?_
    refine AW.aload_n X dX12_hard_22 (i := 0) rfl rfl ?_
    refine AW.getR X dX12_hard_23 fX12_23 rfl om0 (wm_at W 4 rfl) ?_
    refine AW.iload_n X dX12_hard_26 (i := 1) rfl rfl ?_
    refine AW.iaload X dX12_hard_27 (am_at 4 rfl) (n2_in (by omega) (by decide)) (v := (nI (τ h 0 1))) (by rw [n2_clamp (by omega)]; exact tm_a hT (by omega)) ?_
    refine AW.isub X dX12_hard_28 ?_
    refine AW.maxD X dX12_hard_29 (by omega) (by omega) lX12_max ⟨rfl, rfl, rfl, rfl⟩ ?_
    refine AW.goto X (tgt := 36) dX12_hard_32 (by decide) ?_
    refine AW.istore X dX12_hard_36 rfl ?_
    refine AW.iload X dX12_hard_38 rfl ?_
    refine AW.iconstN X 5 dX12_hard_40 rfl ?_
    refine AW.icmp_neN X (tgt := 53) dX12_hard_41 (by decide) (by omega) (by omega) (fun h41 => ?_) (fun h41 => ?_)
    · refine AW.iload X dX12_hard_53 rfl ?_
      refine AW.bipushN X 6 dX12_hard_55 rfl ?_
      refine AW.icmp_neN X (tgt := 67) dX12_hard_57 (by decide) (by omega) (by omega) (fun h57 => ?_) (fun h57 => ?_)
      · refine AW.iload X dX12_hard_67 rfl ?_
        refine AW.iret X hQ dX12_hard_69 ⟨_, rfl, ?_⟩
        refine ⟨congrArg nI ?_, rfl⟩
        unfold hard
        dsimp only
        repeat' split
        all_goals omega
      · refine AW.iconstN X 2 dX12_hard_60 rfl ?_
        refine AW.iload X dX12_hard_61 rfl ?_
        refine AW.imulN X dX12_hard_63 ?_
        refine AW.goto X (tgt := 69) dX12_hard_64 (by decide) ?_
        refine AW.iret X hQ dX12_hard_69 ⟨_, rfl, ?_⟩
        refine ⟨congrArg nI ?_, rfl⟩
        unfold hard
        dsimp only
        repeat' split
        all_goals omega
    · refine AW.iload_n X dX12_hard_44 (i := 2) rfl rfl ?_
      refine AW.iconstN X 4 dX12_hard_45 rfl ?_
      refine AW.icmp_geN X (tgt := 53) dX12_hard_46 (by decide) (by omega) (by omega) (fun h46 => ?_) (fun h46 => ?_)
      · have n46 := Nat.not_lt_of_le h46
        refine AW.iload X dX12_hard_53 rfl ?_
        refine AW.bipushN X 6 dX12_hard_55 rfl ?_
        refine AW.icmp_neN X (tgt := 67) dX12_hard_57 (by decide) (by omega) (by omega) (fun h57 => ?_) (fun h57 => ?_)
        · refine AW.iload X dX12_hard_67 rfl ?_
          refine AW.iret X hQ dX12_hard_69 ⟨_, rfl, ?_⟩
          refine ⟨congrArg nI ?_, rfl⟩
          unfold hard
          dsimp only
          repeat' split
          all_goals omega
        · refine AW.iconstN X 2 dX12_hard_60 rfl ?_
          refine AW.iload X dX12_hard_61 rfl ?_
          refine AW.imulN X dX12_hard_63 ?_
          refine AW.goto X (tgt := 69) dX12_hard_64 (by decide) ?_
          refine AW.iret X hQ dX12_hard_69 ⟨_, rfl, ?_⟩
          refine ⟨congrArg nI ?_, rfl⟩
          unfold hard
          dsimp only
          repeat' split
          all_goals omega
      · have n46 := Nat.not_le_of_lt h46
        refine AW.iconstN X 0 dX12_hard_49 rfl ?_
        refine AW.goto X (tgt := 69) dX12_hard_50 (by decide) ?_
        refine AW.iret X hQ dX12_hard_69 ⟨_, rfl, ?_⟩
        refine ⟨congrArg nI ?_, rfl⟩
        unfold hard
        dsimp only
        repeat' split
        all_goals omega
  · refine AW.iload X dX12_hard_14 rfl ?_
    refine AW.iconstN X 4 dX12_hard_16 rfl ?_
    refine AW.icmp_leN X (tgt := 35) dX12_hard_17 (by decide) (by omega) (by omega) (fun h17 => ?_) (fun h17 => ?_)
    · have n17 := Nat.not_lt_of_le h17
      refine AW.iload_n X dX12_hard_35 (i := 3) rfl rfl ?_
      refine AW.istore X dX12_hard_36 rfl ?_
      refine AW.iload X dX12_hard_38 rfl ?_
      refine AW.iconstN X 5 dX12_hard_40 rfl ?_
      refine AW.icmp_neN X (tgt := 53) dX12_hard_41 (by decide) (by omega) (by omega) (fun h41 => ?_) (fun h41 => ?_)
      · refine AW.iload X dX12_hard_53 rfl ?_
        refine AW.bipushN X 6 dX12_hard_55 rfl ?_
        refine AW.icmp_neN X (tgt := 67) dX12_hard_57 (by decide) (by omega) (by omega) (fun h57 => ?_) (fun h57 => ?_)
        · refine AW.iload X dX12_hard_67 rfl ?_
          refine AW.iret X hQ dX12_hard_69 ⟨_, rfl, ?_⟩
          refine ⟨congrArg nI ?_, rfl⟩
          unfold hard
          dsimp only
          repeat' split
          all_goals omega
        · refine AW.iconstN X 2 dX12_hard_60 rfl ?_
          refine AW.iload X dX12_hard_61 rfl ?_
          refine AW.imulN X dX12_hard_63 ?_
          refine AW.goto X (tgt := 69) dX12_hard_64 (by decide) ?_
          refine AW.iret X hQ dX12_hard_69 ⟨_, rfl, ?_⟩
          refine ⟨congrArg nI ?_, rfl⟩
          unfold hard
          dsimp only
          repeat' split
          all_goals omega
      · refine AW.iload_n X dX12_hard_44 (i := 2) rfl rfl ?_
        refine AW.iconstN X 4 dX12_hard_45 rfl ?_
        refine AW.icmp_geN X (tgt := 53) dX12_hard_46 (by decide) (by omega) (by omega) (fun h46 => ?_) (fun h46 => ?_)
        · have n46 := Nat.not_lt_of_le h46
          refine AW.iload X dX12_hard_53 rfl ?_
          refine AW.bipushN X 6 dX12_hard_55 rfl ?_
          refine AW.icmp_neN X (tgt := 67) dX12_hard_57 (by decide) (by omega) (by omega) (fun h57 => ?_) (fun h57 => ?_)
          · refine AW.iload X dX12_hard_67 rfl ?_
            refine AW.iret X hQ dX12_hard_69 ⟨_, rfl, ?_⟩
            refine ⟨congrArg nI ?_, rfl⟩
            unfold hard
            dsimp only
            repeat' split
            all_goals omega
          · refine AW.iconstN X 2 dX12_hard_60 rfl ?_
            refine AW.iload X dX12_hard_61 rfl ?_
            refine AW.imulN X dX12_hard_63 ?_
            refine AW.goto X (tgt := 69) dX12_hard_64 (by decide) ?_
            refine AW.iret X hQ dX12_hard_69 ⟨_, rfl, ?_⟩
            refine ⟨congrArg nI ?_, rfl⟩
            unfold hard
            dsimp only
            repeat' split
            all_goals omega
        · have n46 := Nat.not_le_of_lt h46
          refine AW.iconstN X 0 dX12_hard_49 rfl ?_
          refine AW.goto X (tgt := 69) dX12_hard_50 (by decide) ?_
          refine AW.iret X hQ dX12_hard_69 ⟨_, rfl, ?_⟩
          refine ⟨congrArg nI ?_, rfl⟩
          unfold hard
          dsimp only
          repeat' split
          all_goals omega
    · have n17 := Nat.not_le_of_lt h17
      refine AW.iconstN X 0 dX12_hard_20 rfl ?_
      refine AW.iload_n X dX12_hard_21 (i := 3) rfl rfl ?_
      refine AW.aload_n X dX12_hard_22 (i := 0) rfl rfl ?_
      refine AW.getR X dX12_hard_23 fX12_23 rfl om0 (wm_at W 4 rfl) ?_
      refine AW.iload_n X dX12_hard_26 (i := 1) rfl rfl ?_
      refine AW.iaload X dX12_hard_27 (am_at 4 rfl) (n2_in (by omega) (by decide)) (v := (nI (τ h 0 1))) (by rw [n2_clamp (by omega)]; exact tm_a hT (by omega)) ?_
      refine AW.isub X dX12_hard_28 ?_
      refine AW.maxD X dX12_hard_29 (by omega) (by omega) lX12_max ⟨rfl, rfl, rfl, rfl⟩ ?_
      refine AW.goto X (tgt := 36) dX12_hard_32 (by decide) ?_
      refine AW.istore X dX12_hard_36 rfl ?_
      refine AW.iload X dX12_hard_38 rfl ?_
      refine AW.iconstN X 5 dX12_hard_40 rfl ?_
      refine AW.icmp_neN X (tgt := 53) dX12_hard_41 (by decide) (by omega) (by omega) (fun h41 => ?_) (fun h41 => ?_)
      · refine AW.iload X dX12_hard_53 rfl ?_
        refine AW.bipushN X 6 dX12_hard_55 rfl ?_
        refine AW.icmp_neN X (tgt := 67) dX12_hard_57 (by decide) (by omega) (by omega) (fun h57 => ?_) (fun h57 => ?_)
        · refine AW.iload X dX12_hard_67 rfl ?_
          refine AW.iret X hQ dX12_hard_69 ⟨_, rfl, ?_⟩
          refine ⟨congrArg nI ?_, rfl⟩
          unfold hard
          dsimp only
          repeat' split
          all_goals omega
        · refine AW.iconstN X 2 dX12_hard_60 rfl ?_
          refine AW.iload X dX12_hard_61 rfl ?_
          refine AW.imulN X dX12_hard_63 ?_
          refine AW.goto X (tgt := 69) dX12_hard_64 (by decide) ?_
          refine AW.iret X hQ dX12_hard_69 ⟨_, rfl, ?_⟩
          refine ⟨congrArg nI ?_, rfl⟩
          unfold hard
          dsimp only
          repeat' split
          all_goals omega
      · refine AW.iload_n X dX12_hard_44 (i := 2) rfl rfl ?_
        refine AW.iconstN X 4 dX12_hard_45 rfl ?_
        refine AW.icmp_geN X (tgt := 53) dX12_hard_46 (by decide) (by omega) (by omega) (fun h46 => ?_) (fun h46 => ?_)
        · have n46 := Nat.not_lt_of_le h46
          refine AW.iload X dX12_hard_53 rfl ?_
          refine AW.bipushN X 6 dX12_hard_55 rfl ?_
          refine AW.icmp_neN X (tgt := 67) dX12_hard_57 (by decide) (by omega) (by omega) (fun h57 => ?_) (fun h57 => ?_)
          · refine AW.iload X dX12_hard_67 rfl ?_
            refine AW.iret X hQ dX12_hard_69 ⟨_, rfl, ?_⟩
            refine ⟨congrArg nI ?_, rfl⟩
            unfold hard
            dsimp only
            repeat' split
            all_goals omega
          · refine AW.iconstN X 2 dX12_hard_60 rfl ?_
            refine AW.iload X dX12_hard_61 rfl ?_
            refine AW.imulN X dX12_hard_63 ?_
            refine AW.goto X (tgt := 69) dX12_hard_64 (by decide) ?_
            refine AW.iret X hQ dX12_hard_69 ⟨_, rfl, ?_⟩
            refine ⟨congrArg nI ?_, rfl⟩
            unfold hard
            dsimp only
            repeat' split
            all_goals omega
        · have n46 := Nat.not_le_of_lt h46
          refine AW.iconstN X 0 dX12_hard_49 rfl ?_
          refine AW.goto X (tgt := 69) dX12_hard_50 (by decide) ?_
          refine AW.iret X hQ dX12_hard_69 ⟨_, rfl, ?_⟩
          refine ⟨congrArg nI ?_, rfl⟩
          unfold hard
          dsimp only
          repeat' split
          all_goals omega
set_option maxRecDepth 100000 in
set_option maxHeartbeats 4000000 in
theorem c_X12_behind {l : Launch} {δ : Dl} {b : Nat} {μ : Mm} (W : WM μ.2.2) {τ : Tt} (hT : TMX μ τ) {h : Nat} (hh : h < τ 6 0 0) {k x : Nat} (hk : k < 12) (hx : x < 100) : MCM l δ b yX12_behind cX12_behind 7 (some .int) 3 [.ref (b + 0), .int (nI h), .int (nI k), .int (nI x)] μ (pI fun r μ' => r = nI (behindH (τ h) k x) ∧ μ' = μ) := by
  have bn := ti_n hT.1
  have hI := tm_hi hT hh
  have bc := hi_n hI
  have ba := hi_a hI
  have bk := hi_k hI
  have by_ := lyN hI k
  have bw := hard_le (τ h) k hx
  refine MC.intro ([some (.ref (b + 0)), some (.int (nI h)), some (.int (nI k)), some (.int (nI x)), none, none, none]) (by decide) rfl rfl fun κ Qc hl hQ X => ?_
  subst hl
  have L17 : ∀ m ix bits y : Nat, bits < m → bits < 256 → y ≤ 198 → ix ≤ τ h 0 2 → (∀ c, c < 8 → ix ≤ c → bits.testBit c = false) → behindH (τ h) k x = behind (τ h) ix bits y → AW κ (δ, b, NM, 7, shM, False, Qc, 0, 0) NM 0 0 17 [some (.ref (b + 0)), some (.int (nI h)), some (.int (nI k)), some (.int (nI x)), some (.int (nI bits)), some (.int (nI y)), none] [] μ := by
    intro m
    induction m with
    | zero => intro ix bits y hm; exact absurd hm (Nat.not_lt_zero _)
    | succ m ih =>
      intro ix bits y hm hb hy hi hz hr
      refine AW.iload X dX12_behind_17 rfl ?_
      refine AW.if_eqN X (tgt := 81) dX12_behind_19 (by decide) (by omega) (fun h19 => ?_) (fun h19 => ?_)
      · obtain rfl : 0 = bits := by omega
        rw [behind_0] at hr
        refine AW.iload X dX12_behind_81 rfl ?_
        refine AW.iret X hQ dX12_behind_83 ⟨_, rfl, ?_⟩
        exact ⟨by rw [hr], rfl⟩
      · have f := top_f bits hb (by omega)
        have ft : top bits < ix := by by_cases q : top bits < ix; exact q; exact absurd (f.1.symm.trans (hz _ f.2.2.2.1 (by omega))) (by decide)
        rw [behind_top hb (by omega) ix (by omega) ft] at hr
        have qt := hi_th hI (c := top bits) (by omega)
        have f2 := f.2.2.1
        have f3 := f.2.1
        have f4 := f.2.2.2.1
        refine AW.bipushN X 31 dX12_behind_22 rfl ?_
        refine AW.iload X dX12_behind_24 rfl ?_
        refine AW.callS X dX12_behind_26 lX12_228 (c_J6_numberOfLeadingZeros_0f7a4 (by omega) (by omega)) rfl rfl rfl rfl ⟨rfl, rfl⟩ (pR_k ?_)
        refine AW.isubN X dX12_behind_29 (by omega) ?_
        rw [show 31 - (31 - top bits) = top bits from by omega]
        refine AW.istore X dX12_behind_30 rfl ?_
        refine AW.aload_n X dX12_behind_32 (i := 0) rfl rfl ?_
        refine AW.getR X dX12_behind_33 fX12_35 rfl om0 (wm_at W 8 rfl) ?_
        refine AW.bipushN X 8 dX12_behind_36 rfl ?_
        refine AW.iload_n X dX12_behind_38 (i := 1) rfl rfl ?_
        refine AW.imulN X dX12_behind_39 ?_
        refine AW.iload X dX12_behind_40 rfl ?_
        refine AW.iaddN X dX12_behind_42 ?_
        refine AW.iaload X dX12_behind_43 (am_at 8 rfl) (n2_in (by omega) (by decide)) (v := (nI (τ h 3 (top bits)))) (by rw [n2_clamp (by omega)]; exact tm_3 hT (by omega) (by omega)) ?_
        refine AW.iload X dX12_behind_44 rfl ?_
        refine AW.icmp_leN X (tgt := 52) dX12_behind_46 (by decide) (by omega) (by omega) (fun h46 => ?_) (fun h46 => ?_)
        · have n46 := Nat.not_lt_of_le h46
          refine AW.iload X dX12_behind_52 rfl ?_
          refine AW.aload_n X dX12_behind_54 (i := 0) rfl rfl ?_
          refine AW.getR X dX12_behind_55 fX12_35 rfl om0 (wm_at W 8 rfl) ?_
          refine AW.bipushN X 8 dX12_behind_58 rfl ?_
          refine AW.iload_n X dX12_behind_60 (i := 1) rfl rfl ?_
          refine AW.imulN X dX12_behind_61 ?_
          refine AW.iload X dX12_behind_62 rfl ?_
          refine AW.iaddN X dX12_behind_64 ?_
          refine AW.iaload X dX12_behind_65 (am_at 8 rfl) (n2_in (by omega) (by decide)) (v := (nI (τ h 3 (top bits)))) (by rw [n2_clamp (by omega)]; exact tm_3 hT (by omega) (by omega)) ?_
          refine AW.isubN X dX12_behind_66 (by omega) ?_
          refine AW.istore X dX12_behind_67 rfl ?_
          refine AW.iload X dX12_behind_69 rfl ?_
          refine AW.iconstN X 1 dX12_behind_71 rfl ?_
          refine AW.iload X dX12_behind_72 rfl ?_
          refine AW.shl1 X dX12_behind_74 (by omega) ?_
          refine AW.ixor X dX12_behind_75 ?_
          rw [nI_xr]
          refine AW.istore X dX12_behind_76 rfl ?_
          refine AW.goto X (tgt := 17) dX12_behind_78 (by decide) ?_
          rw [if_neg (by omega)] at hr
          exact AW.cgw (ih (top bits) _ _ (by omega) (by omega) (by omega) (by omega) (fun c hc hq => Nat.testBit_lt_two_pow (Nat.lt_of_lt_of_le f3 (Nat.pow_le_pow_right (by decide) hq))) hr) ⟨rfl, rfl, rfl, rfl, rfl, rfl, trivial⟩
        · have n46 := Nat.not_le_of_lt h46
          refine AW.iload X dX12_behind_49 rfl ?_
          refine AW.iret X hQ dX12_behind_51 ⟨_, rfl, ?_⟩
          exact ⟨by rw [hr, if_pos (by omega)], rfl⟩
  refine AW.aload_n X dX12_behind_0 (i := 0) rfl rfl ?_
  refine AW.iload_n X dX12_behind_1 (i := 1) rfl rfl ?_
  refine AW.iload_n X dX12_behind_2 (i := 2) rfl rfl ?_
  refine AW.callV X dX12_behind_3 lX12_152 cfX12 (c_X12_lies W hT (by omega) (by omega)) om0 rfl rfl rfl rfl ⟨rfl, rfl⟩ (pR_k ?_)
  refine AW.istore X dX12_behind_6 rfl ?_
  refine AW.aload_n X dX12_behind_8 (i := 0) rfl rfl ?_
  refine AW.iload_n X dX12_behind_9 (i := 1) rfl rfl ?_
  refine AW.iload_n X dX12_behind_10 (i := 2) rfl rfl ?_
  refine AW.iload_n X dX12_behind_11 (i := 3) rfl rfl ?_
  refine AW.callV X dX12_behind_12 lX12_122 cfX12 (c_X12_hard W hT (by omega) (by omega) (by omega)) om0 rfl rfl rfl rfl ⟨rfl, rfl⟩ (pR_k ?_)
  refine AW.istore X dX12_behind_15 rfl ?_
  exact AW.cgw (L17 _ (τ h 0 2) _ _ (Nat.lt_succ_self _) by_ bw (Nat.le_refl _) (fun c hc hq => by rw [lyA, ly_bit, decide_eq_false (by omega)]; rfl) rfl) ⟨rfl, rfl, rfl, rfl, rfl, rfl, trivial⟩
set_option maxRecDepth 100000 in
set_option maxHeartbeats 4000000 in
theorem c_X12_sum {l : Launch} {δ : Dl} {b : Nat} {μ : Mm} (W : WM μ.2.2) {τ : Tt} (hT : TMX μ τ) {h : Nat} (hh : h < τ 6 0 0) {bits : Nat} (hb : bits < 256) : MCM l δ b yX12_sum cX12_sum 5 (some .int) 2 [.ref (b + 0), .int (nI h), .int (nI bits)] μ (pI fun r μ' => r = nI (sumBt (τ h) bits (τ h 0 2)) ∧ μ' = μ) := by
  have bn := ti_n hT.1
  have hI := tm_hi hT hh
  have bc := hi_n hI
  have ba := hi_a hI
  have bk := hi_k hI
  refine MC.intro ([some (.ref (b + 0)), some (.int (nI h)), some (.int (nI bits)), none, none]) (by decide) rfl rfl fun κ Qc hl hQ X => ?_
  subst hl
  refine AW.iconstN X 0 dX12_sum_0 rfl ?_
  refine AW.istore_n X dX12_sum_1 (i := 3) rfl rfl ?_
  refine AW.iconstN X 0 dX12_sum_2 rfl ?_
  refine AW.istore X dX12_sum_3 rfl ?_
  have L5 : ∀ (m5 ix : Nat), τ h 0 2 - ix < m5 → ix ≤ τ h 0 2 → AW κ (δ, b, NM, 5, shM, False, Qc, 0, 0) NM 0 0 5 [some (.ref (b + 0)), some (.int (nI h)), some (.int (nI bits)), some (.int (nI (sumBt (τ h) bits ix))), some (.int (nI ix))] [] μ := by
    intro m5
    induction m5 with
    | zero => intro ix hm; exact absurd hm (Nat.not_lt_zero _)
    | succ m5 ih5 =>
      intro ix hm5 hi5 
      have b1 := sumBt_le hI bits ix (by omega)
      refine AW.iload X dX12_sum_5 rfl ?_
      refine AW.aload_n X dX12_sum_7 (i := 0) rfl rfl ?_
      refine AW.getR X dX12_sum_8 fX12_26 rfl om0 (wm_at W 5 rfl) ?_
      refine AW.iload_n X dX12_sum_11 (i := 1) rfl rfl ?_
      refine AW.iaload X dX12_sum_12 (am_at 5 rfl) (n2_in (by omega) (by decide)) (v := (nI (τ h 0 2))) (by rw [n2_clamp (by omega)]; exact tm_n hT (by omega)) ?_
      refine AW.icmp_geN X (tgt := 46) dX12_sum_13 (by decide) (by omega) (by omega) (fun h13 => ?_) (fun h13 => ?_)
      · obtain rfl : τ h 0 2 = ix := by omega
        have n13 := Nat.not_lt_of_le h13
        refine AW.iload_n X dX12_sum_46 (i := 3) rfl rfl ?_
        refine AW.iret X hQ dX12_sum_47 ⟨_, rfl, ?_⟩
        exact ⟨rfl, rfl⟩
      · have n13 := Nat.not_le_of_lt h13
        refine AW.iload_n X dX12_sum_16 (i := 2) rfl rfl ?_
        refine AW.iload X dX12_sum_17 rfl ?_
        refine AW.callS X dX12_sum_19 lX12_155 (c_X12_has (by omega) (by omega)) rfl rfl rfl rfl ⟨rfl, rfl⟩ (pR_k ?_)
        refine AW.if_eqB X (tgt := 40) dX12_sum_22 (by decide) (fun h22 => ?_) (fun h22 => ?_)
        · refine AW.iincN X (c := (ix + 1)) dX12_sum_40 rfl (inc_1 _) rfl ?_
          refine AW.goto X (tgt := 5) dX12_sum_43 (by decide) ?_
          refine AW.cgw (ih5 (ix + 1) (by omega) (by omega)) ⟨rfl, rfl, rfl, ?_, rfl, trivial⟩
          · simp [sumBt, *]
        · refine AW.iload_n X dX12_sum_25 (i := 3) rfl rfl ?_
          refine AW.aload_n X dX12_sum_26 (i := 0) rfl rfl ?_
          refine AW.getR X dX12_sum_27 fX12_35 rfl om0 (wm_at W 8 rfl) ?_
          refine AW.bipushN X 8 dX12_sum_30 rfl ?_
          refine AW.iload_n X dX12_sum_32 (i := 1) rfl rfl ?_
          refine AW.imulN X dX12_sum_33 ?_
          refine AW.iload X dX12_sum_34 rfl ?_
          refine AW.iaddN X dX12_sum_36 ?_
          refine AW.iaload X dX12_sum_37 (am_at 8 rfl) (n2_in (by omega) (by decide)) (v := (nI (τ h 3 ix))) (by rw [n2_clamp (by omega)]; exact tm_3 hT (by omega) (by omega)) ?_
          refine AW.iaddN X dX12_sum_38 ?_
          refine AW.istore_n X dX12_sum_39 (i := 3) rfl rfl ?_
          refine AW.iincN X (c := (ix + 1)) dX12_sum_40 rfl (inc_1 _) rfl ?_
          refine AW.goto X (tgt := 5) dX12_sum_43 (by decide) ?_
          refine AW.cgw (ih5 (ix + 1) (by omega) (by omega)) ⟨rfl, rfl, rfl, ?_, rfl, trivial⟩
          · simp [sumBt, *]
  refine AW.cgw (L5 _ 0 (Nat.lt_succ_self _) (by omega)) ⟨rfl, rfl, rfl, ?_, rfl, trivial⟩
  · simp [sumBt, *]
set_option maxRecDepth 100000 in
set_option maxHeartbeats 4000000 in
theorem c_X12_deepOf {l : Launch} {δ : Dl} {b : Nat} {μ : Mm} (W : WM μ.2.2) {τ : Tt} (hT : TMX μ τ) {h : Nat} (hh : h < τ 6 0 0) {k : Nat} (hk : k < 12) : MCM l δ b yX12_deepOf cX12_deepOf 3 (some .int) 3 [.ref (b + 0), .int (nI h), .int (nI k)] μ (pI fun r μ' => r = nI (depth (τ h) k) ∧ μ' = μ) := by
  have bn := ti_n hT.1
  have hI := tm_hi hT hh
  have bc := hi_n hI
  have ba := hi_a hI
  have bk := hi_k hI
  have by_ := lyN hI k
  refine MC.intro ([some (.ref (b + 0)), some (.int (nI h)), some (.int (nI k))]) (by decide) rfl rfl fun κ Qc hl hQ X => ?_
  subst hl
  refine AW.aload_n X dX12_deepOf_0 (i := 0) rfl rfl ?_
  refine AW.iload_n X dX12_deepOf_1 (i := 1) rfl rfl ?_
  refine AW.aload_n X dX12_deepOf_2 (i := 0) rfl rfl ?_
  refine AW.iload_n X dX12_deepOf_3 (i := 1) rfl rfl ?_
  refine AW.iload_n X dX12_deepOf_4 (i := 2) rfl rfl ?_
  refine AW.callV X dX12_deepOf_5 lX12_152 cfX12 (c_X12_lies W hT (by omega) (by omega)) om0 rfl rfl rfl rfl ⟨rfl, rfl⟩ (pR_k ?_)
  refine AW.callV X dX12_deepOf_8 lX12_231 cfX12 (c_X12_sum W hT (by omega) (by omega)) om0 rfl rfl rfl rfl ⟨rfl, rfl⟩ (pR_k ?_)
  refine AW.iret X hQ dX12_deepOf_11 ⟨_, rfl, ?_⟩
  exact ⟨by rw [sumBt_depth], rfl⟩
set_option maxRecDepth 100000 in
set_option maxHeartbeats 4000000 in
theorem c_X12_skinOf {l : Launch} {δ : Dl} {b : Nat} {μ : Mm} (W : WM μ.2.2) {τ : Tt} (hT : TMX μ τ) {h : Nat} (hh : h < τ 6 0 0)  : MCM l δ b yX12_skinOf cX12_skinOf 4 (some .int) 4 [.ref (b + 0), .int (nI h)] μ (pI fun r μ' => r = nI (skin (τ h)) ∧ μ' = μ) := by
  have bn := ti_n hT.1
  have hI := tm_hi hT hh
  have bc := hi_n hI
  have ba := hi_a hI
  have bk := hi_k hI
  refine MC.intro ([some (.ref (b + 0)), some (.int (nI h)), none, none]) (by decide) rfl rfl fun κ Qc hl hQ X => ?_
  subst hl
  refine AW.iconstN X 0 dX12_skinOf_0 rfl ?_
  refine AW.istore_n X dX12_skinOf_1 (i := 2) rfl rfl ?_
  refine AW.iconstN X 0 dX12_skinOf_2 rfl ?_
  refine AW.istore_n X dX12_skinOf_3 (i := 3) rfl rfl ?_
  have L4 : ∀ (m4 ix : Nat), 12 - ix < m4 → ix ≤ 12 → AW κ (δ, b, NM, 4, shM, False, Qc, 0, 0) NM 0 0 4 [some (.ref (b + 0)), some (.int (nI h)), some (.int (nI (skinTo (τ h) ix))), some (.int (nI ix))] [] μ := by
    intro m4
    induction m4 with
    | zero => intro ix hm; exact absurd hm (Nat.not_lt_zero _)
    | succ m4 ih4 =>
      intro ix hm4 hi4 
      have b1 := skinTo_le hI ix
      refine AW.iload_n X dX12_skinOf_4 (i := 3) rfl rfl ?_
      refine AW.bipushN X 12 dX12_skinOf_5 rfl ?_
      refine AW.icmp_geN X (tgt := 25) dX12_skinOf_7 (by decide) (by omega) (by omega) (fun h7 => ?_) (fun h7 => ?_)
      · obtain rfl : 12 = ix := by omega
        have n7 := Nat.not_lt_of_le h7
        refine AW.iload_n X dX12_skinOf_25 (i := 2) rfl rfl ?_
        refine AW.iret X hQ dX12_skinOf_26 ⟨_, rfl, ?_⟩
        exact ⟨rfl, rfl⟩
      · have n7 := Nat.not_le_of_lt h7
        refine AW.iload_n X dX12_skinOf_10 (i := 2) rfl rfl ?_
        refine AW.aload_n X dX12_skinOf_11 (i := 0) rfl rfl ?_
        refine AW.iload_n X dX12_skinOf_12 (i := 1) rfl rfl ?_
        refine AW.iload_n X dX12_skinOf_13 (i := 3) rfl rfl ?_
        refine AW.callV X dX12_skinOf_14 lX12_234 cfX12 (c_X12_deepOf W hT (by omega) (by omega)) om0 rfl rfl rfl rfl ⟨rfl, rfl⟩ (pR_k ?_)
        refine AW.iaddN X dX12_skinOf_17 ?_
        refine AW.istore_n X dX12_skinOf_18 (i := 2) rfl rfl ?_
        refine AW.iincN X (c := (ix + 1)) dX12_skinOf_19 rfl (inc_1 _) rfl ?_
        refine AW.goto X (tgt := 4) dX12_skinOf_22 (by decide) ?_
        refine AW.cgw (ih4 (ix + 1) (by omega) (by omega)) ⟨rfl, rfl, ?_, rfl, trivial⟩
        · simp [skinTo, *]
  refine AW.cgw (L4 _ 0 (Nat.lt_succ_self _) (by omega)) ⟨rfl, rfl, ?_, rfl, trivial⟩
  · simp [skinTo, *]
set_option maxRecDepth 100000 in
set_option maxHeartbeats 4000000 in
theorem c_X12_lived {l : Launch} {δ : Dl} {b : Nat} {μ : Mm} (W : WM μ.2.2) {τ : Tt} (hT : TMX μ τ) {h : Nat} (hh : h < τ 6 0 0)  : MCM l δ b yX12_lived cX12_lived 4 (some .int) 1 [.ref (b + 0), .int (nI h)] μ (pI fun r μ' => r = nI (livedTo (τ h) (τ h 0 2)) ∧ μ' = μ) := by
  have bn := ti_n hT.1
  have hI := tm_hi hT hh
  have bc := hi_n hI
  have ba := hi_a hI
  have bk := hi_k hI
  refine MC.intro ([some (.ref (b + 0)), some (.int (nI h)), none, none]) (by decide) rfl rfl fun κ Qc hl hQ X => ?_
  subst hl
  refine AW.iconstN X 0 dX12_lived_0 rfl ?_
  refine AW.istore_n X dX12_lived_1 (i := 2) rfl rfl ?_
  refine AW.iconstN X 0 dX12_lived_2 rfl ?_
  refine AW.istore_n X dX12_lived_3 (i := 3) rfl rfl ?_
  have L4 : ∀ (m4 ix : Nat), τ h 0 2 - ix < m4 → ix ≤ τ h 0 2 → AW κ (δ, b, NM, 4, shM, False, Qc, 0, 0) NM 0 0 4 [some (.ref (b + 0)), some (.int (nI h)), some (.int (nI (livedTo (τ h) ix))), some (.int (nI ix))] [] μ := by
    intro m4
    induction m4 with
    | zero => intro ix hm; exact absurd hm (Nat.not_lt_zero _)
    | succ m4 ih4 =>
      intro ix hm4 hi4 
      refine AW.iload_n X dX12_lived_4 (i := 3) rfl rfl ?_
      refine AW.aload_n X dX12_lived_5 (i := 0) rfl rfl ?_
      refine AW.getR X dX12_lived_6 fX12_26 rfl om0 (wm_at W 5 rfl) ?_
      refine AW.iload_n X dX12_lived_9 (i := 1) rfl rfl ?_
      refine AW.iaload X dX12_lived_10 (am_at 5 rfl) (n2_in (by omega) (by decide)) (v := (nI (τ h 0 2))) (by rw [n2_clamp (by omega)]; exact tm_n hT (by omega)) ?_
      refine AW.icmp_geN X (tgt := 36) dX12_lived_11 (by decide) (by omega) (by omega) (fun h11 => ?_) (fun h11 => ?_)
      · obtain rfl : τ h 0 2 = ix := by omega
        have n11 := Nat.not_lt_of_le h11
        refine AW.iload_n X dX12_lived_36 (i := 2) rfl rfl ?_
        refine AW.iret X hQ dX12_lived_37 ⟨_, rfl, ?_⟩
        exact ⟨rfl, rfl⟩
      · have bt := hi_ten hI h11
        have n11 := Nat.not_le_of_lt h11
        refine AW.iload_n X dX12_lived_14 (i := 2) rfl rfl ?_
        refine AW.iconstN X 1 dX12_lived_15 rfl ?_
        refine AW.aload_n X dX12_lived_16 (i := 0) rfl rfl ?_
        refine AW.getR X dX12_lived_17 fX12_29 rfl om0 (wm_at W 6 rfl) ?_
        refine AW.bipushN X 8 dX12_lived_20 rfl ?_
        refine AW.iload_n X dX12_lived_22 (i := 1) rfl rfl ?_
        refine AW.imulN X dX12_lived_23 ?_
        refine AW.iload_n X dX12_lived_24 (i := 3) rfl rfl ?_
        refine AW.iaddN X dX12_lived_25 ?_
        refine AW.iaload X dX12_lived_26 (am_at 6 rfl) (n2_in (by omega) (by decide)) (v := (nI (τ h 1 ix))) (by rw [n2_clamp (by omega)]; exact tm_1 hT (by omega) (by omega)) ?_
        refine AW.shl1 X dX12_lived_27 (by omega) ?_
        refine AW.iorN X dX12_lived_28 ?_
        refine AW.istore_n X dX12_lived_29 (i := 2) rfl rfl ?_
        refine AW.iincN X (c := (ix + 1)) dX12_lived_30 rfl (inc_1 _) rfl ?_
        refine AW.goto X (tgt := 4) dX12_lived_33 (by decide) ?_
        refine AW.cgw (ih4 (ix + 1) (by omega) (by omega)) ⟨rfl, rfl, ?_, rfl, trivial⟩
        · simp [livedTo, *]
  refine AW.cgw (L4 _ 0 (Nat.lt_succ_self _) (by omega)) ⟨rfl, rfl, ?_, rfl, trivial⟩
  · simp [livedTo, *]
set_option maxRecDepth 100000 in
set_option maxHeartbeats 4000000 in
theorem c_X12_deepest {l : Launch} {δ : Dl} {b : Nat} {μ : Mm} (W : WM μ.2.2) {τ : Tt} (hT : TMX μ τ) {h : Nat} (hh : h < τ 6 0 0)  : MCM l δ b yX12_deepest cX12_deepest 4 (some .int) 4 [.ref (b + 0), .int (nI h)] μ (pI fun r μ' => r = nI (deepTo (τ h) 12) ∧ μ' = μ) := by
  have bn := ti_n hT.1
  have hI := tm_hi hT hh
  have bc := hi_n hI
  have ba := hi_a hI
  have bk := hi_k hI
  refine MC.intro ([some (.ref (b + 0)), some (.int (nI h)), none, none]) (by decide) rfl rfl fun κ Qc hl hQ X => ?_
  subst hl
  refine AW.iconstN X 0 dX12_deepest_0 rfl ?_
  refine AW.istore_n X dX12_deepest_1 (i := 2) rfl rfl ?_
  refine AW.iconstN X 0 dX12_deepest_2 rfl ?_
  refine AW.istore_n X dX12_deepest_3 (i := 3) rfl rfl ?_
  have L4 : ∀ (m4 ix : Nat), 12 - ix < m4 → ix ≤ 12 → AW κ (δ, b, NM, 4, shM, False, Qc, 0, 0) NM 0 0 4 [some (.ref (b + 0)), some (.int (nI h)), some (.int (nI (deepTo (τ h) ix))), some (.int (nI ix))] [] μ := by
    intro m4
    induction m4 with
    | zero => intro ix hm; exact absurd hm (Nat.not_lt_zero _)
    | succ m4 ih4 =>
      intro ix hm4 hi4 
      have b1 := deepTo_le hI ix
      have b2 := depth_le hI ix
      refine AW.iload_n X dX12_deepest_4 (i := 3) rfl rfl ?_
      refine AW.bipushN X 12 dX12_deepest_5 rfl ?_
      refine AW.icmp_geN X (tgt := 27) dX12_deepest_7 (by decide) (by omega) (by omega) (fun h7 => ?_) (fun h7 => ?_)
      · obtain rfl : 12 = ix := by omega
        have n7 := Nat.not_lt_of_le h7
        refine AW.iload_n X dX12_deepest_27 (i := 2) rfl rfl ?_
        refine AW.iret X hQ dX12_deepest_28 ⟨_, rfl, ?_⟩
        exact ⟨rfl, rfl⟩
      · have n7 := Nat.not_le_of_lt h7
        refine AW.iload_n X dX12_deepest_10 (i := 2) rfl rfl ?_
        refine AW.aload_n X dX12_deepest_11 (i := 0) rfl rfl ?_
        refine AW.iload_n X dX12_deepest_12 (i := 1) rfl rfl ?_
        refine AW.iload_n X dX12_deepest_13 (i := 3) rfl rfl ?_
        refine AW.callV X dX12_deepest_14 lX12_234 cfX12 (c_X12_deepOf W hT (by omega) (by omega)) om0 rfl rfl rfl rfl ⟨rfl, rfl⟩ (pR_k ?_)
        refine AW.maxN X dX12_deepest_17 (by omega) (by omega) lX12_max (by decide) ?_
        refine AW.istore_n X dX12_deepest_20 (i := 2) rfl rfl ?_
        refine AW.iincN X (c := (ix + 1)) dX12_deepest_21 rfl (inc_1 _) rfl ?_
        refine AW.goto X (tgt := 4) dX12_deepest_24 (by decide) ?_
        refine AW.cgw (ih4 (ix + 1) (by omega) (by omega)) ⟨rfl, rfl, ?_, rfl, trivial⟩
        · simp [deepTo, *]
  refine AW.cgw (L4 _ 0 (Nat.lt_succ_self _) (by omega)) ⟨rfl, rfl, ?_, rfl, trivial⟩
  · simp [deepTo, *]
set_option maxRecDepth 100000 in
set_option maxHeartbeats 4000000 in
theorem c_X12_seenAll {l : Launch} {δ : Dl} {b : Nat} {μ : Mm} (W : WM μ.2.2) {τ : Tt} (hT : TMX μ τ) {h : Nat} (hh : h < τ 6 0 0) {d : Nat} (hd : d < 100) : MCM l δ b yX12_seenAll cX12_seenAll 6 (some .int) 4 [.ref (b + 0), .int (nI h), .int (nI d)] μ (pI fun r μ' => r = nI (seenTo (τ 6 1) (τ h) d 12) ∧ μ' = μ) := by
  have bn := ti_n hT.1
  have hI := tm_hi hT hh
  have bc := hi_n hI
  have ba := hi_a hI
  have bk := hi_k hI
  refine MC.intro ([some (.ref (b + 0)), some (.int (nI h)), some (.int (nI d)), none, none, none]) (by decide) rfl rfl fun κ Qc hl hQ X => ?_
  subst hl
  refine AW.iconstN X 0 dX12_seenAll_0 rfl ?_
  refine AW.istore_n X dX12_seenAll_1 (i := 3) rfl rfl ?_
  refine AW.iconstN X 0 dX12_seenAll_2 rfl ?_
  refine AW.istore X dX12_seenAll_3 rfl ?_
  have L5 : ∀ (m5 ix : Nat), 12 - ix < m5 → ix ≤ 12 → AW κ (δ, b, NM, 6, shM, False, Qc, 0, 0) NM 0 0 5 [some (.ref (b + 0)), some (.int (nI h)), some (.int (nI d)), some (.int (nI (seenTo (τ 6 1) (τ h) d ix))), some (.int (nI ix)), none] [] μ := by
    intro m5
    induction m5 with
    | zero => intro ix hm; exact absurd hm (Nat.not_lt_zero _)
    | succ m5 ih5 =>
      intro ix hm5 hi5 
      refine AW.iload X dX12_seenAll_5 rfl ?_
      refine AW.bipushN X 12 dX12_seenAll_7 rfl ?_
      refine AW.icmp_geN X (tgt := 41) dX12_seenAll_9 (by decide) (by omega) (by omega) (fun h9 => ?_) (fun h9 => ?_)
      · obtain rfl : 12 = ix := by omega
        have n9 := Nat.not_lt_of_le h9
        refine AW.iload_n X dX12_seenAll_41 (i := 3) rfl rfl ?_
        refine AW.iret X hQ dX12_seenAll_42 ⟨_, rfl, ?_⟩
        exact ⟨rfl, rfl⟩
      · have n9 := Nat.not_le_of_lt h9
        refine AW.aload_n X dX12_seenAll_12 (i := 0) rfl rfl ?_
        refine AW.iload_n X dX12_seenAll_13 (i := 1) rfl rfl ?_
        refine AW.iload X dX12_seenAll_14 rfl ?_
        refine AW.iload_n X dX12_seenAll_16 (i := 2) rfl rfl ?_
        refine AW.callV X dX12_seenAll_17 lX12_243 cfX12 (c_X12_seenAt W hT (by omega) (by omega) (by omega)) om0 rfl rfl rfl rfl ⟨rfl, rfl⟩ (pR_k ?_)
        rcases hx17 : seenAt (τ 6 1) (τ h) ix d with _ | c
        · show AW κ _ _ _ _ _ _ (.int (-1) :: _) _
          refine AW.istore X dX12_seenAll_20 rfl ?_
          refine AW.iload X dX12_seenAll_22 rfl ?_
          refine AW.iconst X (v := -1) dX12_seenAll_24 rfl ?_
          refine AW.icmp_eq X (tgt := 35) dX12_seenAll_25 (by decide) (fun h25 => ?_) (fun h25 => ?_)
          · refine AW.iincN X (c := (ix + 1)) dX12_seenAll_35 rfl (inc_1 _) rfl ?_
            refine AW.goto X (tgt := 5) dX12_seenAll_38 (by decide) ?_
            refine AW.cgw (ih5 (ix + 1) (by omega) (by omega)) ⟨rfl, rfl, rfl, ?_, rfl, trivial⟩
            · simp [seenTo, *, oBit]
          · exact absurd rfl h25
        · show AW κ _ _ _ _ _ _ (.int (nI c) :: _) _
          have b4 := seenIn_lt hx17
          refine AW.istore X dX12_seenAll_20 rfl ?_
          refine AW.iload X dX12_seenAll_22 rfl ?_
          refine AW.iconst X (v := -1) dX12_seenAll_24 rfl ?_
          refine AW.icmp_eq X (tgt := 35) dX12_seenAll_25 (by decide) (fun h25 => ?_) (fun h25 => ?_)
          · exact absurd h25 (nI_m1 (by omega))
          · refine AW.iload_n X dX12_seenAll_28 (i := 3) rfl rfl ?_
            refine AW.iconstN X 1 dX12_seenAll_29 rfl ?_
            refine AW.iload X dX12_seenAll_30 rfl ?_
            refine AW.shl1 X dX12_seenAll_32 (by omega) ?_
            refine AW.iorN X dX12_seenAll_33 ?_
            refine AW.istore_n X dX12_seenAll_34 (i := 3) rfl rfl ?_
            refine AW.iincN X (c := (ix + 1)) dX12_seenAll_35 rfl (inc_1 _) rfl ?_
            refine AW.goto X (tgt := 5) dX12_seenAll_38 (by decide) ?_
            refine AW.cgw (ih5 (ix + 1) (by omega) (by omega)) ⟨rfl, rfl, rfl, ?_, rfl, trivial⟩
            · simp [seenTo, *, oBit]
  refine AW.cgw (L5 _ 0 (Nat.lt_succ_self _) (by omega)) ⟨rfl, rfl, rfl, ?_, rfl, trivial⟩
  · simp [seenTo]
