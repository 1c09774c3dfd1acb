theorem ordF_le {N : Nat} {U : Nat → Nat} : ∀ (f p : Nat), p < 256 → ordF N U f p ≤ fc8 p
  | 0, p, _ => by
    have := fc8_1 p
    unfold ordF
    split <;> omega
  | f + 1, p, hp => by
    have := fc8_1 p
    unfold ordF
    split
    · omega
    · refine Nat.le_trans (sumT_le (fun t ht => ?_)) (fc8_s p hp)
      split
      · rename_i q
        rw [if_neg (by rw [(mayC_iff.mp q).2.1]; decide)]
        exact ordF_le f _ (or_lt8 hp (pow_lt8 ht))
      · exact Nat.zero_le _
theorem fc8_le (p : Nat) : fc8 p ≤ 40320 := by
  unfold fc8
  split <;> decide
theorem no255 {N t : Nat} (ht : t < 8) (h : (andN N 255).testBit t = true) : False := by
  rw [tb_andN, (by decide : ∀ t, t < 8 → (255 : Nat).testBit t = true) t ht] at h
  simp at h
set_option maxRecDepth 100000 in
set_option maxHeartbeats 4000000 in
theorem c_X12_ordersFrom {l : Launch} {δ : Dl} {b : Nat} {μ : Mm} (W : WM μ.2.2) {N : Nat} {U : Nat → Nat} (hp : PRM μ N U) : ∀ (f lie : Nat), lie < 256 → 8 ≤ pcnt lie + f → MCM l δ b yX12_ordersFrom cX12_ordersFrom 4 (some .int) (f + 2) [.ref (b + 0), .int (nI lie)] μ (pI fun r μ' => r = nI (ordF N U 256 lie) ∧ μ' = μ) := by
  intro f
  induction f with
  | zero =>
    intro lie hl hf
    have h255 := pcnt_8 lie hl (by omega)
    have p2 := hp.2.1
    have p3 := andN_lt (c := lie) p2
    refine MC.intro ([some (.ref (b + 0)), some (.int (nI lie)), none, none]) (by decide) rfl rfl fun κ Qc hl9 hQ X => ?_
    subst hl9
    refine AW.iload_n X dX12_ordersFrom_0 (i := 1) rfl rfl ?_
    refine AW.aload_n X dX12_ordersFrom_1 (i := 0) rfl rfl ?_
    refine AW.getI X dX12_ordersFrom_2 fX12_252 rfl om0 (v := (nI N)) hp.1 ?_
    refine AW.icmp_neN X (tgt := 10) dX12_ordersFrom_5 (by decide) (by omega) (by omega) (fun h5 => ?_) (fun h5 => ?_)
    · refine AW.iconstN X 0 dX12_ordersFrom_10 rfl ?_
      refine AW.istore_n X dX12_ordersFrom_11 (i := 2) rfl rfl ?_
      refine AW.iconstN X 0 dX12_ordersFrom_12 rfl ?_
      refine AW.istore_n X dX12_ordersFrom_13 (i := 3) rfl rfl ?_
      have L14 : ∀ (m14 jx : Nat), 8 - jx < m14 → jx ≤ 8 → AW κ (δ, b, NM, 4, shM, False, Qc, 0, 0) NM 0 0 14 [some (.ref (b + 0)), some (.int (nI lie)), some (.int (nI (sumT (fun t => if mayC N U t lie = true then ordF N U 256 (lie ||| 2 ^ t) else 0) jx))), some (.int (nI jx))] [] μ := by
        intro m14
        induction m14 with
        | zero => intro jx hm; exact absurd hm (Nat.not_lt_zero _)
        | succ m14 ih14 =>
          intro jx hm14 hi14 
          refine AW.iload_n X dX12_ordersFrom_14 (i := 3) rfl rfl ?_
          refine AW.bipushN X 8 dX12_ordersFrom_15 rfl ?_
          refine AW.icmp_geN X (tgt := 66) dX12_ordersFrom_17 (by decide) (by omega) (by omega) (fun h17 => ?_) (fun h17 => ?_)
          · obtain rfl : 8 = jx := by omega
            have n17 := Nat.not_lt_of_le h17
            refine AW.iload_n X dX12_ordersFrom_66 (i := 2) rfl rfl ?_
            refine AW.iret X hQ dX12_ordersFrom_67 ⟨_, rfl, ?_⟩
            exact ⟨by rw [ordF_rec hl h5], rfl⟩
          · have n17 := Nat.not_le_of_lt h17
            refine AW.aload_n X dX12_ordersFrom_20 (i := 0) rfl rfl ?_
            refine AW.getI X dX12_ordersFrom_21 fX12_252 rfl om0 (v := (nI N)) hp.1 ?_
            refine AW.iload_n X dX12_ordersFrom_24 (i := 1) rfl rfl ?_
            refine AW.andNotN X dX12_ordersFrom_25 dX12_ordersFrom_26 dX12_ordersFrom_27 ?_
            refine AW.iload_n X dX12_ordersFrom_28 (i := 3) rfl rfl ?_
            refine AW.callS X dX12_ordersFrom_29 lX12_155 (c_X12_has (by omega) (by omega)) rfl rfl rfl (by first | rfl | (rw [Nat.ble_eq]; omega)) ⟨rfl, rfl⟩ (pR_k ?_)
            refine AW.if_eqB X (tgt := 60) dX12_ordersFrom_32 (by decide) (fun h32 => ?_) (fun h32 => ?_)
            · have gm : mayC N U jx lie = false := by simp [mayC, h32]
              refine AW.iincN X (c := (jx + 1)) dX12_ordersFrom_60 rfl (inc_1 _) rfl ?_
              refine AW.goto X (tgt := 14) dX12_ordersFrom_63 (by decide) ?_
              refine AW.cgw (ih14 (jx + 1) (by omega) (by omega)) ⟨rfl, rfl, ?_, rfl, trivial⟩
              · first | (simp [sumT, gm]; done) | (simp [sumT, hm9]; done)
            · have p1 := (hp.2.2 jx (by omega)).2
              have p4 := andN_lt (c := lie) p1
              refine AW.aload_n X dX12_ordersFrom_35 (i := 0) rfl rfl ?_
              refine AW.getR X dX12_ordersFrom_36 fX12_68 rfl om0 (wm_at W 19 rfl) ?_
              refine AW.iload_n X dX12_ordersFrom_39 (i := 3) rfl rfl ?_
              refine AW.iaload X dX12_ordersFrom_40 (am_at 19 rfl) (n2_in (by omega) (by decide)) (v := (nI (U jx))) (by rw [n2_clamp (by omega)]; exact prm_u hp (by omega)) ?_
              refine AW.iload_n X dX12_ordersFrom_41 (i := 1) rfl rfl ?_
              refine AW.andNotN X dX12_ordersFrom_42 dX12_ordersFrom_43 dX12_ordersFrom_44 ?_
              refine AW.if_neN X (tgt := 60) dX12_ordersFrom_45 (by decide) (by omega) (fun h45 => ?_) (fun h45 => ?_)
              · have gm : mayC N U jx lie = false := by simp [mayC, h45]
                refine AW.iincN X (c := (jx + 1)) dX12_ordersFrom_60 rfl (inc_1 _) rfl ?_
                refine AW.goto X (tgt := 14) dX12_ordersFrom_63 (by decide) ?_
                refine AW.cgw (ih14 (jx + 1) (by omega) (by omega)) ⟨rfl, rfl, ?_, rfl, trivial⟩
                · first | (simp [sumT, gm]; done) | (simp [sumT, hm9]; done)
              · exact (no255 h17 (by rw [← h255]; exact h32)).elim
      refine AW.cgw (L14 _ 0 (Nat.lt_succ_self _) (by omega)) ⟨rfl, rfl, ?_, rfl, trivial⟩
      · rfl
    · refine AW.iconstN X 1 dX12_ordersFrom_8 rfl ?_
      refine AW.iret X hQ dX12_ordersFrom_9 ⟨_, rfl, ?_⟩
      exact ⟨by rw [h5, ordF_N], rfl⟩
  | succ f ih =>
    intro lie hl hf
    have p2 := hp.2.1
    have p3 := andN_lt (c := lie) p2
    refine MC.intro ([some (.ref (b + 0)), some (.int (nI lie)), none, none]) (by decide) rfl rfl fun κ Qc hl9 hQ X => ?_
    subst hl9
    refine AW.iload_n X dX12_ordersFrom_0 (i := 1) rfl rfl ?_
    refine AW.aload_n X dX12_ordersFrom_1 (i := 0) rfl rfl ?_
    refine AW.getI X dX12_ordersFrom_2 fX12_252 rfl om0 (v := (nI N)) hp.1 ?_
    refine AW.icmp_neN X (tgt := 10) dX12_ordersFrom_5 (by decide) (by omega) (by omega) (fun h5 => ?_) (fun h5 => ?_)
    · refine AW.iconstN X 0 dX12_ordersFrom_10 rfl ?_
      refine AW.istore_n X dX12_ordersFrom_11 (i := 2) rfl rfl ?_
      refine AW.iconstN X 0 dX12_ordersFrom_12 rfl ?_
      refine AW.istore_n X dX12_ordersFrom_13 (i := 3) rfl rfl ?_
      have L14 : ∀ (m14 jx : Nat), 8 - jx < m14 → jx ≤ 8 → AW κ (δ, b, NM, 4, shM, False, Qc, 0, 0) NM 0 0 14 [some (.ref (b + 0)), some (.int (nI lie)), some (.int (nI (sumT (fun t => if mayC N U t lie = true then ordF N U 256 (lie ||| 2 ^ t) else 0) jx))), some (.int (nI jx))] [] μ := by
        intro m14
        induction m14 with
        | zero => intro jx hm; exact absurd hm (Nat.not_lt_zero _)
        | succ m14 ih14 =>
          intro jx hm14 hi14 
          refine AW.iload_n X dX12_ordersFrom_14 (i := 3) rfl rfl ?_
          refine AW.bipushN X 8 dX12_ordersFrom_15 rfl ?_
          refine AW.icmp_geN X (tgt := 66) dX12_ordersFrom_17 (by decide) (by omega) (by omega) (fun h17 => ?_) (fun h17 => ?_)
          · obtain rfl : 8 = jx := by omega
            have n17 := Nat.not_lt_of_le h17
            refine AW.iload_n X dX12_ordersFrom_66 (i := 2) rfl rfl ?_
            refine AW.iret X hQ dX12_ordersFrom_67 ⟨_, rfl, ?_⟩
            exact ⟨by rw [ordF_rec hl h5], rfl⟩
          · have n17 := Nat.not_le_of_lt h17
            refine AW.aload_n X dX12_ordersFrom_20 (i := 0) rfl rfl ?_
            refine AW.getI X dX12_ordersFrom_21 fX12_252 rfl om0 (v := (nI N)) hp.1 ?_
            refine AW.iload_n X dX12_ordersFrom_24 (i := 1) rfl rfl ?_
            refine AW.andNotN X dX12_ordersFrom_25 dX12_ordersFrom_26 dX12_ordersFrom_27 ?_
            refine AW.iload_n X dX12_ordersFrom_28 (i := 3) rfl rfl ?_
            refine AW.callS X dX12_ordersFrom_29 lX12_155 (c_X12_has (by omega) (by omega)) rfl rfl rfl (by first | rfl | (rw [Nat.ble_eq]; omega)) ⟨rfl, rfl⟩ (pR_k ?_)
            refine AW.if_eqB X (tgt := 60) dX12_ordersFrom_32 (by decide) (fun h32 => ?_) (fun h32 => ?_)
            · have gm : mayC N U jx lie = false := by simp [mayC, h32]
              refine AW.iincN X (c := (jx + 1)) dX12_ordersFrom_60 rfl (inc_1 _) rfl ?_
              refine AW.goto X (tgt := 14) dX12_ordersFrom_63 (by decide) ?_
              refine AW.cgw (ih14 (jx + 1) (by omega) (by omega)) ⟨rfl, rfl, ?_, rfl, trivial⟩
              · first | (simp [sumT, gm]; done) | (simp [sumT, hm9]; done)
            · have p1 := (hp.2.2 jx (by omega)).2
              have p4 := andN_lt (c := lie) p1
              refine AW.aload_n X dX12_ordersFrom_35 (i := 0) rfl rfl ?_
              refine AW.getR X dX12_ordersFrom_36 fX12_68 rfl om0 (wm_at W 19 rfl) ?_
              refine AW.iload_n X dX12_ordersFrom_39 (i := 3) rfl rfl ?_
              refine AW.iaload X dX12_ordersFrom_40 (am_at 19 rfl) (n2_in (by omega) (by decide)) (v := (nI (U jx))) (by rw [n2_clamp (by omega)]; exact prm_u hp (by omega)) ?_
              refine AW.iload_n X dX12_ordersFrom_41 (i := 1) rfl rfl ?_
              refine AW.andNotN X dX12_ordersFrom_42 dX12_ordersFrom_43 dX12_ordersFrom_44 ?_
              refine AW.if_neN X (tgt := 60) dX12_ordersFrom_45 (by decide) (by omega) (fun h45 => ?_) (fun h45 => ?_)
              · have gm : mayC N U jx lie = false := by simp [mayC, h45]
                refine AW.iincN X (c := (jx + 1)) dX12_ordersFrom_60 rfl (inc_1 _) rfl ?_
                refine AW.goto X (tgt := 14) dX12_ordersFrom_63 (by decide) ?_
                refine AW.cgw (ih14 (jx + 1) (by omega) (by omega)) ⟨rfl, rfl, ?_, rfl, trivial⟩
                · first | (simp [sumT, gm]; done) | (simp [sumT, hm9]; done)
              · refine AW.iload_n X dX12_ordersFrom_48 (i := 2) rfl rfl ?_
                refine AW.aload_n X dX12_ordersFrom_49 (i := 0) rfl rfl ?_
                refine AW.iload_n X dX12_ordersFrom_50 (i := 1) rfl rfl ?_
                refine AW.iconstN X 1 dX12_ordersFrom_51 rfl ?_
                refine AW.iload_n X dX12_ordersFrom_52 (i := 3) rfl rfl ?_
                refine AW.shl1 X dX12_ordersFrom_53 (by omega) ?_
                refine AW.iorN X dX12_ordersFrom_54 ?_
                have hm9 : mayC N U jx lie = true := by simp [mayC, h32, h45]
                have hb9 := (mayC_iff.mp hm9).2.1
                have hc9 := pcnt_or lie hl jx (by omega) hb9
                refine AW.callV X dX12_ordersFrom_55 lX12_255 cfX12 (ih (lie ||| 2 ^ jx) (or_lt8 hl (pow_lt8 (by omega))) (by omega)) om0 rfl rfl rfl (Nat.ble_self_eq_true _) ⟨rfl, rfl⟩ (pR_k ?_)
                refine AW.iaddN X dX12_ordersFrom_58 ?_
                refine AW.istore_n X dX12_ordersFrom_59 (i := 2) rfl rfl ?_
                refine AW.iincN X (c := (jx + 1)) dX12_ordersFrom_60 rfl (inc_1 _) rfl ?_
                refine AW.goto X (tgt := 14) dX12_ordersFrom_63 (by decide) ?_
                refine AW.cgw (ih14 (jx + 1) (by omega) (by omega)) ⟨rfl, rfl, ?_, rfl, trivial⟩
                · first | (simp [sumT, gm]; done) | (simp [sumT, hm9]; done)
      refine AW.cgw (L14 _ 0 (Nat.lt_succ_self _) (by omega)) ⟨rfl, rfl, ?_, rfl, trivial⟩
      · rfl
    · refine AW.iconstN X 1 dX12_ordersFrom_8 rfl ?_
      refine AW.iret X hQ dX12_ordersFrom_9 ⟨_, rfl, ?_⟩
      exact ⟨by rw [h5, ordF_N], rfl⟩
set_option maxRecDepth 100000 in
set_option maxHeartbeats 4000000 in
theorem c_X12_pairs {l : Launch} {δ : Dl} {b : Nat} {μ : Mm} {S : St} (hR : RMX μ S) {s m m2 : Nat} (hs : s < 8) (hmz : m ≤ kk S 1 s) (hm20 : m ≤ 20) (hm2 : m2 ≤ m) (hok : prsOK S (nI s) m = true)  : MCM l δ b yX12_pairs cX12_pairs 5 none 1 [.ref (b + 0), .int (nI s), .int (nI m2)] μ (pV fun μ' => PRM μ' (nmd (ePN S (nI s)) m2) (ovr (ePN S (nI s)) m2) ∧ SmM PRp μ μ') := by
  have hT := rm_t hR
  have W := rm_w hR
  have bn := ti_n hT.1
  have cs := cl_n (show s < 2147483648 by omega)
  have hz := hR.1.2.2.2.1 s hs
  refine MC.intro ([some (.ref (b + 0)), some (.int (nI s)), some (.int (nI m2)), none, none]) (by decide) rfl rfl fun κ Qc hl hQ X => ?_
  subst hl
  refine AW.aload_n X dX12_pairs_0 (i := 0) rfl rfl ?_
  refine AW.iconstN X 0 dX12_pairs_1 rfl ?_
  refine AW.putI X dX12_pairs_2 fX12_252 rfl rfl ⟨rfl, rfl⟩ (by decide) om0 ?_
  refine AW.iconstN X 0 dX12_pairs_5 rfl ?_
  refine AW.istore_n X dX12_pairs_6 (i := 3) rfl rfl ?_
  have L7 : ∀ (m7 jx : Nat) (μ1 : Mm), 8 - jx < m7 → jx ≤ 8 → (μ1 = zrM (wI μ 0 31 (nI 0)) 20 jx) → AW κ (δ, b, NM, 5, shM, False, Qc, 0, 0) NM 0 0 7 [some (.ref (b + 0)), some (.int (nI s)), some (.int (nI m2)), some (.int (nI jx)), none] [] μ1 := by
    intro m7
    induction m7 with
    | zero => intro jx μ1 hm; exact absurd hm (Nat.not_lt_zero _)
    | succ m7 ih7 =>
      intro jx μ1 hm7 hi7 hm1
      have W1 : WM μ1.2.2 := by rw [hm1]; exact W
      refine AW.iload_n X dX12_pairs_7 (i := 3) rfl rfl ?_
      refine AW.bipushN X 8 dX12_pairs_8 rfl ?_
      refine AW.icmp_geN X (tgt := 26) dX12_pairs_10 (by decide) (by omega) (by omega) (fun h10 => ?_) (fun h10 => ?_)
      · obtain rfl : 8 = jx := by omega
        have n10 := Nat.not_lt_of_le h10
        refine AW.iconstN X 0 dX12_pairs_26 rfl ?_
        refine AW.istore_n X dX12_pairs_27 (i := 3) rfl rfl ?_
        have L28 : ∀ (m28 ix : Nat) (μc : Mm), m2 - ix < m28 → ix ≤ m2 → (SmM PRp μ μc) → (PRM μc (nmd (ePN S (nI s)) ix) (ovr (ePN S (nI s)) ix)) → AW κ (δ, b, NM, 5, shM, False, Qc, 0, 0) NM 0 0 28 [some (.ref (b + 0)), some (.int (nI s)), some (.int (nI m2)), some (.int (nI ix)), none] [] μc := by
          intro m28
          induction m28 with
          | zero => intro ix μc hm; exact absurd hm (Nat.not_lt_zero _)
          | succ m28 ih28 =>
            intro ix μc hm28 hi28 hsc hpc
            have Wc := wm_same W hsc
            refine AW.iload_n X dX12_pairs_28 (i := 3) rfl rfl ?_
            refine AW.iload_n X dX12_pairs_29 (i := 2) rfl rfl ?_
            refine AW.icmp_geN X (tgt := 98) dX12_pairs_30 (by decide) (by omega) (by omega) (fun h30 => ?_) (fun h30 => ?_)
            · obtain rfl : m2 = ix := by omega
              have n30 := Nat.not_lt_of_le h30
              refine AW.vret X hQ dX12_pairs_98 ⟨rfl, ?_⟩
              exact ⟨hpc, hsc⟩
            · have n30 := Nat.not_le_of_lt h30
              refine AW.aload_n X dX12_pairs_33 (i := 0) rfl rfl ?_
              refine AW.getR X dX12_pairs_34 fX12_16 rfl om0 (wm_at Wc 2 rfl) ?_
              refine AW.sipushN X 160 dX12_pairs_37 rfl ?_
              refine AW.iload_n X dX12_pairs_40 (i := 1) rfl rfl ?_
              refine AW.imulN X dX12_pairs_41 ?_
              refine AW.iload_n X dX12_pairs_42 (i := 3) rfl rfl ?_
              refine AW.iaddN X dX12_pairs_43 ?_
              refine AW.laload X dX12_pairs_44 (am_at 2 rfl) (n2_in (by omega) (by decide)) (v := (S.2.2.2 s ix)) (by rw [n2_clamp (by omega)]; exact rm_elem (rm_pr hR hsc) hs (by omega)) ?_
              refine AW.l2i X dX12_pairs_45 ?_
              have he := ePN_of hok (show ix < m by omega)
              have he1 := he.1
              rw [eP, cs] at he1
              rw [he1]
              refine AW.istore X dX12_pairs_46 rfl ?_
              have p1 := he.2.1
              have p2 := he.2.2.1
              have p5 := (hpc.2.2 (ePN S (nI s) ix / 10) he.2.1).2
              refine AW.aload_n X dX12_pairs_48 (i := 0) rfl rfl ?_
              refine AW.dup X dX12_pairs_49 rfl ?_
              refine AW.getI X dX12_pairs_50 fX12_252 rfl om0 (v := (nI (nmd (ePN S (nI s)) ix))) hpc.1 ?_
              refine AW.iconstN X 1 dX12_pairs_53 rfl ?_
              refine AW.iload X dX12_pairs_54 rfl ?_
              refine AW.bipushN X 10 dX12_pairs_56 rfl ?_
              refine AW.idivN X dX12_pairs_58 (by omega) (by omega) (by omega) ?_
              refine AW.shl1 X dX12_pairs_59 (by omega) ?_
              refine AW.iconstN X 1 dX12_pairs_60 rfl ?_
              refine AW.iload X dX12_pairs_61 rfl ?_
              refine AW.bipushN X 10 dX12_pairs_63 rfl ?_
              refine AW.iremN X dX12_pairs_65 (by omega) (by omega) (by omega) ?_
              refine AW.shl1 X dX12_pairs_66 (by omega) ?_
              refine AW.iorN X dX12_pairs_67 ?_
              refine AW.iorN X dX12_pairs_68 ?_
              refine AW.putI X dX12_pairs_69 fX12_252 rfl rfl ⟨rfl, rfl⟩ (by decide) om0 ?_
              refine AW.aload_n X dX12_pairs_72 (i := 0) rfl rfl ?_
              refine AW.getR X dX12_pairs_73 fX12_68 rfl om0 (wm_at Wc 19 rfl) ?_
              refine AW.iload X dX12_pairs_76 rfl ?_
              refine AW.bipushN X 10 dX12_pairs_78 rfl ?_
              refine AW.idivN X dX12_pairs_80 (by omega) (by omega) (by omega) ?_
              refine AW.dup2 X dX12_pairs_81 rfl rfl ?_
              refine AW.iaload X dX12_pairs_82 (am_at 19 rfl) (n2_in (by omega) (by decide)) (v := (nI ((ovr (ePN S (nI s)) ix) (ePN S (nI s) ix / 10)))) (by rw [n2_clamp (by omega)]; simpa [wI] using prm_u hpc he.2.1) ?_
              refine AW.iconstN X 1 dX12_pairs_83 rfl ?_
              refine AW.iload X dX12_pairs_84 rfl ?_
              refine AW.bipushN X 10 dX12_pairs_86 rfl ?_
              refine AW.iremN X dX12_pairs_88 (by omega) (by omega) (by omega) ?_
              refine AW.shl1 X dX12_pairs_89 (by omega) ?_
              refine AW.iorN X dX12_pairs_90 ?_
              refine AW.iastore X dX12_pairs_91 (by decide) (am_at 19 rfl) (n2_in (by omega) (by decide)) ?_
              rw [n2_clamp (by omega)]
              refine AW.iincN X (c := (ix + 1)) dX12_pairs_92 rfl (inc_1 _) rfl ?_
              refine AW.goto X (tgt := 28) dX12_pairs_95 (by decide) ?_
              refine AW.cgw (ih28 (ix + 1) (wI (wI μc 0 31 (nI ((nmd (ePN S (nI s)) ix) ||| ((2 ^ ((ePN S (nI s) ix) / 10)) ||| (2 ^ ((ePN S (nI s) ix) % 10)))))) 20 ((ePN S (nI s) ix) / 10) (nI (((ovr (ePN S (nI s)) ix) (ePN S (nI s) ix / 10)) ||| (2 ^ ((ePN S (nI s) ix) % 10))))) (by omega) (by omega) (hsc.trn ((SmM.w (Or.inr (Or.inr ⟨rfl, rfl⟩))).trn (SmM.w (Or.inl rfl)))) (prm_s (prm_add hpc he.2.1 he.2.2.1))) ⟨rfl, rfl, rfl, rfl, trivial⟩
        refine AW.cgw (L28 _ 0 μ1 (Nat.lt_succ_self _) (by omega) (by rw [hm1]; exact prp_0) (by rw [hm1]; exact prm_0)) ⟨rfl, rfl, rfl, rfl, trivial⟩
      · have n10 := Nat.not_le_of_lt h10
        refine AW.aload_n X dX12_pairs_13 (i := 0) rfl rfl ?_
        refine AW.getR X dX12_pairs_14 fX12_68 rfl om0 (wm_at W1 19 rfl) ?_
        refine AW.iload_n X dX12_pairs_17 (i := 3) rfl rfl ?_
        refine AW.iconstN X 0 dX12_pairs_18 rfl ?_
        refine AW.iastore X dX12_pairs_19 (by decide) (am_at 19 rfl) (n2_in (by omega) (by decide)) ?_
        rw [n2_clamp (by omega)]
        refine AW.iincN X (c := (jx + 1)) dX12_pairs_20 rfl (inc_1 _) rfl ?_
        refine AW.goto X (tgt := 7) dX12_pairs_23 (by decide) ?_
        refine AW.cgw (ih7 (jx + 1) (wI μ1 20 jx (nI 0)) (by omega) (by omega) (by rw [hm1, zr_s])) ⟨rfl, rfl, rfl, rfl, trivial⟩
  refine AW.cgw (L7 _ 0 (wI μ 0 31 (nI 0)) (Nat.lt_succ_self _) (by omega) (zr_0 _ _)) ⟨rfl, rfl, rfl, rfl, trivial⟩
