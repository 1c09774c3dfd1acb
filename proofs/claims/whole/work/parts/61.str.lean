/-! String constants: the claim's twelve, by their places in skey -/
def slen (i : Nat) : Nat := (sbyt.map List.length).getD i 0
def sch (i j : Nat) : Nat := ((sbyt.getD i []).getD j 0).toNatClampNeg
theorem sch_c : ∀ i, i < 12 → ∀ j, j < slen i → (((sbyt.getD i []).getD j 0 &&& nI 255).toUInt32 % 65536).toInt32 = nI (sch i j) ∧ sch i j < 128 := by decide +kernel
theorem slen_lt : ∀ i, i < 12 → slen i < 8 := by decide +kernel
theorem g_comp : Cond.fieldLink RJ0 38 "java/lang/String" "COMPACT_STRINGS" "Z" ∈ TT := tt_c3 53 (by decide +kernel) rfl
theorem g_sioo : Cond.fieldLink RJ0 1053 "jdk/internal/util/Preconditions" "SIOOBE_FORMATTER" "Ljava/util/function/BiFunction;" ∈ TT := tt_c3 73 (by decide +kernel) rfl
theorem g_sval : Cond.fieldLink RJ0 9 "java/lang/String" "value" "[B" ∈ TT := tt_c6 195 (by decide +kernel) rfl
theorem g_scod : Cond.fieldLink RJ0 15 "java/lang/String" "coder" "B" ∈ TT := tt_c6 196 (by decide +kernel) rfl
theorem ch_nar {v : Nat} (h : v < 128) : narrow .char (.int (nI v)) = .int (nI v) := (by decide +kernel : ∀ v, v < 128 → narrow .char (.int (nI v)) = .int (nI v)) v h
section STRS
variable {κ : Kt} {δ : Dl} {b n nL : Nat} {sh : Sh} {tp : Prop} {Qc : Array Value → State → Outcome → State → Prop} {mc ms d : Nat} {own nm : String} {cc : ByteArray} {ret : Option FieldType} {N cells slots pc : Nat} {ls : List (Option Value)} {st st0 : List Value} {μ : Mm}
variable {idx i j : Nat} {y' : MethodName} {bytes : ByteArray} {maxL : Nat} {ret' : Option FieldType} {d' mc' ms' N2 k0 : Nat} {av : List Value} {post : Option Value → Mm → Prop}
theorem AW.ldcS (X : CX κ (δ, b, n, nL, sh, tp, Qc, mc, ms) own nm cc ret d) {tx : String} {bs : List Int32} (hd : decode cc pc = .ok (.ldc idx, 2)) (hq : skey[i]? = some (own, idx, tx, bs)) (k : AW κ (δ, b, n, nL, sh, tp, Qc, mc, ms) N cells slots (pc + 2) ls (.ref (δ.2.2.1 i) :: st) μ) : AW κ (δ, b, n, nL, sh, tp, Qc, mc, ms) N cells slots pc ls st μ := by
  obtain ⟨p, l, e, R, s, m, args, below, meth, c⟩ := κ
  intro H locs lsr hP hT hS h
  obtain ⟨x1, x2, x3, x4, hts, x6, x7, x8, hK, hKS, hR⟩ := X
  exact va_ldcS x1 x2 x4 (hK.2.2.2.1 i _ hq) hd (k H locs lsr hP hT hS h)
theorem AW.getsC (X : CX κ (δ, b, n, nL, sh, tp, Qc, mc, ms) own nm cc ret d) (hd : decode cc pc = .ok (.getstatic idx, 3)) (g : Cond.fieldLink own idx "java/lang/String" "COMPACT_STRINGS" "Z" ∈ TT) (k : AW κ (δ, b, n, nL, sh, tp, Qc, mc, ms) N cells slots (pc + 3) ls (.int 1 :: st) μ) : AW κ (δ, b, n, nL, sh, tp, Qc, mc, ms) N cells slots pc ls st μ := by
  obtain ⟨p, l, e, R, s, m, args, below, meth, c⟩ := κ
  intro H locs lsr hP hT hS h
  obtain ⟨x1, x2, x3, x4, hts, x6, x7, x8, hK, hKS, hR⟩ := X
  exact va_gets x1 x2 hKS.2.1 hS x4 (hts _ g) (fun x hx => hx) hd (k H locs lsr hP hT hS h)
theorem AW.getsQ (X : CX κ (δ, b, n, nL, sh, tp, Qc, mc, ms) own nm cc ret d) (hd : decode cc pc = .ok (.getstatic idx, 3)) (g : Cond.fieldLink own idx "jdk/internal/util/Preconditions" "SIOOBE_FORMATTER" "Ljava/util/function/BiFunction;" ∈ TT) (k1 : AW κ (δ, b, n, nL, sh, tp, Qc, mc, ms) N cells slots (pc + 3) ls (.null :: st) μ) (k2 : ∀ t : Nat, AW κ (δ, b, n, nL, sh, tp, Qc, mc, ms) N cells slots (pc + 3) ls (.ref t :: st) μ) : AW κ (δ, b, n, nL, sh, tp, Qc, mc, ms) N cells slots pc ls st μ := by
  obtain ⟨p, l, e, R, s, m, args, below, meth, c⟩ := κ
  intro H locs lsr hP hT hS h
  obtain ⟨x1, x2, x3, x4, hts, x6, x7, x8, hK, hKS, hR⟩ := X
  rcases hKS.2.2 with q | ⟨t, q⟩
  · exact va_gets x1 x2 q hS x4 (hts _ g) (fun x hx => hx) hd (k1 H locs lsr hP hT hS h)
  · exact va_gets x1 x2 q hS x4 (hts _ g) (fun x hx => hx) hd (k2 t H locs lsr hP hT hS h)
theorem AW.getSV (X : CX κ (δ, b, n, nL, sh, tp, Qc, mc, ms) own nm cc ret d) (hi : i < 12) (hd : decode cc pc = .ok (.getfield idx, 3)) (g : Cond.fieldLink own idx "java/lang/String" "value" "[B" ∈ TT) (k : AW κ (δ, b, n, nL, sh, tp, Qc, mc, ms) N cells slots (pc + 3) ls (.ref (δ.2.2.2 i) :: st) μ) : AW κ (δ, b, n, nL, sh, tp, Qc, mc, ms) N cells slots pc ls (.ref (δ.2.2.1 i) :: st) μ := by
  obtain ⟨p, l, e, R, s, m, args, below, meth, c⟩ := κ
  intro H locs lsr hP hT hS h
  obtain ⟨x1, x2, x3, x4, hts, x6, x7, x8, hK, hKS, hR⟩ := X
  exact vk_getf x1 x2 (hKS.1.1 i hi).2.2.1 hS x4 (hts _ g) (fun x hx => hx) hd (k H locs lsr hP hT hS h)
theorem AW.getSC (X : CX κ (δ, b, n, nL, sh, tp, Qc, mc, ms) own nm cc ret d) (hi : i < 12) (hd : decode cc pc = .ok (.getfield idx, 3)) (g : Cond.fieldLink own idx "java/lang/String" "coder" "B" ∈ TT) (k : AW κ (δ, b, n, nL, sh, tp, Qc, mc, ms) N cells slots (pc + 3) ls (.int 0 :: st) μ) : AW κ (δ, b, n, nL, sh, tp, Qc, mc, ms) N cells slots pc ls (.ref (δ.2.2.1 i) :: st) μ := by
  obtain ⟨p, l, e, R, s, m, args, below, meth, c⟩ := κ
  intro H locs lsr hP hT hS h
  obtain ⟨x1, x2, x3, x4, hts, x6, x7, x8, hK, hKS, hR⟩ := X
  exact vk_getf x1 x2 (hKS.1.1 i hi).2.1 hS x4 (hts _ g) (fun x hx => hx) hd (k H locs lsr hP hT hS h)
theorem AW.alenS (X : CX κ (δ, b, n, nL, sh, tp, Qc, mc, ms) own nm cc ret d) (hi : i < 12) (hd : decode cc pc = .ok (.arraylength, 1)) (k : AW κ (δ, b, n, nL, sh, tp, Qc, mc, ms) N cells slots (pc + 1) ls (.int (nI (slen i)) :: st) μ) : AW κ (δ, b, n, nL, sh, tp, Qc, mc, ms) N cells slots pc ls (.ref (δ.2.2.2 i) :: st) μ := by
  obtain ⟨p, l, e, R, s, m, args, below, meth, c⟩ := κ
  intro H locs lsr hP hT hS h
  obtain ⟨x1, x2, x3, x4, hts, x6, x7, x8, hK, hKS, hR⟩ := X
  exact va_tlen x1 x2 (hKS.1.1 i hi).2.2.2 hS rfl hd (k H locs lsr hP hT hS h)
theorem AW.baloadS (X : CX κ (δ, b, n, nL, sh, tp, Qc, mc, ms) own nm cc ret d) (hi : i < 12) (hj : j < slen i) (hd : decode cc pc = .ok (.baload, 1)) (k : AW κ (δ, b, n, nL, sh, tp, Qc, mc, ms) N cells slots (pc + 1) ls (.int ((sbyt.getD i []).getD j 0) :: st) μ) : AW κ (δ, b, n, nL, sh, tp, Qc, mc, ms) N cells slots pc ls (.int (nI j) :: .ref (δ.2.2.2 i) :: st) μ := by
  obtain ⟨p, l, e, R, s, m, args, below, meth, c⟩ := κ
  intro H locs lsr hP hT hS h
  obtain ⟨x1, x2, x3, x4, hts, x6, x7, x8, hK, hKS, hR⟩ := X
  have h8 := slen_lt i hi
  exact va_tb x1 x2 (hKS.1.1 i hi).2.2.2 hS (n2_in hj (Nat.lt_trans (show (sbyt.map List.length).getD i 0 < 8 from h8) (by decide))) (by rw [n2_clamp (by omega)]) hd (k H locs lsr hP hT hS h)
theorem AW.i2c (X : CX κ (δ, b, n, nL, sh, tp, Qc, mc, ms) own nm cc ret d) {x v : Int32} (hd : decode cc pc = .ok (.i2c, 1)) (hv : (x.toUInt32 % 65536).toInt32 = v) (k : AW κ (δ, b, n, nL, sh, tp, Qc, mc, ms) N cells slots (pc + 1) ls (.int v :: st) μ) : AW κ (δ, b, n, nL, sh, tp, Qc, mc, ms) N cells slots pc ls (.int x :: st) μ := by
  obtain ⟨p, l, e, R, s, m, args, below, meth, c⟩ := κ
  intro H locs lsr hP hT hS h
  exact lv_i2c X.1 X.2.1 hd hv (k H locs lsr hP hT hS h)
theorem AW.callVS (X : CX κ (δ, b, n, nL, sh, tp, Qc, mc, ms) own nm cc ret d) (hi : i < 12) (hd : decode cc pc = .ok (.invokevirtual idx, 3)) (L : LV own idx "java/lang/String" y' bytes maxL ret' k0) (hM : MC κ.2.1 δ b n sh tp y' bytes maxL ret' d' mc' ms' N N2 (.ref (δ.2.2.1 i) :: av) μ post) (hav : av.length = k0) (hst : st0 = av.reverse ++ .ref (δ.2.2.1 i) :: st) (hcat : Nat.ble (st.map fun v => v.category).sum 8 = true) (hd' : Nat.ble (d' + 1) d = true) (hr : Nat.ble (cells + mc') mc = true ∧ Nat.ble (slots + ms') ms = true)
    (kk : ∀ (v : Option Value) (μ' : Mm), post v μ' → AW κ (δ, b, n, nL, sh, tp, Qc, mc, ms) N2 (cells + mc') (slots + ms') (pc + 3) ls (v.toList ++ st) μ') : AW κ (δ, b, n, nL, sh, tp, Qc, mc, ms) N cells slots pc ls st0 μ := by
  obtain ⟨p, l, e, R, s, m, args, below, meth, c⟩ := κ
  intro H locs lsr hP hT hS h
  subst hst
  obtain ⟨x1, x2, x3, x4, hts, x6, x7, x8, hK, hKS, hR⟩ := X
  obtain ⟨l1, l2, l3, l4, l5, l6, l7⟩ := L
  subst hR
  refine run_core (va_runV (As := av) (rest := st) ⟨x1, x2, x3, x4, hts⟩ hM (cwV k0 hts (fun w hw => ?_) rfl rfl rfl l7 (rm_fit (Nat.le_of_ble_eq_true hd') l6)) ⟨pc_blind _ _ _ _, vk_recv hKS.1 hi hS, fun U hU hW => ⟨rfl, by rw [hU]; exact hP, by rw [hU]; exact hT, KX.warm hW hK, KS.at hKS hS hU hW⟩⟩ rfl hav h.1 rfl (cat_fit (Nat.le_of_ble_eq_true hcat)) hd ⟨Nat.le_of_ble_eq_true hr.1, Nat.le_of_ble_eq_true hr.2⟩) hS (fun v μ' H1 locs1 hp hP1 hT1 hS1 => kk v μ' hp H1 locs1 lsr hP1 hT1 hS1 h)
  have key : w ∈ TT := by
    simp only [wsV, List.cons_append, List.nil_append, List.mem_cons] at hw
    rcases hw with rfl | rfl | rfl | rfl | rfl | hw <;> assumption
  exact ⟨key, tt_good key⟩
end STRS
set_option maxRecDepth 100000 in
set_option maxHeartbeats 4000000 in
theorem c_J0_coder_7d493 {l : Launch} {δ : Dl} {b nn NN : Nat} {sh : Sh} {μ : Mm} {i : Nat} (hi : i < 12) : MC l δ b nn sh False yJ0_coder_7d493 cJ0_coder_7d493 1 (some .byte) 1 0 0 NN NN [.ref (δ.2.2.1 i)] μ (pI fun r μ' => r = 0 ∧ μ' = μ) := by
  refine MC.intro ([some (.ref (δ.2.2.1 i))]) (by decide) rfl rfl fun κ Qc hl hQ X => ?_
  subst hl
  refine AW.getsC X dJ0_coder_7d493_0 g_comp ?_
  refine AW.if_eq X (tgt := 13) dJ0_coder_7d493_3 (by decide) (fun h3 => absurd h3 (by decide)) (fun h3 => ?_)
  refine AW.aload_n X dJ0_coder_7d493_6 (i := 0) rfl rfl ?_
  refine AW.getSC X hi dJ0_coder_7d493_7 g_scod ?_
  refine AW.goto X (tgt := 14) dJ0_coder_7d493_10 (by decide) ?_
  exact AW.zret X rfl hQ dJ0_coder_7d493_14 ⟨_, rfl, rfl, rfl⟩
set_option maxRecDepth 100000 in
set_option maxHeartbeats 4000000 in
theorem c_J0_length_8abf5 {l : Launch} {δ : Dl} {b nn NN : Nat} {sh : Sh} {μ : Mm} {i : Nat} (hi : i < 12) : MC l δ b nn sh False yJ0_length_8abf5 cJ0_length_8abf5 1 (some .int) 2 0 0 NN NN [.ref (δ.2.2.1 i)] μ (pI fun r μ' => r = nI (slen i) ∧ μ' = μ) := by
  refine MC.intro ([some (.ref (δ.2.2.1 i))]) (by decide) rfl rfl fun κ Qc hl hQ X => ?_
  subst hl
  have h8 := slen_lt i hi
  refine AW.aload_n X dJ0_length_8abf5_0 (i := 0) rfl rfl ?_
  refine AW.getSV X hi dJ0_length_8abf5_1 g_sval ?_
  refine AW.alenS X hi dJ0_length_8abf5_4 ?_
  refine AW.aload_n X dJ0_length_8abf5_5 (i := 0) rfl rfl ?_
  refine AW.callVS X hi dJ0_length_8abf5_6 lJ0_335 (c_J0_coder_7d493 hi) rfl rfl rfl rfl ⟨rfl, rfl⟩ (pR_k ?_)
  refine AW.ishr X dJ0_length_8abf5_9 ?_
  refine AW.iret X hQ dJ0_length_8abf5_10 ⟨_, rfl, ?_, rfl⟩
  exact (shr_n (c := 0) (show slen i < 2147483648 by omega) (by decide)).trans (by rw [Nat.pow_zero, Nat.div_one])
set_option maxRecDepth 100000 in
set_option maxHeartbeats 4000000 in
theorem c_J0_isLatin1_aae02 {l : Launch} {δ : Dl} {b nn NN : Nat} {sh : Sh} {μ : Mm} {i : Nat} (hi : i < 12) : MC l δ b nn sh False yJ0_isLatin1_aae02 cJ0_isLatin1_aae02 1 (some .boolean) 1 0 0 NN NN [.ref (δ.2.2.1 i)] μ (pI fun r μ' => r = 1 ∧ μ' = μ) := by
  refine MC.intro ([some (.ref (δ.2.2.1 i))]) (by decide) rfl rfl fun κ Qc hl hQ X => ?_
  subst hl
  refine AW.getsC X dJ0_isLatin1_aae02_0 g_comp ?_
  refine AW.if_eq X (tgt := 17) dJ0_isLatin1_aae02_3 (by decide) (fun h3 => absurd h3 (by decide)) (fun h3 => ?_)
  refine AW.aload_n X dJ0_isLatin1_aae02_6 (i := 0) rfl rfl ?_
  refine AW.getSC X hi dJ0_isLatin1_aae02_7 g_scod ?_
  refine AW.if_ne X (tgt := 17) dJ0_isLatin1_aae02_10 (by decide) (fun h10 => absurd rfl h10) (fun h10 => ?_)
  refine AW.iconst X (v := 1) dJ0_isLatin1_aae02_13 rfl ?_
  refine AW.goto X (tgt := 18) dJ0_isLatin1_aae02_14 (by decide) ?_
  exact AW.zret X rfl hQ dJ0_isLatin1_aae02_18 ⟨_, rfl, rfl, rfl⟩
set_option maxRecDepth 100000 in
set_option maxHeartbeats 4000000 in
theorem c_J3n {l : Launch} {δ : Dl} {b nn NN : Nat} {sh : Sh} {μ : Mm} {j m : Nat} (hj : j < m) (hm : m < 1000) : MC l δ b nn sh False yJ3_checkIndex_8e157 cJ3_checkIndex_8e157 3 (some .int) 1 0 0 NN NN [.int (nI j), .int (nI m), .null] μ (pI fun r μ' => r = nI j ∧ μ' = μ) := by
  refine MC.intro ([some (.int (nI j)), some (.int (nI m)), some (.null)]) (by decide) rfl rfl fun κ Qc hl hQ X => ?_
  subst hl
  refine AW.iload_n X dJ3_checkIndex_8e157_0 (i := 0) rfl rfl ?_
  refine AW.if_ltN X (tgt := 9) dJ3_checkIndex_8e157_1 (by decide) (by omega) (fun h1 => h1.elim) (fun h1 => ?_)
  refine AW.iload_n X dJ3_checkIndex_8e157_4 (i := 0) rfl rfl ?_
  refine AW.iload_n X dJ3_checkIndex_8e157_5 (i := 1) rfl rfl ?_
  refine AW.icmp_ltN X (tgt := 16) dJ3_checkIndex_8e157_6 (by decide) (by omega) (by omega) (fun h6 => ?_) (fun h6 => absurd hj (Nat.not_lt.mpr h6))
  refine AW.iload_n X dJ3_checkIndex_8e157_16 (i := 0) rfl rfl ?_
  exact AW.iret X hQ dJ3_checkIndex_8e157_17 ⟨_, rfl, rfl, rfl⟩
set_option maxRecDepth 100000 in
set_option maxHeartbeats 4000000 in
theorem c_J3r {l : Launch} {δ : Dl} {b nn NN : Nat} {sh : Sh} {μ : Mm} {j m : Nat} {t : Nat} (hj : j < m) (hm : m < 1000) : MC l δ b nn sh False yJ3_checkIndex_8e157 cJ3_checkIndex_8e157 3 (some .int) 1 0 0 NN NN [.int (nI j), .int (nI m), .ref t] μ (pI fun r μ' => r = nI j ∧ μ' = μ) := by
  refine MC.intro ([some (.int (nI j)), some (.int (nI m)), some (.ref t)]) (by decide) rfl rfl fun κ Qc hl hQ X => ?_
  subst hl
  refine AW.iload_n X dJ3_checkIndex_8e157_0 (i := 0) rfl rfl ?_
  refine AW.if_ltN X (tgt := 9) dJ3_checkIndex_8e157_1 (by decide) (by omega) (fun h1 => h1.elim) (fun h1 => ?_)
  refine AW.iload_n X dJ3_checkIndex_8e157_4 (i := 0) rfl rfl ?_
  refine AW.iload_n X dJ3_checkIndex_8e157_5 (i := 1) rfl rfl ?_
  refine AW.icmp_ltN X (tgt := 16) dJ3_checkIndex_8e157_6 (by decide) (by omega) (by omega) (fun h6 => ?_) (fun h6 => absurd hj (Nat.not_lt.mpr h6))
  refine AW.iload_n X dJ3_checkIndex_8e157_16 (i := 0) rfl rfl ?_
  exact AW.iret X hQ dJ3_checkIndex_8e157_17 ⟨_, rfl, rfl, rfl⟩
set_option maxRecDepth 100000 in
set_option maxHeartbeats 4000000 in
theorem c_J0_checkIndex_df160 {l : Launch} {δ : Dl} {b nn NN : Nat} {sh : Sh} {μ : Mm} {j m : Nat} (hj : j < m) (hm : m < 1000) : MC l δ b nn sh False yJ0_checkIndex_df160 cJ0_checkIndex_df160 2 none 2 0 0 NN NN [.int (nI j), .int (nI m)] μ (pV fun μ' => μ' = μ) := by
  refine MC.intro ([some (.int (nI j)), some (.int (nI m))]) (by decide) rfl rfl fun κ Qc hl hQ X => ?_
  subst hl
  refine AW.iload_n X dJ0_checkIndex_df160_0 (i := 0) rfl rfl ?_
  refine AW.iload_n X dJ0_checkIndex_df160_1 (i := 1) rfl rfl ?_
  refine AW.getsQ X dJ0_checkIndex_df160_2 g_sioo ?_ (fun t => ?_)
  · refine AW.callS X dJ0_checkIndex_df160_5 lJ0_1059 (c_J3n hj hm) rfl rfl rfl rfl ⟨rfl, rfl⟩ (pR_k ?_)
    refine AW.pop X dJ0_checkIndex_df160_8 rfl ?_
    exact AW.vret X hQ dJ0_checkIndex_df160_9 ⟨rfl, rfl⟩
  · refine AW.callS X dJ0_checkIndex_df160_5 lJ0_1059 (c_J3r (t := t) hj hm) rfl rfl rfl rfl ⟨rfl, rfl⟩ (pR_k ?_)
    refine AW.pop X dJ0_checkIndex_df160_8 rfl ?_
    exact AW.vret X hQ dJ0_checkIndex_df160_9 ⟨rfl, rfl⟩
set_option maxRecDepth 100000 in
set_option maxHeartbeats 4000000 in
theorem c_J1_charAt_3b067 {l : Launch} {δ : Dl} {b nn NN : Nat} {sh : Sh} {μ : Mm} {i j : Nat} (hi : i < 12) (hj : j < slen i) : MC l δ b nn sh False yJ1_charAt_3b067 cJ1_charAt_3b067 2 (some .char) 3 0 0 NN NN [.ref (δ.2.2.2 i), .int (nI j)] μ (pI fun r μ' => r = nI (sch i j) ∧ μ' = μ) := by
  refine MC.intro ([some (.ref (δ.2.2.2 i)), some (.int (nI j))]) (by decide) rfl rfl fun κ Qc hl hQ X => ?_
  subst hl
  have h8 := slen_lt i hi
  refine AW.iload_n X dJ1_charAt_3b067_0 (i := 1) rfl rfl ?_
  refine AW.aload_n X dJ1_charAt_3b067_1 (i := 0) rfl rfl ?_
  refine AW.alenS X hi dJ1_charAt_3b067_2 ?_
  refine AW.callS X dJ1_charAt_3b067_3 lJ1_9 (c_J0_checkIndex_df160 hj (by omega)) rfl rfl rfl rfl ⟨rfl, rfl⟩ (pV_k fun μ1 h1 => ?_)
  subst h1
  refine AW.aload_n X dJ1_charAt_3b067_6 (i := 0) rfl rfl ?_
  refine AW.iload_n X dJ1_charAt_3b067_7 (i := 1) rfl rfl ?_
  refine AW.baloadS X hi hj dJ1_charAt_3b067_8 ?_
  refine AW.sipushN X 255 dJ1_charAt_3b067_9 rfl ?_
  refine AW.iand X dJ1_charAt_3b067_12 ?_
  refine AW.i2c X dJ1_charAt_3b067_13 (sch_c i hi j hj).1 ?_
  exact AW.zret X (ch_nar (sch_c i hi j hj).2) hQ dJ1_charAt_3b067_14 ⟨_, rfl, rfl, rfl⟩
set_option maxRecDepth 100000 in
set_option maxHeartbeats 4000000 in
theorem c_J0_charAt_5068e {l : Launch} {δ : Dl} {b nn NN : Nat} {sh : Sh} {μ : Mm} {i j : Nat} (hi : i < 12) (hj : j < slen i) : MC l δ b nn sh False yJ0_charAt_5068e cJ0_charAt_5068e 2 (some .char) 5 0 0 NN NN [.ref (δ.2.2.1 i), .int (nI j)] μ (pI fun r μ' => r = nI (sch i j) ∧ μ' = μ) := by
  refine MC.intro ([some (.ref (δ.2.2.1 i)), some (.int (nI j))]) (by decide) rfl rfl fun κ Qc hl hQ X => ?_
  subst hl
  refine AW.aload_n X dJ0_charAt_5068e_0 (i := 0) rfl rfl ?_
  refine AW.callVS X hi dJ0_charAt_5068e_1 lJ0_492 (c_J0_isLatin1_aae02 hi) rfl rfl rfl rfl ⟨rfl, rfl⟩ (pR_k ?_)
  refine AW.if_eq X (tgt := 16) dJ0_charAt_5068e_4 (by decide) (fun h4 => absurd h4 (by decide)) (fun h4 => ?_)
  refine AW.aload_n X dJ0_charAt_5068e_7 (i := 0) rfl rfl ?_
  refine AW.getSV X hi dJ0_charAt_5068e_8 g_sval ?_
  refine AW.iload_n X dJ0_charAt_5068e_11 (i := 1) rfl rfl ?_
  refine AW.callS X dJ0_charAt_5068e_12 lJ0_495 (c_J1_charAt_3b067 hi hj) rfl rfl rfl rfl ⟨rfl, rfl⟩ (pR_k ?_)
  exact AW.zret X (ch_nar (sch_c i hi j hj).2) hQ dJ0_charAt_5068e_15 ⟨_, rfl, rfl, rfl⟩
