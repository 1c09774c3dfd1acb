def bcI (x : Int32) : Int32 := ((((((((x - (((x.toUInt32 >>> ((nI 1).toUInt32 &&& Int32.toUInt32 31)).toInt32) &&& (1431655765))) &&& (858993459)) + ((((x - (((x.toUInt32 >>> ((nI 1).toUInt32 &&& Int32.toUInt32 31)).toInt32) &&& (1431655765))).toUInt32 >>> ((nI 2).toUInt32 &&& Int32.toUInt32 31)).toInt32) &&& (858993459))) + (((((x - (((x.toUInt32 >>> ((nI 1).toUInt32 &&& Int32.toUInt32 31)).toInt32) &&& (1431655765))) &&& (858993459)) + ((((x - (((x.toUInt32 >>> ((nI 1).toUInt32 &&& Int32.toUInt32 31)).toInt32) &&& (1431655765))).toUInt32 >>> ((nI 2).toUInt32 &&& Int32.toUInt32 31)).toInt32) &&& (858993459))).toUInt32 >>> ((nI 4).toUInt32 &&& Int32.toUInt32 31)).toInt32)) &&& (252645135)) + (((((((x - (((x.toUInt32 >>> ((nI 1).toUInt32 &&& Int32.toUInt32 31)).toInt32) &&& (1431655765))) &&& (858993459)) + ((((x - (((x.toUInt32 >>> ((nI 1).toUInt32 &&& Int32.toUInt32 31)).toInt32) &&& (1431655765))).toUInt32 >>> ((nI 2).toUInt32 &&& Int32.toUInt32 31)).toInt32) &&& (858993459))) + (((((x - (((x.toUInt32 >>> ((nI 1).toUInt32 &&& Int32.toUInt32 31)).toInt32) &&& (1431655765))) &&& (858993459)) + ((((x - (((x.toUInt32 >>> ((nI 1).toUInt32 &&& Int32.toUInt32 31)).toInt32) &&& (1431655765))).toUInt32 >>> ((nI 2).toUInt32 &&& Int32.toUInt32 31)).toInt32) &&& (858993459))).toUInt32 >>> ((nI 4).toUInt32 &&& Int32.toUInt32 31)).toInt32)) &&& (252645135)).toUInt32 >>> ((nI 8).toUInt32 &&& Int32.toUInt32 31)).toInt32)) + ((((((((x - (((x.toUInt32 >>> ((nI 1).toUInt32 &&& Int32.toUInt32 31)).toInt32) &&& (1431655765))) &&& (858993459)) + ((((x - (((x.toUInt32 >>> ((nI 1).toUInt32 &&& Int32.toUInt32 31)).toInt32) &&& (1431655765))).toUInt32 >>> ((nI 2).toUInt32 &&& Int32.toUInt32 31)).toInt32) &&& (858993459))) + (((((x - (((x.toUInt32 >>> ((nI 1).toUInt32 &&& Int32.toUInt32 31)).toInt32) &&& (1431655765))) &&& (858993459)) + ((((x - (((x.toUInt32 >>> ((nI 1).toUInt32 &&& Int32.toUInt32 31)).toInt32) &&& (1431655765))).toUInt32 >>> ((nI 2).toUInt32 &&& Int32.toUInt32 31)).toInt32) &&& (858993459))).toUInt32 >>> ((nI 4).toUInt32 &&& Int32.toUInt32 31)).toInt32)) &&& (252645135)) + (((((((x - (((x.toUInt32 >>> ((nI 1).toUInt32 &&& Int32.toUInt32 31)).toInt32) &&& (1431655765))) &&& (858993459)) + ((((x - (((x.toUInt32 >>> ((nI 1).toUInt32 &&& Int32.toUInt32 31)).toInt32) &&& (1431655765))).toUInt32 >>> ((nI 2).toUInt32 &&& Int32.toUInt32 31)).toInt32) &&& (858993459))) + (((((x - (((x.toUInt32 >>> ((nI 1).toUInt32 &&& Int32.toUInt32 31)).toInt32) &&& (1431655765))) &&& (858993459)) + ((((x - (((x.toUInt32 >>> ((nI 1).toUInt32 &&& Int32.toUInt32 31)).toInt32) &&& (1431655765))).toUInt32 >>> ((nI 2).toUInt32 &&& Int32.toUInt32 31)).toInt32) &&& (858993459))).toUInt32 >>> ((nI 4).toUInt32 &&& Int32.toUInt32 31)).toInt32)) &&& (252645135)).toUInt32 >>> ((nI 8).toUInt32 &&& Int32.toUInt32 31)).toInt32)).toUInt32 >>> ((nI 16).toUInt32 &&& Int32.toUInt32 31)).toInt32)) &&& (nI 63))
def pcnt (a : Nat) : Nat := ((List.range 8).filter (fun i => a.testBit i)).length
theorem bc_n : ∀ a, a < 256 → bcI (nI a) = nI (pcnt a) := by decide +kernel
theorem pcnt_le (a : Nat) : pcnt a ≤ 8 := by
  have := List.length_filter_le (fun i => a.testBit i) (List.range 8)
  simpa [pcnt] using this
def top (a : Nat) : Nat := Nat.log2 a
theorem nlz_1 : ∀ a, a < 256 → 0 < a → a < 4 → 31 - a / 2 ^ 1 = 31 - top a := by decide +kernel
theorem nlz_2 : ∀ a, a < 256 → a < 16 → 4 ≤ a → 31 - 2 - a / 2 ^ 2 / 2 ^ 1 = 31 - top a := by decide +kernel
theorem nlz_3 : ∀ a, a < 256 → 16 ≤ a → a / 2 ^ 4 < 4 → 31 - 4 - a / 2 ^ 4 / 2 ^ 1 = 31 - top a := by decide +kernel
theorem nlz_4 : ∀ a, a < 256 → 4 ≤ a / 2 ^ 4 → 31 - 4 - 2 - a / 2 ^ 4 / 2 ^ 2 / 2 ^ 1 = 31 - top a := by decide +kernel
theorem hob_t : ∀ a, a < 256 → 0 < a → nI a &&& ((-2147483648 : Int32).toUInt32 >>> ((nI (31 - top a)).toUInt32 &&& Int32.toUInt32 31)).toInt32 = nI (2 ^ top a) := by decide +kernel
theorem top_bit : ∀ a, a < 256 → 0 < a → a.testBit (top a) = true ∧ top a < 8 ∧ ∀ i, i < 8 → top a < i → a.testBit i = false := by decide +kernel
set_option maxRecDepth 100000 in
set_option maxHeartbeats 4000000 in
theorem c_J6_bitCount_0f7a4 {l : Launch} {δ : Dl} {b nn NN : Nat} {sh : Sh} {μ : Mm} {x : Int32} : MC l δ b nn sh False yJ6_bitCount_0f7a4 cJ6_bitCount_0f7a4 1 (some .int) 1 0 0 NN NN [.int x] μ (pI fun r μ' => r = bcI x ∧ μ' = μ) := by
  refine MC.intro ([some (.int x)]) (by decide) rfl rfl fun κ Qc hl hQ X => ?_
  subst hl
  refine AW.iload_n X dJ6_bitCount_0f7a4_0 (i := 0) rfl rfl ?_
  refine AW.iload_n X dJ6_bitCount_0f7a4_1 (i := 0) rfl rfl ?_
  refine AW.iconstN X 1 dJ6_bitCount_0f7a4_2 rfl ?_
  refine AW.iushr X dJ6_bitCount_0f7a4_3 ?_
  refine AW.ldciw X (v := 1431655765) dJ6_bitCount_0f7a4_4 kJ6_265 ?_
  refine AW.iand X dJ6_bitCount_0f7a4_7 ?_
  refine AW.isub X dJ6_bitCount_0f7a4_8 ?_
  refine AW.istore_n X dJ6_bitCount_0f7a4_9 (i := 0) rfl rfl ?_
  refine AW.iload_n X dJ6_bitCount_0f7a4_10 (i := 0) rfl rfl ?_
  refine AW.ldciw X (v := 858993459) dJ6_bitCount_0f7a4_11 kJ6_266 ?_
  refine AW.iand X dJ6_bitCount_0f7a4_14 ?_
  refine AW.iload_n X dJ6_bitCount_0f7a4_15 (i := 0) rfl rfl ?_
  refine AW.iconstN X 2 dJ6_bitCount_0f7a4_16 rfl ?_
  refine AW.iushr X dJ6_bitCount_0f7a4_17 ?_
  refine AW.ldciw X (v := 858993459) dJ6_bitCount_0f7a4_18 kJ6_266 ?_
  refine AW.iand X dJ6_bitCount_0f7a4_21 ?_
  refine AW.iadd X dJ6_bitCount_0f7a4_22 ?_
  refine AW.istore_n X dJ6_bitCount_0f7a4_23 (i := 0) rfl rfl ?_
  refine AW.iload_n X dJ6_bitCount_0f7a4_24 (i := 0) rfl rfl ?_
  refine AW.iload_n X dJ6_bitCount_0f7a4_25 (i := 0) rfl rfl ?_
  refine AW.iconstN X 4 dJ6_bitCount_0f7a4_26 rfl ?_
  refine AW.iushr X dJ6_bitCount_0f7a4_27 ?_
  refine AW.iadd X dJ6_bitCount_0f7a4_28 ?_
  refine AW.ldciw X (v := 252645135) dJ6_bitCount_0f7a4_29 kJ6_267 ?_
  refine AW.iand X dJ6_bitCount_0f7a4_32 ?_
  refine AW.istore_n X dJ6_bitCount_0f7a4_33 (i := 0) rfl rfl ?_
  refine AW.iload_n X dJ6_bitCount_0f7a4_34 (i := 0) rfl rfl ?_
  refine AW.iload_n X dJ6_bitCount_0f7a4_35 (i := 0) rfl rfl ?_
  refine AW.bipushN X 8 dJ6_bitCount_0f7a4_36 rfl ?_
  refine AW.iushr X dJ6_bitCount_0f7a4_38 ?_
  refine AW.iadd X dJ6_bitCount_0f7a4_39 ?_
  refine AW.istore_n X dJ6_bitCount_0f7a4_40 (i := 0) rfl rfl ?_
  refine AW.iload_n X dJ6_bitCount_0f7a4_41 (i := 0) rfl rfl ?_
  refine AW.iload_n X dJ6_bitCount_0f7a4_42 (i := 0) rfl rfl ?_
  refine AW.bipushN X 16 dJ6_bitCount_0f7a4_43 rfl ?_
  refine AW.iushr X dJ6_bitCount_0f7a4_45 ?_
  refine AW.iadd X dJ6_bitCount_0f7a4_46 ?_
  refine AW.istore_n X dJ6_bitCount_0f7a4_47 (i := 0) rfl rfl ?_
  refine AW.iload_n X dJ6_bitCount_0f7a4_48 (i := 0) rfl rfl ?_
  refine AW.bipushN X 63 dJ6_bitCount_0f7a4_49 rfl ?_
  refine AW.iand X dJ6_bitCount_0f7a4_51 ?_
  refine AW.iret X hQ dJ6_bitCount_0f7a4_52 ⟨_, rfl, ?_⟩
  exact ⟨rfl, rfl⟩
set_option maxRecDepth 100000 in
set_option maxHeartbeats 4000000 in
theorem c_J6_numberOfLeadingZeros_0f7a4 {l : Launch} {δ : Dl} {b nn NN : Nat} {sh : Sh} {μ : Mm} {a : Nat} (h0 : 0 < a) (ha : a < 256) : MC l δ b nn sh False yJ6_numberOfLeadingZeros_0f7a4 cJ6_numberOfLeadingZeros_0f7a4 2 (some .int) 1 0 0 NN NN [.int (nI a)] μ (pI fun r μ' => r = nI (31 - top a) ∧ μ' = μ) := by
  refine MC.intro ([some (.int (nI a)), none]) (by decide) rfl rfl fun κ Qc hl hQ X => ?_
  subst hl
  refine AW.iload_n X dJ6_numberOfLeadingZeros_0f7a4_0 (i := 0) rfl rfl ?_
  refine AW.if_gtN X (tgt := 15) dJ6_numberOfLeadingZeros_0f7a4_1 (by decide) (by omega) (fun h1 => ?_) (fun h1 => ?_)
  · refine AW.bipushN X 31 dJ6_numberOfLeadingZeros_0f7a4_15 rfl ?_
    refine AW.istore_n X dJ6_numberOfLeadingZeros_0f7a4_17 (i := 1) rfl rfl ?_
    refine AW.iload_n X dJ6_numberOfLeadingZeros_0f7a4_18 (i := 0) rfl rfl ?_
    refine AW.ldciw X (v := 65536) dJ6_numberOfLeadingZeros_0f7a4_19 kJ6_264 ?_
    rw [show (65536 : Int32) = nI 65536 from rfl]
    refine AW.icmp_ltN X (tgt := 33) dJ6_numberOfLeadingZeros_0f7a4_22 (by decide) (by omega) (by omega) (fun h22 => ?_) (fun h22 => ?_)
    · refine AW.iload_n X dJ6_numberOfLeadingZeros_0f7a4_33 (i := 0) rfl rfl ?_
      refine AW.sipushN X 256 dJ6_numberOfLeadingZeros_0f7a4_34 rfl ?_
      refine AW.icmp_ltN X (tgt := 48) dJ6_numberOfLeadingZeros_0f7a4_37 (by decide) (by omega) (by omega) (fun h37 => ?_) (fun h37 => ?_)
      · refine AW.iload_n X dJ6_numberOfLeadingZeros_0f7a4_48 (i := 0) rfl rfl ?_
        refine AW.bipushN X 16 dJ6_numberOfLeadingZeros_0f7a4_49 rfl ?_
        refine AW.icmp_ltN X (tgt := 61) dJ6_numberOfLeadingZeros_0f7a4_51 (by decide) (by omega) (by omega) (fun h51 => ?_) (fun h51 => ?_)
        · refine AW.iload_n X dJ6_numberOfLeadingZeros_0f7a4_61 (i := 0) rfl rfl ?_
          refine AW.iconstN X 4 dJ6_numberOfLeadingZeros_0f7a4_62 rfl ?_
          refine AW.icmp_ltN X (tgt := 73) dJ6_numberOfLeadingZeros_0f7a4_63 (by decide) (by omega) (by omega) (fun h63 => ?_) (fun h63 => ?_)
          · refine AW.iload_n X dJ6_numberOfLeadingZeros_0f7a4_73 (i := 1) rfl rfl ?_
            refine AW.iload_n X dJ6_numberOfLeadingZeros_0f7a4_74 (i := 0) rfl rfl ?_
            refine AW.iconstN X 1 dJ6_numberOfLeadingZeros_0f7a4_75 rfl ?_
            refine AW.iushrN X dJ6_numberOfLeadingZeros_0f7a4_76 (by omega) (by decide) ?_
            refine AW.isubN X dJ6_numberOfLeadingZeros_0f7a4_77 (by omega) ?_
            refine AW.iret X hQ dJ6_numberOfLeadingZeros_0f7a4_78 ⟨_, rfl, ?_⟩
            exact ⟨congrArg nI (by first | exact nlz_1 a ha h0 (by omega) | exact nlz_2 a ha (by omega) (by omega) | exact nlz_3 a ha (by omega) (by omega) | exact nlz_4 a ha (by omega)), rfl⟩
          · refine AW.iincN X (c := (31 - 2)) dJ6_numberOfLeadingZeros_0f7a4_66 rfl (by decide) rfl ?_
            refine AW.iload_n X dJ6_numberOfLeadingZeros_0f7a4_69 (i := 0) rfl rfl ?_
            refine AW.iconstN X 2 dJ6_numberOfLeadingZeros_0f7a4_70 rfl ?_
            refine AW.iushrN X dJ6_numberOfLeadingZeros_0f7a4_71 (by omega) (by decide) ?_
            refine AW.istore_n X dJ6_numberOfLeadingZeros_0f7a4_72 (i := 0) rfl rfl ?_
            refine AW.iload_n X dJ6_numberOfLeadingZeros_0f7a4_73 (i := 1) rfl rfl ?_
            refine AW.iload_n X dJ6_numberOfLeadingZeros_0f7a4_74 (i := 0) rfl rfl ?_
            refine AW.iconstN X 1 dJ6_numberOfLeadingZeros_0f7a4_75 rfl ?_
            refine AW.iushrN X dJ6_numberOfLeadingZeros_0f7a4_76 (by omega) (by decide) ?_
            refine AW.isubN X dJ6_numberOfLeadingZeros_0f7a4_77 (by omega) ?_
            refine AW.iret X hQ dJ6_numberOfLeadingZeros_0f7a4_78 ⟨_, rfl, ?_⟩
            exact ⟨congrArg nI (by first | exact nlz_1 a ha h0 (by omega) | exact nlz_2 a ha (by omega) (by omega) | exact nlz_3 a ha (by omega) (by omega) | exact nlz_4 a ha (by omega)), rfl⟩
        · refine AW.iincN X (c := (31 - 4)) dJ6_numberOfLeadingZeros_0f7a4_54 rfl (by decide) rfl ?_
          refine AW.iload_n X dJ6_numberOfLeadingZeros_0f7a4_57 (i := 0) rfl rfl ?_
          refine AW.iconstN X 4 dJ6_numberOfLeadingZeros_0f7a4_58 rfl ?_
          refine AW.iushrN X dJ6_numberOfLeadingZeros_0f7a4_59 (by omega) (by decide) ?_
          refine AW.istore_n X dJ6_numberOfLeadingZeros_0f7a4_60 (i := 0) rfl rfl ?_
          refine AW.iload_n X dJ6_numberOfLeadingZeros_0f7a4_61 (i := 0) rfl rfl ?_
          refine AW.iconstN X 4 dJ6_numberOfLeadingZeros_0f7a4_62 rfl ?_
          refine AW.icmp_ltN X (tgt := 73) dJ6_numberOfLeadingZeros_0f7a4_63 (by decide) (by omega) (by omega) (fun h63 => ?_) (fun h63 => ?_)
          · refine AW.iload_n X dJ6_numberOfLeadingZeros_0f7a4_73 (i := 1) rfl rfl ?_
            refine AW.iload_n X dJ6_numberOfLeadingZeros_0f7a4_74 (i := 0) rfl rfl ?_
            refine AW.iconstN X 1 dJ6_numberOfLeadingZeros_0f7a4_75 rfl ?_
            refine AW.iushrN X dJ6_numberOfLeadingZeros_0f7a4_76 (by omega) (by decide) ?_
            refine AW.isubN X dJ6_numberOfLeadingZeros_0f7a4_77 (by omega) ?_
            refine AW.iret X hQ dJ6_numberOfLeadingZeros_0f7a4_78 ⟨_, rfl, ?_⟩
            exact ⟨congrArg nI (by first | exact nlz_1 a ha h0 (by omega) | exact nlz_2 a ha (by omega) (by omega) | exact nlz_3 a ha (by omega) (by omega) | exact nlz_4 a ha (by omega)), rfl⟩
          · refine AW.iincN X (c := ((31 - 4) - 2)) dJ6_numberOfLeadingZeros_0f7a4_66 rfl (by decide) rfl ?_
            refine AW.iload_n X dJ6_numberOfLeadingZeros_0f7a4_69 (i := 0) rfl rfl ?_
            refine AW.iconstN X 2 dJ6_numberOfLeadingZeros_0f7a4_70 rfl ?_
            refine AW.iushrN X dJ6_numberOfLeadingZeros_0f7a4_71 (by omega) (by decide) ?_
            refine AW.istore_n X dJ6_numberOfLeadingZeros_0f7a4_72 (i := 0) rfl rfl ?_
            refine AW.iload_n X dJ6_numberOfLeadingZeros_0f7a4_73 (i := 1) rfl rfl ?_
            refine AW.iload_n X dJ6_numberOfLeadingZeros_0f7a4_74 (i := 0) rfl rfl ?_
            refine AW.iconstN X 1 dJ6_numberOfLeadingZeros_0f7a4_75 rfl ?_
            refine AW.iushrN X dJ6_numberOfLeadingZeros_0f7a4_76 (by omega) (by decide) ?_
            refine AW.isubN X dJ6_numberOfLeadingZeros_0f7a4_77 (by omega) ?_
            refine AW.iret X hQ dJ6_numberOfLeadingZeros_0f7a4_78 ⟨_, rfl, ?_⟩
            exact ⟨congrArg nI (by first | exact nlz_1 a ha h0 (by omega) | exact nlz_2 a ha (by omega) (by omega) | exact nlz_3 a ha (by omega) (by omega) | exact nlz_4 a ha (by omega)), rfl⟩
      · omega
    · omega
  · omega
set_option maxRecDepth 100000 in
set_option maxHeartbeats 4000000 in
theorem c_J6_highestOneBit_0f7a4 {l : Launch} {δ : Dl} {b nn NN : Nat} {sh : Sh} {μ : Mm} {a : Nat} (h0 : 0 < a) (ha : a < 256) : MC l δ b nn sh False yJ6_highestOneBit_0f7a4 cJ6_highestOneBit_0f7a4 1 (some .int) 2 0 0 NN NN [.int (nI a)] μ (pI fun r μ' => r = nI (2 ^ top a) ∧ μ' = μ) := by
  refine MC.intro ([some (.int (nI a))]) (by decide) rfl rfl fun κ Qc hl hQ X => ?_
  subst hl
  refine AW.iload_n X dJ6_highestOneBit_0f7a4_0 (i := 0) rfl rfl ?_
  refine AW.ldci X (v := -2147483648) dJ6_highestOneBit_0f7a4_1 kJ6_127 ?_
  refine AW.iload_n X dJ6_highestOneBit_0f7a4_3 (i := 0) rfl rfl ?_
  refine AW.callS X dJ6_highestOneBit_0f7a4_4 lJ6_51 (c_J6_numberOfLeadingZeros_0f7a4 h0 ha) rfl rfl rfl rfl ⟨rfl, rfl⟩ (pR_k ?_)
  refine AW.iushr X dJ6_highestOneBit_0f7a4_7 ?_
  refine AW.iand X dJ6_highestOneBit_0f7a4_8 ?_
  refine AW.iret X hQ dJ6_highestOneBit_0f7a4_9 ⟨_, rfl, ?_⟩
  exact ⟨hob_t a ha h0, rfl⟩
