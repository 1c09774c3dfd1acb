set_option maxRecDepth 100000 in
set_option maxHeartbeats 4000000 in
theorem c_X11_lowestBits {l : Launch} {δ : Dl} {b : Nat} {μ : Mm} {q : Nat} {v : Int64} (hq : q < 4) : MCX l δ b yX11_lowestBits cX11_lowestBits 3 (some .long) 1 [.int (nI q), .long v] μ (pL fun r μ' => r = lowB q v ∧ μ' = μ) := by
  refine MC.intro ([some (.int (nI q)), some (.long v), none]) (by decide) rfl rfl fun κ Qc hl hQ X => ?_
  subst hl
  refine AW.iload_n X dX11_lowestBits_0 (i := 0) rfl rfl ?_
  have hsw : q = 0 ∨ q = 1 ∨ q = 2 ∨ q = 3 := by omega
  rcases hsw with rfl | rfl | rfl | rfl
  · refine AW.tableIn X (tgt := 28) dX11_lowestBits_1 (by decide) (by decide) rfl (by decide) ?_
    refine AW.lload_n X dX11_lowestBits_28 (i := 1) rfl rfl ?_
    refine AW.l2i X dX11_lowestBits_29 ?_
    refine AW.i2b X dX11_lowestBits_30 ?_
    refine AW.i2l X dX11_lowestBits_31 ?_
    refine AW.lret X hQ dX11_lowestBits_32 ⟨_, rfl, ?_⟩
    exact ⟨rfl, rfl⟩
  · refine AW.tableIn X (tgt := 33) dX11_lowestBits_1 (by decide) (by decide) rfl (by decide) ?_
    refine AW.lload_n X dX11_lowestBits_33 (i := 1) rfl rfl ?_
    refine AW.l2i X dX11_lowestBits_34 ?_
    refine AW.i2s X dX11_lowestBits_35 ?_
    refine AW.i2l X dX11_lowestBits_36 ?_
    refine AW.lret X hQ dX11_lowestBits_37 ⟨_, rfl, ?_⟩
    exact ⟨rfl, rfl⟩
  · refine AW.tableIn X (tgt := 38) dX11_lowestBits_1 (by decide) (by decide) rfl (by decide) ?_
    refine AW.lload_n X dX11_lowestBits_38 (i := 1) rfl rfl ?_
    refine AW.l2i X dX11_lowestBits_39 ?_
    refine AW.i2l X dX11_lowestBits_40 ?_
    refine AW.lret X hQ dX11_lowestBits_41 ⟨_, rfl, ?_⟩
    exact ⟨rfl, rfl⟩
  · refine AW.tableOut X (tgt := 42) dX11_lowestBits_1 (by decide) (by decide) ?_
    refine AW.lload_n X dX11_lowestBits_42 (i := 1) rfl rfl ?_
    refine AW.lret X hQ dX11_lowestBits_43 ⟨_, rfl, ?_⟩
    exact ⟨rfl, rfl⟩
set_option maxRecDepth 100000 in
set_option maxHeartbeats 4000000 in
theorem c_X11_isOf {l : Launch} {δ : Dl} {b : Nat} {μ : Mm} {k w : Nat} (hk : k < 7) (hw : w < 7) : MCX l δ b yX11_isOf cX11_isOf 2 (some .boolean) 1 [.ref (b + (19 + k)), .int (nI w)] μ (pI fun r μ' => r = bI (under k w) ∧ μ' = μ) := by
  refine MC.intro ([some (.ref (b + (19 + k))), some (.int (nI w))]) (by decide) rfl rfl fun κ Qc hl hQ X => ?_
  subst hl
  refine AW.iload_n X dX11_isOf_0 (i := 1) rfl rfl ?_
  have hsw : w = 0 ∨ w = 1 ∨ w = 2 ∨ w = 3 ∨ w = 4 ∨ w = 5 ∨ w = 6 := by omega
  rcases hsw with rfl | rfl | rfl | rfl | rfl | rfl | rfl
  · refine AW.tableOut X (tgt := 70) dX11_isOf_1 (by decide) (by decide) ?_
    refine AW.iconstN X 1 dX11_isOf_70 rfl ?_
    refine AW.zret X rfl hQ dX11_isOf_71 ⟨_, rfl, ?_⟩
    exact ⟨by first | decide | (rw [show under k 0 = true by simp [under]]; rfl), rfl⟩
  · refine AW.tableIn X (tgt := 40) dX11_isOf_1 (by decide) (by decide) rfl (by decide) ?_
    refine AW.aload_n X dX11_isOf_40 (i := 0) rfl rfl ?_
    refine seven hk (fun e => ?_) (fun e => ?_) (fun e => ?_) (fun e => ?_) (fun e => ?_) (fun e => ?_) (fun e => ?_)
    · subst e
      refine AW.instN X dX11_isOf_41 clX11_58 cfX4 ox_k0 (by decide) ?_
      refine AW.zret X rfl hQ dX11_isOf_44 ⟨_, rfl, ?_⟩
      exact ⟨by first | decide | (rw [show under k 0 = true by simp [under]]; rfl), rfl⟩
    · subst e
      refine AW.instS X dX11_isOf_41 clX11_58 cfX2 ox_k1 ?_
      refine AW.zret X rfl hQ dX11_isOf_44 ⟨_, rfl, ?_⟩
      exact ⟨by first | decide | (rw [show under k 0 = true by simp [under]]; rfl), rfl⟩
    · subst e
      refine AW.instN X dX11_isOf_41 clX11_58 cfX5 ox_k2 (by decide) ?_
      refine AW.zret X rfl hQ dX11_isOf_44 ⟨_, rfl, ?_⟩
      exact ⟨by first | decide | (rw [show under k 0 = true by simp [under]]; rfl), rfl⟩
    · subst e
      refine AW.instY X dX11_isOf_41 clX11_58 cfX1 ox_k3 ca_X1_X2 ?_
      refine AW.zret X rfl hQ dX11_isOf_44 ⟨_, rfl, ?_⟩
      exact ⟨by first | decide | (rw [show under k 0 = true by simp [under]]; rfl), rfl⟩
    · subst e
      refine AW.instN X dX11_isOf_41 clX11_58 cfX7 ox_k4 (by decide) ?_
      refine AW.zret X rfl hQ dX11_isOf_44 ⟨_, rfl, ?_⟩
      exact ⟨by first | decide | (rw [show under k 0 = true by simp [under]]; rfl), rfl⟩
    · subst e
      refine AW.instN X dX11_isOf_41 clX11_58 cfX8 ox_k5 (by decide) ?_
      refine AW.zret X rfl hQ dX11_isOf_44 ⟨_, rfl, ?_⟩
      exact ⟨by first | decide | (rw [show under k 0 = true by simp [under]]; rfl), rfl⟩
    · subst e
      refine AW.instN X dX11_isOf_41 clX11_58 cfX0 ox_k6 (by decide) ?_
      refine AW.zret X rfl hQ dX11_isOf_44 ⟨_, rfl, ?_⟩
      exact ⟨by first | decide | (rw [show under k 0 = true by simp [under]]; rfl), rfl⟩
  · refine AW.tableIn X (tgt := 45) dX11_isOf_1 (by decide) (by decide) rfl (by decide) ?_
    refine AW.aload_n X dX11_isOf_45 (i := 0) rfl rfl ?_
    refine seven hk (fun e => ?_) (fun e => ?_) (fun e => ?_) (fun e => ?_) (fun e => ?_) (fun e => ?_) (fun e => ?_)
    · subst e
      refine AW.instN X dX11_isOf_46 clX11_61 cfX4 ox_k0 (by decide) ?_
      refine AW.zret X rfl hQ dX11_isOf_49 ⟨_, rfl, ?_⟩
      exact ⟨by first | decide | (rw [show under k 0 = true by simp [under]]; rfl), rfl⟩
    · subst e
      refine AW.instN X dX11_isOf_46 clX11_61 cfX2 ox_k1 (by decide) ?_
      refine AW.zret X rfl hQ dX11_isOf_49 ⟨_, rfl, ?_⟩
      exact ⟨by first | decide | (rw [show under k 0 = true by simp [under]]; rfl), rfl⟩
    · subst e
      refine AW.instS X dX11_isOf_46 clX11_61 cfX5 ox_k2 ?_
      refine AW.zret X rfl hQ dX11_isOf_49 ⟨_, rfl, ?_⟩
      exact ⟨by first | decide | (rw [show under k 0 = true by simp [under]]; rfl), rfl⟩
    · subst e
      refine AW.instN X dX11_isOf_46 clX11_61 cfX1 ox_k3 (by decide) ?_
      refine AW.zret X rfl hQ dX11_isOf_49 ⟨_, rfl, ?_⟩
      exact ⟨by first | decide | (rw [show under k 0 = true by simp [under]]; rfl), rfl⟩
    · subst e
      refine AW.instN X dX11_isOf_46 clX11_61 cfX7 ox_k4 (by decide) ?_
      refine AW.zret X rfl hQ dX11_isOf_49 ⟨_, rfl, ?_⟩
      exact ⟨by first | decide | (rw [show under k 0 = true by simp [under]]; rfl), rfl⟩
    · subst e
      refine AW.instY X dX11_isOf_46 clX11_61 cfX8 ox_k5 ca_X8_X5 ?_
      refine AW.zret X rfl hQ dX11_isOf_49 ⟨_, rfl, ?_⟩
      exact ⟨by first | decide | (rw [show under k 0 = true by simp [under]]; rfl), rfl⟩
    · subst e
      refine AW.instY X dX11_isOf_46 clX11_61 cfX0 ox_k6 ca_X0_X5 ?_
      refine AW.zret X rfl hQ dX11_isOf_49 ⟨_, rfl, ?_⟩
      exact ⟨by first | decide | (rw [show under k 0 = true by simp [under]]; rfl), rfl⟩
  · refine AW.tableIn X (tgt := 50) dX11_isOf_1 (by decide) (by decide) rfl (by decide) ?_
    refine AW.aload_n X dX11_isOf_50 (i := 0) rfl rfl ?_
    refine seven hk (fun e => ?_) (fun e => ?_) (fun e => ?_) (fun e => ?_) (fun e => ?_) (fun e => ?_) (fun e => ?_)
    · subst e
      refine AW.instN X dX11_isOf_51 clX11_64 cfX4 ox_k0 (by decide) ?_
      refine AW.zret X rfl hQ dX11_isOf_54 ⟨_, rfl, ?_⟩
      exact ⟨by first | decide | (rw [show under k 0 = true by simp [under]]; rfl), rfl⟩
    · subst e
      refine AW.instN X dX11_isOf_51 clX11_64 cfX2 ox_k1 (by decide) ?_
      refine AW.zret X rfl hQ dX11_isOf_54 ⟨_, rfl, ?_⟩
      exact ⟨by first | decide | (rw [show under k 0 = true by simp [under]]; rfl), rfl⟩
    · subst e
      refine AW.instN X dX11_isOf_51 clX11_64 cfX5 ox_k2 (by decide) ?_
      refine AW.zret X rfl hQ dX11_isOf_54 ⟨_, rfl, ?_⟩
      exact ⟨by first | decide | (rw [show under k 0 = true by simp [under]]; rfl), rfl⟩
    · subst e
      refine AW.instS X dX11_isOf_51 clX11_64 cfX1 ox_k3 ?_
      refine AW.zret X rfl hQ dX11_isOf_54 ⟨_, rfl, ?_⟩
      exact ⟨by first | decide | (rw [show under k 0 = true by simp [under]]; rfl), rfl⟩
    · subst e
      refine AW.instN X dX11_isOf_51 clX11_64 cfX7 ox_k4 (by decide) ?_
      refine AW.zret X rfl hQ dX11_isOf_54 ⟨_, rfl, ?_⟩
      exact ⟨by first | decide | (rw [show under k 0 = true by simp [under]]; rfl), rfl⟩
    · subst e
      refine AW.instN X dX11_isOf_51 clX11_64 cfX8 ox_k5 (by decide) ?_
      refine AW.zret X rfl hQ dX11_isOf_54 ⟨_, rfl, ?_⟩
      exact ⟨by first | decide | (rw [show under k 0 = true by simp [under]]; rfl), rfl⟩
    · subst e
      refine AW.instN X dX11_isOf_51 clX11_64 cfX0 ox_k6 (by decide) ?_
      refine AW.zret X rfl hQ dX11_isOf_54 ⟨_, rfl, ?_⟩
      exact ⟨by first | decide | (rw [show under k 0 = true by simp [under]]; rfl), rfl⟩
  · refine AW.tableIn X (tgt := 55) dX11_isOf_1 (by decide) (by decide) rfl (by decide) ?_
    refine AW.aload_n X dX11_isOf_55 (i := 0) rfl rfl ?_
    refine seven hk (fun e => ?_) (fun e => ?_) (fun e => ?_) (fun e => ?_) (fun e => ?_) (fun e => ?_) (fun e => ?_)
    · subst e
      refine AW.instN X dX11_isOf_56 clX11_67 cfX4 ox_k0 (by decide) ?_
      refine AW.zret X rfl hQ dX11_isOf_59 ⟨_, rfl, ?_⟩
      exact ⟨by first | decide | (rw [show under k 0 = true by simp [under]]; rfl), rfl⟩
    · subst e
      refine AW.instN X dX11_isOf_56 clX11_67 cfX2 ox_k1 (by decide) ?_
      refine AW.zret X rfl hQ dX11_isOf_59 ⟨_, rfl, ?_⟩
      exact ⟨by first | decide | (rw [show under k 0 = true by simp [under]]; rfl), rfl⟩
    · subst e
      refine AW.instN X dX11_isOf_56 clX11_67 cfX5 ox_k2 (by decide) ?_
      refine AW.zret X rfl hQ dX11_isOf_59 ⟨_, rfl, ?_⟩
      exact ⟨by first | decide | (rw [show under k 0 = true by simp [under]]; rfl), rfl⟩
    · subst e
      refine AW.instN X dX11_isOf_56 clX11_67 cfX1 ox_k3 (by decide) ?_
      refine AW.zret X rfl hQ dX11_isOf_59 ⟨_, rfl, ?_⟩
      exact ⟨by first | decide | (rw [show under k 0 = true by simp [under]]; rfl), rfl⟩
    · subst e
      refine AW.instS X dX11_isOf_56 clX11_67 cfX7 ox_k4 ?_
      refine AW.zret X rfl hQ dX11_isOf_59 ⟨_, rfl, ?_⟩
      exact ⟨by first | decide | (rw [show under k 0 = true by simp [under]]; rfl), rfl⟩
    · subst e
      refine AW.instN X dX11_isOf_56 clX11_67 cfX8 ox_k5 (by decide) ?_
      refine AW.zret X rfl hQ dX11_isOf_59 ⟨_, rfl, ?_⟩
      exact ⟨by first | decide | (rw [show under k 0 = true by simp [under]]; rfl), rfl⟩
    · subst e
      refine AW.instN X dX11_isOf_56 clX11_67 cfX0 ox_k6 (by decide) ?_
      refine AW.zret X rfl hQ dX11_isOf_59 ⟨_, rfl, ?_⟩
      exact ⟨by first | decide | (rw [show under k 0 = true by simp [under]]; rfl), rfl⟩
  · refine AW.tableIn X (tgt := 60) dX11_isOf_1 (by decide) (by decide) rfl (by decide) ?_
    refine AW.aload_n X dX11_isOf_60 (i := 0) rfl rfl ?_
    refine seven hk (fun e => ?_) (fun e => ?_) (fun e => ?_) (fun e => ?_) (fun e => ?_) (fun e => ?_) (fun e => ?_)
    · subst e
      refine AW.instN X dX11_isOf_61 clX11_70 cfX4 ox_k0 (by decide) ?_
      refine AW.zret X rfl hQ dX11_isOf_64 ⟨_, rfl, ?_⟩
      exact ⟨by first | decide | (rw [show under k 0 = true by simp [under]]; rfl), rfl⟩
    · subst e
      refine AW.instN X dX11_isOf_61 clX11_70 cfX2 ox_k1 (by decide) ?_
      refine AW.zret X rfl hQ dX11_isOf_64 ⟨_, rfl, ?_⟩
      exact ⟨by first | decide | (rw [show under k 0 = true by simp [under]]; rfl), rfl⟩
    · subst e
      refine AW.instN X dX11_isOf_61 clX11_70 cfX5 ox_k2 (by decide) ?_
      refine AW.zret X rfl hQ dX11_isOf_64 ⟨_, rfl, ?_⟩
      exact ⟨by first | decide | (rw [show under k 0 = true by simp [under]]; rfl), rfl⟩
    · subst e
      refine AW.instN X dX11_isOf_61 clX11_70 cfX1 ox_k3 (by decide) ?_
      refine AW.zret X rfl hQ dX11_isOf_64 ⟨_, rfl, ?_⟩
      exact ⟨by first | decide | (rw [show under k 0 = true by simp [under]]; rfl), rfl⟩
    · subst e
      refine AW.instN X dX11_isOf_61 clX11_70 cfX7 ox_k4 (by decide) ?_
      refine AW.zret X rfl hQ dX11_isOf_64 ⟨_, rfl, ?_⟩
      exact ⟨by first | decide | (rw [show under k 0 = true by simp [under]]; rfl), rfl⟩
    · subst e
      refine AW.instS X dX11_isOf_61 clX11_70 cfX8 ox_k5 ?_
      refine AW.zret X rfl hQ dX11_isOf_64 ⟨_, rfl, ?_⟩
      exact ⟨by first | decide | (rw [show under k 0 = true by simp [under]]; rfl), rfl⟩
    · subst e
      refine AW.instN X dX11_isOf_61 clX11_70 cfX0 ox_k6 (by decide) ?_
      refine AW.zret X rfl hQ dX11_isOf_64 ⟨_, rfl, ?_⟩
      exact ⟨by first | decide | (rw [show under k 0 = true by simp [under]]; rfl), rfl⟩
  · refine AW.tableIn X (tgt := 65) dX11_isOf_1 (by decide) (by decide) rfl (by decide) ?_
    refine AW.aload_n X dX11_isOf_65 (i := 0) rfl rfl ?_
    refine seven hk (fun e => ?_) (fun e => ?_) (fun e => ?_) (fun e => ?_) (fun e => ?_) (fun e => ?_) (fun e => ?_)
    · subst e
      refine AW.instN X dX11_isOf_66 clX11_73 cfX4 ox_k0 (by decide) ?_
      refine AW.zret X rfl hQ dX11_isOf_69 ⟨_, rfl, ?_⟩
      exact ⟨by first | decide | (rw [show under k 0 = true by simp [under]]; rfl), rfl⟩
    · subst e
      refine AW.instN X dX11_isOf_66 clX11_73 cfX2 ox_k1 (by decide) ?_
      refine AW.zret X rfl hQ dX11_isOf_69 ⟨_, rfl, ?_⟩
      exact ⟨by first | decide | (rw [show under k 0 = true by simp [under]]; rfl), rfl⟩
    · subst e
      refine AW.instN X dX11_isOf_66 clX11_73 cfX5 ox_k2 (by decide) ?_
      refine AW.zret X rfl hQ dX11_isOf_69 ⟨_, rfl, ?_⟩
      exact ⟨by first | decide | (rw [show under k 0 = true by simp [under]]; rfl), rfl⟩
    · subst e
      refine AW.instN X dX11_isOf_66 clX11_73 cfX1 ox_k3 (by decide) ?_
      refine AW.zret X rfl hQ dX11_isOf_69 ⟨_, rfl, ?_⟩
      exact ⟨by first | decide | (rw [show under k 0 = true by simp [under]]; rfl), rfl⟩
    · subst e
      refine AW.instN X dX11_isOf_66 clX11_73 cfX7 ox_k4 (by decide) ?_
      refine AW.zret X rfl hQ dX11_isOf_69 ⟨_, rfl, ?_⟩
      exact ⟨by first | decide | (rw [show under k 0 = true by simp [under]]; rfl), rfl⟩
    · subst e
      refine AW.instN X dX11_isOf_66 clX11_73 cfX8 ox_k5 (by decide) ?_
      refine AW.zret X rfl hQ dX11_isOf_69 ⟨_, rfl, ?_⟩
      exact ⟨by first | decide | (rw [show under k 0 = true by simp [under]]; rfl), rfl⟩
    · subst e
      refine AW.instS X dX11_isOf_66 clX11_73 cfX0 ox_k6 ?_
      refine AW.zret X rfl hQ dX11_isOf_69 ⟨_, rfl, ?_⟩
      exact ⟨by first | decide | (rw [show under k 0 = true by simp [under]]; rfl), rfl⟩
set_option maxRecDepth 100000 in
set_option maxHeartbeats 4000000 in
theorem c_X11_strengthOfHighest {l : Launch} {δ : Dl} {b : Nat} {μ : Mm} {S : St} (hR : RX μ S) {o : Nat} (hF : FA o) {V : Vt} (hV : HV μ o V)  : MCX l δ b yX11_strengthOfHighest cX11_strengthOfHighest 3 (some .int) 3 [.ref (b + 0), .ref (b + o)] μ (pI fun r μ' => r = nI (topStr (S.1 6 1) V) ∧ μ' = μ) := by
  obtain ⟨B, Bd, tb, hnow, hdr, hT⟩ := hR.2.2.1
  have W := rx_w hR
  have ta := two_ta tb
  have hB := ta.1
  have hBd := ta.2.1
  have bn := ti_n hT.1
  have bn := hi_n hV.1
  refine MC.intro ([some (.ref (b + 0)), some (.ref (b + o)), none]) (by decide) rfl rfl fun κ Qc hl hQ X => ?_
  subst hl
  rcases Nat.eq_zero_or_pos (V 0 2) with z | z
  · refine AW.aload_n X dX11_strengthOfHighest_0 (i := 1) rfl rfl ?_
    refine AW.getI X dX11_strengthOfHighest_1 fX11_157 rfl (fa_ob hF) (v := (nI 0)) (by rw [hv_n hV, z]) ?_
    refine AW.iconstN X 1 dX11_strengthOfHighest_4 rfl ?_
    refine AW.isub X dX11_strengthOfHighest_5 ?_
    rw [dn_sub, dn_0]
    refine AW.istore_n X dX11_strengthOfHighest_6 (i := 2) rfl rfl ?_
    refine AW.iload_n X dX11_strengthOfHighest_7 (i := 2) rfl rfl ?_
    refine AW.if_ge X (tgt := 15) dX11_strengthOfHighest_8 (by decide) (fun h8 => ?_) (fun h8 => ?_)
    · replace h8 := Int32.not_lt.mpr h8
      exact absurd h8 (by decide)
    · replace h8 := Int32.not_le.mp h8
      refine AW.iconstN X 0 dX11_strengthOfHighest_11 rfl ?_
      refine AW.goto X (tgt := 35) dX11_strengthOfHighest_12 (by decide) ?_
      refine AW.iret X hQ dX11_strengthOfHighest_35 ⟨_, rfl, ?_⟩
      exact ⟨congrArg nI (by simp [topStr, z]), rfl⟩
  · have c1 := hi_col hV.1 (c := V 0 2 - 1) (by omega)
    have c2 := (hi_th hV.1 (c := V 0 2 - 1) (by omega)).2
    refine AW.aload_n X dX11_strengthOfHighest_0 (i := 1) rfl rfl ?_
    refine AW.getI X dX11_strengthOfHighest_1 fX11_157 rfl (fa_ob hF) (hv_n hV) ?_
    refine AW.iconstN X 1 dX11_strengthOfHighest_4 rfl ?_
    refine AW.isubN X dX11_strengthOfHighest_5 (by omega) ?_
    refine AW.istore_n X dX11_strengthOfHighest_6 (i := 2) rfl rfl ?_
    refine AW.iload_n X dX11_strengthOfHighest_7 (i := 2) rfl rfl ?_
    refine AW.if_geN X (tgt := 15) dX11_strengthOfHighest_8 (by decide) (by omega) (fun h8 => ?_) (fun h8 => ?_)
    · refine AW.aload_n X dX11_strengthOfHighest_15 (i := 0) rfl rfl ?_
      refine AW.getR X dX11_strengthOfHighest_16 fX11_81 rfl ox0 hnow ?_
      refine AW.aload_n X dX11_strengthOfHighest_19 (i := 1) rfl rfl ?_
      refine AW.aload_n X dX11_strengthOfHighest_20 (i := 1) rfl rfl ?_
      refine AW.getR X dX11_strengthOfHighest_21 fX11_192 rfl (fa_ob hF) (wx_colour W hF) ?_
      refine AW.iload_n X dX11_strengthOfHighest_24 (i := 2) rfl rfl ?_
      refine AW.iaload X dX11_strengthOfHighest_25 (fa_2 hF) (n2_in (by omega) (by decide)) (v := (nI (V 2 ((V 0 2) - 1)))) (by rw [n2_clamp (by omega)]; exact hv_2 hV (by omega)) ?_
      refine AW.aload_n X dX11_strengthOfHighest_26 (i := 1) rfl rfl ?_
      refine AW.getR X dX11_strengthOfHighest_27 fX11_195 rfl (fa_ob hF) (wx_thick W hF) ?_
      refine AW.iload_n X dX11_strengthOfHighest_30 (i := 2) rfl rfl ?_
      refine AW.iaload X dX11_strengthOfHighest_31 (fa_3 hF) (n2_in (by omega) (by decide)) (v := (nI (V 3 ((V 0 2) - 1)))) (by rw [n2_clamp (by omega)]; exact hv_3 hV (by omega)) ?_
      refine AW.callV X dX11_strengthOfHighest_32 lX11_203 cfX9 (c_X9_strength W hB hT hF hV (by omega) (by omega)) (ta_ob hB) rfl rfl rfl rfl ⟨rfl, rfl⟩ (pR_k ?_)
      refine AW.iret X hQ dX11_strengthOfHighest_35 ⟨_, rfl, ?_⟩
      exact ⟨congrArg nI (by rw [topStr, if_neg (by omega)]; rfl), rfl⟩
    · exact h8.elim
set_option maxRecDepth 100000 in
set_option maxHeartbeats 4000000 in
theorem c_X11_saidBy {l : Launch} {δ : Dl} {b : Nat} {μ : Mm} {S : St} (hR : RX μ S) {o : Nat} (hF : FA o) {V : Vt} (hV : HV μ o V) {k : Nat} (hk : k < 7) : MCX l δ b yX11_saidBy cX11_saidBy 3 (some .int) 5 [.ref (b + 0), .ref (b + o), .int (nI k)] μ (pI fun r μ' => r = nI (saidBy S.1 V k) ∧ μ' = μ) := by
  obtain ⟨B, Bd, tb, hnow, hdr, hT⟩ := hR.2.2.1
  have W := rx_w hR
  have ta := two_ta tb
  have hB := ta.1
  have hBd := ta.2.1
  have bn := ti_n hT.1
  have bn := hi_n hV.1
  refine MC.intro ([some (.ref (b + 0)), some (.ref (b + o)), some (.int (nI k))]) (by decide) rfl rfl fun κ Qc hl hQ X => ?_
  subst hl
  refine AW.iload_n X dX11_saidBy_0 (i := 2) rfl rfl ?_
  have hsw : k = 0 ∨ k = 1 ∨ k = 2 ∨ k = 3 ∨ k = 4 ∨ k = 5 ∨ k = 6 := by omega
  rcases hsw with rfl | rfl | rfl | rfl | rfl | rfl | rfl
  · refine AW.tableOut X (tgt := 84) dX11_saidBy_1 (by decide) (by decide) ?_
    refine AW.aload_n X dX11_saidBy_84 (i := 1) rfl rfl ?_
    refine AW.callV X dX11_saidBy_85 lX11_160 cfX3 (c_X3_wholeSkin W hF hV) (fa_ob hF) rfl rfl rfl rfl ⟨rfl, rfl⟩ (pR_k ?_)
    refine AW.iret X hQ dX11_saidBy_88 ⟨_, rfl, ?_⟩
    exact ⟨rfl, rfl⟩
  · refine AW.tableIn X (tgt := 40) dX11_saidBy_1 (by decide) (by decide) rfl (by decide) ?_
    refine AW.aload_n X dX11_saidBy_40 (i := 1) rfl rfl ?_
    refine AW.iconstN X 0 dX11_saidBy_41 rfl ?_
    refine AW.bipushN X 10 dX11_saidBy_42 rfl ?_
    refine AW.callV X dX11_saidBy_44 lX11_231 cfX3 (c_X3_wetness W hF hV (by omega) (by omega)) (fa_ob hF) rfl rfl rfl rfl ⟨rfl, rfl⟩ (pR_k ?_)
    refine AW.iret X hQ dX11_saidBy_47 ⟨_, rfl, ?_⟩
    exact ⟨rfl, rfl⟩
  · refine AW.tableIn X (tgt := 48) dX11_saidBy_1 (by decide) (by decide) rfl (by decide) ?_
    refine AW.aload_n X dX11_saidBy_48 (i := 1) rfl rfl ?_
    refine AW.iconstN X 0 dX11_saidBy_49 rfl ?_
    refine AW.bipushN X 10 dX11_saidBy_50 rfl ?_
    refine AW.callV X dX11_saidBy_52 lX11_330 cfX3 (c_X3_hardness W hF hV (by omega) (by omega)) (fa_ob hF) rfl rfl rfl rfl ⟨rfl, rfl⟩ (pR_k ?_)
    refine AW.iret X hQ dX11_saidBy_55 ⟨_, rfl, ?_⟩
    exact ⟨rfl, rfl⟩
  · refine AW.tableIn X (tgt := 56) dX11_saidBy_1 (by decide) (by decide) rfl (by decide) ?_
    refine AW.aload_n X dX11_saidBy_56 (i := 1) rfl rfl ?_
    refine AW.bipushN X 8 dX11_saidBy_57 rfl ?_
    refine AW.bipushN X 10 dX11_saidBy_59 rfl ?_
    refine AW.callV X dX11_saidBy_61 lX11_231 cfX3 (c_X3_wetness W hF hV (by omega) (by omega)) (fa_ob hF) rfl rfl rfl rfl ⟨rfl, rfl⟩ (pR_k ?_)
    refine AW.iret X hQ dX11_saidBy_64 ⟨_, rfl, ?_⟩
    exact ⟨rfl, rfl⟩
  · refine AW.tableIn X (tgt := 65) dX11_saidBy_1 (by decide) (by decide) rfl (by decide) ?_
    refine AW.aload_n X dX11_saidBy_65 (i := 0) rfl rfl ?_
    refine AW.aload_n X dX11_saidBy_66 (i := 1) rfl rfl ?_
    refine AW.callV X dX11_saidBy_67 lX11_333 cfX11 (c_X11_strengthOfHighest hR hF hV) ox0 rfl rfl rfl rfl ⟨rfl, rfl⟩ (pR_k ?_)
    refine AW.iret X hQ dX11_saidBy_70 ⟨_, rfl, ?_⟩
    exact ⟨rfl, rfl⟩
  · refine AW.tableIn X (tgt := 71) dX11_saidBy_1 (by decide) (by decide) rfl (by decide) ?_
    refine AW.aload_n X dX11_saidBy_71 (i := 1) rfl rfl ?_
    refine AW.iconstN X 4 dX11_saidBy_72 rfl ?_
    refine AW.bipushN X 10 dX11_saidBy_73 rfl ?_
    refine AW.callV X dX11_saidBy_75 lX11_330 cfX3 (c_X3_hardness W hF hV (by omega) (by omega)) (fa_ob hF) rfl rfl rfl rfl ⟨rfl, rfl⟩ (pR_k ?_)
    refine AW.iret X hQ dX11_saidBy_78 ⟨_, rfl, ?_⟩
    exact ⟨rfl, rfl⟩
  · refine AW.tableIn X (tgt := 79) dX11_saidBy_1 (by decide) (by decide) rfl (by decide) ?_
    refine AW.aload_n X dX11_saidBy_79 (i := 1) rfl rfl ?_
    refine AW.getI X dX11_saidBy_80 fX11_154 rfl (fa_ob hF) (hv_a hV) ?_
    refine AW.iret X hQ dX11_saidBy_83 ⟨_, rfl, ?_⟩
    exact ⟨rfl, rfl⟩
