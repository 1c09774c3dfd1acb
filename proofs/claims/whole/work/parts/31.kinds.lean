set_option maxRecDepth 100000 in
set_option maxHeartbeats 4000000 in
theorem c_X4_wetness {l : Launch} {δ : Dl} {b : Nat} {μ : Mm} {o a k d : Nat}  : MCX l δ b yX4_wetness cX4_wetness 4 (some .int) 1 [.ref (b + o), .int (nI a), .int (nI k), .int (nI d)] μ (pI fun r μ' => r = nI d ∧ μ' = μ) := by
  refine MC.intro ([some (.ref (b + o)), some (.int (nI a)), some (.int (nI k)), some (.int (nI d))]) (by decide) rfl rfl fun κ Qc hl hQ X => ?_
  subst hl
  refine AW.iload_n X dX4_wetness_0 (i := 3) rfl rfl ?_
  refine AW.iret X hQ dX4_wetness_1 ⟨_, rfl, ?_⟩
  exact ⟨rfl, rfl⟩
set_option maxRecDepth 100000 in
set_option maxHeartbeats 4000000 in
theorem c_X4_hardness {l : Launch} {δ : Dl} {b : Nat} {μ : Mm} {o a k d : Nat}  : MCX l δ b yX4_hardness cX4_hardness 4 (some .int) 1 [.ref (b + o), .int (nI a), .int (nI k), .int (nI d)] μ (pI fun r μ' => r = nI d ∧ μ' = μ) := by
  refine MC.intro ([some (.ref (b + o)), some (.int (nI a)), some (.int (nI k)), some (.int (nI d))]) (by decide) rfl rfl fun κ Qc hl hQ X => ?_
  subst hl
  refine AW.iload_n X dX4_hardness_0 (i := 3) rfl rfl ?_
  refine AW.iret X hQ dX4_hardness_1 ⟨_, rfl, ?_⟩
  exact ⟨rfl, rfl⟩
set_option maxRecDepth 100000 in
set_option maxHeartbeats 4000000 in
theorem c_X4_counted {l : Launch} {δ : Dl} {b : Nat} {μ : Mm} {o x : Nat}  : MCX l δ b yX4_counted cX4_counted 2 (some .int) 1 [.ref (b + o), .int (nI x)] μ (pI fun r μ' => r = nI x ∧ μ' = μ) := by
  refine MC.intro ([some (.ref (b + o)), some (.int (nI x))]) (by decide) rfl rfl fun κ Qc hl hQ X => ?_
  subst hl
  refine AW.iload_n X dX4_counted_0 (i := 1) rfl rfl ?_
  refine AW.iret X hQ dX4_counted_1 ⟨_, rfl, ?_⟩
  exact ⟨rfl, rfl⟩
set_option maxRecDepth 100000 in
set_option maxHeartbeats 4000000 in
theorem c_X7_counted {l : Launch} {δ : Dl} {b : Nat} {μ : Mm} {o x : Nat} (hx : x < 100) : MCX l δ b yX7_counted cX7_counted 2 (some .int) 1 [.ref (b + o), .int (nI x)] μ (pI fun r μ' => r = nI (x - 1) ∧ μ' = μ) := by
  refine MC.intro ([some (.ref (b + o)), some (.int (nI x))]) (by decide) rfl rfl fun κ Qc hl hQ X => ?_
  subst hl
  refine AW.iload_n X dX7_counted_0 (i := 1) rfl rfl ?_
  refine AW.if_leN X (tgt := 10) dX7_counted_1 (by decide) (by omega) (fun h1 => ?_) (fun h1 => ?_)
  · refine AW.iconstN X 0 dX7_counted_10 rfl ?_
    refine AW.iret X hQ dX7_counted_11 ⟨_, rfl, ?_⟩
    exact ⟨congrArg nI (by first | rfl | omega | (simp [h1]; done) | (simp [h1]; omega)), rfl⟩
  · refine AW.iload_n X dX7_counted_4 (i := 1) rfl rfl ?_
    refine AW.iconstN X 1 dX7_counted_5 rfl ?_
    refine AW.isubN X dX7_counted_6 (by omega) ?_
    refine AW.goto X (tgt := 11) dX7_counted_7 (by decide) ?_
    refine AW.iret X hQ dX7_counted_11 ⟨_, rfl, ?_⟩
    exact ⟨congrArg nI (by first | rfl | omega | (simp [h1]; done) | (simp [h1]; omega)), rfl⟩
set_option maxRecDepth 100000 in
set_option maxHeartbeats 4000000 in
theorem c_X2_wetness {l : Launch} {δ : Dl} {b : Nat} {μ : Mm} {o a k d : Nat} (ha : a ≤ 9) (hk : k < 12) (hd : d < 100) : MCX l δ b yX2_wetness cX2_wetness 4 (some .int) 1 [.ref (b + o), .int (nI a), .int (nI k), .int (nI d)] μ (pI fun r μ' => r = nI (if 0 < d then d + a else d) ∧ μ' = μ) := by
  refine MC.intro ([some (.ref (b + o)), some (.int (nI a)), some (.int (nI k)), some (.int (nI d))]) (by decide) rfl rfl fun κ Qc hl hQ X => ?_
  subst hl
  refine AW.iload_n X dX2_wetness_0 (i := 3) rfl rfl ?_
  refine AW.if_leN X (tgt := 10) dX2_wetness_1 (by decide) (by omega) (fun h1 => ?_) (fun h1 => ?_)
  · refine AW.iload_n X dX2_wetness_10 (i := 3) rfl rfl ?_
    refine AW.iret X hQ dX2_wetness_11 ⟨_, rfl, ?_⟩
    exact ⟨congrArg nI (by first | rfl | omega | (simp [h1]; done) | (simp [h1]; omega)), rfl⟩
  · refine AW.iload_n X dX2_wetness_4 (i := 3) rfl rfl ?_
    refine AW.iload_n X dX2_wetness_5 (i := 1) rfl rfl ?_
    refine AW.iaddN X dX2_wetness_6 ?_
    refine AW.goto X (tgt := 11) dX2_wetness_7 (by decide) ?_
    refine AW.iret X hQ dX2_wetness_11 ⟨_, rfl, ?_⟩
    exact ⟨congrArg nI (by first | rfl | omega | (simp [h1]; done) | (simp [h1]; omega)), rfl⟩
set_option maxRecDepth 100000 in
set_option maxHeartbeats 4000000 in
theorem c_X5_hardness {l : Launch} {δ : Dl} {b : Nat} {μ : Mm} {o a k d : Nat} (ha : a ≤ 9) (hk : k < 12) (hd : d < 100) : MCX l δ b yX5_hardness cX5_hardness 4 (some .int) 1 [.ref (b + o), .int (nI a), .int (nI k), .int (nI d)] μ (pI fun r μ' => r = nI (d - a) ∧ μ' = μ) := by
  refine MC.intro ([some (.ref (b + o)), some (.int (nI a)), some (.int (nI k)), some (.int (nI d))]) (by decide) rfl rfl fun κ Qc hl hQ X => ?_
  subst hl
  refine AW.iload_n X dX5_hardness_0 (i := 3) rfl rfl ?_
  refine AW.iload_n X dX5_hardness_1 (i := 1) rfl rfl ?_
  refine AW.icmp_leN X (tgt := 11) dX5_hardness_2 (by decide) (by omega) (by omega) (fun h2 => ?_) (fun h2 => ?_)
  · refine AW.iconstN X 0 dX5_hardness_11 rfl ?_
    refine AW.iret X hQ dX5_hardness_12 ⟨_, rfl, ?_⟩
    exact ⟨congrArg nI (by first | rfl | omega | (simp [h2]; done) | (simp [h2]; omega)), rfl⟩
  · refine AW.iload_n X dX5_hardness_5 (i := 3) rfl rfl ?_
    refine AW.iload_n X dX5_hardness_6 (i := 1) rfl rfl ?_
    refine AW.isubN X dX5_hardness_7 (by omega) ?_
    refine AW.goto X (tgt := 12) dX5_hardness_8 (by decide) ?_
    refine AW.iret X hQ dX5_hardness_12 ⟨_, rfl, ?_⟩
    exact ⟨congrArg nI (by first | rfl | omega | (simp [h2]; done) | (simp [h2]; omega)), rfl⟩
set_option maxRecDepth 100000 in
set_option maxHeartbeats 4000000 in
theorem c_X1_wetness {l : Launch} {δ : Dl} {b : Nat} {μ : Mm} {o a k d : Nat} (ha : a ≤ 9) (hk : k < 12) (hd : d < 100) (ho : OX o 1) : MCX l δ b yX1_wetness cX1_wetness 5 (some .int) 2 [.ref (b + o), .int (nI a), .int (nI k), .int (nI d)] μ (pI fun r μ' => r = nI (if 8 ≤ k then 2 * (if 0 < d then d + a else d) else (if 0 < d then d + a else d)) ∧ μ' = μ) := by
  refine MC.intro ([some (.ref (b + o)), some (.int (nI a)), some (.int (nI k)), some (.int (nI d)), none]) (by decide) rfl rfl fun κ Qc hl hQ X => ?_
  subst hl
  refine AW.aload_n X dX1_wetness_0 (i := 0) rfl rfl ?_
  refine AW.iload_n X dX1_wetness_1 (i := 1) rfl rfl ?_
  refine AW.iload_n X dX1_wetness_2 (i := 2) rfl rfl ?_
  refine AW.iload_n X dX1_wetness_3 (i := 3) rfl rfl ?_
  refine AW.callSU X dX1_wetness_4 lX1_9 cfX1 (c_X2_wetness ha hk hd) ho rfl rfl rfl rfl ⟨rfl, rfl⟩ (pR_k ?_)
  refine AW.istore X dX1_wetness_7 rfl ?_
  refine AW.iload_n X dX1_wetness_9 (i := 2) rfl rfl ?_
  refine AW.iconstN X 4 dX1_wetness_10 rfl ?_
  refine AW.idivN X dX1_wetness_11 (by first | omega | (split <;> omega)) (by first | omega | (split <;> omega)) (by first | omega | (split <;> omega)) ?_
  refine AW.iconstN X 2 dX1_wetness_12 rfl ?_
  refine AW.icmp_neN X (tgt := 23) dX1_wetness_13 (by decide) (by first | omega | (split <;> omega)) (by first | omega | (split <;> omega)) (fun h13 => ?_) (fun h13 => ?_)
  · refine AW.iload X dX1_wetness_23 rfl ?_
    refine AW.iret X hQ dX1_wetness_25 ⟨_, rfl, ?_⟩
    exact ⟨congrArg nI (by by_cases q : 8 ≤ k <;> first | (rw [if_pos q]; done) | (rw [if_neg q]; done) | omega), rfl⟩
  · refine AW.iconstN X 2 dX1_wetness_16 rfl ?_
    refine AW.iload X dX1_wetness_17 rfl ?_
    refine AW.imulN X dX1_wetness_19 ?_
    refine AW.goto X (tgt := 25) dX1_wetness_20 (by decide) ?_
    refine AW.iret X hQ dX1_wetness_25 ⟨_, rfl, ?_⟩
    exact ⟨congrArg nI (by by_cases q : 8 ≤ k <;> first | (rw [if_pos q]; done) | (rw [if_neg q]; done) | omega), rfl⟩
set_option maxRecDepth 100000 in
set_option maxHeartbeats 4000000 in
theorem c_X0_hardness {l : Launch} {δ : Dl} {b : Nat} {μ : Mm} {o a k d : Nat} (ha : a ≤ 9) (hk : k < 12) (hd : d < 100) (ho : OX o 0) : MCX l δ b yX0_hardness cX0_hardness 4 (some .int) 2 [.ref (b + o), .int (nI a), .int (nI k), .int (nI d)] μ (pI fun r μ' => r = nI (2 * (d - a)) ∧ μ' = μ) := by
  refine MC.intro ([some (.ref (b + o)), some (.int (nI a)), some (.int (nI k)), some (.int (nI d))]) (by decide) rfl rfl fun κ Qc hl hQ X => ?_
  subst hl
  refine AW.iconstN X 2 dX0_hardness_0 rfl ?_
  refine AW.aload_n X dX0_hardness_1 (i := 0) rfl rfl ?_
  refine AW.iload_n X dX0_hardness_2 (i := 1) rfl rfl ?_
  refine AW.iload_n X dX0_hardness_3 (i := 2) rfl rfl ?_
  refine AW.iload_n X dX0_hardness_4 (i := 3) rfl rfl ?_
  refine AW.callSU X dX0_hardness_5 lX0_7 cfX0 (c_X5_hardness ha hk hd) ho rfl rfl rfl rfl ⟨rfl, rfl⟩ (pR_k ?_)
  refine AW.imulN X dX0_hardness_8 ?_
  refine AW.iret X hQ dX0_hardness_9 ⟨_, rfl, ?_⟩
  exact ⟨rfl, rfl⟩
set_option maxRecDepth 100000 in
set_option maxHeartbeats 4000000 in
theorem c_X8_hardness {l : Launch} {δ : Dl} {b : Nat} {μ : Mm} {o a k d : Nat} (ha : a ≤ 9) (hk : k < 12) (hd : d < 100) (ho : OX o 8) : MCX l δ b yX8_hardness cX8_hardness 4 (some .int) 2 [.ref (b + o), .int (nI a), .int (nI k), .int (nI d)] μ (pI fun r μ' => r = nI (if k < 4 then 0 else d - a) ∧ μ' = μ) := by
  refine MC.intro ([some (.ref (b + o)), some (.int (nI a)), some (.int (nI k)), some (.int (nI d))]) (by decide) rfl rfl fun κ Qc hl hQ X => ?_
  subst hl
  refine AW.iload_n X dX8_hardness_0 (i := 2) rfl rfl ?_
  refine AW.iconstN X 4 dX8_hardness_1 rfl ?_
  refine AW.idivN X dX8_hardness_2 (by omega) (by omega) (by omega) ?_
  refine AW.if_neN X (tgt := 10) dX8_hardness_3 (by decide) (by omega) (fun h3 => ?_) (fun h3 => ?_)
  · refine AW.aload_n X dX8_hardness_10 (i := 0) rfl rfl ?_
    refine AW.iload_n X dX8_hardness_11 (i := 1) rfl rfl ?_
    refine AW.iload_n X dX8_hardness_12 (i := 2) rfl rfl ?_
    refine AW.iload_n X dX8_hardness_13 (i := 3) rfl rfl ?_
    refine AW.callSU X dX8_hardness_14 lX8_9 cfX8 (c_X5_hardness ha hk hd) ho rfl rfl rfl rfl ⟨rfl, rfl⟩ (pR_k ?_)
    refine AW.iret X hQ dX8_hardness_17 ⟨_, rfl, ?_⟩
    exact ⟨congrArg nI (by first | (rw [if_pos (by omega)]; done) | (rw [if_neg (by omega)]; done)), rfl⟩
  · refine AW.iconstN X 0 dX8_hardness_6 rfl ?_
    refine AW.goto X (tgt := 17) dX8_hardness_7 (by decide) ?_
    refine AW.iret X hQ dX8_hardness_17 ⟨_, rfl, ?_⟩
    exact ⟨congrArg nI (by first | (rw [if_pos (by omega)]; done) | (rw [if_neg (by omega)]; done)), rfl⟩
theorem ox_k0 : OX 19 4 := dOB (by decide +kernel)
theorem ox_k1 : OX 20 2 := dOB (by decide +kernel)
theorem ox_k2 : OX 21 5 := dOB (by decide +kernel)
theorem ox_k3 : OX 22 1 := dOB (by decide +kernel)
theorem ox_k4 : OX 23 7 := dOB (by decide +kernel)
theorem ox_k5 : OX 24 8 := dOB (by decide +kernel)
theorem ox_k6 : OX 25 0 := dOB (by decide +kernel)
theorem seven {P : Prop} {k : Nat} (hk : k < 7) (h0 : k = 0 → P) (h1 : k = 1 → P) (h2 : k = 2 → P) (h3 : k = 3 → P) (h4 : k = 4 → P) (h5 : k = 5 → P) (h6 : k = 6 → P) : P := by
  have : k = 0 ∨ k = 1 ∨ k = 2 ∨ k = 3 ∨ k = 4 ∨ k = 5 ∨ k = 6 := by omega
  rcases this with e | e | e | e | e | e | e
  · exact h0 e
  · exact h1 e
  · exact h2 e
  · exact h3 e
  · exact h4 e
  · exact h5 e
  · exact h6 e
set_option maxRecDepth 100000 in
set_option maxHeartbeats 4000000 in
theorem c_X3_wetness {l : Launch} {δ : Dl} {b : Nat} {μ : Mm} (W : WX μ.2.2) {o : Nat} (hF : FA o) {V : Vt} (hV : HV μ o V) {k d : Nat} (hk : k < 12) (hd : d < 100) : MCX l δ b yX3_wetness cX3_wetness 3 (some .int) 3 [.ref (b + o), .int (nI k), .int (nI d)] μ (pI fun r μ' => r = nI (wet V k d) ∧ μ' = μ) := by
  have ba := hi_a hV.1
  refine MC.intro ([some (.ref (b + o)), some (.int (nI k)), some (.int (nI d))]) (by decide) rfl rfl fun κ Qc hl hQ X => ?_
  subst hl
  refine AW.aload_n X dX3_wetness_0 (i := 0) rfl rfl ?_
  refine AW.getR X dX3_wetness_1 fX3_40 rfl (fa_ob hF) (hv_kind hV) ?_
  refine AW.aload_n X dX3_wetness_4 (i := 0) rfl rfl ?_
  refine AW.getI X dX3_wetness_5 fX3_15 rfl (fa_ob hF) (hv_a hV) ?_
  refine AW.iload_n X dX3_wetness_8 (i := 1) rfl rfl ?_
  refine AW.iload_n X dX3_wetness_9 (i := 2) rfl rfl ?_
  refine seven (hi_k hV.1) (fun e => ?_) (fun e => ?_) (fun e => ?_) (fun e => ?_) (fun e => ?_) (fun e => ?_) (fun e => ?_)
  · have ez : d = (wet V k d) := by simp [wet, e]
    refine AW.callV X dX3_wetness_10 lX3_67 cfX4 (c_X4_wetness (o := 19 + V 0 0)) (by rw [e]; exact ox_k0 : OX (19 + V 0 0) 4) rfl rfl rfl rfl ⟨rfl, rfl⟩ (pR_ke (congrArg nI ez) ?_)
    refine AW.iret X hQ dX3_wetness_13 ⟨_, rfl, ?_⟩
    exact ⟨rfl, rfl⟩
  · have ez : (if 0 < d then d + (V 0 1) else d) = (wet V k d) := by simp [wet, e]
    refine AW.callU X dX3_wetness_10 lX3_67_X2 cfX2 (c_X2_wetness (o := 19 + V 0 0) (by omega) (by omega) (by omega)) (by rw [e]; exact ox_k1 : OX (19 + V 0 0) 2) rfl rfl rfl rfl ⟨rfl, rfl⟩ (pR_ke (congrArg nI ez) ?_)
    refine AW.iret X hQ dX3_wetness_13 ⟨_, rfl, ?_⟩
    exact ⟨rfl, rfl⟩
  · have ez : d = (wet V k d) := by simp [wet, e]
    refine AW.callU X dX3_wetness_10 lX3_67_X5 cfX5 (c_X4_wetness (o := 19 + V 0 0)) (by rw [e]; exact ox_k2 : OX (19 + V 0 0) 5) rfl rfl rfl rfl ⟨rfl, rfl⟩ (pR_ke (congrArg nI ez) ?_)
    refine AW.iret X hQ dX3_wetness_13 ⟨_, rfl, ?_⟩
    exact ⟨rfl, rfl⟩
  · have ez : (if 8 ≤ k then 2 * (if 0 < d then d + (V 0 1) else d) else (if 0 < d then d + (V 0 1) else d)) = (wet V k d) := by simp [wet, e]
    refine AW.callU X dX3_wetness_10 lX3_67_X1 cfX1 (c_X1_wetness (o := 19 + V 0 0) (by omega) (by omega) (by omega) (by rw [e]; exact ox_k3)) (by rw [e]; exact ox_k3 : OX (19 + V 0 0) 1) rfl rfl rfl rfl ⟨rfl, rfl⟩ (pR_ke (congrArg nI ez) ?_)
    refine AW.iret X hQ dX3_wetness_13 ⟨_, rfl, ?_⟩
    exact ⟨rfl, rfl⟩
  · have ez : d = (wet V k d) := by simp [wet, e]
    refine AW.callU X dX3_wetness_10 lX3_67_X7 cfX7 (c_X4_wetness (o := 19 + V 0 0)) (by rw [e]; exact ox_k4 : OX (19 + V 0 0) 7) rfl rfl rfl rfl ⟨rfl, rfl⟩ (pR_ke (congrArg nI ez) ?_)
    refine AW.iret X hQ dX3_wetness_13 ⟨_, rfl, ?_⟩
    exact ⟨rfl, rfl⟩
  · have ez : d = (wet V k d) := by simp [wet, e]
    refine AW.callU X dX3_wetness_10 lX3_67_X8 cfX8 (c_X4_wetness (o := 19 + V 0 0)) (by rw [e]; exact ox_k5 : OX (19 + V 0 0) 8) rfl rfl rfl rfl ⟨rfl, rfl⟩ (pR_ke (congrArg nI ez) ?_)
    refine AW.iret X hQ dX3_wetness_13 ⟨_, rfl, ?_⟩
    exact ⟨rfl, rfl⟩
  · have ez : d = (wet V k d) := by simp [wet, e]
    refine AW.callU X dX3_wetness_10 lX3_67_X0 cfX0 (c_X4_wetness (o := 19 + V 0 0)) (by rw [e]; exact ox_k6 : OX (19 + V 0 0) 0) rfl rfl rfl rfl ⟨rfl, rfl⟩ (pR_ke (congrArg nI ez) ?_)
    refine AW.iret X hQ dX3_wetness_13 ⟨_, rfl, ?_⟩
    exact ⟨rfl, rfl⟩
set_option maxRecDepth 100000 in
set_option maxHeartbeats 4000000 in
theorem c_X3_hardness {l : Launch} {δ : Dl} {b : Nat} {μ : Mm} (W : WX μ.2.2) {o : Nat} (hF : FA o) {V : Vt} (hV : HV μ o V) {k d : Nat} (hk : k < 12) (hd : d < 100) : MCX l δ b yX3_hardness cX3_hardness 3 (some .int) 3 [.ref (b + o), .int (nI k), .int (nI d)] μ (pI fun r μ' => r = nI (hard V k d) ∧ μ' = μ) := by
  have ba := hi_a hV.1
  refine MC.intro ([some (.ref (b + o)), some (.int (nI k)), some (.int (nI d))]) (by decide) rfl rfl fun κ Qc hl hQ X => ?_
  subst hl
  refine AW.aload_n X dX3_hardness_0 (i := 0) rfl rfl ?_
  refine AW.getR X dX3_hardness_1 fX3_40 rfl (fa_ob hF) (hv_kind hV) ?_
  refine AW.aload_n X dX3_hardness_4 (i := 0) rfl rfl ?_
  refine AW.getI X dX3_hardness_5 fX3_15 rfl (fa_ob hF) (hv_a hV) ?_
  refine AW.iload_n X dX3_hardness_8 (i := 1) rfl rfl ?_
  refine AW.iload_n X dX3_hardness_9 (i := 2) rfl rfl ?_
  refine seven (hi_k hV.1) (fun e => ?_) (fun e => ?_) (fun e => ?_) (fun e => ?_) (fun e => ?_) (fun e => ?_) (fun e => ?_)
  · have ez : d = (hard V k d) := by simp [hard, e]
    refine AW.callV X dX3_hardness_10 lX3_73 cfX4 (c_X4_hardness (o := 19 + V 0 0)) (by rw [e]; exact ox_k0 : OX (19 + V 0 0) 4) rfl rfl rfl rfl ⟨rfl, rfl⟩ (pR_ke (congrArg nI ez) ?_)
    refine AW.iret X hQ dX3_hardness_13 ⟨_, rfl, ?_⟩
    exact ⟨rfl, rfl⟩
  · have ez : d = (hard V k d) := by simp [hard, e]
    refine AW.callU X dX3_hardness_10 lX3_73_X2 cfX2 (c_X4_hardness (o := 19 + V 0 0)) (by rw [e]; exact ox_k1 : OX (19 + V 0 0) 2) rfl rfl rfl rfl ⟨rfl, rfl⟩ (pR_ke (congrArg nI ez) ?_)
    refine AW.iret X hQ dX3_hardness_13 ⟨_, rfl, ?_⟩
    exact ⟨rfl, rfl⟩
  · have ez : (d - (V 0 1)) = (hard V k d) := by simp [hard, e]
    refine AW.callU X dX3_hardness_10 lX3_73_X5 cfX5 (c_X5_hardness (o := 19 + V 0 0) (by omega) (by omega) (by omega)) (by rw [e]; exact ox_k2 : OX (19 + V 0 0) 5) rfl rfl rfl rfl ⟨rfl, rfl⟩ (pR_ke (congrArg nI ez) ?_)
    refine AW.iret X hQ dX3_hardness_13 ⟨_, rfl, ?_⟩
    exact ⟨rfl, rfl⟩
  · have ez : d = (hard V k d) := by simp [hard, e]
    refine AW.callU X dX3_hardness_10 lX3_73_X1 cfX1 (c_X4_hardness (o := 19 + V 0 0)) (by rw [e]; exact ox_k3 : OX (19 + V 0 0) 1) rfl rfl rfl rfl ⟨rfl, rfl⟩ (pR_ke (congrArg nI ez) ?_)
    refine AW.iret X hQ dX3_hardness_13 ⟨_, rfl, ?_⟩
    exact ⟨rfl, rfl⟩
  · have ez : d = (hard V k d) := by simp [hard, e]
    refine AW.callU X dX3_hardness_10 lX3_73_X7 cfX7 (c_X4_hardness (o := 19 + V 0 0)) (by rw [e]; exact ox_k4 : OX (19 + V 0 0) 7) rfl rfl rfl rfl ⟨rfl, rfl⟩ (pR_ke (congrArg nI ez) ?_)
    refine AW.iret X hQ dX3_hardness_13 ⟨_, rfl, ?_⟩
    exact ⟨rfl, rfl⟩
  · have ez : (if k < 4 then 0 else d - (V 0 1)) = (hard V k d) := by simp [hard, e]
    refine AW.callU X dX3_hardness_10 lX3_73_X8 cfX8 (c_X8_hardness (o := 19 + V 0 0) (by omega) (by omega) (by omega) (by rw [e]; exact ox_k5)) (by rw [e]; exact ox_k5 : OX (19 + V 0 0) 8) rfl rfl rfl rfl ⟨rfl, rfl⟩ (pR_ke (congrArg nI ez) ?_)
    refine AW.iret X hQ dX3_hardness_13 ⟨_, rfl, ?_⟩
    exact ⟨rfl, rfl⟩
  · have ez : (2 * (d - (V 0 1))) = (hard V k d) := by simp [hard, e]
    refine AW.callU X dX3_hardness_10 lX3_73_X0 cfX0 (c_X0_hardness (o := 19 + V 0 0) (by omega) (by omega) (by omega) (by rw [e]; exact ox_k6)) (by rw [e]; exact ox_k6 : OX (19 + V 0 0) 0) rfl rfl rfl rfl ⟨rfl, rfl⟩ (pR_ke (congrArg nI ez) ?_)
    refine AW.iret X hQ dX3_hardness_13 ⟨_, rfl, ?_⟩
    exact ⟨rfl, rfl⟩
/-- the wettest of the cells below k but g -/
def wetTo (V : Vt) (g d : Nat) : Nat → Nat
  | 0 => 0
  | k + 1 => if k = g then wetTo V g d k else max (wetTo V g d k) (wet V k d)
theorem wetTo_le {V : Vt} (hV : HI V) (g : Nat) {d : Nat} (hd : d < 100) : ∀ k, wetTo V g d k ≤ 216
  | 0 => by simp [wetTo]
  | k + 1 => by
    have := wetTo_le hV g hd k
    have := wet_le hV k hd
    unfold wetTo
    split <;> omega
set_option maxRecDepth 100000 in
set_option maxHeartbeats 4000000 in
theorem c_X3_wettestBut {l : Launch} {δ : Dl} {b : Nat} {μ : Mm} (W : WX μ.2.2) {o : Nat} (hF : FA o) {V : Vt} (hV : HV μ o V) {g d : Nat} (hg : g < 12) (hd : d < 100) : MCX l δ b yX3_wettestBut cX3_wettestBut 5 (some .int) 4 [.ref (b + o), .int (nI g), .int (nI d)] μ (pI fun r μ' => r = nI (wetTo V g d 12) ∧ μ' = μ) := by
  have bn := hi_n hV.1
  refine MC.intro ([some (.ref (b + o)), some (.int (nI g)), some (.int (nI d)), none, none]) (by decide) rfl rfl fun κ Qc hl hQ X => ?_
  subst hl
  have L5 : ∀ (m i : Nat), 12 - i < m → i ≤ 12 → AW κ (δ, b, NX, 5, shX, False, Qc, 0, 0) NX 0 0 5 [some (.ref (b + o)), some (.int (nI g)), some (.int (nI d)), some (.int (nI (wetTo V g d i))), some (.int (nI i))] [] μ := by
    intro m
    induction m with
    | zero => intro i hm; exact absurd hm (Nat.not_lt_zero _)
    | succ m ih =>
      intro i hm hi 
      have b1 := wetTo_le hV.1 g hd i
      have b2 := wet_le hV.1 i hd
      refine AW.iload X dX3_wettestBut_5 rfl ?_
      refine AW.bipushN X 12 dX3_wettestBut_7 rfl ?_
      refine AW.icmp_geN X (tgt := 36) dX3_wettestBut_9 (by decide) (by omega) (by omega) (fun h9 => ?_) (fun h9 => ?_)
      · obtain rfl : i = 12 := by omega
        refine AW.iload_n X dX3_wettestBut_36 (i := 3) rfl rfl ?_
        refine AW.iret X hQ dX3_wettestBut_37 ⟨_, rfl, ?_⟩
        exact ⟨rfl, rfl⟩
      · refine AW.iload X dX3_wettestBut_12 rfl ?_
        refine AW.iload_n X dX3_wettestBut_14 (i := 1) rfl rfl ?_
        refine AW.icmp_eqN X (tgt := 30) dX3_wettestBut_15 (by decide) (by omega) (by omega) (fun h15 => ?_) (fun h15 => ?_)
        · refine AW.iincN X (c := (i + 1)) dX3_wettestBut_30 rfl (inc_1 _) rfl ?_
          refine AW.goto X (tgt := 5) dX3_wettestBut_33 (by decide) ?_
          refine AW.cg ?_ (ih (i + 1) (by omega) (by omega))
          simp [wetTo, *]
        · refine AW.iload_n X dX3_wettestBut_18 (i := 3) rfl rfl ?_
          refine AW.aload_n X dX3_wettestBut_19 (i := 0) rfl rfl ?_
          refine AW.iload X dX3_wettestBut_20 rfl ?_
          refine AW.iload_n X dX3_wettestBut_22 (i := 2) rfl rfl ?_
          refine AW.callV X dX3_wettestBut_23 lX3_76 cfX3 (c_X3_wetness W hF hV (by omega) (by omega)) (fa_ob hF) rfl rfl rfl rfl ⟨rfl, rfl⟩ (pR_k ?_)
          refine AW.maxN X dX3_wettestBut_26 (by omega) (by omega) lX3_max (by decide) ?_
          refine AW.istore_n X dX3_wettestBut_29 (i := 3) rfl rfl ?_
          refine AW.iincN X (c := (i + 1)) dX3_wettestBut_30 rfl (inc_1 _) rfl ?_
          refine AW.goto X (tgt := 5) dX3_wettestBut_33 (by decide) ?_
          refine AW.cg ?_ (ih (i + 1) (by omega) (by omega))
          simp [wetTo, *]
  refine AW.iconstN X 0 dX3_wettestBut_0 rfl ?_
  refine AW.istore_n X dX3_wettestBut_1 (i := 3) rfl rfl ?_
  refine AW.iconstN X 0 dX3_wettestBut_2 rfl ?_
  refine AW.istore X dX3_wettestBut_3 rfl ?_
  exact L5 _ 0 (Nat.lt_succ_self _) (by omega)
