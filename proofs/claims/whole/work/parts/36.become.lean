/-- front o becomes what front o2 is -/
def bcM (μ : Mm) (o o2 kd : Nat) : Mm := cpI (cpI (cpI (cpI (cpI (cpI (wI (wI (wI (wR μ o 0 (some kd)) o 1 (μ.1 o2 1)) o 2 (μ.1 o2 2)) o 3 (μ.1 o2 3)) (o2 + 1) (o + 1) 0 0 8) (o2 + 2) (o + 2) 0 0 8) (o2 + 3) (o + 3) 0 0 8) (o2 + 4) (o + 4) 0 0 8) (o2 + 5) (o + 5) 0 0 8) (o2 + 6) (o + 6) 0 0 12
theorem fa_far {o o2 : Nat} (h : FA o) (h2 : FA o2) (hne : o ≠ o2) : o + 7 ≤ o2 ∨ o2 + 7 ≤ o := by
  obtain ⟨B, k, hB, hk, rfl⟩ := h
  obtain ⟨B2, k2, hB2, hk2, rfl⟩ := h2
  rcases hB with rfl | rfl | rfl <;> rcases hB2 with rfl | rfl | rfl <;> omega
theorem SameI.cpI {P : Nat → Prop} {μ : Mm} {o1 o2 sp dp k : Nat} (h : P o2) : SameI P μ (cpI μ o1 o2 sp dp k) := ⟨fun q hq => funext fun j => by
  have e : ¬ q = o2 := fun e => hq (e ▸ h)
  simp [_root_.Jvm.Pilot.@@N@@.cpI, e], rfl⟩
theorem Same.wR {P : Nat → Prop} {μ : Mm} {o k : Nat} {v : Option Nat} (h : P o) : Same P μ (wR μ o k v) := ⟨fun q hq => ⟨rfl, funext fun k' => by
  have e : ¬ q = o := fun e => hq (e ▸ h)
  simp [_root_.Jvm.Pilot.@@N@@.wR, e]⟩, rfl⟩
theorem bc_same (μ : Mm) (o o2 kd : Nat) : Same (FR o) μ (bcM μ o o2 kd) := by
  have h : ∀ j, j ≤ 6 → FR o (o + j) := fun j hj => ⟨by omega, by omega⟩
  have h0 : FR o o := h 0 (by omega)
  exact ((((((((Same.wR h0).tr (SameI.wI h0).same).tr (SameI.wI h0).same).tr (SameI.wI h0).same).tr (SameI.cpI (h 1 (by omega))).same).tr (SameI.cpI (h 2 (by omega))).same).tr (SameI.cpI (h 3 (by omega))).same).tr (SameI.cpI (h 4 (by omega))).same).tr (SameI.cpI (h 5 (by omega))).same |>.tr (SameI.cpI (h 6 (by omega))).same
theorem bc_ref (μ : Mm) (o o2 kd : Nat) : (bcM μ o o2 kd).2.2 = fun q k => if q = o ∧ k = 0 then some kd else μ.2.2 q k := rfl
theorem hv_bc {μ : Mm} {o o2 : Nat} {V : Vt} (hF : o + 7 ≤ o2 ∨ o2 + 7 ≤ o) (h : HV μ o2 V) : HV (bcM μ o o2 (19 + V 0 0)) o V := by
  have n1 : ∀ i j, i ≤ 6 → j ≤ 6 → ¬ o2 + i = o + j := fun i j hi hj => by omega
  have m : ∀ j, 1 ≤ j → j ≤ 6 → ∀ k, (j ≤ 5 → k < 8) → (j = 6 → k < 12) → (bcM μ o o2 (19 + V 0 0)).1 (o + j) k = μ.1 (o2 + j) k := by
    intro j hj1 hj k hk1 hk2
    have a1 := n1 1 1; have a2 := n1 2 1; have a3 := n1 2 2; have a4 := n1 3 1; have a5 := n1 3 2; have a6 := n1 3 3
    have q : j = 1 ∨ j = 2 ∨ j = 3 ∨ j = 4 ∨ j = 5 ∨ j = 6 := by omega
    rcases q with rfl | rfl | rfl | rfl | rfl | rfl
    all_goals simp [bcM, cpI, wI, wR, va_cpy, n1, hk1, hk2, show ∀ i, i ≤ 6 → ¬ o2 + i = o from fun i hi => by omega]
  have m0 : ∀ k, 1 ≤ k → k ≤ 3 → (bcM μ o o2 (19 + V 0 0)).1 o k = μ.1 o2 k := by
    intro k h1 h3
    have q : k = 1 ∨ k = 2 ∨ k = 3 := by omega
    rcases q with rfl | rfl | rfl <;> simp [bcM, cpI, wI, wR]
  have hn := hi_n h.1
  refine ⟨h.1, ?_, by rw [m0 1 (by omega) (by omega)]; exact hv_k h, by rw [m0 2 (by omega) (by omega)]; exact hv_a h, by rw [m0 3 (by omega) (by omega)]; exact hv_n h, fun c hc => ?_, fun k hk => ?_⟩
  · simp [bcM, cpI, wI, wR]
  · rw [m 1 (by omega) (by omega) c (fun _ => by omega) (fun _ => by omega), m 2 (by omega) (by omega) c (fun _ => by omega) (fun _ => by omega), m 3 (by omega) (by omega) c (fun _ => by omega) (fun _ => by omega), m 4 (by omega) (by omega) c (fun _ => by omega) (fun _ => by omega), m 5 (by omega) (by omega) c (fun _ => by omega) (fun _ => by omega)]
    exact h.2.2.2.2.2.1 c hc
  · rw [m 6 (by omega) (by omega) k (fun _ => by omega) (fun _ => hk)]
    exact hv_6 h hk
theorem wx_wR {r : Mm} {o kd : Nat} (W : WX r.2.2) (hF : FA o) : WX (wR r o 0 (some kd)).2.2 := by
  have hb : o ≠ 0 ∧ o ≠ 3 ∧ o ≠ 16 ∧ o ≠ 18 ∧ ∀ B, TA B → o ≠ B ∧ o ≠ B + 1 := by
    obtain ⟨B, k, hB, hk, rfl⟩ := hF
    refine ⟨?_, ?_, ?_, ?_, ?_⟩
    · rcases hB with rfl | rfl | rfl <;> omega
    · rcases hB with rfl | rfl | rfl <;> omega
    · rcases hB with rfl | rfl | rfl <;> omega
    · rcases hB with rfl | rfl | rfl <;> omega
    · intro B2 hB2
      rcases hB with rfl | rfl | rfl <;> rcases hB2 with rfl | rfl | rfl <;> omega
  obtain ⟨b0, b3, b16, b18, bB⟩ := hb
  obtain ⟨w1, w2, w3, w4, w5, w6⟩ := W
  refine ⟨?_, ?_, ?_, ?_, ?_, ?_⟩
  · simpa [wR, Ne.symm b0] using w1
  · simpa [wR, Ne.symm b3] using w2
  · simpa [wR, Ne.symm b16] using w3
  · simpa [wR, Ne.symm b18] using w4
  · intro B hB
    have := bB B hB
    simpa [wR, Ne.symm this.1, Ne.symm this.2] using w5 B hB
  · intro x hx
    simpa [wR] using w6 x hx
set_option maxRecDepth 100000 in
set_option maxHeartbeats 4000000 in
theorem c_X3_become {l : Launch} {δ : Dl} {b : Nat} {μ : Mm} (W : WX μ.2.2) {o o2 : Nat} (hF : FA o) (hF2 : FA o2) {V : Vt} (hV : HV μ o2 V) (hne : o ≠ o2) : MCX l δ b yX3_become cX3_become 2 none 1 [.ref (b + o), .ref (b + o2)] μ (pV fun μ' => μ' = bcM μ o o2 (19 + V 0 0)) := by
  have W1 := wx_wR (kd := 19 + V 0 0) W hF
  refine MC.intro ([some (.ref (b + o)), some (.ref (b + o2))]) (by decide) rfl rfl fun κ Qc hl hQ X => ?_
  subst hl
  refine AW.aload_n X dX3_become_0 (i := 0) rfl rfl ?_
  refine AW.aload_n X dX3_become_1 (i := 1) rfl rfl ?_
  refine AW.getR X dX3_become_2 fX3_40 rfl (fa_ob hF2) (hv_kind hV) ?_
  refine AW.putR X dX3_become_5 fX3_40 rfl rfl (by decide) (fa_ob hF) ?_
  refine AW.aload_n X dX3_become_8 (i := 0) rfl rfl ?_
  refine AW.aload_n X dX3_become_9 (i := 1) rfl rfl ?_
  refine AW.getI X dX3_become_10 fX3_9 rfl (fa_ob hF2) (v := (μ.1 o2 1)) (by simp [wR]) ?_
  refine AW.putI X dX3_become_13 fX3_9 rfl rfl ⟨rfl, rfl⟩ (by decide) (fa_ob hF) ?_
  refine AW.aload_n X dX3_become_16 (i := 0) rfl rfl ?_
  refine AW.aload_n X dX3_become_17 (i := 1) rfl rfl ?_
  refine AW.getI X dX3_become_18 fX3_15 rfl (fa_ob hF2) (v := (μ.1 o2 2)) (by simp [wI, wR, Ne.symm hne]) ?_
  refine AW.putI X dX3_become_21 fX3_15 rfl rfl ⟨rfl, rfl⟩ (by decide) (fa_ob hF) ?_
  refine AW.aload_n X dX3_become_24 (i := 0) rfl rfl ?_
  refine AW.aload_n X dX3_become_25 (i := 1) rfl rfl ?_
  refine AW.getI X dX3_become_26 fX3_18 rfl (fa_ob hF2) (v := (μ.1 o2 3)) (by simp [wI, wR, Ne.symm hne]) ?_
  refine AW.putI X dX3_become_29 fX3_18 rfl rfl ⟨rfl, rfl⟩ (by decide) (fa_ob hF) ?_
  refine AW.aload_n X dX3_become_32 (i := 1) rfl rfl ?_
  refine AW.getR X dX3_become_33 fX3_21 rfl (fa_ob hF2) (wx_tenant W1 hF2) ?_
  refine AW.iconstN X 0 dX3_become_36 rfl ?_
  refine AW.aload_n X dX3_become_37 (i := 0) rfl rfl ?_
  refine AW.getR X dX3_become_38 fX3_21 rfl (fa_ob hF) (wx_tenant W1 hF) ?_
  refine AW.iconstN X 0 dX3_become_41 rfl ?_
  refine AW.bipushN X 8 dX3_become_42 rfl ?_
  refine AW.acopyI X dX3_become_44 lX3_copy (fa_1 hF2) (fa_1 hF) (by omega) (by omega) (by decide) (by decide) ⟨rfl, rfl⟩ ?_
  refine AW.aload_n X dX3_become_47 (i := 1) rfl rfl ?_
  refine AW.getR X dX3_become_48 fX3_25 rfl (fa_ob hF2) (wx_colour W1 hF2) ?_
  refine AW.iconstN X 0 dX3_become_51 rfl ?_
  refine AW.aload_n X dX3_become_52 (i := 0) rfl rfl ?_
  refine AW.getR X dX3_become_53 fX3_25 rfl (fa_ob hF) (wx_colour W1 hF) ?_
  refine AW.iconstN X 0 dX3_become_56 rfl ?_
  refine AW.bipushN X 8 dX3_become_57 rfl ?_
  refine AW.acopyI X dX3_become_59 lX3_copy (fa_2 hF2) (fa_2 hF) (by omega) (by omega) (by decide) (by decide) ⟨rfl, rfl⟩ ?_
  refine AW.aload_n X dX3_become_62 (i := 1) rfl rfl ?_
  refine AW.getR X dX3_become_63 fX3_28 rfl (fa_ob hF2) (wx_thick W1 hF2) ?_
  refine AW.iconstN X 0 dX3_become_66 rfl ?_
  refine AW.aload_n X dX3_become_67 (i := 0) rfl rfl ?_
  refine AW.getR X dX3_become_68 fX3_28 rfl (fa_ob hF) (wx_thick W1 hF) ?_
  refine AW.iconstN X 0 dX3_become_71 rfl ?_
  refine AW.bipushN X 8 dX3_become_72 rfl ?_
  refine AW.acopyI X dX3_become_74 lX3_copy (fa_3 hF2) (fa_3 hF) (by omega) (by omega) (by decide) (by decide) ⟨rfl, rfl⟩ ?_
  refine AW.aload_n X dX3_become_77 (i := 1) rfl rfl ?_
  refine AW.getR X dX3_become_78 fX3_31 rfl (fa_ob hF2) (wx_gap W1 hF2) ?_
  refine AW.iconstN X 0 dX3_become_81 rfl ?_
  refine AW.aload_n X dX3_become_82 (i := 0) rfl rfl ?_
  refine AW.getR X dX3_become_83 fX3_31 rfl (fa_ob hF) (wx_gap W1 hF) ?_
  refine AW.iconstN X 0 dX3_become_86 rfl ?_
  refine AW.bipushN X 8 dX3_become_87 rfl ?_
  refine AW.acopyI X dX3_become_89 lX3_copy (fa_4 hF2) (fa_4 hF) (by omega) (by omega) (by decide) (by decide) ⟨rfl, rfl⟩ ?_
  refine AW.aload_n X dX3_become_92 (i := 1) rfl rfl ?_
  refine AW.getR X dX3_become_93 fX3_34 rfl (fa_ob hF2) (wx_year W1 hF2) ?_
  refine AW.iconstN X 0 dX3_become_96 rfl ?_
  refine AW.aload_n X dX3_become_97 (i := 0) rfl rfl ?_
  refine AW.getR X dX3_become_98 fX3_34 rfl (fa_ob hF) (wx_year W1 hF) ?_
  refine AW.iconstN X 0 dX3_become_101 rfl ?_
  refine AW.bipushN X 8 dX3_become_102 rfl ?_
  refine AW.acopyI X dX3_become_104 lX3_copy (fa_5 hF2) (fa_5 hF) (by omega) (by omega) (by decide) (by decide) ⟨rfl, rfl⟩ ?_
  refine AW.aload_n X dX3_become_107 (i := 1) rfl rfl ?_
  refine AW.getR X dX3_become_108 fX3_37 rfl (fa_ob hF2) (wx_gone W1 hF2) ?_
  refine AW.iconstN X 0 dX3_become_111 rfl ?_
  refine AW.aload_n X dX3_become_112 (i := 0) rfl rfl ?_
  refine AW.getR X dX3_become_113 fX3_37 rfl (fa_ob hF) (wx_gone W1 hF) ?_
  refine AW.iconstN X 0 dX3_become_116 rfl ?_
  refine AW.bipushN X 12 dX3_become_117 rfl ?_
  refine AW.acopyI X dX3_become_119 lX3_copy (fa_6 hF2) (fa_6 hF) (by omega) (by omega) (by decide) (by decide) ⟨rfl, rfl⟩ ?_
  refine AW.vret X hQ dX3_become_122 ⟨rfl, ?_⟩
  rfl
