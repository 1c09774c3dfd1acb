/-! the constructors of the class -/
set_option maxRecDepth 100000 in
set_option maxHeartbeats 4000000 in
theorem c_X4_init {l : Launch} {δ : Dl} {b : Nat} {o N : Nat} {μ : Mm} : MC l δ b NX shX True yX4_init cX4_init 1 none 1 0 0 N N [.ref (b + o)] μ (pV fun μ1 => μ1 = μ) := by
  refine MC.intro ([some (.ref (b + o))]) (by decide) rfl rfl fun κ Qc hl hQ X => ?_
  subst hl
  refine AW.aload_n X dX4_init_0 (i := 0) rfl rfl ?_
  refine AW.objInit X dX4_init_1 oiX4 ⟨rfl, rfl⟩ ?_
  exact AW.vret X hQ dX4_init_4 ⟨rfl, rfl⟩
set_option maxRecDepth 100000 in
set_option maxHeartbeats 4000000 in
theorem c_X2_init {l : Launch} {δ : Dl} {b : Nat} {o N : Nat} {μ : Mm} : MC l δ b NX shX True yX2_init cX2_init 1 none 2 0 0 N N [.ref (b + o)] μ (pV fun μ1 => μ1 = μ) := by
  refine MC.intro ([some (.ref (b + o))]) (by decide) rfl rfl fun κ Qc hl hQ X => ?_
  subst hl
  refine AW.aload_n X dX2_init_0 (i := 0) rfl rfl ?_
  refine AW.callIN X dX2_init_1 lX2_1 (c_X4_init (o := o)) rfl rfl rfl rfl ⟨rfl, rfl⟩ (pV_k fun μ1 e1 => ?_)
  subst e1
  refine AW.nrm (N1 := N) (c1 := 0) (s1 := 0) rfl rfl rfl ?_
  exact AW.vret X hQ dX2_init_4 ⟨rfl, rfl⟩
set_option maxRecDepth 100000 in
set_option maxHeartbeats 4000000 in
theorem c_X5_init {l : Launch} {δ : Dl} {b : Nat} {o N : Nat} {μ : Mm} : MC l δ b NX shX True yX5_init cX5_init 1 none 2 0 0 N N [.ref (b + o)] μ (pV fun μ1 => μ1 = μ) := by
  refine MC.intro ([some (.ref (b + o))]) (by decide) rfl rfl fun κ Qc hl hQ X => ?_
  subst hl
  refine AW.aload_n X dX5_init_0 (i := 0) rfl rfl ?_
  refine AW.callIN X dX5_init_1 lX5_1 (c_X4_init (o := o)) rfl rfl rfl rfl ⟨rfl, rfl⟩ (pV_k fun μ1 e1 => ?_)
  subst e1
  refine AW.nrm (N1 := N) (c1 := 0) (s1 := 0) rfl rfl rfl ?_
  exact AW.vret X hQ dX5_init_4 ⟨rfl, rfl⟩
set_option maxRecDepth 100000 in
set_option maxHeartbeats 4000000 in
theorem c_X1_init {l : Launch} {δ : Dl} {b : Nat} {o N : Nat} {μ : Mm} : MC l δ b NX shX True yX1_init cX1_init 1 none 3 0 0 N N [.ref (b + o)] μ (pV fun μ1 => μ1 = μ) := by
  refine MC.intro ([some (.ref (b + o))]) (by decide) rfl rfl fun κ Qc hl hQ X => ?_
  subst hl
  refine AW.aload_n X dX1_init_0 (i := 0) rfl rfl ?_
  refine AW.callIN X dX1_init_1 lX1_3 (c_X2_init (o := o)) rfl rfl rfl rfl ⟨rfl, rfl⟩ (pV_k fun μ1 e1 => ?_)
  subst e1
  refine AW.nrm (N1 := N) (c1 := 0) (s1 := 0) rfl rfl rfl ?_
  exact AW.vret X hQ dX1_init_4 ⟨rfl, rfl⟩
set_option maxRecDepth 100000 in
set_option maxHeartbeats 4000000 in
theorem c_X7_init {l : Launch} {δ : Dl} {b : Nat} {o N : Nat} {μ : Mm} : MC l δ b NX shX True yX7_init cX7_init 1 none 2 0 0 N N [.ref (b + o)] μ (pV fun μ1 => μ1 = μ) := by
  refine MC.intro ([some (.ref (b + o))]) (by decide) rfl rfl fun κ Qc hl hQ X => ?_
  subst hl
  refine AW.aload_n X dX7_init_0 (i := 0) rfl rfl ?_
  refine AW.callIN X dX7_init_1 lX7_1 (c_X4_init (o := o)) rfl rfl rfl rfl ⟨rfl, rfl⟩ (pV_k fun μ1 e1 => ?_)
  subst e1
  refine AW.nrm (N1 := N) (c1 := 0) (s1 := 0) rfl rfl rfl ?_
  exact AW.vret X hQ dX7_init_4 ⟨rfl, rfl⟩
set_option maxRecDepth 100000 in
set_option maxHeartbeats 4000000 in
theorem c_X8_init {l : Launch} {δ : Dl} {b : Nat} {o N : Nat} {μ : Mm} : MC l δ b NX shX True yX8_init cX8_init 1 none 3 0 0 N N [.ref (b + o)] μ (pV fun μ1 => μ1 = μ) := by
  refine MC.intro ([some (.ref (b + o))]) (by decide) rfl rfl fun κ Qc hl hQ X => ?_
  subst hl
  refine AW.aload_n X dX8_init_0 (i := 0) rfl rfl ?_
  refine AW.callIN X dX8_init_1 lX8_3 (c_X5_init (o := o)) rfl rfl rfl rfl ⟨rfl, rfl⟩ (pV_k fun μ1 e1 => ?_)
  subst e1
  refine AW.nrm (N1 := N) (c1 := 0) (s1 := 0) rfl rfl rfl ?_
  exact AW.vret X hQ dX8_init_4 ⟨rfl, rfl⟩
set_option maxRecDepth 100000 in
set_option maxHeartbeats 4000000 in
theorem c_X0_init {l : Launch} {δ : Dl} {b : Nat} {o N : Nat} {μ : Mm} : MC l δ b NX shX True yX0_init cX0_init 1 none 3 0 0 N N [.ref (b + o)] μ (pV fun μ1 => μ1 = μ) := by
  refine MC.intro ([some (.ref (b + o))]) (by decide) rfl rfl fun κ Qc hl hQ X => ?_
  subst hl
  refine AW.aload_n X dX0_init_0 (i := 0) rfl rfl ?_
  refine AW.callIN X dX0_init_1 lX0_1 (c_X5_init (o := o)) rfl rfl rfl rfl ⟨rfl, rfl⟩ (pV_k fun μ1 e1 => ?_)
  subst e1
  refine AW.nrm (N1 := N) (c1 := 0) (s1 := 0) rfl rfl rfl ?_
  exact AW.vret X hQ dX0_init_4 ⟨rfl, rfl⟩
set_option maxRecDepth 100000 in
set_option maxHeartbeats 4000000 in
theorem c_X6_init {l : Launch} {δ : Dl} {b : Nat} {o N : Nat} {μ : Mm} (ho : OB shX N o 6) (hn : N ≤ NX) (hz : ∀ k, μ.1 o k = 0) : MC l δ b NX shX True yX6_init cX6_init 1 none 1 0 0 N N [.ref (b + o)] μ (pV fun μ1 => μ1 = wI μ o 5 (-1)) := by
  refine MC.intro ([some (.ref (b + o))]) (by decide) rfl rfl fun κ Qc hl hQ X => ?_
  subst hl
  refine AW.aload_n X dX6_init_0 (i := 0) rfl rfl ?_
  refine AW.objInit X dX6_init_1 oiX6 ⟨rfl, rfl⟩ ?_
  refine AW.aload_n X dX6_init_4 (i := 0) rfl rfl ?_
  refine AW.iconstN X 0 dX6_init_5 rfl ?_
  refine AW.putI X dX6_init_6 fX6_9 rfl rfl ⟨rfl, rfl⟩ hn ho ?_
  refine AW.cgm (wI_z (hz 2)) ?_
  refine AW.aload_n X dX6_init_9 (i := 0) rfl rfl ?_
  refine AW.iconstN X 0 dX6_init_10 rfl ?_
  refine AW.putI X dX6_init_11 fX6_15 rfl rfl ⟨rfl, rfl⟩ hn ho ?_
  refine AW.cgm (wI_z (hz 3)) ?_
  refine AW.aload_n X dX6_init_14 (i := 0) rfl rfl ?_
  refine AW.iconstN X 0 dX6_init_15 rfl ?_
  refine AW.putI X dX6_init_16 fX6_18 rfl rfl ⟨rfl, rfl⟩ hn ho ?_
  refine AW.cgm (wI_z (hz 4)) ?_
  refine AW.aload_n X dX6_init_19 (i := 0) rfl rfl ?_
  refine AW.iconst X (v := -1) dX6_init_20 rfl ?_
  refine AW.putI X dX6_init_21 fX6_21 rfl rfl ⟨rfl, rfl⟩ hn ho ?_
  exact AW.vret X hQ dX6_init_24 ⟨rfl, rfl⟩
set_option maxRecDepth 100000 in
set_option maxHeartbeats 4000000 in
theorem c_X10_init {l : Launch} {δ : Dl} {b : Nat} {μ : Mm} (hz : ZF μ 16) : MC l δ b NX shX True yX10_init cX10_init 1 none 1 1 20 17 18 [.ref (b + 16)] μ (pV fun μ1 => μ1 = wR μ 16 3 (some 17)) := by
  refine MC.intro ([some (.ref (b + 16))]) (by decide) rfl rfl fun κ Qc hl hQ X => ?_
  subst hl
  refine AW.aload_n X dX10_init_0 (i := 0) rfl rfl ?_
  refine AW.objInit X dX10_init_1 oiX10 ⟨rfl, rfl⟩ ?_
  refine AW.aload_n X dX10_init_4 (i := 0) rfl rfl ?_
  refine AW.iconstN X 0 dX10_init_5 rfl ?_
  refine AW.putI X dX10_init_6 fX10_9 rfl rfl ⟨rfl, rfl⟩ (by decide) (dOB (by decide +kernel)) ?_
  refine AW.cgm (wI_z (hz 16 (by omega) 0).1) ?_
  refine AW.aload_n X dX10_init_9 (i := 0) rfl rfl ?_
  refine AW.iconstN X 0 dX10_init_10 rfl ?_
  refine AW.putI X dX10_init_11 fX10_15 rfl rfl ⟨rfl, rfl⟩ (by decide) (dOB (by decide +kernel)) ?_
  refine AW.cgm (wI_z (hz 16 (by omega) 1).1) ?_
  refine AW.aload_n X dX10_init_14 (i := 0) rfl rfl ?_
  refine AW.iconstN X 0 dX10_init_15 rfl ?_
  refine AW.putI X dX10_init_16 fX10_18 rfl rfl ⟨rfl, rfl⟩ (by decide) (dOB (by decide +kernel)) ?_
  refine AW.cgm (wI_z (hz 16 (by omega) 2).1) ?_
  refine AW.aload_n X dX10_init_19 (i := 0) rfl rfl ?_
  refine AW.bipushN X 20 dX10_init_20 rfl ?_
  refine AW.newI X dX10_init_22 (by decide) trivial (hz.mono (by omega)) (by decide +kernel) (N1 := 18) (c1 := 1) (s1 := 20) rfl rfl rfl ⟨rfl, rfl⟩ ?_
  refine AW.putRF X dX10_init_24 fX10_21 rfl rfl rfl rfl (by decide) (dOB (by decide +kernel)) ?_
  exact AW.vret X hQ dX10_init_27 ⟨rfl, rfl⟩
def frM (μ : Mm) (o kd : Nat) : Mm := (wR (wR (wR (wR (wR (wR (wR μ o 4 (some (o + 1))) o 5 (some (o + 2))) o 6 (some (o + 3))) o 7 (some (o + 4))) o 8 (some (o + 5))) o 9 (some (o + 6))) o 0 (some kd))
set_option maxRecDepth 100000 in
set_option maxHeartbeats 4000000 in
theorem c_X3_init {l : Launch} {δ : Dl} {b : Nat} {o kd : Nat} {μ : Mm} (ho : FA o) (hz : ZF μ o) : MC l δ b NX shX True yX3_init cX3_init 2 none 1 6 52 (o + 1) (o + 7) [.ref (b + o), .ref (b + kd)] μ (pV fun μ1 => μ1 = frM μ o kd) := by
  refine MC.intro ([some (.ref (b + o)), some (.ref (b + kd))]) (by decide) rfl rfl fun κ Qc hl hQ X => ?_
  subst hl
  have hNX : NX = 164 := rfl
  have bo := (fa_6 ho).1
  refine AW.aload_n X dX3_init_0 (i := 0) rfl rfl ?_
  refine AW.objInit X dX3_init_1 oiX3 ⟨rfl, rfl⟩ ?_
  refine AW.aload_n X dX3_init_4 (i := 0) rfl rfl ?_
  refine AW.iconstN X 0 dX3_init_5 rfl ?_
  refine AW.putI X dX3_init_6 fX3_9 rfl rfl ⟨rfl, rfl⟩ (by omega) ⟨by omega, (fa_ob ho).2⟩ ?_
  refine AW.cgm (wI_z (hz o (by omega) 1).1) ?_
  refine AW.aload_n X dX3_init_9 (i := 0) rfl rfl ?_
  refine AW.iconstN X 0 dX3_init_10 rfl ?_
  refine AW.putI X dX3_init_11 fX3_15 rfl rfl ⟨rfl, rfl⟩ (by omega) ⟨by omega, (fa_ob ho).2⟩ ?_
  refine AW.cgm (wI_z (hz o (by omega) 2).1) ?_
  refine AW.aload_n X dX3_init_14 (i := 0) rfl rfl ?_
  refine AW.iconstN X 0 dX3_init_15 rfl ?_
  refine AW.putI X dX3_init_16 fX3_18 rfl rfl ⟨rfl, rfl⟩ (by omega) ⟨by omega, (fa_ob ho).2⟩ ?_
  refine AW.cgm (wI_z (hz o (by omega) 3).1) ?_
  refine AW.aload_n X dX3_init_19 (i := 0) rfl rfl ?_
  refine AW.bipushN X 8 dX3_init_20 rfl ?_
  refine AW.newI X dX3_init_22 (by decide) trivial (hz.mono (by omega)) (fa_1 ho).2 (N1 := o + 2) (c1 := 1) (s1 := 8) rfl rfl rfl ⟨rfl, rfl⟩ ?_
  refine AW.putRF X dX3_init_24 fX3_21 rfl rfl rfl rfl (by omega) ⟨by omega, (fa_ob ho).2⟩ ?_
  refine AW.aload_n X dX3_init_27 (i := 0) rfl rfl ?_
  refine AW.bipushN X 8 dX3_init_28 rfl ?_
  refine AW.newI X dX3_init_30 (by decide) trivial (ZF.wR (hz.mono (by omega)) (by omega)) (fa_2 ho).2 (N1 := o + 3) (c1 := 2) (s1 := 16) rfl rfl rfl ⟨rfl, rfl⟩ ?_
  refine AW.putRF X dX3_init_32 fX3_25 rfl rfl rfl rfl (by omega) ⟨by omega, (fa_ob ho).2⟩ ?_
  refine AW.aload_n X dX3_init_35 (i := 0) rfl rfl ?_
  refine AW.bipushN X 8 dX3_init_36 rfl ?_
  refine AW.newI X dX3_init_38 (by decide) trivial (ZF.wR (ZF.wR (hz.mono (by omega)) (by omega)) (by omega)) (fa_3 ho).2 (N1 := o + 4) (c1 := 3) (s1 := 24) rfl rfl rfl ⟨rfl, rfl⟩ ?_
  refine AW.putRF X dX3_init_40 fX3_28 rfl rfl rfl rfl (by omega) ⟨by omega, (fa_ob ho).2⟩ ?_
  refine AW.aload_n X dX3_init_43 (i := 0) rfl rfl ?_
  refine AW.bipushN X 8 dX3_init_44 rfl ?_
  refine AW.newI X dX3_init_46 (by decide) trivial (ZF.wR (ZF.wR (ZF.wR (hz.mono (by omega)) (by omega)) (by omega)) (by omega)) (fa_4 ho).2 (N1 := o + 5) (c1 := 4) (s1 := 32) rfl rfl rfl ⟨rfl, rfl⟩ ?_
  refine AW.putRF X dX3_init_48 fX3_31 rfl rfl rfl rfl (by omega) ⟨by omega, (fa_ob ho).2⟩ ?_
  refine AW.aload_n X dX3_init_51 (i := 0) rfl rfl ?_
  refine AW.bipushN X 8 dX3_init_52 rfl ?_
  refine AW.newI X dX3_init_54 (by decide) trivial (ZF.wR (ZF.wR (ZF.wR (ZF.wR (hz.mono (by omega)) (by omega)) (by omega)) (by omega)) (by omega)) (fa_5 ho).2 (N1 := o + 6) (c1 := 5) (s1 := 40) rfl rfl rfl ⟨rfl, rfl⟩ ?_
  refine AW.putRF X dX3_init_56 fX3_34 rfl rfl rfl rfl (by omega) ⟨by omega, (fa_ob ho).2⟩ ?_
  refine AW.aload_n X dX3_init_59 (i := 0) rfl rfl ?_
  refine AW.bipushN X 12 dX3_init_60 rfl ?_
  refine AW.newI X dX3_init_62 (by decide) trivial (ZF.wR (ZF.wR (ZF.wR (ZF.wR (ZF.wR (hz.mono (by omega)) (by omega)) (by omega)) (by omega)) (by omega)) (by omega)) (fa_6 ho).2 (N1 := o + 7) (c1 := 6) (s1 := 52) rfl rfl rfl ⟨rfl, rfl⟩ ?_
  refine AW.putRF X dX3_init_64 fX3_37 rfl rfl rfl rfl (by omega) ⟨by omega, (fa_ob ho).2⟩ ?_
  refine AW.aload_n X dX3_init_67 (i := 0) rfl rfl ?_
  refine AW.aload_n X dX3_init_68 (i := 1) rfl rfl ?_
  refine AW.putR X dX3_init_69 fX3_40 rfl rfl (by omega) ⟨by omega, (fa_ob ho).2⟩ ?_
  exact AW.vret X hQ dX3_init_72 ⟨rfl, rfl⟩
theorem frM_ne {μ : Mm} {o kd q j : Nat} (h : q ≠ o) : (frM μ o kd).2.2 q j = μ.2.2 q j := (wR_ne h).trans ((wR_ne h).trans ((wR_ne h).trans ((wR_ne h).trans ((wR_ne h).trans ((wR_ne h).trans ((wR_ne h).trans (rfl)))))))
theorem ZF.frM {μ : Mm} {o kd N : Nat} (h : ZF μ N) (ho : o < N) : ZF (frM μ o kd) N := ZF.wR (ZF.wR (ZF.wR (ZF.wR (ZF.wR (ZF.wR (ZF.wR (h) ho) ho) ho) ho) ho) ho) ho
def twM (μ : Mm) (B : Nat) : Mm := (wI (wI (wI (wI (wI (wI (wI (wI (wI (wI (wI (wI (wR (frM (wR (frM (wR (frM (wR (frM (wR (frM (wR (frM (wR (wI (wI (wI (wR (wR (wR μ B 1 (some (B + 1))) B 3 (some (B + 2))) B 4 (some (B + 3))) B 5 (nI 300)) B 6 (nI 40)) B 9 (nI 1)) B 0 (some 18)) (B + 4) 19) (B + 1) 0 (some (B + 4))) (B + 11) 19) (B + 1) 1 (some (B + 11))) (B + 18) 19) (B + 1) 2 (some (B + 18))) (B + 25) 19) (B + 1) 3 (some (B + 25))) (B + 32) 19) (B + 1) 4 (some (B + 32))) (B + 39) 19) (B + 1) 5 (some (B + 39))) (B + 2) 0 (nI 3)) (B + 3) 0 (nI 1)) (B + 2) 1 (nI 3)) (B + 3) 1 (nI 1)) (B + 2) 2 (nI 3)) (B + 3) 2 (nI 1)) (B + 2) 3 (nI 3)) (B + 3) 3 (nI 1)) (B + 2) 4 (nI 3)) (B + 3) 4 (nI 1)) (B + 2) 5 (nI 3)) (B + 3) 5 (nI 1))
set_option maxRecDepth 100000 in
set_option maxHeartbeats 4000000 in
theorem c_X9_init {l : Launch} {δ : Dl} {b : Nat} {B : Nat} {μ : Mm} (hB : TA B) (hk : μ.2.2 18 0 = some 19) (hz : ZF μ B) : MC l δ b NX shX True yX9_init cX9_init 3 none 2 45 390 (B + 1) (B + 46) [.ref (b + B), .ref (b + 18)] μ (pV fun μ1 => μ1 = twM μ B) := by
  refine MC.intro ([some (.ref (b + B)), some (.ref (b + 18)), none]) (by decide) rfl rfl fun κ Qc hl hQ X => ?_
  subst hl
  have hNX : NX = 164 := rfl
  have bo : 26 ≤ B ∧ B + 46 ≤ NX := by rcases hB with rfl | rfl | rfl <;> decide
  have f0 : FA (B + 4) := fa_of hB (h := 0) (by decide)
  have f1 : FA (B + 11) := fa_of hB (h := 1) (by decide)
  have f2 : FA (B + 18) := fa_of hB (h := 2) (by decide)
  have f3 : FA (B + 25) := fa_of hB (h := 3) (by decide)
  have f4 : FA (B + 32) := fa_of hB (h := 4) (by decide)
  have f5 : FA (B + 39) := fa_of hB (h := 5) (by decide)
  refine AW.aload_n X dX9_init_0 (i := 0) rfl rfl ?_
  refine AW.objInit X dX9_init_1 oiX9 ⟨rfl, rfl⟩ ?_
  refine AW.aload_n X dX9_init_4 (i := 0) rfl rfl ?_
  refine AW.bipushN X 6 dX9_init_5 rfl ?_
  refine AW.newQ X dX9_init_7 clX9_9 (List.Mem.tail _ (List.Mem.head _)) (t := 0) rfl (by decide) trivial (hz.mono (by omega)) (ta_f hB).2 (N1 := B + 2) (c1 := 1) (s1 := 6) rfl rfl rfl ⟨rfl, rfl⟩ ?_
  refine AW.putRF X dX9_init_10 fX9_11 rfl rfl rfl rfl (by omega) ⟨by omega, (ta_ob hB).2⟩ ?_
  refine AW.aload_n X dX9_init_13 (i := 0) rfl rfl ?_
  refine AW.iconstN X 0 dX9_init_14 rfl ?_
  refine AW.putI X dX9_init_15 fX9_17 rfl rfl ⟨rfl, rfl⟩ (by omega) ⟨by omega, (ta_ob hB).2⟩ ?_
  refine AW.cgm (wI_z (hz B (by omega) 2).1) ?_
  refine AW.aload_n X dX9_init_18 (i := 0) rfl rfl ?_
  refine AW.bipushN X 6 dX9_init_19 rfl ?_
  refine AW.newI X dX9_init_21 (by decide) trivial (ZF.wR (hz.mono (by omega)) (by omega)) (ta_h hB).2 (N1 := B + 3) (c1 := 2) (s1 := 12) rfl rfl rfl ⟨rfl, rfl⟩ ?_
  refine AW.putRF X dX9_init_23 fX9_21 rfl rfl rfl rfl (by omega) ⟨by omega, (ta_ob hB).2⟩ ?_
  refine AW.aload_n X dX9_init_26 (i := 0) rfl rfl ?_
  refine AW.bipushN X 6 dX9_init_27 rfl ?_
  refine AW.newI X dX9_init_29 (by decide) trivial (ZF.wR (ZF.wR (hz.mono (by omega)) (by omega)) (by omega)) (ta_c hB).2 (N1 := B + 4) (c1 := 3) (s1 := 18) rfl rfl rfl ⟨rfl, rfl⟩ ?_
  refine AW.putRF X dX9_init_31 fX9_25 rfl rfl rfl rfl (by omega) ⟨by omega, (ta_ob hB).2⟩ ?_
  refine AW.aload_n X dX9_init_34 (i := 0) rfl rfl ?_
  refine AW.sipushN X 300 dX9_init_35 rfl ?_
  refine AW.putI X dX9_init_38 fX9_28 rfl rfl ⟨rfl, rfl⟩ (by omega) ⟨by omega, (ta_ob hB).2⟩ ?_
  refine AW.aload_n X dX9_init_41 (i := 0) rfl rfl ?_
  refine AW.bipushN X 40 dX9_init_42 rfl ?_
  refine AW.putI X dX9_init_44 fX9_31 rfl rfl ⟨rfl, rfl⟩ (by omega) ⟨by omega, (ta_ob hB).2⟩ ?_
  refine AW.aload_n X dX9_init_47 (i := 0) rfl rfl ?_
  refine AW.iconstN X 0 dX9_init_48 rfl ?_
  refine AW.putI X dX9_init_49 fX9_34 rfl rfl ⟨rfl, rfl⟩ (by omega) ⟨by omega, (ta_ob hB).2⟩ ?_
  refine AW.cgm (wI_z ((wI_nk (by decide)).trans ((wI_nk (by decide)).trans (hz B (by omega) 7).1))) ?_
  refine AW.aload_n X dX9_init_52 (i := 0) rfl rfl ?_
  refine AW.iconstN X 0 dX9_init_53 rfl ?_
  refine AW.putI X dX9_init_54 fX9_37 rfl rfl ⟨rfl, rfl⟩ (by omega) ⟨by omega, (ta_ob hB).2⟩ ?_
  refine AW.cgm (wI_z ((wI_nk (by decide)).trans ((wI_nk (by decide)).trans (hz B (by omega) 8).1))) ?_
  refine AW.aload_n X dX9_init_57 (i := 0) rfl rfl ?_
  refine AW.iconstN X 1 dX9_init_58 rfl ?_
  refine AW.putI X dX9_init_59 fX9_40 rfl rfl ⟨rfl, rfl⟩ (by omega) ⟨by omega, (ta_ob hB).2⟩ ?_
  refine AW.aload_n X dX9_init_62 (i := 0) rfl rfl ?_
  refine AW.aload_n X dX9_init_63 (i := 1) rfl rfl ?_
  refine AW.putRF X dX9_init_64 fX9_43 rfl rfl rfl rfl (by omega) ⟨by omega, (ta_ob hB).2⟩ ?_
  refine AW.iconstN X 0 dX9_init_67 rfl ?_
  refine AW.istore_n X dX9_init_68 (i := 2) rfl rfl ?_
  refine AW.iload_n X dX9_init_69 (i := 2) rfl rfl ?_
  refine AW.bipushN X 6 dX9_init_70 rfl ?_
  refine AW.icmp_geN X (tgt := 97) dX9_init_72 (by decide) (by decide) (by decide) (fun h72 => ?_) (fun h72 => ?_)
  · exact absurd h72 (by decide)
  refine AW.aload_n X dX9_init_75 (i := 0) rfl rfl ?_
  refine AW.getR X (r := B + 1) dX9_init_76 fX9_11 rfl ⟨by omega, (ta_ob hB).2⟩ ((wR_nk (by decide)).trans ((wR_nk (by decide)).trans ((wR_nk (by decide)).trans wR_at))) ?_
  refine AW.iload_n X dX9_init_79 (i := 2) rfl rfl ?_
  refine AW.newO X dX9_init_80 cfX3 clX9_9 inX3 izX3 (by decide) trivial (ZF.wR (ZF.wI (ZF.wI (ZF.wI (ZF.wR (ZF.wR (ZF.wR (hz.mono (by omega)) (by omega)) (by omega)) (by omega)) (by omega)) (by omega)) (by omega)) (by omega)) (fa_ob f0).2 (N1 := B + 5) (c1 := 4) (s1 := 28) rfl rfl rfl ⟨rfl, rfl⟩ ?_
  refine AW.dup X dX9_init_83 rfl ?_
  refine AW.aload_n X dX9_init_84 (i := 1) rfl rfl ?_
  refine AW.iconstN X 0 dX9_init_85 rfl ?_
  refine AW.aaload X (r := 19) dX9_init_86 rfl rfl ⟨by omega, ax18.2⟩ (n2_in (by decide) (by decide)) (by rw [n2_clamp (by decide)]; exact ((wR_ne (by omega)).trans ((wR_ne (by omega)).trans ((wR_ne (by omega)).trans ((wR_ne (by omega)).trans hk))))) ?_
  refine AW.callI X dX9_init_87 lX9_47 (c_X3_init (o := B + 4) (kd := 19) f0 (ZF.wR (ZF.wI (ZF.wI (ZF.wI (ZF.wR (ZF.wR (ZF.wR (hz.mono (by omega)) (by omega)) (by omega)) (by omega)) (by omega)) (by omega)) (by omega)) (by omega))) rfl rfl rfl rfl ⟨rfl, rfl⟩ (pV_k fun μ1 e1 => ?_)
  subst e1
  refine AW.nrm (N1 := B + 11) (c1 := 10) (s1 := 80) rfl rfl rfl ?_
  refine AW.aast X dX9_init_90 (by omega) ⟨by omega, (ta_f hB).2⟩ (t9 := 0) rfl ⟨by omega, (fa_ob f0).2⟩ cfX3 (Or.inl rfl) (by decide) (by decide) ?_
  refine AW.iincN X (c := 1) dX9_init_91 rfl (inc_1 0) rfl ?_
  refine AW.goto X (tgt := 69) dX9_init_94 (by decide) ?_
  refine AW.iload_n X dX9_init_69 (i := 2) rfl rfl ?_
  refine AW.bipushN X 6 dX9_init_70 rfl ?_
  refine AW.icmp_geN X (tgt := 97) dX9_init_72 (by decide) (by decide) (by decide) (fun h72 => ?_) (fun h72 => ?_)
  · exact absurd h72 (by decide)
  refine AW.aload_n X dX9_init_75 (i := 0) rfl rfl ?_
  refine AW.getR X (r := B + 1) dX9_init_76 fX9_11 rfl ⟨by omega, (ta_ob hB).2⟩ ((wR_ne (by omega)).trans ((frM_ne (by omega)).trans ((wR_nk (by decide)).trans ((wR_nk (by decide)).trans ((wR_nk (by decide)).trans wR_at))))) ?_
  refine AW.iload_n X dX9_init_79 (i := 2) rfl rfl ?_
  refine AW.newO X dX9_init_80 cfX3 clX9_9 inX3 izX3 (by decide) trivial (ZF.wR (ZF.frM (ZF.wR (ZF.wI (ZF.wI (ZF.wI (ZF.wR (ZF.wR (ZF.wR (hz.mono (by omega)) (by omega)) (by omega)) (by omega)) (by omega)) (by omega)) (by omega)) (by omega)) (by omega)) (by omega)) (fa_ob f1).2 (N1 := B + 12) (c1 := 11) (s1 := 90) rfl rfl rfl ⟨rfl, rfl⟩ ?_
  refine AW.dup X dX9_init_83 rfl ?_
  refine AW.aload_n X dX9_init_84 (i := 1) rfl rfl ?_
  refine AW.iconstN X 0 dX9_init_85 rfl ?_
  refine AW.aaload X (r := 19) dX9_init_86 rfl rfl ⟨by omega, ax18.2⟩ (n2_in (by decide) (by decide)) (by rw [n2_clamp (by decide)]; exact ((wR_ne (by omega)).trans ((frM_ne (by omega)).trans ((wR_ne (by omega)).trans ((wR_ne (by omega)).trans ((wR_ne (by omega)).trans ((wR_ne (by omega)).trans hk))))))) ?_
  refine AW.callI X dX9_init_87 lX9_47 (c_X3_init (o := B + 11) (kd := 19) f1 (ZF.wR (ZF.frM (ZF.wR (ZF.wI (ZF.wI (ZF.wI (ZF.wR (ZF.wR (ZF.wR (hz.mono (by omega)) (by omega)) (by omega)) (by omega)) (by omega)) (by omega)) (by omega)) (by omega)) (by omega)) (by omega))) rfl rfl rfl rfl ⟨rfl, rfl⟩ (pV_k fun μ1 e1 => ?_)
  subst e1
  refine AW.nrm (N1 := B + 18) (c1 := 17) (s1 := 142) rfl rfl rfl ?_
  refine AW.aast X dX9_init_90 (by omega) ⟨by omega, (ta_f hB).2⟩ (t9 := 0) rfl ⟨by omega, (fa_ob f1).2⟩ cfX3 (Or.inl rfl) (by decide) (by decide) ?_
  refine AW.iincN X (c := 2) dX9_init_91 rfl (inc_1 1) rfl ?_
  refine AW.goto X (tgt := 69) dX9_init_94 (by decide) ?_
  refine AW.iload_n X dX9_init_69 (i := 2) rfl rfl ?_
  refine AW.bipushN X 6 dX9_init_70 rfl ?_
  refine AW.icmp_geN X (tgt := 97) dX9_init_72 (by decide) (by decide) (by decide) (fun h72 => ?_) (fun h72 => ?_)
  · exact absurd h72 (by decide)
  refine AW.aload_n X dX9_init_75 (i := 0) rfl rfl ?_
  refine AW.getR X (r := B + 1) dX9_init_76 fX9_11 rfl ⟨by omega, (ta_ob hB).2⟩ ((wR_ne (by omega)).trans ((frM_ne (by omega)).trans ((wR_ne (by omega)).trans ((frM_ne (by omega)).trans ((wR_nk (by decide)).trans ((wR_nk (by decide)).trans ((wR_nk (by decide)).trans wR_at))))))) ?_
  refine AW.iload_n X dX9_init_79 (i := 2) rfl rfl ?_
  refine AW.newO X dX9_init_80 cfX3 clX9_9 inX3 izX3 (by decide) trivial (ZF.wR (ZF.frM (ZF.wR (ZF.frM (ZF.wR (ZF.wI (ZF.wI (ZF.wI (ZF.wR (ZF.wR (ZF.wR (hz.mono (by omega)) (by omega)) (by omega)) (by omega)) (by omega)) (by omega)) (by omega)) (by omega)) (by omega)) (by omega)) (by omega)) (by omega)) (fa_ob f2).2 (N1 := B + 19) (c1 := 18) (s1 := 152) rfl rfl rfl ⟨rfl, rfl⟩ ?_
  refine AW.dup X dX9_init_83 rfl ?_
  refine AW.aload_n X dX9_init_84 (i := 1) rfl rfl ?_
  refine AW.iconstN X 0 dX9_init_85 rfl ?_
  refine AW.aaload X (r := 19) dX9_init_86 rfl rfl ⟨by omega, ax18.2⟩ (n2_in (by decide) (by decide)) (by rw [n2_clamp (by decide)]; exact ((wR_ne (by omega)).trans ((frM_ne (by omega)).trans ((wR_ne (by omega)).trans ((frM_ne (by omega)).trans ((wR_ne (by omega)).trans ((wR_ne (by omega)).trans ((wR_ne (by omega)).trans ((wR_ne (by omega)).trans hk))))))))) ?_
  refine AW.callI X dX9_init_87 lX9_47 (c_X3_init (o := B + 18) (kd := 19) f2 (ZF.wR (ZF.frM (ZF.wR (ZF.frM (ZF.wR (ZF.wI (ZF.wI (ZF.wI (ZF.wR (ZF.wR (ZF.wR (hz.mono (by omega)) (by omega)) (by omega)) (by omega)) (by omega)) (by omega)) (by omega)) (by omega)) (by omega)) (by omega)) (by omega)) (by omega))) rfl rfl rfl rfl ⟨rfl, rfl⟩ (pV_k fun μ1 e1 => ?_)
  subst e1
  refine AW.nrm (N1 := B + 25) (c1 := 24) (s1 := 204) rfl rfl rfl ?_
  refine AW.aast X dX9_init_90 (by omega) ⟨by omega, (ta_f hB).2⟩ (t9 := 0) rfl ⟨by omega, (fa_ob f2).2⟩ cfX3 (Or.inl rfl) (by decide) (by decide) ?_
  refine AW.iincN X (c := 3) dX9_init_91 rfl (inc_1 2) rfl ?_
  refine AW.goto X (tgt := 69) dX9_init_94 (by decide) ?_
  refine AW.iload_n X dX9_init_69 (i := 2) rfl rfl ?_
  refine AW.bipushN X 6 dX9_init_70 rfl ?_
  refine AW.icmp_geN X (tgt := 97) dX9_init_72 (by decide) (by decide) (by decide) (fun h72 => ?_) (fun h72 => ?_)
  · exact absurd h72 (by decide)
  refine AW.aload_n X dX9_init_75 (i := 0) rfl rfl ?_
  refine AW.getR X (r := B + 1) dX9_init_76 fX9_11 rfl ⟨by omega, (ta_ob hB).2⟩ ((wR_ne (by omega)).trans ((frM_ne (by omega)).trans ((wR_ne (by omega)).trans ((frM_ne (by omega)).trans ((wR_ne (by omega)).trans ((frM_ne (by omega)).trans ((wR_nk (by decide)).trans ((wR_nk (by decide)).trans ((wR_nk (by decide)).trans wR_at))))))))) ?_
  refine AW.iload_n X dX9_init_79 (i := 2) rfl rfl ?_
  refine AW.newO X dX9_init_80 cfX3 clX9_9 inX3 izX3 (by decide) trivial (ZF.wR (ZF.frM (ZF.wR (ZF.frM (ZF.wR (ZF.frM (ZF.wR (ZF.wI (ZF.wI (ZF.wI (ZF.wR (ZF.wR (ZF.wR (hz.mono (by omega)) (by omega)) (by omega)) (by omega)) (by omega)) (by omega)) (by omega)) (by omega)) (by omega)) (by omega)) (by omega)) (by omega)) (by omega)) (by omega)) (fa_ob f3).2 (N1 := B + 26) (c1 := 25) (s1 := 214) rfl rfl rfl ⟨rfl, rfl⟩ ?_
  refine AW.dup X dX9_init_83 rfl ?_
  refine AW.aload_n X dX9_init_84 (i := 1) rfl rfl ?_
  refine AW.iconstN X 0 dX9_init_85 rfl ?_
  refine AW.aaload X (r := 19) dX9_init_86 rfl rfl ⟨by omega, ax18.2⟩ (n2_in (by decide) (by decide)) (by rw [n2_clamp (by decide)]; exact ((wR_ne (by omega)).trans ((frM_ne (by omega)).trans ((wR_ne (by omega)).trans ((frM_ne (by omega)).trans ((wR_ne (by omega)).trans ((frM_ne (by omega)).trans ((wR_ne (by omega)).trans ((wR_ne (by omega)).trans ((wR_ne (by omega)).trans ((wR_ne (by omega)).trans hk))))))))))) ?_
  refine AW.callI X dX9_init_87 lX9_47 (c_X3_init (o := B + 25) (kd := 19) f3 (ZF.wR (ZF.frM (ZF.wR (ZF.frM (ZF.wR (ZF.frM (ZF.wR (ZF.wI (ZF.wI (ZF.wI (ZF.wR (ZF.wR (ZF.wR (hz.mono (by omega)) (by omega)) (by omega)) (by omega)) (by omega)) (by omega)) (by omega)) (by omega)) (by omega)) (by omega)) (by omega)) (by omega)) (by omega)) (by omega))) rfl rfl rfl rfl ⟨rfl, rfl⟩ (pV_k fun μ1 e1 => ?_)
  subst e1
  refine AW.nrm (N1 := B + 32) (c1 := 31) (s1 := 266) rfl rfl rfl ?_
  refine AW.aast X dX9_init_90 (by omega) ⟨by omega, (ta_f hB).2⟩ (t9 := 0) rfl ⟨by omega, (fa_ob f3).2⟩ cfX3 (Or.inl rfl) (by decide) (by decide) ?_
  refine AW.iincN X (c := 4) dX9_init_91 rfl (inc_1 3) rfl ?_
  refine AW.goto X (tgt := 69) dX9_init_94 (by decide) ?_
  refine AW.iload_n X dX9_init_69 (i := 2) rfl rfl ?_
  refine AW.bipushN X 6 dX9_init_70 rfl ?_
  refine AW.icmp_geN X (tgt := 97) dX9_init_72 (by decide) (by decide) (by decide) (fun h72 => ?_) (fun h72 => ?_)
  · exact absurd h72 (by decide)
  refine AW.aload_n X dX9_init_75 (i := 0) rfl rfl ?_
  refine AW.getR X (r := B + 1) dX9_init_76 fX9_11 rfl ⟨by omega, (ta_ob hB).2⟩ ((wR_ne (by omega)).trans ((frM_ne (by omega)).trans ((wR_ne (by omega)).trans ((frM_ne (by omega)).trans ((wR_ne (by omega)).trans ((frM_ne (by omega)).trans ((wR_ne (by omega)).trans ((frM_ne (by omega)).trans ((wR_nk (by decide)).trans ((wR_nk (by decide)).trans ((wR_nk (by decide)).trans wR_at))))))))))) ?_
  refine AW.iload_n X dX9_init_79 (i := 2) rfl rfl ?_
  refine AW.newO X dX9_init_80 cfX3 clX9_9 inX3 izX3 (by decide) trivial (ZF.wR (ZF.frM (ZF.wR (ZF.frM (ZF.wR (ZF.frM (ZF.wR (ZF.frM (ZF.wR (ZF.wI (ZF.wI (ZF.wI (ZF.wR (ZF.wR (ZF.wR (hz.mono (by omega)) (by omega)) (by omega)) (by omega)) (by omega)) (by omega)) (by omega)) (by omega)) (by omega)) (by omega)) (by omega)) (by omega)) (by omega)) (by omega)) (by omega)) (by omega)) (fa_ob f4).2 (N1 := B + 33) (c1 := 32) (s1 := 276) rfl rfl rfl ⟨rfl, rfl⟩ ?_
  refine AW.dup X dX9_init_83 rfl ?_
  refine AW.aload_n X dX9_init_84 (i := 1) rfl rfl ?_
  refine AW.iconstN X 0 dX9_init_85 rfl ?_
  refine AW.aaload X (r := 19) dX9_init_86 rfl rfl ⟨by omega, ax18.2⟩ (n2_in (by decide) (by decide)) (by rw [n2_clamp (by decide)]; exact ((wR_ne (by omega)).trans ((frM_ne (by omega)).trans ((wR_ne (by omega)).trans ((frM_ne (by omega)).trans ((wR_ne (by omega)).trans ((frM_ne (by omega)).trans ((wR_ne (by omega)).trans ((frM_ne (by omega)).trans ((wR_ne (by omega)).trans ((wR_ne (by omega)).trans ((wR_ne (by omega)).trans ((wR_ne (by omega)).trans hk))))))))))))) ?_
  refine AW.callI X dX9_init_87 lX9_47 (c_X3_init (o := B + 32) (kd := 19) f4 (ZF.wR (ZF.frM (ZF.wR (ZF.frM (ZF.wR (ZF.frM (ZF.wR (ZF.frM (ZF.wR (ZF.wI (ZF.wI (ZF.wI (ZF.wR (ZF.wR (ZF.wR (hz.mono (by omega)) (by omega)) (by omega)) (by omega)) (by omega)) (by omega)) (by omega)) (by omega)) (by omega)) (by omega)) (by omega)) (by omega)) (by omega)) (by omega)) (by omega)) (by omega))) rfl rfl rfl rfl ⟨rfl, rfl⟩ (pV_k fun μ1 e1 => ?_)
  subst e1
  refine AW.nrm (N1 := B + 39) (c1 := 38) (s1 := 328) rfl rfl rfl ?_
  refine AW.aast X dX9_init_90 (by omega) ⟨by omega, (ta_f hB).2⟩ (t9 := 0) rfl ⟨by omega, (fa_ob f4).2⟩ cfX3 (Or.inl rfl) (by decide) (by decide) ?_
  refine AW.iincN X (c := 5) dX9_init_91 rfl (inc_1 4) rfl ?_
  refine AW.goto X (tgt := 69) dX9_init_94 (by decide) ?_
  refine AW.iload_n X dX9_init_69 (i := 2) rfl rfl ?_
  refine AW.bipushN X 6 dX9_init_70 rfl ?_
  refine AW.icmp_geN X (tgt := 97) dX9_init_72 (by decide) (by decide) (by decide) (fun h72 => ?_) (fun h72 => ?_)
  · exact absurd h72 (by decide)
  refine AW.aload_n X dX9_init_75 (i := 0) rfl rfl ?_
  refine AW.getR X (r := B + 1) dX9_init_76 fX9_11 rfl ⟨by omega, (ta_ob hB).2⟩ ((wR_ne (by omega)).trans ((frM_ne (by omega)).trans ((wR_ne (by omega)).trans ((frM_ne (by omega)).trans ((wR_ne (by omega)).trans ((frM_ne (by omega)).trans ((wR_ne (by omega)).trans ((frM_ne (by omega)).trans ((wR_ne (by omega)).trans ((frM_ne (by omega)).trans ((wR_nk (by decide)).trans ((wR_nk (by decide)).trans ((wR_nk (by decide)).trans wR_at))))))))))))) ?_
  refine AW.iload_n X dX9_init_79 (i := 2) rfl rfl ?_
  refine AW.newO X dX9_init_80 cfX3 clX9_9 inX3 izX3 (by decide) trivial (ZF.wR (ZF.frM (ZF.wR (ZF.frM (ZF.wR (ZF.frM (ZF.wR (ZF.frM (ZF.wR (ZF.frM (ZF.wR (ZF.wI (ZF.wI (ZF.wI (ZF.wR (ZF.wR (ZF.wR (hz.mono (by omega)) (by omega)) (by omega)) (by omega)) (by omega)) (by omega)) (by omega)) (by omega)) (by omega)) (by omega)) (by omega)) (by omega)) (by omega)) (by omega)) (by omega)) (by omega)) (by omega)) (by omega)) (fa_ob f5).2 (N1 := B + 40) (c1 := 39) (s1 := 338) rfl rfl rfl ⟨rfl, rfl⟩ ?_
  refine AW.dup X dX9_init_83 rfl ?_
  refine AW.aload_n X dX9_init_84 (i := 1) rfl rfl ?_
  refine AW.iconstN X 0 dX9_init_85 rfl ?_
  refine AW.aaload X (r := 19) dX9_init_86 rfl rfl ⟨by omega, ax18.2⟩ (n2_in (by decide) (by decide)) (by rw [n2_clamp (by decide)]; exact ((wR_ne (by omega)).trans ((frM_ne (by omega)).trans ((wR_ne (by omega)).trans ((frM_ne (by omega)).trans ((wR_ne (by omega)).trans ((frM_ne (by omega)).trans ((wR_ne (by omega)).trans ((frM_ne (by omega)).trans ((wR_ne (by omega)).trans ((frM_ne (by omega)).trans ((wR_ne (by omega)).trans ((wR_ne (by omega)).trans ((wR_ne (by omega)).trans ((wR_ne (by omega)).trans hk))))))))))))))) ?_
  refine AW.callI X dX9_init_87 lX9_47 (c_X3_init (o := B + 39) (kd := 19) f5 (ZF.wR (ZF.frM (ZF.wR (ZF.frM (ZF.wR (ZF.frM (ZF.wR (ZF.frM (ZF.wR (ZF.frM (ZF.wR (ZF.wI (ZF.wI (ZF.wI (ZF.wR (ZF.wR (ZF.wR (hz.mono (by omega)) (by omega)) (by omega)) (by omega)) (by omega)) (by omega)) (by omega)) (by omega)) (by omega)) (by omega)) (by omega)) (by omega)) (by omega)) (by omega)) (by omega)) (by omega)) (by omega)) (by omega))) rfl rfl rfl rfl ⟨rfl, rfl⟩ (pV_k fun μ1 e1 => ?_)
  subst e1
  refine AW.nrm (N1 := B + 46) (c1 := 45) (s1 := 390) rfl rfl rfl ?_
  refine AW.aast X dX9_init_90 (by omega) ⟨by omega, (ta_f hB).2⟩ (t9 := 0) rfl ⟨by omega, (fa_ob f5).2⟩ cfX3 (Or.inl rfl) (by decide) (by decide) ?_
  refine AW.iincN X (c := 6) dX9_init_91 rfl (inc_1 5) rfl ?_
  refine AW.goto X (tgt := 69) dX9_init_94 (by decide) ?_
  refine AW.iload_n X dX9_init_69 (i := 2) rfl rfl ?_
  refine AW.bipushN X 6 dX9_init_70 rfl ?_
  refine AW.icmp_geN X (tgt := 97) dX9_init_72 (by decide) (by decide) (by decide) (fun h72 => ?_) (fun h72 => ?_)
  rotate_left
  · exact absurd h72 (by decide)
  refine AW.iconstN X 0 dX9_init_97 rfl ?_
  refine AW.istore_n X dX9_init_98 (i := 2) rfl rfl ?_
  refine AW.iload_n X dX9_init_99 (i := 2) rfl rfl ?_
  refine AW.bipushN X 6 dX9_init_100 rfl ?_
  refine AW.icmp_geN X (tgt := 125) dX9_init_102 (by decide) (by decide) (by decide) (fun h102 => ?_) (fun h102 => ?_)
  · exact absurd h102 (by decide)
  refine AW.aload_n X dX9_init_105 (i := 0) rfl rfl ?_
  refine AW.getR X (r := B + 2) dX9_init_106 fX9_21 rfl ⟨by omega, (ta_ob hB).2⟩ ((wR_ne (by omega)).trans ((frM_ne (by omega)).trans ((wR_ne (by omega)).trans ((frM_ne (by omega)).trans ((wR_ne (by omega)).trans ((frM_ne (by omega)).trans ((wR_ne (by omega)).trans ((frM_ne (by omega)).trans ((wR_ne (by omega)).trans ((frM_ne (by omega)).trans ((wR_ne (by omega)).trans ((frM_ne (by omega)).trans ((wR_nk (by decide)).trans ((wR_nk (by decide)).trans wR_at)))))))))))))) ?_
  refine AW.iload_n X dX9_init_109 (i := 2) rfl rfl ?_
  refine AW.iconstN X 3 dX9_init_110 rfl ?_
  refine AW.iastN X dX9_init_111 (by omega) ⟨by omega, (ta_h hB).2⟩ (by decide) (by decide) ?_
  refine AW.aload_n X dX9_init_112 (i := 0) rfl rfl ?_
  refine AW.getR X (r := B + 3) dX9_init_113 fX9_25 rfl ⟨by omega, (ta_ob hB).2⟩ ((wR_ne (by omega)).trans ((frM_ne (by omega)).trans ((wR_ne (by omega)).trans ((frM_ne (by omega)).trans ((wR_ne (by omega)).trans ((frM_ne (by omega)).trans ((wR_ne (by omega)).trans ((frM_ne (by omega)).trans ((wR_ne (by omega)).trans ((frM_ne (by omega)).trans ((wR_ne (by omega)).trans ((frM_ne (by omega)).trans ((wR_nk (by decide)).trans wR_at))))))))))))) ?_
  refine AW.iload_n X dX9_init_116 (i := 2) rfl rfl ?_
  refine AW.iconstN X 1 dX9_init_117 rfl ?_
  refine AW.iastN X dX9_init_118 (by omega) ⟨by omega, (ta_c hB).2⟩ (by decide) (by decide) ?_
  refine AW.iincN X (c := 1) dX9_init_119 rfl (inc_1 0) rfl ?_
  refine AW.goto X (tgt := 99) dX9_init_122 (by decide) ?_
  refine AW.iload_n X dX9_init_99 (i := 2) rfl rfl ?_
  refine AW.bipushN X 6 dX9_init_100 rfl ?_
  refine AW.icmp_geN X (tgt := 125) dX9_init_102 (by decide) (by decide) (by decide) (fun h102 => ?_) (fun h102 => ?_)
  · exact absurd h102 (by decide)
  refine AW.aload_n X dX9_init_105 (i := 0) rfl rfl ?_
  refine AW.getR X (r := B + 2) dX9_init_106 fX9_21 rfl ⟨by omega, (ta_ob hB).2⟩ ((wR_ne (by omega)).trans ((frM_ne (by omega)).trans ((wR_ne (by omega)).trans ((frM_ne (by omega)).trans ((wR_ne (by omega)).trans ((frM_ne (by omega)).trans ((wR_ne (by omega)).trans ((frM_ne (by omega)).trans ((wR_ne (by omega)).trans ((frM_ne (by omega)).trans ((wR_ne (by omega)).trans ((frM_ne (by omega)).trans ((wR_nk (by decide)).trans ((wR_nk (by decide)).trans wR_at)))))))))))))) ?_
  refine AW.iload_n X dX9_init_109 (i := 2) rfl rfl ?_
  refine AW.iconstN X 3 dX9_init_110 rfl ?_
  refine AW.iastN X dX9_init_111 (by omega) ⟨by omega, (ta_h hB).2⟩ (by decide) (by decide) ?_
  refine AW.aload_n X dX9_init_112 (i := 0) rfl rfl ?_
  refine AW.getR X (r := B + 3) dX9_init_113 fX9_25 rfl ⟨by omega, (ta_ob hB).2⟩ ((wR_ne (by omega)).trans ((frM_ne (by omega)).trans ((wR_ne (by omega)).trans ((frM_ne (by omega)).trans ((wR_ne (by omega)).trans ((frM_ne (by omega)).trans ((wR_ne (by omega)).trans ((frM_ne (by omega)).trans ((wR_ne (by omega)).trans ((frM_ne (by omega)).trans ((wR_ne (by omega)).trans ((frM_ne (by omega)).trans ((wR_nk (by decide)).trans wR_at))))))))))))) ?_
  refine AW.iload_n X dX9_init_116 (i := 2) rfl rfl ?_
  refine AW.iconstN X 1 dX9_init_117 rfl ?_
  refine AW.iastN X dX9_init_118 (by omega) ⟨by omega, (ta_c hB).2⟩ (by decide) (by decide) ?_
  refine AW.iincN X (c := 2) dX9_init_119 rfl (inc_1 1) rfl ?_
  refine AW.goto X (tgt := 99) dX9_init_122 (by decide) ?_
  refine AW.iload_n X dX9_init_99 (i := 2) rfl rfl ?_
  refine AW.bipushN X 6 dX9_init_100 rfl ?_
  refine AW.icmp_geN X (tgt := 125) dX9_init_102 (by decide) (by decide) (by decide) (fun h102 => ?_) (fun h102 => ?_)
  · exact absurd h102 (by decide)
  refine AW.aload_n X dX9_init_105 (i := 0) rfl rfl ?_
  refine AW.getR X (r := B + 2) dX9_init_106 fX9_21 rfl ⟨by omega, (ta_ob hB).2⟩ ((wR_ne (by omega)).trans ((frM_ne (by omega)).trans ((wR_ne (by omega)).trans ((frM_ne (by omega)).trans ((wR_ne (by omega)).trans ((frM_ne (by omega)).trans ((wR_ne (by omega)).trans ((frM_ne (by omega)).trans ((wR_ne (by omega)).trans ((frM_ne (by omega)).trans ((wR_ne (by omega)).trans ((frM_ne (by omega)).trans ((wR_nk (by decide)).trans ((wR_nk (by decide)).trans wR_at)))))))))))))) ?_
  refine AW.iload_n X dX9_init_109 (i := 2) rfl rfl ?_
  refine AW.iconstN X 3 dX9_init_110 rfl ?_
  refine AW.iastN X dX9_init_111 (by omega) ⟨by omega, (ta_h hB).2⟩ (by decide) (by decide) ?_
  refine AW.aload_n X dX9_init_112 (i := 0) rfl rfl ?_
  refine AW.getR X (r := B + 3) dX9_init_113 fX9_25 rfl ⟨by omega, (ta_ob hB).2⟩ ((wR_ne (by omega)).trans ((frM_ne (by omega)).trans ((wR_ne (by omega)).trans ((frM_ne (by omega)).trans ((wR_ne (by omega)).trans ((frM_ne (by omega)).trans ((wR_ne (by omega)).trans ((frM_ne (by omega)).trans ((wR_ne (by omega)).trans ((frM_ne (by omega)).trans ((wR_ne (by omega)).trans ((frM_ne (by omega)).trans ((wR_nk (by decide)).trans wR_at))))))))))))) ?_
  refine AW.iload_n X dX9_init_116 (i := 2) rfl rfl ?_
  refine AW.iconstN X 1 dX9_init_117 rfl ?_
  refine AW.iastN X dX9_init_118 (by omega) ⟨by omega, (ta_c hB).2⟩ (by decide) (by decide) ?_
  refine AW.iincN X (c := 3) dX9_init_119 rfl (inc_1 2) rfl ?_
  refine AW.goto X (tgt := 99) dX9_init_122 (by decide) ?_
  refine AW.iload_n X dX9_init_99 (i := 2) rfl rfl ?_
  refine AW.bipushN X 6 dX9_init_100 rfl ?_
  refine AW.icmp_geN X (tgt := 125) dX9_init_102 (by decide) (by decide) (by decide) (fun h102 => ?_) (fun h102 => ?_)
  · exact absurd h102 (by decide)
  refine AW.aload_n X dX9_init_105 (i := 0) rfl rfl ?_
  refine AW.getR X (r := B + 2) dX9_init_106 fX9_21 rfl ⟨by omega, (ta_ob hB).2⟩ ((wR_ne (by omega)).trans ((frM_ne (by omega)).trans ((wR_ne (by omega)).trans ((frM_ne (by omega)).trans ((wR_ne (by omega)).trans ((frM_ne (by omega)).trans ((wR_ne (by omega)).trans ((frM_ne (by omega)).trans ((wR_ne (by omega)).trans ((frM_ne (by omega)).trans ((wR_ne (by omega)).trans ((frM_ne (by omega)).trans ((wR_nk (by decide)).trans ((wR_nk (by decide)).trans wR_at)))))))))))))) ?_
  refine AW.iload_n X dX9_init_109 (i := 2) rfl rfl ?_
  refine AW.iconstN X 3 dX9_init_110 rfl ?_
  refine AW.iastN X dX9_init_111 (by omega) ⟨by omega, (ta_h hB).2⟩ (by decide) (by decide) ?_
  refine AW.aload_n X dX9_init_112 (i := 0) rfl rfl ?_
  refine AW.getR X (r := B + 3) dX9_init_113 fX9_25 rfl ⟨by omega, (ta_ob hB).2⟩ ((wR_ne (by omega)).trans ((frM_ne (by omega)).trans ((wR_ne (by omega)).trans ((frM_ne (by omega)).trans ((wR_ne (by omega)).trans ((frM_ne (by omega)).trans ((wR_ne (by omega)).trans ((frM_ne (by omega)).trans ((wR_ne (by omega)).trans ((frM_ne (by omega)).trans ((wR_ne (by omega)).trans ((frM_ne (by omega)).trans ((wR_nk (by decide)).trans wR_at))))))))))))) ?_
  refine AW.iload_n X dX9_init_116 (i := 2) rfl rfl ?_
  refine AW.iconstN X 1 dX9_init_117 rfl ?_
  refine AW.iastN X dX9_init_118 (by omega) ⟨by omega, (ta_c hB).2⟩ (by decide) (by decide) ?_
  refine AW.iincN X (c := 4) dX9_init_119 rfl (inc_1 3) rfl ?_
  refine AW.goto X (tgt := 99) dX9_init_122 (by decide) ?_
  refine AW.iload_n X dX9_init_99 (i := 2) rfl rfl ?_
  refine AW.bipushN X 6 dX9_init_100 rfl ?_
  refine AW.icmp_geN X (tgt := 125) dX9_init_102 (by decide) (by decide) (by decide) (fun h102 => ?_) (fun h102 => ?_)
  · exact absurd h102 (by decide)
  refine AW.aload_n X dX9_init_105 (i := 0) rfl rfl ?_
  refine AW.getR X (r := B + 2) dX9_init_106 fX9_21 rfl ⟨by omega, (ta_ob hB).2⟩ ((wR_ne (by omega)).trans ((frM_ne (by omega)).trans ((wR_ne (by omega)).trans ((frM_ne (by omega)).trans ((wR_ne (by omega)).trans ((frM_ne (by omega)).trans ((wR_ne (by omega)).trans ((frM_ne (by omega)).trans ((wR_ne (by omega)).trans ((frM_ne (by omega)).trans ((wR_ne (by omega)).trans ((frM_ne (by omega)).trans ((wR_nk (by decide)).trans ((wR_nk (by decide)).trans wR_at)))))))))))))) ?_
  refine AW.iload_n X dX9_init_109 (i := 2) rfl rfl ?_
  refine AW.iconstN X 3 dX9_init_110 rfl ?_
  refine AW.iastN X dX9_init_111 (by omega) ⟨by omega, (ta_h hB).2⟩ (by decide) (by decide) ?_
  refine AW.aload_n X dX9_init_112 (i := 0) rfl rfl ?_
  refine AW.getR X (r := B + 3) dX9_init_113 fX9_25 rfl ⟨by omega, (ta_ob hB).2⟩ ((wR_ne (by omega)).trans ((frM_ne (by omega)).trans ((wR_ne (by omega)).trans ((frM_ne (by omega)).trans ((wR_ne (by omega)).trans ((frM_ne (by omega)).trans ((wR_ne (by omega)).trans ((frM_ne (by omega)).trans ((wR_ne (by omega)).trans ((frM_ne (by omega)).trans ((wR_ne (by omega)).trans ((frM_ne (by omega)).trans ((wR_nk (by decide)).trans wR_at))))))))))))) ?_
  refine AW.iload_n X dX9_init_116 (i := 2) rfl rfl ?_
  refine AW.iconstN X 1 dX9_init_117 rfl ?_
  refine AW.iastN X dX9_init_118 (by omega) ⟨by omega, (ta_c hB).2⟩ (by decide) (by decide) ?_
  refine AW.iincN X (c := 5) dX9_init_119 rfl (inc_1 4) rfl ?_
  refine AW.goto X (tgt := 99) dX9_init_122 (by decide) ?_
  refine AW.iload_n X dX9_init_99 (i := 2) rfl rfl ?_
  refine AW.bipushN X 6 dX9_init_100 rfl ?_
  refine AW.icmp_geN X (tgt := 125) dX9_init_102 (by decide) (by decide) (by decide) (fun h102 => ?_) (fun h102 => ?_)
  · exact absurd h102 (by decide)
  refine AW.aload_n X dX9_init_105 (i := 0) rfl rfl ?_
  refine AW.getR X (r := B + 2) dX9_init_106 fX9_21 rfl ⟨by omega, (ta_ob hB).2⟩ ((wR_ne (by omega)).trans ((frM_ne (by omega)).trans ((wR_ne (by omega)).trans ((frM_ne (by omega)).trans ((wR_ne (by omega)).trans ((frM_ne (by omega)).trans ((wR_ne (by omega)).trans ((frM_ne (by omega)).trans ((wR_ne (by omega)).trans ((frM_ne (by omega)).trans ((wR_ne (by omega)).trans ((frM_ne (by omega)).trans ((wR_nk (by decide)).trans ((wR_nk (by decide)).trans wR_at)))))))))))))) ?_
  refine AW.iload_n X dX9_init_109 (i := 2) rfl rfl ?_
  refine AW.iconstN X 3 dX9_init_110 rfl ?_
  refine AW.iastN X dX9_init_111 (by omega) ⟨by omega, (ta_h hB).2⟩ (by decide) (by decide) ?_
  refine AW.aload_n X dX9_init_112 (i := 0) rfl rfl ?_
  refine AW.getR X (r := B + 3) dX9_init_113 fX9_25 rfl ⟨by omega, (ta_ob hB).2⟩ ((wR_ne (by omega)).trans ((frM_ne (by omega)).trans ((wR_ne (by omega)).trans ((frM_ne (by omega)).trans ((wR_ne (by omega)).trans ((frM_ne (by omega)).trans ((wR_ne (by omega)).trans ((frM_ne (by omega)).trans ((wR_ne (by omega)).trans ((frM_ne (by omega)).trans ((wR_ne (by omega)).trans ((frM_ne (by omega)).trans ((wR_nk (by decide)).trans wR_at))))))))))))) ?_
  refine AW.iload_n X dX9_init_116 (i := 2) rfl rfl ?_
  refine AW.iconstN X 1 dX9_init_117 rfl ?_
  refine AW.iastN X dX9_init_118 (by omega) ⟨by omega, (ta_c hB).2⟩ (by decide) (by decide) ?_
  refine AW.iincN X (c := 6) dX9_init_119 rfl (inc_1 5) rfl ?_
  refine AW.goto X (tgt := 99) dX9_init_122 (by decide) ?_
  refine AW.iload_n X dX9_init_99 (i := 2) rfl rfl ?_
  refine AW.bipushN X 6 dX9_init_100 rfl ?_
  refine AW.icmp_geN X (tgt := 125) dX9_init_102 (by decide) (by decide) (by decide) (fun h102 => ?_) (fun h102 => ?_)
  rotate_left
  · exact absurd h102 (by decide)
  exact AW.vret X hQ dX9_init_125 ⟨rfl, rfl⟩
theorem twM_r {μ : Mm} {B q j : Nat} (h : q < B) : (twM μ B).2.2 q j = μ.2.2 q j := ((wR_ne (by omega)).trans ((frM_ne (by omega)).trans ((wR_ne (by omega)).trans ((frM_ne (by omega)).trans ((wR_ne (by omega)).trans ((frM_ne (by omega)).trans ((wR_ne (by omega)).trans ((frM_ne (by omega)).trans ((wR_ne (by omega)).trans ((frM_ne (by omega)).trans ((wR_ne (by omega)).trans ((frM_ne (by omega)).trans ((wR_ne (by omega)).trans ((wR_ne (by omega)).trans ((wR_ne (by omega)).trans ((wR_ne (by omega)).trans rfl))))))))))))))))
theorem wR_1 {μ : Mm} {o k : Nat} {v : Option Nat} : (wR μ o k v).1 = μ.1 := rfl
theorem frM_1 {μ : Mm} {o kd : Nat} : (frM μ o kd).1 = μ.1 := rfl
theorem twM_i {μ : Mm} {B q j : Nat} (h : q < B) : (twM μ B).1 q j = μ.1 q j := by
  unfold twM
  simp (disch := omega) only [wR_1, frM_1, wI_ne]
theorem ZF.twM {μ : Mm} {B N : Nat} (h : ZF μ N) (hn : B + 46 ≤ N) : ZF (twM μ B) N := (ZF.wI (ZF.wI (ZF.wI (ZF.wI (ZF.wI (ZF.wI (ZF.wI (ZF.wI (ZF.wI (ZF.wI (ZF.wI (ZF.wI (ZF.wR (ZF.frM (ZF.wR (ZF.frM (ZF.wR (ZF.frM (ZF.wR (ZF.frM (ZF.wR (ZF.frM (ZF.wR (ZF.frM (ZF.wR (ZF.wI (ZF.wI (ZF.wI (ZF.wR (ZF.wR (ZF.wR h (by omega)) (by omega)) (by omega)) (by omega)) (by omega)) (by omega)) (by omega)) (by omega)) (by omega)) (by omega)) (by omega)) (by omega)) (by omega)) (by omega)) (by omega)) (by omega)) (by omega)) (by omega)) (by omega)) (by omega)) (by omega)) (by omega)) (by omega)) (by omega)) (by omega)) (by omega)) (by omega)) (by omega)) (by omega)) (by omega)) (by omega))
theorem mnM_ne {μ : Mm} {N a q j : Nat} (h : q ≠ N) : (mnM μ N a).2.2 q j = μ.2.2 q j := if_neg fun z => h z.1
/-- a blank memory -/
def zM : Mm := (fun _ _ => 0, fun _ _ => 0, fun _ _ => none)
theorem zf_zM (N : Nat) : ZF zM N := fun _ _ _ => ⟨rfl, rfl, rfl⟩
def muX : Mm := (wR (twM (wR (twM (wR (twM (wR (wR (wR (wR (wR (wR (wR (wI (wI (wI (wI (wI (wI (wI (wI (wR (wR (wI (wR (wI (wR (wR (wR (wR (mnM (wR (wR zM 0 0 (some 1)) 0 1 (some 2)) 3 8) 0 2 (some 3)) 0 3 (some 12)) 0 5 (some 13)) 0 6 (some 14)) 15 5 (-1)) 0 11 (some 15)) 0 12 (-1)) 16 3 (some 17)) 0 13 (some 16)) 1 0 (-1)) 1 1 (-1)) 1 2 (-1)) 1 3 (-1)) 1 4 (-1)) 1 5 (-1)) 1 6 (-1)) 1 7 (-1)) 18 0 (some 19)) 18 1 (some 20)) 18 2 (some 21)) 18 3 (some 22)) 18 4 (some 23)) 18 5 (some 24)) 18 6 (some 25)) 26) 0 7 (some 26)) 72) 0 8 (some 72)) 118) 0 9 (some 118))
set_option maxRecDepth 100000 in
set_option maxHeartbeats 4000000 in
theorem c_X11_init {l : Launch} {δ : Dl} {b : Nat} : MC l δ b NX shX True yX11_init cX11_init 2 none 4 163 2813 1 164 [.ref (b + 0)] zM (pV fun μ1 => μ1 = muX) := by
  refine MC.intro ([some (.ref (b + 0)), none]) (by decide) rfl rfl fun κ Qc hl hQ X => ?_
  subst hl
  refine AW.aload_n X dX11_init_0 (i := 0) rfl rfl ?_
  refine AW.objInit X dX11_init_1 oiX11 ⟨rfl, rfl⟩ ?_
  refine AW.aload_n X dX11_init_4 (i := 0) rfl rfl ?_
  refine AW.bipushN X 8 dX11_init_5 rfl ?_
  refine AW.newI X dX11_init_7 (by decide) trivial (zf_zM _) (by decide +kernel) (N1 := 2) (c1 := 1) (s1 := 8) rfl rfl rfl ⟨rfl, rfl⟩ ?_
  refine AW.putRF X dX11_init_9 fX11_9 rfl rfl rfl rfl (by decide) (dOB (by decide +kernel)) ?_
  refine AW.aload_n X dX11_init_12 (i := 0) rfl rfl ?_
  refine AW.bipushN X 8 dX11_init_13 rfl ?_
  refine AW.newI X dX11_init_15 (by decide) trivial (ZF.wR (zf_zM _) (by omega)) (by decide +kernel) (N1 := 3) (c1 := 2) (s1 := 16) rfl rfl rfl ⟨rfl, rfl⟩ ?_
  refine AW.putRF X dX11_init_17 fX11_13 rfl rfl rfl rfl (by decide) (dOB (by decide +kernel)) ?_
  refine AW.aload_n X dX11_init_20 (i := 0) rfl rfl ?_
  refine AW.bipushN X 8 dX11_init_21 rfl ?_
  refine AW.sipushN X 160 dX11_init_23 rfl ?_
  refine AW.mna X dX11_init_26 clX11_16 (by decide) (by decide) trivial (ZF.wR (ZF.wR (zf_zM _) (by omega)) (by omega)) (by decide +kernel) (by decide +kernel) (N1 := 12) (c1 := 11) (s1 := 1304) rfl rfl rfl ⟨rfl, rfl⟩ ?_
  refine AW.putRF X dX11_init_30 fX11_18 rfl rfl rfl rfl (by decide) (dOB (by decide +kernel)) ?_
  refine AW.aload_n X dX11_init_33 (i := 0) rfl rfl ?_
  refine AW.bipushN X 8 dX11_init_34 rfl ?_
  refine AW.newI X dX11_init_36 (by decide) trivial (ZF.wR (ZF.mnM (ZF.wR (ZF.wR (zf_zM _) (by omega)) (by omega)) (by omega)) (by omega)) (by decide +kernel) (N1 := 13) (c1 := 12) (s1 := 1312) rfl rfl rfl ⟨rfl, rfl⟩ ?_
  refine AW.putRF X dX11_init_38 fX11_21 rfl rfl rfl rfl (by decide) (dOB (by decide +kernel)) ?_
  refine AW.aload_n X dX11_init_41 (i := 0) rfl rfl ?_
  refine AW.iconstN X 0 dX11_init_42 rfl ?_
  refine AW.putI X dX11_init_43 fX11_24 rfl rfl ⟨rfl, rfl⟩ (by decide) (dOB (by decide +kernel)) ?_
  refine AW.cgm (wI_z ((zf_zM 0) 0 (by omega) 4).1) ?_
  refine AW.aload_n X dX11_init_46 (i := 0) rfl rfl ?_
  refine AW.bipushN X 8 dX11_init_47 rfl ?_
  refine AW.newI X dX11_init_49 (by decide) trivial (ZF.wR (ZF.wR (ZF.mnM (ZF.wR (ZF.wR (zf_zM _) (by omega)) (by omega)) (by omega)) (by omega)) (by omega)) (by decide +kernel) (N1 := 14) (c1 := 13) (s1 := 1320) rfl rfl rfl ⟨rfl, rfl⟩ ?_
  refine AW.putRF X dX11_init_51 fX11_28 rfl rfl rfl rfl (by decide) (dOB (by decide +kernel)) ?_
  refine AW.aload_n X dX11_init_54 (i := 0) rfl rfl ?_
  refine AW.sipushN X 256 dX11_init_55 rfl ?_
  refine AW.newI X dX11_init_58 (by decide) trivial (ZF.wR (ZF.wR (ZF.wR (ZF.mnM (ZF.wR (ZF.wR (zf_zM _) (by omega)) (by omega)) (by omega)) (by omega)) (by omega)) (by omega)) (by decide +kernel) (N1 := 15) (c1 := 14) (s1 := 1576) rfl rfl rfl ⟨rfl, rfl⟩ ?_
  refine AW.putRF X dX11_init_60 fX11_31 rfl rfl rfl rfl (by decide) (dOB (by decide +kernel)) ?_
  refine AW.aload_n X dX11_init_63 (i := 0) rfl rfl ?_
  refine AW.iconstN X 0 dX11_init_64 rfl ?_
  refine AW.putI X dX11_init_65 fX11_34 rfl rfl ⟨rfl, rfl⟩ (by decide) (dOB (by decide +kernel)) ?_
  refine AW.cgm (wI_z ((zf_zM 0) 0 (by omega) 10).1) ?_
  refine AW.aload_n X dX11_init_68 (i := 0) rfl rfl ?_
  refine AW.newO X dX11_init_69 cfX6 clX11_38 inX6 izX6 (by decide) trivial (ZF.wR (ZF.wR (ZF.wR (ZF.wR (ZF.mnM (ZF.wR (ZF.wR (zf_zM _) (by omega)) (by omega)) (by omega)) (by omega)) (by omega)) (by omega)) (by omega)) (by decide +kernel) (N1 := 16) (c1 := 15) (s1 := 1582) rfl rfl rfl ⟨rfl, rfl⟩ ?_
  refine AW.dup X dX11_init_72 rfl ?_
  refine AW.callIN X dX11_init_73 lX11_40 (c_X6_init (o := 15) (dOB (by decide +kernel)) (by decide) (fun k => ((zf_zM 0) 15 (by omega) k).1)) rfl rfl rfl rfl ⟨rfl, rfl⟩ (pV_k fun μ1 e1 => ?_)
  subst e1
  refine AW.nrm (N1 := 16) (c1 := 15) (s1 := 1582) rfl rfl rfl ?_
  refine AW.putRF X dX11_init_76 fX11_41 rfl rfl rfl rfl (by decide) (dOB (by decide +kernel)) ?_
  refine AW.aload_n X dX11_init_79 (i := 0) rfl rfl ?_
  refine AW.iconst X (v := -1) dX11_init_80 rfl ?_
  refine AW.putI X dX11_init_81 fX11_45 rfl rfl ⟨rfl, rfl⟩ (by decide) (dOB (by decide +kernel)) ?_
  refine AW.aload_n X dX11_init_84 (i := 0) rfl rfl ?_
  refine AW.newO X dX11_init_85 cfX10 clX11_48 inX10 izX10 (by decide) trivial (ZF.wI (ZF.wR (ZF.wI (ZF.wR (ZF.wR (ZF.wR (ZF.wR (ZF.mnM (ZF.wR (ZF.wR (zf_zM _) (by omega)) (by omega)) (by omega)) (by omega)) (by omega)) (by omega)) (by omega)) (by omega)) (by omega)) (by omega)) (by decide +kernel) (N1 := 17) (c1 := 16) (s1 := 1586) rfl rfl rfl ⟨rfl, rfl⟩ ?_
  refine AW.dup X dX11_init_88 rfl ?_
  refine AW.callIN X dX11_init_89 lX11_50 (c_X10_init (ZF.wI (ZF.wR (ZF.wI (ZF.wR (ZF.wR (ZF.wR (ZF.wR (ZF.mnM (ZF.wR (ZF.wR (zf_zM _) (by omega)) (by omega)) (by omega)) (by omega)) (by omega)) (by omega)) (by omega)) (by omega)) (by omega)) (by omega))) rfl rfl rfl rfl ⟨rfl, rfl⟩ (pV_k fun μ1 e1 => ?_)
  subst e1
  refine AW.nrm (N1 := 18) (c1 := 17) (s1 := 1606) rfl rfl rfl ?_
  refine AW.putRF X dX11_init_92 fX11_51 rfl rfl rfl rfl (by decide) (dOB (by decide +kernel)) ?_
  refine AW.iconstN X 0 dX11_init_95 rfl ?_
  refine AW.istore_n X dX11_init_96 (i := 1) rfl rfl ?_
  refine AW.iload_n X dX11_init_97 (i := 1) rfl rfl ?_
  refine AW.bipushN X 8 dX11_init_98 rfl ?_
  refine AW.icmp_geN X (tgt := 116) dX11_init_100 (by decide) (by decide) (by decide) (fun h100 => ?_) (fun h100 => ?_)
  · exact absurd h100 (by decide)
  refine AW.aload_n X dX11_init_103 (i := 0) rfl rfl ?_
  refine AW.getR X (r := 1) dX11_init_104 fX11_9 rfl (dOB (by decide +kernel)) ((wR_nk (by decide)).trans ((wR_ne (by omega)).trans ((wR_nk (by decide)).trans ((wR_nk (by decide)).trans ((wR_nk (by decide)).trans ((wR_nk (by decide)).trans ((wR_nk (by decide)).trans ((mnM_ne (by omega)).trans ((wR_nk (by decide)).trans wR_at))))))))) ?_
  refine AW.iload_n X dX11_init_107 (i := 1) rfl rfl ?_
  refine AW.iconst X (v := -1) dX11_init_108 rfl ?_
  refine AW.iastN X dX11_init_109 (by decide) (dAR (n := 8) (by decide +kernel)) (by decide) (by decide) ?_
  refine AW.iincN X (c := 1) dX11_init_110 rfl (inc_1 0) rfl ?_
  refine AW.goto X (tgt := 97) dX11_init_113 (by decide) ?_
  refine AW.iload_n X dX11_init_97 (i := 1) rfl rfl ?_
  refine AW.bipushN X 8 dX11_init_98 rfl ?_
  refine AW.icmp_geN X (tgt := 116) dX11_init_100 (by decide) (by decide) (by decide) (fun h100 => ?_) (fun h100 => ?_)
  · exact absurd h100 (by decide)
  refine AW.aload_n X dX11_init_103 (i := 0) rfl rfl ?_
  refine AW.getR X (r := 1) dX11_init_104 fX11_9 rfl (dOB (by decide +kernel)) ((wR_nk (by decide)).trans ((wR_ne (by omega)).trans ((wR_nk (by decide)).trans ((wR_nk (by decide)).trans ((wR_nk (by decide)).trans ((wR_nk (by decide)).trans ((wR_nk (by decide)).trans ((mnM_ne (by omega)).trans ((wR_nk (by decide)).trans wR_at))))))))) ?_
  refine AW.iload_n X dX11_init_107 (i := 1) rfl rfl ?_
  refine AW.iconst X (v := -1) dX11_init_108 rfl ?_
  refine AW.iastN X dX11_init_109 (by decide) (dAR (n := 8) (by decide +kernel)) (by decide) (by decide) ?_
  refine AW.iincN X (c := 2) dX11_init_110 rfl (inc_1 1) rfl ?_
  refine AW.goto X (tgt := 97) dX11_init_113 (by decide) ?_
  refine AW.iload_n X dX11_init_97 (i := 1) rfl rfl ?_
  refine AW.bipushN X 8 dX11_init_98 rfl ?_
  refine AW.icmp_geN X (tgt := 116) dX11_init_100 (by decide) (by decide) (by decide) (fun h100 => ?_) (fun h100 => ?_)
  · exact absurd h100 (by decide)
  refine AW.aload_n X dX11_init_103 (i := 0) rfl rfl ?_
  refine AW.getR X (r := 1) dX11_init_104 fX11_9 rfl (dOB (by decide +kernel)) ((wR_nk (by decide)).trans ((wR_ne (by omega)).trans ((wR_nk (by decide)).trans ((wR_nk (by decide)).trans ((wR_nk (by decide)).trans ((wR_nk (by decide)).trans ((wR_nk (by decide)).trans ((mnM_ne (by omega)).trans ((wR_nk (by decide)).trans wR_at))))))))) ?_
  refine AW.iload_n X dX11_init_107 (i := 1) rfl rfl ?_
  refine AW.iconst X (v := -1) dX11_init_108 rfl ?_
  refine AW.iastN X dX11_init_109 (by decide) (dAR (n := 8) (by decide +kernel)) (by decide) (by decide) ?_
  refine AW.iincN X (c := 3) dX11_init_110 rfl (inc_1 2) rfl ?_
  refine AW.goto X (tgt := 97) dX11_init_113 (by decide) ?_
  refine AW.iload_n X dX11_init_97 (i := 1) rfl rfl ?_
  refine AW.bipushN X 8 dX11_init_98 rfl ?_
  refine AW.icmp_geN X (tgt := 116) dX11_init_100 (by decide) (by decide) (by decide) (fun h100 => ?_) (fun h100 => ?_)
  · exact absurd h100 (by decide)
  refine AW.aload_n X dX11_init_103 (i := 0) rfl rfl ?_
  refine AW.getR X (r := 1) dX11_init_104 fX11_9 rfl (dOB (by decide +kernel)) ((wR_nk (by decide)).trans ((wR_ne (by omega)).trans ((wR_nk (by decide)).trans ((wR_nk (by decide)).trans ((wR_nk (by decide)).trans ((wR_nk (by decide)).trans ((wR_nk (by decide)).trans ((mnM_ne (by omega)).trans ((wR_nk (by decide)).trans wR_at))))))))) ?_
  refine AW.iload_n X dX11_init_107 (i := 1) rfl rfl ?_
  refine AW.iconst X (v := -1) dX11_init_108 rfl ?_
  refine AW.iastN X dX11_init_109 (by decide) (dAR (n := 8) (by decide +kernel)) (by decide) (by decide) ?_
  refine AW.iincN X (c := 4) dX11_init_110 rfl (inc_1 3) rfl ?_
  refine AW.goto X (tgt := 97) dX11_init_113 (by decide) ?_
  refine AW.iload_n X dX11_init_97 (i := 1) rfl rfl ?_
  refine AW.bipushN X 8 dX11_init_98 rfl ?_
  refine AW.icmp_geN X (tgt := 116) dX11_init_100 (by decide) (by decide) (by decide) (fun h100 => ?_) (fun h100 => ?_)
  · exact absurd h100 (by decide)
  refine AW.aload_n X dX11_init_103 (i := 0) rfl rfl ?_
  refine AW.getR X (r := 1) dX11_init_104 fX11_9 rfl (dOB (by decide +kernel)) ((wR_nk (by decide)).trans ((wR_ne (by omega)).trans ((wR_nk (by decide)).trans ((wR_nk (by decide)).trans ((wR_nk (by decide)).trans ((wR_nk (by decide)).trans ((wR_nk (by decide)).trans ((mnM_ne (by omega)).trans ((wR_nk (by decide)).trans wR_at))))))))) ?_
  refine AW.iload_n X dX11_init_107 (i := 1) rfl rfl ?_
  refine AW.iconst X (v := -1) dX11_init_108 rfl ?_
  refine AW.iastN X dX11_init_109 (by decide) (dAR (n := 8) (by decide +kernel)) (by decide) (by decide) ?_
  refine AW.iincN X (c := 5) dX11_init_110 rfl (inc_1 4) rfl ?_
  refine AW.goto X (tgt := 97) dX11_init_113 (by decide) ?_
  refine AW.iload_n X dX11_init_97 (i := 1) rfl rfl ?_
  refine AW.bipushN X 8 dX11_init_98 rfl ?_
  refine AW.icmp_geN X (tgt := 116) dX11_init_100 (by decide) (by decide) (by decide) (fun h100 => ?_) (fun h100 => ?_)
  · exact absurd h100 (by decide)
  refine AW.aload_n X dX11_init_103 (i := 0) rfl rfl ?_
  refine AW.getR X (r := 1) dX11_init_104 fX11_9 rfl (dOB (by decide +kernel)) ((wR_nk (by decide)).trans ((wR_ne (by omega)).trans ((wR_nk (by decide)).trans ((wR_nk (by decide)).trans ((wR_nk (by decide)).trans ((wR_nk (by decide)).trans ((wR_nk (by decide)).trans ((mnM_ne (by omega)).trans ((wR_nk (by decide)).trans wR_at))))))))) ?_
  refine AW.iload_n X dX11_init_107 (i := 1) rfl rfl ?_
  refine AW.iconst X (v := -1) dX11_init_108 rfl ?_
  refine AW.iastN X dX11_init_109 (by decide) (dAR (n := 8) (by decide +kernel)) (by decide) (by decide) ?_
  refine AW.iincN X (c := 6) dX11_init_110 rfl (inc_1 5) rfl ?_
  refine AW.goto X (tgt := 97) dX11_init_113 (by decide) ?_
  refine AW.iload_n X dX11_init_97 (i := 1) rfl rfl ?_
  refine AW.bipushN X 8 dX11_init_98 rfl ?_
  refine AW.icmp_geN X (tgt := 116) dX11_init_100 (by decide) (by decide) (by decide) (fun h100 => ?_) (fun h100 => ?_)
  · exact absurd h100 (by decide)
  refine AW.aload_n X dX11_init_103 (i := 0) rfl rfl ?_
  refine AW.getR X (r := 1) dX11_init_104 fX11_9 rfl (dOB (by decide +kernel)) ((wR_nk (by decide)).trans ((wR_ne (by omega)).trans ((wR_nk (by decide)).trans ((wR_nk (by decide)).trans ((wR_nk (by decide)).trans ((wR_nk (by decide)).trans ((wR_nk (by decide)).trans ((mnM_ne (by omega)).trans ((wR_nk (by decide)).trans wR_at))))))))) ?_
  refine AW.iload_n X dX11_init_107 (i := 1) rfl rfl ?_
  refine AW.iconst X (v := -1) dX11_init_108 rfl ?_
  refine AW.iastN X dX11_init_109 (by decide) (dAR (n := 8) (by decide +kernel)) (by decide) (by decide) ?_
  refine AW.iincN X (c := 7) dX11_init_110 rfl (inc_1 6) rfl ?_
  refine AW.goto X (tgt := 97) dX11_init_113 (by decide) ?_
  refine AW.iload_n X dX11_init_97 (i := 1) rfl rfl ?_
  refine AW.bipushN X 8 dX11_init_98 rfl ?_
  refine AW.icmp_geN X (tgt := 116) dX11_init_100 (by decide) (by decide) (by decide) (fun h100 => ?_) (fun h100 => ?_)
  · exact absurd h100 (by decide)
  refine AW.aload_n X dX11_init_103 (i := 0) rfl rfl ?_
  refine AW.getR X (r := 1) dX11_init_104 fX11_9 rfl (dOB (by decide +kernel)) ((wR_nk (by decide)).trans ((wR_ne (by omega)).trans ((wR_nk (by decide)).trans ((wR_nk (by decide)).trans ((wR_nk (by decide)).trans ((wR_nk (by decide)).trans ((wR_nk (by decide)).trans ((mnM_ne (by omega)).trans ((wR_nk (by decide)).trans wR_at))))))))) ?_
  refine AW.iload_n X dX11_init_107 (i := 1) rfl rfl ?_
  refine AW.iconst X (v := -1) dX11_init_108 rfl ?_
  refine AW.iastN X dX11_init_109 (by decide) (dAR (n := 8) (by decide +kernel)) (by decide) (by decide) ?_
  refine AW.iincN X (c := 8) dX11_init_110 rfl (inc_1 7) rfl ?_
  refine AW.goto X (tgt := 97) dX11_init_113 (by decide) ?_
  refine AW.iload_n X dX11_init_97 (i := 1) rfl rfl ?_
  refine AW.bipushN X 8 dX11_init_98 rfl ?_
  refine AW.icmp_geN X (tgt := 116) dX11_init_100 (by decide) (by decide) (by decide) (fun h100 => ?_) (fun h100 => ?_)
  rotate_left
  · exact absurd h100 (by decide)
  refine AW.bipushN X 7 dX11_init_116 rfl ?_
  refine AW.newQ X dX11_init_118 clX11_55 (List.Mem.head _) (t := 1) rfl (by decide) trivial (ZF.wI (ZF.wI (ZF.wI (ZF.wI (ZF.wI (ZF.wI (ZF.wI (ZF.wI (ZF.wR (ZF.wR (ZF.wI (ZF.wR (ZF.wI (ZF.wR (ZF.wR (ZF.wR (ZF.wR (ZF.mnM (ZF.wR (ZF.wR (zf_zM _) (by omega)) (by omega)) (by omega)) (by omega)) (by omega)) (by omega)) (by omega)) (by omega)) (by omega)) (by omega)) (by omega)) (by omega)) (by omega)) (by omega)) (by omega)) (by omega)) (by omega)) (by omega)) (by omega)) (by omega)) (by decide +kernel) (N1 := 19) (c1 := 18) (s1 := 1613) rfl rfl rfl ⟨rfl, rfl⟩ ?_
  refine AW.astore_n X dX11_init_121 (i := 1) rfl rfl ?_
  refine AW.aload_n X dX11_init_122 (i := 1) rfl rfl ?_
  refine AW.iconstN X 0 dX11_init_123 rfl ?_
  refine AW.newO X dX11_init_124 cfX4 clX11_55 inX4 izX4 (by decide) trivial (ZF.wI (ZF.wI (ZF.wI (ZF.wI (ZF.wI (ZF.wI (ZF.wI (ZF.wI (ZF.wR (ZF.wR (ZF.wI (ZF.wR (ZF.wI (ZF.wR (ZF.wR (ZF.wR (ZF.wR (ZF.mnM (ZF.wR (ZF.wR (zf_zM _) (by omega)) (by omega)) (by omega)) (by omega)) (by omega)) (by omega)) (by omega)) (by omega)) (by omega)) (by omega)) (by omega)) (by omega)) (by omega)) (by omega)) (by omega)) (by omega)) (by omega)) (by omega)) (by omega)) (by omega)) (by decide +kernel) (N1 := 20) (c1 := 19) (s1 := 1613) rfl rfl rfl ⟨rfl, rfl⟩ ?_
  refine AW.dup X dX11_init_127 rfl ?_
  refine AW.callIN X dX11_init_128 lX11_57 (c_X4_init (o := 19)) rfl rfl rfl rfl ⟨rfl, rfl⟩ (pV_k fun μ1 e1 => ?_)
  subst e1
  refine AW.nrm (N1 := 20) (c1 := 19) (s1 := 1613) rfl rfl rfl ?_
  refine AW.aast X dX11_init_131 (by decide) (dAR (n := 7) (by decide +kernel)) (t9 := 1) rfl (dOB (by decide +kernel)) cfX4 (Or.inl rfl) (by decide) (by decide) ?_
  refine AW.aload_n X dX11_init_132 (i := 1) rfl rfl ?_
  refine AW.iconstN X 1 dX11_init_133 rfl ?_
  refine AW.newO X dX11_init_134 cfX2 clX11_58 inX2 izX2 (by decide) trivial (ZF.wR (ZF.wI (ZF.wI (ZF.wI (ZF.wI (ZF.wI (ZF.wI (ZF.wI (ZF.wI (ZF.wR (ZF.wR (ZF.wI (ZF.wR (ZF.wI (ZF.wR (ZF.wR (ZF.wR (ZF.wR (ZF.mnM (ZF.wR (ZF.wR (zf_zM _) (by omega)) (by omega)) (by omega)) (by omega)) (by omega)) (by omega)) (by omega)) (by omega)) (by omega)) (by omega)) (by omega)) (by omega)) (by omega)) (by omega)) (by omega)) (by omega)) (by omega)) (by omega)) (by omega)) (by omega)) (by omega)) (by decide +kernel) (N1 := 21) (c1 := 20) (s1 := 1613) rfl rfl rfl ⟨rfl, rfl⟩ ?_
  refine AW.dup X dX11_init_137 rfl ?_
  refine AW.callIN X dX11_init_138 lX11_60 (c_X2_init (o := 20)) rfl rfl rfl rfl ⟨rfl, rfl⟩ (pV_k fun μ1 e1 => ?_)
  subst e1
  refine AW.nrm (N1 := 21) (c1 := 20) (s1 := 1613) rfl rfl rfl ?_
  refine AW.aast X dX11_init_141 (by decide) (dAR (n := 7) (by decide +kernel)) (t9 := 1) rfl (dOB (by decide +kernel)) cfX2 (Or.inr ca_X2_X4) (by decide) (by decide) ?_
  refine AW.aload_n X dX11_init_142 (i := 1) rfl rfl ?_
  refine AW.iconstN X 2 dX11_init_143 rfl ?_
  refine AW.newO X dX11_init_144 cfX5 clX11_61 inX5 izX5 (by decide) trivial (ZF.wR (ZF.wR (ZF.wI (ZF.wI (ZF.wI (ZF.wI (ZF.wI (ZF.wI (ZF.wI (ZF.wI (ZF.wR (ZF.wR (ZF.wI (ZF.wR (ZF.wI (ZF.wR (ZF.wR (ZF.wR (ZF.wR (ZF.mnM (ZF.wR (ZF.wR (zf_zM _) (by omega)) (by omega)) (by omega)) (by omega)) (by omega)) (by omega)) (by omega)) (by omega)) (by omega)) (by omega)) (by omega)) (by omega)) (by omega)) (by omega)) (by omega)) (by omega)) (by omega)) (by omega)) (by omega)) (by omega)) (by omega)) (by omega)) (by decide +kernel) (N1 := 22) (c1 := 21) (s1 := 1613) rfl rfl rfl ⟨rfl, rfl⟩ ?_
  refine AW.dup X dX11_init_147 rfl ?_
  refine AW.callIN X dX11_init_148 lX11_63 (c_X5_init (o := 21)) rfl rfl rfl rfl ⟨rfl, rfl⟩ (pV_k fun μ1 e1 => ?_)
  subst e1
  refine AW.nrm (N1 := 22) (c1 := 21) (s1 := 1613) rfl rfl rfl ?_
  refine AW.aast X dX11_init_151 (by decide) (dAR (n := 7) (by decide +kernel)) (t9 := 1) rfl (dOB (by decide +kernel)) cfX5 (Or.inr ca_X5_X4) (by decide) (by decide) ?_
  refine AW.aload_n X dX11_init_152 (i := 1) rfl rfl ?_
  refine AW.iconstN X 3 dX11_init_153 rfl ?_
  refine AW.newO X dX11_init_154 cfX1 clX11_64 inX1 izX1 (by decide) trivial (ZF.wR (ZF.wR (ZF.wR (ZF.wI (ZF.wI (ZF.wI (ZF.wI (ZF.wI (ZF.wI (ZF.wI (ZF.wI (ZF.wR (ZF.wR (ZF.wI (ZF.wR (ZF.wI (ZF.wR (ZF.wR (ZF.wR (ZF.wR (ZF.mnM (ZF.wR (ZF.wR (zf_zM _) (by omega)) (by omega)) (by omega)) (by omega)) (by omega)) (by omega)) (by omega)) (by omega)) (by omega)) (by omega)) (by omega)) (by omega)) (by omega)) (by omega)) (by omega)) (by omega)) (by omega)) (by omega)) (by omega)) (by omega)) (by omega)) (by omega)) (by omega)) (by decide +kernel) (N1 := 23) (c1 := 22) (s1 := 1613) rfl rfl rfl ⟨rfl, rfl⟩ ?_
  refine AW.dup X dX11_init_157 rfl ?_
  refine AW.callIN X dX11_init_158 lX11_66 (c_X1_init (o := 22)) rfl rfl rfl rfl ⟨rfl, rfl⟩ (pV_k fun μ1 e1 => ?_)
  subst e1
  refine AW.nrm (N1 := 23) (c1 := 22) (s1 := 1613) rfl rfl rfl ?_
  refine AW.aast X dX11_init_161 (by decide) (dAR (n := 7) (by decide +kernel)) (t9 := 1) rfl (dOB (by decide +kernel)) cfX1 (Or.inr ca_X1_X4) (by decide) (by decide) ?_
  refine AW.aload_n X dX11_init_162 (i := 1) rfl rfl ?_
  refine AW.iconstN X 4 dX11_init_163 rfl ?_
  refine AW.newO X dX11_init_164 cfX7 clX11_67 inX7 izX7 (by decide) trivial (ZF.wR (ZF.wR (ZF.wR (ZF.wR (ZF.wI (ZF.wI (ZF.wI (ZF.wI (ZF.wI (ZF.wI (ZF.wI (ZF.wI (ZF.wR (ZF.wR (ZF.wI (ZF.wR (ZF.wI (ZF.wR (ZF.wR (ZF.wR (ZF.wR (ZF.mnM (ZF.wR (ZF.wR (zf_zM _) (by omega)) (by omega)) (by omega)) (by omega)) (by omega)) (by omega)) (by omega)) (by omega)) (by omega)) (by omega)) (by omega)) (by omega)) (by omega)) (by omega)) (by omega)) (by omega)) (by omega)) (by omega)) (by omega)) (by omega)) (by omega)) (by omega)) (by omega)) (by omega)) (by decide +kernel) (N1 := 24) (c1 := 23) (s1 := 1613) rfl rfl rfl ⟨rfl, rfl⟩ ?_
  refine AW.dup X dX11_init_167 rfl ?_
  refine AW.callIN X dX11_init_168 lX11_69 (c_X7_init (o := 23)) rfl rfl rfl rfl ⟨rfl, rfl⟩ (pV_k fun μ1 e1 => ?_)
  subst e1
  refine AW.nrm (N1 := 24) (c1 := 23) (s1 := 1613) rfl rfl rfl ?_
  refine AW.aast X dX11_init_171 (by decide) (dAR (n := 7) (by decide +kernel)) (t9 := 1) rfl (dOB (by decide +kernel)) cfX7 (Or.inr ca_X7_X4) (by decide) (by decide) ?_
  refine AW.aload_n X dX11_init_172 (i := 1) rfl rfl ?_
  refine AW.iconstN X 5 dX11_init_173 rfl ?_
  refine AW.newO X dX11_init_174 cfX8 clX11_70 inX8 izX8 (by decide) trivial (ZF.wR (ZF.wR (ZF.wR (ZF.wR (ZF.wR (ZF.wI (ZF.wI (ZF.wI (ZF.wI (ZF.wI (ZF.wI (ZF.wI (ZF.wI (ZF.wR (ZF.wR (ZF.wI (ZF.wR (ZF.wI (ZF.wR (ZF.wR (ZF.wR (ZF.wR (ZF.mnM (ZF.wR (ZF.wR (zf_zM _) (by omega)) (by omega)) (by omega)) (by omega)) (by omega)) (by omega)) (by omega)) (by omega)) (by omega)) (by omega)) (by omega)) (by omega)) (by omega)) (by omega)) (by omega)) (by omega)) (by omega)) (by omega)) (by omega)) (by omega)) (by omega)) (by omega)) (by omega)) (by omega)) (by omega)) (by decide +kernel) (N1 := 25) (c1 := 24) (s1 := 1613) rfl rfl rfl ⟨rfl, rfl⟩ ?_
  refine AW.dup X dX11_init_177 rfl ?_
  refine AW.callIN X dX11_init_178 lX11_72 (c_X8_init (o := 24)) rfl rfl rfl rfl ⟨rfl, rfl⟩ (pV_k fun μ1 e1 => ?_)
  subst e1
  refine AW.nrm (N1 := 25) (c1 := 24) (s1 := 1613) rfl rfl rfl ?_
  refine AW.aast X dX11_init_181 (by decide) (dAR (n := 7) (by decide +kernel)) (t9 := 1) rfl (dOB (by decide +kernel)) cfX8 (Or.inr ca_X8_X4) (by decide) (by decide) ?_
  refine AW.aload_n X dX11_init_182 (i := 1) rfl rfl ?_
  refine AW.bipushN X 6 dX11_init_183 rfl ?_
  refine AW.newO X dX11_init_185 cfX0 clX11_73 inX0 izX0 (by decide) trivial (ZF.wR (ZF.wR (ZF.wR (ZF.wR (ZF.wR (ZF.wR (ZF.wI (ZF.wI (ZF.wI (ZF.wI (ZF.wI (ZF.wI (ZF.wI (ZF.wI (ZF.wR (ZF.wR (ZF.wI (ZF.wR (ZF.wI (ZF.wR (ZF.wR (ZF.wR (ZF.wR (ZF.mnM (ZF.wR (ZF.wR (zf_zM _) (by omega)) (by omega)) (by omega)) (by omega)) (by omega)) (by omega)) (by omega)) (by omega)) (by omega)) (by omega)) (by omega)) (by omega)) (by omega)) (by omega)) (by omega)) (by omega)) (by omega)) (by omega)) (by omega)) (by omega)) (by omega)) (by omega)) (by omega)) (by omega)) (by omega)) (by omega)) (by decide +kernel) (N1 := 26) (c1 := 25) (s1 := 1613) rfl rfl rfl ⟨rfl, rfl⟩ ?_
  refine AW.dup X dX11_init_188 rfl ?_
  refine AW.callIN X dX11_init_189 lX11_75 (c_X0_init (o := 25)) rfl rfl rfl rfl ⟨rfl, rfl⟩ (pV_k fun μ1 e1 => ?_)
  subst e1
  refine AW.nrm (N1 := 26) (c1 := 25) (s1 := 1613) rfl rfl rfl ?_
  refine AW.aast X dX11_init_192 (by decide) (dAR (n := 7) (by decide +kernel)) (t9 := 1) rfl (dOB (by decide +kernel)) cfX0 (Or.inr ca_X0_X4) (by decide) (by decide) ?_
  refine AW.aload_n X dX11_init_193 (i := 0) rfl rfl ?_
  refine AW.newO X dX11_init_194 cfX9 clX11_76 inX9 izX9 (by decide) trivial (ZF.wR (ZF.wR (ZF.wR (ZF.wR (ZF.wR (ZF.wR (ZF.wR (ZF.wI (ZF.wI (ZF.wI (ZF.wI (ZF.wI (ZF.wI (ZF.wI (ZF.wI (ZF.wR (ZF.wR (ZF.wI (ZF.wR (ZF.wI (ZF.wR (ZF.wR (ZF.wR (ZF.wR (ZF.mnM (ZF.wR (ZF.wR (zf_zM _) (by omega)) (by omega)) (by omega)) (by omega)) (by omega)) (by omega)) (by omega)) (by omega)) (by omega)) (by omega)) (by omega)) (by omega)) (by omega)) (by omega)) (by omega)) (by omega)) (by omega)) (by omega)) (by omega)) (by omega)) (by omega)) (by omega)) (by omega)) (by omega)) (by omega)) (by omega)) (by omega)) (by decide +kernel) (N1 := 27) (c1 := 26) (s1 := 1623) rfl rfl rfl ⟨rfl, rfl⟩ ?_
  refine AW.dup X dX11_init_197 rfl ?_
  refine AW.aload_n X dX11_init_198 (i := 1) rfl rfl ?_
  refine AW.callI X dX11_init_199 lX11_78 (c_X9_init (B := 26) (Or.inl rfl) ((wR_nk (by decide)).trans ((wR_nk (by decide)).trans ((wR_nk (by decide)).trans ((wR_nk (by decide)).trans ((wR_nk (by decide)).trans ((wR_nk (by decide)).trans wR_at)))))) (ZF.wR (ZF.wR (ZF.wR (ZF.wR (ZF.wR (ZF.wR (ZF.wR (ZF.wI (ZF.wI (ZF.wI (ZF.wI (ZF.wI (ZF.wI (ZF.wI (ZF.wI (ZF.wR (ZF.wR (ZF.wI (ZF.wR (ZF.wI (ZF.wR (ZF.wR (ZF.wR (ZF.wR (ZF.mnM (ZF.wR (ZF.wR (zf_zM _) (by omega)) (by omega)) (by omega)) (by omega)) (by omega)) (by omega)) (by omega)) (by omega)) (by omega)) (by omega)) (by omega)) (by omega)) (by omega)) (by omega)) (by omega)) (by omega)) (by omega)) (by omega)) (by omega)) (by omega)) (by omega)) (by omega)) (by omega)) (by omega)) (by omega)) (by omega)) (by omega))) rfl rfl rfl rfl ⟨rfl, rfl⟩ (pV_k fun μ1 e1 => ?_)
  subst e1
  refine AW.nrm (N1 := 72) (c1 := 71) (s1 := 2013) rfl rfl rfl ?_
  refine AW.putR X dX11_init_202 fX11_81 rfl rfl (by decide) (dOB (by decide +kernel)) ?_
  refine AW.aload_n X dX11_init_205 (i := 0) rfl rfl ?_
  refine AW.newO X dX11_init_206 cfX9 clX11_76 inX9 izX9 (by decide) trivial (ZF.wR (ZF.twM (ZF.wR (ZF.wR (ZF.wR (ZF.wR (ZF.wR (ZF.wR (ZF.wR (ZF.wI (ZF.wI (ZF.wI (ZF.wI (ZF.wI (ZF.wI (ZF.wI (ZF.wI (ZF.wR (ZF.wR (ZF.wI (ZF.wR (ZF.wI (ZF.wR (ZF.wR (ZF.wR (ZF.wR (ZF.mnM (ZF.wR (ZF.wR (zf_zM _) (by omega)) (by omega)) (by omega)) (by omega)) (by omega)) (by omega)) (by omega)) (by omega)) (by omega)) (by omega)) (by omega)) (by omega)) (by omega)) (by omega)) (by omega)) (by omega)) (by omega)) (by omega)) (by omega)) (by omega)) (by omega)) (by omega)) (by omega)) (by omega)) (by omega)) (by omega)) (by omega)) (by omega)) (by omega)) (by decide +kernel) (N1 := 73) (c1 := 72) (s1 := 2023) rfl rfl rfl ⟨rfl, rfl⟩ ?_
  refine AW.dup X dX11_init_209 rfl ?_
  refine AW.aload_n X dX11_init_210 (i := 1) rfl rfl ?_
  refine AW.callI X dX11_init_211 lX11_78 (c_X9_init (B := 72) (Or.inr (Or.inl rfl)) ((wR_ne (by omega)).trans ((twM_r (by omega)).trans ((wR_nk (by decide)).trans ((wR_nk (by decide)).trans ((wR_nk (by decide)).trans ((wR_nk (by decide)).trans ((wR_nk (by decide)).trans ((wR_nk (by decide)).trans wR_at)))))))) (ZF.wR (ZF.twM (ZF.wR (ZF.wR (ZF.wR (ZF.wR (ZF.wR (ZF.wR (ZF.wR (ZF.wI (ZF.wI (ZF.wI (ZF.wI (ZF.wI (ZF.wI (ZF.wI (ZF.wI (ZF.wR (ZF.wR (ZF.wI (ZF.wR (ZF.wI (ZF.wR (ZF.wR (ZF.wR (ZF.wR (ZF.mnM (ZF.wR (ZF.wR (zf_zM _) (by omega)) (by omega)) (by omega)) (by omega)) (by omega)) (by omega)) (by omega)) (by omega)) (by omega)) (by omega)) (by omega)) (by omega)) (by omega)) (by omega)) (by omega)) (by omega)) (by omega)) (by omega)) (by omega)) (by omega)) (by omega)) (by omega)) (by omega)) (by omega)) (by omega)) (by omega)) (by omega)) (by omega)) (by omega))) rfl rfl rfl rfl ⟨rfl, rfl⟩ (pV_k fun μ1 e1 => ?_)
  subst e1
  refine AW.nrm (N1 := 118) (c1 := 117) (s1 := 2413) rfl rfl rfl ?_
  refine AW.putR X dX11_init_214 fX11_85 rfl rfl (by decide) (dOB (by decide +kernel)) ?_
  refine AW.aload_n X dX11_init_217 (i := 0) rfl rfl ?_
  refine AW.newO X dX11_init_218 cfX9 clX11_76 inX9 izX9 (by decide) trivial (ZF.wR (ZF.twM (ZF.wR (ZF.twM (ZF.wR (ZF.wR (ZF.wR (ZF.wR (ZF.wR (ZF.wR (ZF.wR (ZF.wI (ZF.wI (ZF.wI (ZF.wI (ZF.wI (ZF.wI (ZF.wI (ZF.wI (ZF.wR (ZF.wR (ZF.wI (ZF.wR (ZF.wI (ZF.wR (ZF.wR (ZF.wR (ZF.wR (ZF.mnM (ZF.wR (ZF.wR (zf_zM _) (by omega)) (by omega)) (by omega)) (by omega)) (by omega)) (by omega)) (by omega)) (by omega)) (by omega)) (by omega)) (by omega)) (by omega)) (by omega)) (by omega)) (by omega)) (by omega)) (by omega)) (by omega)) (by omega)) (by omega)) (by omega)) (by omega)) (by omega)) (by omega)) (by omega)) (by omega)) (by omega)) (by omega)) (by omega)) (by omega)) (by omega)) (by decide +kernel) (N1 := 119) (c1 := 118) (s1 := 2423) rfl rfl rfl ⟨rfl, rfl⟩ ?_
  refine AW.dup X dX11_init_221 rfl ?_
  refine AW.aload_n X dX11_init_222 (i := 1) rfl rfl ?_
  refine AW.callI X dX11_init_223 lX11_78 (c_X9_init (B := 118) (Or.inr (Or.inr rfl)) ((wR_ne (by omega)).trans ((twM_r (by omega)).trans ((wR_ne (by omega)).trans ((twM_r (by omega)).trans ((wR_nk (by decide)).trans ((wR_nk (by decide)).trans ((wR_nk (by decide)).trans ((wR_nk (by decide)).trans ((wR_nk (by decide)).trans ((wR_nk (by decide)).trans wR_at)))))))))) (ZF.wR (ZF.twM (ZF.wR (ZF.twM (ZF.wR (ZF.wR (ZF.wR (ZF.wR (ZF.wR (ZF.wR (ZF.wR (ZF.wI (ZF.wI (ZF.wI (ZF.wI (ZF.wI (ZF.wI (ZF.wI (ZF.wI (ZF.wR (ZF.wR (ZF.wI (ZF.wR (ZF.wI (ZF.wR (ZF.wR (ZF.wR (ZF.wR (ZF.mnM (ZF.wR (ZF.wR (zf_zM _) (by omega)) (by omega)) (by omega)) (by omega)) (by omega)) (by omega)) (by omega)) (by omega)) (by omega)) (by omega)) (by omega)) (by omega)) (by omega)) (by omega)) (by omega)) (by omega)) (by omega)) (by omega)) (by omega)) (by omega)) (by omega)) (by omega)) (by omega)) (by omega)) (by omega)) (by omega)) (by omega)) (by omega)) (by omega)) (by omega)) (by omega))) rfl rfl rfl rfl ⟨rfl, rfl⟩ (pV_k fun μ1 e1 => ?_)
  subst e1
  refine AW.nrm (N1 := 164) (c1 := 163) (s1 := 2813) rfl rfl rfl ?_
  refine AW.putRF X dX11_init_226 fX11_88 rfl rfl rfl rfl (by decide) (dOB (by decide +kernel)) ?_
  exact AW.vret X hQ dX11_init_229 ⟨rfl, rfl⟩
