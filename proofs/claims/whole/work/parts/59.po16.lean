/-! acts: the bodies that ran -/
/-- a body begins: how many ran, and which are kept -/
def bgT (x : Nat) (T : Nat × (Nat → Nat)) : Nat × (Nat → Nat) := (T.1 + 1, fun i => if T.1 < 20 ∧ i = T.1 then x else T.2 i)
def runL : List Nat → Nat × (Nat → Nat) → Nat × (Nat → Nat)
  | [], T => T
  | x :: t, T => runL t (bgT x T)
theorem runL_app : ∀ (a c : List Nat) (T : Nat × (Nat → Nat)), runL (a ++ c) T = runL c (runL a T)
  | [], _, _ => rfl
  | x :: t, c, T => runL_app t c (bgT x T)
theorem runL_n : ∀ (a : List Nat) (T : Nat × (Nat → Nat)), (runL a T).1 = T.1 + a.length
  | [], _ => rfl
  | x :: t, T => by rw [runL, runL_n t, List.length_cons, bgT]; dsimp only; omega
/-- the trace in memory: the house m, its a; what ran -/
def TRX (μ : Mm) (m a : Nat) (T : Nat × (Nat → Nat)) : Prop := μ.1 16 0 = nI m ∧ μ.1 16 1 = nI a ∧ μ.1 16 2 = nI T.1 ∧ T.1 < 900 ∧ ∀ i, i < 20 → i < T.1 → μ.1 17 i = nI (T.2 i)
/-- nothing but the trace has changed -/
def TRS (μ μ' : Mm) : Prop := μ'.2 = μ.2 ∧ ∀ q k, q ≠ 17 → ¬ (q = 16 ∧ k = 2) → μ'.1 q k = μ.1 q k
theorem TRS.rf {μ : Mm} : TRS μ μ := ⟨rfl, fun _ _ _ _ => rfl⟩
theorem TRS.trn {μ μ1 μ2 : Mm} (h : TRS μ μ1) (h1 : TRS μ1 μ2) : TRS μ μ2 := ⟨h1.1.trans h.1, fun q k a c => (h1.2 q k a c).trans (h.2 q k a c)⟩
theorem wx_trs {μ μ' : Mm} (W : WX μ.2.2) (h : TRS μ μ') : WX μ'.2.2 := by rw [h.1]; exact W
/-- act paints, peels, falls: which bodies run on a house of kind k, and what comes of it -/
def aPb (k : Nat) : List Nat := if k = 1 ∨ k = 3 then [20, 10] else if k = 4 then [51, 10] else if k = 6 then [70, 10] else [10]
def aPv (k m a : Nat) (x : Int32) : Int32 := if k = 1 ∨ k = 3 then x + nI m + nI a else if k = 4 then x + nI m - nI m else if k = 6 then (x + nI m) * nI 2 else x + nI m
def aLb (k : Nat) : List Nat := if k = 6 then 71 :: 30 :: 11 :: aPb k else if k = 3 then 40 :: 11 :: aPb k else if k = 2 ∨ k = 5 then 30 :: 11 :: aPb k else 11 :: aPb k
def aLv (k m a : Nat) (x : Int32) : Int32 := if k = 6 then aPv k m a (x - nI a) * nI 2 * nI 3 else if k = 3 then aPv k m a (x + nI 1) * nI 2 else if k = 2 ∨ k = 5 then aPv k m a x * nI 2 * nI 3 else aPv k m a x * nI 2
def aFb (k : Nat) : List Nat := if k = 4 then 50 :: 12 :: (aLb k ++ aPb k) else if k = 5 then 60 :: 12 :: (aLb k ++ aPb k) else 12 :: (aLb k ++ aPb k)
def aFv (k m a : Nat) (x : Int32) : Int32 := if k = 4 then -(aLv k m a x ^^^ aPv k m a (x - nI a)) else if k = 5 then (aLv k m a x ^^^ aPv k m a (x - nI a)) ^^^ nI 5 else aLv k m a x ^^^ aPv k m a (x - nI a)
theorem trx_bg {μ : Mm} {m a x : Nat} {T : Nat × (Nat → Nat)} (h : TRX μ m a T) (hT : T.1 < 880) : TRX (wI (if T.1 < 20 then wI μ 17 T.1 (nI x) else μ) 16 2 (nI (T.1 + 1))) m a (bgT x T) := by
  obtain ⟨h1, h2, h3, h4, h5⟩ := h
  refine ⟨?_, ?_, by simp [wI, bgT], by show T.1 + 1 < 900; omega, fun i hi hr => ?_⟩
  · split <;> simpa [wI] using h1
  · split <;> simpa [wI] using h2
  · have hr : i < T.1 + 1 := hr
    by_cases q : T.1 < 20
    · by_cases z : i = T.1
      · subst z; simp [wI, bgT, q]
      · simpa [wI, bgT, q, z] using h5 i hi (by omega)
    · have z : ¬ (T.1 < 20 ∧ i = T.1) := fun y => q y.1
      simpa [wI, bgT, q] using h5 i hi (by omega)
theorem trs_bg {μ : Mm} {n x : Nat} : TRS μ (wI (if n < 20 then wI μ 17 n (nI x) else μ) 16 2 (nI (n + 1))) := by
  refine ⟨by split <;> rfl, fun q k a c => ?_⟩
  split <;> simp [wI, a, c]
set_option maxRecDepth 100000 in
set_option maxHeartbeats 4000000 in
theorem c_X10_begin {l : Launch} {δ : Dl} {b : Nat} {μ : Mm} (W : WX μ.2.2) {m a : Nat} {T : Nat × (Nat → Nat)} (hT : TRX μ m a T) (hn : T.1 < 880) {x : Nat} : MCX l δ b yX10_begin cX10_begin 2 none 1 [.ref (b + 16), .int (nI x)] μ (pV fun μ' => TRX μ' m a (bgT x T) ∧ TRS μ μ') := by
  refine MC.intro ([some (.ref (b + 16)), some (.int (nI x))]) (by decide) rfl rfl fun κ Qc hl hQ X => ?_
  subst hl
  refine AW.aload_n X dX10_begin_0 (i := 0) rfl rfl ?_
  refine AW.getI X dX10_begin_1 fX10_18 rfl ox16 (v := (nI T.1)) hT.2.2.1 ?_
  refine AW.bipushN X 20 dX10_begin_4 rfl ?_
  refine AW.icmp_geN X (tgt := 19) dX10_begin_6 (by decide) (by omega) (by omega) (fun h6 => ?_) (fun h6 => ?_)
  · have n6 := Nat.not_lt_of_le h6
    refine AW.aload_n X dX10_begin_19 (i := 0) rfl rfl ?_
    refine AW.dup X dX10_begin_20 rfl ?_
    refine AW.getI X dX10_begin_21 fX10_18 rfl ox16 (v := (nI T.1)) (by first | exact hT.2.2.1 | (simp [wI]; exact hT.2.2.1)) ?_
    refine AW.iconstN X 1 dX10_begin_24 rfl ?_
    refine AW.iaddN X dX10_begin_25 ?_
    refine AW.putI X dX10_begin_26 fX10_18 rfl rfl ⟨rfl, rfl⟩ (by decide) ox16 ?_
    refine AW.vret X hQ dX10_begin_29 ⟨rfl, ?_⟩
    have f := trx_bg (x := x) hT hn
    have f2 := trs_bg (μ := μ) (n := T.1) (x := x)
    rw [if_neg (by omega)] at f f2
    exact ⟨f, f2⟩
  · have n6 := Nat.not_le_of_lt h6
    refine AW.aload_n X dX10_begin_9 (i := 0) rfl rfl ?_
    refine AW.getR X dX10_begin_10 fX10_21 rfl ox16 (wx_bodies W) ?_
    refine AW.aload_n X dX10_begin_13 (i := 0) rfl rfl ?_
    refine AW.getI X dX10_begin_14 fX10_18 rfl ox16 (v := (nI T.1)) hT.2.2.1 ?_
    refine AW.iload_n X dX10_begin_17 (i := 1) rfl rfl ?_
    refine AW.iastore X dX10_begin_18 (by decide) ax17 (n2_in (by omega) (by decide)) ?_
    rw [n2_clamp (by omega)]
    refine AW.aload_n X dX10_begin_19 (i := 0) rfl rfl ?_
    refine AW.dup X dX10_begin_20 rfl ?_
    refine AW.getI X dX10_begin_21 fX10_18 rfl ox16 (v := (nI T.1)) (by first | exact hT.2.2.1 | (simp [wI]; exact hT.2.2.1)) ?_
    refine AW.iconstN X 1 dX10_begin_24 rfl ?_
    refine AW.iaddN X dX10_begin_25 ?_
    refine AW.putI X dX10_begin_26 fX10_18 rfl rfl ⟨rfl, rfl⟩ (by decide) ox16 ?_
    refine AW.vret X hQ dX10_begin_29 ⟨rfl, ?_⟩
    have f := trx_bg (x := x) hT hn
    have f2 := trs_bg (μ := μ) (n := T.1) (x := x)
    rw [if_pos h6] at f f2
    exact ⟨f, f2⟩
set_option maxRecDepth 100000 in
set_option maxHeartbeats 4000000 in
theorem k0_X4_actPaints {l : Launch} {δ : Dl} {b : Nat} {μ : Mm} (W : WX μ.2.2) {m a : Nat} {T : Nat × (Nat → Nat)} (hT : TRX μ m a T) (hn : T.1 < 870) {x : Int32}  : MCX l δ b yX4_actPaints cX4_actPaints 3 (some .int) 2 [.ref (b + 19), .ref (b + 16), .int x] μ (pI fun r μ' => r = (x + nI m) ∧ TRX μ' m a (runL [10] T) ∧ TRS μ μ') := by
  refine MC.intro ([some (.ref (b + 19)), some (.ref (b + 16)), some (.int x)]) (by decide) rfl rfl fun κ Qc hl hQ X => ?_
  subst hl
  refine AW.aload_n X dX4_actPaints_0 (i := 1) rfl rfl ?_
  refine AW.bipushN X 10 dX4_actPaints_1 rfl ?_
  refine AW.callV X dX4_actPaints_3 lX4_7 cfX10 (c_X10_begin W hT (by show T.1 + 0 < 880; omega) (x := 10)) ox16 rfl rfl rfl rfl ⟨rfl, rfl⟩ (pV_k fun μ103 hb3 => ?_)
  have W3 := wx_trs W hb3.2
  refine AW.iload_n X dX4_actPaints_6 (i := 2) rfl rfl ?_
  refine AW.aload_n X dX4_actPaints_7 (i := 1) rfl rfl ?_
  refine AW.getI X dX4_actPaints_8 fX4_13 rfl ox16 hb3.1.1 ?_
  refine AW.iadd X dX4_actPaints_11 ?_
  refine AW.iret X hQ dX4_actPaints_12 ⟨_, rfl, ?_⟩
  exact ⟨rfl, hb3.1, hb3.2⟩
set_option maxRecDepth 100000 in
set_option maxHeartbeats 4000000 in
theorem k1_X4_actPaints {l : Launch} {δ : Dl} {b : Nat} {μ : Mm} (W : WX μ.2.2) {m a : Nat} {T : Nat × (Nat → Nat)} (hT : TRX μ m a T) (hn : T.1 < 870) {x : Int32}  : MCX l δ b yX4_actPaints cX4_actPaints 3 (some .int) 2 [.ref (b + 20), .ref (b + 16), .int x] μ (pI fun r μ' => r = (x + nI m) ∧ TRX μ' m a (runL [10] T) ∧ TRS μ μ') := by
  refine MC.intro ([some (.ref (b + 20)), some (.ref (b + 16)), some (.int x)]) (by decide) rfl rfl fun κ Qc hl hQ X => ?_
  subst hl
  refine AW.aload_n X dX4_actPaints_0 (i := 1) rfl rfl ?_
  refine AW.bipushN X 10 dX4_actPaints_1 rfl ?_
  refine AW.callV X dX4_actPaints_3 lX4_7 cfX10 (c_X10_begin W hT (by show T.1 + 0 < 880; omega) (x := 10)) ox16 rfl rfl rfl rfl ⟨rfl, rfl⟩ (pV_k fun μ103 hb3 => ?_)
  have W3 := wx_trs W hb3.2
  refine AW.iload_n X dX4_actPaints_6 (i := 2) rfl rfl ?_
  refine AW.aload_n X dX4_actPaints_7 (i := 1) rfl rfl ?_
  refine AW.getI X dX4_actPaints_8 fX4_13 rfl ox16 hb3.1.1 ?_
  refine AW.iadd X dX4_actPaints_11 ?_
  refine AW.iret X hQ dX4_actPaints_12 ⟨_, rfl, ?_⟩
  exact ⟨rfl, hb3.1, hb3.2⟩
set_option maxRecDepth 100000 in
set_option maxHeartbeats 4000000 in
theorem k1_X2_actPaints {l : Launch} {δ : Dl} {b : Nat} {μ : Mm} (W : WX μ.2.2) {m a : Nat} {T : Nat × (Nat → Nat)} (hT : TRX μ m a T) (hn : T.1 < 860) {x : Int32}  : MCX l δ b yX2_actPaints cX2_actPaints 3 (some .int) 3 [.ref (b + 20), .ref (b + 16), .int x] μ (pI fun r μ' => r = (x + nI m + nI a) ∧ TRX μ' m a (runL [20, 10] T) ∧ TRS μ μ') := by
  refine MC.intro ([some (.ref (b + 20)), some (.ref (b + 16)), some (.int x)]) (by decide) rfl rfl fun κ Qc hl hQ X => ?_
  subst hl
  refine AW.aload_n X dX2_actPaints_0 (i := 1) rfl rfl ?_
  refine AW.bipushN X 20 dX2_actPaints_1 rfl ?_
  refine AW.callV X dX2_actPaints_3 lX2_7 cfX10 (c_X10_begin W hT (by show T.1 + 0 < 880; omega) (x := 20)) ox16 rfl rfl rfl rfl ⟨rfl, rfl⟩ (pV_k fun μ103 hb3 => ?_)
  have W3 := wx_trs W hb3.2
  refine AW.aload_n X dX2_actPaints_6 (i := 0) rfl rfl ?_
  refine AW.aload_n X dX2_actPaints_7 (i := 1) rfl rfl ?_
  refine AW.iload_n X dX2_actPaints_8 (i := 2) rfl rfl ?_
  refine AW.callSU X dX2_actPaints_9 lX2_13 cfX2 (k1_X4_actPaints W3 hb3.1 (by show T.1 + 1 < 870; omega)) ox_k1 rfl rfl rfl rfl ⟨rfl, rfl⟩ (pI_k fun r9 μ109 hc9 => ?_)
  obtain ⟨rfl, ha9, hs9⟩ := hc9
  have W9 := wx_trs W3 hs9
  refine AW.aload_n X dX2_actPaints_12 (i := 1) rfl rfl ?_
  refine AW.getI X dX2_actPaints_13 fX2_17 rfl ox16 ha9.2.1 ?_
  refine AW.iadd X dX2_actPaints_16 ?_
  refine AW.iret X hQ dX2_actPaints_17 ⟨_, rfl, ?_⟩
  exact ⟨rfl, ha9, (hb3.2.trn hs9)⟩
set_option maxRecDepth 100000 in
set_option maxHeartbeats 4000000 in
theorem k2_X4_actPaints {l : Launch} {δ : Dl} {b : Nat} {μ : Mm} (W : WX μ.2.2) {m a : Nat} {T : Nat × (Nat → Nat)} (hT : TRX μ m a T) (hn : T.1 < 870) {x : Int32}  : MCX l δ b yX4_actPaints cX4_actPaints 3 (some .int) 2 [.ref (b + 21), .ref (b + 16), .int x] μ (pI fun r μ' => r = (x + nI m) ∧ TRX μ' m a (runL [10] T) ∧ TRS μ μ') := by
  refine MC.intro ([some (.ref (b + 21)), some (.ref (b + 16)), some (.int x)]) (by decide) rfl rfl fun κ Qc hl hQ X => ?_
  subst hl
  refine AW.aload_n X dX4_actPaints_0 (i := 1) rfl rfl ?_
  refine AW.bipushN X 10 dX4_actPaints_1 rfl ?_
  refine AW.callV X dX4_actPaints_3 lX4_7 cfX10 (c_X10_begin W hT (by show T.1 + 0 < 880; omega) (x := 10)) ox16 rfl rfl rfl rfl ⟨rfl, rfl⟩ (pV_k fun μ103 hb3 => ?_)
  have W3 := wx_trs W hb3.2
  refine AW.iload_n X dX4_actPaints_6 (i := 2) rfl rfl ?_
  refine AW.aload_n X dX4_actPaints_7 (i := 1) rfl rfl ?_
  refine AW.getI X dX4_actPaints_8 fX4_13 rfl ox16 hb3.1.1 ?_
  refine AW.iadd X dX4_actPaints_11 ?_
  refine AW.iret X hQ dX4_actPaints_12 ⟨_, rfl, ?_⟩
  exact ⟨rfl, hb3.1, hb3.2⟩
set_option maxRecDepth 100000 in
set_option maxHeartbeats 4000000 in
theorem k3_X4_actPaints {l : Launch} {δ : Dl} {b : Nat} {μ : Mm} (W : WX μ.2.2) {m a : Nat} {T : Nat × (Nat → Nat)} (hT : TRX μ m a T) (hn : T.1 < 870) {x : Int32}  : MCX l δ b yX4_actPaints cX4_actPaints 3 (some .int) 2 [.ref (b + 22), .ref (b + 16), .int x] μ (pI fun r μ' => r = (x + nI m) ∧ TRX μ' m a (runL [10] T) ∧ TRS μ μ') := by
  refine MC.intro ([some (.ref (b + 22)), some (.ref (b + 16)), some (.int x)]) (by decide) rfl rfl fun κ Qc hl hQ X => ?_
  subst hl
  refine AW.aload_n X dX4_actPaints_0 (i := 1) rfl rfl ?_
  refine AW.bipushN X 10 dX4_actPaints_1 rfl ?_
  refine AW.callV X dX4_actPaints_3 lX4_7 cfX10 (c_X10_begin W hT (by show T.1 + 0 < 880; omega) (x := 10)) ox16 rfl rfl rfl rfl ⟨rfl, rfl⟩ (pV_k fun μ103 hb3 => ?_)
  have W3 := wx_trs W hb3.2
  refine AW.iload_n X dX4_actPaints_6 (i := 2) rfl rfl ?_
  refine AW.aload_n X dX4_actPaints_7 (i := 1) rfl rfl ?_
  refine AW.getI X dX4_actPaints_8 fX4_13 rfl ox16 hb3.1.1 ?_
  refine AW.iadd X dX4_actPaints_11 ?_
  refine AW.iret X hQ dX4_actPaints_12 ⟨_, rfl, ?_⟩
  exact ⟨rfl, hb3.1, hb3.2⟩
set_option maxRecDepth 100000 in
set_option maxHeartbeats 4000000 in
theorem k3_X2_actPaints {l : Launch} {δ : Dl} {b : Nat} {μ : Mm} (W : WX μ.2.2) {m a : Nat} {T : Nat × (Nat → Nat)} (hT : TRX μ m a T) (hn : T.1 < 860) {x : Int32}  : MCX l δ b yX2_actPaints cX2_actPaints 3 (some .int) 3 [.ref (b + 22), .ref (b + 16), .int x] μ (pI fun r μ' => r = (x + nI m + nI a) ∧ TRX μ' m a (runL [20, 10] T) ∧ TRS μ μ') := by
  refine MC.intro ([some (.ref (b + 22)), some (.ref (b + 16)), some (.int x)]) (by decide) rfl rfl fun κ Qc hl hQ X => ?_
  subst hl
  refine AW.aload_n X dX2_actPaints_0 (i := 1) rfl rfl ?_
  refine AW.bipushN X 20 dX2_actPaints_1 rfl ?_
  refine AW.callV X dX2_actPaints_3 lX2_7 cfX10 (c_X10_begin W hT (by show T.1 + 0 < 880; omega) (x := 20)) ox16 rfl rfl rfl rfl ⟨rfl, rfl⟩ (pV_k fun μ103 hb3 => ?_)
  have W3 := wx_trs W hb3.2
  refine AW.aload_n X dX2_actPaints_6 (i := 0) rfl rfl ?_
  refine AW.aload_n X dX2_actPaints_7 (i := 1) rfl rfl ?_
  refine AW.iload_n X dX2_actPaints_8 (i := 2) rfl rfl ?_
  refine AW.callSU X dX2_actPaints_9 lX2_13 cfX1 (k3_X4_actPaints W3 hb3.1 (by show T.1 + 1 < 870; omega)) ox_k3 rfl rfl rfl rfl ⟨rfl, rfl⟩ (pI_k fun r9 μ109 hc9 => ?_)
  obtain ⟨rfl, ha9, hs9⟩ := hc9
  have W9 := wx_trs W3 hs9
  refine AW.aload_n X dX2_actPaints_12 (i := 1) rfl rfl ?_
  refine AW.getI X dX2_actPaints_13 fX2_17 rfl ox16 ha9.2.1 ?_
  refine AW.iadd X dX2_actPaints_16 ?_
  refine AW.iret X hQ dX2_actPaints_17 ⟨_, rfl, ?_⟩
  exact ⟨rfl, ha9, (hb3.2.trn hs9)⟩
set_option maxRecDepth 100000 in
set_option maxHeartbeats 4000000 in
theorem k4_X4_actPaints {l : Launch} {δ : Dl} {b : Nat} {μ : Mm} (W : WX μ.2.2) {m a : Nat} {T : Nat × (Nat → Nat)} (hT : TRX μ m a T) (hn : T.1 < 870) {x : Int32}  : MCX l δ b yX4_actPaints cX4_actPaints 3 (some .int) 2 [.ref (b + 23), .ref (b + 16), .int x] μ (pI fun r μ' => r = (x + nI m) ∧ TRX μ' m a (runL [10] T) ∧ TRS μ μ') := by
  refine MC.intro ([some (.ref (b + 23)), some (.ref (b + 16)), some (.int x)]) (by decide) rfl rfl fun κ Qc hl hQ X => ?_
  subst hl
  refine AW.aload_n X dX4_actPaints_0 (i := 1) rfl rfl ?_
  refine AW.bipushN X 10 dX4_actPaints_1 rfl ?_
  refine AW.callV X dX4_actPaints_3 lX4_7 cfX10 (c_X10_begin W hT (by show T.1 + 0 < 880; omega) (x := 10)) ox16 rfl rfl rfl rfl ⟨rfl, rfl⟩ (pV_k fun μ103 hb3 => ?_)
  have W3 := wx_trs W hb3.2
  refine AW.iload_n X dX4_actPaints_6 (i := 2) rfl rfl ?_
  refine AW.aload_n X dX4_actPaints_7 (i := 1) rfl rfl ?_
  refine AW.getI X dX4_actPaints_8 fX4_13 rfl ox16 hb3.1.1 ?_
  refine AW.iadd X dX4_actPaints_11 ?_
  refine AW.iret X hQ dX4_actPaints_12 ⟨_, rfl, ?_⟩
  exact ⟨rfl, hb3.1, hb3.2⟩
set_option maxRecDepth 100000 in
set_option maxHeartbeats 4000000 in
theorem k4_X7_actPaints {l : Launch} {δ : Dl} {b : Nat} {μ : Mm} (W : WX μ.2.2) {m a : Nat} {T : Nat × (Nat → Nat)} (hT : TRX μ m a T) (hn : T.1 < 860) {x : Int32}  : MCX l δ b yX7_actPaints cX7_actPaints 3 (some .int) 3 [.ref (b + 23), .ref (b + 16), .int x] μ (pI fun r μ' => r = (x + nI m - nI m) ∧ TRX μ' m a (runL [51, 10] T) ∧ TRS μ μ') := by
  refine MC.intro ([some (.ref (b + 23)), some (.ref (b + 16)), some (.int x)]) (by decide) rfl rfl fun κ Qc hl hQ X => ?_
  subst hl
  refine AW.aload_n X dX7_actPaints_0 (i := 1) rfl rfl ?_
  refine AW.bipushN X 51 dX7_actPaints_1 rfl ?_
  refine AW.callV X dX7_actPaints_3 lX7_7 cfX10 (c_X10_begin W hT (by show T.1 + 0 < 880; omega) (x := 51)) ox16 rfl rfl rfl rfl ⟨rfl, rfl⟩ (pV_k fun μ103 hb3 => ?_)
  have W3 := wx_trs W hb3.2
  refine AW.aload_n X dX7_actPaints_6 (i := 0) rfl rfl ?_
  refine AW.aload_n X dX7_actPaints_7 (i := 1) rfl rfl ?_
  refine AW.iload_n X dX7_actPaints_8 (i := 2) rfl rfl ?_
  refine AW.callSU X dX7_actPaints_9 lX7_17 cfX7 (k4_X4_actPaints W3 hb3.1 (by show T.1 + 1 < 870; omega)) ox_k4 rfl rfl rfl rfl ⟨rfl, rfl⟩ (pI_k fun r9 μ109 hc9 => ?_)
  obtain ⟨rfl, ha9, hs9⟩ := hc9
  have W9 := wx_trs W3 hs9
  refine AW.aload_n X dX7_actPaints_12 (i := 1) rfl rfl ?_
  refine AW.getI X dX7_actPaints_13 fX7_20 rfl ox16 ha9.1 ?_
  refine AW.isub X dX7_actPaints_16 ?_
  refine AW.iret X hQ dX7_actPaints_17 ⟨_, rfl, ?_⟩
  exact ⟨rfl, ha9, (hb3.2.trn hs9)⟩
set_option maxRecDepth 100000 in
set_option maxHeartbeats 4000000 in
theorem k5_X4_actPaints {l : Launch} {δ : Dl} {b : Nat} {μ : Mm} (W : WX μ.2.2) {m a : Nat} {T : Nat × (Nat → Nat)} (hT : TRX μ m a T) (hn : T.1 < 870) {x : Int32}  : MCX l δ b yX4_actPaints cX4_actPaints 3 (some .int) 2 [.ref (b + 24), .ref (b + 16), .int x] μ (pI fun r μ' => r = (x + nI m) ∧ TRX μ' m a (runL [10] T) ∧ TRS μ μ') := by
  refine MC.intro ([some (.ref (b + 24)), some (.ref (b + 16)), some (.int x)]) (by decide) rfl rfl fun κ Qc hl hQ X => ?_
  subst hl
  refine AW.aload_n X dX4_actPaints_0 (i := 1) rfl rfl ?_
  refine AW.bipushN X 10 dX4_actPaints_1 rfl ?_
  refine AW.callV X dX4_actPaints_3 lX4_7 cfX10 (c_X10_begin W hT (by show T.1 + 0 < 880; omega) (x := 10)) ox16 rfl rfl rfl rfl ⟨rfl, rfl⟩ (pV_k fun μ103 hb3 => ?_)
  have W3 := wx_trs W hb3.2
  refine AW.iload_n X dX4_actPaints_6 (i := 2) rfl rfl ?_
  refine AW.aload_n X dX4_actPaints_7 (i := 1) rfl rfl ?_
  refine AW.getI X dX4_actPaints_8 fX4_13 rfl ox16 hb3.1.1 ?_
  refine AW.iadd X dX4_actPaints_11 ?_
  refine AW.iret X hQ dX4_actPaints_12 ⟨_, rfl, ?_⟩
  exact ⟨rfl, hb3.1, hb3.2⟩
set_option maxRecDepth 100000 in
set_option maxHeartbeats 4000000 in
theorem k6_X4_actPaints {l : Launch} {δ : Dl} {b : Nat} {μ : Mm} (W : WX μ.2.2) {m a : Nat} {T : Nat × (Nat → Nat)} (hT : TRX μ m a T) (hn : T.1 < 870) {x : Int32}  : MCX l δ b yX4_actPaints cX4_actPaints 3 (some .int) 2 [.ref (b + 25), .ref (b + 16), .int x] μ (pI fun r μ' => r = (x + nI m) ∧ TRX μ' m a (runL [10] T) ∧ TRS μ μ') := by
  refine MC.intro ([some (.ref (b + 25)), some (.ref (b + 16)), some (.int x)]) (by decide) rfl rfl fun κ Qc hl hQ X => ?_
  subst hl
  refine AW.aload_n X dX4_actPaints_0 (i := 1) rfl rfl ?_
  refine AW.bipushN X 10 dX4_actPaints_1 rfl ?_
  refine AW.callV X dX4_actPaints_3 lX4_7 cfX10 (c_X10_begin W hT (by show T.1 + 0 < 880; omega) (x := 10)) ox16 rfl rfl rfl rfl ⟨rfl, rfl⟩ (pV_k fun μ103 hb3 => ?_)
  have W3 := wx_trs W hb3.2
  refine AW.iload_n X dX4_actPaints_6 (i := 2) rfl rfl ?_
  refine AW.aload_n X dX4_actPaints_7 (i := 1) rfl rfl ?_
  refine AW.getI X dX4_actPaints_8 fX4_13 rfl ox16 hb3.1.1 ?_
  refine AW.iadd X dX4_actPaints_11 ?_
  refine AW.iret X hQ dX4_actPaints_12 ⟨_, rfl, ?_⟩
  exact ⟨rfl, hb3.1, hb3.2⟩
set_option maxRecDepth 100000 in
set_option maxHeartbeats 4000000 in
theorem k6_X0_actPaints {l : Launch} {δ : Dl} {b : Nat} {μ : Mm} (W : WX μ.2.2) {m a : Nat} {T : Nat × (Nat → Nat)} (hT : TRX μ m a T) (hn : T.1 < 860) {x : Int32}  : MCX l δ b yX0_actPaints cX0_actPaints 3 (some .int) 3 [.ref (b + 25), .ref (b + 16), .int x] μ (pI fun r μ' => r = ((x + nI m) * nI 2) ∧ TRX μ' m a (runL [70, 10] T) ∧ TRS μ μ') := by
  refine MC.intro ([some (.ref (b + 25)), some (.ref (b + 16)), some (.int x)]) (by decide) rfl rfl fun κ Qc hl hQ X => ?_
  subst hl
  refine AW.aload_n X dX0_actPaints_0 (i := 1) rfl rfl ?_
  refine AW.bipushN X 70 dX0_actPaints_1 rfl ?_
  refine AW.callV X dX0_actPaints_3 lX0_11 cfX10 (c_X10_begin W hT (by show T.1 + 0 < 880; omega) (x := 70)) ox16 rfl rfl rfl rfl ⟨rfl, rfl⟩ (pV_k fun μ103 hb3 => ?_)
  have W3 := wx_trs W hb3.2
  refine AW.aload_n X dX0_actPaints_6 (i := 0) rfl rfl ?_
  refine AW.aload_n X dX0_actPaints_7 (i := 1) rfl rfl ?_
  refine AW.iload_n X dX0_actPaints_8 (i := 2) rfl rfl ?_
  refine AW.callSX X dX0_actPaints_9 lX0_17 cfX0 (k6_X4_actPaints W3 hb3.1 (by show T.1 + 1 < 870; omega)) ox_k6 rfl rfl rfl rfl ⟨rfl, rfl⟩ (pI_k fun r9 μ109 hc9 => ?_)
  obtain ⟨rfl, ha9, hs9⟩ := hc9
  have W9 := wx_trs W3 hs9
  refine AW.iconstN X 2 dX0_actPaints_12 rfl ?_
  refine AW.imul X dX0_actPaints_13 ?_
  refine AW.iret X hQ dX0_actPaints_14 ⟨_, rfl, ?_⟩
  exact ⟨rfl, ha9, (hb3.2.trn hs9)⟩
set_option maxRecDepth 100000 in
set_option maxHeartbeats 4000000 in
theorem k0_X4_actPeels {l : Launch} {δ : Dl} {b : Nat} {μ : Mm} (W : WX μ.2.2) {m a : Nat} {T : Nat × (Nat → Nat)} (hT : TRX μ m a T) (hn : T.1 < 850) {x : Int32}  : MCX l δ b yX4_actPeels cX4_actPeels 3 (some .int) 4 [.ref (b + 19), .ref (b + 16), .int x] μ (pI fun r μ' => r = ((aPv 0 m a x) * nI 2) ∧ TRX μ' m a (runL (11 :: aPb 0) T) ∧ TRS μ μ') := by
  refine MC.intro ([some (.ref (b + 19)), some (.ref (b + 16)), some (.int x)]) (by decide) rfl rfl fun κ Qc hl hQ X => ?_
  subst hl
  refine AW.aload_n X dX4_actPeels_0 (i := 1) rfl rfl ?_
  refine AW.bipushN X 11 dX4_actPeels_1 rfl ?_
  refine AW.callV X dX4_actPeels_3 lX4_7 cfX10 (c_X10_begin W hT (by show T.1 + 0 < 880; omega) (x := 11)) ox16 rfl rfl rfl rfl ⟨rfl, rfl⟩ (pV_k fun μ103 hb3 => ?_)
  have W3 := wx_trs W hb3.2
  refine AW.aload_n X dX4_actPeels_6 (i := 0) rfl rfl ?_
  refine AW.aload_n X dX4_actPeels_7 (i := 1) rfl rfl ?_
  refine AW.iload_n X dX4_actPeels_8 (i := 2) rfl rfl ?_
  refine AW.callV X dX4_actPeels_9 lX4_17 cfX4 (k0_X4_actPaints W3 hb3.1 (by show T.1 + 1 < 870; omega)) ox_k0 rfl rfl rfl rfl ⟨rfl, rfl⟩ (pI_k fun r9 μ109 hc9 => ?_)
  obtain ⟨rfl, ha9, hs9⟩ := hc9
  have W9 := wx_trs W3 hs9
  refine AW.iconstN X 2 dX4_actPeels_12 rfl ?_
  refine AW.imul X dX4_actPeels_13 ?_
  refine AW.iret X hQ dX4_actPeels_14 ⟨_, rfl, ?_⟩
  exact ⟨rfl, ha9, (hb3.2.trn hs9)⟩
set_option maxRecDepth 100000 in
set_option maxHeartbeats 4000000 in
theorem k1_X4_actPeels {l : Launch} {δ : Dl} {b : Nat} {μ : Mm} (W : WX μ.2.2) {m a : Nat} {T : Nat × (Nat → Nat)} (hT : TRX μ m a T) (hn : T.1 < 850) {x : Int32}  : MCX l δ b yX4_actPeels cX4_actPeels 3 (some .int) 4 [.ref (b + 20), .ref (b + 16), .int x] μ (pI fun r μ' => r = ((aPv 1 m a x) * nI 2) ∧ TRX μ' m a (runL (11 :: aPb 1) T) ∧ TRS μ μ') := by
  refine MC.intro ([some (.ref (b + 20)), some (.ref (b + 16)), some (.int x)]) (by decide) rfl rfl fun κ Qc hl hQ X => ?_
  subst hl
  refine AW.aload_n X dX4_actPeels_0 (i := 1) rfl rfl ?_
  refine AW.bipushN X 11 dX4_actPeels_1 rfl ?_
  refine AW.callV X dX4_actPeels_3 lX4_7 cfX10 (c_X10_begin W hT (by show T.1 + 0 < 880; omega) (x := 11)) ox16 rfl rfl rfl rfl ⟨rfl, rfl⟩ (pV_k fun μ103 hb3 => ?_)
  have W3 := wx_trs W hb3.2
  refine AW.aload_n X dX4_actPeels_6 (i := 0) rfl rfl ?_
  refine AW.aload_n X dX4_actPeels_7 (i := 1) rfl rfl ?_
  refine AW.iload_n X dX4_actPeels_8 (i := 2) rfl rfl ?_
  refine AW.callU X dX4_actPeels_9 lX4_17_X2 cfX2 (k1_X2_actPaints W3 hb3.1 (by show T.1 + 1 < 860; omega)) ox_k1 rfl rfl rfl rfl ⟨rfl, rfl⟩ (pI_k fun r9 μ109 hc9 => ?_)
  obtain ⟨rfl, ha9, hs9⟩ := hc9
  have W9 := wx_trs W3 hs9
  refine AW.iconstN X 2 dX4_actPeels_12 rfl ?_
  refine AW.imul X dX4_actPeels_13 ?_
  refine AW.iret X hQ dX4_actPeels_14 ⟨_, rfl, ?_⟩
  exact ⟨rfl, ha9, (hb3.2.trn hs9)⟩
set_option maxRecDepth 100000 in
set_option maxHeartbeats 4000000 in
theorem k2_X4_actPeels {l : Launch} {δ : Dl} {b : Nat} {μ : Mm} (W : WX μ.2.2) {m a : Nat} {T : Nat × (Nat → Nat)} (hT : TRX μ m a T) (hn : T.1 < 850) {x : Int32}  : MCX l δ b yX4_actPeels cX4_actPeels 3 (some .int) 4 [.ref (b + 21), .ref (b + 16), .int x] μ (pI fun r μ' => r = ((aPv 2 m a x) * nI 2) ∧ TRX μ' m a (runL (11 :: aPb 2) T) ∧ TRS μ μ') := by
  refine MC.intro ([some (.ref (b + 21)), some (.ref (b + 16)), some (.int x)]) (by decide) rfl rfl fun κ Qc hl hQ X => ?_
  subst hl
  refine AW.aload_n X dX4_actPeels_0 (i := 1) rfl rfl ?_
  refine AW.bipushN X 11 dX4_actPeels_1 rfl ?_
  refine AW.callV X dX4_actPeels_3 lX4_7 cfX10 (c_X10_begin W hT (by show T.1 + 0 < 880; omega) (x := 11)) ox16 rfl rfl rfl rfl ⟨rfl, rfl⟩ (pV_k fun μ103 hb3 => ?_)
  have W3 := wx_trs W hb3.2
  refine AW.aload_n X dX4_actPeels_6 (i := 0) rfl rfl ?_
  refine AW.aload_n X dX4_actPeels_7 (i := 1) rfl rfl ?_
  refine AW.iload_n X dX4_actPeels_8 (i := 2) rfl rfl ?_
  refine AW.callU X dX4_actPeels_9 lX4_17_X5 cfX5 (k2_X4_actPaints W3 hb3.1 (by show T.1 + 1 < 870; omega)) ox_k2 rfl rfl rfl rfl ⟨rfl, rfl⟩ (pI_k fun r9 μ109 hc9 => ?_)
  obtain ⟨rfl, ha9, hs9⟩ := hc9
  have W9 := wx_trs W3 hs9
  refine AW.iconstN X 2 dX4_actPeels_12 rfl ?_
  refine AW.imul X dX4_actPeels_13 ?_
  refine AW.iret X hQ dX4_actPeels_14 ⟨_, rfl, ?_⟩
  exact ⟨rfl, ha9, (hb3.2.trn hs9)⟩
set_option maxRecDepth 100000 in
set_option maxHeartbeats 4000000 in
theorem k2_X5_actPeels {l : Launch} {δ : Dl} {b : Nat} {μ : Mm} (W : WX μ.2.2) {m a : Nat} {T : Nat × (Nat → Nat)} (hT : TRX μ m a T) (hn : T.1 < 840) {x : Int32}  : MCX l δ b yX5_actPeels cX5_actPeels 3 (some .int) 5 [.ref (b + 21), .ref (b + 16), .int x] μ (pI fun r μ' => r = ((aPv 2 m a x) * nI 2 * nI 3) ∧ TRX μ' m a (runL (30 :: 11 :: aPb 2) T) ∧ TRS μ μ') := by
  refine MC.intro ([some (.ref (b + 21)), some (.ref (b + 16)), some (.int x)]) (by decide) rfl rfl fun κ Qc hl hQ X => ?_
  subst hl
  refine AW.aload_n X dX5_actPeels_0 (i := 1) rfl rfl ?_
  refine AW.bipushN X 30 dX5_actPeels_1 rfl ?_
  refine AW.callV X dX5_actPeels_3 lX5_7 cfX10 (c_X10_begin W hT (by show T.1 + 0 < 880; omega) (x := 30)) ox16 rfl rfl rfl rfl ⟨rfl, rfl⟩ (pV_k fun μ103 hb3 => ?_)
  have W3 := wx_trs W hb3.2
  refine AW.aload_n X dX5_actPeels_6 (i := 0) rfl rfl ?_
  refine AW.aload_n X dX5_actPeels_7 (i := 1) rfl rfl ?_
  refine AW.iload_n X dX5_actPeels_8 (i := 2) rfl rfl ?_
  refine AW.callSU X dX5_actPeels_9 lX5_13 cfX5 (k2_X4_actPeels W3 hb3.1 (by show T.1 + 1 < 850; omega)) ox_k2 rfl rfl rfl rfl ⟨rfl, rfl⟩ (pI_k fun r9 μ109 hc9 => ?_)
  obtain ⟨rfl, ha9, hs9⟩ := hc9
  have W9 := wx_trs W3 hs9
  refine AW.iconstN X 3 dX5_actPeels_12 rfl ?_
  refine AW.imul X dX5_actPeels_13 ?_
  refine AW.iret X hQ dX5_actPeels_14 ⟨_, rfl, ?_⟩
  exact ⟨rfl, ha9, (hb3.2.trn hs9)⟩
set_option maxRecDepth 100000 in
set_option maxHeartbeats 4000000 in
theorem k3_X4_actPeels {l : Launch} {δ : Dl} {b : Nat} {μ : Mm} (W : WX μ.2.2) {m a : Nat} {T : Nat × (Nat → Nat)} (hT : TRX μ m a T) (hn : T.1 < 850) {x : Int32}  : MCX l δ b yX4_actPeels cX4_actPeels 3 (some .int) 4 [.ref (b + 22), .ref (b + 16), .int x] μ (pI fun r μ' => r = ((aPv 3 m a x) * nI 2) ∧ TRX μ' m a (runL (11 :: aPb 3) T) ∧ TRS μ μ') := by
  refine MC.intro ([some (.ref (b + 22)), some (.ref (b + 16)), some (.int x)]) (by decide) rfl rfl fun κ Qc hl hQ X => ?_
  subst hl
  refine AW.aload_n X dX4_actPeels_0 (i := 1) rfl rfl ?_
  refine AW.bipushN X 11 dX4_actPeels_1 rfl ?_
  refine AW.callV X dX4_actPeels_3 lX4_7 cfX10 (c_X10_begin W hT (by show T.1 + 0 < 880; omega) (x := 11)) ox16 rfl rfl rfl rfl ⟨rfl, rfl⟩ (pV_k fun μ103 hb3 => ?_)
  have W3 := wx_trs W hb3.2
  refine AW.aload_n X dX4_actPeels_6 (i := 0) rfl rfl ?_
  refine AW.aload_n X dX4_actPeels_7 (i := 1) rfl rfl ?_
  refine AW.iload_n X dX4_actPeels_8 (i := 2) rfl rfl ?_
  refine AW.callU X dX4_actPeels_9 lX4_17_X1 cfX1 (k3_X2_actPaints W3 hb3.1 (by show T.1 + 1 < 860; omega)) ox_k3 rfl rfl rfl rfl ⟨rfl, rfl⟩ (pI_k fun r9 μ109 hc9 => ?_)
  obtain ⟨rfl, ha9, hs9⟩ := hc9
  have W9 := wx_trs W3 hs9
  refine AW.iconstN X 2 dX4_actPeels_12 rfl ?_
  refine AW.imul X dX4_actPeels_13 ?_
  refine AW.iret X hQ dX4_actPeels_14 ⟨_, rfl, ?_⟩
  exact ⟨rfl, ha9, (hb3.2.trn hs9)⟩
set_option maxRecDepth 100000 in
set_option maxHeartbeats 4000000 in
theorem k3_X1_actPeels {l : Launch} {δ : Dl} {b : Nat} {μ : Mm} (W : WX μ.2.2) {m a : Nat} {T : Nat × (Nat → Nat)} (hT : TRX μ m a T) (hn : T.1 < 830) {x : Int32}  : MCX l δ b yX1_actPeels cX1_actPeels 3 (some .int) 5 [.ref (b + 22), .ref (b + 16), .int x] μ (pI fun r μ' => r = ((aPv 3 m a (x + nI 1)) * nI 2) ∧ TRX μ' m a (runL (40 :: 11 :: aPb 3) T) ∧ TRS μ μ') := by
  refine MC.intro ([some (.ref (b + 22)), some (.ref (b + 16)), some (.int x)]) (by decide) rfl rfl fun κ Qc hl hQ X => ?_
  subst hl
  refine AW.aload_n X dX1_actPeels_0 (i := 1) rfl rfl ?_
  refine AW.bipushN X 40 dX1_actPeels_1 rfl ?_
  refine AW.callV X dX1_actPeels_3 lX1_13 cfX10 (c_X10_begin W hT (by show T.1 + 0 < 880; omega) (x := 40)) ox16 rfl rfl rfl rfl ⟨rfl, rfl⟩ (pV_k fun μ103 hb3 => ?_)
  have W3 := wx_trs W hb3.2
  refine AW.aload_n X dX1_actPeels_6 (i := 0) rfl rfl ?_
  refine AW.aload_n X dX1_actPeels_7 (i := 1) rfl rfl ?_
  refine AW.iload_n X dX1_actPeels_8 (i := 2) rfl rfl ?_
  refine AW.iconstN X 1 dX1_actPeels_9 rfl ?_
  refine AW.iadd X dX1_actPeels_10 ?_
  refine AW.callSX X dX1_actPeels_11 lX1_19 cfX1 (k3_X4_actPeels W3 hb3.1 (by show T.1 + 1 < 850; omega)) ox_k3 rfl rfl rfl rfl ⟨rfl, rfl⟩ (pI_k fun r11 μ111 hc11 => ?_)
  obtain ⟨rfl, ha11, hs11⟩ := hc11
  have W11 := wx_trs W3 hs11
  refine AW.iret X hQ dX1_actPeels_14 ⟨_, rfl, ?_⟩
  exact ⟨rfl, ha11, (hb3.2.trn hs11)⟩
set_option maxRecDepth 100000 in
set_option maxHeartbeats 4000000 in
theorem k4_X4_actPeels {l : Launch} {δ : Dl} {b : Nat} {μ : Mm} (W : WX μ.2.2) {m a : Nat} {T : Nat × (Nat → Nat)} (hT : TRX μ m a T) (hn : T.1 < 850) {x : Int32}  : MCX l δ b yX4_actPeels cX4_actPeels 3 (some .int) 4 [.ref (b + 23), .ref (b + 16), .int x] μ (pI fun r μ' => r = ((aPv 4 m a x) * nI 2) ∧ TRX μ' m a (runL (11 :: aPb 4) T) ∧ TRS μ μ') := by
  refine MC.intro ([some (.ref (b + 23)), some (.ref (b + 16)), some (.int x)]) (by decide) rfl rfl fun κ Qc hl hQ X => ?_
  subst hl
  refine AW.aload_n X dX4_actPeels_0 (i := 1) rfl rfl ?_
  refine AW.bipushN X 11 dX4_actPeels_1 rfl ?_
  refine AW.callV X dX4_actPeels_3 lX4_7 cfX10 (c_X10_begin W hT (by show T.1 + 0 < 880; omega) (x := 11)) ox16 rfl rfl rfl rfl ⟨rfl, rfl⟩ (pV_k fun μ103 hb3 => ?_)
  have W3 := wx_trs W hb3.2
  refine AW.aload_n X dX4_actPeels_6 (i := 0) rfl rfl ?_
  refine AW.aload_n X dX4_actPeels_7 (i := 1) rfl rfl ?_
  refine AW.iload_n X dX4_actPeels_8 (i := 2) rfl rfl ?_
  refine AW.callU X dX4_actPeels_9 lX4_17_X7 cfX7 (k4_X7_actPaints W3 hb3.1 (by show T.1 + 1 < 860; omega)) ox_k4 rfl rfl rfl rfl ⟨rfl, rfl⟩ (pI_k fun r9 μ109 hc9 => ?_)
  obtain ⟨rfl, ha9, hs9⟩ := hc9
  have W9 := wx_trs W3 hs9
  refine AW.iconstN X 2 dX4_actPeels_12 rfl ?_
  refine AW.imul X dX4_actPeels_13 ?_
  refine AW.iret X hQ dX4_actPeels_14 ⟨_, rfl, ?_⟩
  exact ⟨rfl, ha9, (hb3.2.trn hs9)⟩
set_option maxRecDepth 100000 in
set_option maxHeartbeats 4000000 in
theorem k5_X4_actPeels {l : Launch} {δ : Dl} {b : Nat} {μ : Mm} (W : WX μ.2.2) {m a : Nat} {T : Nat × (Nat → Nat)} (hT : TRX μ m a T) (hn : T.1 < 850) {x : Int32}  : MCX l δ b yX4_actPeels cX4_actPeels 3 (some .int) 4 [.ref (b + 24), .ref (b + 16), .int x] μ (pI fun r μ' => r = ((aPv 5 m a x) * nI 2) ∧ TRX μ' m a (runL (11 :: aPb 5) T) ∧ TRS μ μ') := by
  refine MC.intro ([some (.ref (b + 24)), some (.ref (b + 16)), some (.int x)]) (by decide) rfl rfl fun κ Qc hl hQ X => ?_
  subst hl
  refine AW.aload_n X dX4_actPeels_0 (i := 1) rfl rfl ?_
  refine AW.bipushN X 11 dX4_actPeels_1 rfl ?_
  refine AW.callV X dX4_actPeels_3 lX4_7 cfX10 (c_X10_begin W hT (by show T.1 + 0 < 880; omega) (x := 11)) ox16 rfl rfl rfl rfl ⟨rfl, rfl⟩ (pV_k fun μ103 hb3 => ?_)
  have W3 := wx_trs W hb3.2
  refine AW.aload_n X dX4_actPeels_6 (i := 0) rfl rfl ?_
  refine AW.aload_n X dX4_actPeels_7 (i := 1) rfl rfl ?_
  refine AW.iload_n X dX4_actPeels_8 (i := 2) rfl rfl ?_
  refine AW.callU X dX4_actPeels_9 lX4_17_X8 cfX8 (k5_X4_actPaints W3 hb3.1 (by show T.1 + 1 < 870; omega)) ox_k5 rfl rfl rfl rfl ⟨rfl, rfl⟩ (pI_k fun r9 μ109 hc9 => ?_)
  obtain ⟨rfl, ha9, hs9⟩ := hc9
  have W9 := wx_trs W3 hs9
  refine AW.iconstN X 2 dX4_actPeels_12 rfl ?_
  refine AW.imul X dX4_actPeels_13 ?_
  refine AW.iret X hQ dX4_actPeels_14 ⟨_, rfl, ?_⟩
  exact ⟨rfl, ha9, (hb3.2.trn hs9)⟩
set_option maxRecDepth 100000 in
set_option maxHeartbeats 4000000 in
theorem k5_X5_actPeels {l : Launch} {δ : Dl} {b : Nat} {μ : Mm} (W : WX μ.2.2) {m a : Nat} {T : Nat × (Nat → Nat)} (hT : TRX μ m a T) (hn : T.1 < 840) {x : Int32}  : MCX l δ b yX5_actPeels cX5_actPeels 3 (some .int) 5 [.ref (b + 24), .ref (b + 16), .int x] μ (pI fun r μ' => r = ((aPv 5 m a x) * nI 2 * nI 3) ∧ TRX μ' m a (runL (30 :: 11 :: aPb 5) T) ∧ TRS μ μ') := by
  refine MC.intro ([some (.ref (b + 24)), some (.ref (b + 16)), some (.int x)]) (by decide) rfl rfl fun κ Qc hl hQ X => ?_
  subst hl
  refine AW.aload_n X dX5_actPeels_0 (i := 1) rfl rfl ?_
  refine AW.bipushN X 30 dX5_actPeels_1 rfl ?_
  refine AW.callV X dX5_actPeels_3 lX5_7 cfX10 (c_X10_begin W hT (by show T.1 + 0 < 880; omega) (x := 30)) ox16 rfl rfl rfl rfl ⟨rfl, rfl⟩ (pV_k fun μ103 hb3 => ?_)
  have W3 := wx_trs W hb3.2
  refine AW.aload_n X dX5_actPeels_6 (i := 0) rfl rfl ?_
  refine AW.aload_n X dX5_actPeels_7 (i := 1) rfl rfl ?_
  refine AW.iload_n X dX5_actPeels_8 (i := 2) rfl rfl ?_
  refine AW.callSU X dX5_actPeels_9 lX5_13 cfX8 (k5_X4_actPeels W3 hb3.1 (by show T.1 + 1 < 850; omega)) ox_k5 rfl rfl rfl rfl ⟨rfl, rfl⟩ (pI_k fun r9 μ109 hc9 => ?_)
  obtain ⟨rfl, ha9, hs9⟩ := hc9
  have W9 := wx_trs W3 hs9
  refine AW.iconstN X 3 dX5_actPeels_12 rfl ?_
  refine AW.imul X dX5_actPeels_13 ?_
  refine AW.iret X hQ dX5_actPeels_14 ⟨_, rfl, ?_⟩
  exact ⟨rfl, ha9, (hb3.2.trn hs9)⟩
set_option maxRecDepth 100000 in
set_option maxHeartbeats 4000000 in
theorem k6_X4_actPeels {l : Launch} {δ : Dl} {b : Nat} {μ : Mm} (W : WX μ.2.2) {m a : Nat} {T : Nat × (Nat → Nat)} (hT : TRX μ m a T) (hn : T.1 < 850) {x : Int32}  : MCX l δ b yX4_actPeels cX4_actPeels 3 (some .int) 4 [.ref (b + 25), .ref (b + 16), .int x] μ (pI fun r μ' => r = ((aPv 6 m a x) * nI 2) ∧ TRX μ' m a (runL (11 :: aPb 6) T) ∧ TRS μ μ') := by
  refine MC.intro ([some (.ref (b + 25)), some (.ref (b + 16)), some (.int x)]) (by decide) rfl rfl fun κ Qc hl hQ X => ?_
  subst hl
  refine AW.aload_n X dX4_actPeels_0 (i := 1) rfl rfl ?_
  refine AW.bipushN X 11 dX4_actPeels_1 rfl ?_
  refine AW.callV X dX4_actPeels_3 lX4_7 cfX10 (c_X10_begin W hT (by show T.1 + 0 < 880; omega) (x := 11)) ox16 rfl rfl rfl rfl ⟨rfl, rfl⟩ (pV_k fun μ103 hb3 => ?_)
  have W3 := wx_trs W hb3.2
  refine AW.aload_n X dX4_actPeels_6 (i := 0) rfl rfl ?_
  refine AW.aload_n X dX4_actPeels_7 (i := 1) rfl rfl ?_
  refine AW.iload_n X dX4_actPeels_8 (i := 2) rfl rfl ?_
  refine AW.callU X dX4_actPeels_9 lX4_17_X0 cfX0 (k6_X0_actPaints W3 hb3.1 (by show T.1 + 1 < 860; omega)) ox_k6 rfl rfl rfl rfl ⟨rfl, rfl⟩ (pI_k fun r9 μ109 hc9 => ?_)
  obtain ⟨rfl, ha9, hs9⟩ := hc9
  have W9 := wx_trs W3 hs9
  refine AW.iconstN X 2 dX4_actPeels_12 rfl ?_
  refine AW.imul X dX4_actPeels_13 ?_
  refine AW.iret X hQ dX4_actPeels_14 ⟨_, rfl, ?_⟩
  exact ⟨rfl, ha9, (hb3.2.trn hs9)⟩
set_option maxRecDepth 100000 in
set_option maxHeartbeats 4000000 in
theorem k6_X5_actPeels {l : Launch} {δ : Dl} {b : Nat} {μ : Mm} (W : WX μ.2.2) {m a : Nat} {T : Nat × (Nat → Nat)} (hT : TRX μ m a T) (hn : T.1 < 840) {x : Int32}  : MCX l δ b yX5_actPeels cX5_actPeels 3 (some .int) 5 [.ref (b + 25), .ref (b + 16), .int x] μ (pI fun r μ' => r = ((aPv 6 m a x) * nI 2 * nI 3) ∧ TRX μ' m a (runL (30 :: 11 :: aPb 6) T) ∧ TRS μ μ') := by
  refine MC.intro ([some (.ref (b + 25)), some (.ref (b + 16)), some (.int x)]) (by decide) rfl rfl fun κ Qc hl hQ X => ?_
  subst hl
  refine AW.aload_n X dX5_actPeels_0 (i := 1) rfl rfl ?_
  refine AW.bipushN X 30 dX5_actPeels_1 rfl ?_
  refine AW.callV X dX5_actPeels_3 lX5_7 cfX10 (c_X10_begin W hT (by show T.1 + 0 < 880; omega) (x := 30)) ox16 rfl rfl rfl rfl ⟨rfl, rfl⟩ (pV_k fun μ103 hb3 => ?_)
  have W3 := wx_trs W hb3.2
  refine AW.aload_n X dX5_actPeels_6 (i := 0) rfl rfl ?_
  refine AW.aload_n X dX5_actPeels_7 (i := 1) rfl rfl ?_
  refine AW.iload_n X dX5_actPeels_8 (i := 2) rfl rfl ?_
  refine AW.callSU X dX5_actPeels_9 lX5_13 cfX0 (k6_X4_actPeels W3 hb3.1 (by show T.1 + 1 < 850; omega)) ox_k6 rfl rfl rfl rfl ⟨rfl, rfl⟩ (pI_k fun r9 μ109 hc9 => ?_)
  obtain ⟨rfl, ha9, hs9⟩ := hc9
  have W9 := wx_trs W3 hs9
  refine AW.iconstN X 3 dX5_actPeels_12 rfl ?_
  refine AW.imul X dX5_actPeels_13 ?_
  refine AW.iret X hQ dX5_actPeels_14 ⟨_, rfl, ?_⟩
  exact ⟨rfl, ha9, (hb3.2.trn hs9)⟩
set_option maxRecDepth 100000 in
set_option maxHeartbeats 4000000 in
theorem k6_X0_actPeels {l : Launch} {δ : Dl} {b : Nat} {μ : Mm} (W : WX μ.2.2) {m a : Nat} {T : Nat × (Nat → Nat)} (hT : TRX μ m a T) (hn : T.1 < 830) {x : Int32}  : MCX l δ b yX0_actPeels cX0_actPeels 3 (some .int) 6 [.ref (b + 25), .ref (b + 16), .int x] μ (pI fun r μ' => r = ((aPv 6 m a (x - nI a)) * nI 2 * nI 3) ∧ TRX μ' m a (runL (71 :: 30 :: 11 :: aPb 6) T) ∧ TRS μ μ') := by
  refine MC.intro ([some (.ref (b + 25)), some (.ref (b + 16)), some (.int x)]) (by decide) rfl rfl fun κ Qc hl hQ X => ?_
  subst hl
  refine AW.aload_n X dX0_actPeels_0 (i := 1) rfl rfl ?_
  refine AW.bipushN X 71 dX0_actPeels_1 rfl ?_
  refine AW.callV X dX0_actPeels_3 lX0_11 cfX10 (c_X10_begin W hT (by show T.1 + 0 < 880; omega) (x := 71)) ox16 rfl rfl rfl rfl ⟨rfl, rfl⟩ (pV_k fun μ103 hb3 => ?_)
  have W3 := wx_trs W hb3.2
  refine AW.aload_n X dX0_actPeels_6 (i := 0) rfl rfl ?_
  refine AW.aload_n X dX0_actPeels_7 (i := 1) rfl rfl ?_
  refine AW.iload_n X dX0_actPeels_8 (i := 2) rfl rfl ?_
  refine AW.aload_n X dX0_actPeels_9 (i := 1) rfl rfl ?_
  refine AW.getI X dX0_actPeels_10 fX0_21 rfl ox16 hb3.1.2.1 ?_
  refine AW.isub X dX0_actPeels_13 ?_
  refine AW.callSU X dX0_actPeels_14 lX0_25 cfX0 (k6_X5_actPeels W3 hb3.1 (by show T.1 + 1 < 840; omega)) ox_k6 rfl rfl rfl rfl ⟨rfl, rfl⟩ (pI_k fun r14 μ114 hc14 => ?_)
  obtain ⟨rfl, ha14, hs14⟩ := hc14
  have W14 := wx_trs W3 hs14
  refine AW.iret X hQ dX0_actPeels_17 ⟨_, rfl, ?_⟩
  exact ⟨rfl, ha14, (hb3.2.trn hs14)⟩
set_option maxRecDepth 100000 in
set_option maxHeartbeats 4000000 in
theorem k0_X4_actFalls {l : Launch} {δ : Dl} {b : Nat} {μ : Mm} (W : WX μ.2.2) {m a : Nat} {T : Nat × (Nat → Nat)} (hT : TRX μ m a T) (hn : T.1 < 820) {x : Int32}  : MCX l δ b yX4_actFalls cX4_actFalls 3 (some .int) 7 [.ref (b + 19), .ref (b + 16), .int x] μ (pI fun r μ' => r = (aLv 0 m a x ^^^ aPv 0 m a (x - nI a)) ∧ TRX μ' m a (runL (12 :: (aLb 0 ++ aPb 0)) T) ∧ TRS μ μ') := by
  refine MC.intro ([some (.ref (b + 19)), some (.ref (b + 16)), some (.int x)]) (by decide) rfl rfl fun κ Qc hl hQ X => ?_
  subst hl
  refine AW.aload_n X dX4_actFalls_0 (i := 1) rfl rfl ?_
  refine AW.bipushN X 12 dX4_actFalls_1 rfl ?_
  refine AW.callV X dX4_actFalls_3 lX4_7 cfX10 (c_X10_begin W hT (by show T.1 + 0 < 880; omega) (x := 12)) ox16 rfl rfl rfl rfl ⟨rfl, rfl⟩ (pV_k fun μ103 hb3 => ?_)
  have W3 := wx_trs W hb3.2
  refine AW.aload_n X dX4_actFalls_6 (i := 0) rfl rfl ?_
  refine AW.aload_n X dX4_actFalls_7 (i := 1) rfl rfl ?_
  refine AW.iload_n X dX4_actFalls_8 (i := 2) rfl rfl ?_
  refine AW.callV X dX4_actFalls_9 lX4_23 cfX4 (k0_X4_actPeels W3 hb3.1 (by show T.1 + 1 < 850; omega)) ox_k0 rfl rfl rfl rfl ⟨rfl, rfl⟩ (pI_k fun r9 μ109 hc9 => ?_)
  obtain ⟨rfl, ha9, hs9⟩ := hc9
  have W9 := wx_trs W3 hs9
  refine AW.aload_n X dX4_actFalls_12 (i := 0) rfl rfl ?_
  refine AW.aload_n X dX4_actFalls_13 (i := 1) rfl rfl ?_
  refine AW.iload_n X dX4_actFalls_14 (i := 2) rfl rfl ?_
  refine AW.aload_n X dX4_actFalls_15 (i := 1) rfl rfl ?_
  refine AW.getI X dX4_actFalls_16 fX4_26 rfl ox16 ha9.2.1 ?_
  refine AW.isub X dX4_actFalls_19 ?_
  refine AW.callV X dX4_actFalls_20 lX4_17 cfX4 (k0_X4_actPaints W9 ha9 (by show T.1 + 3 < 870; omega)) ox_k0 rfl rfl rfl rfl ⟨rfl, rfl⟩ (pI_k fun r20 μ120 hc20 => ?_)
  obtain ⟨rfl, ha20, hs20⟩ := hc20
  have W20 := wx_trs W9 hs20
  refine AW.ixor X dX4_actFalls_23 ?_
  refine AW.iret X hQ dX4_actFalls_24 ⟨_, rfl, ?_⟩
  exact ⟨rfl, ha20, ((hb3.2.trn hs9).trn hs20)⟩
set_option maxRecDepth 100000 in
set_option maxHeartbeats 4000000 in
theorem k1_X4_actFalls {l : Launch} {δ : Dl} {b : Nat} {μ : Mm} (W : WX μ.2.2) {m a : Nat} {T : Nat × (Nat → Nat)} (hT : TRX μ m a T) (hn : T.1 < 820) {x : Int32}  : MCX l δ b yX4_actFalls cX4_actFalls 3 (some .int) 7 [.ref (b + 20), .ref (b + 16), .int x] μ (pI fun r μ' => r = (aLv 1 m a x ^^^ aPv 1 m a (x - nI a)) ∧ TRX μ' m a (runL (12 :: (aLb 1 ++ aPb 1)) T) ∧ TRS μ μ') := by
  refine MC.intro ([some (.ref (b + 20)), some (.ref (b + 16)), some (.int x)]) (by decide) rfl rfl fun κ Qc hl hQ X => ?_
  subst hl
  refine AW.aload_n X dX4_actFalls_0 (i := 1) rfl rfl ?_
  refine AW.bipushN X 12 dX4_actFalls_1 rfl ?_
  refine AW.callV X dX4_actFalls_3 lX4_7 cfX10 (c_X10_begin W hT (by show T.1 + 0 < 880; omega) (x := 12)) ox16 rfl rfl rfl rfl ⟨rfl, rfl⟩ (pV_k fun μ103 hb3 => ?_)
  have W3 := wx_trs W hb3.2
  refine AW.aload_n X dX4_actFalls_6 (i := 0) rfl rfl ?_
  refine AW.aload_n X dX4_actFalls_7 (i := 1) rfl rfl ?_
  refine AW.iload_n X dX4_actFalls_8 (i := 2) rfl rfl ?_
  refine AW.callU X dX4_actFalls_9 lX4_23_X2 cfX2 (k1_X4_actPeels W3 hb3.1 (by show T.1 + 1 < 850; omega)) ox_k1 rfl rfl rfl rfl ⟨rfl, rfl⟩ (pI_k fun r9 μ109 hc9 => ?_)
  obtain ⟨rfl, ha9, hs9⟩ := hc9
  have W9 := wx_trs W3 hs9
  refine AW.aload_n X dX4_actFalls_12 (i := 0) rfl rfl ?_
  refine AW.aload_n X dX4_actFalls_13 (i := 1) rfl rfl ?_
  refine AW.iload_n X dX4_actFalls_14 (i := 2) rfl rfl ?_
  refine AW.aload_n X dX4_actFalls_15 (i := 1) rfl rfl ?_
  refine AW.getI X dX4_actFalls_16 fX4_26 rfl ox16 ha9.2.1 ?_
  refine AW.isub X dX4_actFalls_19 ?_
  refine AW.callU X dX4_actFalls_20 lX4_17_X2 cfX2 (k1_X2_actPaints W9 ha9 (by show T.1 + 4 < 860; omega)) ox_k1 rfl rfl rfl rfl ⟨rfl, rfl⟩ (pI_k fun r20 μ120 hc20 => ?_)
  obtain ⟨rfl, ha20, hs20⟩ := hc20
  have W20 := wx_trs W9 hs20
  refine AW.ixor X dX4_actFalls_23 ?_
  refine AW.iret X hQ dX4_actFalls_24 ⟨_, rfl, ?_⟩
  exact ⟨rfl, ha20, ((hb3.2.trn hs9).trn hs20)⟩
set_option maxRecDepth 100000 in
set_option maxHeartbeats 4000000 in
theorem k2_X4_actFalls {l : Launch} {δ : Dl} {b : Nat} {μ : Mm} (W : WX μ.2.2) {m a : Nat} {T : Nat × (Nat → Nat)} (hT : TRX μ m a T) (hn : T.1 < 820) {x : Int32}  : MCX l δ b yX4_actFalls cX4_actFalls 3 (some .int) 7 [.ref (b + 21), .ref (b + 16), .int x] μ (pI fun r μ' => r = (aLv 2 m a x ^^^ aPv 2 m a (x - nI a)) ∧ TRX μ' m a (runL (12 :: (aLb 2 ++ aPb 2)) T) ∧ TRS μ μ') := by
  refine MC.intro ([some (.ref (b + 21)), some (.ref (b + 16)), some (.int x)]) (by decide) rfl rfl fun κ Qc hl hQ X => ?_
  subst hl
  refine AW.aload_n X dX4_actFalls_0 (i := 1) rfl rfl ?_
  refine AW.bipushN X 12 dX4_actFalls_1 rfl ?_
  refine AW.callV X dX4_actFalls_3 lX4_7 cfX10 (c_X10_begin W hT (by show T.1 + 0 < 880; omega) (x := 12)) ox16 rfl rfl rfl rfl ⟨rfl, rfl⟩ (pV_k fun μ103 hb3 => ?_)
  have W3 := wx_trs W hb3.2
  refine AW.aload_n X dX4_actFalls_6 (i := 0) rfl rfl ?_
  refine AW.aload_n X dX4_actFalls_7 (i := 1) rfl rfl ?_
  refine AW.iload_n X dX4_actFalls_8 (i := 2) rfl rfl ?_
  refine AW.callU X dX4_actFalls_9 lX4_23_X5 cfX5 (k2_X5_actPeels W3 hb3.1 (by show T.1 + 1 < 840; omega)) ox_k2 rfl rfl rfl rfl ⟨rfl, rfl⟩ (pI_k fun r9 μ109 hc9 => ?_)
  obtain ⟨rfl, ha9, hs9⟩ := hc9
  have W9 := wx_trs W3 hs9
  refine AW.aload_n X dX4_actFalls_12 (i := 0) rfl rfl ?_
  refine AW.aload_n X dX4_actFalls_13 (i := 1) rfl rfl ?_
  refine AW.iload_n X dX4_actFalls_14 (i := 2) rfl rfl ?_
  refine AW.aload_n X dX4_actFalls_15 (i := 1) rfl rfl ?_
  refine AW.getI X dX4_actFalls_16 fX4_26 rfl ox16 ha9.2.1 ?_
  refine AW.isub X dX4_actFalls_19 ?_
  refine AW.callU X dX4_actFalls_20 lX4_17_X5 cfX5 (k2_X4_actPaints W9 ha9 (by show T.1 + 4 < 870; omega)) ox_k2 rfl rfl rfl rfl ⟨rfl, rfl⟩ (pI_k fun r20 μ120 hc20 => ?_)
  obtain ⟨rfl, ha20, hs20⟩ := hc20
  have W20 := wx_trs W9 hs20
  refine AW.ixor X dX4_actFalls_23 ?_
  refine AW.iret X hQ dX4_actFalls_24 ⟨_, rfl, ?_⟩
  exact ⟨rfl, ha20, ((hb3.2.trn hs9).trn hs20)⟩
set_option maxRecDepth 100000 in
set_option maxHeartbeats 4000000 in
theorem k3_X4_actFalls {l : Launch} {δ : Dl} {b : Nat} {μ : Mm} (W : WX μ.2.2) {m a : Nat} {T : Nat × (Nat → Nat)} (hT : TRX μ m a T) (hn : T.1 < 820) {x : Int32}  : MCX l δ b yX4_actFalls cX4_actFalls 3 (some .int) 7 [.ref (b + 22), .ref (b + 16), .int x] μ (pI fun r μ' => r = (aLv 3 m a x ^^^ aPv 3 m a (x - nI a)) ∧ TRX μ' m a (runL (12 :: (aLb 3 ++ aPb 3)) T) ∧ TRS μ μ') := by
  refine MC.intro ([some (.ref (b + 22)), some (.ref (b + 16)), some (.int x)]) (by decide) rfl rfl fun κ Qc hl hQ X => ?_
  subst hl
  refine AW.aload_n X dX4_actFalls_0 (i := 1) rfl rfl ?_
  refine AW.bipushN X 12 dX4_actFalls_1 rfl ?_
  refine AW.callV X dX4_actFalls_3 lX4_7 cfX10 (c_X10_begin W hT (by show T.1 + 0 < 880; omega) (x := 12)) ox16 rfl rfl rfl rfl ⟨rfl, rfl⟩ (pV_k fun μ103 hb3 => ?_)
  have W3 := wx_trs W hb3.2
  refine AW.aload_n X dX4_actFalls_6 (i := 0) rfl rfl ?_
  refine AW.aload_n X dX4_actFalls_7 (i := 1) rfl rfl ?_
  refine AW.iload_n X dX4_actFalls_8 (i := 2) rfl rfl ?_
  refine AW.callU X dX4_actFalls_9 lX4_23_X1 cfX1 (k3_X1_actPeels W3 hb3.1 (by show T.1 + 1 < 830; omega)) ox_k3 rfl rfl rfl rfl ⟨rfl, rfl⟩ (pI_k fun r9 μ109 hc9 => ?_)
  obtain ⟨rfl, ha9, hs9⟩ := hc9
  have W9 := wx_trs W3 hs9
  refine AW.aload_n X dX4_actFalls_12 (i := 0) rfl rfl ?_
  refine AW.aload_n X dX4_actFalls_13 (i := 1) rfl rfl ?_
  refine AW.iload_n X dX4_actFalls_14 (i := 2) rfl rfl ?_
  refine AW.aload_n X dX4_actFalls_15 (i := 1) rfl rfl ?_
  refine AW.getI X dX4_actFalls_16 fX4_26 rfl ox16 ha9.2.1 ?_
  refine AW.isub X dX4_actFalls_19 ?_
  refine AW.callU X dX4_actFalls_20 lX4_17_X1 cfX1 (k3_X2_actPaints W9 ha9 (by show T.1 + 5 < 860; omega)) ox_k3 rfl rfl rfl rfl ⟨rfl, rfl⟩ (pI_k fun r20 μ120 hc20 => ?_)
  obtain ⟨rfl, ha20, hs20⟩ := hc20
  have W20 := wx_trs W9 hs20
  refine AW.ixor X dX4_actFalls_23 ?_
  refine AW.iret X hQ dX4_actFalls_24 ⟨_, rfl, ?_⟩
  exact ⟨rfl, ha20, ((hb3.2.trn hs9).trn hs20)⟩
set_option maxRecDepth 100000 in
set_option maxHeartbeats 4000000 in
theorem k4_X4_actFalls {l : Launch} {δ : Dl} {b : Nat} {μ : Mm} (W : WX μ.2.2) {m a : Nat} {T : Nat × (Nat → Nat)} (hT : TRX μ m a T) (hn : T.1 < 820) {x : Int32}  : MCX l δ b yX4_actFalls cX4_actFalls 3 (some .int) 7 [.ref (b + 23), .ref (b + 16), .int x] μ (pI fun r μ' => r = (aLv 4 m a x ^^^ aPv 4 m a (x - nI a)) ∧ TRX μ' m a (runL (12 :: (aLb 4 ++ aPb 4)) T) ∧ TRS μ μ') := by
  refine MC.intro ([some (.ref (b + 23)), some (.ref (b + 16)), some (.int x)]) (by decide) rfl rfl fun κ Qc hl hQ X => ?_
  subst hl
  refine AW.aload_n X dX4_actFalls_0 (i := 1) rfl rfl ?_
  refine AW.bipushN X 12 dX4_actFalls_1 rfl ?_
  refine AW.callV X dX4_actFalls_3 lX4_7 cfX10 (c_X10_begin W hT (by show T.1 + 0 < 880; omega) (x := 12)) ox16 rfl rfl rfl rfl ⟨rfl, rfl⟩ (pV_k fun μ103 hb3 => ?_)
  have W3 := wx_trs W hb3.2
  refine AW.aload_n X dX4_actFalls_6 (i := 0) rfl rfl ?_
  refine AW.aload_n X dX4_actFalls_7 (i := 1) rfl rfl ?_
  refine AW.iload_n X dX4_actFalls_8 (i := 2) rfl rfl ?_
  refine AW.callU X dX4_actFalls_9 lX4_23_X7 cfX7 (k4_X4_actPeels W3 hb3.1 (by show T.1 + 1 < 850; omega)) ox_k4 rfl rfl rfl rfl ⟨rfl, rfl⟩ (pI_k fun r9 μ109 hc9 => ?_)
  obtain ⟨rfl, ha9, hs9⟩ := hc9
  have W9 := wx_trs W3 hs9
  refine AW.aload_n X dX4_actFalls_12 (i := 0) rfl rfl ?_
  refine AW.aload_n X dX4_actFalls_13 (i := 1) rfl rfl ?_
  refine AW.iload_n X dX4_actFalls_14 (i := 2) rfl rfl ?_
  refine AW.aload_n X dX4_actFalls_15 (i := 1) rfl rfl ?_
  refine AW.getI X dX4_actFalls_16 fX4_26 rfl ox16 ha9.2.1 ?_
  refine AW.isub X dX4_actFalls_19 ?_
  refine AW.callU X dX4_actFalls_20 lX4_17_X7 cfX7 (k4_X7_actPaints W9 ha9 (by show T.1 + 4 < 860; omega)) ox_k4 rfl rfl rfl rfl ⟨rfl, rfl⟩ (pI_k fun r20 μ120 hc20 => ?_)
  obtain ⟨rfl, ha20, hs20⟩ := hc20
  have W20 := wx_trs W9 hs20
  refine AW.ixor X dX4_actFalls_23 ?_
  refine AW.iret X hQ dX4_actFalls_24 ⟨_, rfl, ?_⟩
  exact ⟨rfl, ha20, ((hb3.2.trn hs9).trn hs20)⟩
set_option maxRecDepth 100000 in
set_option maxHeartbeats 4000000 in
theorem k4_X7_actFalls {l : Launch} {δ : Dl} {b : Nat} {μ : Mm} (W : WX μ.2.2) {m a : Nat} {T : Nat × (Nat → Nat)} (hT : TRX μ m a T) (hn : T.1 < 810) {x : Int32}  : MCX l δ b yX7_actFalls cX7_actFalls 3 (some .int) 8 [.ref (b + 23), .ref (b + 16), .int x] μ (pI fun r μ' => r = (-(aLv 4 m a x ^^^ aPv 4 m a (x - nI a))) ∧ TRX μ' m a (runL (50 :: 12 :: (aLb 4 ++ aPb 4)) T) ∧ TRS μ μ') := by
  refine MC.intro ([some (.ref (b + 23)), some (.ref (b + 16)), some (.int x)]) (by decide) rfl rfl fun κ Qc hl hQ X => ?_
  subst hl
  refine AW.aload_n X dX7_actFalls_0 (i := 1) rfl rfl ?_
  refine AW.bipushN X 50 dX7_actFalls_1 rfl ?_
  refine AW.callV X dX7_actFalls_3 lX7_7 cfX10 (c_X10_begin W hT (by show T.1 + 0 < 880; omega) (x := 50)) ox16 rfl rfl rfl rfl ⟨rfl, rfl⟩ (pV_k fun μ103 hb3 => ?_)
  have W3 := wx_trs W hb3.2
  refine AW.aload_n X dX7_actFalls_6 (i := 0) rfl rfl ?_
  refine AW.aload_n X dX7_actFalls_7 (i := 1) rfl rfl ?_
  refine AW.iload_n X dX7_actFalls_8 (i := 2) rfl rfl ?_
  refine AW.callSU X dX7_actFalls_9 lX7_13 cfX7 (k4_X4_actFalls W3 hb3.1 (by show T.1 + 1 < 820; omega)) ox_k4 rfl rfl rfl rfl ⟨rfl, rfl⟩ (pI_k fun r9 μ109 hc9 => ?_)
  obtain ⟨rfl, ha9, hs9⟩ := hc9
  have W9 := wx_trs W3 hs9
  refine AW.ineg X dX7_actFalls_12 ?_
  refine AW.iret X hQ dX7_actFalls_13 ⟨_, rfl, ?_⟩
  exact ⟨rfl, ha9, (hb3.2.trn hs9)⟩
set_option maxRecDepth 100000 in
set_option maxHeartbeats 4000000 in
theorem k5_X4_actFalls {l : Launch} {δ : Dl} {b : Nat} {μ : Mm} (W : WX μ.2.2) {m a : Nat} {T : Nat × (Nat → Nat)} (hT : TRX μ m a T) (hn : T.1 < 820) {x : Int32}  : MCX l δ b yX4_actFalls cX4_actFalls 3 (some .int) 7 [.ref (b + 24), .ref (b + 16), .int x] μ (pI fun r μ' => r = (aLv 5 m a x ^^^ aPv 5 m a (x - nI a)) ∧ TRX μ' m a (runL (12 :: (aLb 5 ++ aPb 5)) T) ∧ TRS μ μ') := by
  refine MC.intro ([some (.ref (b + 24)), some (.ref (b + 16)), some (.int x)]) (by decide) rfl rfl fun κ Qc hl hQ X => ?_
  subst hl
  refine AW.aload_n X dX4_actFalls_0 (i := 1) rfl rfl ?_
  refine AW.bipushN X 12 dX4_actFalls_1 rfl ?_
  refine AW.callV X dX4_actFalls_3 lX4_7 cfX10 (c_X10_begin W hT (by show T.1 + 0 < 880; omega) (x := 12)) ox16 rfl rfl rfl rfl ⟨rfl, rfl⟩ (pV_k fun μ103 hb3 => ?_)
  have W3 := wx_trs W hb3.2
  refine AW.aload_n X dX4_actFalls_6 (i := 0) rfl rfl ?_
  refine AW.aload_n X dX4_actFalls_7 (i := 1) rfl rfl ?_
  refine AW.iload_n X dX4_actFalls_8 (i := 2) rfl rfl ?_
  refine AW.callU X dX4_actFalls_9 lX4_23_X8 cfX8 (k5_X5_actPeels W3 hb3.1 (by show T.1 + 1 < 840; omega)) ox_k5 rfl rfl rfl rfl ⟨rfl, rfl⟩ (pI_k fun r9 μ109 hc9 => ?_)
  obtain ⟨rfl, ha9, hs9⟩ := hc9
  have W9 := wx_trs W3 hs9
  refine AW.aload_n X dX4_actFalls_12 (i := 0) rfl rfl ?_
  refine AW.aload_n X dX4_actFalls_13 (i := 1) rfl rfl ?_
  refine AW.iload_n X dX4_actFalls_14 (i := 2) rfl rfl ?_
  refine AW.aload_n X dX4_actFalls_15 (i := 1) rfl rfl ?_
  refine AW.getI X dX4_actFalls_16 fX4_26 rfl ox16 ha9.2.1 ?_
  refine AW.isub X dX4_actFalls_19 ?_
  refine AW.callU X dX4_actFalls_20 lX4_17_X8 cfX8 (k5_X4_actPaints W9 ha9 (by show T.1 + 4 < 870; omega)) ox_k5 rfl rfl rfl rfl ⟨rfl, rfl⟩ (pI_k fun r20 μ120 hc20 => ?_)
  obtain ⟨rfl, ha20, hs20⟩ := hc20
  have W20 := wx_trs W9 hs20
  refine AW.ixor X dX4_actFalls_23 ?_
  refine AW.iret X hQ dX4_actFalls_24 ⟨_, rfl, ?_⟩
  exact ⟨rfl, ha20, ((hb3.2.trn hs9).trn hs20)⟩
set_option maxRecDepth 100000 in
set_option maxHeartbeats 4000000 in
theorem k5_X8_actFalls {l : Launch} {δ : Dl} {b : Nat} {μ : Mm} (W : WX μ.2.2) {m a : Nat} {T : Nat × (Nat → Nat)} (hT : TRX μ m a T) (hn : T.1 < 810) {x : Int32}  : MCX l δ b yX8_actFalls cX8_actFalls 3 (some .int) 8 [.ref (b + 24), .ref (b + 16), .int x] μ (pI fun r μ' => r = ((aLv 5 m a x ^^^ aPv 5 m a (x - nI a)) ^^^ nI 5) ∧ TRX μ' m a (runL (60 :: 12 :: (aLb 5 ++ aPb 5)) T) ∧ TRS μ μ') := by
  refine MC.intro ([some (.ref (b + 24)), some (.ref (b + 16)), some (.int x)]) (by decide) rfl rfl fun κ Qc hl hQ X => ?_
  subst hl
  refine AW.aload_n X dX8_actFalls_0 (i := 1) rfl rfl ?_
  refine AW.bipushN X 60 dX8_actFalls_1 rfl ?_
  refine AW.callV X dX8_actFalls_3 lX8_13 cfX10 (c_X10_begin W hT (by show T.1 + 0 < 880; omega) (x := 60)) ox16 rfl rfl rfl rfl ⟨rfl, rfl⟩ (pV_k fun μ103 hb3 => ?_)
  have W3 := wx_trs W hb3.2
  refine AW.aload_n X dX8_actFalls_6 (i := 0) rfl rfl ?_
  refine AW.aload_n X dX8_actFalls_7 (i := 1) rfl rfl ?_
  refine AW.iload_n X dX8_actFalls_8 (i := 2) rfl rfl ?_
  refine AW.callSX X dX8_actFalls_9 lX8_19 cfX8 (k5_X4_actFalls W3 hb3.1 (by show T.1 + 1 < 820; omega)) ox_k5 rfl rfl rfl rfl ⟨rfl, rfl⟩ (pI_k fun r9 μ109 hc9 => ?_)
  obtain ⟨rfl, ha9, hs9⟩ := hc9
  have W9 := wx_trs W3 hs9
  refine AW.iconstN X 5 dX8_actFalls_12 rfl ?_
  refine AW.ixor X dX8_actFalls_13 ?_
  refine AW.iret X hQ dX8_actFalls_14 ⟨_, rfl, ?_⟩
  exact ⟨rfl, ha9, (hb3.2.trn hs9)⟩
set_option maxRecDepth 100000 in
set_option maxHeartbeats 4000000 in
theorem k6_X4_actFalls {l : Launch} {δ : Dl} {b : Nat} {μ : Mm} (W : WX μ.2.2) {m a : Nat} {T : Nat × (Nat → Nat)} (hT : TRX μ m a T) (hn : T.1 < 820) {x : Int32}  : MCX l δ b yX4_actFalls cX4_actFalls 3 (some .int) 7 [.ref (b + 25), .ref (b + 16), .int x] μ (pI fun r μ' => r = (aLv 6 m a x ^^^ aPv 6 m a (x - nI a)) ∧ TRX μ' m a (runL (12 :: (aLb 6 ++ aPb 6)) T) ∧ TRS μ μ') := by
  refine MC.intro ([some (.ref (b + 25)), some (.ref (b + 16)), some (.int x)]) (by decide) rfl rfl fun κ Qc hl hQ X => ?_
  subst hl
  refine AW.aload_n X dX4_actFalls_0 (i := 1) rfl rfl ?_
  refine AW.bipushN X 12 dX4_actFalls_1 rfl ?_
  refine AW.callV X dX4_actFalls_3 lX4_7 cfX10 (c_X10_begin W hT (by show T.1 + 0 < 880; omega) (x := 12)) ox16 rfl rfl rfl rfl ⟨rfl, rfl⟩ (pV_k fun μ103 hb3 => ?_)
  have W3 := wx_trs W hb3.2
  refine AW.aload_n X dX4_actFalls_6 (i := 0) rfl rfl ?_
  refine AW.aload_n X dX4_actFalls_7 (i := 1) rfl rfl ?_
  refine AW.iload_n X dX4_actFalls_8 (i := 2) rfl rfl ?_
  refine AW.callU X dX4_actFalls_9 lX4_23_X0 cfX0 (k6_X0_actPeels W3 hb3.1 (by show T.1 + 1 < 830; omega)) ox_k6 rfl rfl rfl rfl ⟨rfl, rfl⟩ (pI_k fun r9 μ109 hc9 => ?_)
  obtain ⟨rfl, ha9, hs9⟩ := hc9
  have W9 := wx_trs W3 hs9
  refine AW.aload_n X dX4_actFalls_12 (i := 0) rfl rfl ?_
  refine AW.aload_n X dX4_actFalls_13 (i := 1) rfl rfl ?_
  refine AW.iload_n X dX4_actFalls_14 (i := 2) rfl rfl ?_
  refine AW.aload_n X dX4_actFalls_15 (i := 1) rfl rfl ?_
  refine AW.getI X dX4_actFalls_16 fX4_26 rfl ox16 ha9.2.1 ?_
  refine AW.isub X dX4_actFalls_19 ?_
  refine AW.callU X dX4_actFalls_20 lX4_17_X0 cfX0 (k6_X0_actPaints W9 ha9 (by show T.1 + 6 < 860; omega)) ox_k6 rfl rfl rfl rfl ⟨rfl, rfl⟩ (pI_k fun r20 μ120 hc20 => ?_)
  obtain ⟨rfl, ha20, hs20⟩ := hc20
  have W20 := wx_trs W9 hs20
  refine AW.ixor X dX4_actFalls_23 ?_
  refine AW.iret X hQ dX4_actFalls_24 ⟨_, rfl, ?_⟩
  exact ⟨rfl, ha20, ((hb3.2.trn hs9).trn hs20)⟩
