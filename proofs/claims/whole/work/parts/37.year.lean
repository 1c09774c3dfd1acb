/-! hail on all houses, skins that fall, draws, a year: what becomes of the town -/
theorem upH_s (τ : Tt) (h : Nat) (V : Vt) : upH τ h V h = V := if_pos rfl
theorem upH_n {τ : Tt} {h i : Nat} {V : Vt} (e : i ≠ h) : upH τ h V i = τ i := if_neg e
theorem upH_id (τ : Tt) (h : Nat) : upH τ h (τ h) = τ := funext fun i => by
  by_cases e : i = h
  · subst e; exact upH_s τ i _
  · exact upH_n e
theorem upH_up (τ : Tt) (h : Nat) (V V2 : Vt) : upH (upH τ h V) h V2 = upH τ h V2 := funext fun i => by
  by_cases e : i = h
  · subst e; rw [upH_s, upH_s]
  · rw [upH_n e, upH_n e, upH_n e]
theorem upS_n {τ : Tt} {i j k x : Nat} (e : i ≠ 6) : upS τ j k x i = τ i := if_neg e
theorem upS_6 (τ : Tt) (j k x j' k' : Nat) : upS τ j k x 6 j' k' = if j' = j ∧ k' = k then x else τ 6 j' k' := rfl
def hailC (V : Vt) (x : Nat) : Nat → Vt
  | 0 => V
  | k + 1 => upV (hailC V x k) 6 k (hailC V x k 6 k ||| went (hailC V x k) k x)
def hailK (V : Vt) (x : Nat) : Nat → Nat
  | 0 => 0
  | k + 1 => hailK V x k + pcnt (went (hailC V x k) k x)
def hailT (τ : Tt) (x : Nat) : Nat → Tt
  | 0 => τ
  | i + 1 => upH (hailT τ x i) i (hailC (hailT τ x i i) x 12)
def hailS (τ : Tt) (x : Nat) : Nat → Nat
  | 0 => 0
  | i + 1 => hailS τ x i + hailK (hailT τ x i i) x 12
theorem hailT_6 (τ : Tt) (x : Nat) : ∀ i, i ≤ 6 → hailT τ x i 6 = τ 6
  | 0, _ => rfl
  | i + 1, h => by rw [hailT, upH_n (by omega), hailT_6 τ x i (by omega)]
theorem hailK_le (V : Vt) (x : Nat) : ∀ k, hailK V x k ≤ 8 * k
  | 0 => by simp [hailK]
  | k + 1 => by
    have := hailK_le V x k
    have := pcnt_le (went (hailC V x k) k x)
    unfold hailK
    omega
theorem hailS_le (τ : Tt) (x : Nat) : ∀ i, hailS τ x i ≤ 96 * i
  | 0 => by simp [hailS]
  | i + 1 => by
    have := hailS_le τ x i
    have := hailK_le (hailT τ x i i) x 12
    unfold hailS
    omega
theorem hi_hail {V : Vt} (hV : HI V) (x : Nat) : ∀ k, k ≤ 12 → HI (hailC V x k)
  | 0, _ => hV
  | k + 1, h => by
    have ih := hi_hail hV x k (by omega)
    exact hi_gone ih (or_lt8 (hi_go ih (by omega)) (went_lt ih k x))
def fallTo (τ : Tt) : Nat → Tt
  | 0 => τ
  | i + 1 => if fallTo τ i 6 0 1 < skin (fallTo τ i i) then upS (upH (fallTo τ i) i (clearV (fallTo τ i i))) 0 4 (fallTo τ i 6 0 4 + 1) else fallTo τ i
def fallB (τ : Tt) : Nat → Nat
  | 0 => 0
  | i + 1 => if fallTo τ i 6 0 1 < skin (fallTo τ i i) then fallB τ i ||| 2 ^ i else fallB τ i
theorem fallB_lt (τ : Tt) : ∀ i, fallB τ i < 2 ^ i
  | 0 => by simp [fallB]
  | i + 1 => by
    have ih := fallB_lt τ i
    have h2 : 2 ^ (i + 1) = 2 ^ i * 2 := Nat.pow_succ ..
    unfold fallB
    split
    · exact Nat.or_lt_two_pow (n := i + 1) (by omega) (by omega)
    · omega
/-- all of a town's numbers but how many skins fell -/
theorem fallTo_6 (τ : Tt) : ∀ i, i ≤ 6 → ∀ j k, ¬ (j = 0 ∧ k = 4) → fallTo τ i 6 j k = τ 6 j k
  | 0, _, _, _, _ => rfl
  | i + 1, h, j, k, q => by
    have ih := fallTo_6 τ i (by omega) j k q
    unfold fallTo
    split
    · rw [upS_6, if_neg q, upH_n (by omega), ih]
    · exact ih
def sd (s : Nat) : Nat := (s * 1103515245 + 12345) % 4294967296
theorem nI_mod (x : Nat) : nI (x % 4294967296) = nI x := by
  apply Int32.toBitVec_inj.mp
  show BitVec.ofNat 32 (x % 4294967296) = BitVec.ofNat 32 x
  apply BitVec.eq_of_toNat_eq
  simp
theorem sd_n (s : Nat) : nI s * 1103515245 + nI 12345 = nI (sd s) := by
  rw [show (1103515245 : Int32) = nI 1103515245 from rfl, pk_mul, nI_add, sd, nI_mod]
theorem sd_lt (s : Nat) : sd s < 4294967296 := Nat.mod_lt _ (by decide)
def dv (s n : Nat) : Nat := sd s / 2 ^ 16 % n
theorem dv_lt {s n : Nat} (h : 0 < n) : dv s n < n := Nat.mod_lt _ h
theorem sd_sh (s : Nat) : sd s / 2 ^ 16 < 65536 := by
  have := sd_lt s
  omega
/-- behind the five draws of a year; what is painted; hail; what falls -/
def yr1 (τ : Tt) : Tt := upS τ 0 5 (sd (sd (sd (sd (sd (τ 6 0 5))))))
def yr2 (τ : Tt) : Tt :=
  if yr1 τ (dv (τ 6 0 5) (τ 6 0 0)) 0 2 < 8 then upH (yr1 τ) (dv (τ 6 0 5) (τ 6 0 0)) (putV (yr1 τ (dv (τ 6 0 5) (τ 6 0 0))) (dv (sd (τ 6 0 5)) 8) (dv (sd (sd (τ 6 0 5))) 6) (dv (sd (sd (sd (τ 6 0 5)))) 9 + 1) (dv (sd (sd (sd (sd (τ 6 0 5))))) 12) (yr1 τ 6 0 3)) else yr1 τ
def yr3 (τ : Tt) : Tt := upS (yr2 τ) 0 5 (sd (yr2 τ 6 0 5))
def yr4 (τ : Tt) : Tt := hailT (yr3 τ) (dv (yr2 τ 6 0 5) 8) (yr3 τ 6 0 0)
def yr5 (τ : Tt) : Tt := fallTo (yr4 τ) (yr4 τ 6 0 0)
def yearT (τ : Tt) : Tt := upS (yr5 τ) 0 3 (yr5 τ 6 0 3 + 1)
theorem wI_wI (μ : Mm) (o k : Nat) (v w : Int32) : wI (wI μ o k v) o k w = wI μ o k w := by
  refine Prod.ext (funext fun q => funext fun i => ?_) rfl
  simp only [wI]
  split <;> rfl
theorem ti_upS {τ : Tt} {k x : Nat} (q : TI τ) (hk : 3 ≤ k) : TI (upS τ 0 k x) := by
  have e : ∀ k', k' ≠ k → upS τ 0 k x 6 0 k' = τ 6 0 k' := fun k' h => by rw [upS_6, if_neg (fun z => h z.2)]
  have e2 : ∀ j k', j ≠ 0 → upS τ 0 k x 6 j k' = τ 6 j k' := fun j k' h => by rw [upS_6, if_neg (fun z => h z.1)]
  refine ⟨by rw [e 0 (by omega)]; exact q.1, by rw [e 1 (by omega)]; exact q.2.1, by rw [e 2 (by omega)]; exact q.2.2.1, fun c hc => by rw [e2 1 c (by decide), e2 2 c (by decide)]; exact q.2.2.2.1 c hc, fun h hh => ?_⟩
  rw [e 0 (by omega)] at hh
  have := q.1
  rw [upS_n (by omega)]
  exact q.2.2.2.2 h hh
/-- a number of the town at B changes: its field k, the number's place i -/
theorem tx_num {μ : Mm} {B : Nat} {τ : Tt} (q : TX μ B τ) (i x : Nat) (hi : 3 ≤ i) (hi5 : i ≤ 5) : TX (wI μ B (i + 4) (nI x)) B (upS τ 0 i x) := by
  have e : ∀ k', k' ≠ i → upS τ 0 i x 6 0 k' = τ 6 0 k' := fun k' h => by rw [upS_6, if_neg (fun z => h z.2)]
  have e1 : upS τ 0 i x 6 0 i = x := by rw [upS_6, if_pos ⟨rfl, rfl⟩]
  have e2 : ∀ j k', j ≠ 0 → upS τ 0 i x 6 j k' = τ 6 j k' := fun j k' h => by rw [upS_6, if_neg (fun z => h z.1)]
  have hw : ∀ k', k' ≠ i + 4 → (wI μ B (i + 4) (nI x)).1 B k' = μ.1 B k' := fun k' h => by simp [wI, h]
  have hw1 : (wI μ B (i + 4) (nI x)).1 B (i + 4) = nI x := by simp [wI]
  have hs : SameI (fun q => q = B) μ (wI μ B (i + 4) (nI x)) := SameI.wI rfl
  refine ⟨ti_upS q.1 hi, ⟨?_, ?_, ?_, ?_, ?_, ?_⟩, fun c hc => ?_, fun h hh => ?_⟩
  · rw [e 0 (by omega), hw 2 (by omega)]; exact q.2.1.1
  · rw [e 1 (by omega), hw 5 (by omega)]; exact q.2.1.2.1
  · rw [e 2 (by omega), hw 6 (by omega)]; exact q.2.1.2.2.1
  · by_cases z : i = 3
    · subst z; rw [e1]; exact hw1
    · rw [e 3 (by omega), hw 7 (by omega)]; exact q.2.1.2.2.2.1
  · by_cases z : i = 4
    · subst z; rw [e1]; exact hw1
    · rw [e 4 (by omega), hw 8 (by omega)]; exact q.2.1.2.2.2.2.1
  · by_cases z : i = 5
    · subst z; rw [e1]; exact hw1
    · rw [e 5 (by omega), hw 9 (by omega)]; exact q.2.1.2.2.2.2.2
  · rw [e2 1 c (by decide), e2 2 c (by decide), hs.1 (B + 2) (by show ¬ B + 2 = B; omega), hs.1 (B + 3) (by show ¬ B + 3 = B; omega)]
    exact q.2.2.1 c hc
  · rw [e 0 (by omega)] at hh
    have := q.1.1
    rw [upS_n (by omega)]
    refine hv_same (q.2.2.2 h hh) hs.same (fun y hy hz => ?_)
    have := hy.1
    have hz : y = B := hz
    omega
