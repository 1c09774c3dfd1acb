/-! a house front as numbers: V 0: kind, a, coats; V 1 .. V 5: tenant, colour, thick, gap, year of each coat; V 6: the coats gone (bits) of each cell -/
abbrev Vt : Type := Nat → Nat → Nat
def HI (V : Vt) : Prop := V 0 0 < 7 ∧ V 0 1 ≤ 9 ∧ V 0 2 ≤ 8 ∧ (∀ c, c < V 0 2 → V 1 c < 8 ∧ V 2 c < 6 ∧ 1 ≤ V 3 c ∧ V 3 c ≤ 9 ∧ V 4 c < 12) ∧ ∀ k, k < 12 → V 6 k < 256
/-- front o of the class's world holds V -/
def HV (μ : Mm) (o : Nat) (V : Vt) : Prop := HI V ∧ μ.2.2 o 0 = some (19 + V 0 0) ∧ μ.1 o 1 = nI (V 0 0) ∧ μ.1 o 2 = nI (V 0 1) ∧ μ.1 o 3 = nI (V 0 2) ∧ (∀ c, c < V 0 2 → μ.1 (o + 1) c = nI (V 1 c) ∧ μ.1 (o + 2) c = nI (V 2 c) ∧ μ.1 (o + 3) c = nI (V 3 c) ∧ μ.1 (o + 4) c = nI (V 4 c) ∧ μ.1 (o + 5) c = nI (V 5 c)) ∧ ∀ k, k < 12 → μ.1 (o + 6) k = nI (V 6 k)
section HVS
variable {μ : Mm} {o c k : Nat} {V : Vt}
theorem hi_n (h : HI V) : V 0 2 ≤ 8 := h.2.2.1
theorem hi_k (h : HI V) : V 0 0 < 7 := h.1
theorem hi_a (h : HI V) : V 0 1 ≤ 9 := h.2.1
theorem hi_ten (h : HI V) (hc : c < V 0 2) : V 1 c < 8 := (h.2.2.2.1 c hc).1
theorem hi_col (h : HI V) (hc : c < V 0 2) : V 2 c < 6 := (h.2.2.2.1 c hc).2.1
theorem hi_th (h : HI V) (hc : c < V 0 2) : 1 ≤ V 3 c ∧ V 3 c ≤ 9 := ⟨(h.2.2.2.1 c hc).2.2.1, (h.2.2.2.1 c hc).2.2.2.1⟩
theorem hi_gap (h : HI V) (hc : c < V 0 2) : V 4 c < 12 := (h.2.2.2.1 c hc).2.2.2.2
theorem hi_go (h : HI V) (hk : k < 12) : V 6 k < 256 := h.2.2.2.2 k hk
theorem hv_i (h : HV μ o V) : HI V := h.1
theorem hv_kind (h : HV μ o V) : μ.2.2 o 0 = some (19 + V 0 0) := h.2.1
theorem hv_k (h : HV μ o V) : μ.1 o 1 = nI (V 0 0) := h.2.2.1
theorem hv_a (h : HV μ o V) : μ.1 o 2 = nI (V 0 1) := h.2.2.2.1
theorem hv_n (h : HV μ o V) : μ.1 o 3 = nI (V 0 2) := h.2.2.2.2.1
theorem hv_1 (h : HV μ o V) (hc : c < V 0 2) : μ.1 (o + 1) c = nI (V 1 c) := (h.2.2.2.2.2.1 c hc).1
theorem hv_2 (h : HV μ o V) (hc : c < V 0 2) : μ.1 (o + 2) c = nI (V 2 c) := (h.2.2.2.2.2.1 c hc).2.1
theorem hv_3 (h : HV μ o V) (hc : c < V 0 2) : μ.1 (o + 3) c = nI (V 3 c) := (h.2.2.2.2.2.1 c hc).2.2.1
theorem hv_4 (h : HV μ o V) (hc : c < V 0 2) : μ.1 (o + 4) c = nI (V 4 c) := (h.2.2.2.2.2.1 c hc).2.2.2.1
theorem hv_5 (h : HV μ o V) (hc : c < V 0 2) : μ.1 (o + 5) c = nI (V 5 c) := (h.2.2.2.2.2.1 c hc).2.2.2.2
theorem hv_6 (h : HV μ o V) (hk : k < 12) : μ.1 (o + 6) k = nI (V 6 k) := h.2.2.2.2.2.2 k hk
end HVS
/-! bits -/
theorem nI_or (a c : Nat) : nI a ||| nI c = nI (a ||| c) := by
  apply Int32.toBitVec_inj.mp
  show BitVec.ofNat 32 a ||| BitVec.ofNat 32 c = BitVec.ofNat 32 (a ||| c)
  apply BitVec.eq_of_getLsbD_eq
  intro i hi
  simp [BitVec.getLsbD_or, BitVec.getLsbD_ofNat, Nat.testBit_or, hi]
theorem nI_and (a c : Nat) : nI a &&& nI c = nI (a &&& c) := by
  apply Int32.toBitVec_inj.mp
  show BitVec.ofNat 32 a &&& BitVec.ofNat 32 c = BitVec.ofNat 32 (a &&& c)
  apply BitVec.eq_of_getLsbD_eq
  intro i hi
  simp [BitVec.getLsbD_and, BitVec.getLsbD_ofNat, Nat.testBit_and, hi]
theorem bit_1 : ∀ c, c < 31 → nI 1 <<< (nI c &&& 31) = nI (2 ^ c) := by decide +kernel
theorem sh_nat : ∀ c, c < 32 → ((nI c &&& 31).toBitVec.smod 32).toNat = c := by decide +kernel
theorem shr_n {a c : Nat} (ha : a < 2147483648) (hc : c < 32) : nI a >>> (nI c &&& 31) = nI (a / 2 ^ c) := pk_shrN ha _ c (sh_nat c hc)
/-- bit c of a, as both sides ask it -/
theorem has_n {a c : Nat} (ha : a < 2147483648) (hc : c < 32) : (nI a >>> (nI c &&& 31)) &&& nI 1 = bI (a.testBit c) := by
  rw [shr_n ha hc, nI_and, Nat.and_one_is_mod]
  have : a.testBit c = decide (a / 2 ^ c % 2 = 1) := by
    rw [Nat.testBit_eq_decide_div_mod_eq]
  rw [this]
  rcases Nat.mod_two_eq_zero_or_one (a / 2 ^ c) with q | q <;> rw [q] <;> rfl
theorem or_lt8 {a c : Nat} (ha : a < 256) (hc : c < 256) : a ||| c < 256 := Nat.or_lt_two_pow (n := 8) ha hc
theorem pow_lt8 {c : Nat} (hc : c < 8) : 2 ^ c < 256 := Nat.pow_lt_pow_right (a := 2) (by decide) hc
theorem pow_lt12 {c : Nat} (hc : c < 12) : 2 ^ c < 4096 := Nat.pow_lt_pow_right (a := 2) (by decide) hc
theorem tb_or2 (a c i : Nat) : (a ||| 2 ^ c).testBit i = (a.testBit i || decide (c = i)) := by
  rw [Nat.testBit_or, Nat.testBit_two_pow]
/-! what lies in a cell -/
def lies (V : Vt) (c k : Nat) : Bool := !(V 4 c == k) && !(V 6 k).testBit c
def ly (V : Vt) (k : Nat) : Nat → Nat
  | 0 => 0
  | c + 1 => if lies V c k then ly V k c ||| 2 ^ c else ly V k c
def lyA (V : Vt) (k : Nat) : Nat := ly V k (V 0 2)
theorem ly_lt (V : Vt) (k : Nat) : ∀ i, ly V k i < 2 ^ i
  | 0 => by simp [ly]
  | i + 1 => by
    have ih := ly_lt V k i
    have h2 : 2 ^ (i + 1) = 2 ^ i * 2 := Nat.pow_succ ..
    unfold ly
    split
    · exact Nat.or_lt_two_pow (n := i + 1) (by omega) (by omega)
    · omega
theorem ly_lt8 (V : Vt) (k : Nat) {i : Nat} (h : i ≤ 8) : ly V k i < 256 := Nat.lt_of_lt_of_le (ly_lt V k i) (Nat.pow_le_pow_right (n := 2) (by decide) h)
theorem ly_bit (V : Vt) (k : Nat) : ∀ (i c : Nat), (ly V k i).testBit c = (decide (c < i) && lies V c k)
  | 0, c => by simp [ly]
  | i + 1, c => by
    have ih := ly_bit V k i c
    unfold ly
    by_cases hc : c = i
    · subst hc
      split <;> rename_i h <;> simp_all [tb_or2]
    · have e1 : decide (i = c) = false := decide_eq_false (fun z => hc z.symm)
      have e2 : decide (c < i + 1) = decide (c < i) := decide_eq_decide.mpr (by omega)
      split
      · rw [tb_or2, e1, ih, e2, Bool.or_false]
      · rw [ih, e2]
/-- the thickness of the coats lo .. i - 1 that lie in cell k -/
def dsum (V : Vt) (k lo : Nat) : Nat → Nat
  | 0 => 0
  | c + 1 => if lo ≤ c ∧ lies V c k = true then dsum V k lo c + V 3 c else dsum V k lo c
theorem dsum_0 (V : Vt) (k lo : Nat) : ∀ i, i ≤ lo → dsum V k lo i = 0
  | 0, _ => rfl
  | i + 1, h => by
    unfold dsum
    rw [if_neg (by omega), dsum_0 V k lo i (by omega)]
theorem dsum_le {V : Vt} (hV : HI V) (k lo : Nat) : ∀ i, i ≤ V 0 2 → dsum V k lo i ≤ 9 * i
  | 0, _ => by simp [dsum]
  | i + 1, h => by
    have ih := dsum_le hV k lo i (by omega)
    have := (hi_th hV (c := i) (by omega)).2
    unfold dsum
    split <;> omega
def depth (V : Vt) (k : Nat) : Nat := dsum V k 0 (V 0 2)
theorem depth_le {V : Vt} (hV : HI V) (k : Nat) : depth V k ≤ 72 := by
  have := dsum_le hV k 0 (V 0 2) (Nat.le_refl _)
  have := hi_n hV
  unfold depth
  omega
def skinTo (V : Vt) : Nat → Nat
  | 0 => 0
  | k + 1 => skinTo V k + depth V k
theorem skinTo_le {V : Vt} (hV : HI V) : ∀ k, skinTo V k ≤ 72 * k
  | 0 => by simp [skinTo]
  | k + 1 => by
    have ih := skinTo_le hV k
    have := depth_le hV k
    unfold skinTo
    omega
def skin (V : Vt) : Nat := skinTo V 12
def cellsTo (V : Vt) (c : Nat) : Nat → Nat
  | 0 => 0
  | k + 1 => if lies V c k then cellsTo V c k ||| 2 ^ k else cellsTo V c k
def deepTo (V : Vt) : Nat → Nat
  | 0 => 0
  | k + 1 => max (deepTo V k) (depth V k)
theorem deepTo_le {V : Vt} (hV : HI V) : ∀ k, deepTo V k ≤ 72
  | 0 => by simp [deepTo]
  | k + 1 => by
    have := deepTo_le hV k
    have := depth_le hV k
    unfold deepTo
    omega
def livedTo (V : Vt) : Nat → Nat
  | 0 => 0
  | c + 1 => livedTo V c ||| 2 ^ V 1 c
def coatsTo (V : Vt) (t : Nat) : Nat → Nat
  | 0 => 0
  | c + 1 => if V 1 c = t then coatsTo V t c + 1 else coatsTo V t c
theorem coatsTo_le (V : Vt) (t : Nat) : ∀ i, coatsTo V t i ≤ i
  | 0 => Nat.le_refl _
  | i + 1 => by
    have := coatsTo_le V t i
    unfold coatsTo
    split <;> omega
/-! wet and hard -/
def wet (V : Vt) (k d : Nat) : Nat :=
  let w := if (V 0 0 = 1 ∨ V 0 0 = 3) ∧ 0 < d then d + V 0 1 else d
  if V 0 0 = 3 ∧ 8 ≤ k then 2 * w else w
def hard (V : Vt) (k h : Nat) : Nat :=
  let x := if V 0 0 = 2 ∨ V 0 0 = 5 ∨ V 0 0 = 6 then h - V 0 1 else h
  if V 0 0 = 5 ∧ k < 4 then 0 else if V 0 0 = 6 then 2 * x else x
def counted (V : Vt) (x : Nat) : Nat := if V 0 0 = 4 then x - 1 else x
theorem wet_le {V : Vt} (hV : HI V) (k : Nat) {d : Nat} (hd : d < 100) : wet V k d ≤ 216 := by
  have := hi_a hV
  unfold wet
  dsimp only
  split <;> split <;> omega
theorem hard_le (V : Vt) (k : Nat) {h : Nat} (hd : h < 100) : hard V k h ≤ 198 := by
  unfold hard
  have hx : (if V 0 0 = 2 ∨ V 0 0 = 5 ∨ V 0 0 = 6 then h - V 0 1 else h) ≤ 99 := by split <;> omega
  dsimp only
  split
  · omega
  · split <;> omega
/-- of the coats below i that 'bits' has: what lies behind hail that is x hard, from coat i - 1 on down -/
def behind (V : Vt) : Nat → Nat → Nat → Nat
  | 0, bits, _ => bits
  | c + 1, bits, x => if bits.testBit c then (if x < V 3 c then bits else behind V c (bits ^^^ 2 ^ c) (x - V 3 c)) else behind V c bits x
