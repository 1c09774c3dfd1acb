/-! a town as numbers: τ h: house h; τ 6 0: houses, limit, wide, year, fallen, seed; τ 6 1, τ 6 2: what the colours hide, cost -/
abbrev Tt : Type := Nat → Nat → Nat → Nat
def TI (τ : Tt) : Prop := τ 6 0 0 ≤ 6 ∧ (1 ≤ τ 6 0 1 ∧ τ 6 0 1 ≤ 999) ∧ (10 ≤ τ 6 0 2 ∧ τ 6 0 2 ≤ 99) ∧ (∀ c, c < 6 → τ 6 1 c ≤ 9 ∧ τ 6 2 c ≤ 99) ∧ ∀ h, h < τ 6 0 0 → HI (τ h)
/-- the town at B in the class's world holds τ -/
def TX (μ : Mm) (B : Nat) (τ : Tt) : Prop := TI τ ∧ (μ.1 B 2 = nI (τ 6 0 0) ∧ μ.1 B 5 = nI (τ 6 0 1) ∧ μ.1 B 6 = nI (τ 6 0 2) ∧ μ.1 B 7 = nI (τ 6 0 3) ∧ μ.1 B 8 = nI (τ 6 0 4) ∧ μ.1 B 9 = nI (τ 6 0 5)) ∧ (∀ c, c < 6 → μ.1 (B + 2) c = nI (τ 6 1 c) ∧ μ.1 (B + 3) c = nI (τ 6 2 c)) ∧ ∀ h, h < τ 6 0 0 → HV μ (B + 4 + 7 * h) (τ h)
section TXS
variable {μ : Mm} {B c h : Nat} {τ : Tt}
theorem ti_n (q : TI τ) : τ 6 0 0 ≤ 6 := q.1
theorem ti_hid (q : TI τ) (hc : c < 6) : τ 6 1 c ≤ 9 := (q.2.2.2.1 c hc).1
theorem ti_cos (q : TI τ) (hc : c < 6) : τ 6 2 c ≤ 99 := (q.2.2.2.1 c hc).2
theorem tx_n (q : TX μ B τ) : μ.1 B 2 = nI (τ 6 0 0) := q.2.1.1
theorem tx_lim (q : TX μ B τ) : μ.1 B 5 = nI (τ 6 0 1) := q.2.1.2.1
theorem tx_wid (q : TX μ B τ) : μ.1 B 6 = nI (τ 6 0 2) := q.2.1.2.2.1
theorem tx_yr (q : TX μ B τ) : μ.1 B 7 = nI (τ 6 0 3) := q.2.1.2.2.2.1
theorem tx_fal (q : TX μ B τ) : μ.1 B 8 = nI (τ 6 0 4) := q.2.1.2.2.2.2.1
theorem tx_seed (q : TX μ B τ) : μ.1 B 9 = nI (τ 6 0 5) := q.2.1.2.2.2.2.2
theorem tx_hid (q : TX μ B τ) (hc : c < 6) : μ.1 (B + 2) c = nI (τ 6 1 c) := (q.2.2.1 c hc).1
theorem tx_cos (q : TX μ B τ) (hc : c < 6) : μ.1 (B + 3) c = nI (τ 6 2 c) := (q.2.2.1 c hc).2
theorem tx_h (q : TX μ B τ) (hh : h < τ 6 0 0) : HV μ (B + 4 + 7 * h) (τ h) := q.2.2.2 h hh
end TXS
/-- a counter that goes down to -1 -/
def dn (i : Nat) : Int32 := nI i + (-1)
theorem dn_0 : dn 0 = -1 := by decide
theorem dn_s (i : Nat) : dn (i + 1) = nI i := pk_m1 i
theorem dn_sub (i : Nat) : nI i - nI 1 = dn i := by
  unfold dn
  rw [show (-1 : Int32) = -(nI 1) by decide, Int32.sub_eq_add_neg]
def oI : Option Nat → Int32
  | none => -1
  | some c => nI c
/-- the strength of coat c, its colours hiding hd -/
def strength (hd : Nat → Nat) (V : Vt) (c : Nat) : Nat := counted V (hd (V 2 c)) * V 3 c
def seenIn (hd : Nat → Nat) (V : Vt) (bits w : Nat) : Nat → Option Nat
  | 0 => none
  | c + 1 => if bits.testBit c = true ∧ w ≤ strength hd V c then some c else seenIn hd V bits w c
theorem seenIn_lt {hd : Nat → Nat} {V : Vt} {bits w : Nat} : ∀ {i c : Nat}, seenIn hd V bits w i = some c → c < i
  | 0, c, h => by cases h
  | i + 1, c, h => by
    unfold seenIn at h
    split at h
    · cases h; omega
    · have := seenIn_lt h; omega
def seenAt (hd : Nat → Nat) (V : Vt) (k d : Nat) : Option Nat := seenIn hd V (lyA V k) (wet V k d) (V 0 2)
def oBit : Option Nat → Nat
  | none => 0
  | some c => 2 ^ c
theorem oBit_lt {n : Nat} {x : Option Nat} (h : ∀ c, x = some c → c < n) : oBit x < 2 ^ n := by
  cases x with
  | none => exact Nat.two_pow_pos n
  | some c => exact Nat.pow_lt_pow_right (a := 2) (by decide) (h c rfl)
def seenTo (hd : Nat → Nat) (V : Vt) (d : Nat) : Nat → Nat
  | 0 => 0
  | k + 1 => seenTo hd V d k ||| oBit (seenAt hd V k d)
theorem seenTo_lt {hd : Nat → Nat} {V : Vt} (hV : HI V) (d : Nat) : ∀ k, seenTo hd V d k < 256
  | 0 => by show (0 : Nat) < 256; decide
  | k + 1 => by
    have h1 := seenTo_lt (hd := hd) hV d k
    have h2 : oBit (seenAt hd V k d) < 2 ^ 8 := oBit_lt fun c hc => by
      have := seenIn_lt hc
      have := hi_n hV
      omega
    exact or_lt8 h1 h2
theorem counted_le (V : Vt) (x : Nat) : counted V x ≤ x := by
  unfold counted
  split <;> omega
theorem strength_le {hd : Nat → Nat} {V : Vt} {c : Nat} (h1 : hd (V 2 c) ≤ 9) (h3 : V 3 c ≤ 9) : strength hd V c ≤ 81 := by
  have h2 := counted_le V (hd (V 2 c))
  unfold strength
  have : counted V (hd (V 2 c)) * V 3 c ≤ 9 * 9 := Nat.mul_le_mul (by omega) h3
  omega
