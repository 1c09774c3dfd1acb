def movB (τ : Tt) (t : Nat) : Nat → Nat
  | 0 => 0
  | h + 1 => if 0 < coatsTo (τ h) t (τ h 0 2) then movB τ t h ||| 2 ^ h else movB τ t h
def movC (τ : Tt) (t : Nat) : Nat → Nat
  | 0 => 0
  | h + 1 => movC τ t h + coatsTo (τ h) t (τ h 0 2)
def S_moves (S : St) (t w : Int32) : Int32 × St := if inr t 8 = false then ref S 1 0 else if ¬ w = nI 0 ∧ ¬ w = nI 1 then ref S 5 0
  else (if w = nI 0 then nI (movB S.1 (cl t) (S.1 6 0 0)) else nI (movC S.1 (cl t) (S.1 6 0 0)), S)
def colsS (V : Vt) (bits : Nat) : Nat → Nat
  | 0 => 0
  | c + 1 => if bits.testBit c then colsS V bits c ||| 2 ^ V 2 c else colsS V bits c
theorem colsS_lt {V : Vt} (hV : HI V) (bits : Nat) : ∀ c, c ≤ V 0 2 → colsS V bits c < 64
  | 0, _ => by simp [colsS]
  | c + 1, h => by
    have ih := colsS_lt hV bits c (by omega)
    have := hi_col hV (c := c) (by omega)
    unfold colsS
    split
    · exact Nat.or_lt_two_pow (n := 6) ih (Nat.pow_lt_pow_right (a := 2) (by decide) this)
    · exact ih
def costS (cs : Nat → Nat) (bits : Nat) : Nat → Nat
  | 0 => 0
  | c + 1 => if bits.testBit c then costS cs bits c + cs c else costS cs bits c
def S_price (S : St) (h d : Int32) : Int32 × St := if inr h (S.1 6 0 0) = false then ref S 1 0 else if inr d 100 = false then ref S 6 0
  else (nI (costS (S.1 6 2) (colsS (S.1 (cl h)) (seenTo (S.1 6 1) (S.1 (cl h)) (cl d) 12) (S.1 (cl h) 0 2)) 6), S)
def shnTo (hd : Nat → Nat) (V : Vt) (x : Nat) : Nat → Nat
  | 0 => 0
  | k + 1 => shnTo hd V x k ||| oBit (seenIn hd V (behindH V k x) (wet V k 0) (V 0 2))
theorem shnTo_lt {hd : Nat → Nat} {V : Vt} (hV : HI V) (x : Nat) : ∀ k, shnTo hd V x k < 256
  | 0 => by show (0 : Nat) < 256; decide
  | k + 1 => by
    have h1 := shnTo_lt (hd := hd) hV x k
    have h2 : oBit (seenIn hd V (behindH V k x) (wet V k 0) (V 0 2)) < 2 ^ 8 := oBit_lt (fun c hc => by
      have := seenIn_lt hc
      have := hi_n hV
      omega)
    exact or_lt8 h1 h2
def S_shown (S : St) (h x : Int32) : Int32 × St := if inr h (S.1 6 0 0) = false then ref S 1 0 else if inr x 100 = false then ref S 6 0
  else (nI (andN (shnTo (S.1 6 1) (S.1 (cl h)) (cl x) 12) (seenTo (S.1 6 1) (S.1 (cl h)) 0 12)), S)
/-- the first of d, d + 1, .. (so many of them) that p has -/
def fstUp (p : Nat → Bool) : Nat → Nat → Option Nat
  | 0, _ => none
  | m + 1, d => if p d then some d else fstUp p m (d + 1)
theorem fstUp_0 {p : Nat → Bool} {m i : Nat} (h : m ≤ i) : fstUp p (m - i) i = none := by rw [show m - i = 0 by omega]; rfl
theorem fstUp_t {p : Nat → Bool} {m i : Nat} (h : i < m) (hp : p i = true) : fstUp p (m - i) i = some i := by
  rw [show m - i = (m - (i + 1)) + 1 by omega, fstUp, if_pos hp]
theorem fstUp_f {p : Nat → Bool} {m i : Nat} (h : i < m) (hp : p i = false) : fstUp p (m - i) i = fstUp p (m - (i + 1)) (i + 1) := by
  rw [show m - i = (m - (i + 1)) + 1 by omega, fstUp, if_neg (by simp [hp])]
def fw (hd : Nat → Nat) (V : Vt) (c : Nat) : Nat → Bool := fun d => (seenTo hd V d 12).testBit c
def S_firstWet (S : St) (h c : Int32) : Int32 × St := if inr h (S.1 6 0 0) = false then ref S 1 10 else if inr c (S.1 (cl h) 0 2) = false then ref S 1 10
  else (oI (fstUp (fw (S.1 6 1) (S.1 (cl h)) (cl c)) 100 0), S)
/-- a place and a measure, the least so far: is it undercut -/
def under1 : Option (Nat × Nat) → Nat → Bool
  | none, _ => true
  | some p, x => decide (x < p.2)
theorem under1_n {x : Nat} : under1 none x = true := rfl
theorem under1_s {p q x : Nat} : under1 (some (p, q)) x = decide (x < q) := rfl
def oL (s : Option (Nat × Nat)) : Nat := match s with
  | none => 0
  | some p => p.2
def rz (V : Vt) (c : Nat) : Nat → Option (Nat × Nat)
  | 0 => none
  | k + 1 => if lies V c k = true then (if under1 (rz V c k) (dsum V k (c + 1) (V 0 2)) = true then some (k, dsum V k (c + 1) (V 0 2)) else rz V c k) else rz V c k
theorem rz_le {V : Vt} (hV : HI V) {c : Nat} : ∀ {k p q : Nat}, rz V c k = some (p, q) → p < k ∧ q ≤ 72
  | 0, p, q, h => by cases h
  | k + 1, p, q, h => by
    have hd := dsum_le hV k (c + 1) (V 0 2) (Nat.le_refl _)
    have hn := hi_n hV
    unfold rz at h
    split at h
    · split at h
      · cases h; omega
      · have := rz_le hV h; omega
    · have := rz_le hV h; omega
def S_razor (S : St) (h c w : Int32) : Int32 × St := if inr h (S.1 6 0 0) = false then ref S 1 10 else if inr c (S.1 (cl h) 0 2) = false then ref S 1 10 else if ¬ w = nI 0 ∧ ¬ w = nI 1 then ref S 5 10
  else (if w = nI 0 then oI ((rz (S.1 (cl h)) (cl c) 12).map Prod.fst) else oI ((rz (S.1 (cl h)) (cl c) 12).map Prod.snd), S)
def seenBy (hd : Nat → Nat) (V : Vt) (k t : Nat) : Bool := match seenAt hd V k 0 with
  | none => false
  | some c => decide (V 1 c = t)
def gpv (hd : Nat → Nat) (V : Vt) (t : Nat) : Nat → Option (Nat × Nat)
  | 0 => none
  | k + 1 => if seenBy hd V k t then gpv hd V t k else if under1 (gpv hd V t k) (depth V k) = true then some (k, depth V k) else gpv hd V t k
theorem gpv_le {hd : Nat → Nat} {V : Vt} (hV : HI V) {t : Nat} : ∀ {k p q : Nat}, gpv hd V t k = some (p, q) → p < k ∧ q ≤ 72
  | 0, p, q, h => by cases h
  | k + 1, p, q, h => by
    have hd := depth_le hV k
    unfold gpv at h
    split at h
    · have := gpv_le hV h; omega
    · split at h
      · cases h; omega
      · have := gpv_le hV h; omega
def S_gap (S : St) (h t : Int32) : Int32 × St := if inr h (S.1 6 0 0) = false then ref S 1 10 else if inr t 8 = false then ref S 1 10
  else (oI ((gpv (S.1 6 1) (S.1 (cl h)) (cl t) 12).map Prod.fst), S)
/-- the cheapest coat that w asks for, of the colours below c, and of colour c the first j thicknesses -/
def chT (hd cs : Nat → Nat) (V : Vt) (w c : Nat) (s : Option (Nat × Nat)) : Nat → Option (Nat × Nat)
  | 0 => s
  | j + 1 => if w ≤ counted V (hd c) * (j + 1) ∧ under1 (chT hd cs V w c s j) (cs c * (j + 1)) = true then some (10 * c + (j + 1), cs c * (j + 1)) else chT hd cs V w c s j
def chC (hd cs : Nat → Nat) (V : Vt) (w : Nat) : Nat → Option (Nat × Nat)
  | 0 => none
  | c + 1 => chT hd cs V w c (chC hd cs V w c) 9
theorem chT_le {hd cs : Nat → Nat} {V : Vt} {w c : Nat} {s : Option (Nat × Nat)} (h6 : c < 6) (hc : cs c ≤ 99) (hs : ∀ p q, s = some (p, q) → p ≤ 59 ∧ q ≤ 891) : ∀ {j p q : Nat}, j ≤ 9 → chT hd cs V w c s j = some (p, q) → p ≤ 59 ∧ q ≤ 891
  | 0, p, q, _, h => hs p q h
  | j + 1, p, q, hj, h => by
    unfold chT at h
    split at h
    · cases h
      have := Nat.mul_le_mul hc (show j + 1 ≤ 9 by omega)
      omega
    · exact chT_le h6 hc hs (by omega) h
theorem chC_le {hd cs : Nat → Nat} {V : Vt} {w : Nat} (hc : ∀ c, c < 6 → cs c ≤ 99) : ∀ {c p q : Nat}, c ≤ 6 → chC hd cs V w c = some (p, q) → p ≤ 59 ∧ q ≤ 891
  | 0, p, q, _, h => by cases h
  | c + 1, p, q, hj, h => chT_le (by omega) (hc c (by omega)) (fun p q h2 => chC_le hc (by omega) h2) (Nat.le_refl 9) h
def S_paint (S : St) (h g d : Int32) : Int32 × St := if inr h (S.1 6 0 0) = false then ref S 1 10 else if inr g 12 = false then ref S 6 10 else if inr d 100 = false then ref S 6 10 else if 8 ≤ S.1 (cl h) 0 2 then ref S 7 10
  else (oI ((chC (S.1 6 1) (S.1 6 2) (S.1 (cl h)) (wetTo (S.1 (cl h)) (cl g) (cl d) 12) 6).map Prod.fst), S)
theorem oI_n : oI (Option.map Prod.fst (none : Option (Nat × Nat))) = -1 := rfl
set_option maxRecDepth 100000 in
set_option maxHeartbeats 4000000 in
theorem c_X11_moves {l : Launch} {δ : Dl} {b : Nat} {μ : Mm} {S : St} (hR : RX μ S) {x : Int32} {z : Int32} : MCX l δ b yX11_moves cX11_moves 7 (some .int) 3 [.ref (b + 0), .int x, .int z] μ (pI fun r μ' => r = (S_moves S x z).1 ∧ RX μ' (S_moves S x z).2) := by
  obtain ⟨B, Bd, tb, hnow, hdr, hT⟩ := hR.2.2.1
  have W := rx_w hR
  have ta := two_ta tb
  have hB := ta.1
  have hBd := ta.2.1
  have bn := ti_n hT.1
  refine MC.intro ([some (.ref (b + 0)), some (.int x), some (.int z), none, none, none, none]) (by decide) rfl rfl fun κ Qc hl hQ X => ?_
  subst hl
  refine AW.iload_n X dX11_moves_0 (i := 1) rfl rfl ?_
  refine AW.bipushN X 8 dX11_moves_1 rfl ?_
  refine AW.callS X dX11_moves_3 lX11_91 (c_X11_outside) rfl rfl rfl rfl ⟨rfl, rfl⟩ (pR_k ?_)
  refine AW.if_eqB X (tgt := 15) dX11_moves_6 (by decide) (fun h6 => ?_) (fun h6 => ?_)
  · simp only [Bool.not_eq_true', Bool.not_eq_false'] at h6
    obtain ⟨t, ht, et⟩ := inr_of (x := x) (m := 8) (by omega) h6
    subst et
    have ct := cl_n (show t < 2147483648 by omega)
    refine AW.iload_n X dX11_moves_15 (i := 2) rfl rfl ?_
    refine AW.if_eq X (tgt := 30) dX11_moves_16 (by decide) (fun h16 => ?_) (fun h16 => ?_)
    · obtain rfl : z = nI 0 := h16
      refine AW.iconstN X 0 dX11_moves_30 rfl ?_
      refine AW.istore_n X dX11_moves_31 (i := 3) rfl rfl ?_
      refine AW.iconstN X 0 dX11_moves_32 rfl ?_
      refine AW.istore X dX11_moves_33 rfl ?_
      refine AW.iconstN X 0 dX11_moves_35 rfl ?_
      refine AW.istore X dX11_moves_36 rfl ?_
      have L38 : ∀ (m38 ix : Nat), S.1 6 0 0 - ix < m38 → ix ≤ S.1 6 0 0 → AW κ (δ, b, NX, 7, shX, False, Qc, 0, 0) NX 0 0 38 [some (.ref (b + 0)), some (.int (nI t)), some (.int (nI 0)), some (.int (nI (movB S.1 t ix))), some (.int (nI (movC S.1 t ix))), some (.int (nI ix)), none] [] μ := by
        intro m38
        induction m38 with
        | zero => intro ix hm; exact absurd hm (Nat.not_lt_zero _)
        | succ m38 ih38 =>
          intro ix hm38 hi38 
          refine AW.iload X dX11_moves_38 rfl ?_
          refine AW.aload_n X dX11_moves_40 (i := 0) rfl rfl ?_
          refine AW.getR X dX11_moves_41 fX11_81 rfl ox0 hnow ?_
          refine AW.getI X dX11_moves_44 fX11_144 rfl (ta_ob hB) (tx_n hT) ?_
          refine AW.icmp_geN X (tgt := 91) dX11_moves_47 (by decide) (by omega) (by omega) (fun h47 => ?_) (fun h47 => ?_)
          · obtain rfl : ix = S.1 6 0 0 := by omega
            have n47 := Nat.not_lt_of_le h47
            refine AW.iload_n X dX11_moves_91 (i := 2) rfl rfl ?_
            refine AW.if_neN X (tgt := 99) dX11_moves_92 (by decide) (by omega) (fun h92 => ?_) (fun h92 => ?_)
            · exact absurd h92 (by decide)
            · refine AW.iload_n X dX11_moves_95 (i := 3) rfl rfl ?_
              refine AW.goto X (tgt := 101) dX11_moves_96 (by decide) ?_
              refine AW.iret X hQ dX11_moves_101 ⟨_, rfl, ?_⟩
              refine rx_val ?_ hR
              simp [S_moves, n01, *]
          · have n47 := Nat.not_le_of_lt h47
            refine AW.aload_n X dX11_moves_50 (i := 0) rfl rfl ?_
            refine AW.getR X dX11_moves_51 fX11_81 rfl ox0 hnow ?_
            refine AW.getR X dX11_moves_54 fX11_126 rfl (ta_ob hB) (wx_fronts W hB) ?_
            refine AW.iload X dX11_moves_57 rfl ?_
            refine AW.aaload X (r := (B + 4 + 7 * ix)) dX11_moves_59 rfl rfl (ta_f hB) (n2_in (by omega) (by decide)) (by rw [n2_clamp (by omega)]; exact wx_front W hB (by omega)) ?_
            refine AW.iload_n X dX11_moves_60 (i := 1) rfl rfl ?_
            refine AW.callV X dX11_moves_61 lX11_255 cfX3 (c_X3_coatsOf W (fa_of hB (by omega)) (tx_h hT (by omega)) (by omega)) (fa_ob (fa_of hB (by omega))) rfl rfl rfl rfl ⟨rfl, rfl⟩ (pR_k ?_)
            have b1 := coatsTo_le (S.1 ix) t (S.1 ix 0 2)
            have b2 := hi_n (tx_h hT (h := ix) (by omega)).1
            refine AW.istore X dX11_moves_64 rfl ?_
            refine AW.iload X dX11_moves_66 rfl ?_
            refine AW.iload X dX11_moves_68 rfl ?_
            refine AW.iaddN X dX11_moves_70 ?_
            refine AW.istore X dX11_moves_71 rfl ?_
            refine AW.iload X dX11_moves_73 rfl ?_
            refine AW.if_leN X (tgt := 85) dX11_moves_75 (by decide) (by omega) (fun h75 => ?_) (fun h75 => ?_)
            · refine AW.iincN X (c := (ix + 1)) dX11_moves_85 rfl (inc_1 _) rfl ?_
              refine AW.goto X (tgt := 38) dX11_moves_88 (by decide) ?_
              refine AW.cgw (ih38 (ix + 1) (by omega) (by omega)) ⟨rfl, rfl, rfl, ?_, ?_, rfl, trivial⟩
              · simp [movB, movC, *]
              · simp [movB, movC, *]
            · refine AW.iload_n X dX11_moves_78 (i := 3) rfl rfl ?_
              refine AW.iconstN X 1 dX11_moves_79 rfl ?_
              refine AW.iload X dX11_moves_80 rfl ?_
              refine AW.shl1 X dX11_moves_82 (by omega) ?_
              refine AW.iorN X dX11_moves_83 ?_
              refine AW.istore_n X dX11_moves_84 (i := 3) rfl rfl ?_
              refine AW.iincN X (c := (ix + 1)) dX11_moves_85 rfl (inc_1 _) rfl ?_
              refine AW.goto X (tgt := 38) dX11_moves_88 (by decide) ?_
              refine AW.cgw (ih38 (ix + 1) (by omega) (by omega)) ⟨rfl, rfl, rfl, ?_, ?_, rfl, trivial⟩
              · simp [movB, movC, *]
              · simp [movB, movC, *]
      refine AW.cgw (L38 _ 0 (Nat.lt_succ_self _) (by omega)) ⟨rfl, rfl, rfl, ?_, ?_, rfl, trivial⟩
      · simp [movB, movC, *]
      · simp [movB, movC, *]
    · have g16 : ¬ z = nI 0 := h16
      refine AW.iload_n X dX11_moves_19 (i := 2) rfl rfl ?_
      refine AW.iconstN X 1 dX11_moves_20 rfl ?_
      refine AW.icmp_eq X (tgt := 30) dX11_moves_21 (by decide) (fun h21 => ?_) (fun h21 => ?_)
      · obtain rfl : z = nI 1 := h21
        refine AW.iconstN X 0 dX11_moves_30 rfl ?_
        refine AW.istore_n X dX11_moves_31 (i := 3) rfl rfl ?_
        refine AW.iconstN X 0 dX11_moves_32 rfl ?_
        refine AW.istore X dX11_moves_33 rfl ?_
        refine AW.iconstN X 0 dX11_moves_35 rfl ?_
        refine AW.istore X dX11_moves_36 rfl ?_
        have L38 : ∀ (m38 ix : Nat), S.1 6 0 0 - ix < m38 → ix ≤ S.1 6 0 0 → AW κ (δ, b, NX, 7, shX, False, Qc, 0, 0) NX 0 0 38 [some (.ref (b + 0)), some (.int (nI t)), some (.int (nI 1)), some (.int (nI (movB S.1 t ix))), some (.int (nI (movC S.1 t ix))), some (.int (nI ix)), none] [] μ := by
          intro m38
          induction m38 with
          | zero => intro ix hm; exact absurd hm (Nat.not_lt_zero _)
          | succ m38 ih38 =>
            intro ix hm38 hi38 
            refine AW.iload X dX11_moves_38 rfl ?_
            refine AW.aload_n X dX11_moves_40 (i := 0) rfl rfl ?_
            refine AW.getR X dX11_moves_41 fX11_81 rfl ox0 hnow ?_
            refine AW.getI X dX11_moves_44 fX11_144 rfl (ta_ob hB) (tx_n hT) ?_
            refine AW.icmp_geN X (tgt := 91) dX11_moves_47 (by decide) (by omega) (by omega) (fun h47 => ?_) (fun h47 => ?_)
            · obtain rfl : ix = S.1 6 0 0 := by omega
              have n47 := Nat.not_lt_of_le h47
              refine AW.iload_n X dX11_moves_91 (i := 2) rfl rfl ?_
              refine AW.if_neN X (tgt := 99) dX11_moves_92 (by decide) (by omega) (fun h92 => ?_) (fun h92 => ?_)
              · refine AW.iload X dX11_moves_99 rfl ?_
                refine AW.iret X hQ dX11_moves_101 ⟨_, rfl, ?_⟩
                refine rx_val ?_ hR
                simp [S_moves, n01, *]
              · exact absurd h92 (by decide)
            · have n47 := Nat.not_le_of_lt h47
              refine AW.aload_n X dX11_moves_50 (i := 0) rfl rfl ?_
              refine AW.getR X dX11_moves_51 fX11_81 rfl ox0 hnow ?_
              refine AW.getR X dX11_moves_54 fX11_126 rfl (ta_ob hB) (wx_fronts W hB) ?_
              refine AW.iload X dX11_moves_57 rfl ?_
              refine AW.aaload X (r := (B + 4 + 7 * ix)) dX11_moves_59 rfl rfl (ta_f hB) (n2_in (by omega) (by decide)) (by rw [n2_clamp (by omega)]; exact wx_front W hB (by omega)) ?_
              refine AW.iload_n X dX11_moves_60 (i := 1) rfl rfl ?_
              refine AW.callV X dX11_moves_61 lX11_255 cfX3 (c_X3_coatsOf W (fa_of hB (by omega)) (tx_h hT (by omega)) (by omega)) (fa_ob (fa_of hB (by omega))) rfl rfl rfl rfl ⟨rfl, rfl⟩ (pR_k ?_)
              have b1 := coatsTo_le (S.1 ix) t (S.1 ix 0 2)
              have b2 := hi_n (tx_h hT (h := ix) (by omega)).1
              refine AW.istore X dX11_moves_64 rfl ?_
              refine AW.iload X dX11_moves_66 rfl ?_
              refine AW.iload X dX11_moves_68 rfl ?_
              refine AW.iaddN X dX11_moves_70 ?_
              refine AW.istore X dX11_moves_71 rfl ?_
              refine AW.iload X dX11_moves_73 rfl ?_
              refine AW.if_leN X (tgt := 85) dX11_moves_75 (by decide) (by omega) (fun h75 => ?_) (fun h75 => ?_)
              · refine AW.iincN X (c := (ix + 1)) dX11_moves_85 rfl (inc_1 _) rfl ?_
                refine AW.goto X (tgt := 38) dX11_moves_88 (by decide) ?_
                refine AW.cgw (ih38 (ix + 1) (by omega) (by omega)) ⟨rfl, rfl, rfl, ?_, ?_, rfl, trivial⟩
                · simp [movB, movC, *]
                · simp [movB, movC, *]
              · refine AW.iload_n X dX11_moves_78 (i := 3) rfl rfl ?_
                refine AW.iconstN X 1 dX11_moves_79 rfl ?_
                refine AW.iload X dX11_moves_80 rfl ?_
                refine AW.shl1 X dX11_moves_82 (by omega) ?_
                refine AW.iorN X dX11_moves_83 ?_
                refine AW.istore_n X dX11_moves_84 (i := 3) rfl rfl ?_
                refine AW.iincN X (c := (ix + 1)) dX11_moves_85 rfl (inc_1 _) rfl ?_
                refine AW.goto X (tgt := 38) dX11_moves_88 (by decide) ?_
                refine AW.cgw (ih38 (ix + 1) (by omega) (by omega)) ⟨rfl, rfl, rfl, ?_, ?_, rfl, trivial⟩
                · simp [movB, movC, *]
                · simp [movB, movC, *]
        refine AW.cgw (L38 _ 0 (Nat.lt_succ_self _) (by omega)) ⟨rfl, rfl, rfl, ?_, ?_, rfl, trivial⟩
        · simp [movB, movC, *]
        · simp [movB, movC, *]
      · refine AW.aload_n X dX11_moves_24 (i := 0) rfl rfl ?_
        refine AW.iconstN X 5 dX11_moves_25 rfl ?_
        refine AW.callV X dX11_moves_26 lX11_95 cfX11 (c_X11_refuse (k := 5) hR (by first | decide | omega)) ox0 rfl rfl rfl rfl ⟨rfl, rfl⟩ (pI_k fun r μ1 hr => ?_)
        refine AW.iret X hQ dX11_moves_29 ⟨_, rfl, ?_⟩
        refine rx_of ?_ hr
        simp [S_moves, n01, *]
  · simp only [Bool.not_eq_true', Bool.not_eq_false'] at h6
    refine AW.aload_n X dX11_moves_9 (i := 0) rfl rfl ?_
    refine AW.iconstN X 1 dX11_moves_10 rfl ?_
    refine AW.callV X dX11_moves_11 lX11_95 cfX11 (c_X11_refuse (k := 1) hR (by first | decide | omega)) ox0 rfl rfl rfl rfl ⟨rfl, rfl⟩ (pI_k fun r μ1 hr => ?_)
    refine AW.iret X hQ dX11_moves_14 ⟨_, rfl, ?_⟩
    refine rx_of ?_ hr
    simp [S_moves, n01, *]
set_option maxRecDepth 100000 in
set_option maxHeartbeats 4000000 in
theorem c_X11_price {l : Launch} {δ : Dl} {b : Nat} {μ : Mm} {S : St} (hR : RX μ S) {x : Int32} {y : Int32} : MCX l δ b yX11_price cX11_price 8 (some .int) 6 [.ref (b + 0), .int x, .int y] μ (pI fun r μ' => r = (S_price S x y).1 ∧ RX μ' (S_price S x y).2) := by
  obtain ⟨B, Bd, tb, hnow, hdr, hT⟩ := hR.2.2.1
  have W := rx_w hR
  have ta := two_ta tb
  have hB := ta.1
  have hBd := ta.2.1
  have bn := ti_n hT.1
  refine MC.intro ([some (.ref (b + 0)), some (.int x), some (.int y), none, none, none, none, none]) (by decide) rfl rfl fun κ Qc hl hQ X => ?_
  subst hl
  refine AW.aload_n X dX11_price_0 (i := 0) rfl rfl ?_
  refine AW.iload_n X dX11_price_1 (i := 1) rfl rfl ?_
  refine AW.callV X dX11_price_2 lX11_123 cfX11 (c_X11_noHouse hR) ox0 rfl rfl rfl rfl ⟨rfl, rfl⟩ (pR_k ?_)
  refine AW.if_eqB X (tgt := 14) dX11_price_5 (by decide) (fun h5 => ?_) (fun h5 => ?_)
  · simp only [Bool.not_eq_true', Bool.not_eq_false'] at h5
    obtain ⟨h, hh, eh⟩ := inr_of (x := x) (m := (S.1 6 0 0)) (by omega) h5
    subst eh
    have ch := cl_n (show h < 2147483648 by omega)
    have hVh := tx_h hT hh
    have bnh := hi_n hVh.1
    refine AW.iload_n X dX11_price_14 (i := 2) rfl rfl ?_
    refine AW.bipushN X 100 dX11_price_15 rfl ?_
    refine AW.callS X dX11_price_17 lX11_91 (c_X11_outside) rfl rfl rfl rfl ⟨rfl, rfl⟩ (pR_k ?_)
    refine AW.if_eqB X (tgt := 30) dX11_price_20 (by decide) (fun h20 => ?_) (fun h20 => ?_)
    · simp only [Bool.not_eq_true', Bool.not_eq_false'] at h20
      obtain ⟨d, hd, ed⟩ := inr_of (x := y) (m := 100) (by omega) h20
      subst ed
      have cd := cl_n (show d < 2147483648 by omega)
      refine AW.aload_n X dX11_price_30 (i := 0) rfl rfl ?_
      refine AW.getR X dX11_price_31 fX11_81 rfl ox0 hnow ?_
      refine AW.getR X dX11_price_34 fX11_126 rfl (ta_ob hB) (wx_fronts W hB) ?_
      refine AW.iload_n X dX11_price_37 (i := 1) rfl rfl ?_
      refine AW.aaload X (r := (B + 4 + 7 * h)) dX11_price_38 rfl rfl (ta_f hB) (n2_in (by omega) (by decide)) (by rw [n2_clamp (by omega)]; exact wx_front W hB (by omega)) ?_
      refine AW.astore_n X dX11_price_39 (i := 3) rfl rfl ?_
      refine AW.aload_n X dX11_price_40 (i := 0) rfl rfl ?_
      refine AW.getR X dX11_price_41 fX11_81 rfl ox0 hnow ?_
      refine AW.aload_n X dX11_price_44 (i := 3) rfl rfl ?_
      refine AW.iload_n X dX11_price_45 (i := 2) rfl rfl ?_
      refine AW.callV X dX11_price_46 lX11_246 cfX9 (c_X9_seenSomewhere W hB hT (fa_of hB (by omega)) (tx_h hT (by omega)) (by omega)) (ta_ob hB) rfl rfl rfl rfl ⟨rfl, rfl⟩ (pR_k ?_)
      refine AW.istore X dX11_price_49 rfl ?_
      have bs := seenTo_lt (hd := S.1 6 1) hVh.1 d 12
      refine AW.iconstN X 0 dX11_price_51 rfl ?_
      refine AW.istore X dX11_price_52 rfl ?_
      refine AW.iconstN X 0 dX11_price_54 rfl ?_
      refine AW.istore X dX11_price_55 rfl ?_
      have L57 : ∀ (m57 ix : Nat), S.1 h 0 2 - ix < m57 → ix ≤ S.1 h 0 2 → AW κ (δ, b, NX, 8, shX, False, Qc, 0, 0) NX 0 0 57 [some (.ref (b + 0)), some (.int (nI h)), some (.int (nI d)), some (.ref (b + (B + 4 + 7 * h))), some (.int (nI (seenTo (S.1 6 1) (S.1 h) d 12))), some (.int (nI (colsS (S.1 h) (seenTo (S.1 6 1) (S.1 h) d 12) ix))), some (.int (nI ix)), none] [] μ := by
        intro m57
        induction m57 with
        | zero => intro ix hm; exact absurd hm (Nat.not_lt_zero _)
        | succ m57 ih57 =>
          intro ix hm57 hi57 
          refine AW.iload X dX11_price_57 rfl ?_
          refine AW.aload_n X dX11_price_59 (i := 3) rfl rfl ?_
          refine AW.getI X dX11_price_60 fX11_157 rfl (fa_ob (fa_of hB (by omega))) (hv_n (tx_h hT (by omega))) ?_
          refine AW.icmp_geN X (tgt := 96) dX11_price_63 (by decide) (by omega) (by omega) (fun h63 => ?_) (fun h63 => ?_)
          · obtain rfl : ix = S.1 h 0 2 := by omega
            have bc := colsS_lt hVh.1 (seenTo (S.1 6 1) (S.1 h) d 12) (S.1 h 0 2) (Nat.le_refl _)
            have n63 := Nat.not_lt_of_le h63
            refine AW.iconstN X 0 dX11_price_96 rfl ?_
            refine AW.istore X dX11_price_97 rfl ?_
            refine AW.iconstN X 0 dX11_price_99 rfl ?_
            refine AW.istore X dX11_price_100 rfl ?_
            have L102 : ∀ (m102 jx : Nat), 6 - jx < m102 → jx ≤ 6 → AW κ (δ, b, NX, 8, shX, False, Qc, 0, 0) NX 0 0 102 [some (.ref (b + 0)), some (.int (nI h)), some (.int (nI d)), some (.ref (b + (B + 4 + 7 * h))), some (.int (nI (seenTo (S.1 6 1) (S.1 h) d 12))), some (.int (nI (colsS (S.1 h) (seenTo (S.1 6 1) (S.1 h) d 12) (S.1 h 0 2)))), some (.int (nI (costS (S.1 6 2) (colsS (S.1 h) (seenTo (S.1 6 1) (S.1 h) d 12) (S.1 h 0 2)) jx))), some (.int (nI jx))] [] μ := by
              intro m102
              induction m102 with
              | zero => intro jx hm; exact absurd hm (Nat.not_lt_zero _)
              | succ m102 ih102 =>
                intro jx hm102 hi102 
                refine AW.iload X dX11_price_102 rfl ?_
                refine AW.bipushN X 6 dX11_price_104 rfl ?_
                refine AW.icmp_geN X (tgt := 140) dX11_price_106 (by decide) (by omega) (by omega) (fun h106 => ?_) (fun h106 => ?_)
                · obtain rfl : jx = 6 := by omega
                  have n106 := Nat.not_lt_of_le h106
                  refine AW.iload X dX11_price_140 rfl ?_
                  refine AW.iret X hQ dX11_price_142 ⟨_, rfl, ?_⟩
                  refine rx_val ?_ hR
                  simp [S_price, *]
                · have n106 := Nat.not_le_of_lt h106
                  refine AW.iload X dX11_price_109 rfl ?_
                  refine AW.iload X dX11_price_111 rfl ?_
                  refine AW.hasN X dX11_price_113 dX11_price_114 dX11_price_115 (by omega) (by omega) ?_
                  refine AW.if_eqB X (tgt := 134) dX11_price_116 (by decide) (fun h116 => ?_) (fun h116 => ?_)
                  · refine AW.iincN X (c := (jx + 1)) dX11_price_134 rfl (inc_1 _) rfl ?_
                    refine AW.goto X (tgt := 102) dX11_price_137 (by decide) ?_
                    refine AW.cgw (ih102 (jx + 1) (by omega) (by omega)) ⟨rfl, rfl, rfl, rfl, rfl, rfl, ?_, rfl, trivial⟩
                    · simp [costS, *]
                  · refine AW.iload X dX11_price_119 rfl ?_
                    refine AW.aload_n X dX11_price_121 (i := 0) rfl rfl ?_
                    refine AW.getR X dX11_price_122 fX11_81 rfl ox0 hnow ?_
                    refine AW.getR X dX11_price_125 fX11_170 rfl (ta_ob hB) (wx_costs W hB) ?_
                    refine AW.iload X dX11_price_128 rfl ?_
                    refine AW.iaload X dX11_price_130 (ta_c hB) (n2_in (by omega) (by decide)) (v := (nI (S.1 6 2 jx))) (by rw [n2_clamp (by omega)]; exact tx_cos hT (by omega)) ?_
                    refine AW.iaddN X dX11_price_131 ?_
                    refine AW.istore X dX11_price_132 rfl ?_
                    refine AW.iincN X (c := (jx + 1)) dX11_price_134 rfl (inc_1 _) rfl ?_
                    refine AW.goto X (tgt := 102) dX11_price_137 (by decide) ?_
                    refine AW.cgw (ih102 (jx + 1) (by omega) (by omega)) ⟨rfl, rfl, rfl, rfl, rfl, rfl, ?_, rfl, trivial⟩
                    · simp [costS, *]
            refine AW.cgw (L102 _ 0 (Nat.lt_succ_self _) (by omega)) ⟨rfl, rfl, rfl, rfl, rfl, rfl, ?_, rfl, trivial⟩
            · simp [costS, *]
          · have n63 := Nat.not_le_of_lt h63
            refine AW.iload X dX11_price_66 rfl ?_
            refine AW.iload X dX11_price_68 rfl ?_
            refine AW.hasN X dX11_price_70 dX11_price_71 dX11_price_72 (by omega) (by omega) ?_
            refine AW.if_eqB X (tgt := 90) dX11_price_73 (by decide) (fun h73 => ?_) (fun h73 => ?_)
            · refine AW.iincN X (c := (ix + 1)) dX11_price_90 rfl (inc_1 _) rfl ?_
              refine AW.goto X (tgt := 57) dX11_price_93 (by decide) ?_
              refine AW.cgw (ih57 (ix + 1) (by omega) (by omega)) ⟨rfl, rfl, rfl, rfl, rfl, ?_, rfl, trivial⟩
              · simp [colsS, *]
            · have bq := hi_col hVh.1 (c := ix) (by omega)
              refine AW.iload X dX11_price_76 rfl ?_
              refine AW.iconstN X 1 dX11_price_78 rfl ?_
              refine AW.aload_n X dX11_price_79 (i := 3) rfl rfl ?_
              refine AW.getR X dX11_price_80 fX11_192 rfl (fa_ob (fa_of hB (by omega))) (wx_colour W (fa_of hB (by omega))) ?_
              refine AW.iload X dX11_price_83 rfl ?_
              refine AW.iaload X dX11_price_85 (fa_2 (fa_of hB (by omega))) (n2_in (by omega) (by decide)) (v := (nI ((S.1 h) 2 ix))) (by rw [n2_clamp (by omega)]; exact hv_2 (tx_h hT (by omega)) (by omega)) ?_
              refine AW.shl1 X dX11_price_86 (by omega) ?_
              refine AW.iorN X dX11_price_87 ?_
              refine AW.istore X dX11_price_88 rfl ?_
              refine AW.iincN X (c := (ix + 1)) dX11_price_90 rfl (inc_1 _) rfl ?_
              refine AW.goto X (tgt := 57) dX11_price_93 (by decide) ?_
              refine AW.cgw (ih57 (ix + 1) (by omega) (by omega)) ⟨rfl, rfl, rfl, rfl, rfl, ?_, rfl, trivial⟩
              · simp [colsS, *]
      refine AW.cgw (L57 _ 0 (Nat.lt_succ_self _) (by omega)) ⟨rfl, rfl, rfl, rfl, rfl, ?_, rfl, trivial⟩
      · simp [colsS, *]
    · simp only [Bool.not_eq_true', Bool.not_eq_false'] at h20
      refine AW.aload_n X dX11_price_23 (i := 0) rfl rfl ?_
      refine AW.bipushN X 6 dX11_price_24 rfl ?_
      refine AW.callV X dX11_price_26 lX11_95 cfX11 (c_X11_refuse (k := 6) hR (by first | decide | omega)) ox0 rfl rfl rfl rfl ⟨rfl, rfl⟩ (pI_k fun r μ1 hr => ?_)
      refine AW.iret X hQ dX11_price_29 ⟨_, rfl, ?_⟩
      refine rx_of ?_ hr
      simp [S_price, *]
  · simp only [Bool.not_eq_true', Bool.not_eq_false'] at h5
    refine AW.aload_n X dX11_price_8 (i := 0) rfl rfl ?_
    refine AW.iconstN X 1 dX11_price_9 rfl ?_
    refine AW.callV X dX11_price_10 lX11_95 cfX11 (c_X11_refuse (k := 1) hR (by first | decide | omega)) ox0 rfl rfl rfl rfl ⟨rfl, rfl⟩ (pI_k fun r μ1 hr => ?_)
    refine AW.iret X hQ dX11_price_13 ⟨_, rfl, ?_⟩
    refine rx_of ?_ hr
    simp [S_price, *]
set_option maxRecDepth 100000 in
set_option maxHeartbeats 4000000 in
theorem c_X11_shown {l : Launch} {δ : Dl} {b : Nat} {μ : Mm} {S : St} (hR : RX μ S) {u : Int32} {v : Int32} : MCX l δ b yX11_shown cX11_shown 7 (some .int) 6 [.ref (b + 0), .int u, .int v] μ (pI fun r μ' => r = (S_shown S u v).1 ∧ RX μ' (S_shown S u v).2) := by
  obtain ⟨B, Bd, tb, hnow, hdr, hT⟩ := hR.2.2.1
  have W := rx_w hR
  have ta := two_ta tb
  have hB := ta.1
  have hBd := ta.2.1
  have bn := ti_n hT.1
  refine MC.intro ([some (.ref (b + 0)), some (.int u), some (.int v), none, none, none, none]) (by decide) rfl rfl fun κ Qc hl hQ X => ?_
  subst hl
  refine AW.aload_n X dX11_shown_0 (i := 0) rfl rfl ?_
  refine AW.iload_n X dX11_shown_1 (i := 1) rfl rfl ?_
  refine AW.callV X dX11_shown_2 lX11_123 cfX11 (c_X11_noHouse hR) ox0 rfl rfl rfl rfl ⟨rfl, rfl⟩ (pR_k ?_)
  refine AW.if_eqB X (tgt := 14) dX11_shown_5 (by decide) (fun h5 => ?_) (fun h5 => ?_)
  · simp only [Bool.not_eq_true', Bool.not_eq_false'] at h5
    obtain ⟨h, hh, eh⟩ := inr_of (x := u) (m := (S.1 6 0 0)) (by omega) h5
    subst eh
    have ch := cl_n (show h < 2147483648 by omega)
    have hVh := tx_h hT hh
    have bnh := hi_n hVh.1
    refine AW.iload_n X dX11_shown_14 (i := 2) rfl rfl ?_
    refine AW.bipushN X 100 dX11_shown_15 rfl ?_
    refine AW.callS X dX11_shown_17 lX11_91 (c_X11_outside) rfl rfl rfl rfl ⟨rfl, rfl⟩ (pR_k ?_)
    refine AW.if_eqB X (tgt := 30) dX11_shown_20 (by decide) (fun h20 => ?_) (fun h20 => ?_)
    · simp only [Bool.not_eq_true', Bool.not_eq_false'] at h20
      obtain ⟨x, hx, ex⟩ := inr_of (x := v) (m := 100) (by omega) h20
      subst ex
      have cx := cl_n (show x < 2147483648 by omega)
      refine AW.aload_n X dX11_shown_30 (i := 0) rfl rfl ?_
      refine AW.getR X dX11_shown_31 fX11_81 rfl ox0 hnow ?_
      refine AW.getR X dX11_shown_34 fX11_126 rfl (ta_ob hB) (wx_fronts W hB) ?_
      refine AW.iload_n X dX11_shown_37 (i := 1) rfl rfl ?_
      refine AW.aaload X (r := (B + 4 + 7 * h)) dX11_shown_38 rfl rfl (ta_f hB) (n2_in (by omega) (by decide)) (by rw [n2_clamp (by omega)]; exact wx_front W hB (by omega)) ?_
      refine AW.astore_n X dX11_shown_39 (i := 3) rfl rfl ?_
      refine AW.iconstN X 0 dX11_shown_40 rfl ?_
      refine AW.istore X dX11_shown_41 rfl ?_
      refine AW.iconstN X 0 dX11_shown_43 rfl ?_
      refine AW.istore X dX11_shown_44 rfl ?_
      have L46 : ∀ (m46 ix : Nat), 12 - ix < m46 → ix ≤ 12 → AW κ (δ, b, NX, 7, shX, False, Qc, 0, 0) NX 0 0 46 [some (.ref (b + 0)), some (.int (nI h)), some (.int (nI x)), some (.ref (b + (B + 4 + 7 * h))), some (.int (nI (shnTo (S.1 6 1) (S.1 h) x ix))), some (.int (nI ix)), none] [] μ := by
        intro m46
        induction m46 with
        | zero => intro ix hm; exact absurd hm (Nat.not_lt_zero _)
        | succ m46 ih46 =>
          intro ix hm46 hi46 
          refine AW.iload X dX11_shown_46 rfl ?_
          refine AW.bipushN X 12 dX11_shown_48 rfl ?_
          refine AW.icmp_geN X (tgt := 94) dX11_shown_50 (by decide) (by omega) (by omega) (fun h50 => ?_) (fun h50 => ?_)
          · obtain rfl : ix = 12 := by omega
            have n50 := Nat.not_lt_of_le h50
            refine AW.iload X dX11_shown_94 rfl ?_
            refine AW.aload_n X dX11_shown_96 (i := 0) rfl rfl ?_
            refine AW.getR X dX11_shown_97 fX11_81 rfl ox0 hnow ?_
            refine AW.aload_n X dX11_shown_100 (i := 3) rfl rfl ?_
            refine AW.iconstN X 0 dX11_shown_101 rfl ?_
            refine AW.callV X dX11_shown_102 lX11_246 cfX9 (c_X9_seenSomewhere W hB hT (fa_of hB (by omega)) (tx_h hT (by omega)) (by omega)) (ta_ob hB) rfl rfl rfl rfl ⟨rfl, rfl⟩ (pR_k ?_)
            refine AW.andNotN X dX11_shown_105 dX11_shown_106 dX11_shown_107 ?_
            refine AW.iret X hQ dX11_shown_108 ⟨_, rfl, ?_⟩
            refine rx_val ?_ hR
            simp [S_shown, *]
          · have n50 := Nat.not_le_of_lt h50
            refine AW.aload_n X dX11_shown_53 (i := 0) rfl rfl ?_
            refine AW.getR X dX11_shown_54 fX11_81 rfl ox0 hnow ?_
            refine AW.aload_n X dX11_shown_57 (i := 3) rfl rfl ?_
            refine AW.aload_n X dX11_shown_58 (i := 3) rfl rfl ?_
            refine AW.iload X dX11_shown_59 rfl ?_
            refine AW.iload_n X dX11_shown_61 (i := 2) rfl rfl ?_
            refine AW.callV X dX11_shown_62 lX11_237 cfX3 (c_X3_behindHail W (fa_of hB (by omega)) (tx_h hT (by omega)) (by omega) (by omega)) (fa_ob (fa_of hB (by omega))) rfl rfl rfl rfl ⟨rfl, rfl⟩ (pR_k ?_)
            refine AW.iload X dX11_shown_65 rfl ?_
            refine AW.iconstN X 0 dX11_shown_67 rfl ?_
            refine AW.callV X dX11_shown_68 lX11_227 cfX9 (c_X9_seenAmong W hB hT (fa_of hB (by omega)) hVh (behindH_lt hVh.1 ix x) (by omega) (by omega)) (ta_ob hB) rfl rfl rfl rfl ⟨rfl, rfl⟩ (pR_k ?_)
            rcases hx68 : seenIn (S.1 6 1) (S.1 h) (behindH (S.1 h) ix x) (wet (S.1 h) ix 0) (S.1 h 0 2) with _ | c
            · show AW κ _ _ _ _ _ _ (.int (-1) :: _) _
              refine AW.istore X dX11_shown_71 rfl ?_
              refine AW.iload X dX11_shown_73 rfl ?_
              refine AW.iconst X (v := -1) dX11_shown_75 rfl ?_
              refine AW.icmp_eq X (tgt := 88) dX11_shown_76 (by decide) (fun h76 => ?_) (fun h76 => ?_)
              · refine AW.iincN X (c := (ix + 1)) dX11_shown_88 rfl (inc_1 _) rfl ?_
                refine AW.goto X (tgt := 46) dX11_shown_91 (by decide) ?_
                refine AW.cgw (ih46 (ix + 1) (by omega) (by omega)) ⟨rfl, rfl, rfl, rfl, ?_, rfl, trivial⟩
                · simp [shnTo, hx68, oBit]
              · exact absurd rfl h76
            · show AW κ _ _ _ _ _ _ (.int (nI c) :: _) _
              have b4 := seenIn_lt hx68
              refine AW.istore X dX11_shown_71 rfl ?_
              refine AW.iload X dX11_shown_73 rfl ?_
              refine AW.iconst X (v := -1) dX11_shown_75 rfl ?_
              refine AW.icmp_eq X (tgt := 88) dX11_shown_76 (by decide) (fun h76 => ?_) (fun h76 => ?_)
              · exact absurd h76 (nI_m1 (by omega))
              · refine AW.iload X dX11_shown_79 rfl ?_
                refine AW.iconstN X 1 dX11_shown_81 rfl ?_
                refine AW.iload X dX11_shown_82 rfl ?_
                refine AW.shl1 X dX11_shown_84 (by omega) ?_
                refine AW.iorN X dX11_shown_85 ?_
                refine AW.istore X dX11_shown_86 rfl ?_
                refine AW.iincN X (c := (ix + 1)) dX11_shown_88 rfl (inc_1 _) rfl ?_
                refine AW.goto X (tgt := 46) dX11_shown_91 (by decide) ?_
                refine AW.cgw (ih46 (ix + 1) (by omega) (by omega)) ⟨rfl, rfl, rfl, rfl, ?_, rfl, trivial⟩
                · simp [shnTo, hx68, oBit]
      refine AW.cgw (L46 _ 0 (Nat.lt_succ_self _) (by omega)) ⟨rfl, rfl, rfl, rfl, ?_, rfl, trivial⟩
      · simp [shnTo]
    · simp only [Bool.not_eq_true', Bool.not_eq_false'] at h20
      refine AW.aload_n X dX11_shown_23 (i := 0) rfl rfl ?_
      refine AW.bipushN X 6 dX11_shown_24 rfl ?_
      refine AW.callV X dX11_shown_26 lX11_95 cfX11 (c_X11_refuse (k := 6) hR (by first | decide | omega)) ox0 rfl rfl rfl rfl ⟨rfl, rfl⟩ (pI_k fun r μ1 hr => ?_)
      refine AW.iret X hQ dX11_shown_29 ⟨_, rfl, ?_⟩
      refine rx_of ?_ hr
      simp [S_shown, *]
  · simp only [Bool.not_eq_true', Bool.not_eq_false'] at h5
    refine AW.aload_n X dX11_shown_8 (i := 0) rfl rfl ?_
    refine AW.iconstN X 1 dX11_shown_9 rfl ?_
    refine AW.callV X dX11_shown_10 lX11_95 cfX11 (c_X11_refuse (k := 1) hR (by first | decide | omega)) ox0 rfl rfl rfl rfl ⟨rfl, rfl⟩ (pI_k fun r μ1 hr => ?_)
    refine AW.iret X hQ dX11_shown_13 ⟨_, rfl, ?_⟩
    refine rx_of ?_ hr
    simp [S_shown, *]
set_option maxRecDepth 100000 in
set_option maxHeartbeats 4000000 in
theorem c_X11_firstWet {l : Launch} {δ : Dl} {b : Nat} {μ : Mm} {S : St} (hR : RX μ S) {x : Int32} {y : Int32} : MCX l δ b yX11_firstWet cX11_firstWet 5 (some .int) 6 [.ref (b + 0), .int x, .int y] μ (pI fun r μ' => r = (S_firstWet S x y).1 ∧ RX μ' (S_firstWet S x y).2) := by
  obtain ⟨B, Bd, tb, hnow, hdr, hT⟩ := hR.2.2.1
  have W := rx_w hR
  have ta := two_ta tb
  have hB := ta.1
  have hBd := ta.2.1
  have bn := ti_n hT.1
  refine MC.intro ([some (.ref (b + 0)), some (.int x), some (.int y), none, none]) (by decide) rfl rfl fun κ Qc hl hQ X => ?_
  subst hl
  refine AW.aload_n X dX11_firstWet_0 (i := 0) rfl rfl ?_
  refine AW.iload_n X dX11_firstWet_1 (i := 1) rfl rfl ?_
  refine AW.callV X dX11_firstWet_2 lX11_123 cfX11 (c_X11_noHouse hR) ox0 rfl rfl rfl rfl ⟨rfl, rfl⟩ (pR_k ?_)
  refine AW.if_neB X (tgt := 17) dX11_firstWet_5 (by decide) (fun h5 => ?_) (fun h5 => ?_)
  · simp only [Bool.not_eq_true', Bool.not_eq_false'] at h5
    refine AW.aload_n X dX11_firstWet_17 (i := 0) rfl rfl ?_
    refine AW.iconstN X 1 dX11_firstWet_18 rfl ?_
    refine AW.bipushN X 10 dX11_firstWet_19 rfl ?_
    refine AW.callV X dX11_firstWet_21 lX11_221 cfX11 (c_X11_refuseDown (k := 1) (down := 10) hR (by decide)) ox0 rfl rfl rfl rfl ⟨rfl, rfl⟩ (pI_k fun r μ1 hr => ?_)
    refine AW.iret X hQ dX11_firstWet_24 ⟨_, rfl, ?_⟩
    refine rx_of ?_ hr
    simp [S_firstWet, oI, *]
  · simp only [Bool.not_eq_true', Bool.not_eq_false'] at h5
    obtain ⟨h, hh, eh⟩ := inr_of (x := x) (m := (S.1 6 0 0)) (by omega) h5
    subst eh
    have ch := cl_n (show h < 2147483648 by omega)
    have hVh := tx_h hT hh
    have bnh := hi_n hVh.1
    refine AW.aload_n X dX11_firstWet_8 (i := 0) rfl rfl ?_
    refine AW.iload_n X dX11_firstWet_9 (i := 1) rfl rfl ?_
    refine AW.iload_n X dX11_firstWet_10 (i := 2) rfl rfl ?_
    refine AW.callV X dX11_firstWet_11 lX11_186 cfX11 (c_X11_noCoat hR (by omega)) ox0 rfl rfl rfl rfl ⟨rfl, rfl⟩ (pR_k ?_)
    refine AW.if_eqB X (tgt := 25) dX11_firstWet_14 (by decide) (fun h14 => ?_) (fun h14 => ?_)
    · simp only [Bool.not_eq_true', Bool.not_eq_false'] at h14
      obtain ⟨c, hc, ec⟩ := inr_of (x := y) (m := (S.1 h 0 2)) (by omega) h14
      subst ec
      have cc := cl_n (show c < 2147483648 by omega)
      refine AW.aload_n X dX11_firstWet_25 (i := 0) rfl rfl ?_
      refine AW.getR X dX11_firstWet_26 fX11_81 rfl ox0 hnow ?_
      refine AW.getR X dX11_firstWet_29 fX11_126 rfl (ta_ob hB) (wx_fronts W hB) ?_
      refine AW.iload_n X dX11_firstWet_32 (i := 1) rfl rfl ?_
      refine AW.aaload X (r := (B + 4 + 7 * h)) dX11_firstWet_33 rfl rfl (ta_f hB) (n2_in (by omega) (by decide)) (by rw [n2_clamp (by omega)]; exact wx_front W hB (by omega)) ?_
      refine AW.astore_n X dX11_firstWet_34 (i := 3) rfl rfl ?_
      refine AW.iconstN X 0 dX11_firstWet_35 rfl ?_
      refine AW.istore X dX11_firstWet_36 rfl ?_
      have L38 : ∀ (m38 ix : Nat), 100 - ix < m38 → ix ≤ 100 → (fstUp (fw (S.1 6 1) (S.1 h) c) 100 0 = fstUp (fw (S.1 6 1) (S.1 h) c) (100 - ix) ix) → AW κ (δ, b, NX, 5, shX, False, Qc, 0, 0) NX 0 0 38 [some (.ref (b + 0)), some (.int (nI h)), some (.int (nI c)), some (.ref (b + (B + 4 + 7 * h))), some (.int (nI ix))] [] μ := by
        intro m38
        induction m38 with
        | zero => intro ix hm; exact absurd hm (Nat.not_lt_zero _)
        | succ m38 ih38 =>
          intro ix hm38 hi38 hr9
          refine AW.iload X dX11_firstWet_38 rfl ?_
          refine AW.bipushN X 100 dX11_firstWet_40 rfl ?_
          refine AW.icmp_geN X (tgt := 71) dX11_firstWet_42 (by decide) (by omega) (by omega) (fun h42 => ?_) (fun h42 => ?_)
          · obtain rfl : ix = 100 := by omega
            rw [fstUp_0 (by omega)] at hr9
            have n42 := Nat.not_lt_of_le h42
            refine AW.iconst X (v := -1) dX11_firstWet_71 rfl ?_
            refine AW.iret X hQ dX11_firstWet_72 ⟨_, rfl, ?_⟩
            refine rx_val ?_ hR
            simp [S_firstWet, oI, *]
          · have n42 := Nat.not_le_of_lt h42
            refine AW.aload_n X dX11_firstWet_45 (i := 0) rfl rfl ?_
            refine AW.getR X dX11_firstWet_46 fX11_81 rfl ox0 hnow ?_
            refine AW.aload_n X dX11_firstWet_49 (i := 3) rfl rfl ?_
            refine AW.iload X dX11_firstWet_50 rfl ?_
            have bs := seenTo_lt (hd := S.1 6 1) hVh.1 ix 12
            refine AW.callV X dX11_firstWet_52 lX11_246 cfX9 (c_X9_seenSomewhere W hB hT (fa_of hB (by omega)) (tx_h hT (by omega)) (by omega)) (ta_ob hB) rfl rfl rfl rfl ⟨rfl, rfl⟩ (pR_k ?_)
            refine AW.iload_n X dX11_firstWet_55 (i := 2) rfl rfl ?_
            refine AW.hasN X dX11_firstWet_56 dX11_firstWet_57 dX11_firstWet_58 (by omega) (by omega) ?_
            refine AW.if_eqB X (tgt := 65) dX11_firstWet_59 (by decide) (fun h59 => ?_) (fun h59 => ?_)
            · rw [fstUp_f (by omega) (show fw (S.1 6 1) (S.1 h) c ix = false from h59)] at hr9
              refine AW.iincN X (c := (ix + 1)) dX11_firstWet_65 rfl (inc_1 _) rfl ?_
              refine AW.goto X (tgt := 38) dX11_firstWet_68 (by decide) ?_
              refine AW.cgw (ih38 (ix + 1) (by omega) (by omega) hr9) ⟨rfl, rfl, rfl, rfl, rfl, trivial⟩
            · rw [fstUp_t (by omega) (show fw (S.1 6 1) (S.1 h) c ix = true from h59)] at hr9
              refine AW.iload X dX11_firstWet_62 rfl ?_
              refine AW.iret X hQ dX11_firstWet_64 ⟨_, rfl, ?_⟩
              refine rx_val ?_ hR
              simp [S_firstWet, oI, *]
      refine AW.cgw (L38 _ 0 (Nat.lt_succ_self _) (by omega) rfl) ⟨rfl, rfl, rfl, rfl, rfl, trivial⟩
    · simp only [Bool.not_eq_true', Bool.not_eq_false'] at h14
      refine AW.aload_n X dX11_firstWet_17 (i := 0) rfl rfl ?_
      refine AW.iconstN X 1 dX11_firstWet_18 rfl ?_
      refine AW.bipushN X 10 dX11_firstWet_19 rfl ?_
      refine AW.callV X dX11_firstWet_21 lX11_221 cfX11 (c_X11_refuseDown (k := 1) (down := 10) hR (by decide)) ox0 rfl rfl rfl rfl ⟨rfl, rfl⟩ (pI_k fun r μ1 hr => ?_)
      refine AW.iret X hQ dX11_firstWet_24 ⟨_, rfl, ?_⟩
      refine rx_of ?_ hr
      simp [S_firstWet, oI, *]
set_option maxRecDepth 100000 in
set_option maxHeartbeats 4000000 in
theorem c_X11_razor {l : Launch} {δ : Dl} {b : Nat} {μ : Mm} {S : St} (hR : RX μ S) {x : Int32} {y : Int32} {z : Int32} : MCX l δ b yX11_razor cX11_razor 9 (some .int) 3 [.ref (b + 0), .int x, .int y, .int z] μ (pI fun r μ' => r = (S_razor S x y z).1 ∧ RX μ' (S_razor S x y z).2) := by
  obtain ⟨B, Bd, tb, hnow, hdr, hT⟩ := hR.2.2.1
  have W := rx_w hR
  have ta := two_ta tb
  have hB := ta.1
  have hBd := ta.2.1
  have bn := ti_n hT.1
  refine MC.intro ([some (.ref (b + 0)), some (.int x), some (.int y), some (.int z), none, none, none, none, none]) (by decide) rfl rfl fun κ Qc hl hQ X => ?_
  subst hl
  refine AW.aload_n X dX11_razor_0 (i := 0) rfl rfl ?_
  refine AW.iload_n X dX11_razor_1 (i := 1) rfl rfl ?_
  refine AW.callV X dX11_razor_2 lX11_123 cfX11 (c_X11_noHouse hR) ox0 rfl rfl rfl rfl ⟨rfl, rfl⟩ (pR_k ?_)
  refine AW.if_neB X (tgt := 17) dX11_razor_5 (by decide) (fun h5 => ?_) (fun h5 => ?_)
  · simp only [Bool.not_eq_true', Bool.not_eq_false'] at h5
    refine AW.aload_n X dX11_razor_17 (i := 0) rfl rfl ?_
    refine AW.iconstN X 1 dX11_razor_18 rfl ?_
    refine AW.bipushN X 10 dX11_razor_19 rfl ?_
    refine AW.callV X dX11_razor_21 lX11_221 cfX11 (c_X11_refuseDown (k := 1) (down := 10) hR (by decide)) ox0 rfl rfl rfl rfl ⟨rfl, rfl⟩ (pI_k fun r μ1 hr => ?_)
    refine AW.iret X hQ dX11_razor_24 ⟨_, rfl, ?_⟩
    refine rx_of ?_ hr
    simp [S_razor, n01, oI, *]
  · simp only [Bool.not_eq_true', Bool.not_eq_false'] at h5
    obtain ⟨h, hh, eh⟩ := inr_of (x := x) (m := (S.1 6 0 0)) (by omega) h5
    subst eh
    have ch := cl_n (show h < 2147483648 by omega)
    have hVh := tx_h hT hh
    have bnh := hi_n hVh.1
    refine AW.aload_n X dX11_razor_8 (i := 0) rfl rfl ?_
    refine AW.iload_n X dX11_razor_9 (i := 1) rfl rfl ?_
    refine AW.iload_n X dX11_razor_10 (i := 2) rfl rfl ?_
    refine AW.callV X dX11_razor_11 lX11_186 cfX11 (c_X11_noCoat hR (by omega)) ox0 rfl rfl rfl rfl ⟨rfl, rfl⟩ (pR_k ?_)
    refine AW.if_eqB X (tgt := 25) dX11_razor_14 (by decide) (fun h14 => ?_) (fun h14 => ?_)
    · simp only [Bool.not_eq_true', Bool.not_eq_false'] at h14
      obtain ⟨c, hc, ec⟩ := inr_of (x := y) (m := (S.1 h 0 2)) (by omega) h14
      subst ec
      have cc := cl_n (show c < 2147483648 by omega)
      refine AW.iload_n X dX11_razor_25 (i := 3) rfl rfl ?_
      refine AW.if_eq X (tgt := 42) dX11_razor_26 (by decide) (fun h26 => ?_) (fun h26 => ?_)
      · obtain rfl : z = nI 0 := h26
        refine AW.aload_n X dX11_razor_42 (i := 0) rfl rfl ?_
        refine AW.getR X dX11_razor_43 fX11_81 rfl ox0 hnow ?_
        refine AW.getR X dX11_razor_46 fX11_126 rfl (ta_ob hB) (wx_fronts W hB) ?_
        refine AW.iload_n X dX11_razor_49 (i := 1) rfl rfl ?_
        refine AW.aaload X (r := (B + 4 + 7 * h)) dX11_razor_50 rfl rfl (ta_f hB) (n2_in (by omega) (by decide)) (by rw [n2_clamp (by omega)]; exact wx_front W hB (by omega)) ?_
        refine AW.astore X dX11_razor_51 rfl ?_
        refine AW.iconst X (v := -1) dX11_razor_53 rfl ?_
        refine AW.istore X dX11_razor_54 rfl ?_
        refine AW.iconst X (v := -1) dX11_razor_56 rfl ?_
        refine AW.istore X dX11_razor_57 rfl ?_
        refine AW.iconstN X 0 dX11_razor_59 rfl ?_
        refine AW.istore X dX11_razor_60 rfl ?_
        have L62 : ∀ (m62 ix : Nat), 12 - ix < m62 → ix ≤ 12 → AW κ (δ, b, NX, 9, shX, False, Qc, 0, 0) NX 0 0 62 [some (.ref (b + 0)), some (.int (nI h)), some (.int (nI c)), some (.int (nI 0)), some (.ref (b + (B + 4 + 7 * h))), some (.int (oI (Option.map Prod.fst (rz (S.1 h) c ix)))), some (.int (oI (Option.map Prod.snd (rz (S.1 h) c ix)))), some (.int (nI ix)), none] [] μ := by
          intro m62
          induction m62 with
          | zero => intro ix hm; exact absurd hm (Nat.not_lt_zero _)
          | succ m62 ih62 =>
            intro ix hm62 hi62 
            rcases hz : (rz (S.1 h) c ix) with _ | ⟨p9, q9⟩
            · show AW κ (δ, b, NX, 9, shX, False, Qc, 0, 0) NX 0 0 62 [some (.ref (b + 0)), some (.int (nI h)), some (.int (nI c)), some (.int (nI 0)), some (.ref (b + (B + 4 + 7 * h))), some (.int (-1)), some (.int (-1)), some (.int (nI ix)), none] [] μ
              refine AW.iload X dX11_razor_62 rfl ?_
              refine AW.bipushN X 12 dX11_razor_64 rfl ?_
              refine AW.icmp_geN X (tgt := 119) dX11_razor_66 (by decide) (by omega) (by omega) (fun h66 => ?_) (fun h66 => ?_)
              · obtain rfl : ix = 12 := by omega
                have n66 := Nat.not_lt_of_le h66
                refine AW.iload_n X dX11_razor_119 (i := 3) rfl rfl ?_
                refine AW.if_neN X (tgt := 128) dX11_razor_120 (by decide) (by omega) (fun h120 => ?_) (fun h120 => ?_)
                · exact absurd h120 (by decide)
                · refine AW.iload X dX11_razor_123 rfl ?_
                  refine AW.goto X (tgt := 130) dX11_razor_125 (by decide) ?_
                  refine AW.iret X hQ dX11_razor_130 ⟨_, rfl, ?_⟩
                  refine rx_val ?_ hR
                  simp [S_razor, n01, oI, *]
              · have n66 := Nat.not_le_of_lt h66
                refine AW.aload X dX11_razor_69 rfl ?_
                refine AW.iload_n X dX11_razor_71 (i := 2) rfl rfl ?_
                refine AW.iload X dX11_razor_72 rfl ?_
                refine AW.callV X dX11_razor_74 lX11_240 cfX3 (c_X3_lies W (fa_of hB (by omega)) (tx_h hT (by omega)) (by omega) (by omega)) (fa_ob (fa_of hB (by omega))) rfl rfl rfl rfl ⟨rfl, rfl⟩ (pR_k ?_)
                refine AW.if_eqB X (tgt := 113) dX11_razor_77 (by decide) (fun h77 => ?_) (fun h77 => ?_)
                · refine AW.iincN X (c := (ix + 1)) dX11_razor_113 rfl (inc_1 _) rfl ?_
                  refine AW.goto X (tgt := 62) dX11_razor_116 (by decide) ?_
                  refine AW.cgw (ih62 (ix + 1) (by omega) (by omega)) ⟨rfl, rfl, rfl, rfl, rfl, ?_, ?_, rfl, trivial⟩
                  · simp [rz, oI, under1_n, under1_s, *]
                  · simp [rz, oI, under1_n, under1_s, *]
                · refine AW.aload X dX11_razor_80 rfl ?_
                  refine AW.iload_n X dX11_razor_82 (i := 2) rfl rfl ?_
                  refine AW.iconstN X 1 dX11_razor_83 rfl ?_
                  refine AW.iaddN X dX11_razor_84 ?_
                  refine AW.iload X dX11_razor_85 rfl ?_
                  have bd := dsum_le hVh.1 ix (c + 1) (S.1 h 0 2) (Nat.le_refl _)
                  refine AW.callV X dX11_razor_87 lX11_243 cfX3 (c_X3_depthFrom W (fa_of hB (by omega)) (tx_h hT (by omega)) (by omega) (by omega)) (fa_ob (fa_of hB (by omega))) rfl rfl rfl rfl ⟨rfl, rfl⟩ (pR_k ?_)
                  refine AW.istore X dX11_razor_90 rfl ?_
                  refine AW.iload X dX11_razor_92 rfl ?_
                  refine AW.iconst X (v := -1) dX11_razor_94 rfl ?_
                  refine AW.icmp_eq X (tgt := 105) dX11_razor_95 (by decide) (fun h95 => ?_) (fun h95 => ?_)
                  · refine AW.iload X dX11_razor_105 rfl ?_
                    refine AW.istore X dX11_razor_107 rfl ?_
                    refine AW.iload X dX11_razor_109 rfl ?_
                    refine AW.istore X dX11_razor_111 rfl ?_
                    refine AW.iincN X (c := (ix + 1)) dX11_razor_113 rfl (inc_1 _) rfl ?_
                    refine AW.goto X (tgt := 62) dX11_razor_116 (by decide) ?_
                    refine AW.cgw (ih62 (ix + 1) (by omega) (by omega)) ⟨rfl, rfl, rfl, rfl, rfl, ?_, ?_, rfl, trivial⟩
                    · simp [rz, oI, under1_n, under1_s, *]
                    · simp [rz, oI, under1_n, under1_s, *]
                  · exact absurd rfl h95
            · show AW κ (δ, b, NX, 9, shX, False, Qc, 0, 0) NX 0 0 62 [some (.ref (b + 0)), some (.int (nI h)), some (.int (nI c)), some (.int (nI 0)), some (.ref (b + (B + 4 + 7 * h))), some (.int (nI p9)), some (.int (nI q9)), some (.int (nI ix)), none] [] μ
              have bz := rz_le hVh.1 hz
              refine AW.iload X dX11_razor_62 rfl ?_
              refine AW.bipushN X 12 dX11_razor_64 rfl ?_
              refine AW.icmp_geN X (tgt := 119) dX11_razor_66 (by decide) (by omega) (by omega) (fun h66 => ?_) (fun h66 => ?_)
              · obtain rfl : ix = 12 := by omega
                have n66 := Nat.not_lt_of_le h66
                refine AW.iload_n X dX11_razor_119 (i := 3) rfl rfl ?_
                refine AW.if_neN X (tgt := 128) dX11_razor_120 (by decide) (by omega) (fun h120 => ?_) (fun h120 => ?_)
                · exact absurd h120 (by decide)
                · refine AW.iload X dX11_razor_123 rfl ?_
                  refine AW.goto X (tgt := 130) dX11_razor_125 (by decide) ?_
                  refine AW.iret X hQ dX11_razor_130 ⟨_, rfl, ?_⟩
                  refine rx_val ?_ hR
                  simp [S_razor, n01, oI, *]
              · have n66 := Nat.not_le_of_lt h66
                refine AW.aload X dX11_razor_69 rfl ?_
                refine AW.iload_n X dX11_razor_71 (i := 2) rfl rfl ?_
                refine AW.iload X dX11_razor_72 rfl ?_
                refine AW.callV X dX11_razor_74 lX11_240 cfX3 (c_X3_lies W (fa_of hB (by omega)) (tx_h hT (by omega)) (by omega) (by omega)) (fa_ob (fa_of hB (by omega))) rfl rfl rfl rfl ⟨rfl, rfl⟩ (pR_k ?_)
                refine AW.if_eqB X (tgt := 113) dX11_razor_77 (by decide) (fun h77 => ?_) (fun h77 => ?_)
                · refine AW.iincN X (c := (ix + 1)) dX11_razor_113 rfl (inc_1 _) rfl ?_
                  refine AW.goto X (tgt := 62) dX11_razor_116 (by decide) ?_
                  refine AW.cgw (ih62 (ix + 1) (by omega) (by omega)) ⟨rfl, rfl, rfl, rfl, rfl, ?_, ?_, rfl, trivial⟩
                  · simp [rz, oI, under1_n, under1_s, *]
                  · simp [rz, oI, under1_n, under1_s, *]
                · refine AW.aload X dX11_razor_80 rfl ?_
                  refine AW.iload_n X dX11_razor_82 (i := 2) rfl rfl ?_
                  refine AW.iconstN X 1 dX11_razor_83 rfl ?_
                  refine AW.iaddN X dX11_razor_84 ?_
                  refine AW.iload X dX11_razor_85 rfl ?_
                  have bd := dsum_le hVh.1 ix (c + 1) (S.1 h 0 2) (Nat.le_refl _)
                  refine AW.callV X dX11_razor_87 lX11_243 cfX3 (c_X3_depthFrom W (fa_of hB (by omega)) (tx_h hT (by omega)) (by omega) (by omega)) (fa_ob (fa_of hB (by omega))) rfl rfl rfl rfl ⟨rfl, rfl⟩ (pR_k ?_)
                  refine AW.istore X dX11_razor_90 rfl ?_
                  refine AW.iload X dX11_razor_92 rfl ?_
                  refine AW.iconst X (v := -1) dX11_razor_94 rfl ?_
                  refine AW.icmp_eq X (tgt := 105) dX11_razor_95 (by decide) (fun h95 => ?_) (fun h95 => ?_)
                  · exact absurd h95 (nI_m1 (by omega))
                  · refine AW.iload X dX11_razor_98 rfl ?_
                    refine AW.iload X dX11_razor_100 rfl ?_
                    refine AW.icmp_geN X (tgt := 113) dX11_razor_102 (by decide) (by omega) (by omega) (fun h102 => ?_) (fun h102 => ?_)
                    · have n102 := Nat.not_lt_of_le h102
                      refine AW.iincN X (c := (ix + 1)) dX11_razor_113 rfl (inc_1 _) rfl ?_
                      refine AW.goto X (tgt := 62) dX11_razor_116 (by decide) ?_
                      refine AW.cgw (ih62 (ix + 1) (by omega) (by omega)) ⟨rfl, rfl, rfl, rfl, rfl, ?_, ?_, rfl, trivial⟩
                      · simp [rz, oI, under1_n, under1_s, *]
                      · simp [rz, oI, under1_n, under1_s, *]
                    · have n102 := Nat.not_le_of_lt h102
                      refine AW.iload X dX11_razor_105 rfl ?_
                      refine AW.istore X dX11_razor_107 rfl ?_
                      refine AW.iload X dX11_razor_109 rfl ?_
                      refine AW.istore X dX11_razor_111 rfl ?_
                      refine AW.iincN X (c := (ix + 1)) dX11_razor_113 rfl (inc_1 _) rfl ?_
                      refine AW.goto X (tgt := 62) dX11_razor_116 (by decide) ?_
                      refine AW.cgw (ih62 (ix + 1) (by omega) (by omega)) ⟨rfl, rfl, rfl, rfl, rfl, ?_, ?_, rfl, trivial⟩
                      · simp [rz, oI, under1_n, under1_s, *]
                      · simp [rz, oI, under1_n, under1_s, *]
        refine AW.cgw (L62 _ 0 (Nat.lt_succ_self _) (by omega)) ⟨rfl, rfl, rfl, rfl, rfl, ?_, ?_, rfl, trivial⟩
        · simp [rz, oI, under1_n, under1_s, *]
        · simp [rz, oI, under1_n, under1_s, *]
      · have g26 : ¬ z = nI 0 := h26
        refine AW.iload_n X dX11_razor_29 (i := 3) rfl rfl ?_
        refine AW.iconstN X 1 dX11_razor_30 rfl ?_
        refine AW.icmp_eq X (tgt := 42) dX11_razor_31 (by decide) (fun h31 => ?_) (fun h31 => ?_)
        · obtain rfl : z = nI 1 := h31
          refine AW.aload_n X dX11_razor_42 (i := 0) rfl rfl ?_
          refine AW.getR X dX11_razor_43 fX11_81 rfl ox0 hnow ?_
          refine AW.getR X dX11_razor_46 fX11_126 rfl (ta_ob hB) (wx_fronts W hB) ?_
          refine AW.iload_n X dX11_razor_49 (i := 1) rfl rfl ?_
          refine AW.aaload X (r := (B + 4 + 7 * h)) dX11_razor_50 rfl rfl (ta_f hB) (n2_in (by omega) (by decide)) (by rw [n2_clamp (by omega)]; exact wx_front W hB (by omega)) ?_
          refine AW.astore X dX11_razor_51 rfl ?_
          refine AW.iconst X (v := -1) dX11_razor_53 rfl ?_
          refine AW.istore X dX11_razor_54 rfl ?_
          refine AW.iconst X (v := -1) dX11_razor_56 rfl ?_
          refine AW.istore X dX11_razor_57 rfl ?_
          refine AW.iconstN X 0 dX11_razor_59 rfl ?_
          refine AW.istore X dX11_razor_60 rfl ?_
          have L62 : ∀ (m62 ix : Nat), 12 - ix < m62 → ix ≤ 12 → AW κ (δ, b, NX, 9, shX, False, Qc, 0, 0) NX 0 0 62 [some (.ref (b + 0)), some (.int (nI h)), some (.int (nI c)), some (.int (nI 1)), some (.ref (b + (B + 4 + 7 * h))), some (.int (oI (Option.map Prod.fst (rz (S.1 h) c ix)))), some (.int (oI (Option.map Prod.snd (rz (S.1 h) c ix)))), some (.int (nI ix)), none] [] μ := by
            intro m62
            induction m62 with
            | zero => intro ix hm; exact absurd hm (Nat.not_lt_zero _)
            | succ m62 ih62 =>
              intro ix hm62 hi62 
              rcases hz : (rz (S.1 h) c ix) with _ | ⟨p9, q9⟩
              · show AW κ (δ, b, NX, 9, shX, False, Qc, 0, 0) NX 0 0 62 [some (.ref (b + 0)), some (.int (nI h)), some (.int (nI c)), some (.int (nI 1)), some (.ref (b + (B + 4 + 7 * h))), some (.int (-1)), some (.int (-1)), some (.int (nI ix)), none] [] μ
                refine AW.iload X dX11_razor_62 rfl ?_
                refine AW.bipushN X 12 dX11_razor_64 rfl ?_
                refine AW.icmp_geN X (tgt := 119) dX11_razor_66 (by decide) (by omega) (by omega) (fun h66 => ?_) (fun h66 => ?_)
                · obtain rfl : ix = 12 := by omega
                  have n66 := Nat.not_lt_of_le h66
                  refine AW.iload_n X dX11_razor_119 (i := 3) rfl rfl ?_
                  refine AW.if_neN X (tgt := 128) dX11_razor_120 (by decide) (by omega) (fun h120 => ?_) (fun h120 => ?_)
                  · refine AW.iload X dX11_razor_128 rfl ?_
                    refine AW.iret X hQ dX11_razor_130 ⟨_, rfl, ?_⟩
                    refine rx_val ?_ hR
                    simp [S_razor, n01, oI, *]
                  · exact absurd h120 (by decide)
                · have n66 := Nat.not_le_of_lt h66
                  refine AW.aload X dX11_razor_69 rfl ?_
                  refine AW.iload_n X dX11_razor_71 (i := 2) rfl rfl ?_
                  refine AW.iload X dX11_razor_72 rfl ?_
                  refine AW.callV X dX11_razor_74 lX11_240 cfX3 (c_X3_lies W (fa_of hB (by omega)) (tx_h hT (by omega)) (by omega) (by omega)) (fa_ob (fa_of hB (by omega))) rfl rfl rfl rfl ⟨rfl, rfl⟩ (pR_k ?_)
                  refine AW.if_eqB X (tgt := 113) dX11_razor_77 (by decide) (fun h77 => ?_) (fun h77 => ?_)
                  · refine AW.iincN X (c := (ix + 1)) dX11_razor_113 rfl (inc_1 _) rfl ?_
                    refine AW.goto X (tgt := 62) dX11_razor_116 (by decide) ?_
                    refine AW.cgw (ih62 (ix + 1) (by omega) (by omega)) ⟨rfl, rfl, rfl, rfl, rfl, ?_, ?_, rfl, trivial⟩
                    · simp [rz, oI, under1_n, under1_s, *]
                    · simp [rz, oI, under1_n, under1_s, *]
                  · refine AW.aload X dX11_razor_80 rfl ?_
                    refine AW.iload_n X dX11_razor_82 (i := 2) rfl rfl ?_
                    refine AW.iconstN X 1 dX11_razor_83 rfl ?_
                    refine AW.iaddN X dX11_razor_84 ?_
                    refine AW.iload X dX11_razor_85 rfl ?_
                    have bd := dsum_le hVh.1 ix (c + 1) (S.1 h 0 2) (Nat.le_refl _)
                    refine AW.callV X dX11_razor_87 lX11_243 cfX3 (c_X3_depthFrom W (fa_of hB (by omega)) (tx_h hT (by omega)) (by omega) (by omega)) (fa_ob (fa_of hB (by omega))) rfl rfl rfl rfl ⟨rfl, rfl⟩ (pR_k ?_)
                    refine AW.istore X dX11_razor_90 rfl ?_
                    refine AW.iload X dX11_razor_92 rfl ?_
                    refine AW.iconst X (v := -1) dX11_razor_94 rfl ?_
                    refine AW.icmp_eq X (tgt := 105) dX11_razor_95 (by decide) (fun h95 => ?_) (fun h95 => ?_)
                    · refine AW.iload X dX11_razor_105 rfl ?_
                      refine AW.istore X dX11_razor_107 rfl ?_
                      refine AW.iload X dX11_razor_109 rfl ?_
                      refine AW.istore X dX11_razor_111 rfl ?_
                      refine AW.iincN X (c := (ix + 1)) dX11_razor_113 rfl (inc_1 _) rfl ?_
                      refine AW.goto X (tgt := 62) dX11_razor_116 (by decide) ?_
                      refine AW.cgw (ih62 (ix + 1) (by omega) (by omega)) ⟨rfl, rfl, rfl, rfl, rfl, ?_, ?_, rfl, trivial⟩
                      · simp [rz, oI, under1_n, under1_s, *]
                      · simp [rz, oI, under1_n, under1_s, *]
                    · exact absurd rfl h95
              · show AW κ (δ, b, NX, 9, shX, False, Qc, 0, 0) NX 0 0 62 [some (.ref (b + 0)), some (.int (nI h)), some (.int (nI c)), some (.int (nI 1)), some (.ref (b + (B + 4 + 7 * h))), some (.int (nI p9)), some (.int (nI q9)), some (.int (nI ix)), none] [] μ
                have bz := rz_le hVh.1 hz
                refine AW.iload X dX11_razor_62 rfl ?_
                refine AW.bipushN X 12 dX11_razor_64 rfl ?_
                refine AW.icmp_geN X (tgt := 119) dX11_razor_66 (by decide) (by omega) (by omega) (fun h66 => ?_) (fun h66 => ?_)
                · obtain rfl : ix = 12 := by omega
                  have n66 := Nat.not_lt_of_le h66
                  refine AW.iload_n X dX11_razor_119 (i := 3) rfl rfl ?_
                  refine AW.if_neN X (tgt := 128) dX11_razor_120 (by decide) (by omega) (fun h120 => ?_) (fun h120 => ?_)
                  · refine AW.iload X dX11_razor_128 rfl ?_
                    refine AW.iret X hQ dX11_razor_130 ⟨_, rfl, ?_⟩
                    refine rx_val ?_ hR
                    simp [S_razor, n01, oI, *]
                  · exact absurd h120 (by decide)
                · have n66 := Nat.not_le_of_lt h66
                  refine AW.aload X dX11_razor_69 rfl ?_
                  refine AW.iload_n X dX11_razor_71 (i := 2) rfl rfl ?_
                  refine AW.iload X dX11_razor_72 rfl ?_
                  refine AW.callV X dX11_razor_74 lX11_240 cfX3 (c_X3_lies W (fa_of hB (by omega)) (tx_h hT (by omega)) (by omega) (by omega)) (fa_ob (fa_of hB (by omega))) rfl rfl rfl rfl ⟨rfl, rfl⟩ (pR_k ?_)
                  refine AW.if_eqB X (tgt := 113) dX11_razor_77 (by decide) (fun h77 => ?_) (fun h77 => ?_)
                  · refine AW.iincN X (c := (ix + 1)) dX11_razor_113 rfl (inc_1 _) rfl ?_
                    refine AW.goto X (tgt := 62) dX11_razor_116 (by decide) ?_
                    refine AW.cgw (ih62 (ix + 1) (by omega) (by omega)) ⟨rfl, rfl, rfl, rfl, rfl, ?_, ?_, rfl, trivial⟩
                    · simp [rz, oI, under1_n, under1_s, *]
                    · simp [rz, oI, under1_n, under1_s, *]
                  · refine AW.aload X dX11_razor_80 rfl ?_
                    refine AW.iload_n X dX11_razor_82 (i := 2) rfl rfl ?_
                    refine AW.iconstN X 1 dX11_razor_83 rfl ?_
                    refine AW.iaddN X dX11_razor_84 ?_
                    refine AW.iload X dX11_razor_85 rfl ?_
                    have bd := dsum_le hVh.1 ix (c + 1) (S.1 h 0 2) (Nat.le_refl _)
                    refine AW.callV X dX11_razor_87 lX11_243 cfX3 (c_X3_depthFrom W (fa_of hB (by omega)) (tx_h hT (by omega)) (by omega) (by omega)) (fa_ob (fa_of hB (by omega))) rfl rfl rfl rfl ⟨rfl, rfl⟩ (pR_k ?_)
                    refine AW.istore X dX11_razor_90 rfl ?_
                    refine AW.iload X dX11_razor_92 rfl ?_
                    refine AW.iconst X (v := -1) dX11_razor_94 rfl ?_
                    refine AW.icmp_eq X (tgt := 105) dX11_razor_95 (by decide) (fun h95 => ?_) (fun h95 => ?_)
                    · exact absurd h95 (nI_m1 (by omega))
                    · refine AW.iload X dX11_razor_98 rfl ?_
                      refine AW.iload X dX11_razor_100 rfl ?_
                      refine AW.icmp_geN X (tgt := 113) dX11_razor_102 (by decide) (by omega) (by omega) (fun h102 => ?_) (fun h102 => ?_)
                      · have n102 := Nat.not_lt_of_le h102
                        refine AW.iincN X (c := (ix + 1)) dX11_razor_113 rfl (inc_1 _) rfl ?_
                        refine AW.goto X (tgt := 62) dX11_razor_116 (by decide) ?_
                        refine AW.cgw (ih62 (ix + 1) (by omega) (by omega)) ⟨rfl, rfl, rfl, rfl, rfl, ?_, ?_, rfl, trivial⟩
                        · simp [rz, oI, under1_n, under1_s, *]
                        · simp [rz, oI, under1_n, under1_s, *]
                      · have n102 := Nat.not_le_of_lt h102
                        refine AW.iload X dX11_razor_105 rfl ?_
                        refine AW.istore X dX11_razor_107 rfl ?_
                        refine AW.iload X dX11_razor_109 rfl ?_
                        refine AW.istore X dX11_razor_111 rfl ?_
                        refine AW.iincN X (c := (ix + 1)) dX11_razor_113 rfl (inc_1 _) rfl ?_
                        refine AW.goto X (tgt := 62) dX11_razor_116 (by decide) ?_
                        refine AW.cgw (ih62 (ix + 1) (by omega) (by omega)) ⟨rfl, rfl, rfl, rfl, rfl, ?_, ?_, rfl, trivial⟩
                        · simp [rz, oI, under1_n, under1_s, *]
                        · simp [rz, oI, under1_n, under1_s, *]
          refine AW.cgw (L62 _ 0 (Nat.lt_succ_self _) (by omega)) ⟨rfl, rfl, rfl, rfl, rfl, ?_, ?_, rfl, trivial⟩
          · simp [rz, oI, under1_n, under1_s, *]
          · simp [rz, oI, under1_n, under1_s, *]
        · refine AW.aload_n X dX11_razor_34 (i := 0) rfl rfl ?_
          refine AW.iconstN X 5 dX11_razor_35 rfl ?_
          refine AW.bipushN X 10 dX11_razor_36 rfl ?_
          refine AW.callV X dX11_razor_38 lX11_221 cfX11 (c_X11_refuseDown (k := 5) (down := 10) hR (by decide)) ox0 rfl rfl rfl rfl ⟨rfl, rfl⟩ (pI_k fun r μ1 hr => ?_)
          refine AW.iret X hQ dX11_razor_41 ⟨_, rfl, ?_⟩
          refine rx_of ?_ hr
          simp [S_razor, n01, oI, *]
    · simp only [Bool.not_eq_true', Bool.not_eq_false'] at h14
      refine AW.aload_n X dX11_razor_17 (i := 0) rfl rfl ?_
      refine AW.iconstN X 1 dX11_razor_18 rfl ?_
      refine AW.bipushN X 10 dX11_razor_19 rfl ?_
      refine AW.callV X dX11_razor_21 lX11_221 cfX11 (c_X11_refuseDown (k := 1) (down := 10) hR (by decide)) ox0 rfl rfl rfl rfl ⟨rfl, rfl⟩ (pI_k fun r μ1 hr => ?_)
      refine AW.iret X hQ dX11_razor_24 ⟨_, rfl, ?_⟩
      refine rx_of ?_ hr
      simp [S_razor, n01, oI, *]
set_option maxRecDepth 100000 in
set_option maxHeartbeats 4000000 in
theorem c_X11_gap {l : Launch} {δ : Dl} {b : Nat} {μ : Mm} {S : St} (hR : RX μ S) {x : Int32} {y : Int32} : MCX l δ b yX11_gap cX11_gap 9 (some .int) 5 [.ref (b + 0), .int x, .int y] μ (pI fun r μ' => r = (S_gap S x y).1 ∧ RX μ' (S_gap S x y).2) := by
  obtain ⟨B, Bd, tb, hnow, hdr, hT⟩ := hR.2.2.1
  have W := rx_w hR
  have ta := two_ta tb
  have hB := ta.1
  have hBd := ta.2.1
  have bn := ti_n hT.1
  refine MC.intro ([some (.ref (b + 0)), some (.int x), some (.int y), none, none, none, none, none, none]) (by decide) rfl rfl fun κ Qc hl hQ X => ?_
  subst hl
  refine AW.aload_n X dX11_gap_0 (i := 0) rfl rfl ?_
  refine AW.iload_n X dX11_gap_1 (i := 1) rfl rfl ?_
  refine AW.callV X dX11_gap_2 lX11_123 cfX11 (c_X11_noHouse hR) ox0 rfl rfl rfl rfl ⟨rfl, rfl⟩ (pR_k ?_)
  refine AW.if_neB X (tgt := 17) dX11_gap_5 (by decide) (fun h5 => ?_) (fun h5 => ?_)
  · simp only [Bool.not_eq_true', Bool.not_eq_false'] at h5
    refine AW.aload_n X dX11_gap_17 (i := 0) rfl rfl ?_
    refine AW.iconstN X 1 dX11_gap_18 rfl ?_
    refine AW.bipushN X 10 dX11_gap_19 rfl ?_
    refine AW.callV X dX11_gap_21 lX11_221 cfX11 (c_X11_refuseDown (k := 1) (down := 10) hR (by decide)) ox0 rfl rfl rfl rfl ⟨rfl, rfl⟩ (pI_k fun r μ1 hr => ?_)
    refine AW.iret X hQ dX11_gap_24 ⟨_, rfl, ?_⟩
    refine rx_of ?_ hr
    simp [S_gap, oI, *]
  · simp only [Bool.not_eq_true', Bool.not_eq_false'] at h5
    obtain ⟨h, hh, eh⟩ := inr_of (x := x) (m := (S.1 6 0 0)) (by omega) h5
    subst eh
    have ch := cl_n (show h < 2147483648 by omega)
    have hVh := tx_h hT hh
    have bnh := hi_n hVh.1
    refine AW.iload_n X dX11_gap_8 (i := 2) rfl rfl ?_
    refine AW.bipushN X 8 dX11_gap_9 rfl ?_
    refine AW.callS X dX11_gap_11 lX11_91 (c_X11_outside) rfl rfl rfl rfl ⟨rfl, rfl⟩ (pR_k ?_)
    refine AW.if_eqB X (tgt := 25) dX11_gap_14 (by decide) (fun h14 => ?_) (fun h14 => ?_)
    · simp only [Bool.not_eq_true', Bool.not_eq_false'] at h14
      obtain ⟨t, ht, et⟩ := inr_of (x := y) (m := 8) (by omega) h14
      subst et
      have ct := cl_n (show t < 2147483648 by omega)
      refine AW.aload_n X dX11_gap_25 (i := 0) rfl rfl ?_
      refine AW.getR X dX11_gap_26 fX11_81 rfl ox0 hnow ?_
      refine AW.getR X dX11_gap_29 fX11_126 rfl (ta_ob hB) (wx_fronts W hB) ?_
      refine AW.iload_n X dX11_gap_32 (i := 1) rfl rfl ?_
      refine AW.aaload X (r := (B + 4 + 7 * h)) dX11_gap_33 rfl rfl (ta_f hB) (n2_in (by omega) (by decide)) (by rw [n2_clamp (by omega)]; exact wx_front W hB (by omega)) ?_
      refine AW.astore_n X dX11_gap_34 (i := 3) rfl rfl ?_
      refine AW.iconst X (v := -1) dX11_gap_35 rfl ?_
      refine AW.istore X dX11_gap_36 rfl ?_
      refine AW.iconstN X 0 dX11_gap_38 rfl ?_
      refine AW.istore X dX11_gap_39 rfl ?_
      refine AW.iconstN X 0 dX11_gap_41 rfl ?_
      refine AW.istore X dX11_gap_42 rfl ?_
      have L44 : ∀ (m44 ix : Nat), 12 - ix < m44 → ix ≤ 12 → AW κ (δ, b, NX, 9, shX, False, Qc, 0, 0) NX 0 0 44 [some (.ref (b + 0)), some (.int (nI h)), some (.int (nI t)), some (.ref (b + (B + 4 + 7 * h))), some (.int (oI (Option.map Prod.fst (gpv (S.1 6 1) (S.1 h) t ix)))), some (.int (nI (oL (gpv (S.1 6 1) (S.1 h) t ix)))), some (.int (nI ix)), none, none] [] μ := by
        intro m44
        induction m44 with
        | zero => intro ix hm; exact absurd hm (Nat.not_lt_zero _)
        | succ m44 ih44 =>
          intro ix hm44 hi44 
          rcases hz : (gpv (S.1 6 1) (S.1 h) t ix) with _ | ⟨p9, q9⟩
          · show AW κ (δ, b, NX, 9, shX, False, Qc, 0, 0) NX 0 0 44 [some (.ref (b + 0)), some (.int (nI h)), some (.int (nI t)), some (.ref (b + (B + 4 + 7 * h))), some (.int (-1)), some (.int (nI 0)), some (.int (nI ix)), none, none] [] μ
            refine AW.iload X dX11_gap_44 rfl ?_
            refine AW.bipushN X 12 dX11_gap_46 rfl ?_
            refine AW.icmp_geN X (tgt := 122) dX11_gap_48 (by decide) (by omega) (by omega) (fun h48 => ?_) (fun h48 => ?_)
            · obtain rfl : ix = 12 := by omega
              have n48 := Nat.not_lt_of_le h48
              refine AW.iload X dX11_gap_122 rfl ?_
              refine AW.iret X hQ dX11_gap_124 ⟨_, rfl, ?_⟩
              refine rx_val ?_ hR
              simp [S_gap, oI, *]
            · have n48 := Nat.not_le_of_lt h48
              refine AW.aload_n X dX11_gap_51 (i := 0) rfl rfl ?_
              refine AW.getR X dX11_gap_52 fX11_81 rfl ox0 hnow ?_
              refine AW.aload_n X dX11_gap_55 (i := 3) rfl rfl ?_
              refine AW.aload_n X dX11_gap_56 (i := 3) rfl rfl ?_
              refine AW.iload X dX11_gap_57 rfl ?_
              refine AW.callV X dX11_gap_59 lX11_224 cfX3 (c_X3_lyingIn W (fa_of hB (by omega)) (tx_h hT (by omega)) (by omega)) (fa_ob (fa_of hB (by omega))) rfl rfl rfl rfl ⟨rfl, rfl⟩ (pR_k ?_)
              refine AW.iload X dX11_gap_62 rfl ?_
              refine AW.iconstN X 0 dX11_gap_64 rfl ?_
              refine AW.callV X dX11_gap_65 lX11_227 cfX9 (c_X9_seenAmong W hB hT (fa_of hB (by omega)) hVh (lyN hVh.1 ix) (by omega) (by omega)) (ta_ob hB) rfl rfl rfl rfl ⟨rfl, rfl⟩ (pR_k ?_)
              rcases hx65 : seenIn (S.1 6 1) (S.1 h) (lyA (S.1 h) ix) (wet (S.1 h) ix 0) (S.1 h 0 2) with _ | c
              · show AW κ _ _ _ _ _ _ (.int (-1) :: _) _
                refine AW.istore X dX11_gap_68 rfl ?_
                refine AW.iload X dX11_gap_70 rfl ?_
                refine AW.iconst X (v := -1) dX11_gap_72 rfl ?_
                refine AW.icmp_eq X (tgt := 87) dX11_gap_73 (by decide) (fun h73 => ?_) (fun h73 => ?_)
                · refine AW.aload_n X dX11_gap_87 (i := 3) rfl rfl ?_
                  refine AW.iload X dX11_gap_88 rfl ?_
                  have bd := depth_le hVh.1 ix
                  refine AW.callV X dX11_gap_90 lX11_234 cfX3 (c_X3_depth W (fa_of hB (by omega)) (tx_h hT (by omega)) (by omega)) (fa_ob (fa_of hB (by omega))) rfl rfl rfl rfl ⟨rfl, rfl⟩ (pR_k ?_)
                  refine AW.istore X dX11_gap_93 rfl ?_
                  refine AW.iload X dX11_gap_95 rfl ?_
                  refine AW.iconst X (v := -1) dX11_gap_97 rfl ?_
                  refine AW.icmp_eq X (tgt := 108) dX11_gap_98 (by decide) (fun h98 => ?_) (fun h98 => ?_)
                  · refine AW.iload X dX11_gap_108 rfl ?_
                    refine AW.istore X dX11_gap_110 rfl ?_
                    refine AW.iload X dX11_gap_112 rfl ?_
                    refine AW.istore X dX11_gap_114 rfl ?_
                    refine AW.iincN X (c := (ix + 1)) dX11_gap_116 rfl (inc_1 _) rfl ?_
                    refine AW.goto X (tgt := 44) dX11_gap_119 (by decide) ?_
                    refine AW.cgw (ih44 (ix + 1) (by omega) (by omega)) ⟨rfl, rfl, rfl, rfl, ?_, ?_, rfl, trivial⟩
                    · simp [gpv, seenBy, seenAt, oI, oL, under1_n, under1_s, *]
                    · simp [gpv, seenBy, seenAt, oI, oL, under1_n, under1_s, *]
                  · exact absurd rfl h98
                · exact absurd rfl h73
              · show AW κ _ _ _ _ _ _ (.int (nI c) :: _) _
                have b4 := seenIn_lt hx65
                have b5 := hi_ten hVh.1 b4
                refine AW.istore X dX11_gap_68 rfl ?_
                refine AW.iload X dX11_gap_70 rfl ?_
                refine AW.iconst X (v := -1) dX11_gap_72 rfl ?_
                refine AW.icmp_eq X (tgt := 87) dX11_gap_73 (by decide) (fun h73 => ?_) (fun h73 => ?_)
                · exact absurd h73 (nI_m1 (by omega))
                · refine AW.aload_n X dX11_gap_76 (i := 3) rfl rfl ?_
                  refine AW.getR X dX11_gap_77 fX11_189 rfl (fa_ob (fa_of hB (by omega))) (wx_tenant W (fa_of hB (by omega))) ?_
                  refine AW.iload X dX11_gap_80 rfl ?_
                  refine AW.iaload X dX11_gap_82 (fa_1 (fa_of hB (by omega))) (n2_in (by omega) (by decide)) (v := (nI ((S.1 h) 1 c))) (by rw [n2_clamp (by omega)]; exact hv_1 (tx_h hT (by omega)) (by omega)) ?_
                  refine AW.iload_n X dX11_gap_83 (i := 2) rfl rfl ?_
                  refine AW.icmp_eqN X (tgt := 116) dX11_gap_84 (by decide) (by omega) (by omega) (fun h84 => ?_) (fun h84 => ?_)
                  · refine AW.iincN X (c := (ix + 1)) dX11_gap_116 rfl (inc_1 _) rfl ?_
                    refine AW.goto X (tgt := 44) dX11_gap_119 (by decide) ?_
                    refine AW.cgw (ih44 (ix + 1) (by omega) (by omega)) ⟨rfl, rfl, rfl, rfl, ?_, ?_, rfl, trivial⟩
                    · simp [gpv, seenBy, seenAt, oI, oL, under1_n, under1_s, *]
                    · simp [gpv, seenBy, seenAt, oI, oL, under1_n, under1_s, *]
                  · refine AW.aload_n X dX11_gap_87 (i := 3) rfl rfl ?_
                    refine AW.iload X dX11_gap_88 rfl ?_
                    have bd := depth_le hVh.1 ix
                    refine AW.callV X dX11_gap_90 lX11_234 cfX3 (c_X3_depth W (fa_of hB (by omega)) (tx_h hT (by omega)) (by omega)) (fa_ob (fa_of hB (by omega))) rfl rfl rfl rfl ⟨rfl, rfl⟩ (pR_k ?_)
                    refine AW.istore X dX11_gap_93 rfl ?_
                    refine AW.iload X dX11_gap_95 rfl ?_
                    refine AW.iconst X (v := -1) dX11_gap_97 rfl ?_
                    refine AW.icmp_eq X (tgt := 108) dX11_gap_98 (by decide) (fun h98 => ?_) (fun h98 => ?_)
                    · refine AW.iload X dX11_gap_108 rfl ?_
                      refine AW.istore X dX11_gap_110 rfl ?_
                      refine AW.iload X dX11_gap_112 rfl ?_
                      refine AW.istore X dX11_gap_114 rfl ?_
                      refine AW.iincN X (c := (ix + 1)) dX11_gap_116 rfl (inc_1 _) rfl ?_
                      refine AW.goto X (tgt := 44) dX11_gap_119 (by decide) ?_
                      refine AW.cgw (ih44 (ix + 1) (by omega) (by omega)) ⟨rfl, rfl, rfl, rfl, ?_, ?_, rfl, trivial⟩
                      · simp [gpv, seenBy, seenAt, oI, oL, under1_n, under1_s, *]
                      · simp [gpv, seenBy, seenAt, oI, oL, under1_n, under1_s, *]
                    · exact absurd rfl h98
          · show AW κ (δ, b, NX, 9, shX, False, Qc, 0, 0) NX 0 0 44 [some (.ref (b + 0)), some (.int (nI h)), some (.int (nI t)), some (.ref (b + (B + 4 + 7 * h))), some (.int (nI p9)), some (.int (nI q9)), some (.int (nI ix)), none, none] [] μ
            have bz := gpv_le hVh.1 hz
            refine AW.iload X dX11_gap_44 rfl ?_
            refine AW.bipushN X 12 dX11_gap_46 rfl ?_
            refine AW.icmp_geN X (tgt := 122) dX11_gap_48 (by decide) (by omega) (by omega) (fun h48 => ?_) (fun h48 => ?_)
            · obtain rfl : ix = 12 := by omega
              have n48 := Nat.not_lt_of_le h48
              refine AW.iload X dX11_gap_122 rfl ?_
              refine AW.iret X hQ dX11_gap_124 ⟨_, rfl, ?_⟩
              refine rx_val ?_ hR
              simp [S_gap, oI, *]
            · have n48 := Nat.not_le_of_lt h48
              refine AW.aload_n X dX11_gap_51 (i := 0) rfl rfl ?_
              refine AW.getR X dX11_gap_52 fX11_81 rfl ox0 hnow ?_
              refine AW.aload_n X dX11_gap_55 (i := 3) rfl rfl ?_
              refine AW.aload_n X dX11_gap_56 (i := 3) rfl rfl ?_
              refine AW.iload X dX11_gap_57 rfl ?_
              refine AW.callV X dX11_gap_59 lX11_224 cfX3 (c_X3_lyingIn W (fa_of hB (by omega)) (tx_h hT (by omega)) (by omega)) (fa_ob (fa_of hB (by omega))) rfl rfl rfl rfl ⟨rfl, rfl⟩ (pR_k ?_)
              refine AW.iload X dX11_gap_62 rfl ?_
              refine AW.iconstN X 0 dX11_gap_64 rfl ?_
              refine AW.callV X dX11_gap_65 lX11_227 cfX9 (c_X9_seenAmong W hB hT (fa_of hB (by omega)) hVh (lyN hVh.1 ix) (by omega) (by omega)) (ta_ob hB) rfl rfl rfl rfl ⟨rfl, rfl⟩ (pR_k ?_)
              rcases hx65 : seenIn (S.1 6 1) (S.1 h) (lyA (S.1 h) ix) (wet (S.1 h) ix 0) (S.1 h 0 2) with _ | c
              · show AW κ _ _ _ _ _ _ (.int (-1) :: _) _
                refine AW.istore X dX11_gap_68 rfl ?_
                refine AW.iload X dX11_gap_70 rfl ?_
                refine AW.iconst X (v := -1) dX11_gap_72 rfl ?_
                refine AW.icmp_eq X (tgt := 87) dX11_gap_73 (by decide) (fun h73 => ?_) (fun h73 => ?_)
                · refine AW.aload_n X dX11_gap_87 (i := 3) rfl rfl ?_
                  refine AW.iload X dX11_gap_88 rfl ?_
                  have bd := depth_le hVh.1 ix
                  refine AW.callV X dX11_gap_90 lX11_234 cfX3 (c_X3_depth W (fa_of hB (by omega)) (tx_h hT (by omega)) (by omega)) (fa_ob (fa_of hB (by omega))) rfl rfl rfl rfl ⟨rfl, rfl⟩ (pR_k ?_)
                  refine AW.istore X dX11_gap_93 rfl ?_
                  refine AW.iload X dX11_gap_95 rfl ?_
                  refine AW.iconst X (v := -1) dX11_gap_97 rfl ?_
                  refine AW.icmp_eq X (tgt := 108) dX11_gap_98 (by decide) (fun h98 => ?_) (fun h98 => ?_)
                  · exact absurd h98 (nI_m1 (by omega))
                  · refine AW.iload X dX11_gap_101 rfl ?_
                    refine AW.iload X dX11_gap_103 rfl ?_
                    refine AW.icmp_geN X (tgt := 116) dX11_gap_105 (by decide) (by omega) (by omega) (fun h105 => ?_) (fun h105 => ?_)
                    · have n105 := Nat.not_lt_of_le h105
                      refine AW.iincN X (c := (ix + 1)) dX11_gap_116 rfl (inc_1 _) rfl ?_
                      refine AW.goto X (tgt := 44) dX11_gap_119 (by decide) ?_
                      refine AW.cgw (ih44 (ix + 1) (by omega) (by omega)) ⟨rfl, rfl, rfl, rfl, ?_, ?_, rfl, trivial⟩
                      · simp [gpv, seenBy, seenAt, oI, oL, under1_n, under1_s, *]
                      · simp [gpv, seenBy, seenAt, oI, oL, under1_n, under1_s, *]
                    · have n105 := Nat.not_le_of_lt h105
                      refine AW.iload X dX11_gap_108 rfl ?_
                      refine AW.istore X dX11_gap_110 rfl ?_
                      refine AW.iload X dX11_gap_112 rfl ?_
                      refine AW.istore X dX11_gap_114 rfl ?_
                      refine AW.iincN X (c := (ix + 1)) dX11_gap_116 rfl (inc_1 _) rfl ?_
                      refine AW.goto X (tgt := 44) dX11_gap_119 (by decide) ?_
                      refine AW.cgw (ih44 (ix + 1) (by omega) (by omega)) ⟨rfl, rfl, rfl, rfl, ?_, ?_, rfl, trivial⟩
                      · simp [gpv, seenBy, seenAt, oI, oL, under1_n, under1_s, *]
                      · simp [gpv, seenBy, seenAt, oI, oL, under1_n, under1_s, *]
                · exact absurd rfl h73
              · show AW κ _ _ _ _ _ _ (.int (nI c) :: _) _
                have b4 := seenIn_lt hx65
                have b5 := hi_ten hVh.1 b4
                refine AW.istore X dX11_gap_68 rfl ?_
                refine AW.iload X dX11_gap_70 rfl ?_
                refine AW.iconst X (v := -1) dX11_gap_72 rfl ?_
                refine AW.icmp_eq X (tgt := 87) dX11_gap_73 (by decide) (fun h73 => ?_) (fun h73 => ?_)
                · exact absurd h73 (nI_m1 (by omega))
                · refine AW.aload_n X dX11_gap_76 (i := 3) rfl rfl ?_
                  refine AW.getR X dX11_gap_77 fX11_189 rfl (fa_ob (fa_of hB (by omega))) (wx_tenant W (fa_of hB (by omega))) ?_
                  refine AW.iload X dX11_gap_80 rfl ?_
                  refine AW.iaload X dX11_gap_82 (fa_1 (fa_of hB (by omega))) (n2_in (by omega) (by decide)) (v := (nI ((S.1 h) 1 c))) (by rw [n2_clamp (by omega)]; exact hv_1 (tx_h hT (by omega)) (by omega)) ?_
                  refine AW.iload_n X dX11_gap_83 (i := 2) rfl rfl ?_
                  refine AW.icmp_eqN X (tgt := 116) dX11_gap_84 (by decide) (by omega) (by omega) (fun h84 => ?_) (fun h84 => ?_)
                  · refine AW.iincN X (c := (ix + 1)) dX11_gap_116 rfl (inc_1 _) rfl ?_
                    refine AW.goto X (tgt := 44) dX11_gap_119 (by decide) ?_
                    refine AW.cgw (ih44 (ix + 1) (by omega) (by omega)) ⟨rfl, rfl, rfl, rfl, ?_, ?_, rfl, trivial⟩
                    · simp [gpv, seenBy, seenAt, oI, oL, under1_n, under1_s, *]
                    · simp [gpv, seenBy, seenAt, oI, oL, under1_n, under1_s, *]
                  · refine AW.aload_n X dX11_gap_87 (i := 3) rfl rfl ?_
                    refine AW.iload X dX11_gap_88 rfl ?_
                    have bd := depth_le hVh.1 ix
                    refine AW.callV X dX11_gap_90 lX11_234 cfX3 (c_X3_depth W (fa_of hB (by omega)) (tx_h hT (by omega)) (by omega)) (fa_ob (fa_of hB (by omega))) rfl rfl rfl rfl ⟨rfl, rfl⟩ (pR_k ?_)
                    refine AW.istore X dX11_gap_93 rfl ?_
                    refine AW.iload X dX11_gap_95 rfl ?_
                    refine AW.iconst X (v := -1) dX11_gap_97 rfl ?_
                    refine AW.icmp_eq X (tgt := 108) dX11_gap_98 (by decide) (fun h98 => ?_) (fun h98 => ?_)
                    · exact absurd h98 (nI_m1 (by omega))
                    · refine AW.iload X dX11_gap_101 rfl ?_
                      refine AW.iload X dX11_gap_103 rfl ?_
                      refine AW.icmp_geN X (tgt := 116) dX11_gap_105 (by decide) (by omega) (by omega) (fun h105 => ?_) (fun h105 => ?_)
                      · have n105 := Nat.not_lt_of_le h105
                        refine AW.iincN X (c := (ix + 1)) dX11_gap_116 rfl (inc_1 _) rfl ?_
                        refine AW.goto X (tgt := 44) dX11_gap_119 (by decide) ?_
                        refine AW.cgw (ih44 (ix + 1) (by omega) (by omega)) ⟨rfl, rfl, rfl, rfl, ?_, ?_, rfl, trivial⟩
                        · simp [gpv, seenBy, seenAt, oI, oL, under1_n, under1_s, *]
                        · simp [gpv, seenBy, seenAt, oI, oL, under1_n, under1_s, *]
                      · have n105 := Nat.not_le_of_lt h105
                        refine AW.iload X dX11_gap_108 rfl ?_
                        refine AW.istore X dX11_gap_110 rfl ?_
                        refine AW.iload X dX11_gap_112 rfl ?_
                        refine AW.istore X dX11_gap_114 rfl ?_
                        refine AW.iincN X (c := (ix + 1)) dX11_gap_116 rfl (inc_1 _) rfl ?_
                        refine AW.goto X (tgt := 44) dX11_gap_119 (by decide) ?_
                        refine AW.cgw (ih44 (ix + 1) (by omega) (by omega)) ⟨rfl, rfl, rfl, rfl, ?_, ?_, rfl, trivial⟩
                        · simp [gpv, seenBy, seenAt, oI, oL, under1_n, under1_s, *]
                        · simp [gpv, seenBy, seenAt, oI, oL, under1_n, under1_s, *]
      refine AW.cgw (L44 _ 0 (Nat.lt_succ_self _) (by omega)) ⟨rfl, rfl, rfl, rfl, ?_, ?_, rfl, trivial⟩
      · simp [gpv, seenBy, seenAt, oI, oL, under1_n, under1_s, *]
      · simp [gpv, seenBy, seenAt, oI, oL, under1_n, under1_s, *]
    · simp only [Bool.not_eq_true', Bool.not_eq_false'] at h14
      refine AW.aload_n X dX11_gap_17 (i := 0) rfl rfl ?_
      refine AW.iconstN X 1 dX11_gap_18 rfl ?_
      refine AW.bipushN X 10 dX11_gap_19 rfl ?_
      refine AW.callV X dX11_gap_21 lX11_221 cfX11 (c_X11_refuseDown (k := 1) (down := 10) hR (by decide)) ox0 rfl rfl rfl rfl ⟨rfl, rfl⟩ (pI_k fun r μ1 hr => ?_)
      refine AW.iret X hQ dX11_gap_24 ⟨_, rfl, ?_⟩
      refine rx_of ?_ hr
      simp [S_gap, oI, *]
theorem counted_b {V : Vt} {x : Nat} (h : x ≤ 9) : counted V x ≤ 9 := by
  unfold counted
  split <;> omega
set_option maxRecDepth 100000 in
set_option maxHeartbeats 4000000 in
theorem c_X11_cheapest {l : Launch} {δ : Dl} {b : Nat} {μ : Mm} {S : St} (hR : RX μ S) {o : Nat} (hF : FA o) {V : Vt} (hV : HV μ o V) {w : Nat} (hw : w < 1000) : MCX l δ b yX11_cheapest cX11_cheapest 8 (some .int) 3 [.ref (b + 0), .ref (b + o), .int (nI w)] μ (pI fun r μ' => r = oI (Option.map Prod.fst (chC (S.1 6 1) (S.1 6 2) V w 6)) ∧ μ' = μ) := by
  obtain ⟨B, Bd, tb, hnow, hdr, hT⟩ := hR.2.2.1
  have W := rx_w hR
  have ta := two_ta tb
  have hB := ta.1
  have hBd := ta.2.1
  have bn := ti_n hT.1
  refine MC.intro ([some (.ref (b + 0)), some (.ref (b + o)), some (.int (nI w)), none, none, none, none, none]) (by decide) rfl rfl fun κ Qc hl hQ X => ?_
  subst hl
  refine AW.iconst X (v := -1) dX11_cheapest_0 rfl ?_
  refine AW.istore_n X dX11_cheapest_1 (i := 3) rfl rfl ?_
  refine AW.iconstN X 0 dX11_cheapest_2 rfl ?_
  refine AW.istore X dX11_cheapest_3 rfl ?_
  refine AW.iconstN X 0 dX11_cheapest_5 rfl ?_
  refine AW.istore X dX11_cheapest_6 rfl ?_
  have L8 : ∀ (m8 ix : Nat), 6 - ix < m8 → ix ≤ 6 → AW κ (δ, b, NX, 8, shX, False, Qc, 0, 0) NX 0 0 8 [some (.ref (b + 0)), some (.ref (b + o)), some (.int (nI w)), some (.int (oI (Option.map Prod.fst (chC (S.1 6 1) (S.1 6 2) V w ix)))), some (.int (nI (oL (chC (S.1 6 1) (S.1 6 2) V w ix)))), some (.int (nI ix)), none, none] [] μ := by
    intro m8
    induction m8 with
    | zero => intro ix hm; exact absurd hm (Nat.not_lt_zero _)
    | succ m8 ih8 =>
      intro ix hm8 hi8 
      refine AW.iload X dX11_cheapest_8 rfl ?_
      refine AW.bipushN X 6 dX11_cheapest_10 rfl ?_
      refine AW.icmp_geN X (tgt := 93) dX11_cheapest_12 (by decide) (by omega) (by omega) (fun h12 => ?_) (fun h12 => ?_)
      · obtain rfl : ix = 6 := by omega
        have n12 := Nat.not_lt_of_le h12
        refine AW.iload_n X dX11_cheapest_93 (i := 3) rfl rfl ?_
        refine AW.iret X hQ dX11_cheapest_94 ⟨_, rfl, ?_⟩
        exact ⟨rfl, rfl⟩
      · have n12 := Nat.not_le_of_lt h12
        refine AW.iconstN X 1 dX11_cheapest_15 rfl ?_
        refine AW.istore X dX11_cheapest_16 rfl ?_
        have L18 : ∀ (m18 jx : Nat), 9 - jx < m18 → jx ≤ 9 → AW κ (δ, b, NX, 8, shX, False, Qc, 0, 0) NX 0 0 18 [some (.ref (b + 0)), some (.ref (b + o)), some (.int (nI w)), some (.int (oI (Option.map Prod.fst (chT (S.1 6 1) (S.1 6 2) V w ix (chC (S.1 6 1) (S.1 6 2) V w ix) jx)))), some (.int (nI (oL (chT (S.1 6 1) (S.1 6 2) V w ix (chC (S.1 6 1) (S.1 6 2) V w ix) jx)))), some (.int (nI ix)), some (.int (nI (jx + 1))), none] [] μ := by
          intro m18
          induction m18 with
          | zero => intro jx hm; exact absurd hm (Nat.not_lt_zero _)
          | succ m18 ih18 =>
            intro jx hm18 hi18 
            rcases hz : (chT (S.1 6 1) (S.1 6 2) V w ix (chC (S.1 6 1) (S.1 6 2) V w ix) jx) with _ | ⟨p9, q9⟩
            · show AW κ (δ, b, NX, 8, shX, False, Qc, 0, 0) NX 0 0 18 [some (.ref (b + 0)), some (.ref (b + o)), some (.int (nI w)), some (.int (-1)), some (.int (nI 0)), some (.int (nI ix)), some (.int (nI (jx + 1))), none] [] μ
              refine AW.iload X dX11_cheapest_18 rfl ?_
              refine AW.bipushN X 9 dX11_cheapest_20 rfl ?_
              refine AW.icmp_gtN X (tgt := 87) dX11_cheapest_22 (by decide) (by omega) (by omega) (fun h22 => ?_) (fun h22 => ?_)
              · obtain rfl : jx = 9 := by omega
                have n22 := Nat.not_le_of_lt h22
                refine AW.iincN X (c := (ix + 1)) dX11_cheapest_87 rfl (inc_1 _) rfl ?_
                refine AW.goto X (tgt := 8) dX11_cheapest_90 (by decide) ?_
                refine AW.cgw (ih8 (ix + 1) (by omega) (by omega)) ⟨rfl, rfl, rfl, ?_, ?_, rfl, trivial⟩
                · simp [chC, hz, oI, oL]
                · simp [chC, hz, oI, oL]
              · have n22 := Nat.not_lt_of_le h22
                have bm := Nat.mul_le_mul (ti_cos hT.1 h12) (show jx + 1 ≤ 9 by omega)
                have bk := Nat.mul_le_mul (counted_b (V := V) (ti_hid hT.1 h12)) (show jx + 1 ≤ 9 by omega)
                refine AW.aload_n X dX11_cheapest_25 (i := 0) rfl rfl ?_
                refine AW.getR X dX11_cheapest_26 fX11_81 rfl ox0 hnow ?_
                refine AW.getR X dX11_cheapest_29 fX11_170 rfl (ta_ob hB) (wx_costs W hB) ?_
                refine AW.iload X dX11_cheapest_32 rfl ?_
                refine AW.iaload X dX11_cheapest_34 (ta_c hB) (n2_in (by omega) (by decide)) (v := (nI (S.1 6 2 ix))) (by rw [n2_clamp (by omega)]; exact tx_cos hT (by omega)) ?_
                refine AW.iload X dX11_cheapest_35 rfl ?_
                refine AW.imulN X dX11_cheapest_37 ?_
                refine AW.istore X dX11_cheapest_38 rfl ?_
                refine AW.aload_n X dX11_cheapest_40 (i := 0) rfl rfl ?_
                refine AW.getR X dX11_cheapest_41 fX11_81 rfl ox0 hnow ?_
                refine AW.aload_n X dX11_cheapest_44 (i := 1) rfl rfl ?_
                refine AW.iload X dX11_cheapest_45 rfl ?_
                refine AW.iload X dX11_cheapest_47 rfl ?_
                refine AW.callV X dX11_cheapest_49 lX11_203 cfX9 (c_X9_strength W hB hT hF hV (by omega) (by omega)) (ta_ob hB) rfl rfl rfl rfl ⟨rfl, rfl⟩ (pR_k ?_)
                refine AW.iload_n X dX11_cheapest_52 (i := 2) rfl rfl ?_
                refine AW.icmp_ltN X (tgt := 81) dX11_cheapest_53 (by decide) (by omega) (by omega) (fun h53 => ?_) (fun h53 => ?_)
                · have n53 := Nat.not_le_of_lt h53
                  refine AW.iincN X (c := ((jx + 1) + 1)) dX11_cheapest_81 rfl (inc_1 _) rfl ?_
                  refine AW.goto X (tgt := 18) dX11_cheapest_84 (by decide) ?_
                  refine AW.cgw (ih18 (jx + 1) (by omega) (by omega)) ⟨rfl, rfl, rfl, ?_, ?_, rfl, rfl, trivial⟩
                  · simp [chT, oI, oL, under1_n, under1_s, *]
                  · simp [chT, oI, oL, under1_n, under1_s, *]
                · have n53 := Nat.not_lt_of_le h53
                  refine AW.iload_n X dX11_cheapest_56 (i := 3) rfl rfl ?_
                  refine AW.iconst X (v := -1) dX11_cheapest_57 rfl ?_
                  refine AW.icmp_eq X (tgt := 68) dX11_cheapest_58 (by decide) (fun h58 => ?_) (fun h58 => ?_)
                  · refine AW.bipushN X 10 dX11_cheapest_68 rfl ?_
                    refine AW.iload X dX11_cheapest_70 rfl ?_
                    refine AW.imulN X dX11_cheapest_72 ?_
                    refine AW.iload X dX11_cheapest_73 rfl ?_
                    refine AW.iaddN X dX11_cheapest_75 ?_
                    refine AW.istore_n X dX11_cheapest_76 (i := 3) rfl rfl ?_
                    refine AW.iload X dX11_cheapest_77 rfl ?_
                    refine AW.istore X dX11_cheapest_79 rfl ?_
                    refine AW.iincN X (c := ((jx + 1) + 1)) dX11_cheapest_81 rfl (inc_1 _) rfl ?_
                    refine AW.goto X (tgt := 18) dX11_cheapest_84 (by decide) ?_
                    refine AW.cgw (ih18 (jx + 1) (by omega) (by omega)) ⟨rfl, rfl, rfl, ?_, ?_, rfl, rfl, trivial⟩
                    · simp [chT, oI, oL, under1_n, under1_s, *]
                    · simp [chT, oI, oL, under1_n, under1_s, *]
                  · exact absurd rfl h58
            · show AW κ (δ, b, NX, 8, shX, False, Qc, 0, 0) NX 0 0 18 [some (.ref (b + 0)), some (.ref (b + o)), some (.int (nI w)), some (.int (nI p9)), some (.int (nI q9)), some (.int (nI ix)), some (.int (nI (jx + 1))), none] [] μ
              have bz := chT_le h12 (ti_cos hT.1 h12) (fun p q h2 => chC_le (fun c hc => ti_cos hT.1 hc) (by omega) h2) (by omega) hz
              refine AW.iload X dX11_cheapest_18 rfl ?_
              refine AW.bipushN X 9 dX11_cheapest_20 rfl ?_
              refine AW.icmp_gtN X (tgt := 87) dX11_cheapest_22 (by decide) (by omega) (by omega) (fun h22 => ?_) (fun h22 => ?_)
              · obtain rfl : jx = 9 := by omega
                have n22 := Nat.not_le_of_lt h22
                refine AW.iincN X (c := (ix + 1)) dX11_cheapest_87 rfl (inc_1 _) rfl ?_
                refine AW.goto X (tgt := 8) dX11_cheapest_90 (by decide) ?_
                refine AW.cgw (ih8 (ix + 1) (by omega) (by omega)) ⟨rfl, rfl, rfl, ?_, ?_, rfl, trivial⟩
                · simp [chC, hz, oI, oL]
                · simp [chC, hz, oI, oL]
              · have n22 := Nat.not_lt_of_le h22
                have bm := Nat.mul_le_mul (ti_cos hT.1 h12) (show jx + 1 ≤ 9 by omega)
                have bk := Nat.mul_le_mul (counted_b (V := V) (ti_hid hT.1 h12)) (show jx + 1 ≤ 9 by omega)
                refine AW.aload_n X dX11_cheapest_25 (i := 0) rfl rfl ?_
                refine AW.getR X dX11_cheapest_26 fX11_81 rfl ox0 hnow ?_
                refine AW.getR X dX11_cheapest_29 fX11_170 rfl (ta_ob hB) (wx_costs W hB) ?_
                refine AW.iload X dX11_cheapest_32 rfl ?_
                refine AW.iaload X dX11_cheapest_34 (ta_c hB) (n2_in (by omega) (by decide)) (v := (nI (S.1 6 2 ix))) (by rw [n2_clamp (by omega)]; exact tx_cos hT (by omega)) ?_
                refine AW.iload X dX11_cheapest_35 rfl ?_
                refine AW.imulN X dX11_cheapest_37 ?_
                refine AW.istore X dX11_cheapest_38 rfl ?_
                refine AW.aload_n X dX11_cheapest_40 (i := 0) rfl rfl ?_
                refine AW.getR X dX11_cheapest_41 fX11_81 rfl ox0 hnow ?_
                refine AW.aload_n X dX11_cheapest_44 (i := 1) rfl rfl ?_
                refine AW.iload X dX11_cheapest_45 rfl ?_
                refine AW.iload X dX11_cheapest_47 rfl ?_
                refine AW.callV X dX11_cheapest_49 lX11_203 cfX9 (c_X9_strength W hB hT hF hV (by omega) (by omega)) (ta_ob hB) rfl rfl rfl rfl ⟨rfl, rfl⟩ (pR_k ?_)
                refine AW.iload_n X dX11_cheapest_52 (i := 2) rfl rfl ?_
                refine AW.icmp_ltN X (tgt := 81) dX11_cheapest_53 (by decide) (by omega) (by omega) (fun h53 => ?_) (fun h53 => ?_)
                · have n53 := Nat.not_le_of_lt h53
                  refine AW.iincN X (c := ((jx + 1) + 1)) dX11_cheapest_81 rfl (inc_1 _) rfl ?_
                  refine AW.goto X (tgt := 18) dX11_cheapest_84 (by decide) ?_
                  refine AW.cgw (ih18 (jx + 1) (by omega) (by omega)) ⟨rfl, rfl, rfl, ?_, ?_, rfl, rfl, trivial⟩
                  · simp [chT, oI, oL, under1_n, under1_s, *]
                  · simp [chT, oI, oL, under1_n, under1_s, *]
                · have n53 := Nat.not_lt_of_le h53
                  refine AW.iload_n X dX11_cheapest_56 (i := 3) rfl rfl ?_
                  refine AW.iconst X (v := -1) dX11_cheapest_57 rfl ?_
                  refine AW.icmp_eq X (tgt := 68) dX11_cheapest_58 (by decide) (fun h58 => ?_) (fun h58 => ?_)
                  · exact absurd h58 (nI_m1 (by omega))
                  · refine AW.iload X dX11_cheapest_61 rfl ?_
                    refine AW.iload X dX11_cheapest_63 rfl ?_
                    refine AW.icmp_geN X (tgt := 81) dX11_cheapest_65 (by decide) (by omega) (by omega) (fun h65 => ?_) (fun h65 => ?_)
                    · have n65 := Nat.not_lt_of_le h65
                      refine AW.iincN X (c := ((jx + 1) + 1)) dX11_cheapest_81 rfl (inc_1 _) rfl ?_
                      refine AW.goto X (tgt := 18) dX11_cheapest_84 (by decide) ?_
                      refine AW.cgw (ih18 (jx + 1) (by omega) (by omega)) ⟨rfl, rfl, rfl, ?_, ?_, rfl, rfl, trivial⟩
                      · simp [chT, oI, oL, under1_n, under1_s, *]
                      · simp [chT, oI, oL, under1_n, under1_s, *]
                    · have n65 := Nat.not_le_of_lt h65
                      refine AW.bipushN X 10 dX11_cheapest_68 rfl ?_
                      refine AW.iload X dX11_cheapest_70 rfl ?_
                      refine AW.imulN X dX11_cheapest_72 ?_
                      refine AW.iload X dX11_cheapest_73 rfl ?_
                      refine AW.iaddN X dX11_cheapest_75 ?_
                      refine AW.istore_n X dX11_cheapest_76 (i := 3) rfl rfl ?_
                      refine AW.iload X dX11_cheapest_77 rfl ?_
                      refine AW.istore X dX11_cheapest_79 rfl ?_
                      refine AW.iincN X (c := ((jx + 1) + 1)) dX11_cheapest_81 rfl (inc_1 _) rfl ?_
                      refine AW.goto X (tgt := 18) dX11_cheapest_84 (by decide) ?_
                      refine AW.cgw (ih18 (jx + 1) (by omega) (by omega)) ⟨rfl, rfl, rfl, ?_, ?_, rfl, rfl, trivial⟩
                      · simp [chT, oI, oL, under1_n, under1_s, *]
                      · simp [chT, oI, oL, under1_n, under1_s, *]
        refine AW.cgw (L18 _ 0 (Nat.lt_succ_self _) (by omega)) ⟨rfl, rfl, rfl, ?_, ?_, rfl, rfl, trivial⟩
        · simp [chT]
        · simp [chT]
  refine AW.cgw (L8 _ 0 (Nat.lt_succ_self _) (by omega)) ⟨rfl, rfl, rfl, ?_, ?_, rfl, trivial⟩
  · simp [chC, oI, oL]
  · simp [chC, oI, oL]
set_option maxRecDepth 100000 in
set_option maxHeartbeats 4000000 in
theorem c_X11_paint {l : Launch} {δ : Dl} {b : Nat} {μ : Mm} {S : St} (hR : RX μ S) {x : Int32} {y : Int32} {z : Int32} : MCX l δ b yX11_paint cX11_paint 5 (some .int) 5 [.ref (b + 0), .int x, .int y, .int z] μ (pI fun r μ' => r = (S_paint S x y z).1 ∧ RX μ' (S_paint S x y z).2) := by
  obtain ⟨B, Bd, tb, hnow, hdr, hT⟩ := hR.2.2.1
  have W := rx_w hR
  have ta := two_ta tb
  have hB := ta.1
  have hBd := ta.2.1
  have bn := ti_n hT.1
  refine MC.intro ([some (.ref (b + 0)), some (.int x), some (.int y), some (.int z), none]) (by decide) rfl rfl fun κ Qc hl hQ X => ?_
  subst hl
  refine AW.aload_n X dX11_paint_0 (i := 0) rfl rfl ?_
  refine AW.iload_n X dX11_paint_1 (i := 1) rfl rfl ?_
  refine AW.callV X dX11_paint_2 lX11_123 cfX11 (c_X11_noHouse hR) ox0 rfl rfl rfl rfl ⟨rfl, rfl⟩ (pR_k ?_)
  refine AW.if_eqB X (tgt := 16) dX11_paint_5 (by decide) (fun h5 => ?_) (fun h5 => ?_)
  · simp only [Bool.not_eq_true', Bool.not_eq_false'] at h5
    obtain ⟨h, hh, eh⟩ := inr_of (x := x) (m := (S.1 6 0 0)) (by omega) h5
    subst eh
    have ch := cl_n (show h < 2147483648 by omega)
    have hVh := tx_h hT hh
    have bnh := hi_n hVh.1
    refine AW.iload_n X dX11_paint_16 (i := 2) rfl rfl ?_
    refine AW.bipushN X 12 dX11_paint_17 rfl ?_
    refine AW.callS X dX11_paint_19 lX11_91 (c_X11_outside) rfl rfl rfl rfl ⟨rfl, rfl⟩ (pR_k ?_)
    refine AW.if_neB X (tgt := 34) dX11_paint_22 (by decide) (fun h22 => ?_) (fun h22 => ?_)
    · simp only [Bool.not_eq_true', Bool.not_eq_false'] at h22
      refine AW.aload_n X dX11_paint_34 (i := 0) rfl rfl ?_
      refine AW.bipushN X 6 dX11_paint_35 rfl ?_
      refine AW.bipushN X 10 dX11_paint_37 rfl ?_
      refine AW.callV X dX11_paint_39 lX11_221 cfX11 (c_X11_refuseDown (k := 6) (down := 10) hR (by decide)) ox0 rfl rfl rfl rfl ⟨rfl, rfl⟩ (pI_k fun r μ1 hr => ?_)
      refine AW.iret X hQ dX11_paint_42 ⟨_, rfl, ?_⟩
      refine rx_of ?_ hr
      simp [S_paint, *]
    · simp only [Bool.not_eq_true', Bool.not_eq_false'] at h22
      obtain ⟨g, hg, eg⟩ := inr_of (x := y) (m := 12) (by omega) h22
      subst eg
      have cg := cl_n (show g < 2147483648 by omega)
      refine AW.iload_n X dX11_paint_25 (i := 3) rfl rfl ?_
      refine AW.bipushN X 100 dX11_paint_26 rfl ?_
      refine AW.callS X dX11_paint_28 lX11_91 (c_X11_outside) rfl rfl rfl rfl ⟨rfl, rfl⟩ (pR_k ?_)
      refine AW.if_eqB X (tgt := 43) dX11_paint_31 (by decide) (fun h31 => ?_) (fun h31 => ?_)
      · simp only [Bool.not_eq_true', Bool.not_eq_false'] at h31
        obtain ⟨d, hd, ed⟩ := inr_of (x := z) (m := 100) (by omega) h31
        subst ed
        have cd := cl_n (show d < 2147483648 by omega)
        refine AW.aload_n X dX11_paint_43 (i := 0) rfl rfl ?_
        refine AW.getR X dX11_paint_44 fX11_81 rfl ox0 hnow ?_
        refine AW.getR X dX11_paint_47 fX11_126 rfl (ta_ob hB) (wx_fronts W hB) ?_
        refine AW.iload_n X dX11_paint_50 (i := 1) rfl rfl ?_
        refine AW.aaload X (r := (B + 4 + 7 * h)) dX11_paint_51 rfl rfl (ta_f hB) (n2_in (by omega) (by decide)) (by rw [n2_clamp (by omega)]; exact wx_front W hB (by omega)) ?_
        refine AW.astore X dX11_paint_52 rfl ?_
        refine AW.aload X dX11_paint_54 rfl ?_
        refine AW.getI X dX11_paint_56 fX11_157 rfl (fa_ob (fa_of hB (by omega))) (hv_n (tx_h hT (by omega))) ?_
        refine AW.bipushN X 8 dX11_paint_59 rfl ?_
        refine AW.icmp_ltN X (tgt := 73) dX11_paint_61 (by decide) (by omega) (by omega) (fun h61 => ?_) (fun h61 => ?_)
        · have g61 : ¬ 8 ≤ S.1 h 0 2 := by omega
          have n61 := Nat.not_le_of_lt h61
          refine AW.aload_n X dX11_paint_73 (i := 0) rfl rfl ?_
          refine AW.aload X dX11_paint_74 rfl ?_
          refine AW.aload X dX11_paint_76 rfl ?_
          refine AW.iload_n X dX11_paint_78 (i := 2) rfl rfl ?_
          refine AW.iload_n X dX11_paint_79 (i := 3) rfl rfl ?_
          refine AW.callV X dX11_paint_80 lX11_249 cfX3 (c_X3_wettestBut W (fa_of hB (by omega)) (tx_h hT (by omega)) (by omega) (by omega)) (fa_ob (fa_of hB (by omega))) rfl rfl rfl rfl ⟨rfl, rfl⟩ (pR_k ?_)
          have bw := wetTo_le hVh.1 g hd 12
          refine AW.callV X dX11_paint_83 lX11_252 cfX11 (c_X11_cheapest hR (fa_of hB (by omega)) hVh (by omega)) ox0 rfl rfl rfl rfl ⟨rfl, rfl⟩ (pR_k ?_)
          refine AW.iret X hQ dX11_paint_86 ⟨_, rfl, ?_⟩
          refine rx_val ?_ hR
          simp [S_paint, *]
        · have n61 := Nat.not_lt_of_le h61
          refine AW.aload_n X dX11_paint_64 (i := 0) rfl rfl ?_
          refine AW.bipushN X 7 dX11_paint_65 rfl ?_
          refine AW.bipushN X 10 dX11_paint_67 rfl ?_
          refine AW.callV X dX11_paint_69 lX11_221 cfX11 (c_X11_refuseDown (k := 7) (down := 10) hR (by decide)) ox0 rfl rfl rfl rfl ⟨rfl, rfl⟩ (pI_k fun r μ1 hr => ?_)
          refine AW.iret X hQ dX11_paint_72 ⟨_, rfl, ?_⟩
          refine rx_of ?_ hr
          simp [S_paint, *]
      · simp only [Bool.not_eq_true', Bool.not_eq_false'] at h31
        refine AW.aload_n X dX11_paint_34 (i := 0) rfl rfl ?_
        refine AW.bipushN X 6 dX11_paint_35 rfl ?_
        refine AW.bipushN X 10 dX11_paint_37 rfl ?_
        refine AW.callV X dX11_paint_39 lX11_221 cfX11 (c_X11_refuseDown (k := 6) (down := 10) hR (by decide)) ox0 rfl rfl rfl rfl ⟨rfl, rfl⟩ (pI_k fun r μ1 hr => ?_)
        refine AW.iret X hQ dX11_paint_42 ⟨_, rfl, ?_⟩
        refine rx_of ?_ hr
        simp [S_paint, *]
  · simp only [Bool.not_eq_true', Bool.not_eq_false'] at h5
    refine AW.aload_n X dX11_paint_8 (i := 0) rfl rfl ?_
    refine AW.iconstN X 1 dX11_paint_9 rfl ?_
    refine AW.bipushN X 10 dX11_paint_10 rfl ?_
    refine AW.callV X dX11_paint_12 lX11_221 cfX11 (c_X11_refuseDown (k := 1) (down := 10) hR (by decide)) ox0 rfl rfl rfl rfl ⟨rfl, rfl⟩ (pI_k fun r μ1 hr => ?_)
    refine AW.iret X hQ dX11_paint_15 ⟨_, rfl, ?_⟩
    refine rx_of ?_ hr
    simp [S_paint, *]
