/-! what holds at the start, out of what the Statement gives -/
abbrev GV : Cond := Cond.and given_1 narrow_1
def sk0 : String × Nat × String × List Int32 := ("", 0, "", [])
def tmS (i : Nat) : Term := .string (skey.getD i sk0).1 (skey.getD i sk0).2.1
set_option maxRecDepth 100000 in
set_option maxHeartbeats 4000000 in
theorem fl_ex : ∀ i : Nat, i < 12 → Cond.exactly (tmS i) "java/lang/String" ∈ flatC GV := by decide +kernel
set_option maxRecDepth 100000 in
set_option maxHeartbeats 4000000 in
theorem fl_co : ∀ i : Nat, i < 12 → Cond.eq (.field (tmS i) "java/lang/String" "coder" "B") (.int 0) ∈ flatC GV := by decide +kernel
set_option maxRecDepth 100000 in
set_option maxHeartbeats 4000000 in
theorem fl_ar : ∀ i : Nat, i < 12 → Cond.arrayOf (.field (tmS i) "java/lang/String" "value" "[B") .byte ∈ flatC GV := by decide +kernel
set_option maxRecDepth 100000 in
set_option maxHeartbeats 4000000 in
theorem fl_le : ∀ i : Nat, i < 12 → Cond.eq (.length (.field (tmS i) "java/lang/String" "value" "[B")) (.int (Int32.ofNat ((sbyt.map List.length).getD i 0))) ∈ flatC GV := by decide +kernel
set_option maxRecDepth 100000 in
set_option maxHeartbeats 4000000 in
theorem fl_el : ∀ i : Nat, i < 12 → ∀ j : Nat, j < (sbyt.map List.length).getD i 0 → Cond.eq (.elem (.field (tmS i) "java/lang/String" "value" "[B") (.int (Int32.ofNat j))) (.int ((sbyt.getD i []).getD j 0)) ∈ flatC GV := by decide +kernel
set_option maxRecDepth 100000 in
set_option maxHeartbeats 4000000 in
theorem fl_nj : ∀ j : Nat, j < 12 → ∀ i : Nat, i < j → (flatC GV)[(([[0, 157, 167, 178, 189, 204, 219, 231, 244, 259, 274, 292], [0, 0, 168, 179, 190, 205, 220, 232, 245, 260, 275, 293], [0, 0, 0, 180, 191, 206, 221, 233, 246, 261, 276, 294], [0, 0, 0, 0, 192, 207, 222, 234, 247, 262, 277, 295], [0, 0, 0, 0, 0, 208, 223, 235, 248, 263, 278, 296], [0, 0, 0, 0, 0, 0, 224, 236, 249, 264, 279, 297], [0, 0, 0, 0, 0, 0, 0, 237, 250, 265, 280, 298], [0, 0, 0, 0, 0, 0, 0, 0, 251, 266, 281, 299], [0, 0, 0, 0, 0, 0, 0, 0, 0, 267, 282, 300], [0, 0, 0, 0, 0, 0, 0, 0, 0, 0, 283, 301], [0, 0, 0, 0, 0, 0, 0, 0, 0, 0, 0, 302], [0, 0, 0, 0, 0, 0, 0, 0, 0, 0, 0, 0]] : List (List Nat)).getD i []).getD j 0]? = some (Cond.not (Cond.eq (tmS i) (tmS j))) := by decide +kernel
theorem fl_ne (i : Nat) (hi : i < 12) (j : Nat) (hj : j < 12) (hij : i ≠ j) : Cond.not (Cond.eq (tmS i) (tmS j)) ∈ flatC GV ∨ Cond.not (Cond.eq (tmS j) (tmS i)) ∈ flatC GV := by
  rcases Nat.lt_or_gt_of_ne hij with h | h
  · exact Or.inl (List.mem_of_getElem? (fl_nj j hj i h))
  · exact Or.inr (List.mem_of_getElem? (fl_nj i hi j h))
set_option maxRecDepth 100000 in
set_option maxHeartbeats 4000000 in
theorem fl_nc : ∀ q ∈ NC, Cond.not (.castable q.1 q.2) ∈ flatC GV := by decide +kernel
set_option maxRecDepth 100000 in
set_option maxHeartbeats 4000000 in
theorem fl_cs : Cond.eq (.static "java/lang/String" "COMPACT_STRINGS" "Z") (.int 1) ∈ flatC GV := by decide +kernel
set_option maxRecDepth 100000 in
set_option maxHeartbeats 4000000 in
theorem fl_si : Cond.isRef (.static "jdk/internal/util/Preconditions" "SIOOBE_FORMATTER" "Ljava/util/function/BiFunction;") ∈ flatC GV := by decide +kernel
set_option maxRecDepth 100000 in
set_option maxHeartbeats 4000000 in
theorem lt_sr : ∀ i : Nat, i < 12 → lw_tbl[([586, 587, 588, 589, 590, 591, 1243, 1266, 1267, 1268, 1269, 1280] : List Nat).getD i 0]? = some (Cond.stringRef (skey.getD i sk0).1 (skey.getD i sk0).2.1 (skey.getD i sk0).2.2.1) := by decide +kernel
set_option maxRecDepth 100000 in
set_option maxHeartbeats 4000000 in
theorem lt_ao : ∀ ty ∈ AOt, Cond.arrayOver ty ∈ lw_tbl := by
  intro ty h
  rcases List.mem_cons.mp h with rfl | h
  · exact List.mem_of_getElem? (i := 159) (by decide +kernel)
  · rcases List.mem_cons.mp h with rfl | h
    · exact List.mem_of_getElem? (i := 215) (by decide +kernel)
    · rcases List.mem_cons.mp h with rfl | h
      · exact List.mem_of_getElem? (i := 101) (by decide +kernel)
      · exact absurd h List.not_mem_nil
set_option maxRecDepth 100000 in
set_option maxHeartbeats 4000000 in
theorem lt_c1 : Cond.laysStatic "java/lang/String" "COMPACT_STRINGS" "Z" ∈ lw_tbl := List.mem_of_getElem? (i := 605) (by decide +kernel)
set_option maxRecDepth 100000 in
set_option maxHeartbeats 4000000 in
theorem lt_c2 : Cond.laysStatic "jdk/internal/util/Preconditions" "SIOOBE_FORMATTER" "Ljava/util/function/BiFunction;" ∈ lw_tbl := List.mem_of_getElem? (i := 625) (by decide +kernel)
set_option maxRecDepth 100000 in
set_option maxHeartbeats 4000000 in
theorem lt_c3 : Cond.initialized "java/lang/String" ∈ lw_tbl := List.mem_of_getElem? (i := 87) (by decide +kernel)
set_option maxRecDepth 100000 in
set_option maxHeartbeats 4000000 in
theorem lt_c4 : Cond.initialized "jdk/internal/util/Preconditions" ∈ lw_tbl := List.mem_of_getElem? (i := 89) (by decide +kernel)
theorem st_cls {s : State} {args : Array Value} (hts : ∀ w ∈ TT, w.before args s = true) : ∃ D : va_G, ∀ (k : Nat) (q : vw_C), vwCl[k]? = some q → u_Kn s q.1 q.2.1 q.2.2 (D.1 k) (D.2 k) := by
  have h : ∀ k : Nat, ∃ z : ClassId × (Nat → Nat), ∀ q : vw_C, vwCl[k]? = some q → u_Kn s q.1 q.2.1 q.2.2 z.1 z.2 := by
    intro k
    match k with
    | 0 =>
      obtain ⟨z1, z2, hz⟩ := u_known (C := RX0) (T := TX0) (N := 0) (n := 0) hts cfX0.2.1 (hts _ inX0)
      exact ⟨(z1, z2), fun q hq => by cases hq; exact hz⟩
    | 1 =>
      obtain ⟨z1, z2, hz⟩ := u_known (C := RX1) (T := TX1) (N := 0) (n := 0) hts cfX1.2.1 (hts _ inX1)
      exact ⟨(z1, z2), fun q hq => by cases hq; exact hz⟩
    | 2 =>
      obtain ⟨z1, z2, hz⟩ := u_known (C := RX2) (T := TX2) (N := 0) (n := 0) hts cfX2.2.1 (hts _ inX2)
      exact ⟨(z1, z2), fun q hq => by cases hq; exact hz⟩
    | 3 =>
      obtain ⟨z1, z2, hz⟩ := u_known (C := RX3) (T := TX3) (N := 10) (n := 10) hts cfX3.2.1 (hts _ inX3)
      exact ⟨(z1, z2), fun q hq => by cases hq; exact hz⟩
    | 4 =>
      obtain ⟨z1, z2, hz⟩ := u_known (C := RX4) (T := TX4) (N := 0) (n := 0) hts cfX4.2.1 (hts _ inX4)
      exact ⟨(z1, z2), fun q hq => by cases hq; exact hz⟩
    | 5 =>
      obtain ⟨z1, z2, hz⟩ := u_known (C := RX5) (T := TX5) (N := 0) (n := 0) hts cfX5.2.1 (hts _ inX5)
      exact ⟨(z1, z2), fun q hq => by cases hq; exact hz⟩
    | 6 =>
      obtain ⟨z1, z2, hz⟩ := u_known (C := RX6) (T := TX6) (N := 6) (n := 6) hts cfX6.2.1 (hts _ inX6)
      exact ⟨(z1, z2), fun q hq => by cases hq; exact hz⟩
    | 7 =>
      obtain ⟨z1, z2, hz⟩ := u_known (C := RX7) (T := TX7) (N := 0) (n := 0) hts cfX7.2.1 (hts _ inX7)
      exact ⟨(z1, z2), fun q hq => by cases hq; exact hz⟩
    | 8 =>
      obtain ⟨z1, z2, hz⟩ := u_known (C := RX8) (T := TX8) (N := 0) (n := 0) hts cfX8.2.1 (hts _ inX8)
      exact ⟨(z1, z2), fun q hq => by cases hq; exact hz⟩
    | 9 =>
      obtain ⟨z1, z2, hz⟩ := u_known (C := RX9) (T := TX9) (N := 10) (n := 10) hts cfX9.2.1 (hts _ inX9)
      exact ⟨(z1, z2), fun q hq => by cases hq; exact hz⟩
    | 10 =>
      obtain ⟨z1, z2, hz⟩ := u_known (C := RX10) (T := TX10) (N := 4) (n := 4) hts cfX10.2.1 (hts _ inX10)
      exact ⟨(z1, z2), fun q hq => by cases hq; exact hz⟩
    | 11 =>
      obtain ⟨z1, z2, hz⟩ := u_known (C := RX11) (T := TX11) (N := 14) (n := 14) hts cfX11.2.1 (hts _ inX11)
      exact ⟨(z1, z2), fun q hq => by cases hq; exact hz⟩
    | 12 =>
      obtain ⟨z1, z2, hz⟩ := u_known (C := RX12) (T := TX12) (N := 33) (n := 33) hts cfX12.2.1 (hts _ inX12)
      exact ⟨(z1, z2), fun q hq => by cases hq; exact hz⟩
    | k + 13 => exact ⟨(0, fun _ => 0), fun q hq => by simp [vwCl] at hq⟩
  exact ⟨(fun k => (Classical.choose (h k)).1, fun k => (Classical.choose (h k)).2), fun k q hq => Classical.choose_spec (h k) q hq⟩
theorem st_arr {s : State} {args : Array Value} (hts : ∀ w ∈ lw_tbl, w.before args s = true) : ∃ cA : Nat → ClassId, ∀ (k : Nat) (q : ClassId × FieldType), [(cA 0, FieldType.int), (cA 1, .long), (cA 2, .object "PaintedOver$Front"), (cA 3, .object "PaintedOver$Kind"), (cA 4, .array .long)][k]? = some q → ArrOfT s q.1 q.2 ∧ va_RA s q.1 q.2 := by
  obtain ⟨c0, k0, m0, f0, g0, e0⟩ := Cond.arrayClass_spec (args := args) (first := s) (o := none) (s := s) (idx := []) (type := .int) (hts _ (tt_lw ac_I))
  obtain ⟨c1, k1, m1, f1, g1, e1⟩ := Cond.arrayClass_spec (args := args) (first := s) (o := none) (s := s) (idx := []) (type := .long) (hts _ (tt_lw ac_J))
  obtain ⟨m2, c2, k2, a2, -, g2, e2, f2⟩ := Cond.arrayOver_spec (args := args) (first := s) (o := none) (s := s) (idx := []) (n := RX3) (hts _ (lt_ao _ (List.Mem.tail _ (List.Mem.head _))))
  obtain ⟨m3, c3, k3, a3, -, g3, e3, f3⟩ := Cond.arrayOver_spec (args := args) (first := s) (o := none) (s := s) (idx := []) (n := RX4) (hts _ (lt_ao _ (List.Mem.head _)))
  obtain ⟨m4, c4, k4, a4, g4, e4, f4⟩ := Cond.arrayOver_specA (args := args) (first := s) (o := none) (s := s) (idx := []) (t := .long) (hts _ (lt_ao _ (List.Mem.tail _ (List.Mem.tail _ (List.Mem.head _)))))
  refine ⟨fun t => match t with
    | 0 => c0
    | 1 => c1
    | 2 => c2
    | 3 => c3
    | _ => c4, fun k q hq => ?_⟩
  match k, hq with
  | 0, hq => cases hq; exact ⟨fun n z => ⟨(fun i h => by cases h), k0, g0, m0, e0⟩, f0⟩
  | 1, hq => cases hq; exact ⟨fun n z => ⟨(fun i h => by cases h), k1, g1, m1, e1⟩, f1⟩
  | 2, hq => cases hq; exact ⟨fun n z => ⟨(fun i h => by cases h), k2, g2, m2, e2⟩, k2, m2, g2, e2, a2, f2⟩
  | 3, hq => cases hq; exact ⟨fun n z => ⟨(fun i h => by cases h), k3, g3, m3, e3⟩, k3, m3, g3, e3, a3, f3⟩
  | 4, hq => cases hq; exact ⟨fun n z => ⟨(fun i h => by cases h), k4, g4, m4, e4⟩, f4⟩
  | k + 5, hq => simp at hq
theorem ks_start {s : State} {args : Array Value} (hts : ∀ w ∈ lw_tbl, w.before args s = true) (hgv : GV.before args s = true) : ∃ δ : Dl, KX δ s ∧ KS δ (fun q => s.heap.size ≤ q) s s.heap := by
  have hs := flat_of_before _ hgv
  have hA : ∀ a : Nat, a < s.heap.size → ¬ (fun q : Nat => s.heap.size ≤ q) a := fun a h => Nat.not_le.mpr h
  obtain ⟨adK, adV, hvk, hev⟩ := vk_Sof (args := args) (s := s) (N := 12) (tm := tmS) (len := sbyt.map List.length) (byt := sbyt) (A := fun q => s.heap.size ≤ q) (by decide +kernel) (fun i hi => hs _ (fl_ex i hi)) (fun i hi => hs _ (fl_co i hi)) (fun i hi => hs _ (fl_ar i hi)) (fun i hi => hs _ (fl_le i hi)) (fun i hi j hj => hs _ (fl_el i hi j hj)) (fun i j hi hj hij => (fl_ne i hi j hj hij).imp (hs _) (hs _)) hA
  have htt : ∀ w ∈ TT, w.before args s = true := fun w hw => hts w (tt_lw hw)
  obtain ⟨D, hD⟩ := st_cls htt
  obtain ⟨cA, hcA⟩ := st_arr hts
  refine ⟨(D, cA, adK, adV), ⟨⟨hD, hcA⟩, fun w hw => ?_, fun q hq => va_Nc.of (hs _ (fl_nc q hq)), fun i q hq => ?_, fun ty ht => hts _ (lt_ao ty ht)⟩, hvk, va_Zof (hts _ lt_c1) (hts _ lt_c3) (va_eqi (hs _ fl_cs)) hA, va_Zqof (hts _ lt_c2) (hts _ lt_c4) (hs _ fl_si) hA⟩
  · have h1 := hts w (List.mem_filter.mp hw).1
    have h2 := (List.mem_filter.mp hw).2
    cases w with
    | methodLinkNest a i x hh => exact va_tabs rfl rfl h1
    | castable a c => exact va_tabs rfl rfl h1
    | _ => cases h2
  · have hi : i < 12 := (List.getElem?_eq_some_iff.mp hq).1
    have e : skey.getD i sk0 = q := by rw [List.getD_eq_getElem?_getD, hq]; rfl
    have h1 := hts _ (List.mem_of_getElem? (lt_sr i hi))
    have h2 := hev i hi
    rw [tmS, e] at h2
    rw [e] at h1
    exact vk_R.of h1 h2
