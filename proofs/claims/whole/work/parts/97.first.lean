/-! the first state, of both sides -/
def t0 : Tt := fun i j k => if i = 6 then (if j = 0 then (if k = 1 then 300 else if k = 2 then 40 else if k = 5 then 1 else 0) else if j = 1 then 3 else if j = 2 then 1 else 0) else 0
def S0 : St := (t0, t0, fun _ _ => 0, fun _ _ => 0)
theorem ti0 : TI t0 := ⟨by decide, by decide, by decide, by decide, fun h hh => absurd hh (Nat.not_lt_zero h)⟩
theorem si0 : SI S0 := ⟨ti0, fun _ => ti0, fun _ _ => Or.inl rfl, fun _ _ => Nat.zero_le _, Or.inl rfl, by decide⟩
set_option maxRecDepth 100000 in
theorem wx0 : WX muX.2.2 := by
  refine ⟨by decide +kernel, by decide +kernel, by decide +kernel, by decide +kernel, fun B hB => ?_, fun o ho => ?_⟩
  · rcases hB with rfl | rfl | rfl <;> decide +kernel
  · have h := fa_cases (P := fun o => decide (muX.2.2 o 4 = some (o + 1) ∧ muX.2.2 o 5 = some (o + 2) ∧ muX.2.2 o 6 = some (o + 3) ∧ muX.2.2 o 7 = some (o + 4) ∧ muX.2.2 o 8 = some (o + 5) ∧ muX.2.2 o 9 = some (o + 6)) = true) (by decide +kernel) ho
    exact of_decide_eq_true h
set_option maxRecDepth 100000 in
theorem tx0 : TX muX 26 t0 := ⟨ti0, by decide +kernel, by decide +kernel, fun h hh => absurd hh (Nat.not_lt_zero h)⟩
set_option maxRecDepth 100000 in
theorem sx0 : SX muX S0 := ⟨by decide +kernel, by decide +kernel, by decide +kernel, by decide +kernel, by decide +kernel, fun i _ h => absurd h (Nat.not_lt_zero i), fun s _ i h => absurd h (Nat.not_lt_zero i)⟩
set_option maxRecDepth 100000 in
theorem rxS0 : RX muX S0 := ⟨si0, wx0, ⟨26, 72, Or.inl ⟨rfl, rfl⟩, by decide +kernel, by decide +kernel, tx0⟩, fun h => absurd (show (0 : Nat) = 1 from h) (by decide), sx0⟩
set_option maxRecDepth 100000 in
theorem wm0 : WM muM.2.2 := by
  unfold WM
  decide +kernel
set_option maxRecDepth 100000 in
theorem tm0 : TMX muM t0 := ⟨ti0, by decide +kernel, by decide +kernel, fun h hh => absurd hh (Nat.not_lt_zero h)⟩
set_option maxRecDepth 100000 in
theorem sm0 : SMX muM S0 := ⟨by decide +kernel, by decide +kernel, by decide +kernel, by decide +kernel, by decide +kernel, fun i _ h => absurd h (Nat.not_lt_zero i), fun s _ i h => absurd h (Nat.not_lt_zero i)⟩
theorem rmS0 : RMX muM S0 := ⟨si0, wm0, tm0, fun h => absurd (show (0 : Nat) = 1 from h) (by decide), sm0⟩
