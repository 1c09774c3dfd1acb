set_option maxRecDepth 100000 in
theorem lX6_max : LMax RX6 97 := ⟨tt_c3 97 (by decide +kernel) rfl, tt_c3 98 (by decide +kernel) rfl, tt_c1 15 (by decide +kernel) rfl, tt_c3 99 rfl rfl⟩
set_option maxRecDepth 100000 in
theorem lX3_max : LMax RX3 62 := ⟨tt_c3 223 (by decide +kernel) rfl, tt_c3 98 (by decide +kernel) rfl, tt_c1 15 (by decide +kernel) rfl, tt_c3 99 rfl rfl⟩
set_option maxRecDepth 100000 in
theorem lX12_max : LMax RX12 223 := ⟨tt_c5 140 (by decide +kernel) rfl, tt_c3 98 (by decide +kernel) rfl, tt_c1 15 (by decide +kernel) rfl, tt_c3 99 rfl rfl⟩
theorem kJ6_265 : Cond.constant RJ6 265 (1431655765) ∈ TT := tt_c3 145 (by decide +kernel) rfl
theorem kJ6_266 : Cond.constant RJ6 266 (858993459) ∈ TT := tt_c3 146 (by decide +kernel) rfl
theorem kJ6_267 : Cond.constant RJ6 267 (252645135) ∈ TT := tt_c3 147 (by decide +kernel) rfl
theorem kX9_114 : Cond.constant RX9 114 (1103515245) ∈ TT := tt_c4 87 (by decide +kernel) rfl
theorem kJ6_127 : Cond.constant RJ6 127 (-2147483648) ∈ TT := tt_c5 230 (by decide +kernel) rfl
theorem kJ6_264 : Cond.constant RJ6 264 (65536) ∈ TT := tt_c5 234 (by decide +kernel) rfl
theorem kX12_278 : Cond.constant RX12 278 (1103515245) ∈ TT := tt_c6 141 (by decide +kernel) rfl
theorem kL_18 : Cond.constantLong "PaintedOverLaw" 18 (4294967295) ∈ TT := tt_c6 182 (by decide +kernel) rfl
theorem lX11_copy : LCopy RX11 117 := ⟨tt_c2 87 (by decide +kernel) rfl, tt_c2 89 (by decide +kernel) rfl, tt_c2 88 (by decide +kernel) rfl, tt_c1 14 (by decide +kernel) rfl⟩
theorem lX3_copy : LCopy RX3 44 := ⟨tt_c3 18 (by decide +kernel) rfl, tt_c2 89 (by decide +kernel) rfl, tt_c2 88 (by decide +kernel) rfl, tt_c1 14 (by decide +kernel) rfl⟩
theorem lX9_copy : LCopy RX9 54 := ⟨tt_c3 19 (by decide +kernel) rfl, tt_c2 89 (by decide +kernel) rfl, tt_c2 88 (by decide +kernel) rfl, tt_c1 14 (by decide +kernel) rfl⟩
