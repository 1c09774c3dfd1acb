set_option maxRecDepth 100000 in
theorem lX6_max : LMax RX6 97 := ⟨tt_c3 97 (by decide +kernel) rfl, tt_c3 98 (by decide +kernel) rfl, tt_c1 15 (by decide +kernel) rfl, tt_c3 99 rfl rfl⟩
set_option maxRecDepth 100000 in
theorem lX3_max : LMax RX3 62 := ⟨tt_c3 223 (by decide +kernel) rfl, tt_c3 98 (by decide +kernel) rfl, tt_c1 15 (by decide +kernel) rfl, tt_c3 99 rfl rfl⟩
set_option maxRecDepth 100000 in
theorem lX12_max : LMax RX12 223 := ⟨tt_c5 140 (by decide +kernel) rfl, tt_c3 98 (by decide +kernel) rfl, tt_c1 15 (by decide +kernel) rfl, tt_c3 99 rfl rfl⟩
theorem kJ6_265 : Cond.constant RJ6 265 (1431655765) ∈ TT := tt_c3 145 (by decide +kernel) rfl
theorem kJ6_266 : Cond.constant RJ6 266 (858993459) ∈ TT := tt_c3 146 (by decide +kernel) rfl
theorem kJ6_267 : Cond.constant RJ6 267 (252645135) ∈ TT := tt_c3 147 (by decide +kernel) rfl
theorem kX9_114 : Cond.constant RX9 114 (1103515245) ∈ TT := tt_c4 87 (by decide +kernel) rfl
theorem kJ6_127 : Cond.constant RJ6 127 (-2147483648) ∈ TT := tt_c5 230 (by decide +kernel) rfl
theorem kJ6_264 : Cond.constant RJ6 264 (65536) ∈ TT := tt_c5 234 (by decide +kernel) rfl
theorem kX12_278 : Cond.constant RX12 278 (1103515245) ∈ TT := tt_c6 141 (by decide +kernel) rfl
theorem kL_18 : Cond.constantLong "PaintedOverLaw" 18 (4294967295) ∈ TT := tt_c6 182 (by decide +kernel) rfl
theorem lX11_copy : LCopy RX11 117 := ⟨tt_c2 87 (by decide +kernel) rfl, tt_c2 89 (by decide +kernel) rfl, tt_c2 88 (by decide +kernel) rfl, tt_c1 14 (by decide +kernel) rfl⟩
theorem lX3_copy : LCopy RX3 44 := ⟨tt_c3 18 (by decide +kernel) rfl, tt_c2 89 (by decide +kernel) rfl, tt_c2 88 (by decide +kernel) rfl, tt_c1 14 (by decide +kernel) rfl⟩
theorem lX9_copy : LCopy RX9 54 := ⟨tt_c3 19 (by decide +kernel) rfl, tt_c2 89 (by decide +kernel) rfl, tt_c2 88 (by decide +kernel) rfl, tt_c1 14 (by decide +kernel) rfl⟩
theorem clX11_38 : Cond.classLink RX11 38 RX6 ∈ TT := tt_c1 31 (by decide +kernel) rfl
theorem clX11_48 : Cond.classLink RX11 48 RX10 ∈ TT := tt_c1 59 (by decide +kernel) rfl
theorem clX11_55 : Cond.classLink RX11 55 RX4 ∈ TT := tt_c1 87 (by decide +kernel) rfl
theorem clX11_58 : Cond.classLink RX11 58 RX2 ∈ TT := tt_c1 95 (by decide +kernel) rfl
theorem clX11_61 : Cond.classLink RX11 61 RX5 ∈ TT := tt_c1 102 (by decide +kernel) rfl
theorem clX11_64 : Cond.classLink RX11 64 RX1 ∈ TT := tt_c1 109 (by decide +kernel) rfl
theorem clX11_67 : Cond.classLink RX11 67 RX7 ∈ TT := tt_c1 116 (by decide +kernel) rfl
theorem clX11_70 : Cond.classLink RX11 70 RX8 ∈ TT := tt_c1 123 (by decide +kernel) rfl
theorem clX11_73 : Cond.classLink RX11 73 RX0 ∈ TT := tt_c1 130 (by decide +kernel) rfl
theorem clX11_76 : Cond.classLink RX11 76 RX9 ∈ TT := tt_c1 137 (by decide +kernel) rfl
theorem ca_X1_X2 : Cond.castable RX1 RX2 ∈ NW := List.mem_filter.mpr ⟨List.mem_of_getElem? (i := 1457) (by decide +kernel), rfl⟩
theorem ca_X0_X5 : Cond.castable RX0 RX5 ∈ NW := List.mem_filter.mpr ⟨List.mem_of_getElem? (i := 1458) (by decide +kernel), rfl⟩
theorem ca_X8_X5 : Cond.castable RX8 RX5 ∈ NW := List.mem_filter.mpr ⟨List.mem_of_getElem? (i := 1459) (by decide +kernel), rfl⟩
theorem ca_X2_X4 : Cond.castable RX2 RX4 ∈ NW := List.mem_filter.mpr ⟨List.mem_of_getElem? (i := 1460) (by decide +kernel), rfl⟩
theorem ca_X5_X4 : Cond.castable RX5 RX4 ∈ NW := List.mem_filter.mpr ⟨List.mem_of_getElem? (i := 1461) (by decide +kernel), rfl⟩
theorem ca_X1_X4 : Cond.castable RX1 RX4 ∈ NW := List.mem_filter.mpr ⟨List.mem_of_getElem? (i := 1462) (by decide +kernel), rfl⟩
theorem ca_X7_X4 : Cond.castable RX7 RX4 ∈ NW := List.mem_filter.mpr ⟨List.mem_of_getElem? (i := 1463) (by decide +kernel), rfl⟩
theorem ca_X8_X4 : Cond.castable RX8 RX4 ∈ NW := List.mem_filter.mpr ⟨List.mem_of_getElem? (i := 1464) (by decide +kernel), rfl⟩
theorem ca_X0_X4 : Cond.castable RX0 RX4 ∈ NW := List.mem_filter.mpr ⟨List.mem_of_getElem? (i := 1465) (by decide +kernel), rfl⟩
