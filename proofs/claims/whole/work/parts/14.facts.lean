/-! what the tables say of each class, field and call: by program -/
theorem tt_lays {C : String} {T : u_T} {N : Nat} (h : ∀ w ∈ u_ws C T N, w ∈ lw_tbl) : ∀ w ∈ u_ws C T N, w ∈ TT := fun w hw => tt_mem (h w hw) (by
  obtain ⟨k, -, rfl⟩ := List.mem_map.mp hw
  unfold u_lay
  split <;> rfl)
theorem tt_c1 {w : Cond} (i : Nat) (h : tables_1_1[i]? = some w) (hg : goodWord w = true) : w ∈ TT := tt_mem (List.mem_append_right _ (List.mem_append_left _ (List.mem_of_getElem? h))) hg
theorem tt_c2 {w : Cond} (i : Nat) (h : tables_1_2[i]? = some w) (hg : goodWord w = true) : w ∈ TT := tt_mem (List.mem_append_right _ (List.mem_append_right _ (List.mem_append_left _ (List.mem_of_getElem? h)))) hg
theorem tt_c3 {w : Cond} (i : Nat) (h : tables_1_3[i]? = some w) (hg : goodWord w = true) : w ∈ TT := tt_mem (List.mem_append_right _ (List.mem_append_right _ (List.mem_append_right _ (List.mem_append_left _ (List.mem_of_getElem? h))))) hg
theorem tt_c4 {w : Cond} (i : Nat) (h : tables_1_4[i]? = some w) (hg : goodWord w = true) : w ∈ TT := tt_mem (List.mem_append_right _ (List.mem_append_right _ (List.mem_append_right _ (List.mem_append_right _ (List.mem_append_left _ (List.mem_of_getElem? h)))))) hg
theorem tt_c5 {w : Cond} (i : Nat) (h : tables_1_5[i]? = some w) (hg : goodWord w = true) : w ∈ TT := tt_mem (List.mem_append_right _ (List.mem_append_right _ (List.mem_append_right _ (List.mem_append_right _ (List.mem_append_right _ (List.mem_append_left _ (List.mem_of_getElem? h))))))) hg
theorem tt_c6 {w : Cond} (i : Nat) (h : tables_1_6[i]? = some w) (hg : goodWord w = true) : w ∈ TT := tt_mem (List.mem_append_right _ (List.mem_append_right _ (List.mem_append_right _ (List.mem_append_right _ (List.mem_append_right _ (List.mem_append_right _ (List.mem_of_getElem? h))))))) hg
theorem cfX0 : CF 0 RX0 TX0 := ⟨rfl, (fun w hw => absurd (show w ∈ ([] : List Cond) from hw) List.not_mem_nil), (fun k hk => absurd hk (Nat.not_lt_zero k)), (fun a ha => absurd ha (Nat.not_lt_zero a))⟩
theorem cfX1 : CF 1 RX1 TX1 := ⟨rfl, (fun w hw => absurd (show w ∈ ([] : List Cond) from hw) List.not_mem_nil), (fun k hk => absurd hk (Nat.not_lt_zero k)), (fun a ha => absurd ha (Nat.not_lt_zero a))⟩
theorem cfX2 : CF 2 RX2 TX2 := ⟨rfl, (fun w hw => absurd (show w ∈ ([] : List Cond) from hw) List.not_mem_nil), (fun k hk => absurd hk (Nat.not_lt_zero k)), (fun a ha => absurd ha (Nat.not_lt_zero a))⟩
theorem cfX3 : CF 3 RX3 TX3 := ⟨rfl, tt_lays (fun w hw => List.mem_of_getElem? (i := ([247, 249, 251, 253, 255, 257, 259, 261, 263, 265] : List Nat).getD ((u_ws RX3 TX3 10).idxOf w) 0) (by
  obtain ⟨k, hk, rfl⟩ := List.mem_map.mp hw
  have hk : k < 10 := List.mem_range.mp hk
  revert k
  decide +kernel)), by decide +kernel, by decide +kernel⟩
theorem cfX4 : CF 4 RX4 TX4 := ⟨rfl, (fun w hw => absurd (show w ∈ ([] : List Cond) from hw) List.not_mem_nil), (fun k hk => absurd hk (Nat.not_lt_zero k)), (fun a ha => absurd ha (Nat.not_lt_zero a))⟩
theorem cfX5 : CF 5 RX5 TX5 := ⟨rfl, (fun w hw => absurd (show w ∈ ([] : List Cond) from hw) List.not_mem_nil), (fun k hk => absurd hk (Nat.not_lt_zero k)), (fun a ha => absurd ha (Nat.not_lt_zero a))⟩
theorem cfX6 : CF 6 RX6 TX6 := ⟨rfl, tt_lays (fun w hw => List.mem_of_getElem? (i := ([115, 117, 119, 121, 123, 125] : List Nat).getD ((u_ws RX6 TX6 6).idxOf w) 0) (by
  obtain ⟨k, hk, rfl⟩ := List.mem_map.mp hw
  have hk : k < 6 := List.mem_range.mp hk
  revert k
  decide +kernel)), by decide +kernel, by decide +kernel⟩
theorem cfX7 : CF 7 RX7 TX7 := ⟨rfl, (fun w hw => absurd (show w ∈ ([] : List Cond) from hw) List.not_mem_nil), (fun k hk => absurd hk (Nat.not_lt_zero k)), (fun a ha => absurd ha (Nat.not_lt_zero a))⟩
theorem cfX8 : CF 8 RX8 TX8 := ⟨rfl, (fun w hw => absurd (show w ∈ ([] : List Cond) from hw) List.not_mem_nil), (fun k hk => absurd hk (Nat.not_lt_zero k)), (fun a ha => absurd ha (Nat.not_lt_zero a))⟩
theorem cfX9 : CF 9 RX9 TX9 := ⟨rfl, tt_lays (fun w hw => List.mem_of_getElem? (i := ([292, 294, 296, 298, 300, 302, 304, 306, 308, 310] : List Nat).getD ((u_ws RX9 TX9 10).idxOf w) 0) (by
  obtain ⟨k, hk, rfl⟩ := List.mem_map.mp hw
  have hk : k < 10 := List.mem_range.mp hk
  revert k
  decide +kernel)), by decide +kernel, by decide +kernel⟩
theorem cfX10 : CF 10 RX10 TX10 := ⟨rfl, tt_lays (fun w hw => List.mem_of_getElem? (i := ([149, 151, 153, 155] : List Nat).getD ((u_ws RX10 TX10 4).idxOf w) 0) (by
  obtain ⟨k, hk, rfl⟩ := List.mem_map.mp hw
  have hk : k < 4 := List.mem_range.mp hk
  revert k
  decide +kernel)), by decide +kernel, by decide +kernel⟩
theorem cfX11 : CF 11 RX11 TX11 := ⟨rfl, tt_lays (fun w hw => List.mem_of_getElem? (i := ([327, 329, 331, 333, 335, 337, 339, 341, 343, 345, 347, 349, 351, 353] : List Nat).getD ((u_ws RX11 TX11 14).idxOf w) 0) (by
  obtain ⟨k, hk, rfl⟩ := List.mem_map.mp hw
  have hk : k < 14 := List.mem_range.mp hk
  revert k
  decide +kernel)), by decide +kernel, by decide +kernel⟩
theorem cfX12 : CF 12 RX12 TX12 := ⟨rfl, tt_lays (fun w hw => List.mem_of_getElem? (i := ([1024, 1026, 1028, 1030, 1032, 1034, 1036, 1038, 1040, 1042, 1044, 1046, 1048, 1050, 1052, 1054, 1056, 1058, 1060, 1062, 1064, 1066, 1068, 1070, 1072, 1074, 1076, 1078, 1080, 1082, 1084, 1086, 1088] : List Nat).getD ((u_ws RX12 TX12 33).idxOf w) 0) (by
  obtain ⟨k, hk, rfl⟩ := List.mem_map.mp hw
  have hk : k < 33 := List.mem_range.mp hk
  revert k
  decide +kernel)), by decide +kernel, by decide +kernel⟩
set_option maxRecDepth 100000 in
theorem lL_9 : LI "PaintedOverLaw" 9 yX11_init cX11_init 2 0 := ⟨tt_c1 23 (by decide +kernel) rfl, tt_c1 24 (by decide +kernel) rfl, tt_c1 1 (by decide +kernel) rfl, tt_c1 25 rfl rfl, by decide, rfl, by decide +kernel⟩
set_option maxRecDepth 100000 in
theorem lX11_40 : LIN RX11 40 yX6_init "PaintedOver" cX6_init 1 0 := ⟨List.mem_filter.mpr ⟨List.mem_of_getElem? (i := 104) (by decide +kernel), rfl⟩, tt_c1 34 (by decide +kernel) rfl, tt_c1 2 (by decide +kernel) rfl, tt_c1 35 rfl rfl, by decide, rfl, by decide +kernel⟩
theorem fX6_24 : GF RX6 24 6 0 RX6 TX6 := ⟨cfX6, by decide, tt_c1 37 (by decide +kernel) rfl⟩
theorem fX6_28 : GF RX6 28 6 1 RX6 TX6 := ⟨cfX6, by decide, tt_c1 38 (by decide +kernel) rfl⟩
theorem fX6_9 : GF RX6 9 6 2 RX6 TX6 := ⟨cfX6, by decide, tt_c1 39 (by decide +kernel) rfl⟩
theorem fX6_15 : GF RX6 15 6 3 RX6 TX6 := ⟨cfX6, by decide, tt_c1 40 (by decide +kernel) rfl⟩
theorem fX6_18 : GF RX6 18 6 4 RX6 TX6 := ⟨cfX6, by decide, tt_c1 41 (by decide +kernel) rfl⟩
theorem fX6_21 : GF RX6 21 6 5 RX6 TX6 := ⟨cfX6, by decide, tt_c1 42 (by decide +kernel) rfl⟩
theorem fX11_218 : GF RX11 218 6 5 RX6 TX6 := ⟨cfX6, by decide, tt_c1 43 (by decide +kernel) rfl⟩
set_option maxRecDepth 100000 in
theorem lX11_50 : LIN RX11 50 yX10_init "PaintedOver" cX10_init 1 0 := ⟨List.mem_filter.mpr ⟨List.mem_of_getElem? (i := 132) (by decide +kernel), rfl⟩, tt_c1 62 (by decide +kernel) rfl, tt_c1 3 (by decide +kernel) rfl, tt_c1 63 rfl rfl, by decide, rfl, by decide +kernel⟩
theorem fX10_9 : GF RX10 9 10 0 RX10 TX10 := ⟨cfX10, by decide, tt_c1 65 (by decide +kernel) rfl⟩
theorem fX7_20 : GF RX7 20 10 0 RX10 TX10 := ⟨cfX10, by decide, tt_c1 66 (by decide +kernel) rfl⟩
theorem fX4_13 : GF RX4 13 10 0 RX10 TX10 := ⟨cfX10, by decide, tt_c1 67 (by decide +kernel) rfl⟩
theorem fX11_308 : GF RX11 308 10 0 RX10 TX10 := ⟨cfX10, by decide, tt_c1 68 (by decide +kernel) rfl⟩
theorem fX10_15 : GF RX10 15 10 1 RX10 TX10 := ⟨cfX10, by decide, tt_c1 69 (by decide +kernel) rfl⟩
theorem fX2_17 : GF RX2 17 10 1 RX10 TX10 := ⟨cfX10, by decide, tt_c1 70 (by decide +kernel) rfl⟩
theorem fX0_21 : GF RX0 21 10 1 RX10 TX10 := ⟨cfX10, by decide, tt_c1 71 (by decide +kernel) rfl⟩
theorem fX4_26 : GF RX4 26 10 1 RX10 TX10 := ⟨cfX10, by decide, tt_c1 72 (by decide +kernel) rfl⟩
theorem fX11_311 : GF RX11 311 10 1 RX10 TX10 := ⟨cfX10, by decide, tt_c1 73 (by decide +kernel) rfl⟩
theorem fX10_18 : GF RX10 18 10 2 RX10 TX10 := ⟨cfX10, by decide, tt_c1 74 (by decide +kernel) rfl⟩
theorem fX11_305 : GF RX11 305 10 2 RX10 TX10 := ⟨cfX10, by decide, tt_c1 75 (by decide +kernel) rfl⟩
theorem fX10_21 : GF RX10 21 10 3 RX10 TX10 := ⟨cfX10, by decide, tt_c1 76 (by decide +kernel) rfl⟩
theorem fX11_324 : GF RX11 324 10 3 RX10 TX10 := ⟨cfX10, by decide, tt_c1 77 (by decide +kernel) rfl⟩
set_option maxRecDepth 100000 in
theorem lX11_57 : LIN RX11 57 yX4_init "PaintedOver" cX4_init 1 0 := ⟨List.mem_filter.mpr ⟨List.mem_of_getElem? (i := 161) (by decide +kernel), rfl⟩, tt_c1 91 (by decide +kernel) rfl, tt_c1 4 (by decide +kernel) rfl, tt_c1 92 rfl rfl, by decide, rfl, by decide +kernel⟩
set_option maxRecDepth 100000 in
theorem lX11_60 : LIN RX11 60 yX2_init "PaintedOver" cX2_init 1 0 := ⟨List.mem_filter.mpr ⟨List.mem_of_getElem? (i := 168) (by decide +kernel), rfl⟩, tt_c1 98 (by decide +kernel) rfl, tt_c1 5 (by decide +kernel) rfl, tt_c1 99 rfl rfl, by decide, rfl, by decide +kernel⟩
set_option maxRecDepth 100000 in
theorem lX2_1 : LIN RX2 1 yX4_init "PaintedOver" cX4_init 1 0 := ⟨List.mem_filter.mpr ⟨List.mem_of_getElem? (i := 171) (by decide +kernel), rfl⟩, tt_c1 91 (by decide +kernel) rfl, tt_c1 4 (by decide +kernel) rfl, tt_c1 92 rfl rfl, by decide, rfl, by decide +kernel⟩
set_option maxRecDepth 100000 in
theorem lX11_63 : LIN RX11 63 yX5_init "PaintedOver" cX5_init 1 0 := ⟨List.mem_filter.mpr ⟨List.mem_of_getElem? (i := 175) (by decide +kernel), rfl⟩, tt_c1 105 (by decide +kernel) rfl, tt_c1 6 (by decide +kernel) rfl, tt_c1 106 rfl rfl, by decide, rfl, by decide +kernel⟩
set_option maxRecDepth 100000 in
theorem lX5_1 : LIN RX5 1 yX4_init "PaintedOver" cX4_init 1 0 := ⟨List.mem_filter.mpr ⟨List.mem_of_getElem? (i := 178) (by decide +kernel), rfl⟩, tt_c1 91 (by decide +kernel) rfl, tt_c1 4 (by decide +kernel) rfl, tt_c1 92 rfl rfl, by decide, rfl, by decide +kernel⟩
set_option maxRecDepth 100000 in
theorem lX11_66 : LIN RX11 66 yX1_init "PaintedOver" cX1_init 1 0 := ⟨List.mem_filter.mpr ⟨List.mem_of_getElem? (i := 182) (by decide +kernel), rfl⟩, tt_c1 112 (by decide +kernel) rfl, tt_c1 7 (by decide +kernel) rfl, tt_c1 113 rfl rfl, by decide, rfl, by decide +kernel⟩
set_option maxRecDepth 100000 in
theorem lX1_3 : LIN RX1 3 yX2_init "PaintedOver" cX2_init 1 0 := ⟨List.mem_filter.mpr ⟨List.mem_of_getElem? (i := 185) (by decide +kernel), rfl⟩, tt_c1 98 (by decide +kernel) rfl, tt_c1 5 (by decide +kernel) rfl, tt_c1 99 rfl rfl, by decide, rfl, by decide +kernel⟩
set_option maxRecDepth 100000 in
theorem lX11_69 : LIN RX11 69 yX7_init "PaintedOver" cX7_init 1 0 := ⟨List.mem_filter.mpr ⟨List.mem_of_getElem? (i := 189) (by decide +kernel), rfl⟩, tt_c1 119 (by decide +kernel) rfl, tt_c1 8 (by decide +kernel) rfl, tt_c1 120 rfl rfl, by decide, rfl, by decide +kernel⟩
set_option maxRecDepth 100000 in
theorem lX7_1 : LIN RX7 1 yX4_init "PaintedOver" cX4_init 1 0 := ⟨List.mem_filter.mpr ⟨List.mem_of_getElem? (i := 192) (by decide +kernel), rfl⟩, tt_c1 91 (by decide +kernel) rfl, tt_c1 4 (by decide +kernel) rfl, tt_c1 92 rfl rfl, by decide, rfl, by decide +kernel⟩
set_option maxRecDepth 100000 in
theorem lX11_72 : LIN RX11 72 yX8_init "PaintedOver" cX8_init 1 0 := ⟨List.mem_filter.mpr ⟨List.mem_of_getElem? (i := 196) (by decide +kernel), rfl⟩, tt_c1 126 (by decide +kernel) rfl, tt_c1 9 (by decide +kernel) rfl, tt_c1 127 rfl rfl, by decide, rfl, by decide +kernel⟩
set_option maxRecDepth 100000 in
theorem lX8_3 : LIN RX8 3 yX5_init "PaintedOver" cX5_init 1 0 := ⟨List.mem_filter.mpr ⟨List.mem_of_getElem? (i := 199) (by decide +kernel), rfl⟩, tt_c1 105 (by decide +kernel) rfl, tt_c1 6 (by decide +kernel) rfl, tt_c1 106 rfl rfl, by decide, rfl, by decide +kernel⟩
set_option maxRecDepth 100000 in
theorem lX11_75 : LIN RX11 75 yX0_init "PaintedOver" cX0_init 1 0 := ⟨List.mem_filter.mpr ⟨List.mem_of_getElem? (i := 203) (by decide +kernel), rfl⟩, tt_c1 133 (by decide +kernel) rfl, tt_c1 10 (by decide +kernel) rfl, tt_c1 134 rfl rfl, by decide, rfl, by decide +kernel⟩
set_option maxRecDepth 100000 in
theorem lX0_1 : LIN RX0 1 yX5_init "PaintedOver" cX5_init 1 0 := ⟨List.mem_filter.mpr ⟨List.mem_of_getElem? (i := 206) (by decide +kernel), rfl⟩, tt_c1 105 (by decide +kernel) rfl, tt_c1 6 (by decide +kernel) rfl, tt_c1 106 rfl rfl, by decide, rfl, by decide +kernel⟩
set_option maxRecDepth 100000 in
theorem lX11_78 : LI RX11 78 yX9_init cX9_init 3 1 := ⟨tt_c1 139 (by decide +kernel) rfl, tt_c1 140 (by decide +kernel) rfl, tt_c1 11 (by decide +kernel) rfl, tt_c1 141 rfl rfl, by decide, rfl, by decide +kernel⟩
set_option maxRecDepth 100000 in
theorem lX9_47 : LI RX9 47 yX3_init cX3_init 2 1 := ⟨tt_c1 146 (by decide +kernel) rfl, tt_c1 147 (by decide +kernel) rfl, tt_c1 12 (by decide +kernel) rfl, tt_c1 148 rfl rfl, by decide, rfl, by decide +kernel⟩
theorem fX3_40 : GF RX3 40 3 0 RX3 TX3 := ⟨cfX3, by decide, tt_c1 150 (by decide +kernel) rfl⟩
theorem fX9_67 : GF RX9 67 3 0 RX3 TX3 := ⟨cfX3, by decide, tt_c1 151 (by decide +kernel) rfl⟩
theorem fX11_130 : GF RX11 130 3 0 RX3 TX3 := ⟨cfX3, by decide, tt_c1 152 (by decide +kernel) rfl⟩
theorem fX3_9 : GF RX3 9 3 1 RX3 TX3 := ⟨cfX3, by decide, tt_c1 153 (by decide +kernel) rfl⟩
theorem fX9_71 : GF RX9 71 3 1 RX3 TX3 := ⟨cfX3, by decide, tt_c1 154 (by decide +kernel) rfl⟩
theorem fX11_151 : GF RX11 151 3 1 RX3 TX3 := ⟨cfX3, by decide, tt_c1 155 (by decide +kernel) rfl⟩
theorem fX3_15 : GF RX3 15 3 2 RX3 TX3 := ⟨cfX3, by decide, tt_c1 156 (by decide +kernel) rfl⟩
theorem fX9_74 : GF RX9 74 3 2 RX3 TX3 := ⟨cfX3, by decide, tt_c1 157 (by decide +kernel) rfl⟩
theorem fX11_154 : GF RX11 154 3 2 RX3 TX3 := ⟨cfX3, by decide, tt_c1 158 (by decide +kernel) rfl⟩
theorem fX3_18 : GF RX3 18 3 3 RX3 TX3 := ⟨cfX3, by decide, tt_c1 159 (by decide +kernel) rfl⟩
theorem fX9_77 : GF RX9 77 3 3 RX3 TX3 := ⟨cfX3, by decide, tt_c1 160 (by decide +kernel) rfl⟩
theorem fX6_119 : GF RX6 119 3 3 RX3 TX3 := ⟨cfX3, by decide, tt_c1 161 (by decide +kernel) rfl⟩
theorem fX11_157 : GF RX11 157 3 3 RX3 TX3 := ⟨cfX3, by decide, tt_c1 162 (by decide +kernel) rfl⟩
theorem fX3_21 : GF RX3 21 3 4 RX3 TX3 := ⟨cfX3, by decide, tt_c1 163 (by decide +kernel) rfl⟩
theorem fX11_189 : GF RX11 189 3 4 RX3 TX3 := ⟨cfX3, by decide, tt_c1 164 (by decide +kernel) rfl⟩
theorem fX3_25 : GF RX3 25 3 5 RX3 TX3 := ⟨cfX3, by decide, tt_c1 165 (by decide +kernel) rfl⟩
theorem fX9_90 : GF RX9 90 3 5 RX3 TX3 := ⟨cfX3, by decide, tt_c1 166 (by decide +kernel) rfl⟩
theorem fX11_192 : GF RX11 192 3 5 RX3 TX3 := ⟨cfX3, by decide, tt_c1 167 (by decide +kernel) rfl⟩
theorem fX3_28 : GF RX3 28 3 6 RX3 TX3 := ⟨cfX3, by decide, tt_c1 168 (by decide +kernel) rfl⟩
theorem fX9_93 : GF RX9 93 3 6 RX3 TX3 := ⟨cfX3, by decide, tt_c1 169 (by decide +kernel) rfl⟩
theorem fX11_195 : GF RX11 195 3 6 RX3 TX3 := ⟨cfX3, by decide, tt_c1 170 (by decide +kernel) rfl⟩
theorem fX3_31 : GF RX3 31 3 7 RX3 TX3 := ⟨cfX3, by decide, tt_c1 171 (by decide +kernel) rfl⟩
theorem fX11_198 : GF RX11 198 3 7 RX3 TX3 := ⟨cfX3, by decide, tt_c1 172 (by decide +kernel) rfl⟩
theorem fX3_34 : GF RX3 34 3 8 RX3 TX3 := ⟨cfX3, by decide, tt_c1 173 (by decide +kernel) rfl⟩
theorem fX11_201 : GF RX11 201 3 8 RX3 TX3 := ⟨cfX3, by decide, tt_c1 174 (by decide +kernel) rfl⟩
theorem fX3_37 : GF RX3 37 3 9 RX3 TX3 := ⟨cfX3, by decide, tt_c1 175 (by decide +kernel) rfl⟩
theorem fX9_43 : GF RX9 43 9 0 RX9 TX9 := ⟨cfX9, by decide, tt_c1 197 (by decide +kernel) rfl⟩
theorem fX9_11 : GF RX9 11 9 1 RX9 TX9 := ⟨cfX9, by decide, tt_c1 198 (by decide +kernel) rfl⟩
theorem fX6_115 : GF RX6 115 9 1 RX9 TX9 := ⟨cfX9, by decide, tt_c1 199 (by decide +kernel) rfl⟩
theorem fX11_126 : GF RX11 126 9 1 RX9 TX9 := ⟨cfX9, by decide, tt_c1 200 (by decide +kernel) rfl⟩
theorem fX9_17 : GF RX9 17 9 2 RX9 TX9 := ⟨cfX9, by decide, tt_c1 201 (by decide +kernel) rfl⟩
theorem fX6_109 : GF RX6 109 9 2 RX9 TX9 := ⟨cfX9, by decide, tt_c1 202 (by decide +kernel) rfl⟩
theorem fX11_144 : GF RX11 144 9 2 RX9 TX9 := ⟨cfX9, by decide, tt_c1 203 (by decide +kernel) rfl⟩
theorem fX9_21 : GF RX9 21 9 3 RX9 TX9 := ⟨cfX9, by decide, tt_c1 204 (by decide +kernel) rfl⟩
theorem fX6_50 : GF RX6 50 9 3 RX9 TX9 := ⟨cfX9, by decide, tt_c1 205 (by decide +kernel) rfl⟩
theorem fX11_167 : GF RX11 167 9 3 RX9 TX9 := ⟨cfX9, by decide, tt_c1 206 (by decide +kernel) rfl⟩
theorem fX9_25 : GF RX9 25 9 4 RX9 TX9 := ⟨cfX9, by decide, tt_c1 207 (by decide +kernel) rfl⟩
theorem fX6_60 : GF RX6 60 9 4 RX9 TX9 := ⟨cfX9, by decide, tt_c1 208 (by decide +kernel) rfl⟩
theorem fX11_170 : GF RX11 170 9 4 RX9 TX9 := ⟨cfX9, by decide, tt_c1 209 (by decide +kernel) rfl⟩
theorem fX9_28 : GF RX9 28 9 5 RX9 TX9 := ⟨cfX9, by decide, tt_c1 210 (by decide +kernel) rfl⟩
theorem fX11_173 : GF RX11 173 9 5 RX9 TX9 := ⟨cfX9, by decide, tt_c1 211 (by decide +kernel) rfl⟩
theorem fX9_31 : GF RX9 31 9 6 RX9 TX9 := ⟨cfX9, by decide, tt_c1 212 (by decide +kernel) rfl⟩
theorem fX11_176 : GF RX11 176 9 6 RX9 TX9 := ⟨cfX9, by decide, tt_c1 213 (by decide +kernel) rfl⟩
theorem fX9_34 : GF RX9 34 9 7 RX9 TX9 := ⟨cfX9, by decide, tt_c1 214 (by decide +kernel) rfl⟩
theorem fX6_124 : GF RX6 124 9 7 RX9 TX9 := ⟨cfX9, by decide, tt_c1 215 (by decide +kernel) rfl⟩
theorem fX11_179 : GF RX11 179 9 7 RX9 TX9 := ⟨cfX9, by decide, tt_c1 216 (by decide +kernel) rfl⟩
theorem fX9_37 : GF RX9 37 9 8 RX9 TX9 := ⟨cfX9, by decide, tt_c1 217 (by decide +kernel) rfl⟩
theorem fX11_296 : GF RX11 296 9 8 RX9 TX9 := ⟨cfX9, by decide, tt_c1 218 (by decide +kernel) rfl⟩
theorem fX9_40 : GF RX9 40 9 9 RX9 TX9 := ⟨cfX9, by decide, tt_c1 219 (by decide +kernel) rfl⟩
theorem fX11_302 : GF RX11 302 9 9 RX9 TX9 := ⟨cfX9, by decide, tt_c1 220 (by decide +kernel) rfl⟩
theorem fX11_9 : GF RX11 9 11 0 RX11 TX11 := ⟨cfX11, by decide, tt_c2 2 (by decide +kernel) rfl⟩
theorem fX11_13 : GF RX11 13 11 1 RX11 TX11 := ⟨cfX11, by decide, tt_c2 3 (by decide +kernel) rfl⟩
theorem fX11_18 : GF RX11 18 11 2 RX11 TX11 := ⟨cfX11, by decide, tt_c2 4 (by decide +kernel) rfl⟩
theorem fX11_21 : GF RX11 21 11 3 RX11 TX11 := ⟨cfX11, by decide, tt_c2 5 (by decide +kernel) rfl⟩
theorem fX11_24 : GF RX11 24 11 4 RX11 TX11 := ⟨cfX11, by decide, tt_c2 6 (by decide +kernel) rfl⟩
theorem fX11_28 : GF RX11 28 11 5 RX11 TX11 := ⟨cfX11, by decide, tt_c2 7 (by decide +kernel) rfl⟩
theorem fX11_31 : GF RX11 31 11 6 RX11 TX11 := ⟨cfX11, by decide, tt_c2 8 (by decide +kernel) rfl⟩
theorem fX11_81 : GF RX11 81 11 7 RX11 TX11 := ⟨cfX11, by decide, tt_c2 9 (by decide +kernel) rfl⟩
theorem fX11_85 : GF RX11 85 11 8 RX11 TX11 := ⟨cfX11, by decide, tt_c2 10 (by decide +kernel) rfl⟩
theorem fX11_88 : GF RX11 88 11 9 RX11 TX11 := ⟨cfX11, by decide, tt_c2 11 (by decide +kernel) rfl⟩
theorem fX11_34 : GF RX11 34 11 10 RX11 TX11 := ⟨cfX11, by decide, tt_c2 12 (by decide +kernel) rfl⟩
theorem fX11_41 : GF RX11 41 11 11 RX11 TX11 := ⟨cfX11, by decide, tt_c2 13 (by decide +kernel) rfl⟩
theorem fX11_45 : GF RX11 45 11 12 RX11 TX11 := ⟨cfX11, by decide, tt_c2 14 (by decide +kernel) rfl⟩
theorem fX11_51 : GF RX11 51 11 13 RX11 TX11 := ⟨cfX11, by decide, tt_c2 15 (by decide +kernel) rfl⟩
set_option maxRecDepth 100000 in
theorem lL_13 : LV "PaintedOverLaw" 13 RX11 yX11_row cX11_row 5 (some .int) 3 := ⟨tt_c2 45 (by decide +kernel) rfl, tt_c2 46 (by decide +kernel) rfl, tt_c2 47 (by decide +kernel) rfl, tt_c1 1 (by decide +kernel) rfl, tt_c2 48 rfl rfl, by decide, by decide +kernel⟩
set_option maxRecDepth 100000 in
theorem lX11_91 : LSt RX11 91 yX11_outside cX11_outside 2 (some .boolean) 2 := ⟨tt_c2 49 (by decide +kernel) rfl, tt_c2 50 (by decide +kernel) rfl, tt_c1 1 (by decide +kernel) rfl, tt_c2 51 rfl rfl, by decide, by decide +kernel⟩
set_option maxRecDepth 100000 in
theorem lX11_95 : LV RX11 95 RX11 yX11_refuse cX11_refuse 2 (some .int) 1 := ⟨tt_c2 52 (by decide +kernel) rfl, tt_c2 54 (by decide +kernel) rfl, tt_in 0 (by decide +kernel) rfl, tt_c1 1 (by decide +kernel) rfl, tt_c2 55 rfl rfl, by decide, by decide +kernel⟩
set_option maxRecDepth 100000 in
theorem lX11_221 : LV RX11 221 RX11 yX11_refuseDown cX11_refuseDown 3 (some .int) 2 := ⟨tt_c2 56 (by decide +kernel) rfl, tt_c2 58 (by decide +kernel) rfl, tt_in 1 (by decide +kernel) rfl, tt_c1 1 (by decide +kernel) rfl, tt_c2 59 rfl rfl, by decide, by decide +kernel⟩
set_option maxRecDepth 100000 in
theorem lL_20 : LV "PaintedOverLaw" 20 RX11 yX11_set cX11_set 6 (some .int) 3 := ⟨tt_c2 60 (by decide +kernel) rfl, tt_c2 61 (by decide +kernel) rfl, tt_c2 62 (by decide +kernel) rfl, tt_c1 1 (by decide +kernel) rfl, tt_c2 63 rfl rfl, by decide, by decide +kernel⟩
set_option maxRecDepth 100000 in
theorem lX11_99 : LV RX11 99 RX11 yX11_rowTrouble cX11_rowTrouble 2 (some .int) 1 := ⟨tt_c2 64 (by decide +kernel) rfl, tt_c2 66 (by decide +kernel) rfl, tt_in 2 (by decide +kernel) rfl, tt_c1 1 (by decide +kernel) rfl, tt_c2 67 rfl rfl, by decide, by decide +kernel⟩
set_option maxRecDepth 100000 in
theorem lX11_106 : LV RX11 106 RX11 yX11_holdsHouse cX11_holdsHouse 2 (some .boolean) 1 := ⟨tt_c2 68 (by decide +kernel) rfl, tt_c2 70 (by decide +kernel) rfl, tt_in 3 (by decide +kernel) rfl, tt_c1 1 (by decide +kernel) rfl, tt_c2 71 rfl rfl, by decide, by decide +kernel⟩
set_option maxRecDepth 100000 in
theorem lX11_110 : LV RX11 110 RX11 yX11_holdsRow cX11_holdsRow 2 (some .boolean) 1 := ⟨tt_c2 72 (by decide +kernel) rfl, tt_c2 74 (by decide +kernel) rfl, tt_in 4 (by decide +kernel) rfl, tt_c1 1 (by decide +kernel) rfl, tt_c2 75 rfl rfl, by decide, by decide +kernel⟩
set_option maxRecDepth 100000 in
theorem lX11_102 : LSt RX11 102 yX11_lowestBits cX11_lowestBits 3 (some .long) 2 := ⟨tt_c2 76 (by decide +kernel) rfl, tt_c2 77 (by decide +kernel) rfl, tt_c1 1 (by decide +kernel) rfl, tt_c2 78 rfl rfl, by decide, by decide +kernel⟩
set_option maxRecDepth 100000 in
theorem lL_25 : LV "PaintedOverLaw" 25 RX11 yX11_copy cX11_copy 6 (some .int) 5 := ⟨tt_c2 79 (by decide +kernel) rfl, tt_c2 80 (by decide +kernel) rfl, tt_c2 81 (by decide +kernel) rfl, tt_c1 1 (by decide +kernel) rfl, tt_c2 82 rfl rfl, by decide, by decide +kernel⟩
set_option maxRecDepth 100000 in
theorem lX11_113 : LV RX11 113 RX11 yX11_noSuchPart cX11_noSuchPart 4 (some .boolean) 3 := ⟨tt_c2 83 (by decide +kernel) rfl, tt_c2 85 (by decide +kernel) rfl, tt_in 5 (by decide +kernel) rfl, tt_c1 1 (by decide +kernel) rfl, tt_c2 86 rfl rfl, by decide, by decide +kernel⟩
set_option maxRecDepth 100000 in
theorem lL_30 : LV "PaintedOverLaw" 30 RX11 yX11_element cX11_element 3 (some .long) 2 := ⟨tt_c2 90 (by decide +kernel) rfl, tt_c2 91 (by decide +kernel) rfl, tt_c2 92 (by decide +kernel) rfl, tt_c1 1 (by decide +kernel) rfl, tt_c2 93 rfl rfl, by decide, by decide +kernel⟩
set_option maxRecDepth 100000 in
theorem lL_35 : LV "PaintedOverLaw" 35 RX11 yX11_show cX11_show 3 (some .int) 2 := ⟨tt_c2 94 (by decide +kernel) rfl, tt_c2 95 (by decide +kernel) rfl, tt_c2 96 (by decide +kernel) rfl, tt_c1 1 (by decide +kernel) rfl, tt_c2 97 rfl rfl, by decide, by decide +kernel⟩
set_option maxRecDepth 100000 in
theorem lX11_123 : LV RX11 123 RX11 yX11_noHouse cX11_noHouse 2 (some .boolean) 1 := ⟨tt_c2 98 (by decide +kernel) rfl, tt_c2 100 (by decide +kernel) rfl, tt_in 6 (by decide +kernel) rfl, tt_c1 1 (by decide +kernel) rfl, tt_c2 101 rfl rfl, by decide, by decide +kernel⟩
set_option maxRecDepth 100000 in
theorem lL_40 : LV "PaintedOverLaw" 40 RX11 yX11_holds cX11_holds 2 (some .int) 1 := ⟨tt_c2 102 (by decide +kernel) rfl, tt_c2 103 (by decide +kernel) rfl, tt_c2 104 (by decide +kernel) rfl, tt_c1 1 (by decide +kernel) rfl, tt_c2 105 rfl rfl, by decide, by decide +kernel⟩
set_option maxRecDepth 100000 in
theorem lL_45 : LV "PaintedOverLaw" 45 RX11 yX11_says cX11_says 4 (some .int) 2 := ⟨tt_c2 106 (by decide +kernel) rfl, tt_c2 107 (by decide +kernel) rfl, tt_c2 108 (by decide +kernel) rfl, tt_c1 1 (by decide +kernel) rfl, tt_c2 109 rfl rfl, by decide, by decide +kernel⟩
set_option maxRecDepth 100000 in
theorem lX11_136 : LSt RX11 136 yX11_isOf cX11_isOf 2 (some .boolean) 2 := ⟨tt_c2 110 (by decide +kernel) rfl, tt_c2 111 (by decide +kernel) rfl, tt_c1 1 (by decide +kernel) rfl, tt_c2 112 rfl rfl, by decide, by decide +kernel⟩
set_option maxRecDepth 100000 in
theorem lX11_140 : LV RX11 140 RX11 yX11_saidBy cX11_saidBy 3 (some .int) 2 := ⟨tt_c2 113 (by decide +kernel) rfl, tt_c2 115 (by decide +kernel) rfl, tt_in 7 (by decide +kernel) rfl, tt_c1 1 (by decide +kernel) rfl, tt_c2 116 rfl rfl, by decide, by decide +kernel⟩
set_option maxRecDepth 100000 in
theorem lX11_231 : LV RX11 231 RX3 yX3_wetness cX3_wetness 3 (some .int) 2 := ⟨tt_c2 117 (by decide +kernel) rfl, tt_c2 118 (by decide +kernel) rfl, tt_c2 119 (by decide +kernel) rfl, tt_c1 12 (by decide +kernel) rfl, tt_c2 120 rfl rfl, by decide, by decide +kernel⟩
set_option maxRecDepth 100000 in
theorem lX3_67 : LV RX3 67 RX4 yX4_wetness cX4_wetness 4 (some .int) 3 := ⟨tt_c2 121 (by decide +kernel) rfl, tt_c2 122 (by decide +kernel) rfl, tt_c2 123 (by decide +kernel) rfl, tt_c1 4 (by decide +kernel) rfl, tt_c2 136 rfl rfl, by decide, by decide +kernel⟩
set_option maxRecDepth 100000 in
theorem lX3_67_X0 : LU RX3 67 RX0 "PaintedOver$Kind" yX4_wetness yX4_wetness cX4_wetness 4 (some .int) 3 := ⟨⟨tt_c2 121 (by decide +kernel) rfl, tt_c2 124 (by decide +kernel) rfl, tt_c2 125 (by decide +kernel) rfl, tt_c2 122 (by decide +kernel) rfl, tt_c1 4 (by decide +kernel) rfl, tt_c2 136 rfl rfl, by decide⟩, Or.inl rfl, by decide +kernel⟩
set_option maxRecDepth 100000 in
theorem lX3_67_X1 : LU RX3 67 RX1 "PaintedOver$Kind" yX4_wetness yX1_wetness cX1_wetness 5 (some .int) 3 := ⟨⟨tt_c2 121 (by decide +kernel) rfl, tt_c2 124 (by decide +kernel) rfl, tt_c2 126 (by decide +kernel) rfl, tt_c2 127 (by decide +kernel) rfl, tt_c1 7 (by decide +kernel) rfl, tt_c2 128 rfl rfl, by decide⟩, Or.inr ⟨tt_c2 122 (by decide +kernel) rfl, cX4_wetness, 4, (some .int), tt_c2 136 rfl rfl⟩, by decide +kernel⟩
set_option maxRecDepth 100000 in
theorem lX3_67_X2 : LU RX3 67 RX2 "PaintedOver$Kind" yX4_wetness yX2_wetness cX2_wetness 4 (some .int) 3 := ⟨⟨tt_c2 121 (by decide +kernel) rfl, tt_c2 124 (by decide +kernel) rfl, tt_c2 132 (by decide +kernel) rfl, tt_c2 130 (by decide +kernel) rfl, tt_c1 5 (by decide +kernel) rfl, tt_c2 131 rfl rfl, by decide⟩, Or.inr ⟨tt_c2 122 (by decide +kernel) rfl, cX4_wetness, 4, (some .int), tt_c2 136 rfl rfl⟩, by decide +kernel⟩
set_option maxRecDepth 100000 in
theorem lX3_67_X5 : LU RX3 67 RX5 "PaintedOver$Kind" yX4_wetness yX4_wetness cX4_wetness 4 (some .int) 3 := ⟨⟨tt_c2 121 (by decide +kernel) rfl, tt_c2 124 (by decide +kernel) rfl, tt_c2 133 (by decide +kernel) rfl, tt_c2 122 (by decide +kernel) rfl, tt_c1 4 (by decide +kernel) rfl, tt_c2 136 rfl rfl, by decide⟩, Or.inl rfl, by decide +kernel⟩
set_option maxRecDepth 100000 in
theorem lX3_67_X7 : LU RX3 67 RX7 "PaintedOver$Kind" yX4_wetness yX4_wetness cX4_wetness 4 (some .int) 3 := ⟨⟨tt_c2 121 (by decide +kernel) rfl, tt_c2 124 (by decide +kernel) rfl, tt_c2 134 (by decide +kernel) rfl, tt_c2 122 (by decide +kernel) rfl, tt_c1 4 (by decide +kernel) rfl, tt_c2 136 rfl rfl, by decide⟩, Or.inl rfl, by decide +kernel⟩
set_option maxRecDepth 100000 in
theorem lX3_67_X8 : LU RX3 67 RX8 "PaintedOver$Kind" yX4_wetness yX4_wetness cX4_wetness 4 (some .int) 3 := ⟨⟨tt_c2 121 (by decide +kernel) rfl, tt_c2 124 (by decide +kernel) rfl, tt_c2 135 (by decide +kernel) rfl, tt_c2 122 (by decide +kernel) rfl, tt_c1 4 (by decide +kernel) rfl, tt_c2 136 rfl rfl, by decide⟩, Or.inl rfl, by decide +kernel⟩
set_option maxRecDepth 100000 in
theorem lX1_9 : LSU RX1 9 yX2_wetness cX2_wetness 4 (some .int) 3 := ⟨tt_c2 129 (by decide +kernel) rfl, tt_c6 183 (by decide +kernel) rfl, tt_c1 115 (by decide +kernel) rfl, tt_c2 130 (by decide +kernel) rfl, tt_c1 5 (by decide +kernel) rfl, tt_c2 131 rfl rfl, by decide, by decide +kernel⟩
set_option maxRecDepth 100000 in
theorem lX11_330 : LV RX11 330 RX3 yX3_hardness cX3_hardness 3 (some .int) 2 := ⟨tt_c2 137 (by decide +kernel) rfl, tt_c2 138 (by decide +kernel) rfl, tt_c2 139 (by decide +kernel) rfl, tt_c1 12 (by decide +kernel) rfl, tt_c2 140 rfl rfl, by decide, by decide +kernel⟩
set_option maxRecDepth 100000 in
theorem lX3_73 : LV RX3 73 RX4 yX4_hardness cX4_hardness 4 (some .int) 3 := ⟨tt_c2 141 (by decide +kernel) rfl, tt_c2 142 (by decide +kernel) rfl, tt_c2 143 (by decide +kernel) rfl, tt_c1 4 (by decide +kernel) rfl, tt_c2 159 rfl rfl, by decide, by decide +kernel⟩
set_option maxRecDepth 100000 in
theorem lX3_73_X0 : LU RX3 73 RX0 "PaintedOver$Kind" yX4_hardness yX0_hardness cX0_hardness 4 (some .int) 3 := ⟨⟨tt_c2 141 (by decide +kernel) rfl, tt_c2 144 (by decide +kernel) rfl, tt_c2 145 (by decide +kernel) rfl, tt_c2 146 (by decide +kernel) rfl, tt_c1 10 (by decide +kernel) rfl, tt_c2 147 rfl rfl, by decide⟩, Or.inr ⟨tt_c2 142 (by decide +kernel) rfl, cX4_hardness, 4, (some .int), tt_c2 159 rfl rfl⟩, by decide +kernel⟩
set_option maxRecDepth 100000 in
theorem lX3_73_X1 : LU RX3 73 RX1 "PaintedOver$Kind" yX4_hardness yX4_hardness cX4_hardness 4 (some .int) 3 := ⟨⟨tt_c2 141 (by decide +kernel) rfl, tt_c2 144 (by decide +kernel) rfl, tt_c2 151 (by decide +kernel) rfl, tt_c2 142 (by decide +kernel) rfl, tt_c1 4 (by decide +kernel) rfl, tt_c2 159 rfl rfl, by decide⟩, Or.inl rfl, by decide +kernel⟩
set_option maxRecDepth 100000 in
theorem lX3_73_X2 : LU RX3 73 RX2 "PaintedOver$Kind" yX4_hardness yX4_hardness cX4_hardness 4 (some .int) 3 := ⟨⟨tt_c2 141 (by decide +kernel) rfl, tt_c2 144 (by decide +kernel) rfl, tt_c2 152 (by decide +kernel) rfl, tt_c2 142 (by decide +kernel) rfl, tt_c1 4 (by decide +kernel) rfl, tt_c2 159 rfl rfl, by decide⟩, Or.inl rfl, by decide +kernel⟩
set_option maxRecDepth 100000 in
theorem lX3_73_X5 : LU RX3 73 RX5 "PaintedOver$Kind" yX4_hardness yX5_hardness cX5_hardness 4 (some .int) 3 := ⟨⟨tt_c2 141 (by decide +kernel) rfl, tt_c2 144 (by decide +kernel) rfl, tt_c2 153 (by decide +kernel) rfl, tt_c2 149 (by decide +kernel) rfl, tt_c1 6 (by decide +kernel) rfl, tt_c2 150 rfl rfl, by decide⟩, Or.inr ⟨tt_c2 142 (by decide +kernel) rfl, cX4_hardness, 4, (some .int), tt_c2 159 rfl rfl⟩, by decide +kernel⟩
set_option maxRecDepth 100000 in
theorem lX3_73_X7 : LU RX3 73 RX7 "PaintedOver$Kind" yX4_hardness yX4_hardness cX4_hardness 4 (some .int) 3 := ⟨⟨tt_c2 141 (by decide +kernel) rfl, tt_c2 144 (by decide +kernel) rfl, tt_c2 154 (by decide +kernel) rfl, tt_c2 142 (by decide +kernel) rfl, tt_c1 4 (by decide +kernel) rfl, tt_c2 159 rfl rfl, by decide⟩, Or.inl rfl, by decide +kernel⟩
set_option maxRecDepth 100000 in
theorem lX3_73_X8 : LU RX3 73 RX8 "PaintedOver$Kind" yX4_hardness yX8_hardness cX8_hardness 4 (some .int) 3 := ⟨⟨tt_c2 141 (by decide +kernel) rfl, tt_c2 144 (by decide +kernel) rfl, tt_c2 155 (by decide +kernel) rfl, tt_c2 156 (by decide +kernel) rfl, tt_c1 9 (by decide +kernel) rfl, tt_c2 157 rfl rfl, by decide⟩, Or.inr ⟨tt_c2 142 (by decide +kernel) rfl, cX4_hardness, 4, (some .int), tt_c2 159 rfl rfl⟩, by decide +kernel⟩
set_option maxRecDepth 100000 in
theorem lX0_7 : LSU RX0 7 yX5_hardness cX5_hardness 4 (some .int) 3 := ⟨tt_c2 148 (by decide +kernel) rfl, tt_c6 184 (by decide +kernel) rfl, tt_c1 136 (by decide +kernel) rfl, tt_c2 149 (by decide +kernel) rfl, tt_c1 6 (by decide +kernel) rfl, tt_c2 150 rfl rfl, by decide, by decide +kernel⟩
set_option maxRecDepth 100000 in
theorem lX8_9 : LSU RX8 9 yX5_hardness cX5_hardness 4 (some .int) 3 := ⟨tt_c2 158 (by decide +kernel) rfl, tt_c6 184 (by decide +kernel) rfl, tt_c1 129 (by decide +kernel) rfl, tt_c2 149 (by decide +kernel) rfl, tt_c1 6 (by decide +kernel) rfl, tt_c2 150 rfl rfl, by decide, by decide +kernel⟩
set_option maxRecDepth 100000 in
theorem lX11_333 : LV RX11 333 RX11 yX11_strengthOfHighest cX11_strengthOfHighest 3 (some .int) 1 := ⟨tt_c2 160 (by decide +kernel) rfl, tt_c2 162 (by decide +kernel) rfl, tt_in 8 (by decide +kernel) rfl, tt_c1 1 (by decide +kernel) rfl, tt_c2 163 rfl rfl, by decide, by decide +kernel⟩
set_option maxRecDepth 100000 in
theorem lX11_203 : LV RX11 203 RX9 yX9_strength cX9_strength 4 (some .int) 3 := ⟨tt_c2 164 (by decide +kernel) rfl, tt_c2 165 (by decide +kernel) rfl, tt_c2 166 (by decide +kernel) rfl, tt_c1 11 (by decide +kernel) rfl, tt_c2 167 rfl rfl, by decide, by decide +kernel⟩
set_option maxRecDepth 100000 in
theorem lX9_80 : LV RX9 80 RX4 yX4_counted cX4_counted 2 (some .int) 1 := ⟨tt_c2 168 (by decide +kernel) rfl, tt_c2 169 (by decide +kernel) rfl, tt_c2 170 (by decide +kernel) rfl, tt_c1 4 (by decide +kernel) rfl, tt_c2 180 rfl rfl, by decide, by decide +kernel⟩
set_option maxRecDepth 100000 in
theorem lX9_80_X0 : LU RX9 80 RX0 "PaintedOver$Kind" yX4_counted yX4_counted cX4_counted 2 (some .int) 1 := ⟨⟨tt_c2 168 (by decide +kernel) rfl, tt_c2 171 (by decide +kernel) rfl, tt_c2 172 (by decide +kernel) rfl, tt_c2 169 (by decide +kernel) rfl, tt_c1 4 (by decide +kernel) rfl, tt_c2 180 rfl rfl, by decide⟩, Or.inl rfl, by decide +kernel⟩
set_option maxRecDepth 100000 in
theorem lX9_80_X1 : LU RX9 80 RX1 "PaintedOver$Kind" yX4_counted yX4_counted cX4_counted 2 (some .int) 1 := ⟨⟨tt_c2 168 (by decide +kernel) rfl, tt_c2 171 (by decide +kernel) rfl, tt_c2 173 (by decide +kernel) rfl, tt_c2 169 (by decide +kernel) rfl, tt_c1 4 (by decide +kernel) rfl, tt_c2 180 rfl rfl, by decide⟩, Or.inl rfl, by decide +kernel⟩
set_option maxRecDepth 100000 in
theorem lX9_80_X2 : LU RX9 80 RX2 "PaintedOver$Kind" yX4_counted yX4_counted cX4_counted 2 (some .int) 1 := ⟨⟨tt_c2 168 (by decide +kernel) rfl, tt_c2 171 (by decide +kernel) rfl, tt_c2 174 (by decide +kernel) rfl, tt_c2 169 (by decide +kernel) rfl, tt_c1 4 (by decide +kernel) rfl, tt_c2 180 rfl rfl, by decide⟩, Or.inl rfl, by decide +kernel⟩
set_option maxRecDepth 100000 in
theorem lX9_80_X5 : LU RX9 80 RX5 "PaintedOver$Kind" yX4_counted yX4_counted cX4_counted 2 (some .int) 1 := ⟨⟨tt_c2 168 (by decide +kernel) rfl, tt_c2 171 (by decide +kernel) rfl, tt_c2 175 (by decide +kernel) rfl, tt_c2 169 (by decide +kernel) rfl, tt_c1 4 (by decide +kernel) rfl, tt_c2 180 rfl rfl, by decide⟩, Or.inl rfl, by decide +kernel⟩
set_option maxRecDepth 100000 in
theorem lX9_80_X7 : LU RX9 80 RX7 "PaintedOver$Kind" yX4_counted yX7_counted cX7_counted 2 (some .int) 1 := ⟨⟨tt_c2 168 (by decide +kernel) rfl, tt_c2 171 (by decide +kernel) rfl, tt_c2 176 (by decide +kernel) rfl, tt_c2 177 (by decide +kernel) rfl, tt_c1 8 (by decide +kernel) rfl, tt_c2 178 rfl rfl, by decide⟩, Or.inr ⟨tt_c2 169 (by decide +kernel) rfl, cX4_counted, 2, (some .int), tt_c2 180 rfl rfl⟩, by decide +kernel⟩
set_option maxRecDepth 100000 in
theorem lX9_80_X8 : LU RX9 80 RX8 "PaintedOver$Kind" yX4_counted yX4_counted cX4_counted 2 (some .int) 1 := ⟨⟨tt_c2 168 (by decide +kernel) rfl, tt_c2 171 (by decide +kernel) rfl, tt_c2 179 (by decide +kernel) rfl, tt_c2 169 (by decide +kernel) rfl, tt_c1 4 (by decide +kernel) rfl, tt_c2 180 rfl rfl, by decide⟩, Or.inl rfl, by decide +kernel⟩
set_option maxRecDepth 100000 in
theorem lX11_160 : LV RX11 160 RX3 yX3_wholeSkin cX3_wholeSkin 3 (some .int) 0 := ⟨tt_c2 181 (by decide +kernel) rfl, tt_c2 182 (by decide +kernel) rfl, tt_c2 183 (by decide +kernel) rfl, tt_c1 12 (by decide +kernel) rfl, tt_c2 184 rfl rfl, by decide, by decide +kernel⟩
set_option maxRecDepth 100000 in
theorem lX3_58 : LV RX3 58 RX3 yX3_depth cX3_depth 2 (some .int) 1 := ⟨tt_c2 185 (by decide +kernel) rfl, tt_c2 186 (by decide +kernel) rfl, tt_c2 187 (by decide +kernel) rfl, tt_c1 12 (by decide +kernel) rfl, tt_c2 188 rfl rfl, by decide, by decide +kernel⟩
set_option maxRecDepth 100000 in
theorem lX3_54 : LV RX3 54 RX3 yX3_depthFrom cX3_depthFrom 5 (some .int) 2 := ⟨tt_c2 189 (by decide +kernel) rfl, tt_c2 190 (by decide +kernel) rfl, tt_c2 191 (by decide +kernel) rfl, tt_c1 12 (by decide +kernel) rfl, tt_c2 192 rfl rfl, by decide, by decide +kernel⟩
set_option maxRecDepth 100000 in
theorem lX3_50 : LV RX3 50 RX3 yX3_lies cX3_lies 3 (some .boolean) 2 := ⟨tt_c2 193 (by decide +kernel) rfl, tt_c2 194 (by decide +kernel) rfl, tt_c2 195 (by decide +kernel) rfl, tt_c1 12 (by decide +kernel) rfl, tt_c2 196 rfl rfl, by decide, by decide +kernel⟩
set_option maxRecDepth 100000 in
theorem lL_49 : LV "PaintedOverLaw" 49 RX11 yX11_house cX11_house 3 (some .int) 2 := ⟨tt_c2 197 (by decide +kernel) rfl, tt_c2 198 (by decide +kernel) rfl, tt_c2 199 (by decide +kernel) rfl, tt_c1 1 (by decide +kernel) rfl, tt_c2 200 rfl rfl, by decide, by decide +kernel⟩
set_option maxRecDepth 100000 in
theorem lX11_147 : LV RX11 147 RX9 yX9_build cX9_build 4 (some .int) 2 := ⟨tt_c2 201 (by decide +kernel) rfl, tt_c2 202 (by decide +kernel) rfl, tt_c2 203 (by decide +kernel) rfl, tt_c1 11 (by decide +kernel) rfl, tt_c2 204 rfl rfl, by decide, by decide +kernel⟩
set_option maxRecDepth 100000 in
theorem lX9_60 : LSN RX9 60 yX11_outside "PaintedOver" cX11_outside 2 (some .boolean) 2 := ⟨List.mem_filter.mpr ⟨List.mem_of_getElem? (i := 516) (by decide +kernel), rfl⟩, tt_c2 50 (by decide +kernel) rfl, tt_c1 1 (by decide +kernel) rfl, tt_c2 51 rfl rfl, by decide, by decide +kernel⟩
set_option maxRecDepth 100000 in
theorem lX9_64 : LV RX9 64 RX3 yX3_clear cX3_clear 2 none 0 := ⟨tt_c2 206 (by decide +kernel) rfl, tt_c2 207 (by decide +kernel) rfl, tt_c2 208 (by decide +kernel) rfl, tt_c1 12 (by decide +kernel) rfl, tt_c2 209 rfl rfl, by decide, by decide +kernel⟩
set_option maxRecDepth 100000 in
theorem lL_53 : LV "PaintedOverLaw" 53 RX11 yX11_houseOf cX11_houseOf 4 (some .int) 2 := ⟨tt_c2 210 (by decide +kernel) rfl, tt_c2 211 (by decide +kernel) rfl, tt_c2 212 (by decide +kernel) rfl, tt_c1 1 (by decide +kernel) rfl, tt_c2 213 rfl rfl, by decide, by decide +kernel⟩
set_option maxRecDepth 100000 in
theorem lX11_164 : LV RX11 164 RX3 yX3_lived cX3_lived 3 (some .int) 0 := ⟨tt_c2 214 (by decide +kernel) rfl, tt_c2 215 (by decide +kernel) rfl, tt_c2 216 (by decide +kernel) rfl, tt_c1 12 (by decide +kernel) rfl, tt_c2 217 rfl rfl, by decide, by decide +kernel⟩
set_option maxRecDepth 100000 in
theorem lL_57 : LV "PaintedOverLaw" 57 RX11 yX11_colour cX11_colour 6 (some .int) 3 := ⟨tt_c2 218 (by decide +kernel) rfl, tt_c2 219 (by decide +kernel) rfl, tt_c2 220 (by decide +kernel) rfl, tt_c1 1 (by decide +kernel) rfl, tt_c2 221 rfl rfl, by decide, by decide +kernel⟩
set_option maxRecDepth 100000 in
theorem lL_61 : LV "PaintedOverLaw" 61 RX11 yX11_ask cX11_ask 4 (some .int) 2 := ⟨tt_c2 222 (by decide +kernel) rfl, tt_c2 223 (by decide +kernel) rfl, tt_c2 224 (by decide +kernel) rfl, tt_c1 1 (by decide +kernel) rfl, tt_c2 225 rfl rfl, by decide, by decide +kernel⟩
set_option maxRecDepth 100000 in
theorem lL_65 : LV "PaintedOverLaw" 65 RX11 yX11_coat cX11_coat 7 (some .int) 5 := ⟨tt_c2 226 (by decide +kernel) rfl, tt_c2 227 (by decide +kernel) rfl, tt_c2 228 (by decide +kernel) rfl, tt_c1 1 (by decide +kernel) rfl, tt_c2 229 rfl rfl, by decide, by decide +kernel⟩
set_option maxRecDepth 100000 in
theorem lX11_182 : LV RX11 182 RX3 yX3_putOn cX3_putOn 7 (some .int) 5 := ⟨tt_c2 230 (by decide +kernel) rfl, tt_c2 231 (by decide +kernel) rfl, tt_c2 232 (by decide +kernel) rfl, tt_c1 12 (by decide +kernel) rfl, tt_c2 233 rfl rfl, by decide, by decide +kernel⟩
set_option maxRecDepth 100000 in
theorem lL_69 : LV "PaintedOverLaw" 69 RX11 yX11_coatOf cX11_coatOf 5 (some .int) 3 := ⟨tt_c2 234 (by decide +kernel) rfl, tt_c2 235 (by decide +kernel) rfl, tt_c2 236 (by decide +kernel) rfl, tt_c1 1 (by decide +kernel) rfl, tt_c2 237 rfl rfl, by decide, by decide +kernel⟩
set_option maxRecDepth 100000 in
theorem lX11_186 : LV RX11 186 RX11 yX11_noCoat cX11_noCoat 3 (some .boolean) 2 := ⟨tt_c2 238 (by decide +kernel) rfl, tt_c3 0 (by decide +kernel) rfl, tt_in 9 (by decide +kernel) rfl, tt_c1 1 (by decide +kernel) rfl, tt_c3 1 rfl rfl, by decide, by decide +kernel⟩
set_option maxRecDepth 100000 in
theorem lX11_207 : LV RX11 207 RX3 yX3_cellsOf cX3_cellsOf 4 (some .int) 1 := ⟨tt_c3 2 (by decide +kernel) rfl, tt_c3 3 (by decide +kernel) rfl, tt_c3 4 (by decide +kernel) rfl, tt_c1 12 (by decide +kernel) rfl, tt_c3 5 rfl rfl, by decide, by decide +kernel⟩
set_option maxRecDepth 100000 in
theorem lL_73 : LV "PaintedOverLaw" 73 RX11 yX11_street cX11_street 5 (some .int) 1 := ⟨tt_c3 6 (by decide +kernel) rfl, tt_c3 7 (by decide +kernel) rfl, tt_c3 8 (by decide +kernel) rfl, tt_c1 1 (by decide +kernel) rfl, tt_c3 9 rfl rfl, by decide, by decide +kernel⟩
set_option maxRecDepth 100000 in
theorem lX11_210 : LV RX11 210 RX9 yX9_become cX9_become 3 none 1 := ⟨tt_c3 10 (by decide +kernel) rfl, tt_c3 11 (by decide +kernel) rfl, tt_c3 12 (by decide +kernel) rfl, tt_c1 11 (by decide +kernel) rfl, tt_c3 13 rfl rfl, by decide, by decide +kernel⟩
set_option maxRecDepth 100000 in
theorem lX9_50 : LV RX9 50 RX3 yX3_become cX3_become 2 none 1 := ⟨tt_c3 14 (by decide +kernel) rfl, tt_c3 15 (by decide +kernel) rfl, tt_c3 16 (by decide +kernel) rfl, tt_c1 12 (by decide +kernel) rfl, tt_c3 17 rfl rfl, by decide, by decide +kernel⟩
set_option maxRecDepth 100000 in
theorem lX11_214 : LV RX11 214 RX6 yX6_readAll cX6_readAll 6 (some .int) 3 := ⟨tt_c3 20 (by decide +kernel) rfl, tt_c3 21 (by decide +kernel) rfl, tt_c3 22 (by decide +kernel) rfl, tt_c1 2 (by decide +kernel) rfl, tt_c3 23 rfl rfl, by decide, by decide +kernel⟩
set_option maxRecDepth 100000 in
theorem lX6_32 : LV RX6 32 RX6 yX6_readItem cX6_readItem 3 none 0 := ⟨tt_c3 24 (by decide +kernel) rfl, tt_c3 26 (by decide +kernel) rfl, tt_in 10 (by decide +kernel) rfl, tt_c1 2 (by decide +kernel) rfl, tt_c3 27 rfl rfl, by decide, by decide +kernel⟩
set_option maxRecDepth 100000 in
theorem lX6_39 : LV RX6 39 RX6 yX6_readWord cX6_readWord 4 (some .int) 0 := ⟨tt_c3 28 (by decide +kernel) rfl, tt_c3 30 (by decide +kernel) rfl, tt_in 11 (by decide +kernel) rfl, tt_c1 2 (by decide +kernel) rfl, tt_c3 31 rfl rfl, by decide, by decide +kernel⟩
set_option maxRecDepth 100000 in
theorem lX6_84 : LSt RX6 84 yX6_word cX6_word 1 (some (.object "java/lang/String")) 1 := ⟨tt_c3 32 (by decide +kernel) rfl, tt_c3 33 (by decide +kernel) rfl, tt_c1 2 (by decide +kernel) rfl, tt_c3 34 rfl rfl, by decide, by decide +kernel⟩
set_option maxRecDepth 100000 in
theorem lX6_88 : LV RX6 88 RX6 yX6_sameLetters cX6_sameLetters 3 (some .int) 1 := ⟨tt_c3 41 (by decide +kernel) rfl, tt_c3 43 (by decide +kernel) rfl, tt_in 12 (by decide +kernel) rfl, tt_c1 2 (by decide +kernel) rfl, tt_c3 44 rfl rfl, by decide, by decide +kernel⟩
set_option maxRecDepth 100000 in
theorem lX6_92 : LV RX6 92 RJ0 yJ0_length_8abf5 cJ0_length_8abf5 1 (some .int) 0 := ⟨tt_c3 45 (by decide +kernel) rfl, tt_c3 46 (by decide +kernel) rfl, tt_c3 47 (by decide +kernel) rfl, tt_c1 16 (by decide +kernel) rfl, tt_c3 48 rfl rfl, by decide, by decide +kernel⟩
set_option maxRecDepth 100000 in
theorem lJ0_335 : LV RJ0 335 RJ0 yJ0_coder_7d493 cJ0_coder_7d493 1 (some .byte) 0 := ⟨tt_c3 49 (by decide +kernel) rfl, tt_c3 50 (by decide +kernel) rfl, tt_c3 51 (by decide +kernel) rfl, tt_c1 16 (by decide +kernel) rfl, tt_c3 52 rfl rfl, by decide, by decide +kernel⟩
set_option maxRecDepth 100000 in
theorem lX6_102 : LV RX6 102 RX6 yX6_elementAt cX6_elementAt 2 (some .int) 1 := ⟨tt_c3 55 (by decide +kernel) rfl, tt_c3 57 (by decide +kernel) rfl, tt_in 13 (by decide +kernel) rfl, tt_c1 2 (by decide +kernel) rfl, tt_c3 58 rfl rfl, by decide, by decide +kernel⟩
set_option maxRecDepth 100000 in
theorem lX6_105 : LV RX6 105 RJ0 yJ0_charAt_5068e cJ0_charAt_5068e 2 (some .char) 1 := ⟨tt_c3 59 (by decide +kernel) rfl, tt_c3 60 (by decide +kernel) rfl, tt_c3 61 (by decide +kernel) rfl, tt_c1 16 (by decide +kernel) rfl, tt_c3 62 rfl rfl, by decide, by decide +kernel⟩
set_option maxRecDepth 100000 in
theorem lJ0_492 : LV RJ0 492 RJ0 yJ0_isLatin1_aae02 cJ0_isLatin1_aae02 1 (some .boolean) 0 := ⟨tt_c3 63 (by decide +kernel) rfl, tt_c3 64 (by decide +kernel) rfl, tt_c3 65 (by decide +kernel) rfl, tt_c1 16 (by decide +kernel) rfl, tt_c3 66 rfl rfl, by decide, by decide +kernel⟩
set_option maxRecDepth 100000 in
theorem lJ0_495 : LSt RJ0 495 yJ1_charAt_3b067 cJ1_charAt_3b067 2 (some .char) 2 := ⟨tt_c3 67 (by decide +kernel) rfl, tt_c3 68 (by decide +kernel) rfl, tt_c1 17 (by decide +kernel) rfl, tt_c3 69 rfl rfl, by decide, by decide +kernel⟩
set_option maxRecDepth 100000 in
theorem lJ1_9 : LSt RJ1 9 yJ0_checkIndex_df160 cJ0_checkIndex_df160 2 none 2 := ⟨tt_c3 70 (by decide +kernel) rfl, tt_c3 71 (by decide +kernel) rfl, tt_c1 16 (by decide +kernel) rfl, tt_c3 72 rfl rfl, by decide, by decide +kernel⟩
set_option maxRecDepth 100000 in
theorem lJ0_1059 : LSt RJ0 1059 yJ3_checkIndex_8e157 cJ3_checkIndex_8e157 3 (some .int) 3 := ⟨tt_c3 75 (by decide +kernel) rfl, tt_c3 76 (by decide +kernel) rfl, tt_c1 18 (by decide +kernel) rfl, tt_c3 77 rfl rfl, by decide, by decide +kernel⟩
set_option maxRecDepth 100000 in
theorem lJ0_498 : LSt RJ0 498 yJ2_charAt_3b067 cJ2_charAt_3b067 2 (some .char) 2 := ⟨tt_c3 78 (by decide +kernel) rfl, tt_c3 79 (by decide +kernel) rfl, tt_c1 19 (by decide +kernel) rfl, tt_c3 80 rfl rfl, by decide, by decide +kernel⟩
set_option maxRecDepth 100000 in
theorem lJ2_67 : LSt RJ2 67 yJ2_checkIndex_2214a cJ2_checkIndex_2214a 2 none 2 := ⟨tt_c3 81 (by decide +kernel) rfl, tt_c3 82 (by decide +kernel) rfl, tt_c1 19 (by decide +kernel) rfl, tt_c3 83 rfl rfl, by decide, by decide +kernel⟩
set_option maxRecDepth 100000 in
theorem lJ2_48 : LSt RJ2 48 yJ2_length_9d52b cJ2_length_9d52b 1 (some .int) 1 := ⟨tt_c3 84 (by decide +kernel) rfl, tt_c3 85 (by decide +kernel) rfl, tt_c1 19 (by decide +kernel) rfl, tt_c3 86 rfl rfl, by decide, by decide +kernel⟩
set_option maxRecDepth 100000 in
theorem lJ2_414 : LSt RJ2 414 yJ0_checkIndex_df160 cJ0_checkIndex_df160 2 none 2 := ⟨tt_c3 87 (by decide +kernel) rfl, tt_c3 71 (by decide +kernel) rfl, tt_c1 16 (by decide +kernel) rfl, tt_c3 72 rfl rfl, by decide, by decide +kernel⟩
set_option maxRecDepth 100000 in
theorem lJ2_71 : LSt RJ2 71 yJ2_getChar_3b067 cJ2_getChar_3b067 2 (some .char) 2 := ⟨tt_c3 88 (by decide +kernel) rfl, tt_c3 89 (by decide +kernel) rfl, tt_c1 19 (by decide +kernel) rfl, tt_c3 90 rfl rfl, by decide, by decide +kernel⟩
set_option maxRecDepth 100000 in
theorem lX6_97 : LSt RX6 97 yJ9_max_7cf53 cJ9_max_7cf53 2 (some .int) 2 := ⟨tt_c3 97 (by decide +kernel) rfl, tt_c3 98 (by decide +kernel) rfl, tt_c1 15 (by decide +kernel) rfl, tt_c3 99 rfl rfl, by decide, by decide +kernel⟩
set_option maxRecDepth 100000 in
theorem lX6_43 : LV RX6 43 RX6 yX6_readHouse cX6_readHouse 4 none 1 := ⟨tt_c3 100 (by decide +kernel) rfl, tt_c3 102 (by decide +kernel) rfl, tt_in 14 (by decide +kernel) rfl, tt_c1 2 (by decide +kernel) rfl, tt_c3 103 rfl rfl, by decide, by decide +kernel⟩
set_option maxRecDepth 100000 in
theorem lX6_63 : LV RX6 63 RX6 yX6_readNumber cX6_readNumber 4 (some .int) 2 := ⟨tt_c3 104 (by decide +kernel) rfl, tt_c3 106 (by decide +kernel) rfl, tt_in 15 (by decide +kernel) rfl, tt_c1 2 (by decide +kernel) rfl, tt_c3 107 rfl rfl, by decide, by decide +kernel⟩
set_option maxRecDepth 100000 in
theorem lX6_35 : LV RX6 35 RX6 yX6_stands cX6_stands 2 (some .boolean) 1 := ⟨tt_c3 108 (by decide +kernel) rfl, tt_c3 110 (by decide +kernel) rfl, tt_in 16 (by decide +kernel) rfl, tt_c1 2 (by decide +kernel) rfl, tt_c3 111 rfl rfl, by decide, by decide +kernel⟩
set_option maxRecDepth 100000 in
theorem lX6_134 : LV RX6 134 RX6 yX6_isDigit cX6_isDigit 3 (some .boolean) 1 := ⟨tt_c3 112 (by decide +kernel) rfl, tt_c3 114 (by decide +kernel) rfl, tt_in 17 (by decide +kernel) rfl, tt_c1 2 (by decide +kernel) rfl, tt_c3 115 rfl rfl, by decide, by decide +kernel⟩
set_option maxRecDepth 100000 in
theorem lX6_112 : LV RX6 112 RX9 yX9_build cX9_build 4 (some .int) 2 := ⟨tt_c3 116 (by decide +kernel) rfl, tt_c2 202 (by decide +kernel) rfl, tt_c2 203 (by decide +kernel) rfl, tt_c1 11 (by decide +kernel) rfl, tt_c2 204 rfl rfl, by decide, by decide +kernel⟩
set_option maxRecDepth 100000 in
theorem lX6_47 : LV RX6 47 RX6 yX6_readCoat cX6_readCoat 6 none 0 := ⟨tt_c3 117 (by decide +kernel) rfl, tt_c3 119 (by decide +kernel) rfl, tt_in 18 (by decide +kernel) rfl, tt_c1 2 (by decide +kernel) rfl, tt_c3 120 rfl rfl, by decide, by decide +kernel⟩
set_option maxRecDepth 100000 in
theorem lX6_127 : LV RX6 127 RX3 yX3_putOn cX3_putOn 7 (some .int) 5 := ⟨tt_c3 121 (by decide +kernel) rfl, tt_c2 231 (by decide +kernel) rfl, tt_c2 232 (by decide +kernel) rfl, tt_c1 12 (by decide +kernel) rfl, tt_c2 233 rfl rfl, by decide, by decide +kernel⟩
set_option maxRecDepth 100000 in
theorem lX6_56 : LV RX6 56 RX6 yX6_readColour cX6_readColour 5 none 2 := ⟨tt_c3 122 (by decide +kernel) rfl, tt_c3 124 (by decide +kernel) rfl, tt_in 19 (by decide +kernel) rfl, tt_c1 2 (by decide +kernel) rfl, tt_c3 125 rfl rfl, by decide, by decide +kernel⟩
set_option maxRecDepth 100000 in
theorem lX6_67 : LV RX6 67 RX9 yX9_hailOnAll cX9_hailOnAll 5 (some .int) 1 := ⟨tt_c3 126 (by decide +kernel) rfl, tt_c3 127 (by decide +kernel) rfl, tt_c3 128 (by decide +kernel) rfl, tt_c1 11 (by decide +kernel) rfl, tt_c3 129 rfl rfl, by decide, by decide +kernel⟩
set_option maxRecDepth 100000 in
theorem lX9_107 : LV RX9 107 RX3 yX3_hailInTruth cX3_hailInTruth 4 (some .int) 2 := ⟨tt_c3 130 (by decide +kernel) rfl, tt_c3 131 (by decide +kernel) rfl, tt_c3 132 (by decide +kernel) rfl, tt_c1 12 (by decide +kernel) rfl, tt_c3 133 rfl rfl, by decide, by decide +kernel⟩
set_option maxRecDepth 100000 in
theorem lX3_78 : LV RX3 78 RX3 yX3_lyingIn cX3_lyingIn 4 (some .int) 1 := ⟨tt_c3 134 (by decide +kernel) rfl, tt_c3 135 (by decide +kernel) rfl, tt_c3 136 (by decide +kernel) rfl, tt_c1 12 (by decide +kernel) rfl, tt_c3 137 rfl rfl, by decide, by decide +kernel⟩
set_option maxRecDepth 100000 in
theorem lX3_81 : LV RX3 81 RX3 yX3_behindHail cX3_behindHail 6 (some .int) 2 := ⟨tt_c3 138 (by decide +kernel) rfl, tt_c3 139 (by decide +kernel) rfl, tt_c3 140 (by decide +kernel) rfl, tt_c1 12 (by decide +kernel) rfl, tt_c3 141 rfl rfl, by decide, by decide +kernel⟩
set_option maxRecDepth 100000 in
theorem lX3_84 : LSt RX3 84 yJ6_bitCount_0f7a4 cJ6_bitCount_0f7a4 1 (some .int) 1 := ⟨tt_c3 142 (by decide +kernel) rfl, tt_c3 143 (by decide +kernel) rfl, tt_c1 20 (by decide +kernel) rfl, tt_c3 144 rfl rfl, by decide, by decide +kernel⟩
set_option maxRecDepth 100000 in
theorem lX6_71 : LV RX6 71 RX6 yX6_readScratch cX6_readScratch 3 none 0 := ⟨tt_c3 148 (by decide +kernel) rfl, tt_c3 150 (by decide +kernel) rfl, tt_in 20 (by decide +kernel) rfl, tt_c1 2 (by decide +kernel) rfl, tt_c3 151 rfl rfl, by decide, by decide +kernel⟩
set_option maxRecDepth 100000 in
theorem lX6_131 : LV RX6 131 RX3 yX3_takeUppermost cX3_takeUppermost 3 (some .int) 1 := ⟨tt_c3 152 (by decide +kernel) rfl, tt_c3 153 (by decide +kernel) rfl, tt_c3 154 (by decide +kernel) rfl, tt_c1 12 (by decide +kernel) rfl, tt_c3 155 rfl rfl, by decide, by decide +kernel⟩
set_option maxRecDepth 100000 in
theorem lL_77 : LV "PaintedOverLaw" 77 RX11 yX11_fault cX11_fault 1 (some .int) 0 := ⟨tt_c3 157 (by decide +kernel) rfl, tt_c3 158 (by decide +kernel) rfl, tt_c3 159 (by decide +kernel) rfl, tt_c1 1 (by decide +kernel) rfl, tt_c3 160 rfl rfl, by decide, by decide +kernel⟩
set_option maxRecDepth 100000 in
theorem lL_82 : LV "PaintedOverLaw" 82 RX11 yX11_seen cX11_seen 5 (some .int) 3 := ⟨tt_c3 161 (by decide +kernel) rfl, tt_c3 162 (by decide +kernel) rfl, tt_c3 163 (by decide +kernel) rfl, tt_c1 1 (by decide +kernel) rfl, tt_c3 164 rfl rfl, by decide, by decide +kernel⟩
set_option maxRecDepth 100000 in
theorem lX11_224 : LV RX11 224 RX3 yX3_lyingIn cX3_lyingIn 4 (some .int) 1 := ⟨tt_c3 165 (by decide +kernel) rfl, tt_c3 135 (by decide +kernel) rfl, tt_c3 136 (by decide +kernel) rfl, tt_c1 12 (by decide +kernel) rfl, tt_c3 137 rfl rfl, by decide, by decide +kernel⟩
set_option maxRecDepth 100000 in
theorem lX11_227 : LV RX11 227 RX9 yX9_seenAmong cX9_seenAmong 8 (some .int) 4 := ⟨tt_c3 166 (by decide +kernel) rfl, tt_c3 167 (by decide +kernel) rfl, tt_c3 168 (by decide +kernel) rfl, tt_c1 11 (by decide +kernel) rfl, tt_c3 169 rfl rfl, by decide, by decide +kernel⟩
set_option maxRecDepth 100000 in
theorem lX9_86 : LV RX9 86 RX3 yX3_wetness cX3_wetness 3 (some .int) 2 := ⟨tt_c3 170 (by decide +kernel) rfl, tt_c2 118 (by decide +kernel) rfl, tt_c2 119 (by decide +kernel) rfl, tt_c1 12 (by decide +kernel) rfl, tt_c2 120 rfl rfl, by decide, by decide +kernel⟩
set_option maxRecDepth 100000 in
theorem lX9_96 : LV RX9 96 RX9 yX9_strength cX9_strength 4 (some .int) 3 := ⟨tt_c3 171 (by decide +kernel) rfl, tt_c2 165 (by decide +kernel) rfl, tt_c2 166 (by decide +kernel) rfl, tt_c1 11 (by decide +kernel) rfl, tt_c2 167 rfl rfl, by decide, by decide +kernel⟩
set_option maxRecDepth 100000 in
theorem lL_86 : LV "PaintedOverLaw" 86 RX11 yX11_wet cX11_wet 4 (some .int) 3 := ⟨tt_c3 172 (by decide +kernel) rfl, tt_c3 173 (by decide +kernel) rfl, tt_c3 174 (by decide +kernel) rfl, tt_c1 1 (by decide +kernel) rfl, tt_c3 175 rfl rfl, by decide, by decide +kernel⟩
set_option maxRecDepth 100000 in
theorem lL_90 : LV "PaintedOverLaw" 90 RX11 yX11_deep cX11_deep 3 (some .int) 2 := ⟨tt_c3 176 (by decide +kernel) rfl, tt_c3 177 (by decide +kernel) rfl, tt_c3 178 (by decide +kernel) rfl, tt_c1 1 (by decide +kernel) rfl, tt_c3 179 rfl rfl, by decide, by decide +kernel⟩
set_option maxRecDepth 100000 in
theorem lX11_234 : LV RX11 234 RX3 yX3_depth cX3_depth 2 (some .int) 1 := ⟨tt_c3 180 (by decide +kernel) rfl, tt_c2 186 (by decide +kernel) rfl, tt_c2 187 (by decide +kernel) rfl, tt_c1 12 (by decide +kernel) rfl, tt_c2 188 rfl rfl, by decide, by decide +kernel⟩
set_option maxRecDepth 100000 in
theorem lL_94 : LV "PaintedOverLaw" 94 RX11 yX11_skin cX11_skin 2 (some .int) 1 := ⟨tt_c3 181 (by decide +kernel) rfl, tt_c3 182 (by decide +kernel) rfl, tt_c3 183 (by decide +kernel) rfl, tt_c1 1 (by decide +kernel) rfl, tt_c3 184 rfl rfl, by decide, by decide +kernel⟩
set_option maxRecDepth 100000 in
theorem lL_98 : LV "PaintedOverLaw" 98 RX11 yX11_hailed cX11_hailed 4 (some .int) 3 := ⟨tt_c3 185 (by decide +kernel) rfl, tt_c3 186 (by decide +kernel) rfl, tt_c3 187 (by decide +kernel) rfl, tt_c1 1 (by decide +kernel) rfl, tt_c3 188 rfl rfl, by decide, by decide +kernel⟩
set_option maxRecDepth 100000 in
theorem lX11_237 : LV RX11 237 RX3 yX3_behindHail cX3_behindHail 6 (some .int) 2 := ⟨tt_c3 189 (by decide +kernel) rfl, tt_c3 139 (by decide +kernel) rfl, tt_c3 140 (by decide +kernel) rfl, tt_c1 12 (by decide +kernel) rfl, tt_c3 141 rfl rfl, by decide, by decide +kernel⟩
set_option maxRecDepth 100000 in
theorem lL_102 : LV "PaintedOverLaw" 102 RX11 yX11_razor cX11_razor 9 (some .int) 3 := ⟨tt_c3 190 (by decide +kernel) rfl, tt_c3 191 (by decide +kernel) rfl, tt_c3 192 (by decide +kernel) rfl, tt_c1 1 (by decide +kernel) rfl, tt_c3 193 rfl rfl, by decide, by decide +kernel⟩
set_option maxRecDepth 100000 in
theorem lX11_240 : LV RX11 240 RX3 yX3_lies cX3_lies 3 (some .boolean) 2 := ⟨tt_c3 194 (by decide +kernel) rfl, tt_c2 194 (by decide +kernel) rfl, tt_c2 195 (by decide +kernel) rfl, tt_c1 12 (by decide +kernel) rfl, tt_c2 196 rfl rfl, by decide, by decide +kernel⟩
set_option maxRecDepth 100000 in
theorem lX11_243 : LV RX11 243 RX3 yX3_depthFrom cX3_depthFrom 5 (some .int) 2 := ⟨tt_c3 195 (by decide +kernel) rfl, tt_c2 190 (by decide +kernel) rfl, tt_c2 191 (by decide +kernel) rfl, tt_c1 12 (by decide +kernel) rfl, tt_c2 192 rfl rfl, by decide, by decide +kernel⟩
set_option maxRecDepth 100000 in
theorem lL_106 : LV "PaintedOverLaw" 106 RX11 yX11_hidden cX11_hidden 4 (some .int) 2 := ⟨tt_c3 196 (by decide +kernel) rfl, tt_c3 197 (by decide +kernel) rfl, tt_c3 198 (by decide +kernel) rfl, tt_c1 1 (by decide +kernel) rfl, tt_c3 199 rfl rfl, by decide, by decide +kernel⟩
set_option maxRecDepth 100000 in
theorem lX11_246 : LV RX11 246 RX9 yX9_seenSomewhere cX9_seenSomewhere 6 (some .int) 2 := ⟨tt_c3 200 (by decide +kernel) rfl, tt_c3 201 (by decide +kernel) rfl, tt_c3 202 (by decide +kernel) rfl, tt_c1 11 (by decide +kernel) rfl, tt_c3 203 rfl rfl, by decide, by decide +kernel⟩
set_option maxRecDepth 100000 in
theorem lX9_100 : LV RX9 100 RX3 yX3_lyingIn cX3_lyingIn 4 (some .int) 1 := ⟨tt_c3 204 (by decide +kernel) rfl, tt_c3 135 (by decide +kernel) rfl, tt_c3 136 (by decide +kernel) rfl, tt_c1 12 (by decide +kernel) rfl, tt_c3 137 rfl rfl, by decide, by decide +kernel⟩
set_option maxRecDepth 100000 in
theorem lX9_103 : LV RX9 103 RX9 yX9_seenAmong cX9_seenAmong 8 (some .int) 4 := ⟨tt_c3 205 (by decide +kernel) rfl, tt_c3 167 (by decide +kernel) rfl, tt_c3 168 (by decide +kernel) rfl, tt_c1 11 (by decide +kernel) rfl, tt_c3 169 rfl rfl, by decide, by decide +kernel⟩
set_option maxRecDepth 100000 in
theorem lL_110 : LV "PaintedOverLaw" 110 RX11 yX11_shown cX11_shown 7 (some .int) 2 := ⟨tt_c3 206 (by decide +kernel) rfl, tt_c3 207 (by decide +kernel) rfl, tt_c3 208 (by decide +kernel) rfl, tt_c1 1 (by decide +kernel) rfl, tt_c3 209 rfl rfl, by decide, by decide +kernel⟩
set_option maxRecDepth 100000 in
theorem lL_114 : LV "PaintedOverLaw" 114 RX11 yX11_firstWet cX11_firstWet 5 (some .int) 2 := ⟨tt_c3 210 (by decide +kernel) rfl, tt_c3 211 (by decide +kernel) rfl, tt_c3 212 (by decide +kernel) rfl, tt_c1 1 (by decide +kernel) rfl, tt_c3 213 rfl rfl, by decide, by decide +kernel⟩
set_option maxRecDepth 100000 in
theorem lL_118 : LV "PaintedOverLaw" 118 RX11 yX11_paint cX11_paint 5 (some .int) 3 := ⟨tt_c3 214 (by decide +kernel) rfl, tt_c3 215 (by decide +kernel) rfl, tt_c3 216 (by decide +kernel) rfl, tt_c1 1 (by decide +kernel) rfl, tt_c3 217 rfl rfl, by decide, by decide +kernel⟩
set_option maxRecDepth 100000 in
theorem lX11_249 : LV RX11 249 RX3 yX3_wettestBut cX3_wettestBut 5 (some .int) 2 := ⟨tt_c3 218 (by decide +kernel) rfl, tt_c3 219 (by decide +kernel) rfl, tt_c3 220 (by decide +kernel) rfl, tt_c1 12 (by decide +kernel) rfl, tt_c3 221 rfl rfl, by decide, by decide +kernel⟩
set_option maxRecDepth 100000 in
theorem lX3_76 : LV RX3 76 RX3 yX3_wetness cX3_wetness 3 (some .int) 2 := ⟨tt_c3 222 (by decide +kernel) rfl, tt_c2 118 (by decide +kernel) rfl, tt_c2 119 (by decide +kernel) rfl, tt_c1 12 (by decide +kernel) rfl, tt_c2 120 rfl rfl, by decide, by decide +kernel⟩
set_option maxRecDepth 100000 in
theorem lX3_62 : LSt RX3 62 yJ9_max_7cf53 cJ9_max_7cf53 2 (some .int) 2 := ⟨tt_c3 223 (by decide +kernel) rfl, tt_c3 98 (by decide +kernel) rfl, tt_c1 15 (by decide +kernel) rfl, tt_c3 99 rfl rfl, by decide, by decide +kernel⟩
set_option maxRecDepth 100000 in
theorem lX11_252 : LV RX11 252 RX11 yX11_cheapest cX11_cheapest 8 (some .int) 2 := ⟨tt_c3 224 (by decide +kernel) rfl, tt_c3 226 (by decide +kernel) rfl, tt_in 21 (by decide +kernel) rfl, tt_c1 1 (by decide +kernel) rfl, tt_c3 227 rfl rfl, by decide, by decide +kernel⟩
set_option maxRecDepth 100000 in
theorem lL_122 : LV "PaintedOverLaw" 122 RX11 yX11_gap cX11_gap 9 (some .int) 2 := ⟨tt_c3 228 (by decide +kernel) rfl, tt_c3 229 (by decide +kernel) rfl, tt_c3 230 (by decide +kernel) rfl, tt_c1 1 (by decide +kernel) rfl, tt_c3 231 rfl rfl, by decide, by decide +kernel⟩
set_option maxRecDepth 100000 in
theorem lL_126 : LV "PaintedOverLaw" 126 RX11 yX11_moves cX11_moves 7 (some .int) 2 := ⟨tt_c3 232 (by decide +kernel) rfl, tt_c3 233 (by decide +kernel) rfl, tt_c3 234 (by decide +kernel) rfl, tt_c1 1 (by decide +kernel) rfl, tt_c3 235 rfl rfl, by decide, by decide +kernel⟩
set_option maxRecDepth 100000 in
theorem lX11_255 : LV RX11 255 RX3 yX3_coatsOf cX3_coatsOf 4 (some .int) 1 := ⟨tt_c3 236 (by decide +kernel) rfl, tt_c3 237 (by decide +kernel) rfl, tt_c3 238 (by decide +kernel) rfl, tt_c1 12 (by decide +kernel) rfl, tt_c3 239 rfl rfl, by decide, by decide +kernel⟩
set_option maxRecDepth 100000 in
theorem lL_130 : LV "PaintedOverLaw" 130 RX11 yX11_orders cX11_orders 6 (some .int) 3 := ⟨tt_c4 0 (by decide +kernel) rfl, tt_c4 1 (by decide +kernel) rfl, tt_c4 2 (by decide +kernel) rfl, tt_c1 1 (by decide +kernel) rfl, tt_c4 3 rfl rfl, by decide, by decide +kernel⟩
set_option maxRecDepth 100000 in
theorem lX11_258 : LV RX11 258 RX11 yX11_pairsTrouble cX11_pairsTrouble 6 (some .int) 3 := ⟨tt_c4 4 (by decide +kernel) rfl, tt_c4 6 (by decide +kernel) rfl, tt_in 22 (by decide +kernel) rfl, tt_c1 1 (by decide +kernel) rfl, tt_c4 7 rfl rfl, by decide, by decide +kernel⟩
set_option maxRecDepth 100000 in
theorem lX11_337 : LSt RX11 337 yX11_isPair cX11_isPair 1 (some .boolean) 1 := ⟨tt_c4 8 (by decide +kernel) rfl, tt_c4 9 (by decide +kernel) rfl, tt_c1 1 (by decide +kernel) rfl, tt_c4 10 rfl rfl, by decide, by decide +kernel⟩
set_option maxRecDepth 100000 in
theorem lX11_262 : LV RX11 262 RX11 yX11_forgetPairs cX11_forgetPairs 2 none 0 := ⟨tt_c4 11 (by decide +kernel) rfl, tt_c4 13 (by decide +kernel) rfl, tt_in 23 (by decide +kernel) rfl, tt_c1 1 (by decide +kernel) rfl, tt_c4 14 rfl rfl, by decide, by decide +kernel⟩
set_option maxRecDepth 100000 in
theorem lX11_265 : LV RX11 265 RX11 yX11_addPair cX11_addPair 2 none 1 := ⟨tt_c4 15 (by decide +kernel) rfl, tt_c4 17 (by decide +kernel) rfl, tt_in 24 (by decide +kernel) rfl, tt_c1 1 (by decide +kernel) rfl, tt_c4 18 rfl rfl, by decide, by decide +kernel⟩
set_option maxRecDepth 100000 in
theorem lX11_269 : LV RX11 269 RX11 yX11_countOrders cX11_countOrders 3 (some .int) 0 := ⟨tt_c4 19 (by decide +kernel) rfl, tt_c4 21 (by decide +kernel) rfl, tt_in 25 (by decide +kernel) rfl, tt_c1 1 (by decide +kernel) rfl, tt_c4 22 rfl rfl, by decide, by decide +kernel⟩
set_option maxRecDepth 100000 in
theorem lX11_340 : LV RX11 340 RX11 yX11_mayComeOn cX11_mayComeOn 3 (some .boolean) 2 := ⟨tt_c4 23 (by decide +kernel) rfl, tt_c4 25 (by decide +kernel) rfl, tt_in 26 (by decide +kernel) rfl, tt_c1 1 (by decide +kernel) rfl, tt_c4 26 rfl rfl, by decide, by decide +kernel⟩
set_option maxRecDepth 100000 in
theorem lX11_272 : LSt RX11 272 yJ6_bitCount_0f7a4 cJ6_bitCount_0f7a4 1 (some .int) 1 := ⟨tt_c4 27 (by decide +kernel) rfl, tt_c3 143 (by decide +kernel) rfl, tt_c1 20 (by decide +kernel) rfl, tt_c3 144 rfl rfl, by decide, by decide +kernel⟩
set_option maxRecDepth 100000 in
theorem lX11_277 : LV RX11 277 RX11 yX11_orderFits cX11_orderFits 4 (some .boolean) 0 := ⟨tt_c4 28 (by decide +kernel) rfl, tt_c4 30 (by decide +kernel) rfl, tt_in 27 (by decide +kernel) rfl, tt_c1 1 (by decide +kernel) rfl, tt_c4 31 rfl rfl, by decide, by decide +kernel⟩
set_option maxRecDepth 100000 in
theorem lX11_343 : LV RX11 343 RX11 yX11_lowestOn cX11_lowestOn 3 (some .int) 1 := ⟨tt_c4 32 (by decide +kernel) rfl, tt_c4 34 (by decide +kernel) rfl, tt_in 28 (by decide +kernel) rfl, tt_c1 1 (by decide +kernel) rfl, tt_c4 35 rfl rfl, by decide, by decide +kernel⟩
set_option maxRecDepth 100000 in
theorem lX11_281 : LV RX11 281 RX11 yX11_inFirstOrder cX11_inFirstOrder 5 (some .int) 1 := ⟨tt_c4 36 (by decide +kernel) rfl, tt_c4 38 (by decide +kernel) rfl, tt_in 29 (by decide +kernel) rfl, tt_c1 1 (by decide +kernel) rfl, tt_c4 39 rfl rfl, by decide, by decide +kernel⟩
set_option maxRecDepth 100000 in
theorem lL_134 : LV "PaintedOverLaw" 134 RX11 yX11_forged cX11_forged 5 (some .int) 2 := ⟨tt_c4 40 (by decide +kernel) rfl, tt_c4 41 (by decide +kernel) rfl, tt_c4 42 (by decide +kernel) rfl, tt_c1 1 (by decide +kernel) rfl, tt_c4 43 rfl rfl, by decide, by decide +kernel⟩
set_option maxRecDepth 100000 in
theorem lL_138 : LV "PaintedOverLaw" 138 RX11 yX11_lane cX11_lane 3 (some .int) 2 := ⟨tt_c4 44 (by decide +kernel) rfl, tt_c4 45 (by decide +kernel) rfl, tt_c4 46 (by decide +kernel) rfl, tt_c1 1 (by decide +kernel) rfl, tt_c4 47 rfl rfl, by decide, by decide +kernel⟩
set_option maxRecDepth 100000 in
theorem lX11_284 : LV RX11 284 RX3 yX3_greatestDepth cX3_greatestDepth 3 (some .int) 0 := ⟨tt_c4 48 (by decide +kernel) rfl, tt_c4 49 (by decide +kernel) rfl, tt_c4 50 (by decide +kernel) rfl, tt_c1 12 (by decide +kernel) rfl, tt_c4 51 rfl rfl, by decide, by decide +kernel⟩
set_option maxRecDepth 100000 in
theorem lL_142 : LV "PaintedOverLaw" 142 RX11 yX11_price cX11_price 8 (some .int) 2 := ⟨tt_c4 52 (by decide +kernel) rfl, tt_c4 53 (by decide +kernel) rfl, tt_c4 54 (by decide +kernel) rfl, tt_c1 1 (by decide +kernel) rfl, tt_c4 55 rfl rfl, by decide, by decide +kernel⟩
set_option maxRecDepth 100000 in
theorem lL_146 : LV "PaintedOverLaw" 146 RX11 yX11_hail cX11_hail 2 (some .int) 1 := ⟨tt_c4 56 (by decide +kernel) rfl, tt_c4 57 (by decide +kernel) rfl, tt_c4 58 (by decide +kernel) rfl, tt_c1 1 (by decide +kernel) rfl, tt_c4 59 rfl rfl, by decide, by decide +kernel⟩
set_option maxRecDepth 100000 in
theorem lX11_287 : LV RX11 287 RX9 yX9_hailOnAll cX9_hailOnAll 5 (some .int) 1 := ⟨tt_c4 60 (by decide +kernel) rfl, tt_c3 127 (by decide +kernel) rfl, tt_c3 128 (by decide +kernel) rfl, tt_c1 11 (by decide +kernel) rfl, tt_c3 129 rfl rfl, by decide, by decide +kernel⟩
set_option maxRecDepth 100000 in
theorem lL_150 : LV "PaintedOverLaw" 150 RX11 yX11_scratch cX11_scratch 4 (some .int) 2 := ⟨tt_c4 61 (by decide +kernel) rfl, tt_c4 62 (by decide +kernel) rfl, tt_c4 63 (by decide +kernel) rfl, tt_c1 1 (by decide +kernel) rfl, tt_c4 64 rfl rfl, by decide, by decide +kernel⟩
set_option maxRecDepth 100000 in
theorem lX11_290 : LV RX11 290 RX3 yX3_takeUppermost cX3_takeUppermost 3 (some .int) 1 := ⟨tt_c4 65 (by decide +kernel) rfl, tt_c3 153 (by decide +kernel) rfl, tt_c3 154 (by decide +kernel) rfl, tt_c1 12 (by decide +kernel) rfl, tt_c3 155 rfl rfl, by decide, by decide +kernel⟩
set_option maxRecDepth 100000 in
theorem lL_154 : LV "PaintedOverLaw" 154 RX11 yX11_falls cX11_falls 1 (some .int) 0 := ⟨tt_c4 66 (by decide +kernel) rfl, tt_c4 67 (by decide +kernel) rfl, tt_c4 68 (by decide +kernel) rfl, tt_c1 1 (by decide +kernel) rfl, tt_c4 69 rfl rfl, by decide, by decide +kernel⟩
set_option maxRecDepth 100000 in
theorem lX11_293 : LV RX11 293 RX9 yX9_letFall cX9_letFall 3 (some .int) 0 := ⟨tt_c4 70 (by decide +kernel) rfl, tt_c4 71 (by decide +kernel) rfl, tt_c4 72 (by decide +kernel) rfl, tt_c1 11 (by decide +kernel) rfl, tt_c4 73 rfl rfl, by decide, by decide +kernel⟩
set_option maxRecDepth 100000 in
theorem lX9_110 : LV RX9 110 RX3 yX3_wholeSkin cX3_wholeSkin 3 (some .int) 0 := ⟨tt_c4 74 (by decide +kernel) rfl, tt_c2 182 (by decide +kernel) rfl, tt_c2 183 (by decide +kernel) rfl, tt_c1 12 (by decide +kernel) rfl, tt_c2 184 rfl rfl, by decide, by decide +kernel⟩
set_option maxRecDepth 100000 in
theorem lL_158 : LV "PaintedOverLaw" 158 RX11 yX11_years cX11_years 4 (some .int) 1 := ⟨tt_c4 75 (by decide +kernel) rfl, tt_c4 76 (by decide +kernel) rfl, tt_c4 77 (by decide +kernel) rfl, tt_c1 1 (by decide +kernel) rfl, tt_c4 78 rfl rfl, by decide, by decide +kernel⟩
set_option maxRecDepth 100000 in
theorem lX11_299 : LV RX11 299 RX9 yX9_passYear cX9_passYear 6 none 0 := ⟨tt_c4 79 (by decide +kernel) rfl, tt_c4 80 (by decide +kernel) rfl, tt_c4 81 (by decide +kernel) rfl, tt_c1 11 (by decide +kernel) rfl, tt_c4 82 rfl rfl, by decide, by decide +kernel⟩
set_option maxRecDepth 100000 in
theorem lX9_115 : LV RX9 115 RX9 yX9_draw cX9_draw 2 (some .int) 1 := ⟨tt_c4 83 (by decide +kernel) rfl, tt_c4 85 (by decide +kernel) rfl, tt_in 30 (by decide +kernel) rfl, tt_c1 11 (by decide +kernel) rfl, tt_c4 86 rfl rfl, by decide, by decide +kernel⟩
set_option maxRecDepth 100000 in
theorem lX9_118 : LV RX9 118 RX3 yX3_putOn cX3_putOn 7 (some .int) 5 := ⟨tt_c4 88 (by decide +kernel) rfl, tt_c2 231 (by decide +kernel) rfl, tt_c2 232 (by decide +kernel) rfl, tt_c1 12 (by decide +kernel) rfl, tt_c2 233 rfl rfl, by decide, by decide +kernel⟩
set_option maxRecDepth 100000 in
theorem lX9_122 : LV RX9 122 RX9 yX9_hailOnAll cX9_hailOnAll 5 (some .int) 1 := ⟨tt_c4 89 (by decide +kernel) rfl, tt_c3 127 (by decide +kernel) rfl, tt_c3 128 (by decide +kernel) rfl, tt_c1 11 (by decide +kernel) rfl, tt_c3 129 rfl rfl, by decide, by decide +kernel⟩
set_option maxRecDepth 100000 in
theorem lX9_125 : LV RX9 125 RX9 yX9_letFall cX9_letFall 3 (some .int) 0 := ⟨tt_c4 90 (by decide +kernel) rfl, tt_c4 71 (by decide +kernel) rfl, tt_c4 72 (by decide +kernel) rfl, tt_c1 11 (by decide +kernel) rfl, tt_c4 73 rfl rfl, by decide, by decide +kernel⟩
set_option maxRecDepth 100000 in
theorem lL_162 : LV "PaintedOverLaw" 162 RX11 yX11_seed cX11_seed 3 (some .int) 1 := ⟨tt_c4 91 (by decide +kernel) rfl, tt_c4 92 (by decide +kernel) rfl, tt_c4 93 (by decide +kernel) rfl, tt_c1 1 (by decide +kernel) rfl, tt_c4 94 rfl rfl, by decide, by decide +kernel⟩
set_option maxRecDepth 100000 in
theorem lL_166 : LV "PaintedOverLaw" 166 RX11 yX11_act cX11_act 5 (some .int) 3 := ⟨tt_c4 95 (by decide +kernel) rfl, tt_c4 96 (by decide +kernel) rfl, tt_c4 97 (by decide +kernel) rfl, tt_c1 1 (by decide +kernel) rfl, tt_c4 98 rfl rfl, by decide, by decide +kernel⟩
set_option maxRecDepth 100000 in
theorem lX11_314 : LV RX11 314 RX4 yX4_actPaints cX4_actPaints 3 (some .int) 2 := ⟨tt_c4 99 (by decide +kernel) rfl, tt_c4 100 (by decide +kernel) rfl, tt_c4 101 (by decide +kernel) rfl, tt_c1 4 (by decide +kernel) rfl, tt_c4 126 rfl rfl, by decide, by decide +kernel⟩
set_option maxRecDepth 100000 in
theorem lX11_314_X0 : LU RX11 314 RX0 "PaintedOver$Kind" yX4_actPaints yX0_actPaints cX0_actPaints 3 (some .int) 2 := ⟨⟨tt_c4 99 (by decide +kernel) rfl, tt_c4 102 (by decide +kernel) rfl, tt_c4 103 (by decide +kernel) rfl, tt_c4 104 (by decide +kernel) rfl, tt_c1 10 (by decide +kernel) rfl, tt_c4 105 rfl rfl, by decide⟩, Or.inr ⟨tt_c4 100 (by decide +kernel) rfl, cX4_actPaints, 3, (some .int), tt_c4 126 rfl rfl⟩, by decide +kernel⟩
set_option maxRecDepth 100000 in
theorem lX11_314_X1 : LU RX11 314 RX1 "PaintedOver$Kind" yX4_actPaints yX2_actPaints cX2_actPaints 3 (some .int) 2 := ⟨⟨tt_c4 99 (by decide +kernel) rfl, tt_c4 102 (by decide +kernel) rfl, tt_c4 113 (by decide +kernel) rfl, tt_c4 114 (by decide +kernel) rfl, tt_c1 5 (by decide +kernel) rfl, tt_c4 115 rfl rfl, by decide⟩, Or.inr ⟨tt_c4 100 (by decide +kernel) rfl, cX4_actPaints, 3, (some .int), tt_c4 126 rfl rfl⟩, by decide +kernel⟩
set_option maxRecDepth 100000 in
theorem lX11_314_X2 : LU RX11 314 RX2 "PaintedOver$Kind" yX4_actPaints yX2_actPaints cX2_actPaints 3 (some .int) 2 := ⟨⟨tt_c4 99 (by decide +kernel) rfl, tt_c4 102 (by decide +kernel) rfl, tt_c4 118 (by decide +kernel) rfl, tt_c4 114 (by decide +kernel) rfl, tt_c1 5 (by decide +kernel) rfl, tt_c4 115 rfl rfl, by decide⟩, Or.inr ⟨tt_c4 100 (by decide +kernel) rfl, cX4_actPaints, 3, (some .int), tt_c4 126 rfl rfl⟩, by decide +kernel⟩
set_option maxRecDepth 100000 in
theorem lX11_314_X5 : LU RX11 314 RX5 "PaintedOver$Kind" yX4_actPaints yX4_actPaints cX4_actPaints 3 (some .int) 2 := ⟨⟨tt_c4 99 (by decide +kernel) rfl, tt_c4 102 (by decide +kernel) rfl, tt_c4 119 (by decide +kernel) rfl, tt_c4 100 (by decide +kernel) rfl, tt_c1 4 (by decide +kernel) rfl, tt_c4 126 rfl rfl, by decide⟩, Or.inl rfl, by decide +kernel⟩
set_option maxRecDepth 100000 in
theorem lX11_314_X7 : LU RX11 314 RX7 "PaintedOver$Kind" yX4_actPaints yX7_actPaints cX7_actPaints 3 (some .int) 2 := ⟨⟨tt_c4 99 (by decide +kernel) rfl, tt_c4 102 (by decide +kernel) rfl, tt_c4 120 (by decide +kernel) rfl, tt_c4 121 (by decide +kernel) rfl, tt_c1 8 (by decide +kernel) rfl, tt_c4 122 rfl rfl, by decide⟩, Or.inr ⟨tt_c4 100 (by decide +kernel) rfl, cX4_actPaints, 3, (some .int), tt_c4 126 rfl rfl⟩, by decide +kernel⟩
set_option maxRecDepth 100000 in
theorem lX11_314_X8 : LU RX11 314 RX8 "PaintedOver$Kind" yX4_actPaints yX4_actPaints cX4_actPaints 3 (some .int) 2 := ⟨⟨tt_c4 99 (by decide +kernel) rfl, tt_c4 102 (by decide +kernel) rfl, tt_c4 125 (by decide +kernel) rfl, tt_c4 100 (by decide +kernel) rfl, tt_c1 4 (by decide +kernel) rfl, tt_c4 126 rfl rfl, by decide⟩, Or.inl rfl, by decide +kernel⟩
set_option maxRecDepth 100000 in
theorem lX0_11 : LV RX0 11 RX10 yX10_begin cX10_begin 2 none 1 := ⟨tt_c4 106 (by decide +kernel) rfl, tt_c4 107 (by decide +kernel) rfl, tt_c4 108 (by decide +kernel) rfl, tt_c1 3 (by decide +kernel) rfl, tt_c4 109 rfl rfl, by decide, by decide +kernel⟩
set_option maxRecDepth 100000 in
theorem lX2_7 : LV RX2 7 RX10 yX10_begin cX10_begin 2 none 1 := ⟨tt_c4 116 (by decide +kernel) rfl, tt_c4 107 (by decide +kernel) rfl, tt_c4 108 (by decide +kernel) rfl, tt_c1 3 (by decide +kernel) rfl, tt_c4 109 rfl rfl, by decide, by decide +kernel⟩
set_option maxRecDepth 100000 in
theorem lX2_13 : LSU RX2 13 yX4_actPaints cX4_actPaints 3 (some .int) 2 := ⟨tt_c4 117 (by decide +kernel) rfl, tt_c4 102 (by decide +kernel) rfl, tt_c1 101 (by decide +kernel) rfl, tt_c4 100 (by decide +kernel) rfl, tt_c1 4 (by decide +kernel) rfl, tt_c4 126 rfl rfl, by decide, by decide +kernel⟩
set_option maxRecDepth 100000 in
theorem lX7_7 : LV RX7 7 RX10 yX10_begin cX10_begin 2 none 1 := ⟨tt_c4 123 (by decide +kernel) rfl, tt_c4 107 (by decide +kernel) rfl, tt_c4 108 (by decide +kernel) rfl, tt_c1 3 (by decide +kernel) rfl, tt_c4 109 rfl rfl, by decide, by decide +kernel⟩
set_option maxRecDepth 100000 in
theorem lX7_17 : LSU RX7 17 yX4_actPaints cX4_actPaints 3 (some .int) 2 := ⟨tt_c4 124 (by decide +kernel) rfl, tt_c4 102 (by decide +kernel) rfl, tt_c1 122 (by decide +kernel) rfl, tt_c4 100 (by decide +kernel) rfl, tt_c1 4 (by decide +kernel) rfl, tt_c4 126 rfl rfl, by decide, by decide +kernel⟩
set_option maxRecDepth 100000 in
theorem lX4_7 : LV RX4 7 RX10 yX10_begin cX10_begin 2 none 1 := ⟨tt_c4 127 (by decide +kernel) rfl, tt_c4 107 (by decide +kernel) rfl, tt_c4 108 (by decide +kernel) rfl, tt_c1 3 (by decide +kernel) rfl, tt_c4 109 rfl rfl, by decide, by decide +kernel⟩
set_option maxRecDepth 100000 in
theorem lX11_318 : LV RX11 318 RX4 yX4_actPeels cX4_actPeels 3 (some .int) 2 := ⟨tt_c4 128 (by decide +kernel) rfl, tt_c4 129 (by decide +kernel) rfl, tt_c4 130 (by decide +kernel) rfl, tt_c1 4 (by decide +kernel) rfl, tt_c4 151 rfl rfl, by decide, by decide +kernel⟩
set_option maxRecDepth 100000 in
theorem lX11_318_X0 : LU RX11 318 RX0 "PaintedOver$Kind" yX4_actPeels yX0_actPeels cX0_actPeels 3 (some .int) 2 := ⟨⟨tt_c4 128 (by decide +kernel) rfl, tt_c4 131 (by decide +kernel) rfl, tt_c4 132 (by decide +kernel) rfl, tt_c4 133 (by decide +kernel) rfl, tt_c1 10 (by decide +kernel) rfl, tt_c4 134 rfl rfl, by decide⟩, Or.inr ⟨tt_c4 129 (by decide +kernel) rfl, cX4_actPeels, 3, (some .int), tt_c4 151 rfl rfl⟩, by decide +kernel⟩
set_option maxRecDepth 100000 in
theorem lX11_318_X1 : LU RX11 318 RX1 "PaintedOver$Kind" yX4_actPeels yX1_actPeels cX1_actPeels 3 (some .int) 2 := ⟨⟨tt_c4 128 (by decide +kernel) rfl, tt_c4 131 (by decide +kernel) rfl, tt_c4 140 (by decide +kernel) rfl, tt_c4 141 (by decide +kernel) rfl, tt_c1 7 (by decide +kernel) rfl, tt_c4 142 rfl rfl, by decide⟩, Or.inr ⟨tt_c4 129 (by decide +kernel) rfl, cX4_actPeels, 3, (some .int), tt_c4 151 rfl rfl⟩, by decide +kernel⟩
set_option maxRecDepth 100000 in
theorem lX11_318_X2 : LU RX11 318 RX2 "PaintedOver$Kind" yX4_actPeels yX4_actPeels cX4_actPeels 3 (some .int) 2 := ⟨⟨tt_c4 128 (by decide +kernel) rfl, tt_c4 131 (by decide +kernel) rfl, tt_c4 147 (by decide +kernel) rfl, tt_c4 129 (by decide +kernel) rfl, tt_c1 4 (by decide +kernel) rfl, tt_c4 151 rfl rfl, by decide⟩, Or.inl rfl, by decide +kernel⟩
set_option maxRecDepth 100000 in
theorem lX11_318_X5 : LU RX11 318 RX5 "PaintedOver$Kind" yX4_actPeels yX5_actPeels cX5_actPeels 3 (some .int) 2 := ⟨⟨tt_c4 128 (by decide +kernel) rfl, tt_c4 131 (by decide +kernel) rfl, tt_c4 148 (by decide +kernel) rfl, tt_c4 136 (by decide +kernel) rfl, tt_c1 6 (by decide +kernel) rfl, tt_c4 137 rfl rfl, by decide⟩, Or.inr ⟨tt_c4 129 (by decide +kernel) rfl, cX4_actPeels, 3, (some .int), tt_c4 151 rfl rfl⟩, by decide +kernel⟩
set_option maxRecDepth 100000 in
theorem lX11_318_X7 : LU RX11 318 RX7 "PaintedOver$Kind" yX4_actPeels yX4_actPeels cX4_actPeels 3 (some .int) 2 := ⟨⟨tt_c4 128 (by decide +kernel) rfl, tt_c4 131 (by decide +kernel) rfl, tt_c4 149 (by decide +kernel) rfl, tt_c4 129 (by decide +kernel) rfl, tt_c1 4 (by decide +kernel) rfl, tt_c4 151 rfl rfl, by decide⟩, Or.inl rfl, by decide +kernel⟩
set_option maxRecDepth 100000 in
theorem lX11_318_X8 : LU RX11 318 RX8 "PaintedOver$Kind" yX4_actPeels yX5_actPeels cX5_actPeels 3 (some .int) 2 := ⟨⟨tt_c4 128 (by decide +kernel) rfl, tt_c4 131 (by decide +kernel) rfl, tt_c4 150 (by decide +kernel) rfl, tt_c4 136 (by decide +kernel) rfl, tt_c1 6 (by decide +kernel) rfl, tt_c4 137 rfl rfl, by decide⟩, Or.inr ⟨tt_c4 129 (by decide +kernel) rfl, cX4_actPeels, 3, (some .int), tt_c4 151 rfl rfl⟩, by decide +kernel⟩
set_option maxRecDepth 100000 in
theorem lX0_25 : LSU RX0 25 yX5_actPeels cX5_actPeels 3 (some .int) 2 := ⟨tt_c4 135 (by decide +kernel) rfl, tt_c6 185 (by decide +kernel) rfl, tt_c1 136 (by decide +kernel) rfl, tt_c4 136 (by decide +kernel) rfl, tt_c1 6 (by decide +kernel) rfl, tt_c4 137 rfl rfl, by decide, by decide +kernel⟩
set_option maxRecDepth 100000 in
theorem lX5_7 : LV RX5 7 RX10 yX10_begin cX10_begin 2 none 1 := ⟨tt_c4 138 (by decide +kernel) rfl, tt_c4 107 (by decide +kernel) rfl, tt_c4 108 (by decide +kernel) rfl, tt_c1 3 (by decide +kernel) rfl, tt_c4 109 rfl rfl, by decide, by decide +kernel⟩
set_option maxRecDepth 100000 in
theorem lX5_13 : LSU RX5 13 yX4_actPeels cX4_actPeels 3 (some .int) 2 := ⟨tt_c4 139 (by decide +kernel) rfl, tt_c4 131 (by decide +kernel) rfl, tt_c1 108 (by decide +kernel) rfl, tt_c4 129 (by decide +kernel) rfl, tt_c1 4 (by decide +kernel) rfl, tt_c4 151 rfl rfl, by decide, by decide +kernel⟩
set_option maxRecDepth 100000 in
theorem lX1_13 : LV RX1 13 RX10 yX10_begin cX10_begin 2 none 1 := ⟨tt_c4 143 (by decide +kernel) rfl, tt_c4 107 (by decide +kernel) rfl, tt_c4 108 (by decide +kernel) rfl, tt_c1 3 (by decide +kernel) rfl, tt_c4 109 rfl rfl, by decide, by decide +kernel⟩
set_option maxRecDepth 100000 in
theorem lX4_17 : LV RX4 17 RX4 yX4_actPaints cX4_actPaints 3 (some .int) 2 := ⟨tt_c4 152 (by decide +kernel) rfl, tt_c4 100 (by decide +kernel) rfl, tt_c4 101 (by decide +kernel) rfl, tt_c1 4 (by decide +kernel) rfl, tt_c4 126 rfl rfl, by decide, by decide +kernel⟩
set_option maxRecDepth 100000 in
theorem lX4_17_X0 : LU RX4 17 RX0 "PaintedOver$Kind" yX4_actPaints yX0_actPaints cX0_actPaints 3 (some .int) 2 := ⟨⟨tt_c4 152 (by decide +kernel) rfl, tt_c4 102 (by decide +kernel) rfl, tt_c4 103 (by decide +kernel) rfl, tt_c4 104 (by decide +kernel) rfl, tt_c1 10 (by decide +kernel) rfl, tt_c4 105 rfl rfl, by decide⟩, Or.inr ⟨tt_c4 100 (by decide +kernel) rfl, cX4_actPaints, 3, (some .int), tt_c4 126 rfl rfl⟩, by decide +kernel⟩
set_option maxRecDepth 100000 in
theorem lX4_17_X1 : LU RX4 17 RX1 "PaintedOver$Kind" yX4_actPaints yX2_actPaints cX2_actPaints 3 (some .int) 2 := ⟨⟨tt_c4 152 (by decide +kernel) rfl, tt_c4 102 (by decide +kernel) rfl, tt_c4 113 (by decide +kernel) rfl, tt_c4 114 (by decide +kernel) rfl, tt_c1 5 (by decide +kernel) rfl, tt_c4 115 rfl rfl, by decide⟩, Or.inr ⟨tt_c4 100 (by decide +kernel) rfl, cX4_actPaints, 3, (some .int), tt_c4 126 rfl rfl⟩, by decide +kernel⟩
set_option maxRecDepth 100000 in
theorem lX4_17_X2 : LU RX4 17 RX2 "PaintedOver$Kind" yX4_actPaints yX2_actPaints cX2_actPaints 3 (some .int) 2 := ⟨⟨tt_c4 152 (by decide +kernel) rfl, tt_c4 102 (by decide +kernel) rfl, tt_c4 118 (by decide +kernel) rfl, tt_c4 114 (by decide +kernel) rfl, tt_c1 5 (by decide +kernel) rfl, tt_c4 115 rfl rfl, by decide⟩, Or.inr ⟨tt_c4 100 (by decide +kernel) rfl, cX4_actPaints, 3, (some .int), tt_c4 126 rfl rfl⟩, by decide +kernel⟩
set_option maxRecDepth 100000 in
theorem lX4_17_X5 : LU RX4 17 RX5 "PaintedOver$Kind" yX4_actPaints yX4_actPaints cX4_actPaints 3 (some .int) 2 := ⟨⟨tt_c4 152 (by decide +kernel) rfl, tt_c4 102 (by decide +kernel) rfl, tt_c4 119 (by decide +kernel) rfl, tt_c4 100 (by decide +kernel) rfl, tt_c1 4 (by decide +kernel) rfl, tt_c4 126 rfl rfl, by decide⟩, Or.inl rfl, by decide +kernel⟩
set_option maxRecDepth 100000 in
theorem lX4_17_X7 : LU RX4 17 RX7 "PaintedOver$Kind" yX4_actPaints yX7_actPaints cX7_actPaints 3 (some .int) 2 := ⟨⟨tt_c4 152 (by decide +kernel) rfl, tt_c4 102 (by decide +kernel) rfl, tt_c4 120 (by decide +kernel) rfl, tt_c4 121 (by decide +kernel) rfl, tt_c1 8 (by decide +kernel) rfl, tt_c4 122 rfl rfl, by decide⟩, Or.inr ⟨tt_c4 100 (by decide +kernel) rfl, cX4_actPaints, 3, (some .int), tt_c4 126 rfl rfl⟩, by decide +kernel⟩
set_option maxRecDepth 100000 in
theorem lX4_17_X8 : LU RX4 17 RX8 "PaintedOver$Kind" yX4_actPaints yX4_actPaints cX4_actPaints 3 (some .int) 2 := ⟨⟨tt_c4 152 (by decide +kernel) rfl, tt_c4 102 (by decide +kernel) rfl, tt_c4 125 (by decide +kernel) rfl, tt_c4 100 (by decide +kernel) rfl, tt_c1 4 (by decide +kernel) rfl, tt_c4 126 rfl rfl, by decide⟩, Or.inl rfl, by decide +kernel⟩
set_option maxRecDepth 100000 in
theorem lX11_321 : LV RX11 321 RX4 yX4_actFalls cX4_actFalls 3 (some .int) 2 := ⟨tt_c4 153 (by decide +kernel) rfl, tt_c4 154 (by decide +kernel) rfl, tt_c4 155 (by decide +kernel) rfl, tt_c1 4 (by decide +kernel) rfl, tt_c4 172 rfl rfl, by decide, by decide +kernel⟩
set_option maxRecDepth 100000 in
theorem lX11_321_X0 : LU RX11 321 RX0 "PaintedOver$Kind" yX4_actFalls yX4_actFalls cX4_actFalls 3 (some .int) 2 := ⟨⟨tt_c4 153 (by decide +kernel) rfl, tt_c4 156 (by decide +kernel) rfl, tt_c4 157 (by decide +kernel) rfl, tt_c4 154 (by decide +kernel) rfl, tt_c1 4 (by decide +kernel) rfl, tt_c4 172 rfl rfl, by decide⟩, Or.inl rfl, by decide +kernel⟩
set_option maxRecDepth 100000 in
theorem lX11_321_X1 : LU RX11 321 RX1 "PaintedOver$Kind" yX4_actFalls yX4_actFalls cX4_actFalls 3 (some .int) 2 := ⟨⟨tt_c4 153 (by decide +kernel) rfl, tt_c4 156 (by decide +kernel) rfl, tt_c4 158 (by decide +kernel) rfl, tt_c4 154 (by decide +kernel) rfl, tt_c1 4 (by decide +kernel) rfl, tt_c4 172 rfl rfl, by decide⟩, Or.inl rfl, by decide +kernel⟩
set_option maxRecDepth 100000 in
theorem lX11_321_X2 : LU RX11 321 RX2 "PaintedOver$Kind" yX4_actFalls yX4_actFalls cX4_actFalls 3 (some .int) 2 := ⟨⟨tt_c4 153 (by decide +kernel) rfl, tt_c4 156 (by decide +kernel) rfl, tt_c4 159 (by decide +kernel) rfl, tt_c4 154 (by decide +kernel) rfl, tt_c1 4 (by decide +kernel) rfl, tt_c4 172 rfl rfl, by decide⟩, Or.inl rfl, by decide +kernel⟩
set_option maxRecDepth 100000 in
theorem lX11_321_X5 : LU RX11 321 RX5 "PaintedOver$Kind" yX4_actFalls yX4_actFalls cX4_actFalls 3 (some .int) 2 := ⟨⟨tt_c4 153 (by decide +kernel) rfl, tt_c4 156 (by decide +kernel) rfl, tt_c4 160 (by decide +kernel) rfl, tt_c4 154 (by decide +kernel) rfl, tt_c1 4 (by decide +kernel) rfl, tt_c4 172 rfl rfl, by decide⟩, Or.inl rfl, by decide +kernel⟩
set_option maxRecDepth 100000 in
theorem lX11_321_X7 : LU RX11 321 RX7 "PaintedOver$Kind" yX4_actFalls yX7_actFalls cX7_actFalls 3 (some .int) 2 := ⟨⟨tt_c4 153 (by decide +kernel) rfl, tt_c4 156 (by decide +kernel) rfl, tt_c4 161 (by decide +kernel) rfl, tt_c4 162 (by decide +kernel) rfl, tt_c1 8 (by decide +kernel) rfl, tt_c4 163 rfl rfl, by decide⟩, Or.inr ⟨tt_c4 154 (by decide +kernel) rfl, cX4_actFalls, 3, (some .int), tt_c4 172 rfl rfl⟩, by decide +kernel⟩
set_option maxRecDepth 100000 in
theorem lX11_321_X8 : LU RX11 321 RX8 "PaintedOver$Kind" yX4_actFalls yX8_actFalls cX8_actFalls 3 (some .int) 2 := ⟨⟨tt_c4 153 (by decide +kernel) rfl, tt_c4 156 (by decide +kernel) rfl, tt_c4 165 (by decide +kernel) rfl, tt_c4 166 (by decide +kernel) rfl, tt_c1 9 (by decide +kernel) rfl, tt_c4 167 rfl rfl, by decide⟩, Or.inr ⟨tt_c4 154 (by decide +kernel) rfl, cX4_actFalls, 3, (some .int), tt_c4 172 rfl rfl⟩, by decide +kernel⟩
set_option maxRecDepth 100000 in
theorem lX7_13 : LSU RX7 13 yX4_actFalls cX4_actFalls 3 (some .int) 2 := ⟨tt_c4 164 (by decide +kernel) rfl, tt_c4 156 (by decide +kernel) rfl, tt_c1 122 (by decide +kernel) rfl, tt_c4 154 (by decide +kernel) rfl, tt_c1 4 (by decide +kernel) rfl, tt_c4 172 rfl rfl, by decide, by decide +kernel⟩
set_option maxRecDepth 100000 in
theorem lX8_13 : LV RX8 13 RX10 yX10_begin cX10_begin 2 none 1 := ⟨tt_c4 168 (by decide +kernel) rfl, tt_c4 107 (by decide +kernel) rfl, tt_c4 108 (by decide +kernel) rfl, tt_c1 3 (by decide +kernel) rfl, tt_c4 109 rfl rfl, by decide, by decide +kernel⟩
set_option maxRecDepth 100000 in
theorem lX4_23 : LV RX4 23 RX4 yX4_actPeels cX4_actPeels 3 (some .int) 2 := ⟨tt_c4 173 (by decide +kernel) rfl, tt_c4 129 (by decide +kernel) rfl, tt_c4 130 (by decide +kernel) rfl, tt_c1 4 (by decide +kernel) rfl, tt_c4 151 rfl rfl, by decide, by decide +kernel⟩
set_option maxRecDepth 100000 in
theorem lX4_23_X0 : LU RX4 23 RX0 "PaintedOver$Kind" yX4_actPeels yX0_actPeels cX0_actPeels 3 (some .int) 2 := ⟨⟨tt_c4 173 (by decide +kernel) rfl, tt_c4 131 (by decide +kernel) rfl, tt_c4 132 (by decide +kernel) rfl, tt_c4 133 (by decide +kernel) rfl, tt_c1 10 (by decide +kernel) rfl, tt_c4 134 rfl rfl, by decide⟩, Or.inr ⟨tt_c4 129 (by decide +kernel) rfl, cX4_actPeels, 3, (some .int), tt_c4 151 rfl rfl⟩, by decide +kernel⟩
set_option maxRecDepth 100000 in
theorem lX4_23_X1 : LU RX4 23 RX1 "PaintedOver$Kind" yX4_actPeels yX1_actPeels cX1_actPeels 3 (some .int) 2 := ⟨⟨tt_c4 173 (by decide +kernel) rfl, tt_c4 131 (by decide +kernel) rfl, tt_c4 140 (by decide +kernel) rfl, tt_c4 141 (by decide +kernel) rfl, tt_c1 7 (by decide +kernel) rfl, tt_c4 142 rfl rfl, by decide⟩, Or.inr ⟨tt_c4 129 (by decide +kernel) rfl, cX4_actPeels, 3, (some .int), tt_c4 151 rfl rfl⟩, by decide +kernel⟩
set_option maxRecDepth 100000 in
theorem lX4_23_X2 : LU RX4 23 RX2 "PaintedOver$Kind" yX4_actPeels yX4_actPeels cX4_actPeels 3 (some .int) 2 := ⟨⟨tt_c4 173 (by decide +kernel) rfl, tt_c4 131 (by decide +kernel) rfl, tt_c4 147 (by decide +kernel) rfl, tt_c4 129 (by decide +kernel) rfl, tt_c1 4 (by decide +kernel) rfl, tt_c4 151 rfl rfl, by decide⟩, Or.inl rfl, by decide +kernel⟩
set_option maxRecDepth 100000 in
theorem lX4_23_X5 : LU RX4 23 RX5 "PaintedOver$Kind" yX4_actPeels yX5_actPeels cX5_actPeels 3 (some .int) 2 := ⟨⟨tt_c4 173 (by decide +kernel) rfl, tt_c4 131 (by decide +kernel) rfl, tt_c4 148 (by decide +kernel) rfl, tt_c4 136 (by decide +kernel) rfl, tt_c1 6 (by decide +kernel) rfl, tt_c4 137 rfl rfl, by decide⟩, Or.inr ⟨tt_c4 129 (by decide +kernel) rfl, cX4_actPeels, 3, (some .int), tt_c4 151 rfl rfl⟩, by decide +kernel⟩
set_option maxRecDepth 100000 in
theorem lX4_23_X7 : LU RX4 23 RX7 "PaintedOver$Kind" yX4_actPeels yX4_actPeels cX4_actPeels 3 (some .int) 2 := ⟨⟨tt_c4 173 (by decide +kernel) rfl, tt_c4 131 (by decide +kernel) rfl, tt_c4 149 (by decide +kernel) rfl, tt_c4 129 (by decide +kernel) rfl, tt_c1 4 (by decide +kernel) rfl, tt_c4 151 rfl rfl, by decide⟩, Or.inl rfl, by decide +kernel⟩
set_option maxRecDepth 100000 in
theorem lX4_23_X8 : LU RX4 23 RX8 "PaintedOver$Kind" yX4_actPeels yX5_actPeels cX5_actPeels 3 (some .int) 2 := ⟨⟨tt_c4 173 (by decide +kernel) rfl, tt_c4 131 (by decide +kernel) rfl, tt_c4 150 (by decide +kernel) rfl, tt_c4 136 (by decide +kernel) rfl, tt_c1 6 (by decide +kernel) rfl, tt_c4 137 rfl rfl, by decide⟩, Or.inr ⟨tt_c4 129 (by decide +kernel) rfl, cX4_actPeels, 3, (some .int), tt_c4 151 rfl rfl⟩, by decide +kernel⟩
set_option maxRecDepth 100000 in
theorem lL_170 : LV "PaintedOverLaw" 170 RX11 yX11_trace cX11_trace 2 (some .int) 1 := ⟨tt_c4 174 (by decide +kernel) rfl, tt_c4 175 (by decide +kernel) rfl, tt_c4 176 (by decide +kernel) rfl, tt_c1 1 (by decide +kernel) rfl, tt_c4 177 rfl rfl, by decide, by decide +kernel⟩
set_option maxRecDepth 100000 in
theorem lL_174 : LV "PaintedOverLaw" 174 RX11 yX11_image cX11_image 1 (some .int) 0 := ⟨tt_c4 178 (by decide +kernel) rfl, tt_c4 179 (by decide +kernel) rfl, tt_c4 180 (by decide +kernel) rfl, tt_c1 1 (by decide +kernel) rfl, tt_c4 181 rfl rfl, by decide, by decide +kernel⟩
set_option maxRecDepth 100000 in
theorem lL_178 : LV "PaintedOverLaw" 178 RX11 yX11_restore cX11_restore 2 (some .int) 0 := ⟨tt_c4 182 (by decide +kernel) rfl, tt_c4 183 (by decide +kernel) rfl, tt_c4 184 (by decide +kernel) rfl, tt_c1 1 (by decide +kernel) rfl, tt_c4 185 rfl rfl, by decide, by decide +kernel⟩
set_option maxRecDepth 100000 in
theorem lL_182 : LV "PaintedOverLaw" 182 RX11 yX11_status cX11_status 2 (some .int) 1 := ⟨tt_c4 186 (by decide +kernel) rfl, tt_c4 187 (by decide +kernel) rfl, tt_c4 188 (by decide +kernel) rfl, tt_c1 1 (by decide +kernel) rfl, tt_c4 189 rfl rfl, by decide, by decide +kernel⟩
set_option maxRecDepth 100000 in
theorem lX11_327 : LV RX11 327 RX9 yX9_coatsInAll cX9_coatsInAll 3 (some .int) 0 := ⟨tt_c4 190 (by decide +kernel) rfl, tt_c4 191 (by decide +kernel) rfl, tt_c4 192 (by decide +kernel) rfl, tt_c1 11 (by decide +kernel) rfl, tt_c4 193 rfl rfl, by decide, by decide +kernel⟩
set_option maxRecDepth 100000 in
theorem lL_12 : LI "PaintedOverLaw" 12 yX12_init cX12_init 2 0 := ⟨tt_c4 196 (by decide +kernel) rfl, tt_c4 197 (by decide +kernel) rfl, tt_c1 13 (by decide +kernel) rfl, tt_c4 198 rfl rfl, by decide, rfl, by decide +kernel⟩
theorem fX12_7 : GF RX12 7 12 0 RX12 TX12 := ⟨cfX12, by decide, tt_c4 200 (by decide +kernel) rfl⟩
theorem fX12_13 : GF RX12 13 12 1 RX12 TX12 := ⟨cfX12, by decide, tt_c4 201 (by decide +kernel) rfl⟩
theorem fX12_16 : GF RX12 16 12 2 RX12 TX12 := ⟨cfX12, by decide, tt_c4 202 (by decide +kernel) rfl⟩
theorem fX12_87 : GF RX12 87 12 3 RX12 TX12 := ⟨cfX12, by decide, tt_c4 203 (by decide +kernel) rfl⟩
theorem fX12_20 : GF RX12 20 12 4 RX12 TX12 := ⟨cfX12, by decide, tt_c4 204 (by decide +kernel) rfl⟩
theorem fX12_23 : GF RX12 23 12 5 RX12 TX12 := ⟨cfX12, by decide, tt_c4 205 (by decide +kernel) rfl⟩
theorem fX12_26 : GF RX12 26 12 6 RX12 TX12 := ⟨cfX12, by decide, tt_c4 206 (by decide +kernel) rfl⟩
theorem fX12_29 : GF RX12 29 12 7 RX12 TX12 := ⟨cfX12, by decide, tt_c4 207 (by decide +kernel) rfl⟩
theorem fX12_32 : GF RX12 32 12 8 RX12 TX12 := ⟨cfX12, by decide, tt_c4 208 (by decide +kernel) rfl⟩
theorem fX12_35 : GF RX12 35 12 9 RX12 TX12 := ⟨cfX12, by decide, tt_c4 209 (by decide +kernel) rfl⟩
theorem fX12_38 : GF RX12 38 12 10 RX12 TX12 := ⟨cfX12, by decide, tt_c4 210 (by decide +kernel) rfl⟩
theorem fX12_41 : GF RX12 41 12 11 RX12 TX12 := ⟨cfX12, by decide, tt_c4 211 (by decide +kernel) rfl⟩
theorem fX12_44 : GF RX12 44 12 12 RX12 TX12 := ⟨cfX12, by decide, tt_c4 212 (by decide +kernel) rfl⟩
theorem fX12_47 : GF RX12 47 12 13 RX12 TX12 := ⟨cfX12, by decide, tt_c4 213 (by decide +kernel) rfl⟩
theorem fX12_50 : GF RX12 50 12 14 RX12 TX12 := ⟨cfX12, by decide, tt_c4 214 (by decide +kernel) rfl⟩
theorem fX12_74 : GF RX12 74 12 15 RX12 TX12 := ⟨cfX12, by decide, tt_c4 215 (by decide +kernel) rfl⟩
theorem fX12_78 : GF RX12 78 12 16 RX12 TX12 := ⟨cfX12, by decide, tt_c4 216 (by decide +kernel) rfl⟩
theorem fX12_139 : GF RX12 139 12 17 RX12 TX12 := ⟨cfX12, by decide, tt_c4 217 (by decide +kernel) rfl⟩
theorem fX12_272 : GF RX12 272 12 18 RX12 TX12 := ⟨cfX12, by decide, tt_c4 218 (by decide +kernel) rfl⟩
theorem fX12_81 : GF RX12 81 12 19 RX12 TX12 := ⟨cfX12, by decide, tt_c4 219 (by decide +kernel) rfl⟩
theorem fX12_84 : GF RX12 84 12 20 RX12 TX12 := ⟨cfX12, by decide, tt_c4 220 (by decide +kernel) rfl⟩
theorem fX12_53 : GF RX12 53 12 21 RX12 TX12 := ⟨cfX12, by decide, tt_c4 221 (by decide +kernel) rfl⟩
theorem fX12_282 : GF RX12 282 12 22 RX12 TX12 := ⟨cfX12, by decide, tt_c4 222 (by decide +kernel) rfl⟩
theorem fX12_56 : GF RX12 56 12 23 RX12 TX12 := ⟨cfX12, by decide, tt_c4 223 (by decide +kernel) rfl⟩
theorem fX12_297 : GF RX12 297 12 24 RX12 TX12 := ⟨cfX12, by decide, tt_c4 224 (by decide +kernel) rfl⟩
theorem fX12_59 : GF RX12 59 12 25 RX12 TX12 := ⟨cfX12, by decide, tt_c4 225 (by decide +kernel) rfl⟩
theorem fX12_62 : GF RX12 62 12 26 RX12 TX12 := ⟨cfX12, by decide, tt_c4 226 (by decide +kernel) rfl⟩
theorem fX12_161 : GF RX12 161 12 27 RX12 TX12 := ⟨cfX12, by decide, tt_c4 227 (by decide +kernel) rfl⟩
theorem fX12_158 : GF RX12 158 12 28 RX12 TX12 := ⟨cfX12, by decide, tt_c4 228 (by decide +kernel) rfl⟩
theorem fX12_65 : GF RX12 65 12 29 RX12 TX12 := ⟨cfX12, by decide, tt_c4 229 (by decide +kernel) rfl⟩
theorem fX12_68 : GF RX12 68 12 30 RX12 TX12 := ⟨cfX12, by decide, tt_c4 230 (by decide +kernel) rfl⟩
theorem fX12_252 : GF RX12 252 12 31 RX12 TX12 := ⟨cfX12, by decide, tt_c4 231 (by decide +kernel) rfl⟩
theorem fX12_71 : GF RX12 71 12 32 RX12 TX12 := ⟨cfX12, by decide, tt_c4 232 (by decide +kernel) rfl⟩
set_option maxRecDepth 100000 in
theorem lL_17 : LV "PaintedOverLaw" 17 RX12 yX12_row cX12_row 5 (some .int) 3 := ⟨tt_c5 60 (by decide +kernel) rfl, tt_c5 61 (by decide +kernel) rfl, tt_c5 62 (by decide +kernel) rfl, tt_c1 13 (by decide +kernel) rfl, tt_c5 63 rfl rfl, by decide, by decide +kernel⟩
set_option maxRecDepth 100000 in
theorem lX12_90 : LSt RX12 90 yX12_within cX12_within 3 (some .boolean) 3 := ⟨tt_c5 64 (by decide +kernel) rfl, tt_c5 65 (by decide +kernel) rfl, tt_c1 13 (by decide +kernel) rfl, tt_c5 66 rfl rfl, by decide, by decide +kernel⟩
set_option maxRecDepth 100000 in
theorem lX12_98 : LV RX12 98 RX12 yX12_no cX12_no 2 (some .int) 1 := ⟨tt_c5 67 (by decide +kernel) rfl, tt_c5 69 (by decide +kernel) rfl, tt_in 31 (by decide +kernel) rfl, tt_c1 13 (by decide +kernel) rfl, tt_c5 70 rfl rfl, by decide, by decide +kernel⟩
set_option maxRecDepth 100000 in
theorem lL_24 : LV "PaintedOverLaw" 24 RX12 yX12_set cX12_set 7 (some .int) 3 := ⟨tt_c5 71 (by decide +kernel) rfl, tt_c5 72 (by decide +kernel) rfl, tt_c5 73 (by decide +kernel) rfl, tt_c1 13 (by decide +kernel) rfl, tt_c5 74 rfl rfl, by decide, by decide +kernel⟩
set_option maxRecDepth 100000 in
theorem lX12_105 : LV RX12 105 RX12 yX12_noRow cX12_noRow 2 (some .int) 1 := ⟨tt_c5 75 (by decide +kernel) rfl, tt_c5 77 (by decide +kernel) rfl, tt_in 32 (by decide +kernel) rfl, tt_c1 13 (by decide +kernel) rfl, tt_c5 78 rfl rfl, by decide, by decide +kernel⟩
set_option maxRecDepth 100000 in
theorem lX12_102 : LV RX12 102 RX12 yX12_isRow cX12_isRow 2 (some .boolean) 1 := ⟨tt_c5 79 (by decide +kernel) rfl, tt_c5 81 (by decide +kernel) rfl, tt_in 33 (by decide +kernel) rfl, tt_c1 13 (by decide +kernel) rfl, tt_c5 82 rfl rfl, by decide, by decide +kernel⟩
set_option maxRecDepth 100000 in
theorem lL_29 : LV "PaintedOverLaw" 29 RX12 yX12_copy cX12_copy 7 (some .int) 5 := ⟨tt_c5 83 (by decide +kernel) rfl, tt_c5 84 (by decide +kernel) rfl, tt_c5 85 (by decide +kernel) rfl, tt_c1 13 (by decide +kernel) rfl, tt_c5 86 rfl rfl, by decide, by decide +kernel⟩
set_option maxRecDepth 100000 in
theorem lL_34 : LV "PaintedOverLaw" 34 RX12 yX12_element cX12_element 3 (some .long) 2 := ⟨tt_c5 87 (by decide +kernel) rfl, tt_c5 88 (by decide +kernel) rfl, tt_c5 89 (by decide +kernel) rfl, tt_c1 13 (by decide +kernel) rfl, tt_c5 90 rfl rfl, by decide, by decide +kernel⟩
set_option maxRecDepth 100000 in
theorem lL_39 : LV "PaintedOverLaw" 39 RX12 yX12_show cX12_show 3 (some .int) 2 := ⟨tt_c5 91 (by decide +kernel) rfl, tt_c5 92 (by decide +kernel) rfl, tt_c5 93 (by decide +kernel) rfl, tt_c1 13 (by decide +kernel) rfl, tt_c5 94 rfl rfl, by decide, by decide +kernel⟩
set_option maxRecDepth 100000 in
theorem lX12_94 : LV RX12 94 RX12 yX12_isHouse cX12_isHouse 2 (some .boolean) 1 := ⟨tt_c5 95 (by decide +kernel) rfl, tt_c5 97 (by decide +kernel) rfl, tt_in 34 (by decide +kernel) rfl, tt_c1 13 (by decide +kernel) rfl, tt_c5 98 rfl rfl, by decide, by decide +kernel⟩
set_option maxRecDepth 100000 in
theorem lL_44 : LV "PaintedOverLaw" 44 RX12 yX12_holds cX12_holds 2 (some .int) 1 := ⟨tt_c5 99 (by decide +kernel) rfl, tt_c5 100 (by decide +kernel) rfl, tt_c5 101 (by decide +kernel) rfl, tt_c1 13 (by decide +kernel) rfl, tt_c5 102 rfl rfl, by decide, by decide +kernel⟩
set_option maxRecDepth 100000 in
theorem lL_48 : LV "PaintedOverLaw" 48 RX12 yX12_says cX12_says 4 (some .int) 2 := ⟨tt_c5 103 (by decide +kernel) rfl, tt_c5 104 (by decide +kernel) rfl, tt_c5 105 (by decide +kernel) rfl, tt_c1 13 (by decide +kernel) rfl, tt_c5 106 rfl rfl, by decide, by decide +kernel⟩
set_option maxRecDepth 100000 in
theorem lX12_111 : LSt RX12 111 yX12_isUnder cX12_isUnder 3 (some .boolean) 2 := ⟨tt_c5 107 (by decide +kernel) rfl, tt_c5 108 (by decide +kernel) rfl, tt_c1 13 (by decide +kernel) rfl, tt_c5 109 rfl rfl, by decide, by decide +kernel⟩
set_option maxRecDepth 100000 in
theorem lX12_108 : LSt RX12 108 yX12_above cX12_above 1 (some .int) 1 := ⟨tt_c5 110 (by decide +kernel) rfl, tt_c5 111 (by decide +kernel) rfl, tt_c1 13 (by decide +kernel) rfl, tt_c5 112 rfl rfl, by decide, by decide +kernel⟩
set_option maxRecDepth 100000 in
theorem lX12_115 : LV RX12 115 RX12 yX12_skinOf cX12_skinOf 4 (some .int) 1 := ⟨tt_c5 113 (by decide +kernel) rfl, tt_c5 115 (by decide +kernel) rfl, tt_in 35 (by decide +kernel) rfl, tt_c1 13 (by decide +kernel) rfl, tt_c5 116 rfl rfl, by decide, by decide +kernel⟩
set_option maxRecDepth 100000 in
theorem lX12_234 : LV RX12 234 RX12 yX12_deepOf cX12_deepOf 3 (some .int) 2 := ⟨tt_c5 117 (by decide +kernel) rfl, tt_c5 119 (by decide +kernel) rfl, tt_in 36 (by decide +kernel) rfl, tt_c1 13 (by decide +kernel) rfl, tt_c5 120 rfl rfl, by decide, by decide +kernel⟩
set_option maxRecDepth 100000 in
theorem lX12_152 : LV RX12 152 RX12 yX12_lies cX12_lies 5 (some .int) 2 := ⟨tt_c5 121 (by decide +kernel) rfl, tt_c5 123 (by decide +kernel) rfl, tt_in 37 (by decide +kernel) rfl, tt_c1 13 (by decide +kernel) rfl, tt_c5 124 rfl rfl, by decide, by decide +kernel⟩
set_option maxRecDepth 100000 in
theorem lX12_155 : LSt RX12 155 yX12_has cX12_has 2 (some .boolean) 2 := ⟨tt_c5 125 (by decide +kernel) rfl, tt_c5 126 (by decide +kernel) rfl, tt_c1 13 (by decide +kernel) rfl, tt_c5 127 rfl rfl, by decide, by decide +kernel⟩
set_option maxRecDepth 100000 in
theorem lX12_231 : LV RX12 231 RX12 yX12_sum cX12_sum 5 (some .int) 2 := ⟨tt_c5 128 (by decide +kernel) rfl, tt_c5 130 (by decide +kernel) rfl, tt_in 38 (by decide +kernel) rfl, tt_c1 13 (by decide +kernel) rfl, tt_c5 131 rfl rfl, by decide, by decide +kernel⟩
set_option maxRecDepth 100000 in
theorem lX12_118 : LV RX12 118 RX12 yX12_wetOf cX12_wetOf 6 (some .int) 3 := ⟨tt_c5 132 (by decide +kernel) rfl, tt_c5 134 (by decide +kernel) rfl, tt_in 39 (by decide +kernel) rfl, tt_c1 13 (by decide +kernel) rfl, tt_c5 135 rfl rfl, by decide, by decide +kernel⟩
set_option maxRecDepth 100000 in
theorem lX12_122 : LV RX12 122 RX12 yX12_hard cX12_hard 6 (some .int) 3 := ⟨tt_c5 136 (by decide +kernel) rfl, tt_c5 138 (by decide +kernel) rfl, tt_in 40 (by decide +kernel) rfl, tt_c1 13 (by decide +kernel) rfl, tt_c5 139 rfl rfl, by decide, by decide +kernel⟩
set_option maxRecDepth 100000 in
theorem lX12_223 : LSt RX12 223 yJ9_max_7cf53 cJ9_max_7cf53 2 (some .int) 2 := ⟨tt_c5 140 (by decide +kernel) rfl, tt_c3 98 (by decide +kernel) rfl, tt_c1 15 (by decide +kernel) rfl, tt_c3 99 rfl rfl, by decide, by decide +kernel⟩
set_option maxRecDepth 100000 in
theorem lX12_125 : LV RX12 125 RX12 yX12_strength cX12_strength 4 (some .int) 2 := ⟨tt_c5 141 (by decide +kernel) rfl, tt_c5 143 (by decide +kernel) rfl, tt_in 41 (by decide +kernel) rfl, tt_c1 13 (by decide +kernel) rfl, tt_c5 144 rfl rfl, by decide, by decide +kernel⟩
set_option maxRecDepth 100000 in
theorem lL_52 : LV "PaintedOverLaw" 52 RX12 yX12_house cX12_house 3 (some .int) 2 := ⟨tt_c5 145 (by decide +kernel) rfl, tt_c5 146 (by decide +kernel) rfl, tt_c5 147 (by decide +kernel) rfl, tt_c1 13 (by decide +kernel) rfl, tt_c5 148 rfl rfl, by decide, by decide +kernel⟩
set_option maxRecDepth 100000 in
theorem lX12_133 : LV RX12 133 RX12 yX12_newHouse cX12_newHouse 3 (some .int) 2 := ⟨tt_c5 149 (by decide +kernel) rfl, tt_c5 151 (by decide +kernel) rfl, tt_in 42 (by decide +kernel) rfl, tt_c1 13 (by decide +kernel) rfl, tt_c5 152 rfl rfl, by decide, by decide +kernel⟩
set_option maxRecDepth 100000 in
theorem lX12_129 : LV RX12 129 RX12 yX12_bare cX12_bare 3 none 1 := ⟨tt_c5 153 (by decide +kernel) rfl, tt_c5 155 (by decide +kernel) rfl, tt_in 43 (by decide +kernel) rfl, tt_c1 13 (by decide +kernel) rfl, tt_c5 156 rfl rfl, by decide, by decide +kernel⟩
set_option maxRecDepth 100000 in
theorem lL_56 : LV "PaintedOverLaw" 56 RX12 yX12_houseOf cX12_houseOf 3 (some .int) 2 := ⟨tt_c5 157 (by decide +kernel) rfl, tt_c5 158 (by decide +kernel) rfl, tt_c5 159 (by decide +kernel) rfl, tt_c1 13 (by decide +kernel) rfl, tt_c5 160 rfl rfl, by decide, by decide +kernel⟩
set_option maxRecDepth 100000 in
theorem lX12_136 : LV RX12 136 RX12 yX12_lived cX12_lived 4 (some .int) 1 := ⟨tt_c5 161 (by decide +kernel) rfl, tt_c5 163 (by decide +kernel) rfl, tt_in 44 (by decide +kernel) rfl, tt_c1 13 (by decide +kernel) rfl, tt_c5 164 rfl rfl, by decide, by decide +kernel⟩
set_option maxRecDepth 100000 in
theorem lL_60 : LV "PaintedOverLaw" 60 RX12 yX12_colour cX12_colour 5 (some .int) 3 := ⟨tt_c5 165 (by decide +kernel) rfl, tt_c5 166 (by decide +kernel) rfl, tt_c5 167 (by decide +kernel) rfl, tt_c1 13 (by decide +kernel) rfl, tt_c5 168 rfl rfl, by decide, by decide +kernel⟩
set_option maxRecDepth 100000 in
theorem lL_64 : LV "PaintedOverLaw" 64 RX12 yX12_ask cX12_ask 4 (some .int) 2 := ⟨tt_c5 169 (by decide +kernel) rfl, tt_c5 170 (by decide +kernel) rfl, tt_c5 171 (by decide +kernel) rfl, tt_c1 13 (by decide +kernel) rfl, tt_c5 172 rfl rfl, by decide, by decide +kernel⟩
set_option maxRecDepth 100000 in
theorem lL_68 : LV "PaintedOverLaw" 68 RX12 yX12_coat cX12_coat 6 (some .int) 5 := ⟨tt_c5 173 (by decide +kernel) rfl, tt_c5 174 (by decide +kernel) rfl, tt_c5 175 (by decide +kernel) rfl, tt_c1 13 (by decide +kernel) rfl, tt_c5 176 rfl rfl, by decide, by decide +kernel⟩
set_option maxRecDepth 100000 in
theorem lX12_142 : LSt RX12 142 yX12_isCell cX12_isCell 1 (some .boolean) 1 := ⟨tt_c5 177 (by decide +kernel) rfl, tt_c5 178 (by decide +kernel) rfl, tt_c1 13 (by decide +kernel) rfl, tt_c5 179 rfl rfl, by decide, by decide +kernel⟩
set_option maxRecDepth 100000 in
theorem lX12_145 : LV RX12 145 RX12 yX12_paints cX12_paints 7 (some .int) 5 := ⟨tt_c5 180 (by decide +kernel) rfl, tt_c5 182 (by decide +kernel) rfl, tt_in 45 (by decide +kernel) rfl, tt_c1 13 (by decide +kernel) rfl, tt_c5 183 rfl rfl, by decide, by decide +kernel⟩
set_option maxRecDepth 100000 in
theorem lL_72 : LV "PaintedOverLaw" 72 RX12 yX12_coatOf cX12_coatOf 7 (some .int) 3 := ⟨tt_c5 184 (by decide +kernel) rfl, tt_c5 185 (by decide +kernel) rfl, tt_c5 186 (by decide +kernel) rfl, tt_c1 13 (by decide +kernel) rfl, tt_c5 187 rfl rfl, by decide, by decide +kernel⟩
set_option maxRecDepth 100000 in
theorem lX12_149 : LV RX12 149 RX12 yX12_isCoat cX12_isCoat 3 (some .boolean) 2 := ⟨tt_c5 188 (by decide +kernel) rfl, tt_c5 190 (by decide +kernel) rfl, tt_in 46 (by decide +kernel) rfl, tt_c1 13 (by decide +kernel) rfl, tt_c5 191 rfl rfl, by decide, by decide +kernel⟩
set_option maxRecDepth 100000 in
theorem lL_76 : LV "PaintedOverLaw" 76 RX12 yX12_street cX12_street 5 (some .int) 1 := ⟨tt_c5 192 (by decide +kernel) rfl, tt_c5 193 (by decide +kernel) rfl, tt_c5 194 (by decide +kernel) rfl, tt_c1 13 (by decide +kernel) rfl, tt_c5 195 rfl rfl, by decide, by decide +kernel⟩
set_option maxRecDepth 100000 in
theorem lX12_209 : LV RX12 209 RX12 yX12_keep cX12_keep 3 none 1 := ⟨tt_c5 196 (by decide +kernel) rfl, tt_c5 198 (by decide +kernel) rfl, tt_in 47 (by decide +kernel) rfl, tt_c1 13 (by decide +kernel) rfl, tt_c5 199 rfl rfl, by decide, by decide +kernel⟩
set_option maxRecDepth 100000 in
theorem lX12_213 : LV RX12 213 RX12 yX12_item cX12_item 4 (some .boolean) 0 := ⟨tt_c5 200 (by decide +kernel) rfl, tt_c5 202 (by decide +kernel) rfl, tt_in 48 (by decide +kernel) rfl, tt_c1 13 (by decide +kernel) rfl, tt_c5 203 rfl rfl, by decide, by decide +kernel⟩
set_option maxRecDepth 100000 in
theorem lX12_177 : LV RX12 177 RX12 yX12_is cX12_is 2 (some .boolean) 1 := ⟨tt_c5 204 (by decide +kernel) rfl, tt_c5 206 (by decide +kernel) rfl, tt_in 49 (by decide +kernel) rfl, tt_c1 13 (by decide +kernel) rfl, tt_c5 207 rfl rfl, by decide, by decide +kernel⟩
set_option maxRecDepth 100000 in
theorem lX12_164 : LV RX12 164 RX12 yX12_sign cX12_sign 1 (some .int) 0 := ⟨tt_c5 208 (by decide +kernel) rfl, tt_c5 210 (by decide +kernel) rfl, tt_in 50 (by decide +kernel) rfl, tt_c1 13 (by decide +kernel) rfl, tt_c5 211 rfl rfl, by decide, by decide +kernel⟩
set_option maxRecDepth 100000 in
theorem lX12_183 : LV RX12 183 RX12 yX12_word cX12_word 3 (some .boolean) 1 := ⟨tt_c5 213 (by decide +kernel) rfl, tt_c5 215 (by decide +kernel) rfl, tt_in 51 (by decide +kernel) rfl, tt_c1 13 (by decide +kernel) rfl, tt_c5 216 rfl rfl, by decide, by decide +kernel⟩
set_option maxRecDepth 100000 in
theorem lX12_168 : LV RX12 168 RJ0 yJ0_length_8abf5 cJ0_length_8abf5 1 (some .int) 0 := ⟨tt_c5 217 (by decide +kernel) rfl, tt_c3 46 (by decide +kernel) rfl, tt_c3 47 (by decide +kernel) rfl, tt_c1 16 (by decide +kernel) rfl, tt_c3 48 rfl rfl, by decide, by decide +kernel⟩
set_option maxRecDepth 100000 in
theorem lX12_173 : LV RX12 173 RJ0 yJ0_charAt_5068e cJ0_charAt_5068e 2 (some .char) 1 := ⟨tt_c5 218 (by decide +kernel) rfl, tt_c3 60 (by decide +kernel) rfl, tt_c3 61 (by decide +kernel) rfl, tt_c1 16 (by decide +kernel) rfl, tt_c3 62 rfl rfl, by decide, by decide +kernel⟩
set_option maxRecDepth 100000 in
theorem lX12_187 : LV RX12 187 RX12 yX12_number cX12_number 6 (some .boolean) 3 := ⟨tt_c5 219 (by decide +kernel) rfl, tt_c5 221 (by decide +kernel) rfl, tt_in 52 (by decide +kernel) rfl, tt_c1 13 (by decide +kernel) rfl, tt_c5 222 rfl rfl, by decide, by decide +kernel⟩
set_option maxRecDepth 100000 in
theorem lX12_190 : LV RX12 190 RX12 yX12_sign_ cX12_sign_ 2 (some .int) 1 := ⟨tt_c5 223 (by decide +kernel) rfl, tt_c5 225 (by decide +kernel) rfl, tt_in 53 (by decide +kernel) rfl, tt_c1 13 (by decide +kernel) rfl, tt_c5 226 rfl rfl, by decide, by decide +kernel⟩
set_option maxRecDepth 100000 in
theorem lX12_192 : LSt RX12 192 yJ6_highestOneBit_0f7a4 cJ6_highestOneBit_0f7a4 1 (some .int) 1 := ⟨tt_c5 227 (by decide +kernel) rfl, tt_c5 228 (by decide +kernel) rfl, tt_c1 20 (by decide +kernel) rfl, tt_c5 229 rfl rfl, by decide, by decide +kernel⟩
set_option maxRecDepth 100000 in
theorem lJ6_51 : LSt RJ6 51 yJ6_numberOfLeadingZeros_0f7a4 cJ6_numberOfLeadingZeros_0f7a4 2 (some .int) 1 := ⟨tt_c5 231 (by decide +kernel) rfl, tt_c5 232 (by decide +kernel) rfl, tt_c1 20 (by decide +kernel) rfl, tt_c5 233 rfl rfl, by decide, by decide +kernel⟩
set_option maxRecDepth 100000 in
theorem lX12_204 : LV RX12 204 RX12 yX12_hailAll cX12_hailAll 6 (some .int) 1 := ⟨tt_c5 239 (by decide +kernel) rfl, tt_c6 1 (by decide +kernel) rfl, tt_in 54 (by decide +kernel) rfl, tt_c1 13 (by decide +kernel) rfl, tt_c6 2 rfl rfl, by decide, by decide +kernel⟩
set_option maxRecDepth 100000 in
theorem lX12_246 : LV RX12 246 RX12 yX12_behind cX12_behind 7 (some .int) 3 := ⟨tt_c6 3 (by decide +kernel) rfl, tt_c6 5 (by decide +kernel) rfl, tt_in 55 (by decide +kernel) rfl, tt_c1 13 (by decide +kernel) rfl, tt_c6 6 rfl rfl, by decide, by decide +kernel⟩
set_option maxRecDepth 100000 in
theorem lX12_228 : LSt RX12 228 yJ6_numberOfLeadingZeros_0f7a4 cJ6_numberOfLeadingZeros_0f7a4 2 (some .int) 1 := ⟨tt_c6 7 (by decide +kernel) rfl, tt_c5 232 (by decide +kernel) rfl, tt_c1 20 (by decide +kernel) rfl, tt_c5 233 rfl rfl, by decide, by decide +kernel⟩
set_option maxRecDepth 100000 in
theorem lX12_266 : LSt RX12 266 yJ6_bitCount_0f7a4 cJ6_bitCount_0f7a4 1 (some .int) 1 := ⟨tt_c6 8 (by decide +kernel) rfl, tt_c3 143 (by decide +kernel) rfl, tt_c1 20 (by decide +kernel) rfl, tt_c3 144 rfl rfl, by decide, by decide +kernel⟩
set_option maxRecDepth 100000 in
theorem lX12_217 : LV RX12 217 RX12 yX12_again cX12_again 3 none 1 := ⟨tt_c6 10 (by decide +kernel) rfl, tt_c6 12 (by decide +kernel) rfl, tt_in 56 (by decide +kernel) rfl, tt_c1 13 (by decide +kernel) rfl, tt_c6 13 rfl rfl, by decide, by decide +kernel⟩
set_option maxRecDepth 100000 in
theorem lL_81 : LV "PaintedOverLaw" 81 RX12 yX12_fault cX12_fault 1 (some .int) 0 := ⟨tt_c6 14 (by decide +kernel) rfl, tt_c6 15 (by decide +kernel) rfl, tt_c6 16 (by decide +kernel) rfl, tt_c1 13 (by decide +kernel) rfl, tt_c6 17 rfl rfl, by decide, by decide +kernel⟩
set_option maxRecDepth 100000 in
theorem lL_85 : LV "PaintedOverLaw" 85 RX12 yX12_seen cX12_seen 4 (some .int) 3 := ⟨tt_c6 18 (by decide +kernel) rfl, tt_c6 19 (by decide +kernel) rfl, tt_c6 20 (by decide +kernel) rfl, tt_c1 13 (by decide +kernel) rfl, tt_c6 21 rfl rfl, by decide, by decide +kernel⟩
set_option maxRecDepth 100000 in
theorem lX12_237 : LV RX12 237 RX12 yX12_no10 cX12_no10 2 (some .int) 1 := ⟨tt_c6 22 (by decide +kernel) rfl, tt_c6 24 (by decide +kernel) rfl, tt_in 57 (by decide +kernel) rfl, tt_c1 13 (by decide +kernel) rfl, tt_c6 25 rfl rfl, by decide, by decide +kernel⟩
set_option maxRecDepth 100000 in
theorem lX12_240 : LSt RX12 240 yX12_isWeather cX12_isWeather 1 (some .boolean) 1 := ⟨tt_c6 26 (by decide +kernel) rfl, tt_c6 27 (by decide +kernel) rfl, tt_c1 13 (by decide +kernel) rfl, tt_c6 28 rfl rfl, by decide, by decide +kernel⟩
set_option maxRecDepth 100000 in
theorem lX12_243 : LV RX12 243 RX12 yX12_seenAt cX12_seenAt 4 (some .int) 3 := ⟨tt_c6 29 (by decide +kernel) rfl, tt_c6 31 (by decide +kernel) rfl, tt_in 58 (by decide +kernel) rfl, tt_c1 13 (by decide +kernel) rfl, tt_c6 32 rfl rfl, by decide, by decide +kernel⟩
set_option maxRecDepth 100000 in
theorem lX12_220 : LV RX12 220 RX12 yX12_seenIn cX12_seenIn 5 (some .int) 3 := ⟨tt_c6 33 (by decide +kernel) rfl, tt_c6 35 (by decide +kernel) rfl, tt_in 59 (by decide +kernel) rfl, tt_c1 13 (by decide +kernel) rfl, tt_c6 36 rfl rfl, by decide, by decide +kernel⟩
set_option maxRecDepth 100000 in
theorem lL_89 : LV "PaintedOverLaw" 89 RX12 yX12_wet cX12_wet 4 (some .int) 3 := ⟨tt_c6 37 (by decide +kernel) rfl, tt_c6 38 (by decide +kernel) rfl, tt_c6 39 (by decide +kernel) rfl, tt_c1 13 (by decide +kernel) rfl, tt_c6 40 rfl rfl, by decide, by decide +kernel⟩
set_option maxRecDepth 100000 in
theorem lL_93 : LV "PaintedOverLaw" 93 RX12 yX12_deep cX12_deep 3 (some .int) 2 := ⟨tt_c6 41 (by decide +kernel) rfl, tt_c6 42 (by decide +kernel) rfl, tt_c6 43 (by decide +kernel) rfl, tt_c1 13 (by decide +kernel) rfl, tt_c6 44 rfl rfl, by decide, by decide +kernel⟩
set_option maxRecDepth 100000 in
theorem lL_97 : LV "PaintedOverLaw" 97 RX12 yX12_skin cX12_skin 2 (some .int) 1 := ⟨tt_c6 45 (by decide +kernel) rfl, tt_c6 46 (by decide +kernel) rfl, tt_c6 47 (by decide +kernel) rfl, tt_c1 13 (by decide +kernel) rfl, tt_c6 48 rfl rfl, by decide, by decide +kernel⟩
set_option maxRecDepth 100000 in
theorem lL_101 : LV "PaintedOverLaw" 101 RX12 yX12_hailed cX12_hailed 4 (some .int) 3 := ⟨tt_c6 49 (by decide +kernel) rfl, tt_c6 50 (by decide +kernel) rfl, tt_c6 51 (by decide +kernel) rfl, tt_c1 13 (by decide +kernel) rfl, tt_c6 52 rfl rfl, by decide, by decide +kernel⟩
set_option maxRecDepth 100000 in
theorem lL_105 : LV "PaintedOverLaw" 105 RX12 yX12_razor cX12_razor 9 (some .int) 3 := ⟨tt_c6 53 (by decide +kernel) rfl, tt_c6 54 (by decide +kernel) rfl, tt_c6 55 (by decide +kernel) rfl, tt_c1 13 (by decide +kernel) rfl, tt_c6 56 rfl rfl, by decide, by decide +kernel⟩
set_option maxRecDepth 100000 in
theorem lL_109 : LV "PaintedOverLaw" 109 RX12 yX12_hidden cX12_hidden 3 (some .int) 2 := ⟨tt_c6 57 (by decide +kernel) rfl, tt_c6 58 (by decide +kernel) rfl, tt_c6 59 (by decide +kernel) rfl, tt_c1 13 (by decide +kernel) rfl, tt_c6 60 rfl rfl, by decide, by decide +kernel⟩
set_option maxRecDepth 100000 in
theorem lX12_249 : LV RX12 249 RX12 yX12_seenAll cX12_seenAll 6 (some .int) 2 := ⟨tt_c6 61 (by decide +kernel) rfl, tt_c6 63 (by decide +kernel) rfl, tt_in 60 (by decide +kernel) rfl, tt_c1 13 (by decide +kernel) rfl, tt_c6 64 rfl rfl, by decide, by decide +kernel⟩
set_option maxRecDepth 100000 in
theorem lL_113 : LV "PaintedOverLaw" 113 RX12 yX12_shown cX12_shown 6 (some .int) 2 := ⟨tt_c6 65 (by decide +kernel) rfl, tt_c6 66 (by decide +kernel) rfl, tt_c6 67 (by decide +kernel) rfl, tt_c1 13 (by decide +kernel) rfl, tt_c6 68 rfl rfl, by decide, by decide +kernel⟩
set_option maxRecDepth 100000 in
theorem lL_117 : LV "PaintedOverLaw" 117 RX12 yX12_firstWet cX12_firstWet 4 (some .int) 2 := ⟨tt_c6 69 (by decide +kernel) rfl, tt_c6 70 (by decide +kernel) rfl, tt_c6 71 (by decide +kernel) rfl, tt_c1 13 (by decide +kernel) rfl, tt_c6 72 rfl rfl, by decide, by decide +kernel⟩
set_option maxRecDepth 100000 in
theorem lL_121 : LV "PaintedOverLaw" 121 RX12 yX12_paint cX12_paint 10 (some .int) 3 := ⟨tt_c6 73 (by decide +kernel) rfl, tt_c6 74 (by decide +kernel) rfl, tt_c6 75 (by decide +kernel) rfl, tt_c1 13 (by decide +kernel) rfl, tt_c6 76 rfl rfl, by decide, by decide +kernel⟩
set_option maxRecDepth 100000 in
theorem lL_125 : LV "PaintedOverLaw" 125 RX12 yX12_gap cX12_gap 6 (some .int) 2 := ⟨tt_c6 77 (by decide +kernel) rfl, tt_c6 78 (by decide +kernel) rfl, tt_c6 79 (by decide +kernel) rfl, tt_c1 13 (by decide +kernel) rfl, tt_c6 80 rfl rfl, by decide, by decide +kernel⟩
set_option maxRecDepth 100000 in
theorem lL_129 : LV "PaintedOverLaw" 129 RX12 yX12_moves cX12_moves 7 (some .int) 2 := ⟨tt_c6 81 (by decide +kernel) rfl, tt_c6 82 (by decide +kernel) rfl, tt_c6 83 (by decide +kernel) rfl, tt_c1 13 (by decide +kernel) rfl, tt_c6 84 rfl rfl, by decide, by decide +kernel⟩
set_option maxRecDepth 100000 in
theorem lL_133 : LV "PaintedOverLaw" 133 RX12 yX12_orders cX12_orders 9 (some .int) 3 := ⟨tt_c6 85 (by decide +kernel) rfl, tt_c6 86 (by decide +kernel) rfl, tt_c6 87 (by decide +kernel) rfl, tt_c1 13 (by decide +kernel) rfl, tt_c6 88 rfl rfl, by decide, by decide +kernel⟩
set_option maxRecDepth 100000 in
theorem lX12_258 : LV RX12 258 RX12 yX12_noPairs cX12_noPairs 7 (some .int) 3 := ⟨tt_c6 89 (by decide +kernel) rfl, tt_c6 91 (by decide +kernel) rfl, tt_in 61 (by decide +kernel) rfl, tt_c1 13 (by decide +kernel) rfl, tt_c6 92 rfl rfl, by decide, by decide +kernel⟩
set_option maxRecDepth 100000 in
theorem lX12_262 : LV RX12 262 RX12 yX12_pairs cX12_pairs 5 none 2 := ⟨tt_c6 93 (by decide +kernel) rfl, tt_c6 95 (by decide +kernel) rfl, tt_in 62 (by decide +kernel) rfl, tt_c1 13 (by decide +kernel) rfl, tt_c6 96 rfl rfl, by decide, by decide +kernel⟩
set_option maxRecDepth 100000 in
theorem lX12_255 : LV RX12 255 RX12 yX12_ordersFrom cX12_ordersFrom 4 (some .int) 1 := ⟨tt_c6 97 (by decide +kernel) rfl, tt_c6 99 (by decide +kernel) rfl, tt_in 63 (by decide +kernel) rfl, tt_c1 13 (by decide +kernel) rfl, tt_c6 100 rfl rfl, by decide, by decide +kernel⟩
set_option maxRecDepth 100000 in
theorem lL_137 : LV "PaintedOverLaw" 137 RX12 yX12_forged cX12_forged 5 (some .int) 2 := ⟨tt_c6 101 (by decide +kernel) rfl, tt_c6 102 (by decide +kernel) rfl, tt_c6 103 (by decide +kernel) rfl, tt_c1 13 (by decide +kernel) rfl, tt_c6 104 rfl rfl, by decide, by decide +kernel⟩
set_option maxRecDepth 100000 in
theorem lL_141 : LV "PaintedOverLaw" 141 RX12 yX12_lane cX12_lane 3 (some .int) 2 := ⟨tt_c6 105 (by decide +kernel) rfl, tt_c6 106 (by decide +kernel) rfl, tt_c6 107 (by decide +kernel) rfl, tt_c1 13 (by decide +kernel) rfl, tt_c6 108 rfl rfl, by decide, by decide +kernel⟩
set_option maxRecDepth 100000 in
theorem lX12_269 : LV RX12 269 RX12 yX12_deepest cX12_deepest 4 (some .int) 1 := ⟨tt_c6 109 (by decide +kernel) rfl, tt_c6 111 (by decide +kernel) rfl, tt_in 64 (by decide +kernel) rfl, tt_c1 13 (by decide +kernel) rfl, tt_c6 112 rfl rfl, by decide, by decide +kernel⟩
set_option maxRecDepth 100000 in
theorem lL_145 : LV "PaintedOverLaw" 145 RX12 yX12_price cX12_price 7 (some .int) 2 := ⟨tt_c6 113 (by decide +kernel) rfl, tt_c6 114 (by decide +kernel) rfl, tt_c6 115 (by decide +kernel) rfl, tt_c1 13 (by decide +kernel) rfl, tt_c6 116 rfl rfl, by decide, by decide +kernel⟩
set_option maxRecDepth 100000 in
theorem lL_149 : LV "PaintedOverLaw" 149 RX12 yX12_hail cX12_hail 2 (some .int) 1 := ⟨tt_c6 117 (by decide +kernel) rfl, tt_c6 118 (by decide +kernel) rfl, tt_c6 119 (by decide +kernel) rfl, tt_c1 13 (by decide +kernel) rfl, tt_c6 120 rfl rfl, by decide, by decide +kernel⟩
set_option maxRecDepth 100000 in
theorem lL_153 : LV "PaintedOverLaw" 153 RX12 yX12_scratch cX12_scratch 5 (some .int) 2 := ⟨tt_c6 121 (by decide +kernel) rfl, tt_c6 122 (by decide +kernel) rfl, tt_c6 123 (by decide +kernel) rfl, tt_c1 13 (by decide +kernel) rfl, tt_c6 124 rfl rfl, by decide, by decide +kernel⟩
set_option maxRecDepth 100000 in
theorem lL_157 : LV "PaintedOverLaw" 157 RX12 yX12_falls cX12_falls 1 (some .int) 0 := ⟨tt_c6 125 (by decide +kernel) rfl, tt_c6 126 (by decide +kernel) rfl, tt_c6 127 (by decide +kernel) rfl, tt_c1 13 (by decide +kernel) rfl, tt_c6 128 rfl rfl, by decide, by decide +kernel⟩
set_option maxRecDepth 100000 in
theorem lX12_275 : LV RX12 275 RX12 yX12_fall cX12_fall 3 (some .int) 0 := ⟨tt_c6 129 (by decide +kernel) rfl, tt_c6 131 (by decide +kernel) rfl, tt_in 65 (by decide +kernel) rfl, tt_c1 13 (by decide +kernel) rfl, tt_c6 132 rfl rfl, by decide, by decide +kernel⟩
set_option maxRecDepth 100000 in
theorem lL_161 : LV "PaintedOverLaw" 161 RX12 yX12_years cX12_years 9 (some .int) 1 := ⟨tt_c6 133 (by decide +kernel) rfl, tt_c6 134 (by decide +kernel) rfl, tt_c6 135 (by decide +kernel) rfl, tt_c1 13 (by decide +kernel) rfl, tt_c6 136 rfl rfl, by decide, by decide +kernel⟩
set_option maxRecDepth 100000 in
theorem lX12_279 : LV RX12 279 RX12 yX12_draw cX12_draw 2 (some .int) 1 := ⟨tt_c6 137 (by decide +kernel) rfl, tt_c6 139 (by decide +kernel) rfl, tt_in 66 (by decide +kernel) rfl, tt_c1 13 (by decide +kernel) rfl, tt_c6 140 rfl rfl, by decide, by decide +kernel⟩
set_option maxRecDepth 100000 in
theorem lL_165 : LV "PaintedOverLaw" 165 RX12 yX12_seed cX12_seed 3 (some .int) 1 := ⟨tt_c6 142 (by decide +kernel) rfl, tt_c6 143 (by decide +kernel) rfl, tt_c6 144 (by decide +kernel) rfl, tt_c1 13 (by decide +kernel) rfl, tt_c6 145 rfl rfl, by decide, by decide +kernel⟩
set_option maxRecDepth 100000 in
theorem lL_169 : LV "PaintedOverLaw" 169 RX12 yX12_act cX12_act 4 (some .int) 3 := ⟨tt_c6 146 (by decide +kernel) rfl, tt_c6 147 (by decide +kernel) rfl, tt_c6 148 (by decide +kernel) rfl, tt_c1 13 (by decide +kernel) rfl, tt_c6 149 rfl rfl, by decide, by decide +kernel⟩
set_option maxRecDepth 100000 in
theorem lX12_288 : LV RX12 288 RX12 yX12_paintsAct cX12_paintsAct 5 (some .int) 2 := ⟨tt_c6 150 (by decide +kernel) rfl, tt_c6 152 (by decide +kernel) rfl, tt_in 67 (by decide +kernel) rfl, tt_c1 13 (by decide +kernel) rfl, tt_c6 153 rfl rfl, by decide, by decide +kernel⟩
set_option maxRecDepth 100000 in
theorem lX12_285 : LV RX12 285 RX12 yX12_ran cX12_ran 2 none 1 := ⟨tt_c6 154 (by decide +kernel) rfl, tt_c6 156 (by decide +kernel) rfl, tt_in 68 (by decide +kernel) rfl, tt_c1 13 (by decide +kernel) rfl, tt_c6 157 rfl rfl, by decide, by decide +kernel⟩
set_option maxRecDepth 100000 in
theorem lX12_291 : LV RX12 291 RX12 yX12_peels cX12_peels 7 (some .int) 2 := ⟨tt_c6 158 (by decide +kernel) rfl, tt_c6 160 (by decide +kernel) rfl, tt_in 69 (by decide +kernel) rfl, tt_c1 13 (by decide +kernel) rfl, tt_c6 161 rfl rfl, by decide, by decide +kernel⟩
set_option maxRecDepth 100000 in
theorem lX12_294 : LV RX12 294 RX12 yX12_fallsAct cX12_fallsAct 5 (some .int) 2 := ⟨tt_c6 162 (by decide +kernel) rfl, tt_c6 164 (by decide +kernel) rfl, tt_in 70 (by decide +kernel) rfl, tt_c1 13 (by decide +kernel) rfl, tt_c6 165 rfl rfl, by decide, by decide +kernel⟩
set_option maxRecDepth 100000 in
theorem lL_173 : LV "PaintedOverLaw" 173 RX12 yX12_trace cX12_trace 2 (some .int) 1 := ⟨tt_c6 166 (by decide +kernel) rfl, tt_c6 167 (by decide +kernel) rfl, tt_c6 168 (by decide +kernel) rfl, tt_c1 13 (by decide +kernel) rfl, tt_c6 169 rfl rfl, by decide, by decide +kernel⟩
set_option maxRecDepth 100000 in
theorem lL_177 : LV "PaintedOverLaw" 177 RX12 yX12_image cX12_image 1 (some .int) 0 := ⟨tt_c6 170 (by decide +kernel) rfl, tt_c6 171 (by decide +kernel) rfl, tt_c6 172 (by decide +kernel) rfl, tt_c1 13 (by decide +kernel) rfl, tt_c6 173 rfl rfl, by decide, by decide +kernel⟩
set_option maxRecDepth 100000 in
theorem lL_181 : LV "PaintedOverLaw" 181 RX12 yX12_restore cX12_restore 2 (some .int) 0 := ⟨tt_c6 174 (by decide +kernel) rfl, tt_c6 175 (by decide +kernel) rfl, tt_c6 176 (by decide +kernel) rfl, tt_c1 13 (by decide +kernel) rfl, tt_c6 177 rfl rfl, by decide, by decide +kernel⟩
set_option maxRecDepth 100000 in
theorem lL_185 : LV "PaintedOverLaw" 185 RX12 yX12_status cX12_status 4 (some .int) 1 := ⟨tt_c6 178 (by decide +kernel) rfl, tt_c6 179 (by decide +kernel) rfl, tt_c6 180 (by decide +kernel) rfl, tt_c1 13 (by decide +kernel) rfl, tt_c6 181 rfl rfl, by decide, by decide +kernel⟩
