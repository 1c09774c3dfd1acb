theorem dX12_init_0 : decode cX12_init 0 = .ok (.aload_n 0, 1) := by decide +kernel
theorem dX12_init_1 : decode cX12_init 1 = .ok (.invokespecial 1, 3) := by decide +kernel
theorem dX12_init_4 : decode cX12_init 4 = .ok (.aload_n 0, 1) := by decide +kernel
theorem dX12_init_5 : decode cX12_init 5 = .ok (.bipush 8, 2) := by decide +kernel
theorem dX12_init_7 : decode cX12_init 7 = .ok (.newarray .int, 2) := by decide +kernel
theorem dX12_init_9 : decode cX12_init 9 = .ok (.putfield 7, 3) := by decide +kernel
theorem dX12_init_12 : decode cX12_init 12 = .ok (.aload_n 0, 1) := by decide +kernel
theorem dX12_init_13 : decode cX12_init 13 = .ok (.bipush 8, 2) := by decide +kernel
theorem dX12_init_15 : decode cX12_init 15 = .ok (.newarray .int, 2) := by decide +kernel
theorem dX12_init_17 : decode cX12_init 17 = .ok (.putfield 13, 3) := by decide +kernel
theorem dX12_init_20 : decode cX12_init 20 = .ok (.aload_n 0, 1) := by decide +kernel
theorem dX12_init_21 : decode cX12_init 21 = .ok (.sipush 1280, 3) := by decide +kernel
theorem dX12_init_24 : decode cX12_init 24 = .ok (.newarray .long, 2) := by decide +kernel
theorem dX12_init_26 : decode cX12_init 26 = .ok (.putfield 16, 3) := by decide +kernel
theorem dX12_init_29 : decode cX12_init 29 = .ok (.aload_n 0, 1) := by decide +kernel
theorem dX12_init_30 : decode cX12_init 30 = .ok (.bipush 6, 2) := by decide +kernel
theorem dX12_init_32 : decode cX12_init 32 = .ok (.newarray .int, 2) := by decide +kernel
theorem dX12_init_34 : decode cX12_init 34 = .ok (.putfield 20, 3) := by decide +kernel
theorem dX12_init_37 : decode cX12_init 37 = .ok (.aload_n 0, 1) := by decide +kernel
theorem dX12_init_38 : decode cX12_init 38 = .ok (.bipush 6, 2) := by decide +kernel
theorem dX12_init_40 : decode cX12_init 40 = .ok (.newarray .int, 2) := by decide +kernel
theorem dX12_init_42 : decode cX12_init 42 = .ok (.putfield 23, 3) := by decide +kernel
theorem dX12_init_45 : decode cX12_init 45 = .ok (.aload_n 0, 1) := by decide +kernel
theorem dX12_init_46 : decode cX12_init 46 = .ok (.bipush 6, 2) := by decide +kernel
theorem dX12_init_48 : decode cX12_init 48 = .ok (.newarray .int, 2) := by decide +kernel
theorem dX12_init_50 : decode cX12_init 50 = .ok (.putfield 26, 3) := by decide +kernel
theorem dX12_init_53 : decode cX12_init 53 = .ok (.aload_n 0, 1) := by decide +kernel
theorem dX12_init_54 : decode cX12_init 54 = .ok (.bipush 48, 2) := by decide +kernel
theorem dX12_init_56 : decode cX12_init 56 = .ok (.newarray .int, 2) := by decide +kernel
theorem dX12_init_58 : decode cX12_init 58 = .ok (.putfield 29, 3) := by decide +kernel
theorem dX12_init_61 : decode cX12_init 61 = .ok (.aload_n 0, 1) := by decide +kernel
theorem dX12_init_62 : decode cX12_init 62 = .ok (.bipush 48, 2) := by decide +kernel
theorem dX12_init_64 : decode cX12_init 64 = .ok (.newarray .int, 2) := by decide +kernel
theorem dX12_init_66 : decode cX12_init 66 = .ok (.putfield 32, 3) := by decide +kernel
theorem dX12_init_69 : decode cX12_init 69 = .ok (.aload_n 0, 1) := by decide +kernel
theorem dX12_init_70 : decode cX12_init 70 = .ok (.bipush 48, 2) := by decide +kernel
theorem dX12_init_72 : decode cX12_init 72 = .ok (.newarray .int, 2) := by decide +kernel
theorem dX12_init_74 : decode cX12_init 74 = .ok (.putfield 35, 3) := by decide +kernel
theorem dX12_init_77 : decode cX12_init 77 = .ok (.aload_n 0, 1) := by decide +kernel
theorem dX12_init_78 : decode cX12_init 78 = .ok (.bipush 48, 2) := by decide +kernel
theorem dX12_init_80 : decode cX12_init 80 = .ok (.newarray .int, 2) := by decide +kernel
theorem dX12_init_82 : decode cX12_init 82 = .ok (.putfield 38, 3) := by decide +kernel
theorem dX12_init_85 : decode cX12_init 85 = .ok (.aload_n 0, 1) := by decide +kernel
theorem dX12_init_86 : decode cX12_init 86 = .ok (.bipush 48, 2) := by decide +kernel
theorem dX12_init_88 : decode cX12_init 88 = .ok (.newarray .int, 2) := by decide +kernel
theorem dX12_init_90 : decode cX12_init 90 = .ok (.putfield 41, 3) := by decide +kernel
theorem dX12_init_93 : decode cX12_init 93 = .ok (.aload_n 0, 1) := by decide +kernel
theorem dX12_init_94 : decode cX12_init 94 = .ok (.bipush 72, 2) := by decide +kernel
theorem dX12_init_96 : decode cX12_init 96 = .ok (.newarray .int, 2) := by decide +kernel
theorem dX12_init_98 : decode cX12_init 98 = .ok (.putfield 44, 3) := by decide +kernel
theorem dX12_init_101 : decode cX12_init 101 = .ok (.aload_n 0, 1) := by decide +kernel
theorem dX12_init_102 : decode cX12_init 102 = .ok (.bipush 6, 2) := by decide +kernel
theorem dX12_init_104 : decode cX12_init 104 = .ok (.newarray .int, 2) := by decide +kernel
theorem dX12_init_106 : decode cX12_init 106 = .ok (.putfield 47, 3) := by decide +kernel
theorem dX12_init_109 : decode cX12_init 109 = .ok (.aload_n 0, 1) := by decide +kernel
theorem dX12_init_110 : decode cX12_init 110 = .ok (.bipush 6, 2) := by decide +kernel
theorem dX12_init_112 : decode cX12_init 112 = .ok (.newarray .int, 2) := by decide +kernel
theorem dX12_init_114 : decode cX12_init 114 = .ok (.putfield 50, 3) := by decide +kernel
theorem dX12_init_117 : decode cX12_init 117 = .ok (.aload_n 0, 1) := by decide +kernel
theorem dX12_init_118 : decode cX12_init 118 = .ok (.bipush 8, 2) := by decide +kernel
theorem dX12_init_120 : decode cX12_init 120 = .ok (.newarray .int, 2) := by decide +kernel
theorem dX12_init_122 : decode cX12_init 122 = .ok (.putfield 53, 3) := by decide +kernel
theorem dX12_init_125 : decode cX12_init 125 = .ok (.aload_n 0, 1) := by decide +kernel
theorem dX12_init_126 : decode cX12_init 126 = .ok (.bipush 20, 2) := by decide +kernel
theorem dX12_init_128 : decode cX12_init 128 = .ok (.newarray .int, 2) := by decide +kernel
theorem dX12_init_130 : decode cX12_init 130 = .ok (.putfield 56, 3) := by decide +kernel
theorem dX12_init_133 : decode cX12_init 133 = .ok (.aload_n 0, 1) := by decide +kernel
theorem dX12_init_134 : decode cX12_init 134 = .ok (.sipush 347, 3) := by decide +kernel
theorem dX12_init_137 : decode cX12_init 137 = .ok (.newarray .int, 2) := by decide +kernel
theorem dX12_init_139 : decode cX12_init 139 = .ok (.putfield 59, 3) := by decide +kernel
theorem dX12_init_142 : decode cX12_init 142 = .ok (.aload_n 0, 1) := by decide +kernel
theorem dX12_init_143 : decode cX12_init 143 = .ok (.sipush 347, 3) := by decide +kernel
theorem dX12_init_146 : decode cX12_init 146 = .ok (.newarray .int, 2) := by decide +kernel
theorem dX12_init_148 : decode cX12_init 148 = .ok (.putfield 62, 3) := by decide +kernel
theorem dX12_init_151 : decode cX12_init 151 = .ok (.aload_n 0, 1) := by decide +kernel
theorem dX12_init_152 : decode cX12_init 152 = .ok (.iconst 5, 1) := by decide +kernel
theorem dX12_init_153 : decode cX12_init 153 = .ok (.newarray .int, 2) := by decide +kernel
theorem dX12_init_155 : decode cX12_init 155 = .ok (.putfield 65, 3) := by decide +kernel
theorem dX12_init_158 : decode cX12_init 158 = .ok (.aload_n 0, 1) := by decide +kernel
theorem dX12_init_159 : decode cX12_init 159 = .ok (.bipush 8, 2) := by decide +kernel
theorem dX12_init_161 : decode cX12_init 161 = .ok (.newarray .int, 2) := by decide +kernel
theorem dX12_init_163 : decode cX12_init 163 = .ok (.putfield 68, 3) := by decide +kernel
theorem dX12_init_166 : decode cX12_init 166 = .ok (.aload_n 0, 1) := by decide +kernel
theorem dX12_init_167 : decode cX12_init 167 = .ok (.bipush 8, 2) := by decide +kernel
theorem dX12_init_169 : decode cX12_init 169 = .ok (.newarray .int, 2) := by decide +kernel
theorem dX12_init_171 : decode cX12_init 171 = .ok (.putfield 71, 3) := by decide +kernel
theorem dX12_init_174 : decode cX12_init 174 = .ok (.iconst 0, 1) := by decide +kernel
theorem dX12_init_175 : decode cX12_init 175 = .ok (.istore_n 1, 1) := by decide +kernel
theorem dX12_init_176 : decode cX12_init 176 = .ok (.iload_n 1, 1) := by decide +kernel
theorem dX12_init_177 : decode cX12_init 177 = .ok (.bipush 8, 2) := by decide +kernel
theorem dX12_init_179 : decode cX12_init 179 = .ok (.if_icmp .ge 16, 3) := by decide +kernel
theorem dX12_init_182 : decode cX12_init 182 = .ok (.aload_n 0, 1) := by decide +kernel
theorem dX12_init_183 : decode cX12_init 183 = .ok (.getfield 7, 3) := by decide +kernel
theorem dX12_init_186 : decode cX12_init 186 = .ok (.iload_n 1, 1) := by decide +kernel
theorem dX12_init_187 : decode cX12_init 187 = .ok (.iconst (-1), 1) := by decide +kernel
theorem dX12_init_188 : decode cX12_init 188 = .ok (.iastore, 1) := by decide +kernel
theorem dX12_init_189 : decode cX12_init 189 = .ok (.iinc 1 1, 3) := by decide +kernel
theorem dX12_init_192 : decode cX12_init 192 = .ok (.goto (-16), 3) := by decide +kernel
theorem dX12_init_195 : decode cX12_init 195 = .ok (.iconst 0, 1) := by decide +kernel
theorem dX12_init_196 : decode cX12_init 196 = .ok (.istore_n 1, 1) := by decide +kernel
theorem dX12_init_197 : decode cX12_init 197 = .ok (.iload_n 1, 1) := by decide +kernel
theorem dX12_init_198 : decode cX12_init 198 = .ok (.bipush 6, 2) := by decide +kernel
theorem dX12_init_200 : decode cX12_init 200 = .ok (.if_icmp .ge 23, 3) := by decide +kernel
theorem dX12_init_203 : decode cX12_init 203 = .ok (.aload_n 0, 1) := by decide +kernel
theorem dX12_init_204 : decode cX12_init 204 = .ok (.getfield 47, 3) := by decide +kernel
theorem dX12_init_207 : decode cX12_init 207 = .ok (.iload_n 1, 1) := by decide +kernel
theorem dX12_init_208 : decode cX12_init 208 = .ok (.iconst 3, 1) := by decide +kernel
theorem dX12_init_209 : decode cX12_init 209 = .ok (.iastore, 1) := by decide +kernel
theorem dX12_init_210 : decode cX12_init 210 = .ok (.aload_n 0, 1) := by decide +kernel
theorem dX12_init_211 : decode cX12_init 211 = .ok (.getfield 50, 3) := by decide +kernel
theorem dX12_init_214 : decode cX12_init 214 = .ok (.iload_n 1, 1) := by decide +kernel
theorem dX12_init_215 : decode cX12_init 215 = .ok (.iconst 1, 1) := by decide +kernel
theorem dX12_init_216 : decode cX12_init 216 = .ok (.iastore, 1) := by decide +kernel
theorem dX12_init_217 : decode cX12_init 217 = .ok (.iinc 1 1, 3) := by decide +kernel
theorem dX12_init_220 : decode cX12_init 220 = .ok (.goto (-23), 3) := by decide +kernel
theorem dX12_init_223 : decode cX12_init 223 = .ok (.aload_n 0, 1) := by decide +kernel
theorem dX12_init_224 : decode cX12_init 224 = .ok (.sipush 300, 3) := by decide +kernel
theorem dX12_init_227 : decode cX12_init 227 = .ok (.putfield 74, 3) := by decide +kernel
theorem dX12_init_230 : decode cX12_init 230 = .ok (.aload_n 0, 1) := by decide +kernel
theorem dX12_init_231 : decode cX12_init 231 = .ok (.bipush 40, 2) := by decide +kernel
theorem dX12_init_233 : decode cX12_init 233 = .ok (.putfield 78, 3) := by decide +kernel
theorem dX12_init_236 : decode cX12_init 236 = .ok (.aload_n 0, 1) := by decide +kernel
theorem dX12_init_237 : decode cX12_init 237 = .ok (.iconst 1, 1) := by decide +kernel
theorem dX12_init_238 : decode cX12_init 238 = .ok (.putfield 81, 3) := by decide +kernel
theorem dX12_init_241 : decode cX12_init 241 = .ok (.aload_n 0, 1) := by decide +kernel
theorem dX12_init_242 : decode cX12_init 242 = .ok (.iconst (-1), 1) := by decide +kernel
theorem dX12_init_243 : decode cX12_init 243 = .ok (.putfield 84, 3) := by decide +kernel
theorem dX12_init_246 : decode cX12_init 246 = .ok (.return_, 1) := by decide +kernel
theorem dX12_no_0 : decode cX12_no 0 = .ok (.aload_n 0, 1) := by decide +kernel
theorem dX12_no_1 : decode cX12_no 1 = .ok (.getfield 53, 3) := by decide +kernel
theorem dX12_no_4 : decode cX12_no 4 = .ok (.iload_n 1, 1) := by decide +kernel
theorem dX12_no_5 : decode cX12_no 5 = .ok (.ineg, 1) := by decide +kernel
theorem dX12_no_6 : decode cX12_no 6 = .ok (.dup2, 1) := by decide +kernel
theorem dX12_no_7 : decode cX12_no 7 = .ok (.iaload, 1) := by decide +kernel
theorem dX12_no_8 : decode cX12_no 8 = .ok (.iconst 1, 1) := by decide +kernel
theorem dX12_no_9 : decode cX12_no 9 = .ok (.iadd, 1) := by decide +kernel
theorem dX12_no_10 : decode cX12_no 10 = .ok (.iastore, 1) := by decide +kernel
theorem dX12_no_11 : decode cX12_no 11 = .ok (.iload_n 1, 1) := by decide +kernel
theorem dX12_no_12 : decode cX12_no 12 = .ok (.ireturn, 1) := by decide +kernel
theorem dX12_no10_0 : decode cX12_no10 0 = .ok (.aload_n 0, 1) := by decide +kernel
theorem dX12_no10_1 : decode cX12_no10 1 = .ok (.getfield 53, 3) := by decide +kernel
theorem dX12_no10_4 : decode cX12_no10 4 = .ok (.iload_n 1, 1) := by decide +kernel
theorem dX12_no10_5 : decode cX12_no10 5 = .ok (.ineg, 1) := by decide +kernel
theorem dX12_no10_6 : decode cX12_no10 6 = .ok (.dup2, 1) := by decide +kernel
theorem dX12_no10_7 : decode cX12_no10 7 = .ok (.iaload, 1) := by decide +kernel
theorem dX12_no10_8 : decode cX12_no10 8 = .ok (.iconst 1, 1) := by decide +kernel
theorem dX12_no10_9 : decode cX12_no10 9 = .ok (.iadd, 1) := by decide +kernel
theorem dX12_no10_10 : decode cX12_no10 10 = .ok (.iastore, 1) := by decide +kernel
theorem dX12_no10_11 : decode cX12_no10 11 = .ok (.iload_n 1, 1) := by decide +kernel
theorem dX12_no10_12 : decode cX12_no10 12 = .ok (.bipush 10, 2) := by decide +kernel
theorem dX12_no10_14 : decode cX12_no10 14 = .ok (.isub, 1) := by decide +kernel
theorem dX12_no10_15 : decode cX12_no10 15 = .ok (.ireturn, 1) := by decide +kernel
theorem dX12_within_0 : decode cX12_within 0 = .ok (.iload_n 0, 1) := by decide +kernel
theorem dX12_within_1 : decode cX12_within 1 = .ok (.iload_n 1, 1) := by decide +kernel
theorem dX12_within_2 : decode cX12_within 2 = .ok (.if_icmp .lt 12, 3) := by decide +kernel
theorem dX12_within_5 : decode cX12_within 5 = .ok (.iload_n 0, 1) := by decide +kernel
theorem dX12_within_6 : decode cX12_within 6 = .ok (.iload_n 2, 1) := by decide +kernel
theorem dX12_within_7 : decode cX12_within 7 = .ok (.if_icmp .gt 7, 3) := by decide +kernel
theorem dX12_within_10 : decode cX12_within 10 = .ok (.iconst 1, 1) := by decide +kernel
theorem dX12_within_11 : decode cX12_within 11 = .ok (.goto 4, 3) := by decide +kernel
theorem dX12_within_14 : decode cX12_within 14 = .ok (.iconst 0, 1) := by decide +kernel
theorem dX12_within_15 : decode cX12_within 15 = .ok (.ireturn, 1) := by decide +kernel
theorem dX12_has_0 : decode cX12_has 0 = .ok (.iload_n 0, 1) := by decide +kernel
theorem dX12_has_1 : decode cX12_has 1 = .ok (.iload_n 1, 1) := by decide +kernel
theorem dX12_has_2 : decode cX12_has 2 = .ok (.ishr, 1) := by decide +kernel
theorem dX12_has_3 : decode cX12_has 3 = .ok (.iconst 1, 1) := by decide +kernel
theorem dX12_has_4 : decode cX12_has 4 = .ok (.iand, 1) := by decide +kernel
theorem dX12_has_5 : decode cX12_has 5 = .ok (.iconst 1, 1) := by decide +kernel
theorem dX12_has_6 : decode cX12_has 6 = .ok (.if_icmp .ne 7, 3) := by decide +kernel
theorem dX12_has_9 : decode cX12_has 9 = .ok (.iconst 1, 1) := by decide +kernel
theorem dX12_has_10 : decode cX12_has 10 = .ok (.goto 4, 3) := by decide +kernel
theorem dX12_has_13 : decode cX12_has 13 = .ok (.iconst 0, 1) := by decide +kernel
theorem dX12_has_14 : decode cX12_has 14 = .ok (.ireturn, 1) := by decide +kernel
theorem dX12_isHouse_0 : decode cX12_isHouse 0 = .ok (.iload_n 1, 1) := by decide +kernel
theorem dX12_isHouse_1 : decode cX12_isHouse 1 = .ok (.iconst 0, 1) := by decide +kernel
theorem dX12_isHouse_2 : decode cX12_isHouse 2 = .ok (.aload_n 0, 1) := by decide +kernel
theorem dX12_isHouse_3 : decode cX12_isHouse 3 = .ok (.getfield 87, 3) := by decide +kernel
theorem dX12_isHouse_6 : decode cX12_isHouse 6 = .ok (.iconst 1, 1) := by decide +kernel
theorem dX12_isHouse_7 : decode cX12_isHouse 7 = .ok (.isub, 1) := by decide +kernel
theorem dX12_isHouse_8 : decode cX12_isHouse 8 = .ok (.invokestatic 90, 3) := by decide +kernel
theorem dX12_isHouse_11 : decode cX12_isHouse 11 = .ok (.ireturn, 1) := by decide +kernel
theorem dX12_isCoat_0 : decode cX12_isCoat 0 = .ok (.aload_n 0, 1) := by decide +kernel
theorem dX12_isCoat_1 : decode cX12_isCoat 1 = .ok (.iload_n 1, 1) := by decide +kernel
theorem dX12_isCoat_2 : decode cX12_isCoat 2 = .ok (.invokevirtual 94, 3) := by decide +kernel
theorem dX12_isCoat_5 : decode cX12_isCoat 5 = .ok (.ifCond .eq 23, 3) := by decide +kernel
theorem dX12_isCoat_8 : decode cX12_isCoat 8 = .ok (.iload_n 2, 1) := by decide +kernel
theorem dX12_isCoat_9 : decode cX12_isCoat 9 = .ok (.iconst 0, 1) := by decide +kernel
theorem dX12_isCoat_10 : decode cX12_isCoat 10 = .ok (.aload_n 0, 1) := by decide +kernel
theorem dX12_isCoat_11 : decode cX12_isCoat 11 = .ok (.getfield 26, 3) := by decide +kernel
theorem dX12_isCoat_14 : decode cX12_isCoat 14 = .ok (.iload_n 1, 1) := by decide +kernel
theorem dX12_isCoat_15 : decode cX12_isCoat 15 = .ok (.iaload, 1) := by decide +kernel
theorem dX12_isCoat_16 : decode cX12_isCoat 16 = .ok (.iconst 1, 1) := by decide +kernel
theorem dX12_isCoat_17 : decode cX12_isCoat 17 = .ok (.isub, 1) := by decide +kernel
theorem dX12_isCoat_18 : decode cX12_isCoat 18 = .ok (.invokestatic 90, 3) := by decide +kernel
theorem dX12_isCoat_21 : decode cX12_isCoat 21 = .ok (.ifCond .eq 7, 3) := by decide +kernel
theorem dX12_isCoat_24 : decode cX12_isCoat 24 = .ok (.iconst 1, 1) := by decide +kernel
theorem dX12_isCoat_25 : decode cX12_isCoat 25 = .ok (.goto 4, 3) := by decide +kernel
theorem dX12_isCoat_28 : decode cX12_isCoat 28 = .ok (.iconst 0, 1) := by decide +kernel
theorem dX12_isCoat_29 : decode cX12_isCoat 29 = .ok (.ireturn, 1) := by decide +kernel
theorem dX12_isCell_0 : decode cX12_isCell 0 = .ok (.iload_n 0, 1) := by decide +kernel
theorem dX12_isCell_1 : decode cX12_isCell 1 = .ok (.iconst 0, 1) := by decide +kernel
theorem dX12_isCell_2 : decode cX12_isCell 2 = .ok (.bipush 11, 2) := by decide +kernel
theorem dX12_isCell_4 : decode cX12_isCell 4 = .ok (.invokestatic 90, 3) := by decide +kernel
theorem dX12_isCell_7 : decode cX12_isCell 7 = .ok (.ireturn, 1) := by decide +kernel
theorem dX12_isWeather_0 : decode cX12_isWeather 0 = .ok (.iload_n 0, 1) := by decide +kernel
theorem dX12_isWeather_1 : decode cX12_isWeather 1 = .ok (.iconst 0, 1) := by decide +kernel
theorem dX12_isWeather_2 : decode cX12_isWeather 2 = .ok (.bipush 99, 2) := by decide +kernel
theorem dX12_isWeather_4 : decode cX12_isWeather 4 = .ok (.invokestatic 90, 3) := by decide +kernel
theorem dX12_isWeather_7 : decode cX12_isWeather 7 = .ok (.ireturn, 1) := by decide +kernel
theorem dX12_isRow_0 : decode cX12_isRow 0 = .ok (.aload_n 0, 1) := by decide +kernel
theorem dX12_isRow_1 : decode cX12_isRow 1 = .ok (.getfield 7, 3) := by decide +kernel
theorem dX12_isRow_4 : decode cX12_isRow 4 = .ok (.iload_n 1, 1) := by decide +kernel
theorem dX12_isRow_5 : decode cX12_isRow 5 = .ok (.iaload, 1) := by decide +kernel
theorem dX12_isRow_6 : decode cX12_isRow 6 = .ok (.bipush 100, 2) := by decide +kernel
theorem dX12_isRow_8 : decode cX12_isRow 8 = .ok (.if_icmp .lt 7, 3) := by decide +kernel
theorem dX12_isRow_11 : decode cX12_isRow 11 = .ok (.iconst 1, 1) := by decide +kernel
theorem dX12_isRow_12 : decode cX12_isRow 12 = .ok (.goto 4, 3) := by decide +kernel
theorem dX12_isRow_15 : decode cX12_isRow 15 = .ok (.iconst 0, 1) := by decide +kernel
theorem dX12_isRow_16 : decode cX12_isRow 16 = .ok (.ireturn, 1) := by decide +kernel
theorem dX12_row_0 : decode cX12_row 0 = .ok (.iload_n 1, 1) := by decide +kernel
theorem dX12_row_1 : decode cX12_row 1 = .ok (.iconst 0, 1) := by decide +kernel
theorem dX12_row_2 : decode cX12_row 2 = .ok (.bipush 7, 2) := by decide +kernel
theorem dX12_row_4 : decode cX12_row 4 = .ok (.invokestatic 90, 3) := by decide +kernel
theorem dX12_row_7 : decode cX12_row 7 = .ok (.ifCond .ne 9, 3) := by decide +kernel
theorem dX12_row_10 : decode cX12_row 10 = .ok (.aload_n 0, 1) := by decide +kernel
theorem dX12_row_11 : decode cX12_row 11 = .ok (.iconst (-1), 1) := by decide +kernel
theorem dX12_row_12 : decode cX12_row 12 = .ok (.invokevirtual 98, 3) := by decide +kernel
theorem dX12_row_15 : decode cX12_row 15 = .ok (.ireturn, 1) := by decide +kernel
theorem dX12_row_16 : decode cX12_row 16 = .ok (.iload_n 3, 1) := by decide +kernel
theorem dX12_row_17 : decode cX12_row 17 = .ok (.ifCond .ge 10, 3) := by decide +kernel
theorem dX12_row_20 : decode cX12_row 20 = .ok (.aload_n 0, 1) := by decide +kernel
theorem dX12_row_21 : decode cX12_row 21 = .ok (.bipush (-4), 2) := by decide +kernel
theorem dX12_row_23 : decode cX12_row 23 = .ok (.invokevirtual 98, 3) := by decide +kernel
theorem dX12_row_26 : decode cX12_row 26 = .ok (.ireturn, 1) := by decide +kernel
theorem dX12_row_27 : decode cX12_row 27 = .ok (.iload_n 2, 1) := by decide +kernel
theorem dX12_row_28 : decode cX12_row 28 = .ok (.iconst 0, 1) := by decide +kernel
theorem dX12_row_29 : decode cX12_row 29 = .ok (.iconst 3, 1) := by decide +kernel
theorem dX12_row_30 : decode cX12_row 30 = .ok (.invokestatic 90, 3) := by decide +kernel
theorem dX12_row_33 : decode cX12_row 33 = .ok (.ifCond .ne 10, 3) := by decide +kernel
theorem dX12_row_36 : decode cX12_row 36 = .ok (.aload_n 0, 1) := by decide +kernel
theorem dX12_row_37 : decode cX12_row 37 = .ok (.bipush (-6), 2) := by decide +kernel
theorem dX12_row_39 : decode cX12_row 39 = .ok (.invokevirtual 98, 3) := by decide +kernel
theorem dX12_row_42 : decode cX12_row 42 = .ok (.ireturn, 1) := by decide +kernel
theorem dX12_row_43 : decode cX12_row 43 = .ok (.iload_n 3, 1) := by decide +kernel
theorem dX12_row_44 : decode cX12_row 44 = .ok (.sipush 160, 3) := by decide +kernel
theorem dX12_row_47 : decode cX12_row 47 = .ok (.if_icmp .le 10, 3) := by decide +kernel
theorem dX12_row_50 : decode cX12_row 50 = .ok (.aload_n 0, 1) := by decide +kernel
theorem dX12_row_51 : decode cX12_row 51 = .ok (.bipush (-7), 2) := by decide +kernel
theorem dX12_row_53 : decode cX12_row 53 = .ok (.invokevirtual 98, 3) := by decide +kernel
theorem dX12_row_56 : decode cX12_row 56 = .ok (.ireturn, 1) := by decide +kernel
theorem dX12_row_57 : decode cX12_row 57 = .ok (.aload_n 0, 1) := by decide +kernel
theorem dX12_row_58 : decode cX12_row 58 = .ok (.getfield 7, 3) := by decide +kernel
theorem dX12_row_61 : decode cX12_row 61 = .ok (.iload_n 1, 1) := by decide +kernel
theorem dX12_row_62 : decode cX12_row 62 = .ok (.bipush 100, 2) := by decide +kernel
theorem dX12_row_64 : decode cX12_row 64 = .ok (.iload_n 2, 1) := by decide +kernel
theorem dX12_row_65 : decode cX12_row 65 = .ok (.iadd, 1) := by decide +kernel
theorem dX12_row_66 : decode cX12_row 66 = .ok (.iastore, 1) := by decide +kernel
theorem dX12_row_67 : decode cX12_row 67 = .ok (.aload_n 0, 1) := by decide +kernel
theorem dX12_row_68 : decode cX12_row 68 = .ok (.getfield 13, 3) := by decide +kernel
theorem dX12_row_71 : decode cX12_row 71 = .ok (.iload_n 1, 1) := by decide +kernel
theorem dX12_row_72 : decode cX12_row 72 = .ok (.iload_n 3, 1) := by decide +kernel
theorem dX12_row_73 : decode cX12_row 73 = .ok (.iastore, 1) := by decide +kernel
theorem dX12_row_74 : decode cX12_row 74 = .ok (.iconst 0, 1) := by decide +kernel
theorem dX12_row_75 : decode cX12_row 75 = .ok (.istore 4, 2) := by decide +kernel
theorem dX12_row_77 : decode cX12_row 77 = .ok (.iload 4, 2) := by decide +kernel
theorem dX12_row_79 : decode cX12_row 79 = .ok (.sipush 160, 3) := by decide +kernel
theorem dX12_row_82 : decode cX12_row 82 = .ok (.if_icmp .ge 23, 3) := by decide +kernel
theorem dX12_row_85 : decode cX12_row 85 = .ok (.aload_n 0, 1) := by decide +kernel
theorem dX12_row_86 : decode cX12_row 86 = .ok (.getfield 16, 3) := by decide +kernel
theorem dX12_row_89 : decode cX12_row 89 = .ok (.sipush 160, 3) := by decide +kernel
theorem dX12_row_92 : decode cX12_row 92 = .ok (.iload_n 1, 1) := by decide +kernel
theorem dX12_row_93 : decode cX12_row 93 = .ok (.imul, 1) := by decide +kernel
theorem dX12_row_94 : decode cX12_row 94 = .ok (.iload 4, 2) := by decide +kernel
theorem dX12_row_96 : decode cX12_row 96 = .ok (.iadd, 1) := by decide +kernel
theorem dX12_row_97 : decode cX12_row 97 = .ok (.lconst 0, 1) := by decide +kernel
theorem dX12_row_98 : decode cX12_row 98 = .ok (.lastore, 1) := by decide +kernel
theorem dX12_row_99 : decode cX12_row 99 = .ok (.iinc 4 1, 3) := by decide +kernel
theorem dX12_row_102 : decode cX12_row 102 = .ok (.goto (-25), 3) := by decide +kernel
theorem dX12_row_105 : decode cX12_row 105 = .ok (.iconst 1, 1) := by decide +kernel
theorem dX12_row_106 : decode cX12_row 106 = .ok (.ireturn, 1) := by decide +kernel
theorem dX12_noRow_0 : decode cX12_noRow 0 = .ok (.iload_n 1, 1) := by decide +kernel
theorem dX12_noRow_1 : decode cX12_noRow 1 = .ok (.iconst 0, 1) := by decide +kernel
theorem dX12_noRow_2 : decode cX12_noRow 2 = .ok (.bipush 7, 2) := by decide +kernel
theorem dX12_noRow_4 : decode cX12_noRow 4 = .ok (.invokestatic 90, 3) := by decide +kernel
theorem dX12_noRow_7 : decode cX12_noRow 7 = .ok (.ifCond .ne 5, 3) := by decide +kernel
theorem dX12_noRow_10 : decode cX12_noRow 10 = .ok (.iconst (-1), 1) := by decide +kernel
theorem dX12_noRow_11 : decode cX12_noRow 11 = .ok (.ireturn, 1) := by decide +kernel
theorem dX12_noRow_12 : decode cX12_noRow 12 = .ok (.aload_n 0, 1) := by decide +kernel
theorem dX12_noRow_13 : decode cX12_noRow 13 = .ok (.getfield 7, 3) := by decide +kernel
theorem dX12_noRow_16 : decode cX12_noRow 16 = .ok (.iload_n 1, 1) := by decide +kernel
theorem dX12_noRow_17 : decode cX12_noRow 17 = .ok (.iaload, 1) := by decide +kernel
theorem dX12_noRow_18 : decode cX12_noRow 18 = .ok (.ifCond .lt 14, 3) := by decide +kernel
theorem dX12_noRow_21 : decode cX12_noRow 21 = .ok (.aload_n 0, 1) := by decide +kernel
theorem dX12_noRow_22 : decode cX12_noRow 22 = .ok (.iload_n 1, 1) := by decide +kernel
theorem dX12_noRow_23 : decode cX12_noRow 23 = .ok (.invokevirtual 102, 3) := by decide +kernel
theorem dX12_noRow_26 : decode cX12_noRow 26 = .ok (.ifCond .ne 6, 3) := by decide +kernel
theorem dX12_noRow_29 : decode cX12_noRow 29 = .ok (.bipush (-2), 2) := by decide +kernel
theorem dX12_noRow_31 : decode cX12_noRow 31 = .ok (.ireturn, 1) := by decide +kernel
theorem dX12_noRow_32 : decode cX12_noRow 32 = .ok (.aload_n 0, 1) := by decide +kernel
theorem dX12_noRow_33 : decode cX12_noRow 33 = .ok (.getfield 7, 3) := by decide +kernel
theorem dX12_noRow_36 : decode cX12_noRow 36 = .ok (.iload_n 1, 1) := by decide +kernel
theorem dX12_noRow_37 : decode cX12_noRow 37 = .ok (.iaload, 1) := by decide +kernel
theorem dX12_noRow_38 : decode cX12_noRow 38 = .ok (.ifCond .ge 8, 3) := by decide +kernel
theorem dX12_noRow_41 : decode cX12_noRow 41 = .ok (.bipush (-3), 2) := by decide +kernel
theorem dX12_noRow_43 : decode cX12_noRow 43 = .ok (.goto 4, 3) := by decide +kernel
theorem dX12_noRow_46 : decode cX12_noRow 46 = .ok (.iconst 0, 1) := by decide +kernel
theorem dX12_noRow_47 : decode cX12_noRow 47 = .ok (.ireturn, 1) := by decide +kernel
theorem dX12_set_0 : decode cX12_set 0 = .ok (.aload_n 0, 1) := by decide +kernel
theorem dX12_set_1 : decode cX12_set 1 = .ok (.iload_n 1, 1) := by decide +kernel
theorem dX12_set_2 : decode cX12_set 2 = .ok (.invokevirtual 105, 3) := by decide +kernel
theorem dX12_set_5 : decode cX12_set 5 = .ok (.istore 5, 2) := by decide +kernel
theorem dX12_set_7 : decode cX12_set 7 = .ok (.iload 5, 2) := by decide +kernel
theorem dX12_set_9 : decode cX12_set 9 = .ok (.ifCond .ge 10, 3) := by decide +kernel
theorem dX12_set_12 : decode cX12_set 12 = .ok (.aload_n 0, 1) := by decide +kernel
theorem dX12_set_13 : decode cX12_set 13 = .ok (.iload 5, 2) := by decide +kernel
theorem dX12_set_15 : decode cX12_set 15 = .ok (.invokevirtual 98, 3) := by decide +kernel
theorem dX12_set_18 : decode cX12_set 18 = .ok (.ireturn, 1) := by decide +kernel
theorem dX12_set_19 : decode cX12_set 19 = .ok (.iload_n 2, 1) := by decide +kernel
theorem dX12_set_20 : decode cX12_set 20 = .ok (.iconst 0, 1) := by decide +kernel
theorem dX12_set_21 : decode cX12_set 21 = .ok (.aload_n 0, 1) := by decide +kernel
theorem dX12_set_22 : decode cX12_set 22 = .ok (.getfield 13, 3) := by decide +kernel
theorem dX12_set_25 : decode cX12_set 25 = .ok (.iload_n 1, 1) := by decide +kernel
theorem dX12_set_26 : decode cX12_set 26 = .ok (.iaload, 1) := by decide +kernel
theorem dX12_set_27 : decode cX12_set 27 = .ok (.iconst 1, 1) := by decide +kernel
theorem dX12_set_28 : decode cX12_set 28 = .ok (.isub, 1) := by decide +kernel
theorem dX12_set_29 : decode cX12_set 29 = .ok (.invokestatic 90, 3) := by decide +kernel
theorem dX12_set_32 : decode cX12_set 32 = .ok (.ifCond .ne 10, 3) := by decide +kernel
theorem dX12_set_35 : decode cX12_set 35 = .ok (.aload_n 0, 1) := by decide +kernel
theorem dX12_set_36 : decode cX12_set 36 = .ok (.bipush (-5), 2) := by decide +kernel
theorem dX12_set_38 : decode cX12_set 38 = .ok (.invokevirtual 98, 3) := by decide +kernel
theorem dX12_set_41 : decode cX12_set 41 = .ok (.ireturn, 1) := by decide +kernel
theorem dX12_set_42 : decode cX12_set 42 = .ok (.aload_n 0, 1) := by decide +kernel
theorem dX12_set_43 : decode cX12_set 43 = .ok (.getfield 7, 3) := by decide +kernel
theorem dX12_set_46 : decode cX12_set 46 = .ok (.iload_n 1, 1) := by decide +kernel
theorem dX12_set_47 : decode cX12_set 47 = .ok (.iaload, 1) := by decide +kernel
theorem dX12_set_48 : decode cX12_set 48 = .ok (.bipush 100, 2) := by decide +kernel
theorem dX12_set_50 : decode cX12_set 50 = .ok (.isub, 1) := by decide +kernel
theorem dX12_set_51 : decode cX12_set 51 = .ok (.istore 6, 2) := by decide +kernel
theorem dX12_set_53 : decode cX12_set 53 = .ok (.aload_n 0, 1) := by decide +kernel
theorem dX12_set_54 : decode cX12_set 54 = .ok (.getfield 16, 3) := by decide +kernel
theorem dX12_set_57 : decode cX12_set 57 = .ok (.sipush 160, 3) := by decide +kernel
theorem dX12_set_60 : decode cX12_set 60 = .ok (.iload_n 1, 1) := by decide +kernel
theorem dX12_set_61 : decode cX12_set 61 = .ok (.imul, 1) := by decide +kernel
theorem dX12_set_62 : decode cX12_set 62 = .ok (.iload_n 2, 1) := by decide +kernel
theorem dX12_set_63 : decode cX12_set 63 = .ok (.iadd, 1) := by decide +kernel
theorem dX12_set_64 : decode cX12_set 64 = .ok (.iload 6, 2) := by decide +kernel
theorem dX12_set_66 : decode cX12_set 66 = .ok (.ifCond .ne 10, 3) := by decide +kernel
theorem dX12_set_69 : decode cX12_set 69 = .ok (.lload_n 3, 1) := by decide +kernel
theorem dX12_set_70 : decode cX12_set 70 = .ok (.l2i, 1) := by decide +kernel
theorem dX12_set_71 : decode cX12_set 71 = .ok (.i2b, 1) := by decide +kernel
theorem dX12_set_72 : decode cX12_set 72 = .ok (.i2l, 1) := by decide +kernel
theorem dX12_set_73 : decode cX12_set 73 = .ok (.goto 29, 3) := by decide +kernel
theorem dX12_set_76 : decode cX12_set 76 = .ok (.iload 6, 2) := by decide +kernel
theorem dX12_set_78 : decode cX12_set 78 = .ok (.iconst 1, 1) := by decide +kernel
theorem dX12_set_79 : decode cX12_set 79 = .ok (.if_icmp .ne 10, 3) := by decide +kernel
theorem dX12_set_82 : decode cX12_set 82 = .ok (.lload_n 3, 1) := by decide +kernel
theorem dX12_set_83 : decode cX12_set 83 = .ok (.l2i, 1) := by decide +kernel
theorem dX12_set_84 : decode cX12_set 84 = .ok (.i2s, 1) := by decide +kernel
theorem dX12_set_85 : decode cX12_set 85 = .ok (.i2l, 1) := by decide +kernel
theorem dX12_set_86 : decode cX12_set 86 = .ok (.goto 16, 3) := by decide +kernel
theorem dX12_set_89 : decode cX12_set 89 = .ok (.iload 6, 2) := by decide +kernel
theorem dX12_set_91 : decode cX12_set 91 = .ok (.iconst 2, 1) := by decide +kernel
theorem dX12_set_92 : decode cX12_set 92 = .ok (.if_icmp .ne 9, 3) := by decide +kernel
theorem dX12_set_95 : decode cX12_set 95 = .ok (.lload_n 3, 1) := by decide +kernel
theorem dX12_set_96 : decode cX12_set 96 = .ok (.l2i, 1) := by decide +kernel
theorem dX12_set_97 : decode cX12_set 97 = .ok (.i2l, 1) := by decide +kernel
theorem dX12_set_98 : decode cX12_set 98 = .ok (.goto 4, 3) := by decide +kernel
theorem dX12_set_101 : decode cX12_set 101 = .ok (.lload_n 3, 1) := by decide +kernel
theorem dX12_set_102 : decode cX12_set 102 = .ok (.lastore, 1) := by decide +kernel
theorem dX12_set_103 : decode cX12_set 103 = .ok (.iconst 1, 1) := by decide +kernel
theorem dX12_set_104 : decode cX12_set 104 = .ok (.ireturn, 1) := by decide +kernel
theorem dX12_copy_0 : decode cX12_copy 0 = .ok (.iload_n 1, 1) := by decide +kernel
theorem dX12_copy_1 : decode cX12_copy 1 = .ok (.iconst 0, 1) := by decide +kernel
theorem dX12_copy_2 : decode cX12_copy 2 = .ok (.bipush 7, 2) := by decide +kernel
theorem dX12_copy_4 : decode cX12_copy 4 = .ok (.invokestatic 90, 3) := by decide +kernel
theorem dX12_copy_7 : decode cX12_copy 7 = .ok (.ifCond .eq 13, 3) := by decide +kernel
theorem dX12_copy_10 : decode cX12_copy 10 = .ok (.iload_n 2, 1) := by decide +kernel
theorem dX12_copy_11 : decode cX12_copy 11 = .ok (.iconst 0, 1) := by decide +kernel
theorem dX12_copy_12 : decode cX12_copy 12 = .ok (.bipush 7, 2) := by decide +kernel
theorem dX12_copy_14 : decode cX12_copy 14 = .ok (.invokestatic 90, 3) := by decide +kernel
theorem dX12_copy_17 : decode cX12_copy 17 = .ok (.ifCond .ne 9, 3) := by decide +kernel
theorem dX12_copy_20 : decode cX12_copy 20 = .ok (.aload_n 0, 1) := by decide +kernel
theorem dX12_copy_21 : decode cX12_copy 21 = .ok (.iconst (-1), 1) := by decide +kernel
theorem dX12_copy_22 : decode cX12_copy 22 = .ok (.invokevirtual 98, 3) := by decide +kernel
theorem dX12_copy_25 : decode cX12_copy 25 = .ok (.ireturn, 1) := by decide +kernel
theorem dX12_copy_26 : decode cX12_copy 26 = .ok (.aload_n 0, 1) := by decide +kernel
theorem dX12_copy_27 : decode cX12_copy 27 = .ok (.getfield 7, 3) := by decide +kernel
theorem dX12_copy_30 : decode cX12_copy 30 = .ok (.iload_n 1, 1) := by decide +kernel
theorem dX12_copy_31 : decode cX12_copy 31 = .ok (.iaload, 1) := by decide +kernel
theorem dX12_copy_32 : decode cX12_copy 32 = .ok (.ifCond .lt 11, 3) := by decide +kernel
theorem dX12_copy_35 : decode cX12_copy 35 = .ok (.aload_n 0, 1) := by decide +kernel
theorem dX12_copy_36 : decode cX12_copy 36 = .ok (.iload_n 1, 1) := by decide +kernel
theorem dX12_copy_37 : decode cX12_copy 37 = .ok (.invokevirtual 102, 3) := by decide +kernel
theorem dX12_copy_40 : decode cX12_copy 40 = .ok (.ifCond .eq 51, 3) := by decide +kernel
theorem dX12_copy_43 : decode cX12_copy 43 = .ok (.aload_n 0, 1) := by decide +kernel
theorem dX12_copy_44 : decode cX12_copy 44 = .ok (.getfield 7, 3) := by decide +kernel
theorem dX12_copy_47 : decode cX12_copy 47 = .ok (.iload_n 2, 1) := by decide +kernel
theorem dX12_copy_48 : decode cX12_copy 48 = .ok (.iaload, 1) := by decide +kernel
theorem dX12_copy_49 : decode cX12_copy 49 = .ok (.ifCond .lt 11, 3) := by decide +kernel
theorem dX12_copy_52 : decode cX12_copy 52 = .ok (.aload_n 0, 1) := by decide +kernel
theorem dX12_copy_53 : decode cX12_copy 53 = .ok (.iload_n 2, 1) := by decide +kernel
theorem dX12_copy_54 : decode cX12_copy 54 = .ok (.invokevirtual 102, 3) := by decide +kernel
theorem dX12_copy_57 : decode cX12_copy 57 = .ok (.ifCond .eq 34, 3) := by decide +kernel
theorem dX12_copy_60 : decode cX12_copy 60 = .ok (.aload_n 0, 1) := by decide +kernel
theorem dX12_copy_61 : decode cX12_copy 61 = .ok (.iload_n 1, 1) := by decide +kernel
theorem dX12_copy_62 : decode cX12_copy 62 = .ok (.invokevirtual 102, 3) := by decide +kernel
theorem dX12_copy_65 : decode cX12_copy 65 = .ok (.ifCond .eq 33, 3) := by decide +kernel
theorem dX12_copy_68 : decode cX12_copy 68 = .ok (.aload_n 0, 1) := by decide +kernel
theorem dX12_copy_69 : decode cX12_copy 69 = .ok (.iload_n 2, 1) := by decide +kernel
theorem dX12_copy_70 : decode cX12_copy 70 = .ok (.invokevirtual 102, 3) := by decide +kernel
theorem dX12_copy_73 : decode cX12_copy 73 = .ok (.ifCond .eq 25, 3) := by decide +kernel
theorem dX12_copy_76 : decode cX12_copy 76 = .ok (.aload_n 0, 1) := by decide +kernel
theorem dX12_copy_77 : decode cX12_copy 77 = .ok (.getfield 7, 3) := by decide +kernel
theorem dX12_copy_80 : decode cX12_copy 80 = .ok (.iload_n 1, 1) := by decide +kernel
theorem dX12_copy_81 : decode cX12_copy 81 = .ok (.iaload, 1) := by decide +kernel
theorem dX12_copy_82 : decode cX12_copy 82 = .ok (.aload_n 0, 1) := by decide +kernel
theorem dX12_copy_83 : decode cX12_copy 83 = .ok (.getfield 7, 3) := by decide +kernel
theorem dX12_copy_86 : decode cX12_copy 86 = .ok (.iload_n 2, 1) := by decide +kernel
theorem dX12_copy_87 : decode cX12_copy 87 = .ok (.iaload, 1) := by decide +kernel
theorem dX12_copy_88 : decode cX12_copy 88 = .ok (.if_icmp .eq 10, 3) := by decide +kernel
theorem dX12_copy_91 : decode cX12_copy 91 = .ok (.aload_n 0, 1) := by decide +kernel
theorem dX12_copy_92 : decode cX12_copy 92 = .ok (.bipush (-2), 2) := by decide +kernel
theorem dX12_copy_94 : decode cX12_copy 94 = .ok (.invokevirtual 98, 3) := by decide +kernel
theorem dX12_copy_97 : decode cX12_copy 97 = .ok (.ireturn, 1) := by decide +kernel
theorem dX12_copy_98 : decode cX12_copy 98 = .ok (.aload_n 0, 1) := by decide +kernel
theorem dX12_copy_99 : decode cX12_copy 99 = .ok (.getfield 7, 3) := by decide +kernel
theorem dX12_copy_102 : decode cX12_copy 102 = .ok (.iload_n 1, 1) := by decide +kernel
theorem dX12_copy_103 : decode cX12_copy 103 = .ok (.iaload, 1) := by decide +kernel
theorem dX12_copy_104 : decode cX12_copy 104 = .ok (.ifCond .lt 12, 3) := by decide +kernel
theorem dX12_copy_107 : decode cX12_copy 107 = .ok (.aload_n 0, 1) := by decide +kernel
theorem dX12_copy_108 : decode cX12_copy 108 = .ok (.getfield 7, 3) := by decide +kernel
theorem dX12_copy_111 : decode cX12_copy 111 = .ok (.iload_n 2, 1) := by decide +kernel
theorem dX12_copy_112 : decode cX12_copy 112 = .ok (.iaload, 1) := by decide +kernel
theorem dX12_copy_113 : decode cX12_copy 113 = .ok (.ifCond .ge 10, 3) := by decide +kernel
theorem dX12_copy_116 : decode cX12_copy 116 = .ok (.aload_n 0, 1) := by decide +kernel
theorem dX12_copy_117 : decode cX12_copy 117 = .ok (.bipush (-3), 2) := by decide +kernel
theorem dX12_copy_119 : decode cX12_copy 119 = .ok (.invokevirtual 98, 3) := by decide +kernel
theorem dX12_copy_122 : decode cX12_copy 122 = .ok (.ireturn, 1) := by decide +kernel
theorem dX12_copy_123 : decode cX12_copy 123 = .ok (.iload 5, 2) := by decide +kernel
theorem dX12_copy_125 : decode cX12_copy 125 = .ok (.ifCond .ge 10, 3) := by decide +kernel
theorem dX12_copy_128 : decode cX12_copy 128 = .ok (.aload_n 0, 1) := by decide +kernel
theorem dX12_copy_129 : decode cX12_copy 129 = .ok (.bipush (-4), 2) := by decide +kernel
theorem dX12_copy_131 : decode cX12_copy 131 = .ok (.invokevirtual 98, 3) := by decide +kernel
theorem dX12_copy_134 : decode cX12_copy 134 = .ok (.ireturn, 1) := by decide +kernel
theorem dX12_copy_135 : decode cX12_copy 135 = .ok (.iload_n 3, 1) := by decide +kernel
theorem dX12_copy_136 : decode cX12_copy 136 = .ok (.ifCond .lt 43, 3) := by decide +kernel
theorem dX12_copy_139 : decode cX12_copy 139 = .ok (.iload 4, 2) := by decide +kernel
theorem dX12_copy_141 : decode cX12_copy 141 = .ok (.ifCond .lt 38, 3) := by decide +kernel
theorem dX12_copy_144 : decode cX12_copy 144 = .ok (.iload_n 3, 1) := by decide +kernel
theorem dX12_copy_145 : decode cX12_copy 145 = .ok (.i2l, 1) := by decide +kernel
theorem dX12_copy_146 : decode cX12_copy 146 = .ok (.iload 5, 2) := by decide +kernel
theorem dX12_copy_148 : decode cX12_copy 148 = .ok (.i2l, 1) := by decide +kernel
theorem dX12_copy_149 : decode cX12_copy 149 = .ok (.ladd, 1) := by decide +kernel
theorem dX12_copy_150 : decode cX12_copy 150 = .ok (.aload_n 0, 1) := by decide +kernel
theorem dX12_copy_151 : decode cX12_copy 151 = .ok (.getfield 13, 3) := by decide +kernel
theorem dX12_copy_154 : decode cX12_copy 154 = .ok (.iload_n 1, 1) := by decide +kernel
theorem dX12_copy_155 : decode cX12_copy 155 = .ok (.iaload, 1) := by decide +kernel
theorem dX12_copy_156 : decode cX12_copy 156 = .ok (.i2l, 1) := by decide +kernel
theorem dX12_copy_157 : decode cX12_copy 157 = .ok (.lcmp, 1) := by decide +kernel
theorem dX12_copy_158 : decode cX12_copy 158 = .ok (.ifCond .gt 21, 3) := by decide +kernel
theorem dX12_copy_161 : decode cX12_copy 161 = .ok (.iload 4, 2) := by decide +kernel
theorem dX12_copy_163 : decode cX12_copy 163 = .ok (.i2l, 1) := by decide +kernel
theorem dX12_copy_164 : decode cX12_copy 164 = .ok (.iload 5, 2) := by decide +kernel
theorem dX12_copy_166 : decode cX12_copy 166 = .ok (.i2l, 1) := by decide +kernel
theorem dX12_copy_167 : decode cX12_copy 167 = .ok (.ladd, 1) := by decide +kernel
theorem dX12_copy_168 : decode cX12_copy 168 = .ok (.aload_n 0, 1) := by decide +kernel
theorem dX12_copy_169 : decode cX12_copy 169 = .ok (.getfield 13, 3) := by decide +kernel
theorem dX12_copy_172 : decode cX12_copy 172 = .ok (.iload_n 2, 1) := by decide +kernel
theorem dX12_copy_173 : decode cX12_copy 173 = .ok (.iaload, 1) := by decide +kernel
theorem dX12_copy_174 : decode cX12_copy 174 = .ok (.i2l, 1) := by decide +kernel
theorem dX12_copy_175 : decode cX12_copy 175 = .ok (.lcmp, 1) := by decide +kernel
theorem dX12_copy_176 : decode cX12_copy 176 = .ok (.ifCond .le 10, 3) := by decide +kernel
theorem dX12_copy_179 : decode cX12_copy 179 = .ok (.aload_n 0, 1) := by decide +kernel
theorem dX12_copy_180 : decode cX12_copy 180 = .ok (.bipush (-5), 2) := by decide +kernel
theorem dX12_copy_182 : decode cX12_copy 182 = .ok (.invokevirtual 98, 3) := by decide +kernel
theorem dX12_copy_185 : decode cX12_copy 185 = .ok (.ireturn, 1) := by decide +kernel
theorem dX12_copy_186 : decode cX12_copy 186 = .ok (.iload_n 1, 1) := by decide +kernel
theorem dX12_copy_187 : decode cX12_copy 187 = .ok (.iload_n 2, 1) := by decide +kernel
theorem dX12_copy_188 : decode cX12_copy 188 = .ok (.if_icmp .ne 60, 3) := by decide +kernel
theorem dX12_copy_191 : decode cX12_copy 191 = .ok (.iload_n 3, 1) := by decide +kernel
theorem dX12_copy_192 : decode cX12_copy 192 = .ok (.iload 4, 2) := by decide +kernel
theorem dX12_copy_194 : decode cX12_copy 194 = .ok (.if_icmp .ge 54, 3) := by decide +kernel
theorem dX12_copy_197 : decode cX12_copy 197 = .ok (.iload 5, 2) := by decide +kernel
theorem dX12_copy_199 : decode cX12_copy 199 = .ok (.iconst 1, 1) := by decide +kernel
theorem dX12_copy_200 : decode cX12_copy 200 = .ok (.isub, 1) := by decide +kernel
theorem dX12_copy_201 : decode cX12_copy 201 = .ok (.istore 6, 2) := by decide +kernel
theorem dX12_copy_203 : decode cX12_copy 203 = .ok (.iload 6, 2) := by decide +kernel
theorem dX12_copy_205 : decode cX12_copy 205 = .ok (.ifCond .lt 40, 3) := by decide +kernel
theorem dX12_copy_208 : decode cX12_copy 208 = .ok (.aload_n 0, 1) := by decide +kernel
theorem dX12_copy_209 : decode cX12_copy 209 = .ok (.getfield 16, 3) := by decide +kernel
theorem dX12_copy_212 : decode cX12_copy 212 = .ok (.sipush 160, 3) := by decide +kernel
theorem dX12_copy_215 : decode cX12_copy 215 = .ok (.iload_n 2, 1) := by decide +kernel
theorem dX12_copy_216 : decode cX12_copy 216 = .ok (.imul, 1) := by decide +kernel
theorem dX12_copy_217 : decode cX12_copy 217 = .ok (.iload 4, 2) := by decide +kernel
theorem dX12_copy_219 : decode cX12_copy 219 = .ok (.iadd, 1) := by decide +kernel
theorem dX12_copy_220 : decode cX12_copy 220 = .ok (.iload 6, 2) := by decide +kernel
theorem dX12_copy_222 : decode cX12_copy 222 = .ok (.iadd, 1) := by decide +kernel
theorem dX12_copy_223 : decode cX12_copy 223 = .ok (.aload_n 0, 1) := by decide +kernel
theorem dX12_copy_224 : decode cX12_copy 224 = .ok (.getfield 16, 3) := by decide +kernel
theorem dX12_copy_227 : decode cX12_copy 227 = .ok (.sipush 160, 3) := by decide +kernel
theorem dX12_copy_230 : decode cX12_copy 230 = .ok (.iload_n 1, 1) := by decide +kernel
theorem dX12_copy_231 : decode cX12_copy 231 = .ok (.imul, 1) := by decide +kernel
theorem dX12_copy_232 : decode cX12_copy 232 = .ok (.iload_n 3, 1) := by decide +kernel
theorem dX12_copy_233 : decode cX12_copy 233 = .ok (.iadd, 1) := by decide +kernel
theorem dX12_copy_234 : decode cX12_copy 234 = .ok (.iload 6, 2) := by decide +kernel
theorem dX12_copy_236 : decode cX12_copy 236 = .ok (.iadd, 1) := by decide +kernel
theorem dX12_copy_237 : decode cX12_copy 237 = .ok (.laload, 1) := by decide +kernel
theorem dX12_copy_238 : decode cX12_copy 238 = .ok (.lastore, 1) := by decide +kernel
theorem dX12_copy_239 : decode cX12_copy 239 = .ok (.iinc 6 (-1), 3) := by decide +kernel
theorem dX12_copy_242 : decode cX12_copy 242 = .ok (.goto (-39), 3) := by decide +kernel
theorem dX12_copy_245 : decode cX12_copy 245 = .ok (.goto 50, 3) := by decide +kernel
theorem dX12_copy_248 : decode cX12_copy 248 = .ok (.iconst 0, 1) := by decide +kernel
theorem dX12_copy_249 : decode cX12_copy 249 = .ok (.istore 6, 2) := by decide +kernel
theorem dX12_copy_251 : decode cX12_copy 251 = .ok (.iload 6, 2) := by decide +kernel
theorem dX12_copy_253 : decode cX12_copy 253 = .ok (.iload 5, 2) := by decide +kernel
theorem dX12_copy_255 : decode cX12_copy 255 = .ok (.if_icmp .ge 40, 3) := by decide +kernel
theorem dX12_copy_258 : decode cX12_copy 258 = .ok (.aload_n 0, 1) := by decide +kernel
theorem dX12_copy_259 : decode cX12_copy 259 = .ok (.getfield 16, 3) := by decide +kernel
theorem dX12_copy_262 : decode cX12_copy 262 = .ok (.sipush 160, 3) := by decide +kernel
theorem dX12_copy_265 : decode cX12_copy 265 = .ok (.iload_n 2, 1) := by decide +kernel
theorem dX12_copy_266 : decode cX12_copy 266 = .ok (.imul, 1) := by decide +kernel
theorem dX12_copy_267 : decode cX12_copy 267 = .ok (.iload 4, 2) := by decide +kernel
theorem dX12_copy_269 : decode cX12_copy 269 = .ok (.iadd, 1) := by decide +kernel
theorem dX12_copy_270 : decode cX12_copy 270 = .ok (.iload 6, 2) := by decide +kernel
theorem dX12_copy_272 : decode cX12_copy 272 = .ok (.iadd, 1) := by decide +kernel
theorem dX12_copy_273 : decode cX12_copy 273 = .ok (.aload_n 0, 1) := by decide +kernel
theorem dX12_copy_274 : decode cX12_copy 274 = .ok (.getfield 16, 3) := by decide +kernel
theorem dX12_copy_277 : decode cX12_copy 277 = .ok (.sipush 160, 3) := by decide +kernel
theorem dX12_copy_280 : decode cX12_copy 280 = .ok (.iload_n 1, 1) := by decide +kernel
theorem dX12_copy_281 : decode cX12_copy 281 = .ok (.imul, 1) := by decide +kernel
theorem dX12_copy_282 : decode cX12_copy 282 = .ok (.iload_n 3, 1) := by decide +kernel
theorem dX12_copy_283 : decode cX12_copy 283 = .ok (.iadd, 1) := by decide +kernel
theorem dX12_copy_284 : decode cX12_copy 284 = .ok (.iload 6, 2) := by decide +kernel
theorem dX12_copy_286 : decode cX12_copy 286 = .ok (.iadd, 1) := by decide +kernel
theorem dX12_copy_287 : decode cX12_copy 287 = .ok (.laload, 1) := by decide +kernel
theorem dX12_copy_288 : decode cX12_copy 288 = .ok (.lastore, 1) := by decide +kernel
theorem dX12_copy_289 : decode cX12_copy 289 = .ok (.iinc 6 1, 3) := by decide +kernel
theorem dX12_copy_292 : decode cX12_copy 292 = .ok (.goto (-41), 3) := by decide +kernel
theorem dX12_copy_295 : decode cX12_copy 295 = .ok (.iconst 1, 1) := by decide +kernel
theorem dX12_copy_296 : decode cX12_copy 296 = .ok (.ireturn, 1) := by decide +kernel
theorem dX12_element_0 : decode cX12_element 0 = .ok (.iload_n 1, 1) := by decide +kernel
theorem dX12_element_1 : decode cX12_element 1 = .ok (.iconst 0, 1) := by decide +kernel
theorem dX12_element_2 : decode cX12_element 2 = .ok (.bipush 7, 2) := by decide +kernel
theorem dX12_element_4 : decode cX12_element 4 = .ok (.invokestatic 90, 3) := by decide +kernel
theorem dX12_element_7 : decode cX12_element 7 = .ok (.ifCond .eq 42, 3) := by decide +kernel
theorem dX12_element_10 : decode cX12_element 10 = .ok (.aload_n 0, 1) := by decide +kernel
theorem dX12_element_11 : decode cX12_element 11 = .ok (.iload_n 1, 1) := by decide +kernel
theorem dX12_element_12 : decode cX12_element 12 = .ok (.invokevirtual 102, 3) := by decide +kernel
theorem dX12_element_15 : decode cX12_element 15 = .ok (.ifCond .eq 34, 3) := by decide +kernel
theorem dX12_element_18 : decode cX12_element 18 = .ok (.iload_n 2, 1) := by decide +kernel
theorem dX12_element_19 : decode cX12_element 19 = .ok (.iconst 0, 1) := by decide +kernel
theorem dX12_element_20 : decode cX12_element 20 = .ok (.aload_n 0, 1) := by decide +kernel
theorem dX12_element_21 : decode cX12_element 21 = .ok (.getfield 13, 3) := by decide +kernel
theorem dX12_element_24 : decode cX12_element 24 = .ok (.iload_n 1, 1) := by decide +kernel
theorem dX12_element_25 : decode cX12_element 25 = .ok (.iaload, 1) := by decide +kernel
theorem dX12_element_26 : decode cX12_element 26 = .ok (.iconst 1, 1) := by decide +kernel
theorem dX12_element_27 : decode cX12_element 27 = .ok (.isub, 1) := by decide +kernel
theorem dX12_element_28 : decode cX12_element 28 = .ok (.invokestatic 90, 3) := by decide +kernel
theorem dX12_element_31 : decode cX12_element 31 = .ok (.ifCond .eq 18, 3) := by decide +kernel
theorem dX12_element_34 : decode cX12_element 34 = .ok (.aload_n 0, 1) := by decide +kernel
theorem dX12_element_35 : decode cX12_element 35 = .ok (.getfield 16, 3) := by decide +kernel
theorem dX12_element_38 : decode cX12_element 38 = .ok (.sipush 160, 3) := by decide +kernel
theorem dX12_element_41 : decode cX12_element 41 = .ok (.iload_n 1, 1) := by decide +kernel
theorem dX12_element_42 : decode cX12_element 42 = .ok (.imul, 1) := by decide +kernel
theorem dX12_element_43 : decode cX12_element 43 = .ok (.iload_n 2, 1) := by decide +kernel
theorem dX12_element_44 : decode cX12_element 44 = .ok (.iadd, 1) := by decide +kernel
theorem dX12_element_45 : decode cX12_element 45 = .ok (.laload, 1) := by decide +kernel
theorem dX12_element_46 : decode cX12_element 46 = .ok (.goto 4, 3) := by decide +kernel
theorem dX12_element_49 : decode cX12_element 49 = .ok (.lconst 0, 1) := by decide +kernel
theorem dX12_element_50 : decode cX12_element 50 = .ok (.lreturn, 1) := by decide +kernel
theorem dX12_show_0 : decode cX12_show 0 = .ok (.iload_n 1, 1) := by decide +kernel
theorem dX12_show_1 : decode cX12_show 1 = .ok (.iconst 0, 1) := by decide +kernel
theorem dX12_show_2 : decode cX12_show 2 = .ok (.bipush 7, 2) := by decide +kernel
theorem dX12_show_4 : decode cX12_show 4 = .ok (.invokestatic 90, 3) := by decide +kernel
theorem dX12_show_7 : decode cX12_show 7 = .ok (.ifCond .eq 16, 3) := by decide +kernel
theorem dX12_show_10 : decode cX12_show 10 = .ok (.iload_n 2, 1) := by decide +kernel
theorem dX12_show_11 : decode cX12_show 11 = .ok (.iconst (-1), 1) := by decide +kernel
theorem dX12_show_12 : decode cX12_show 12 = .ok (.if_icmp .eq 17, 3) := by decide +kernel
theorem dX12_show_15 : decode cX12_show 15 = .ok (.aload_n 0, 1) := by decide +kernel
theorem dX12_show_16 : decode cX12_show 16 = .ok (.iload_n 2, 1) := by decide +kernel
theorem dX12_show_17 : decode cX12_show 17 = .ok (.invokevirtual 94, 3) := by decide +kernel
theorem dX12_show_20 : decode cX12_show 20 = .ok (.ifCond .ne 9, 3) := by decide +kernel
theorem dX12_show_23 : decode cX12_show 23 = .ok (.aload_n 0, 1) := by decide +kernel
theorem dX12_show_24 : decode cX12_show 24 = .ok (.iconst (-1), 1) := by decide +kernel
theorem dX12_show_25 : decode cX12_show 25 = .ok (.invokevirtual 98, 3) := by decide +kernel
theorem dX12_show_28 : decode cX12_show 28 = .ok (.ireturn, 1) := by decide +kernel
theorem dX12_show_29 : decode cX12_show 29 = .ok (.aload_n 0, 1) := by decide +kernel
theorem dX12_show_30 : decode cX12_show 30 = .ok (.getfield 7, 3) := by decide +kernel
theorem dX12_show_33 : decode cX12_show 33 = .ok (.iload_n 1, 1) := by decide +kernel
theorem dX12_show_34 : decode cX12_show 34 = .ok (.iload_n 2, 1) := by decide +kernel
theorem dX12_show_35 : decode cX12_show 35 = .ok (.iastore, 1) := by decide +kernel
theorem dX12_show_36 : decode cX12_show 36 = .ok (.iload_n 2, 1) := by decide +kernel
theorem dX12_show_37 : decode cX12_show 37 = .ok (.iconst (-1), 1) := by decide +kernel
theorem dX12_show_38 : decode cX12_show 38 = .ok (.if_icmp .ne 7, 3) := by decide +kernel
theorem dX12_show_41 : decode cX12_show 41 = .ok (.iconst 0, 1) := by decide +kernel
theorem dX12_show_42 : decode cX12_show 42 = .ok (.goto 4, 3) := by decide +kernel
theorem dX12_show_45 : decode cX12_show 45 = .ok (.iconst 1, 1) := by decide +kernel
theorem dX12_show_46 : decode cX12_show 46 = .ok (.ireturn, 1) := by decide +kernel
theorem dX12_holds_0 : decode cX12_holds 0 = .ok (.iload_n 1, 1) := by decide +kernel
theorem dX12_holds_1 : decode cX12_holds 1 = .ok (.iconst 0, 1) := by decide +kernel
theorem dX12_holds_2 : decode cX12_holds 2 = .ok (.bipush 7, 2) := by decide +kernel
theorem dX12_holds_4 : decode cX12_holds 4 = .ok (.invokestatic 90, 3) := by decide +kernel
theorem dX12_holds_7 : decode cX12_holds 7 = .ok (.ifCond .eq 12, 3) := by decide +kernel
theorem dX12_holds_10 : decode cX12_holds 10 = .ok (.aload_n 0, 1) := by decide +kernel
theorem dX12_holds_11 : decode cX12_holds 11 = .ok (.getfield 7, 3) := by decide +kernel
theorem dX12_holds_14 : decode cX12_holds 14 = .ok (.iload_n 1, 1) := by decide +kernel
theorem dX12_holds_15 : decode cX12_holds 15 = .ok (.iaload, 1) := by decide +kernel
theorem dX12_holds_16 : decode cX12_holds 16 = .ok (.goto 4, 3) := by decide +kernel
theorem dX12_holds_19 : decode cX12_holds 19 = .ok (.iconst (-1), 1) := by decide +kernel
theorem dX12_holds_20 : decode cX12_holds 20 = .ok (.ireturn, 1) := by decide +kernel
theorem dX12_above_0 : decode cX12_above 0 = .ok (.iload_n 0, 1) := by decide +kernel
theorem dX12_above_1 : decode cX12_above 1 = .ok (.iconst 3, 1) := by decide +kernel
theorem dX12_above_2 : decode cX12_above 2 = .ok (.if_icmp .ne 7, 3) := by decide +kernel
theorem dX12_above_5 : decode cX12_above 5 = .ok (.iconst 1, 1) := by decide +kernel
theorem dX12_above_6 : decode cX12_above 6 = .ok (.goto 13, 3) := by decide +kernel
theorem dX12_above_9 : decode cX12_above 9 = .ok (.iload_n 0, 1) := by decide +kernel
theorem dX12_above_10 : decode cX12_above 10 = .ok (.iconst 4, 1) := by decide +kernel
theorem dX12_above_11 : decode cX12_above 11 = .ok (.if_icmp .le 7, 3) := by decide +kernel
theorem dX12_above_14 : decode cX12_above 14 = .ok (.iconst 2, 1) := by decide +kernel
theorem dX12_above_15 : decode cX12_above 15 = .ok (.goto 4, 3) := by decide +kernel
theorem dX12_above_18 : decode cX12_above 18 = .ok (.iconst 0, 1) := by decide +kernel
theorem dX12_above_19 : decode cX12_above 19 = .ok (.ireturn, 1) := by decide +kernel
theorem dX12_isUnder_0 : decode cX12_isUnder 0 = .ok (.iload_n 0, 1) := by decide +kernel
theorem dX12_isUnder_1 : decode cX12_isUnder 1 = .ok (.istore_n 2, 1) := by decide +kernel
theorem dX12_isUnder_2 : decode cX12_isUnder 2 = .ok (.iload_n 2, 1) := by decide +kernel
theorem dX12_isUnder_3 : decode cX12_isUnder 3 = .ok (.iload_n 1, 1) := by decide +kernel
theorem dX12_isUnder_4 : decode cX12_isUnder 4 = .ok (.if_icmp .eq 15, 3) := by decide +kernel
theorem dX12_isUnder_7 : decode cX12_isUnder 7 = .ok (.iload_n 2, 1) := by decide +kernel
theorem dX12_isUnder_8 : decode cX12_isUnder 8 = .ok (.ifCond .le 11, 3) := by decide +kernel
theorem dX12_isUnder_11 : decode cX12_isUnder 11 = .ok (.iload_n 2, 1) := by decide +kernel
theorem dX12_isUnder_12 : decode cX12_isUnder 12 = .ok (.invokestatic 108, 3) := by decide +kernel
theorem dX12_isUnder_15 : decode cX12_isUnder 15 = .ok (.istore_n 2, 1) := by decide +kernel
theorem dX12_isUnder_16 : decode cX12_isUnder 16 = .ok (.goto (-14), 3) := by decide +kernel
theorem dX12_isUnder_19 : decode cX12_isUnder 19 = .ok (.iload_n 2, 1) := by decide +kernel
theorem dX12_isUnder_20 : decode cX12_isUnder 20 = .ok (.iload_n 1, 1) := by decide +kernel
theorem dX12_isUnder_21 : decode cX12_isUnder 21 = .ok (.if_icmp .ne 7, 3) := by decide +kernel
theorem dX12_isUnder_24 : decode cX12_isUnder 24 = .ok (.iconst 1, 1) := by decide +kernel
theorem dX12_isUnder_25 : decode cX12_isUnder 25 = .ok (.goto 4, 3) := by decide +kernel
theorem dX12_isUnder_28 : decode cX12_isUnder 28 = .ok (.iconst 0, 1) := by decide +kernel
theorem dX12_isUnder_29 : decode cX12_isUnder 29 = .ok (.ireturn, 1) := by decide +kernel
theorem dX12_says_0 : decode cX12_says 0 = .ok (.iload_n 1, 1) := by decide +kernel
theorem dX12_says_1 : decode cX12_says 1 = .ok (.iconst 0, 1) := by decide +kernel
theorem dX12_says_2 : decode cX12_says 2 = .ok (.bipush 7, 2) := by decide +kernel
theorem dX12_says_4 : decode cX12_says 4 = .ok (.invokestatic 90, 3) := by decide +kernel
theorem dX12_says_7 : decode cX12_says 7 = .ok (.ifCond .eq 13, 3) := by decide +kernel
theorem dX12_says_10 : decode cX12_says 10 = .ok (.iload_n 2, 1) := by decide +kernel
theorem dX12_says_11 : decode cX12_says 11 = .ok (.iconst 0, 1) := by decide +kernel
theorem dX12_says_12 : decode cX12_says 12 = .ok (.bipush 6, 2) := by decide +kernel
theorem dX12_says_14 : decode cX12_says 14 = .ok (.invokestatic 90, 3) := by decide +kernel
theorem dX12_says_17 : decode cX12_says 17 = .ok (.ifCond .ne 9, 3) := by decide +kernel
theorem dX12_says_20 : decode cX12_says 20 = .ok (.aload_n 0, 1) := by decide +kernel
theorem dX12_says_21 : decode cX12_says 21 = .ok (.iconst (-1), 1) := by decide +kernel
theorem dX12_says_22 : decode cX12_says 22 = .ok (.invokevirtual 98, 3) := by decide +kernel
theorem dX12_says_25 : decode cX12_says 25 = .ok (.ireturn, 1) := by decide +kernel
theorem dX12_says_26 : decode cX12_says 26 = .ok (.aload_n 0, 1) := by decide +kernel
theorem dX12_says_27 : decode cX12_says 27 = .ok (.getfield 7, 3) := by decide +kernel
theorem dX12_says_30 : decode cX12_says 30 = .ok (.iload_n 1, 1) := by decide +kernel
theorem dX12_says_31 : decode cX12_says 31 = .ok (.iaload, 1) := by decide +kernel
theorem dX12_says_32 : decode cX12_says 32 = .ok (.istore_n 3, 1) := by decide +kernel
theorem dX12_says_33 : decode cX12_says 33 = .ok (.iload_n 3, 1) := by decide +kernel
theorem dX12_says_34 : decode cX12_says 34 = .ok (.ifCond .lt 31, 3) := by decide +kernel
theorem dX12_says_37 : decode cX12_says 37 = .ok (.aload_n 0, 1) := by decide +kernel
theorem dX12_says_38 : decode cX12_says 38 = .ok (.iload_n 1, 1) := by decide +kernel
theorem dX12_says_39 : decode cX12_says 39 = .ok (.invokevirtual 102, 3) := by decide +kernel
theorem dX12_says_42 : decode cX12_says 42 = .ok (.ifCond .ne 16, 3) := by decide +kernel
theorem dX12_says_45 : decode cX12_says 45 = .ok (.aload_n 0, 1) := by decide +kernel
theorem dX12_says_46 : decode cX12_says 46 = .ok (.getfield 20, 3) := by decide +kernel
theorem dX12_says_49 : decode cX12_says 49 = .ok (.iload_n 3, 1) := by decide +kernel
theorem dX12_says_50 : decode cX12_says 50 = .ok (.iaload, 1) := by decide +kernel
theorem dX12_says_51 : decode cX12_says 51 = .ok (.iload_n 2, 1) := by decide +kernel
theorem dX12_says_52 : decode cX12_says 52 = .ok (.invokestatic 111, 3) := by decide +kernel
theorem dX12_says_55 : decode cX12_says 55 = .ok (.ifCond .ne 10, 3) := by decide +kernel
theorem dX12_says_58 : decode cX12_says 58 = .ok (.aload_n 0, 1) := by decide +kernel
theorem dX12_says_59 : decode cX12_says 59 = .ok (.bipush (-2), 2) := by decide +kernel
theorem dX12_says_61 : decode cX12_says 61 = .ok (.invokevirtual 98, 3) := by decide +kernel
theorem dX12_says_64 : decode cX12_says 64 = .ok (.ireturn, 1) := by decide +kernel
theorem dX12_says_65 : decode cX12_says 65 = .ok (.iload_n 3, 1) := by decide +kernel
theorem dX12_says_66 : decode cX12_says 66 = .ok (.ifCond .ge 10, 3) := by decide +kernel
theorem dX12_says_69 : decode cX12_says 69 = .ok (.aload_n 0, 1) := by decide +kernel
theorem dX12_says_70 : decode cX12_says 70 = .ok (.bipush (-3), 2) := by decide +kernel
theorem dX12_says_72 : decode cX12_says 72 = .ok (.invokevirtual 98, 3) := by decide +kernel
theorem dX12_says_75 : decode cX12_says 75 = .ok (.ireturn, 1) := by decide +kernel
theorem dX12_says_76 : decode cX12_says 76 = .ok (.iload_n 2, 1) := by decide +kernel
theorem dX12_says_77 : decode cX12_says 77 = .ok (.tableswitch 109 0 5 #[39, 45, 54, 63, 73, 100], 39) := by decide +kernel
theorem dX12_says_116 : decode cX12_says 116 = .ok (.aload_n 0, 1) := by decide +kernel
theorem dX12_says_117 : decode cX12_says 117 = .ok (.iload_n 3, 1) := by decide +kernel
theorem dX12_says_118 : decode cX12_says 118 = .ok (.invokevirtual 115, 3) := by decide +kernel
theorem dX12_says_121 : decode cX12_says 121 = .ok (.ireturn, 1) := by decide +kernel
theorem dX12_says_122 : decode cX12_says 122 = .ok (.aload_n 0, 1) := by decide +kernel
theorem dX12_says_123 : decode cX12_says 123 = .ok (.iload_n 3, 1) := by decide +kernel
theorem dX12_says_124 : decode cX12_says 124 = .ok (.iconst 0, 1) := by decide +kernel
theorem dX12_says_125 : decode cX12_says 125 = .ok (.bipush 10, 2) := by decide +kernel
theorem dX12_says_127 : decode cX12_says 127 = .ok (.invokevirtual 118, 3) := by decide +kernel
theorem dX12_says_130 : decode cX12_says 130 = .ok (.ireturn, 1) := by decide +kernel
theorem dX12_says_131 : decode cX12_says 131 = .ok (.aload_n 0, 1) := by decide +kernel
theorem dX12_says_132 : decode cX12_says 132 = .ok (.iload_n 3, 1) := by decide +kernel
theorem dX12_says_133 : decode cX12_says 133 = .ok (.iconst 0, 1) := by decide +kernel
theorem dX12_says_134 : decode cX12_says 134 = .ok (.bipush 10, 2) := by decide +kernel
theorem dX12_says_136 : decode cX12_says 136 = .ok (.invokevirtual 122, 3) := by decide +kernel
theorem dX12_says_139 : decode cX12_says 139 = .ok (.ireturn, 1) := by decide +kernel
theorem dX12_says_140 : decode cX12_says 140 = .ok (.aload_n 0, 1) := by decide +kernel
theorem dX12_says_141 : decode cX12_says 141 = .ok (.iload_n 3, 1) := by decide +kernel
theorem dX12_says_142 : decode cX12_says 142 = .ok (.bipush 8, 2) := by decide +kernel
theorem dX12_says_144 : decode cX12_says 144 = .ok (.bipush 10, 2) := by decide +kernel
theorem dX12_says_146 : decode cX12_says 146 = .ok (.invokevirtual 118, 3) := by decide +kernel
theorem dX12_says_149 : decode cX12_says 149 = .ok (.ireturn, 1) := by decide +kernel
theorem dX12_says_150 : decode cX12_says 150 = .ok (.aload_n 0, 1) := by decide +kernel
theorem dX12_says_151 : decode cX12_says 151 = .ok (.getfield 26, 3) := by decide +kernel
theorem dX12_says_154 : decode cX12_says 154 = .ok (.iload_n 3, 1) := by decide +kernel
theorem dX12_says_155 : decode cX12_says 155 = .ok (.iaload, 1) := by decide +kernel
theorem dX12_says_156 : decode cX12_says 156 = .ok (.ifCond .ne 7, 3) := by decide +kernel
theorem dX12_says_159 : decode cX12_says 159 = .ok (.iconst 0, 1) := by decide +kernel
theorem dX12_says_160 : decode cX12_says 160 = .ok (.goto 16, 3) := by decide +kernel
theorem dX12_says_163 : decode cX12_says 163 = .ok (.aload_n 0, 1) := by decide +kernel
theorem dX12_says_164 : decode cX12_says 164 = .ok (.iload_n 3, 1) := by decide +kernel
theorem dX12_says_165 : decode cX12_says 165 = .ok (.aload_n 0, 1) := by decide +kernel
theorem dX12_says_166 : decode cX12_says 166 = .ok (.getfield 26, 3) := by decide +kernel
theorem dX12_says_169 : decode cX12_says 169 = .ok (.iload_n 3, 1) := by decide +kernel
theorem dX12_says_170 : decode cX12_says 170 = .ok (.iaload, 1) := by decide +kernel
theorem dX12_says_171 : decode cX12_says 171 = .ok (.iconst 1, 1) := by decide +kernel
theorem dX12_says_172 : decode cX12_says 172 = .ok (.isub, 1) := by decide +kernel
theorem dX12_says_173 : decode cX12_says 173 = .ok (.invokevirtual 125, 3) := by decide +kernel
theorem dX12_says_176 : decode cX12_says 176 = .ok (.ireturn, 1) := by decide +kernel
theorem dX12_says_177 : decode cX12_says 177 = .ok (.aload_n 0, 1) := by decide +kernel
theorem dX12_says_178 : decode cX12_says 178 = .ok (.iload_n 3, 1) := by decide +kernel
theorem dX12_says_179 : decode cX12_says 179 = .ok (.iconst 4, 1) := by decide +kernel
theorem dX12_says_180 : decode cX12_says 180 = .ok (.bipush 10, 2) := by decide +kernel
theorem dX12_says_182 : decode cX12_says 182 = .ok (.invokevirtual 122, 3) := by decide +kernel
theorem dX12_says_185 : decode cX12_says 185 = .ok (.ireturn, 1) := by decide +kernel
theorem dX12_says_186 : decode cX12_says 186 = .ok (.aload_n 0, 1) := by decide +kernel
theorem dX12_says_187 : decode cX12_says 187 = .ok (.getfield 23, 3) := by decide +kernel
theorem dX12_says_190 : decode cX12_says 190 = .ok (.iload_n 3, 1) := by decide +kernel
theorem dX12_says_191 : decode cX12_says 191 = .ok (.iaload, 1) := by decide +kernel
theorem dX12_says_192 : decode cX12_says 192 = .ok (.ireturn, 1) := by decide +kernel
theorem dX12_newHouse_0 : decode cX12_newHouse 0 = .ok (.aload_n 0, 1) := by decide +kernel
theorem dX12_newHouse_1 : decode cX12_newHouse 1 = .ok (.getfield 20, 3) := by decide +kernel
theorem dX12_newHouse_4 : decode cX12_newHouse 4 = .ok (.aload_n 0, 1) := by decide +kernel
theorem dX12_newHouse_5 : decode cX12_newHouse 5 = .ok (.getfield 87, 3) := by decide +kernel
theorem dX12_newHouse_8 : decode cX12_newHouse 8 = .ok (.iload_n 1, 1) := by decide +kernel
theorem dX12_newHouse_9 : decode cX12_newHouse 9 = .ok (.iastore, 1) := by decide +kernel
theorem dX12_newHouse_10 : decode cX12_newHouse 10 = .ok (.aload_n 0, 1) := by decide +kernel
theorem dX12_newHouse_11 : decode cX12_newHouse 11 = .ok (.getfield 23, 3) := by decide +kernel
theorem dX12_newHouse_14 : decode cX12_newHouse 14 = .ok (.aload_n 0, 1) := by decide +kernel
theorem dX12_newHouse_15 : decode cX12_newHouse 15 = .ok (.getfield 87, 3) := by decide +kernel
theorem dX12_newHouse_18 : decode cX12_newHouse 18 = .ok (.iload_n 2, 1) := by decide +kernel
theorem dX12_newHouse_19 : decode cX12_newHouse 19 = .ok (.iastore, 1) := by decide +kernel
theorem dX12_newHouse_20 : decode cX12_newHouse 20 = .ok (.aload_n 0, 1) := by decide +kernel
theorem dX12_newHouse_21 : decode cX12_newHouse 21 = .ok (.aload_n 0, 1) := by decide +kernel
theorem dX12_newHouse_22 : decode cX12_newHouse 22 = .ok (.getfield 87, 3) := by decide +kernel
theorem dX12_newHouse_25 : decode cX12_newHouse 25 = .ok (.invokevirtual 129, 3) := by decide +kernel
theorem dX12_newHouse_28 : decode cX12_newHouse 28 = .ok (.aload_n 0, 1) := by decide +kernel
theorem dX12_newHouse_29 : decode cX12_newHouse 29 = .ok (.dup, 1) := by decide +kernel
theorem dX12_newHouse_30 : decode cX12_newHouse 30 = .ok (.getfield 87, 3) := by decide +kernel
theorem dX12_newHouse_33 : decode cX12_newHouse 33 = .ok (.dup_x1, 1) := by decide +kernel
theorem dX12_newHouse_34 : decode cX12_newHouse 34 = .ok (.iconst 1, 1) := by decide +kernel
theorem dX12_newHouse_35 : decode cX12_newHouse 35 = .ok (.iadd, 1) := by decide +kernel
theorem dX12_newHouse_36 : decode cX12_newHouse 36 = .ok (.putfield 87, 3) := by decide +kernel
theorem dX12_newHouse_39 : decode cX12_newHouse 39 = .ok (.ireturn, 1) := by decide +kernel
theorem dX12_bare_0 : decode cX12_bare 0 = .ok (.aload_n 0, 1) := by decide +kernel
theorem dX12_bare_1 : decode cX12_bare 1 = .ok (.getfield 26, 3) := by decide +kernel
theorem dX12_bare_4 : decode cX12_bare 4 = .ok (.iload_n 1, 1) := by decide +kernel
theorem dX12_bare_5 : decode cX12_bare 5 = .ok (.iconst 0, 1) := by decide +kernel
theorem dX12_bare_6 : decode cX12_bare 6 = .ok (.iastore, 1) := by decide +kernel
theorem dX12_bare_7 : decode cX12_bare 7 = .ok (.iconst 0, 1) := by decide +kernel
theorem dX12_bare_8 : decode cX12_bare 8 = .ok (.istore_n 2, 1) := by decide +kernel
theorem dX12_bare_9 : decode cX12_bare 9 = .ok (.iload_n 2, 1) := by decide +kernel
theorem dX12_bare_10 : decode cX12_bare 10 = .ok (.bipush 12, 2) := by decide +kernel
theorem dX12_bare_12 : decode cX12_bare 12 = .ok (.if_icmp .ge 21, 3) := by decide +kernel
theorem dX12_bare_15 : decode cX12_bare 15 = .ok (.aload_n 0, 1) := by decide +kernel
theorem dX12_bare_16 : decode cX12_bare 16 = .ok (.getfield 44, 3) := by decide +kernel
theorem dX12_bare_19 : decode cX12_bare 19 = .ok (.bipush 12, 2) := by decide +kernel
theorem dX12_bare_21 : decode cX12_bare 21 = .ok (.iload_n 1, 1) := by decide +kernel
theorem dX12_bare_22 : decode cX12_bare 22 = .ok (.imul, 1) := by decide +kernel
theorem dX12_bare_23 : decode cX12_bare 23 = .ok (.iload_n 2, 1) := by decide +kernel
theorem dX12_bare_24 : decode cX12_bare 24 = .ok (.iadd, 1) := by decide +kernel
theorem dX12_bare_25 : decode cX12_bare 25 = .ok (.iconst 0, 1) := by decide +kernel
theorem dX12_bare_26 : decode cX12_bare 26 = .ok (.iastore, 1) := by decide +kernel
theorem dX12_bare_27 : decode cX12_bare 27 = .ok (.iinc 2 1, 3) := by decide +kernel
theorem dX12_bare_30 : decode cX12_bare 30 = .ok (.goto (-21), 3) := by decide +kernel
theorem dX12_bare_33 : decode cX12_bare 33 = .ok (.return_, 1) := by decide +kernel
theorem dX12_house_0 : decode cX12_house 0 = .ok (.iload_n 1, 1) := by decide +kernel
theorem dX12_house_1 : decode cX12_house 1 = .ok (.iconst 0, 1) := by decide +kernel
theorem dX12_house_2 : decode cX12_house 2 = .ok (.bipush 6, 2) := by decide +kernel
theorem dX12_house_4 : decode cX12_house 4 = .ok (.invokestatic 90, 3) := by decide +kernel
theorem dX12_house_7 : decode cX12_house 7 = .ok (.ifCond .ne 9, 3) := by decide +kernel
theorem dX12_house_10 : decode cX12_house 10 = .ok (.aload_n 0, 1) := by decide +kernel
theorem dX12_house_11 : decode cX12_house 11 = .ok (.iconst (-1), 1) := by decide +kernel
theorem dX12_house_12 : decode cX12_house 12 = .ok (.invokevirtual 98, 3) := by decide +kernel
theorem dX12_house_15 : decode cX12_house 15 = .ok (.ireturn, 1) := by decide +kernel
theorem dX12_house_16 : decode cX12_house 16 = .ok (.iload_n 2, 1) := by decide +kernel
theorem dX12_house_17 : decode cX12_house 17 = .ok (.iconst 0, 1) := by decide +kernel
theorem dX12_house_18 : decode cX12_house 18 = .ok (.bipush 9, 2) := by decide +kernel
theorem dX12_house_20 : decode cX12_house 20 = .ok (.invokestatic 90, 3) := by decide +kernel
theorem dX12_house_23 : decode cX12_house 23 = .ok (.ifCond .ne 10, 3) := by decide +kernel
theorem dX12_house_26 : decode cX12_house 26 = .ok (.aload_n 0, 1) := by decide +kernel
theorem dX12_house_27 : decode cX12_house 27 = .ok (.bipush (-6), 2) := by decide +kernel
theorem dX12_house_29 : decode cX12_house 29 = .ok (.invokevirtual 98, 3) := by decide +kernel
theorem dX12_house_32 : decode cX12_house 32 = .ok (.ireturn, 1) := by decide +kernel
theorem dX12_house_33 : decode cX12_house 33 = .ok (.aload_n 0, 1) := by decide +kernel
theorem dX12_house_34 : decode cX12_house 34 = .ok (.getfield 87, 3) := by decide +kernel
theorem dX12_house_37 : decode cX12_house 37 = .ok (.bipush 6, 2) := by decide +kernel
theorem dX12_house_39 : decode cX12_house 39 = .ok (.if_icmp .ne 12, 3) := by decide +kernel
theorem dX12_house_42 : decode cX12_house 42 = .ok (.aload_n 0, 1) := by decide +kernel
theorem dX12_house_43 : decode cX12_house 43 = .ok (.bipush (-7), 2) := by decide +kernel
theorem dX12_house_45 : decode cX12_house 45 = .ok (.invokevirtual 98, 3) := by decide +kernel
theorem dX12_house_48 : decode cX12_house 48 = .ok (.goto 9, 3) := by decide +kernel
theorem dX12_house_51 : decode cX12_house 51 = .ok (.aload_n 0, 1) := by decide +kernel
theorem dX12_house_52 : decode cX12_house 52 = .ok (.iload_n 1, 1) := by decide +kernel
theorem dX12_house_53 : decode cX12_house 53 = .ok (.iload_n 2, 1) := by decide +kernel
theorem dX12_house_54 : decode cX12_house 54 = .ok (.invokevirtual 133, 3) := by decide +kernel
theorem dX12_house_57 : decode cX12_house 57 = .ok (.ireturn, 1) := by decide +kernel
theorem dX12_lived_0 : decode cX12_lived 0 = .ok (.iconst 0, 1) := by decide +kernel
theorem dX12_lived_1 : decode cX12_lived 1 = .ok (.istore_n 2, 1) := by decide +kernel
theorem dX12_lived_2 : decode cX12_lived 2 = .ok (.iconst 0, 1) := by decide +kernel
theorem dX12_lived_3 : decode cX12_lived 3 = .ok (.istore_n 3, 1) := by decide +kernel
theorem dX12_lived_4 : decode cX12_lived 4 = .ok (.iload_n 3, 1) := by decide +kernel
theorem dX12_lived_5 : decode cX12_lived 5 = .ok (.aload_n 0, 1) := by decide +kernel
theorem dX12_lived_6 : decode cX12_lived 6 = .ok (.getfield 26, 3) := by decide +kernel
theorem dX12_lived_9 : decode cX12_lived 9 = .ok (.iload_n 1, 1) := by decide +kernel
theorem dX12_lived_10 : decode cX12_lived 10 = .ok (.iaload, 1) := by decide +kernel
theorem dX12_lived_11 : decode cX12_lived 11 = .ok (.if_icmp .ge 25, 3) := by decide +kernel
theorem dX12_lived_14 : decode cX12_lived 14 = .ok (.iload_n 2, 1) := by decide +kernel
theorem dX12_lived_15 : decode cX12_lived 15 = .ok (.iconst 1, 1) := by decide +kernel
theorem dX12_lived_16 : decode cX12_lived 16 = .ok (.aload_n 0, 1) := by decide +kernel
theorem dX12_lived_17 : decode cX12_lived 17 = .ok (.getfield 29, 3) := by decide +kernel
theorem dX12_lived_20 : decode cX12_lived 20 = .ok (.bipush 8, 2) := by decide +kernel
theorem dX12_lived_22 : decode cX12_lived 22 = .ok (.iload_n 1, 1) := by decide +kernel
theorem dX12_lived_23 : decode cX12_lived 23 = .ok (.imul, 1) := by decide +kernel
theorem dX12_lived_24 : decode cX12_lived 24 = .ok (.iload_n 3, 1) := by decide +kernel
theorem dX12_lived_25 : decode cX12_lived 25 = .ok (.iadd, 1) := by decide +kernel
theorem dX12_lived_26 : decode cX12_lived 26 = .ok (.iaload, 1) := by decide +kernel
theorem dX12_lived_27 : decode cX12_lived 27 = .ok (.ishl, 1) := by decide +kernel
theorem dX12_lived_28 : decode cX12_lived 28 = .ok (.ior, 1) := by decide +kernel
theorem dX12_lived_29 : decode cX12_lived 29 = .ok (.istore_n 2, 1) := by decide +kernel
theorem dX12_lived_30 : decode cX12_lived 30 = .ok (.iinc 3 1, 3) := by decide +kernel
theorem dX12_lived_33 : decode cX12_lived 33 = .ok (.goto (-29), 3) := by decide +kernel
theorem dX12_lived_36 : decode cX12_lived 36 = .ok (.iload_n 2, 1) := by decide +kernel
theorem dX12_lived_37 : decode cX12_lived 37 = .ok (.ireturn, 1) := by decide +kernel
theorem dX12_houseOf_0 : decode cX12_houseOf 0 = .ok (.aload_n 0, 1) := by decide +kernel
theorem dX12_houseOf_1 : decode cX12_houseOf 1 = .ok (.iload_n 1, 1) := by decide +kernel
theorem dX12_houseOf_2 : decode cX12_houseOf 2 = .ok (.invokevirtual 94, 3) := by decide +kernel
theorem dX12_houseOf_5 : decode cX12_houseOf 5 = .ok (.ifCond .eq 12, 3) := by decide +kernel
theorem dX12_houseOf_8 : decode cX12_houseOf 8 = .ok (.iload_n 2, 1) := by decide +kernel
theorem dX12_houseOf_9 : decode cX12_houseOf 9 = .ok (.iconst 0, 1) := by decide +kernel
theorem dX12_houseOf_10 : decode cX12_houseOf 10 = .ok (.iconst 4, 1) := by decide +kernel
theorem dX12_houseOf_11 : decode cX12_houseOf 11 = .ok (.invokestatic 90, 3) := by decide +kernel
theorem dX12_houseOf_14 : decode cX12_houseOf 14 = .ok (.ifCond .ne 10, 3) := by decide +kernel
theorem dX12_houseOf_17 : decode cX12_houseOf 17 = .ok (.aload_n 0, 1) := by decide +kernel
theorem dX12_houseOf_18 : decode cX12_houseOf 18 = .ok (.bipush (-5), 2) := by decide +kernel
theorem dX12_houseOf_20 : decode cX12_houseOf 20 = .ok (.invokevirtual 98, 3) := by decide +kernel
theorem dX12_houseOf_23 : decode cX12_houseOf 23 = .ok (.ireturn, 1) := by decide +kernel
theorem dX12_houseOf_24 : decode cX12_houseOf 24 = .ok (.iload_n 2, 1) := by decide +kernel
theorem dX12_houseOf_25 : decode cX12_houseOf 25 = .ok (.tableswitch 58 0 3 #[31, 38, 45, 52], 31) := by decide +kernel
theorem dX12_houseOf_56 : decode cX12_houseOf 56 = .ok (.aload_n 0, 1) := by decide +kernel
theorem dX12_houseOf_57 : decode cX12_houseOf 57 = .ok (.getfield 20, 3) := by decide +kernel
theorem dX12_houseOf_60 : decode cX12_houseOf 60 = .ok (.iload_n 1, 1) := by decide +kernel
theorem dX12_houseOf_61 : decode cX12_houseOf 61 = .ok (.iaload, 1) := by decide +kernel
theorem dX12_houseOf_62 : decode cX12_houseOf 62 = .ok (.ireturn, 1) := by decide +kernel
theorem dX12_houseOf_63 : decode cX12_houseOf 63 = .ok (.aload_n 0, 1) := by decide +kernel
theorem dX12_houseOf_64 : decode cX12_houseOf 64 = .ok (.getfield 23, 3) := by decide +kernel
theorem dX12_houseOf_67 : decode cX12_houseOf 67 = .ok (.iload_n 1, 1) := by decide +kernel
theorem dX12_houseOf_68 : decode cX12_houseOf 68 = .ok (.iaload, 1) := by decide +kernel
theorem dX12_houseOf_69 : decode cX12_houseOf 69 = .ok (.ireturn, 1) := by decide +kernel
theorem dX12_houseOf_70 : decode cX12_houseOf 70 = .ok (.aload_n 0, 1) := by decide +kernel
theorem dX12_houseOf_71 : decode cX12_houseOf 71 = .ok (.getfield 26, 3) := by decide +kernel
theorem dX12_houseOf_74 : decode cX12_houseOf 74 = .ok (.iload_n 1, 1) := by decide +kernel
theorem dX12_houseOf_75 : decode cX12_houseOf 75 = .ok (.iaload, 1) := by decide +kernel
theorem dX12_houseOf_76 : decode cX12_houseOf 76 = .ok (.ireturn, 1) := by decide +kernel
theorem dX12_houseOf_77 : decode cX12_houseOf 77 = .ok (.aload_n 0, 1) := by decide +kernel
theorem dX12_houseOf_78 : decode cX12_houseOf 78 = .ok (.iload_n 1, 1) := by decide +kernel
theorem dX12_houseOf_79 : decode cX12_houseOf 79 = .ok (.invokevirtual 115, 3) := by decide +kernel
theorem dX12_houseOf_82 : decode cX12_houseOf 82 = .ok (.ireturn, 1) := by decide +kernel
theorem dX12_houseOf_83 : decode cX12_houseOf 83 = .ok (.aload_n 0, 1) := by decide +kernel
theorem dX12_houseOf_84 : decode cX12_houseOf 84 = .ok (.iload_n 1, 1) := by decide +kernel
theorem dX12_houseOf_85 : decode cX12_houseOf 85 = .ok (.invokevirtual 136, 3) := by decide +kernel
theorem dX12_houseOf_88 : decode cX12_houseOf 88 = .ok (.ireturn, 1) := by decide +kernel
theorem dX12_colour_0 : decode cX12_colour 0 = .ok (.iload_n 1, 1) := by decide +kernel
theorem dX12_colour_1 : decode cX12_colour 1 = .ok (.iconst 0, 1) := by decide +kernel
theorem dX12_colour_2 : decode cX12_colour 2 = .ok (.iconst 5, 1) := by decide +kernel
theorem dX12_colour_3 : decode cX12_colour 3 = .ok (.invokestatic 90, 3) := by decide +kernel
theorem dX12_colour_6 : decode cX12_colour 6 = .ok (.ifCond .ne 9, 3) := by decide +kernel
theorem dX12_colour_9 : decode cX12_colour 9 = .ok (.aload_n 0, 1) := by decide +kernel
theorem dX12_colour_10 : decode cX12_colour 10 = .ok (.iconst (-1), 1) := by decide +kernel
theorem dX12_colour_11 : decode cX12_colour 11 = .ok (.invokevirtual 98, 3) := by decide +kernel
theorem dX12_colour_14 : decode cX12_colour 14 = .ok (.ireturn, 1) := by decide +kernel
theorem dX12_colour_15 : decode cX12_colour 15 = .ok (.iload_n 2, 1) := by decide +kernel
theorem dX12_colour_16 : decode cX12_colour 16 = .ok (.iconst 0, 1) := by decide +kernel
theorem dX12_colour_17 : decode cX12_colour 17 = .ok (.iconst 1, 1) := by decide +kernel
theorem dX12_colour_18 : decode cX12_colour 18 = .ok (.invokestatic 90, 3) := by decide +kernel
theorem dX12_colour_21 : decode cX12_colour 21 = .ok (.ifCond .ne 10, 3) := by decide +kernel
theorem dX12_colour_24 : decode cX12_colour 24 = .ok (.aload_n 0, 1) := by decide +kernel
theorem dX12_colour_25 : decode cX12_colour 25 = .ok (.bipush (-5), 2) := by decide +kernel
theorem dX12_colour_27 : decode cX12_colour 27 = .ok (.invokevirtual 98, 3) := by decide +kernel
theorem dX12_colour_30 : decode cX12_colour 30 = .ok (.ireturn, 1) := by decide +kernel
theorem dX12_colour_31 : decode cX12_colour 31 = .ok (.iload_n 3, 1) := by decide +kernel
theorem dX12_colour_32 : decode cX12_colour 32 = .ok (.iconst 0, 1) := by decide +kernel
theorem dX12_colour_33 : decode cX12_colour 33 = .ok (.iload_n 2, 1) := by decide +kernel
theorem dX12_colour_34 : decode cX12_colour 34 = .ok (.ifCond .ne 8, 3) := by decide +kernel
theorem dX12_colour_37 : decode cX12_colour 37 = .ok (.bipush 9, 2) := by decide +kernel
theorem dX12_colour_39 : decode cX12_colour 39 = .ok (.goto 5, 3) := by decide +kernel
theorem dX12_colour_42 : decode cX12_colour 42 = .ok (.bipush 99, 2) := by decide +kernel
theorem dX12_colour_44 : decode cX12_colour 44 = .ok (.invokestatic 90, 3) := by decide +kernel
theorem dX12_colour_47 : decode cX12_colour 47 = .ok (.ifCond .ne 10, 3) := by decide +kernel
theorem dX12_colour_50 : decode cX12_colour 50 = .ok (.aload_n 0, 1) := by decide +kernel
theorem dX12_colour_51 : decode cX12_colour 51 = .ok (.bipush (-6), 2) := by decide +kernel
theorem dX12_colour_53 : decode cX12_colour 53 = .ok (.invokevirtual 98, 3) := by decide +kernel
theorem dX12_colour_56 : decode cX12_colour 56 = .ok (.ireturn, 1) := by decide +kernel
theorem dX12_colour_57 : decode cX12_colour 57 = .ok (.iload_n 2, 1) := by decide +kernel
theorem dX12_colour_58 : decode cX12_colour 58 = .ok (.ifCond .ne 12, 3) := by decide +kernel
theorem dX12_colour_61 : decode cX12_colour 61 = .ok (.aload_n 0, 1) := by decide +kernel
theorem dX12_colour_62 : decode cX12_colour 62 = .ok (.getfield 47, 3) := by decide +kernel
theorem dX12_colour_65 : decode cX12_colour 65 = .ok (.iload_n 1, 1) := by decide +kernel
theorem dX12_colour_66 : decode cX12_colour 66 = .ok (.iaload, 1) := by decide +kernel
theorem dX12_colour_67 : decode cX12_colour 67 = .ok (.goto 9, 3) := by decide +kernel
theorem dX12_colour_70 : decode cX12_colour 70 = .ok (.aload_n 0, 1) := by decide +kernel
theorem dX12_colour_71 : decode cX12_colour 71 = .ok (.getfield 50, 3) := by decide +kernel
theorem dX12_colour_74 : decode cX12_colour 74 = .ok (.iload_n 1, 1) := by decide +kernel
theorem dX12_colour_75 : decode cX12_colour 75 = .ok (.iaload, 1) := by decide +kernel
theorem dX12_colour_76 : decode cX12_colour 76 = .ok (.istore 4, 2) := by decide +kernel
theorem dX12_colour_78 : decode cX12_colour 78 = .ok (.iload_n 2, 1) := by decide +kernel
theorem dX12_colour_79 : decode cX12_colour 79 = .ok (.ifCond .ne 13, 3) := by decide +kernel
theorem dX12_colour_82 : decode cX12_colour 82 = .ok (.aload_n 0, 1) := by decide +kernel
theorem dX12_colour_83 : decode cX12_colour 83 = .ok (.getfield 47, 3) := by decide +kernel
theorem dX12_colour_86 : decode cX12_colour 86 = .ok (.iload_n 1, 1) := by decide +kernel
theorem dX12_colour_87 : decode cX12_colour 87 = .ok (.iload_n 3, 1) := by decide +kernel
theorem dX12_colour_88 : decode cX12_colour 88 = .ok (.iastore, 1) := by decide +kernel
theorem dX12_colour_89 : decode cX12_colour 89 = .ok (.goto 10, 3) := by decide +kernel
theorem dX12_colour_92 : decode cX12_colour 92 = .ok (.aload_n 0, 1) := by decide +kernel
theorem dX12_colour_93 : decode cX12_colour 93 = .ok (.getfield 50, 3) := by decide +kernel
theorem dX12_colour_96 : decode cX12_colour 96 = .ok (.iload_n 1, 1) := by decide +kernel
theorem dX12_colour_97 : decode cX12_colour 97 = .ok (.iload_n 3, 1) := by decide +kernel
theorem dX12_colour_98 : decode cX12_colour 98 = .ok (.iastore, 1) := by decide +kernel
theorem dX12_colour_99 : decode cX12_colour 99 = .ok (.iload 4, 2) := by decide +kernel
theorem dX12_colour_101 : decode cX12_colour 101 = .ok (.ireturn, 1) := by decide +kernel
theorem dX12_ask_0 : decode cX12_ask 0 = .ok (.iload_n 1, 1) := by decide +kernel
theorem dX12_ask_1 : decode cX12_ask 1 = .ok (.iconst 0, 1) := by decide +kernel
theorem dX12_ask_2 : decode cX12_ask 2 = .ok (.iconst 1, 1) := by decide +kernel
theorem dX12_ask_3 : decode cX12_ask 3 = .ok (.invokestatic 90, 3) := by decide +kernel
theorem dX12_ask_6 : decode cX12_ask 6 = .ok (.ifCond .eq 32, 3) := by decide +kernel
theorem dX12_ask_9 : decode cX12_ask 9 = .ok (.iload_n 2, 1) := by decide +kernel
theorem dX12_ask_10 : decode cX12_ask 10 = .ok (.iload_n 1, 1) := by decide +kernel
theorem dX12_ask_11 : decode cX12_ask 11 = .ok (.ifCond .ne 7, 3) := by decide +kernel
theorem dX12_ask_14 : decode cX12_ask 14 = .ok (.iconst 1, 1) := by decide +kernel
theorem dX12_ask_15 : decode cX12_ask 15 = .ok (.goto 5, 3) := by decide +kernel
theorem dX12_ask_18 : decode cX12_ask 18 = .ok (.bipush 10, 2) := by decide +kernel
theorem dX12_ask_20 : decode cX12_ask 20 = .ok (.iload_n 1, 1) := by decide +kernel
theorem dX12_ask_21 : decode cX12_ask 21 = .ok (.ifCond .ne 9, 3) := by decide +kernel
theorem dX12_ask_24 : decode cX12_ask 24 = .ok (.sipush 999, 3) := by decide +kernel
theorem dX12_ask_27 : decode cX12_ask 27 = .ok (.goto 5, 3) := by decide +kernel
theorem dX12_ask_30 : decode cX12_ask 30 = .ok (.bipush 99, 2) := by decide +kernel
theorem dX12_ask_32 : decode cX12_ask 32 = .ok (.invokestatic 90, 3) := by decide +kernel
theorem dX12_ask_35 : decode cX12_ask 35 = .ok (.ifCond .ne 10, 3) := by decide +kernel
theorem dX12_ask_38 : decode cX12_ask 38 = .ok (.aload_n 0, 1) := by decide +kernel
theorem dX12_ask_39 : decode cX12_ask 39 = .ok (.bipush (-6), 2) := by decide +kernel
theorem dX12_ask_41 : decode cX12_ask 41 = .ok (.invokevirtual 98, 3) := by decide +kernel
theorem dX12_ask_44 : decode cX12_ask 44 = .ok (.ireturn, 1) := by decide +kernel
theorem dX12_ask_45 : decode cX12_ask 45 = .ok (.iload_n 1, 1) := by decide +kernel
theorem dX12_ask_46 : decode cX12_ask 46 = .ok (.ifCond .ne 10, 3) := by decide +kernel
theorem dX12_ask_49 : decode cX12_ask 49 = .ok (.aload_n 0, 1) := by decide +kernel
theorem dX12_ask_50 : decode cX12_ask 50 = .ok (.getfield 74, 3) := by decide +kernel
theorem dX12_ask_53 : decode cX12_ask 53 = .ok (.goto 7, 3) := by decide +kernel
theorem dX12_ask_56 : decode cX12_ask 56 = .ok (.aload_n 0, 1) := by decide +kernel
theorem dX12_ask_57 : decode cX12_ask 57 = .ok (.getfield 78, 3) := by decide +kernel
theorem dX12_ask_60 : decode cX12_ask 60 = .ok (.istore_n 3, 1) := by decide +kernel
theorem dX12_ask_61 : decode cX12_ask 61 = .ok (.iload_n 1, 1) := by decide +kernel
theorem dX12_ask_62 : decode cX12_ask 62 = .ok (.ifCond .ne 11, 3) := by decide +kernel
theorem dX12_ask_65 : decode cX12_ask 65 = .ok (.aload_n 0, 1) := by decide +kernel
theorem dX12_ask_66 : decode cX12_ask 66 = .ok (.iload_n 2, 1) := by decide +kernel
theorem dX12_ask_67 : decode cX12_ask 67 = .ok (.putfield 74, 3) := by decide +kernel
theorem dX12_ask_70 : decode cX12_ask 70 = .ok (.goto 8, 3) := by decide +kernel
theorem dX12_ask_73 : decode cX12_ask 73 = .ok (.aload_n 0, 1) := by decide +kernel
theorem dX12_ask_74 : decode cX12_ask 74 = .ok (.iload_n 2, 1) := by decide +kernel
theorem dX12_ask_75 : decode cX12_ask 75 = .ok (.putfield 78, 3) := by decide +kernel
theorem dX12_ask_78 : decode cX12_ask 78 = .ok (.iload_n 3, 1) := by decide +kernel
theorem dX12_ask_79 : decode cX12_ask 79 = .ok (.ireturn, 1) := by decide +kernel
theorem dX12_paints_0 : decode cX12_paints 0 = .ok (.bipush 8, 2) := by decide +kernel
theorem dX12_paints_2 : decode cX12_paints 2 = .ok (.iload_n 1, 1) := by decide +kernel
theorem dX12_paints_3 : decode cX12_paints 3 = .ok (.imul, 1) := by decide +kernel
theorem dX12_paints_4 : decode cX12_paints 4 = .ok (.aload_n 0, 1) := by decide +kernel
theorem dX12_paints_5 : decode cX12_paints 5 = .ok (.getfield 26, 3) := by decide +kernel
theorem dX12_paints_8 : decode cX12_paints 8 = .ok (.iload_n 1, 1) := by decide +kernel
theorem dX12_paints_9 : decode cX12_paints 9 = .ok (.iaload, 1) := by decide +kernel
theorem dX12_paints_10 : decode cX12_paints 10 = .ok (.iadd, 1) := by decide +kernel
theorem dX12_paints_11 : decode cX12_paints 11 = .ok (.istore 6, 2) := by decide +kernel
theorem dX12_paints_13 : decode cX12_paints 13 = .ok (.aload_n 0, 1) := by decide +kernel
theorem dX12_paints_14 : decode cX12_paints 14 = .ok (.getfield 29, 3) := by decide +kernel
theorem dX12_paints_17 : decode cX12_paints 17 = .ok (.iload 6, 2) := by decide +kernel
theorem dX12_paints_19 : decode cX12_paints 19 = .ok (.iload_n 2, 1) := by decide +kernel
theorem dX12_paints_20 : decode cX12_paints 20 = .ok (.iastore, 1) := by decide +kernel
theorem dX12_paints_21 : decode cX12_paints 21 = .ok (.aload_n 0, 1) := by decide +kernel
theorem dX12_paints_22 : decode cX12_paints 22 = .ok (.getfield 32, 3) := by decide +kernel
theorem dX12_paints_25 : decode cX12_paints 25 = .ok (.iload 6, 2) := by decide +kernel
theorem dX12_paints_27 : decode cX12_paints 27 = .ok (.iload_n 3, 1) := by decide +kernel
theorem dX12_paints_28 : decode cX12_paints 28 = .ok (.iastore, 1) := by decide +kernel
theorem dX12_paints_29 : decode cX12_paints 29 = .ok (.aload_n 0, 1) := by decide +kernel
theorem dX12_paints_30 : decode cX12_paints 30 = .ok (.getfield 35, 3) := by decide +kernel
theorem dX12_paints_33 : decode cX12_paints 33 = .ok (.iload 6, 2) := by decide +kernel
theorem dX12_paints_35 : decode cX12_paints 35 = .ok (.iload 4, 2) := by decide +kernel
theorem dX12_paints_37 : decode cX12_paints 37 = .ok (.iastore, 1) := by decide +kernel
theorem dX12_paints_38 : decode cX12_paints 38 = .ok (.aload_n 0, 1) := by decide +kernel
theorem dX12_paints_39 : decode cX12_paints 39 = .ok (.getfield 38, 3) := by decide +kernel
theorem dX12_paints_42 : decode cX12_paints 42 = .ok (.iload 6, 2) := by decide +kernel
theorem dX12_paints_44 : decode cX12_paints 44 = .ok (.iload 5, 2) := by decide +kernel
theorem dX12_paints_46 : decode cX12_paints 46 = .ok (.iastore, 1) := by decide +kernel
theorem dX12_paints_47 : decode cX12_paints 47 = .ok (.aload_n 0, 1) := by decide +kernel
theorem dX12_paints_48 : decode cX12_paints 48 = .ok (.getfield 41, 3) := by decide +kernel
theorem dX12_paints_51 : decode cX12_paints 51 = .ok (.iload 6, 2) := by decide +kernel
theorem dX12_paints_53 : decode cX12_paints 53 = .ok (.aload_n 0, 1) := by decide +kernel
theorem dX12_paints_54 : decode cX12_paints 54 = .ok (.getfield 139, 3) := by decide +kernel
theorem dX12_paints_57 : decode cX12_paints 57 = .ok (.iastore, 1) := by decide +kernel
theorem dX12_paints_58 : decode cX12_paints 58 = .ok (.aload_n 0, 1) := by decide +kernel
theorem dX12_paints_59 : decode cX12_paints 59 = .ok (.getfield 26, 3) := by decide +kernel
theorem dX12_paints_62 : decode cX12_paints 62 = .ok (.iload_n 1, 1) := by decide +kernel
theorem dX12_paints_63 : decode cX12_paints 63 = .ok (.dup2, 1) := by decide +kernel
theorem dX12_paints_64 : decode cX12_paints 64 = .ok (.iaload, 1) := by decide +kernel
theorem dX12_paints_65 : decode cX12_paints 65 = .ok (.dup_x2, 1) := by decide +kernel
theorem dX12_paints_66 : decode cX12_paints 66 = .ok (.iconst 1, 1) := by decide +kernel
theorem dX12_paints_67 : decode cX12_paints 67 = .ok (.iadd, 1) := by decide +kernel
theorem dX12_paints_68 : decode cX12_paints 68 = .ok (.iastore, 1) := by decide +kernel
theorem dX12_paints_69 : decode cX12_paints 69 = .ok (.ireturn, 1) := by decide +kernel
theorem dX12_coat_0 : decode cX12_coat 0 = .ok (.aload_n 0, 1) := by decide +kernel
theorem dX12_coat_1 : decode cX12_coat 1 = .ok (.iload_n 1, 1) := by decide +kernel
theorem dX12_coat_2 : decode cX12_coat 2 = .ok (.invokevirtual 94, 3) := by decide +kernel
theorem dX12_coat_5 : decode cX12_coat 5 = .ok (.ifCond .eq 22, 3) := by decide +kernel
theorem dX12_coat_8 : decode cX12_coat 8 = .ok (.iload_n 2, 1) := by decide +kernel
theorem dX12_coat_9 : decode cX12_coat 9 = .ok (.iconst 0, 1) := by decide +kernel
theorem dX12_coat_10 : decode cX12_coat 10 = .ok (.bipush 7, 2) := by decide +kernel
theorem dX12_coat_12 : decode cX12_coat 12 = .ok (.invokestatic 90, 3) := by decide +kernel
theorem dX12_coat_15 : decode cX12_coat 15 = .ok (.ifCond .eq 12, 3) := by decide +kernel
theorem dX12_coat_18 : decode cX12_coat 18 = .ok (.iload_n 3, 1) := by decide +kernel
theorem dX12_coat_19 : decode cX12_coat 19 = .ok (.iconst 0, 1) := by decide +kernel
theorem dX12_coat_20 : decode cX12_coat 20 = .ok (.iconst 5, 1) := by decide +kernel
theorem dX12_coat_21 : decode cX12_coat 21 = .ok (.invokestatic 90, 3) := by decide +kernel
theorem dX12_coat_24 : decode cX12_coat 24 = .ok (.ifCond .ne 9, 3) := by decide +kernel
theorem dX12_coat_27 : decode cX12_coat 27 = .ok (.aload_n 0, 1) := by decide +kernel
theorem dX12_coat_28 : decode cX12_coat 28 = .ok (.iconst (-1), 1) := by decide +kernel
theorem dX12_coat_29 : decode cX12_coat 29 = .ok (.invokevirtual 98, 3) := by decide +kernel
theorem dX12_coat_32 : decode cX12_coat 32 = .ok (.ireturn, 1) := by decide +kernel
theorem dX12_coat_33 : decode cX12_coat 33 = .ok (.iload 4, 2) := by decide +kernel
theorem dX12_coat_35 : decode cX12_coat 35 = .ok (.iconst 1, 1) := by decide +kernel
theorem dX12_coat_36 : decode cX12_coat 36 = .ok (.bipush 9, 2) := by decide +kernel
theorem dX12_coat_38 : decode cX12_coat 38 = .ok (.invokestatic 90, 3) := by decide +kernel
theorem dX12_coat_41 : decode cX12_coat 41 = .ok (.ifCond .eq 11, 3) := by decide +kernel
theorem dX12_coat_44 : decode cX12_coat 44 = .ok (.iload 5, 2) := by decide +kernel
theorem dX12_coat_46 : decode cX12_coat 46 = .ok (.invokestatic 142, 3) := by decide +kernel
theorem dX12_coat_49 : decode cX12_coat 49 = .ok (.ifCond .ne 10, 3) := by decide +kernel
theorem dX12_coat_52 : decode cX12_coat 52 = .ok (.aload_n 0, 1) := by decide +kernel
theorem dX12_coat_53 : decode cX12_coat 53 = .ok (.bipush (-6), 2) := by decide +kernel
theorem dX12_coat_55 : decode cX12_coat 55 = .ok (.invokevirtual 98, 3) := by decide +kernel
theorem dX12_coat_58 : decode cX12_coat 58 = .ok (.ireturn, 1) := by decide +kernel
theorem dX12_coat_59 : decode cX12_coat 59 = .ok (.aload_n 0, 1) := by decide +kernel
theorem dX12_coat_60 : decode cX12_coat 60 = .ok (.getfield 26, 3) := by decide +kernel
theorem dX12_coat_63 : decode cX12_coat 63 = .ok (.iload_n 1, 1) := by decide +kernel
theorem dX12_coat_64 : decode cX12_coat 64 = .ok (.iaload, 1) := by decide +kernel
theorem dX12_coat_65 : decode cX12_coat 65 = .ok (.bipush 8, 2) := by decide +kernel
theorem dX12_coat_67 : decode cX12_coat 67 = .ok (.if_icmp .ne 12, 3) := by decide +kernel
theorem dX12_coat_70 : decode cX12_coat 70 = .ok (.aload_n 0, 1) := by decide +kernel
theorem dX12_coat_71 : decode cX12_coat 71 = .ok (.bipush (-7), 2) := by decide +kernel
theorem dX12_coat_73 : decode cX12_coat 73 = .ok (.invokevirtual 98, 3) := by decide +kernel
theorem dX12_coat_76 : decode cX12_coat 76 = .ok (.goto 14, 3) := by decide +kernel
theorem dX12_coat_79 : decode cX12_coat 79 = .ok (.aload_n 0, 1) := by decide +kernel
theorem dX12_coat_80 : decode cX12_coat 80 = .ok (.iload_n 1, 1) := by decide +kernel
theorem dX12_coat_81 : decode cX12_coat 81 = .ok (.iload_n 2, 1) := by decide +kernel
theorem dX12_coat_82 : decode cX12_coat 82 = .ok (.iload_n 3, 1) := by decide +kernel
theorem dX12_coat_83 : decode cX12_coat 83 = .ok (.iload 4, 2) := by decide +kernel
theorem dX12_coat_85 : decode cX12_coat 85 = .ok (.iload 5, 2) := by decide +kernel
theorem dX12_coat_87 : decode cX12_coat 87 = .ok (.invokevirtual 145, 3) := by decide +kernel
theorem dX12_coat_90 : decode cX12_coat 90 = .ok (.ireturn, 1) := by decide +kernel
theorem dX12_coatOf_0 : decode cX12_coatOf 0 = .ok (.aload_n 0, 1) := by decide +kernel
theorem dX12_coatOf_1 : decode cX12_coatOf 1 = .ok (.iload_n 1, 1) := by decide +kernel
theorem dX12_coatOf_2 : decode cX12_coatOf 2 = .ok (.iload_n 2, 1) := by decide +kernel
theorem dX12_coatOf_3 : decode cX12_coatOf 3 = .ok (.invokevirtual 149, 3) := by decide +kernel
theorem dX12_coatOf_6 : decode cX12_coatOf 6 = .ok (.ifCond .eq 13, 3) := by decide +kernel
theorem dX12_coatOf_9 : decode cX12_coatOf 9 = .ok (.iload_n 3, 1) := by decide +kernel
theorem dX12_coatOf_10 : decode cX12_coatOf 10 = .ok (.iconst 0, 1) := by decide +kernel
theorem dX12_coatOf_11 : decode cX12_coatOf 11 = .ok (.bipush 6, 2) := by decide +kernel
theorem dX12_coatOf_13 : decode cX12_coatOf 13 = .ok (.invokestatic 90, 3) := by decide +kernel
theorem dX12_coatOf_16 : decode cX12_coatOf 16 = .ok (.ifCond .ne 10, 3) := by decide +kernel
theorem dX12_coatOf_19 : decode cX12_coatOf 19 = .ok (.aload_n 0, 1) := by decide +kernel
theorem dX12_coatOf_20 : decode cX12_coatOf 20 = .ok (.bipush (-5), 2) := by decide +kernel
theorem dX12_coatOf_22 : decode cX12_coatOf 22 = .ok (.invokevirtual 98, 3) := by decide +kernel
theorem dX12_coatOf_25 : decode cX12_coatOf 25 = .ok (.ireturn, 1) := by decide +kernel
theorem dX12_coatOf_26 : decode cX12_coatOf 26 = .ok (.bipush 8, 2) := by decide +kernel
theorem dX12_coatOf_28 : decode cX12_coatOf 28 = .ok (.iload_n 1, 1) := by decide +kernel
theorem dX12_coatOf_29 : decode cX12_coatOf 29 = .ok (.imul, 1) := by decide +kernel
theorem dX12_coatOf_30 : decode cX12_coatOf 30 = .ok (.iload_n 2, 1) := by decide +kernel
theorem dX12_coatOf_31 : decode cX12_coatOf 31 = .ok (.iadd, 1) := by decide +kernel
theorem dX12_coatOf_32 : decode cX12_coatOf 32 = .ok (.istore 4, 2) := by decide +kernel
theorem dX12_coatOf_34 : decode cX12_coatOf 34 = .ok (.iload_n 3, 1) := by decide +kernel
theorem dX12_coatOf_35 : decode cX12_coatOf 35 = .ok (.tableswitch 84 0 5 #[37, 45, 53, 61, 69, 77], 37) := by decide +kernel
theorem dX12_coatOf_72 : decode cX12_coatOf 72 = .ok (.aload_n 0, 1) := by decide +kernel
theorem dX12_coatOf_73 : decode cX12_coatOf 73 = .ok (.getfield 29, 3) := by decide +kernel
theorem dX12_coatOf_76 : decode cX12_coatOf 76 = .ok (.iload 4, 2) := by decide +kernel
theorem dX12_coatOf_78 : decode cX12_coatOf 78 = .ok (.iaload, 1) := by decide +kernel
theorem dX12_coatOf_79 : decode cX12_coatOf 79 = .ok (.ireturn, 1) := by decide +kernel
theorem dX12_coatOf_80 : decode cX12_coatOf 80 = .ok (.aload_n 0, 1) := by decide +kernel
theorem dX12_coatOf_81 : decode cX12_coatOf 81 = .ok (.getfield 32, 3) := by decide +kernel
theorem dX12_coatOf_84 : decode cX12_coatOf 84 = .ok (.iload 4, 2) := by decide +kernel
theorem dX12_coatOf_86 : decode cX12_coatOf 86 = .ok (.iaload, 1) := by decide +kernel
theorem dX12_coatOf_87 : decode cX12_coatOf 87 = .ok (.ireturn, 1) := by decide +kernel
theorem dX12_coatOf_88 : decode cX12_coatOf 88 = .ok (.aload_n 0, 1) := by decide +kernel
theorem dX12_coatOf_89 : decode cX12_coatOf 89 = .ok (.getfield 35, 3) := by decide +kernel
theorem dX12_coatOf_92 : decode cX12_coatOf 92 = .ok (.iload 4, 2) := by decide +kernel
theorem dX12_coatOf_94 : decode cX12_coatOf 94 = .ok (.iaload, 1) := by decide +kernel
theorem dX12_coatOf_95 : decode cX12_coatOf 95 = .ok (.ireturn, 1) := by decide +kernel
theorem dX12_coatOf_96 : decode cX12_coatOf 96 = .ok (.aload_n 0, 1) := by decide +kernel
theorem dX12_coatOf_97 : decode cX12_coatOf 97 = .ok (.getfield 38, 3) := by decide +kernel
theorem dX12_coatOf_100 : decode cX12_coatOf 100 = .ok (.iload 4, 2) := by decide +kernel
theorem dX12_coatOf_102 : decode cX12_coatOf 102 = .ok (.iaload, 1) := by decide +kernel
theorem dX12_coatOf_103 : decode cX12_coatOf 103 = .ok (.ireturn, 1) := by decide +kernel
theorem dX12_coatOf_104 : decode cX12_coatOf 104 = .ok (.aload_n 0, 1) := by decide +kernel
theorem dX12_coatOf_105 : decode cX12_coatOf 105 = .ok (.getfield 41, 3) := by decide +kernel
theorem dX12_coatOf_108 : decode cX12_coatOf 108 = .ok (.iload 4, 2) := by decide +kernel
theorem dX12_coatOf_110 : decode cX12_coatOf 110 = .ok (.iaload, 1) := by decide +kernel
theorem dX12_coatOf_111 : decode cX12_coatOf 111 = .ok (.ireturn, 1) := by decide +kernel
theorem dX12_coatOf_112 : decode cX12_coatOf 112 = .ok (.aload_n 0, 1) := by decide +kernel
theorem dX12_coatOf_113 : decode cX12_coatOf 113 = .ok (.iload_n 1, 1) := by decide +kernel
theorem dX12_coatOf_114 : decode cX12_coatOf 114 = .ok (.iload_n 2, 1) := by decide +kernel
theorem dX12_coatOf_115 : decode cX12_coatOf 115 = .ok (.invokevirtual 125, 3) := by decide +kernel
theorem dX12_coatOf_118 : decode cX12_coatOf 118 = .ok (.ireturn, 1) := by decide +kernel
theorem dX12_coatOf_119 : decode cX12_coatOf 119 = .ok (.iconst 0, 1) := by decide +kernel
theorem dX12_coatOf_120 : decode cX12_coatOf 120 = .ok (.istore 5, 2) := by decide +kernel
theorem dX12_coatOf_122 : decode cX12_coatOf 122 = .ok (.iconst 0, 1) := by decide +kernel
theorem dX12_coatOf_123 : decode cX12_coatOf 123 = .ok (.istore 6, 2) := by decide +kernel
theorem dX12_coatOf_125 : decode cX12_coatOf 125 = .ok (.iload 6, 2) := by decide +kernel
theorem dX12_coatOf_127 : decode cX12_coatOf 127 = .ok (.bipush 12, 2) := by decide +kernel
theorem dX12_coatOf_129 : decode cX12_coatOf 129 = .ok (.if_icmp .ge 32, 3) := by decide +kernel
theorem dX12_coatOf_132 : decode cX12_coatOf 132 = .ok (.aload_n 0, 1) := by decide +kernel
theorem dX12_coatOf_133 : decode cX12_coatOf 133 = .ok (.iload_n 1, 1) := by decide +kernel
theorem dX12_coatOf_134 : decode cX12_coatOf 134 = .ok (.iload 6, 2) := by decide +kernel
theorem dX12_coatOf_136 : decode cX12_coatOf 136 = .ok (.invokevirtual 152, 3) := by decide +kernel
theorem dX12_coatOf_139 : decode cX12_coatOf 139 = .ok (.iload_n 2, 1) := by decide +kernel
theorem dX12_coatOf_140 : decode cX12_coatOf 140 = .ok (.invokestatic 155, 3) := by decide +kernel
theorem dX12_coatOf_143 : decode cX12_coatOf 143 = .ok (.ifCond .eq 12, 3) := by decide +kernel
theorem dX12_coatOf_146 : decode cX12_coatOf 146 = .ok (.iload 5, 2) := by decide +kernel
theorem dX12_coatOf_148 : decode cX12_coatOf 148 = .ok (.iconst 1, 1) := by decide +kernel
theorem dX12_coatOf_149 : decode cX12_coatOf 149 = .ok (.iload 6, 2) := by decide +kernel
theorem dX12_coatOf_151 : decode cX12_coatOf 151 = .ok (.ishl, 1) := by decide +kernel
theorem dX12_coatOf_152 : decode cX12_coatOf 152 = .ok (.ior, 1) := by decide +kernel
theorem dX12_coatOf_153 : decode cX12_coatOf 153 = .ok (.istore 5, 2) := by decide +kernel
theorem dX12_coatOf_155 : decode cX12_coatOf 155 = .ok (.iinc 6 1, 3) := by decide +kernel
theorem dX12_coatOf_158 : decode cX12_coatOf 158 = .ok (.goto (-33), 3) := by decide +kernel
theorem dX12_coatOf_161 : decode cX12_coatOf 161 = .ok (.iload 5, 2) := by decide +kernel
theorem dX12_coatOf_163 : decode cX12_coatOf 163 = .ok (.ireturn, 1) := by decide +kernel
theorem dX12_sign_0 : decode cX12_sign 0 = .ok (.aload_n 0, 1) := by decide +kernel
theorem dX12_sign_1 : decode cX12_sign 1 = .ok (.getfield 158, 3) := by decide +kernel
theorem dX12_sign_4 : decode cX12_sign 4 = .ok (.aload_n 0, 1) := by decide +kernel
theorem dX12_sign_5 : decode cX12_sign 5 = .ok (.getfield 13, 3) := by decide +kernel
theorem dX12_sign_8 : decode cX12_sign 8 = .ok (.aload_n 0, 1) := by decide +kernel
theorem dX12_sign_9 : decode cX12_sign 9 = .ok (.getfield 161, 3) := by decide +kernel
theorem dX12_sign_12 : decode cX12_sign 12 = .ok (.iaload, 1) := by decide +kernel
theorem dX12_sign_13 : decode cX12_sign 13 = .ok (.if_icmp .ge 25, 3) := by decide +kernel
theorem dX12_sign_16 : decode cX12_sign 16 = .ok (.aload_n 0, 1) := by decide +kernel
theorem dX12_sign_17 : decode cX12_sign 17 = .ok (.getfield 16, 3) := by decide +kernel
theorem dX12_sign_20 : decode cX12_sign 20 = .ok (.sipush 160, 3) := by decide +kernel
theorem dX12_sign_23 : decode cX12_sign 23 = .ok (.aload_n 0, 1) := by decide +kernel
theorem dX12_sign_24 : decode cX12_sign 24 = .ok (.getfield 161, 3) := by decide +kernel
theorem dX12_sign_27 : decode cX12_sign 27 = .ok (.imul, 1) := by decide +kernel
theorem dX12_sign_28 : decode cX12_sign 28 = .ok (.aload_n 0, 1) := by decide +kernel
theorem dX12_sign_29 : decode cX12_sign 29 = .ok (.getfield 158, 3) := by decide +kernel
theorem dX12_sign_32 : decode cX12_sign 32 = .ok (.iadd, 1) := by decide +kernel
theorem dX12_sign_33 : decode cX12_sign 33 = .ok (.laload, 1) := by decide +kernel
theorem dX12_sign_34 : decode cX12_sign 34 = .ok (.l2i, 1) := by decide +kernel
theorem dX12_sign_35 : decode cX12_sign 35 = .ok (.goto 4, 3) := by decide +kernel
theorem dX12_sign_38 : decode cX12_sign 38 = .ok (.iconst (-1), 1) := by decide +kernel
theorem dX12_sign_39 : decode cX12_sign 39 = .ok (.ireturn, 1) := by decide +kernel
theorem dX12_is_0 : decode cX12_is 0 = .ok (.aload_n 0, 1) := by decide +kernel
theorem dX12_is_1 : decode cX12_is 1 = .ok (.invokevirtual 164, 3) := by decide +kernel
theorem dX12_is_4 : decode cX12_is 4 = .ok (.iload_n 1, 1) := by decide +kernel
theorem dX12_is_5 : decode cX12_is 5 = .ok (.if_icmp .eq 5, 3) := by decide +kernel
theorem dX12_is_8 : decode cX12_is 8 = .ok (.iconst 0, 1) := by decide +kernel
theorem dX12_is_9 : decode cX12_is 9 = .ok (.ireturn, 1) := by decide +kernel
theorem dX12_is_10 : decode cX12_is 10 = .ok (.aload_n 0, 1) := by decide +kernel
theorem dX12_is_11 : decode cX12_is 11 = .ok (.dup, 1) := by decide +kernel
theorem dX12_is_12 : decode cX12_is 12 = .ok (.getfield 158, 3) := by decide +kernel
theorem dX12_is_15 : decode cX12_is 15 = .ok (.iconst 1, 1) := by decide +kernel
theorem dX12_is_16 : decode cX12_is 16 = .ok (.iadd, 1) := by decide +kernel
theorem dX12_is_17 : decode cX12_is 17 = .ok (.putfield 158, 3) := by decide +kernel
theorem dX12_is_20 : decode cX12_is 20 = .ok (.iconst 1, 1) := by decide +kernel
theorem dX12_is_21 : decode cX12_is 21 = .ok (.ireturn, 1) := by decide +kernel
theorem dX12_word_0 : decode cX12_word 0 = .ok (.iconst 0, 1) := by decide +kernel
theorem dX12_word_1 : decode cX12_word 1 = .ok (.istore_n 2, 1) := by decide +kernel
theorem dX12_word_2 : decode cX12_word 2 = .ok (.iload_n 2, 1) := by decide +kernel
theorem dX12_word_3 : decode cX12_word 3 = .ok (.aload_n 1, 1) := by decide +kernel
theorem dX12_word_4 : decode cX12_word 4 = .ok (.invokevirtual 168, 3) := by decide +kernel
theorem dX12_word_7 : decode cX12_word 7 = .ok (.if_icmp .ge 23, 3) := by decide +kernel
theorem dX12_word_10 : decode cX12_word 10 = .ok (.aload_n 0, 1) := by decide +kernel
theorem dX12_word_11 : decode cX12_word 11 = .ok (.aload_n 1, 1) := by decide +kernel
theorem dX12_word_12 : decode cX12_word 12 = .ok (.iload_n 2, 1) := by decide +kernel
theorem dX12_word_13 : decode cX12_word 13 = .ok (.invokevirtual 173, 3) := by decide +kernel
theorem dX12_word_16 : decode cX12_word 16 = .ok (.invokevirtual 177, 3) := by decide +kernel
theorem dX12_word_19 : decode cX12_word 19 = .ok (.ifCond .ne 5, 3) := by decide +kernel
theorem dX12_word_22 : decode cX12_word 22 = .ok (.iconst 0, 1) := by decide +kernel
theorem dX12_word_23 : decode cX12_word 23 = .ok (.ireturn, 1) := by decide +kernel
theorem dX12_word_24 : decode cX12_word 24 = .ok (.iinc 2 1, 3) := by decide +kernel
theorem dX12_word_27 : decode cX12_word 27 = .ok (.goto (-25), 3) := by decide +kernel
theorem dX12_word_30 : decode cX12_word 30 = .ok (.iconst 1, 1) := by decide +kernel
theorem dX12_word_31 : decode cX12_word 31 = .ok (.ireturn, 1) := by decide +kernel
theorem dX12_number_0 : decode cX12_number 0 = .ok (.aload_n 0, 1) := by decide +kernel
theorem dX12_number_1 : decode cX12_number 1 = .ok (.bipush 32, 2) := by decide +kernel
theorem dX12_number_3 : decode cX12_number 3 = .ok (.invokevirtual 177, 3) := by decide +kernel
theorem dX12_number_6 : decode cX12_number 6 = .ok (.ifCond .ne 5, 3) := by decide +kernel
theorem dX12_number_9 : decode cX12_number 9 = .ok (.iconst 0, 1) := by decide +kernel
theorem dX12_number_10 : decode cX12_number 10 = .ok (.ireturn, 1) := by decide +kernel
theorem dX12_number_11 : decode cX12_number 11 = .ok (.aload_n 0, 1) := by decide +kernel
theorem dX12_number_12 : decode cX12_number 12 = .ok (.getfield 158, 3) := by decide +kernel
theorem dX12_number_15 : decode cX12_number 15 = .ok (.istore 4, 2) := by decide +kernel
theorem dX12_number_17 : decode cX12_number 17 = .ok (.iconst 0, 1) := by decide +kernel
theorem dX12_number_18 : decode cX12_number 18 = .ok (.istore 5, 2) := by decide +kernel
theorem dX12_number_20 : decode cX12_number 20 = .ok (.aload_n 0, 1) := by decide +kernel
theorem dX12_number_21 : decode cX12_number 21 = .ok (.getfield 158, 3) := by decide +kernel
theorem dX12_number_24 : decode cX12_number 24 = .ok (.iload 4, 2) := by decide +kernel
theorem dX12_number_26 : decode cX12_number 26 = .ok (.isub, 1) := by decide +kernel
theorem dX12_number_27 : decode cX12_number 27 = .ok (.iconst 2, 1) := by decide +kernel
theorem dX12_number_28 : decode cX12_number 28 = .ok (.if_icmp .ge 49, 3) := by decide +kernel
theorem dX12_number_31 : decode cX12_number 31 = .ok (.aload_n 0, 1) := by decide +kernel
theorem dX12_number_32 : decode cX12_number 32 = .ok (.invokevirtual 164, 3) := by decide +kernel
theorem dX12_number_35 : decode cX12_number 35 = .ok (.bipush 48, 2) := by decide +kernel
theorem dX12_number_37 : decode cX12_number 37 = .ok (.if_icmp .lt 40, 3) := by decide +kernel
theorem dX12_number_40 : decode cX12_number 40 = .ok (.aload_n 0, 1) := by decide +kernel
theorem dX12_number_41 : decode cX12_number 41 = .ok (.invokevirtual 164, 3) := by decide +kernel
theorem dX12_number_44 : decode cX12_number 44 = .ok (.bipush 57, 2) := by decide +kernel
theorem dX12_number_46 : decode cX12_number 46 = .ok (.if_icmp .gt 31, 3) := by decide +kernel
theorem dX12_number_49 : decode cX12_number 49 = .ok (.bipush 10, 2) := by decide +kernel
theorem dX12_number_51 : decode cX12_number 51 = .ok (.iload 5, 2) := by decide +kernel
theorem dX12_number_53 : decode cX12_number 53 = .ok (.imul, 1) := by decide +kernel
theorem dX12_number_54 : decode cX12_number 54 = .ok (.aload_n 0, 1) := by decide +kernel
theorem dX12_number_55 : decode cX12_number 55 = .ok (.invokevirtual 164, 3) := by decide +kernel
theorem dX12_number_58 : decode cX12_number 58 = .ok (.iadd, 1) := by decide +kernel
theorem dX12_number_59 : decode cX12_number 59 = .ok (.bipush 48, 2) := by decide +kernel
theorem dX12_number_61 : decode cX12_number 61 = .ok (.isub, 1) := by decide +kernel
theorem dX12_number_62 : decode cX12_number 62 = .ok (.istore 5, 2) := by decide +kernel
theorem dX12_number_64 : decode cX12_number 64 = .ok (.aload_n 0, 1) := by decide +kernel
theorem dX12_number_65 : decode cX12_number 65 = .ok (.dup, 1) := by decide +kernel
theorem dX12_number_66 : decode cX12_number 66 = .ok (.getfield 158, 3) := by decide +kernel
theorem dX12_number_69 : decode cX12_number 69 = .ok (.iconst 1, 1) := by decide +kernel
theorem dX12_number_70 : decode cX12_number 70 = .ok (.iadd, 1) := by decide +kernel
theorem dX12_number_71 : decode cX12_number 71 = .ok (.putfield 158, 3) := by decide +kernel
theorem dX12_number_74 : decode cX12_number 74 = .ok (.goto (-54), 3) := by decide +kernel
theorem dX12_number_77 : decode cX12_number 77 = .ok (.aload_n 0, 1) := by decide +kernel
theorem dX12_number_78 : decode cX12_number 78 = .ok (.getfield 158, 3) := by decide +kernel
theorem dX12_number_81 : decode cX12_number 81 = .ok (.iload 4, 2) := by decide +kernel
theorem dX12_number_83 : decode cX12_number 83 = .ok (.if_icmp .ne 5, 3) := by decide +kernel
theorem dX12_number_86 : decode cX12_number 86 = .ok (.iconst 0, 1) := by decide +kernel
theorem dX12_number_87 : decode cX12_number 87 = .ok (.ireturn, 1) := by decide +kernel
theorem dX12_number_88 : decode cX12_number 88 = .ok (.aload_n 0, 1) := by decide +kernel
theorem dX12_number_89 : decode cX12_number 89 = .ok (.getfield 65, 3) := by decide +kernel
theorem dX12_number_92 : decode cX12_number 92 = .ok (.iload_n 1, 1) := by decide +kernel
theorem dX12_number_93 : decode cX12_number 93 = .ok (.iload 5, 2) := by decide +kernel
theorem dX12_number_95 : decode cX12_number 95 = .ok (.iastore, 1) := by decide +kernel
theorem dX12_number_96 : decode cX12_number 96 = .ok (.iload 5, 2) := by decide +kernel
theorem dX12_number_98 : decode cX12_number 98 = .ok (.iload_n 2, 1) := by decide +kernel
theorem dX12_number_99 : decode cX12_number 99 = .ok (.iload_n 3, 1) := by decide +kernel
theorem dX12_number_100 : decode cX12_number 100 = .ok (.invokestatic 90, 3) := by decide +kernel
theorem dX12_number_103 : decode cX12_number 103 = .ok (.ifCond .eq 5, 3) := by decide +kernel
theorem dX12_number_106 : decode cX12_number 106 = .ok (.iconst 1, 1) := by decide +kernel
theorem dX12_number_107 : decode cX12_number 107 = .ok (.ireturn, 1) := by decide +kernel
theorem dX12_number_108 : decode cX12_number 108 = .ok (.aload_n 0, 1) := by decide +kernel
theorem dX12_number_109 : decode cX12_number 109 = .ok (.iload 4, 2) := by decide +kernel
theorem dX12_number_111 : decode cX12_number 111 = .ok (.putfield 158, 3) := by decide +kernel
theorem dX12_number_114 : decode cX12_number 114 = .ok (.iconst 0, 1) := by decide +kernel
theorem dX12_number_115 : decode cX12_number 115 = .ok (.ireturn, 1) := by decide +kernel
theorem dX12_item_0 : decode cX12_item 0 = .ok (.aload_n 0, 1) := by decide +kernel
theorem dX12_item_1 : decode cX12_item 1 = .ok (.getfield 158, 3) := by decide +kernel
theorem dX12_item_4 : decode cX12_item 4 = .ok (.istore_n 1, 1) := by decide +kernel
theorem dX12_item_5 : decode cX12_item 5 = .ok (.aload_n 0, 1) := by decide +kernel
theorem dX12_item_6 : decode cX12_item 6 = .ok (.bipush 115, 2) := by decide +kernel
theorem dX12_item_8 : decode cX12_item 8 = .ok (.invokevirtual 177, 3) := by decide +kernel
theorem dX12_item_11 : decode cX12_item 11 = .ok (.ifCond .eq 121, 3) := by decide +kernel
theorem dX12_item_14 : decode cX12_item 14 = .ok (.aload_n 0, 1) := by decide +kernel
theorem dX12_item_15 : decode cX12_item 15 = .ok (.ldc 181, 2) := by decide +kernel
theorem dX12_item_17 : decode cX12_item 17 = .ok (.invokevirtual 183, 3) := by decide +kernel
theorem dX12_item_20 : decode cX12_item 20 = .ok (.ifCond .eq 29, 3) := by decide +kernel
theorem dX12_item_23 : decode cX12_item 23 = .ok (.aload_n 0, 1) := by decide +kernel
theorem dX12_item_24 : decode cX12_item 24 = .ok (.iconst 0, 1) := by decide +kernel
theorem dX12_item_25 : decode cX12_item 25 = .ok (.iconst 0, 1) := by decide +kernel
theorem dX12_item_26 : decode cX12_item 26 = .ok (.aload_n 0, 1) := by decide +kernel
theorem dX12_item_27 : decode cX12_item 27 = .ok (.getfield 87, 3) := by decide +kernel
theorem dX12_item_30 : decode cX12_item 30 = .ok (.iconst 1, 1) := by decide +kernel
theorem dX12_item_31 : decode cX12_item 31 = .ok (.isub, 1) := by decide +kernel
theorem dX12_item_32 : decode cX12_item 32 = .ok (.invokevirtual 187, 3) := by decide +kernel
theorem dX12_item_35 : decode cX12_item 35 = .ok (.ifCond .eq 14, 3) := by decide +kernel
theorem dX12_item_38 : decode cX12_item 38 = .ok (.aload_n 0, 1) := by decide +kernel
theorem dX12_item_39 : decode cX12_item 39 = .ok (.iconst 1, 1) := by decide +kernel
theorem dX12_item_40 : decode cX12_item 40 = .ok (.iconst 0, 1) := by decide +kernel
theorem dX12_item_41 : decode cX12_item 41 = .ok (.bipush 11, 2) := by decide +kernel
theorem dX12_item_43 : decode cX12_item 43 = .ok (.invokevirtual 187, 3) := by decide +kernel
theorem dX12_item_46 : decode cX12_item 46 = .ok (.ifCond .ne 5, 3) := by decide +kernel
theorem dX12_item_49 : decode cX12_item 49 = .ok (.iconst 0, 1) := by decide +kernel
theorem dX12_item_50 : decode cX12_item 50 = .ok (.ireturn, 1) := by decide +kernel
theorem dX12_item_51 : decode cX12_item 51 = .ok (.aload_n 0, 1) := by decide +kernel
theorem dX12_item_52 : decode cX12_item 52 = .ok (.getfield 158, 3) := by decide +kernel
theorem dX12_item_55 : decode cX12_item 55 = .ok (.istore_n 2, 1) := by decide +kernel
theorem dX12_item_56 : decode cX12_item 56 = .ok (.aload_n 0, 1) := by decide +kernel
theorem dX12_item_57 : decode cX12_item 57 = .ok (.aload_n 0, 1) := by decide +kernel
theorem dX12_item_58 : decode cX12_item 58 = .ok (.getfield 65, 3) := by decide +kernel
theorem dX12_item_61 : decode cX12_item 61 = .ok (.iconst 0, 1) := by decide +kernel
theorem dX12_item_62 : decode cX12_item 62 = .ok (.iaload, 1) := by decide +kernel
theorem dX12_item_63 : decode cX12_item 63 = .ok (.aload_n 0, 1) := by decide +kernel
theorem dX12_item_64 : decode cX12_item 64 = .ok (.getfield 65, 3) := by decide +kernel
theorem dX12_item_67 : decode cX12_item 67 = .ok (.iconst 1, 1) := by decide +kernel
theorem dX12_item_68 : decode cX12_item 68 = .ok (.iaload, 1) := by decide +kernel
theorem dX12_item_69 : decode cX12_item 69 = .ok (.invokevirtual 152, 3) := by decide +kernel
theorem dX12_item_72 : decode cX12_item 72 = .ok (.istore_n 3, 1) := by decide +kernel
theorem dX12_item_73 : decode cX12_item 73 = .ok (.iload_n 3, 1) := by decide +kernel
theorem dX12_item_74 : decode cX12_item 74 = .ok (.ifCond .ne 28, 3) := by decide +kernel
theorem dX12_item_77 : decode cX12_item 77 = .ok (.aload_n 0, 1) := by decide +kernel
theorem dX12_item_78 : decode cX12_item 78 = .ok (.iload_n 2, 1) := by decide +kernel
theorem dX12_item_79 : decode cX12_item 79 = .ok (.aload_n 0, 1) := by decide +kernel
theorem dX12_item_80 : decode cX12_item 80 = .ok (.iload_n 2, 1) := by decide +kernel
theorem dX12_item_81 : decode cX12_item 81 = .ok (.iconst 2, 1) := by decide +kernel
theorem dX12_item_82 : decode cX12_item 82 = .ok (.isub, 1) := by decide +kernel
theorem dX12_item_83 : decode cX12_item 83 = .ok (.invokevirtual 190, 3) := by decide +kernel
theorem dX12_item_86 : decode cX12_item 86 = .ok (.bipush 32, 2) := by decide +kernel
theorem dX12_item_88 : decode cX12_item 88 = .ok (.if_icmp .ne 7, 3) := by decide +kernel
theorem dX12_item_91 : decode cX12_item 91 = .ok (.iconst 1, 1) := by decide +kernel
theorem dX12_item_92 : decode cX12_item 92 = .ok (.goto 4, 3) := by decide +kernel
theorem dX12_item_95 : decode cX12_item 95 = .ok (.iconst 2, 1) := by decide +kernel
theorem dX12_item_96 : decode cX12_item 96 = .ok (.isub, 1) := by decide +kernel
theorem dX12_item_97 : decode cX12_item 97 = .ok (.putfield 158, 3) := by decide +kernel
theorem dX12_item_100 : decode cX12_item 100 = .ok (.iconst 0, 1) := by decide +kernel
theorem dX12_item_101 : decode cX12_item 101 = .ok (.ireturn, 1) := by decide +kernel
theorem dX12_item_102 : decode cX12_item 102 = .ok (.aload_n 0, 1) := by decide +kernel
theorem dX12_item_103 : decode cX12_item 103 = .ok (.getfield 44, 3) := by decide +kernel
theorem dX12_item_106 : decode cX12_item 106 = .ok (.bipush 12, 2) := by decide +kernel
theorem dX12_item_108 : decode cX12_item 108 = .ok (.aload_n 0, 1) := by decide +kernel
theorem dX12_item_109 : decode cX12_item 109 = .ok (.getfield 65, 3) := by decide +kernel
theorem dX12_item_112 : decode cX12_item 112 = .ok (.iconst 0, 1) := by decide +kernel
theorem dX12_item_113 : decode cX12_item 113 = .ok (.iaload, 1) := by decide +kernel
theorem dX12_item_114 : decode cX12_item 114 = .ok (.imul, 1) := by decide +kernel
theorem dX12_item_115 : decode cX12_item 115 = .ok (.aload_n 0, 1) := by decide +kernel
theorem dX12_item_116 : decode cX12_item 116 = .ok (.getfield 65, 3) := by decide +kernel
theorem dX12_item_119 : decode cX12_item 119 = .ok (.iconst 1, 1) := by decide +kernel
theorem dX12_item_120 : decode cX12_item 120 = .ok (.iaload, 1) := by decide +kernel
theorem dX12_item_121 : decode cX12_item 121 = .ok (.iadd, 1) := by decide +kernel
theorem dX12_item_122 : decode cX12_item 122 = .ok (.dup2, 1) := by decide +kernel
theorem dX12_item_123 : decode cX12_item 123 = .ok (.iaload, 1) := by decide +kernel
theorem dX12_item_124 : decode cX12_item 124 = .ok (.iload_n 3, 1) := by decide +kernel
theorem dX12_item_125 : decode cX12_item 125 = .ok (.invokestatic 192, 3) := by decide +kernel
theorem dX12_item_128 : decode cX12_item 128 = .ok (.ior, 1) := by decide +kernel
theorem dX12_item_129 : decode cX12_item 129 = .ok (.iastore, 1) := by decide +kernel
theorem dX12_item_130 : decode cX12_item 130 = .ok (.iconst 1, 1) := by decide +kernel
theorem dX12_item_131 : decode cX12_item 131 = .ok (.ireturn, 1) := by decide +kernel
theorem dX12_item_132 : decode cX12_item 132 = .ok (.aload_n 0, 1) := by decide +kernel
theorem dX12_item_133 : decode cX12_item 133 = .ok (.bipush 99, 2) := by decide +kernel
theorem dX12_item_135 : decode cX12_item 135 = .ok (.invokevirtual 177, 3) := by decide +kernel
theorem dX12_item_138 : decode cX12_item 138 = .ok (.ifCond .eq 229, 3) := by decide +kernel
theorem dX12_item_141 : decode cX12_item 141 = .ok (.aload_n 0, 1) := by decide +kernel
theorem dX12_item_142 : decode cX12_item 142 = .ok (.bipush 111, 2) := by decide +kernel
theorem dX12_item_144 : decode cX12_item 144 = .ok (.invokevirtual 177, 3) := by decide +kernel
theorem dX12_item_147 : decode cX12_item 147 = .ok (.ifCond .ne 5, 3) := by decide +kernel
theorem dX12_item_150 : decode cX12_item 150 = .ok (.iconst 0, 1) := by decide +kernel
theorem dX12_item_151 : decode cX12_item 151 = .ok (.ireturn, 1) := by decide +kernel
theorem dX12_item_152 : decode cX12_item 152 = .ok (.aload_n 0, 1) := by decide +kernel
theorem dX12_item_153 : decode cX12_item 153 = .ok (.bipush 115, 2) := by decide +kernel
theorem dX12_item_155 : decode cX12_item 155 = .ok (.invokevirtual 177, 3) := by decide +kernel
theorem dX12_item_158 : decode cX12_item 158 = .ok (.ifCond .eq 54, 3) := by decide +kernel
theorem dX12_item_161 : decode cX12_item 161 = .ok (.aload_n 0, 1) := by decide +kernel
theorem dX12_item_162 : decode cX12_item 162 = .ok (.ldc 197, 2) := by decide +kernel
theorem dX12_item_164 : decode cX12_item 164 = .ok (.invokevirtual 183, 3) := by decide +kernel
theorem dX12_item_167 : decode cX12_item 167 = .ok (.ifCond .eq 24, 3) := by decide +kernel
theorem dX12_item_170 : decode cX12_item 170 = .ok (.aload_n 0, 1) := by decide +kernel
theorem dX12_item_171 : decode cX12_item 171 = .ok (.iconst 0, 1) := by decide +kernel
theorem dX12_item_172 : decode cX12_item 172 = .ok (.iconst 0, 1) := by decide +kernel
theorem dX12_item_173 : decode cX12_item 173 = .ok (.iconst 5, 1) := by decide +kernel
theorem dX12_item_174 : decode cX12_item 174 = .ok (.invokevirtual 187, 3) := by decide +kernel
theorem dX12_item_177 : decode cX12_item 177 = .ok (.ifCond .eq 14, 3) := by decide +kernel
theorem dX12_item_180 : decode cX12_item 180 = .ok (.aload_n 0, 1) := by decide +kernel
theorem dX12_item_181 : decode cX12_item 181 = .ok (.iconst 1, 1) := by decide +kernel
theorem dX12_item_182 : decode cX12_item 182 = .ok (.iconst 0, 1) := by decide +kernel
theorem dX12_item_183 : decode cX12_item 183 = .ok (.bipush 99, 2) := by decide +kernel
theorem dX12_item_185 : decode cX12_item 185 = .ok (.invokevirtual 187, 3) := by decide +kernel
theorem dX12_item_188 : decode cX12_item 188 = .ok (.ifCond .ne 5, 3) := by decide +kernel
theorem dX12_item_191 : decode cX12_item 191 = .ok (.iconst 0, 1) := by decide +kernel
theorem dX12_item_192 : decode cX12_item 192 = .ok (.ireturn, 1) := by decide +kernel
theorem dX12_item_193 : decode cX12_item 193 = .ok (.aload_n 0, 1) := by decide +kernel
theorem dX12_item_194 : decode cX12_item 194 = .ok (.getfield 50, 3) := by decide +kernel
theorem dX12_item_197 : decode cX12_item 197 = .ok (.aload_n 0, 1) := by decide +kernel
theorem dX12_item_198 : decode cX12_item 198 = .ok (.getfield 65, 3) := by decide +kernel
theorem dX12_item_201 : decode cX12_item 201 = .ok (.iconst 0, 1) := by decide +kernel
theorem dX12_item_202 : decode cX12_item 202 = .ok (.iaload, 1) := by decide +kernel
theorem dX12_item_203 : decode cX12_item 203 = .ok (.aload_n 0, 1) := by decide +kernel
theorem dX12_item_204 : decode cX12_item 204 = .ok (.getfield 65, 3) := by decide +kernel
theorem dX12_item_207 : decode cX12_item 207 = .ok (.iconst 1, 1) := by decide +kernel
theorem dX12_item_208 : decode cX12_item 208 = .ok (.iaload, 1) := by decide +kernel
theorem dX12_item_209 : decode cX12_item 209 = .ok (.iastore, 1) := by decide +kernel
theorem dX12_item_210 : decode cX12_item 210 = .ok (.iconst 1, 1) := by decide +kernel
theorem dX12_item_211 : decode cX12_item 211 = .ok (.ireturn, 1) := by decide +kernel
theorem dX12_item_212 : decode cX12_item 212 = .ok (.aload_n 0, 1) := by decide +kernel
theorem dX12_item_213 : decode cX12_item 213 = .ok (.ldc 199, 2) := by decide +kernel
theorem dX12_item_215 : decode cX12_item 215 = .ok (.invokevirtual 183, 3) := by decide +kernel
theorem dX12_item_218 : decode cX12_item 218 = .ok (.ifCond .eq 18, 3) := by decide +kernel
theorem dX12_item_221 : decode cX12_item 221 = .ok (.aload_n 0, 1) := by decide +kernel
theorem dX12_item_222 : decode cX12_item 222 = .ok (.iconst 0, 1) := by decide +kernel
theorem dX12_item_223 : decode cX12_item 223 = .ok (.iconst 0, 1) := by decide +kernel
theorem dX12_item_224 : decode cX12_item 224 = .ok (.aload_n 0, 1) := by decide +kernel
theorem dX12_item_225 : decode cX12_item 225 = .ok (.getfield 87, 3) := by decide +kernel
theorem dX12_item_228 : decode cX12_item 228 = .ok (.iconst 1, 1) := by decide +kernel
theorem dX12_item_229 : decode cX12_item 229 = .ok (.isub, 1) := by decide +kernel
theorem dX12_item_230 : decode cX12_item 230 = .ok (.invokevirtual 187, 3) := by decide +kernel
theorem dX12_item_233 : decode cX12_item 233 = .ok (.ifCond .ne 5, 3) := by decide +kernel
theorem dX12_item_236 : decode cX12_item 236 = .ok (.iconst 0, 1) := by decide +kernel
theorem dX12_item_237 : decode cX12_item 237 = .ok (.ireturn, 1) := by decide +kernel
theorem dX12_item_238 : decode cX12_item 238 = .ok (.aload_n 0, 1) := by decide +kernel
theorem dX12_item_239 : decode cX12_item 239 = .ok (.getfield 26, 3) := by decide +kernel
theorem dX12_item_242 : decode cX12_item 242 = .ok (.aload_n 0, 1) := by decide +kernel
theorem dX12_item_243 : decode cX12_item 243 = .ok (.getfield 65, 3) := by decide +kernel
theorem dX12_item_246 : decode cX12_item 246 = .ok (.iconst 0, 1) := by decide +kernel
theorem dX12_item_247 : decode cX12_item 247 = .ok (.iaload, 1) := by decide +kernel
theorem dX12_item_248 : decode cX12_item 248 = .ok (.iaload, 1) := by decide +kernel
theorem dX12_item_249 : decode cX12_item 249 = .ok (.bipush 8, 2) := by decide +kernel
theorem dX12_item_251 : decode cX12_item 251 = .ok (.if_icmp .ne 34, 3) := by decide +kernel
theorem dX12_item_254 : decode cX12_item 254 = .ok (.aload_n 0, 1) := by decide +kernel
theorem dX12_item_255 : decode cX12_item 255 = .ok (.dup, 1) := by decide +kernel
theorem dX12_item_256 : decode cX12_item 256 = .ok (.getfield 158, 3) := by decide +kernel
theorem dX12_item_259 : decode cX12_item 259 = .ok (.aload_n 0, 1) := by decide +kernel
theorem dX12_item_260 : decode cX12_item 260 = .ok (.aload_n 0, 1) := by decide +kernel
theorem dX12_item_261 : decode cX12_item 261 = .ok (.getfield 158, 3) := by decide +kernel
theorem dX12_item_264 : decode cX12_item 264 = .ok (.iconst 2, 1) := by decide +kernel
theorem dX12_item_265 : decode cX12_item 265 = .ok (.isub, 1) := by decide +kernel
theorem dX12_item_266 : decode cX12_item 266 = .ok (.invokevirtual 190, 3) := by decide +kernel
theorem dX12_item_269 : decode cX12_item 269 = .ok (.bipush 32, 2) := by decide +kernel
theorem dX12_item_271 : decode cX12_item 271 = .ok (.if_icmp .ne 7, 3) := by decide +kernel
theorem dX12_item_274 : decode cX12_item 274 = .ok (.iconst 1, 1) := by decide +kernel
theorem dX12_item_275 : decode cX12_item 275 = .ok (.goto 4, 3) := by decide +kernel
theorem dX12_item_278 : decode cX12_item 278 = .ok (.iconst 2, 1) := by decide +kernel
theorem dX12_item_279 : decode cX12_item 279 = .ok (.isub, 1) := by decide +kernel
theorem dX12_item_280 : decode cX12_item 280 = .ok (.putfield 158, 3) := by decide +kernel
theorem dX12_item_283 : decode cX12_item 283 = .ok (.iconst 0, 1) := by decide +kernel
theorem dX12_item_284 : decode cX12_item 284 = .ok (.ireturn, 1) := by decide +kernel
theorem dX12_item_285 : decode cX12_item 285 = .ok (.aload_n 0, 1) := by decide +kernel
theorem dX12_item_286 : decode cX12_item 286 = .ok (.iconst 1, 1) := by decide +kernel
theorem dX12_item_287 : decode cX12_item 287 = .ok (.iconst 0, 1) := by decide +kernel
theorem dX12_item_288 : decode cX12_item 288 = .ok (.bipush 7, 2) := by decide +kernel
theorem dX12_item_290 : decode cX12_item 290 = .ok (.invokevirtual 187, 3) := by decide +kernel
theorem dX12_item_293 : decode cX12_item 293 = .ok (.ifCond .eq 35, 3) := by decide +kernel
theorem dX12_item_296 : decode cX12_item 296 = .ok (.aload_n 0, 1) := by decide +kernel
theorem dX12_item_297 : decode cX12_item 297 = .ok (.iconst 2, 1) := by decide +kernel
theorem dX12_item_298 : decode cX12_item 298 = .ok (.iconst 0, 1) := by decide +kernel
theorem dX12_item_299 : decode cX12_item 299 = .ok (.iconst 5, 1) := by decide +kernel
theorem dX12_item_300 : decode cX12_item 300 = .ok (.invokevirtual 187, 3) := by decide +kernel
theorem dX12_item_303 : decode cX12_item 303 = .ok (.ifCond .eq 25, 3) := by decide +kernel
theorem dX12_item_306 : decode cX12_item 306 = .ok (.aload_n 0, 1) := by decide +kernel
theorem dX12_item_307 : decode cX12_item 307 = .ok (.iconst 3, 1) := by decide +kernel
theorem dX12_item_308 : decode cX12_item 308 = .ok (.iconst 1, 1) := by decide +kernel
theorem dX12_item_309 : decode cX12_item 309 = .ok (.bipush 9, 2) := by decide +kernel
theorem dX12_item_311 : decode cX12_item 311 = .ok (.invokevirtual 187, 3) := by decide +kernel
theorem dX12_item_314 : decode cX12_item 314 = .ok (.ifCond .eq 14, 3) := by decide +kernel
theorem dX12_item_317 : decode cX12_item 317 = .ok (.aload_n 0, 1) := by decide +kernel
theorem dX12_item_318 : decode cX12_item 318 = .ok (.iconst 4, 1) := by decide +kernel
theorem dX12_item_319 : decode cX12_item 319 = .ok (.iconst 0, 1) := by decide +kernel
theorem dX12_item_320 : decode cX12_item 320 = .ok (.bipush 11, 2) := by decide +kernel
theorem dX12_item_322 : decode cX12_item 322 = .ok (.invokevirtual 187, 3) := by decide +kernel
theorem dX12_item_325 : decode cX12_item 325 = .ok (.ifCond .ne 5, 3) := by decide +kernel
theorem dX12_item_328 : decode cX12_item 328 = .ok (.iconst 0, 1) := by decide +kernel
theorem dX12_item_329 : decode cX12_item 329 = .ok (.ireturn, 1) := by decide +kernel
theorem dX12_item_330 : decode cX12_item 330 = .ok (.aload_n 0, 1) := by decide +kernel
theorem dX12_item_331 : decode cX12_item 331 = .ok (.aload_n 0, 1) := by decide +kernel
theorem dX12_item_332 : decode cX12_item 332 = .ok (.getfield 65, 3) := by decide +kernel
theorem dX12_item_335 : decode cX12_item 335 = .ok (.iconst 0, 1) := by decide +kernel
theorem dX12_item_336 : decode cX12_item 336 = .ok (.iaload, 1) := by decide +kernel
theorem dX12_item_337 : decode cX12_item 337 = .ok (.aload_n 0, 1) := by decide +kernel
theorem dX12_item_338 : decode cX12_item 338 = .ok (.getfield 65, 3) := by decide +kernel
theorem dX12_item_341 : decode cX12_item 341 = .ok (.iconst 1, 1) := by decide +kernel
theorem dX12_item_342 : decode cX12_item 342 = .ok (.iaload, 1) := by decide +kernel
theorem dX12_item_343 : decode cX12_item 343 = .ok (.aload_n 0, 1) := by decide +kernel
theorem dX12_item_344 : decode cX12_item 344 = .ok (.getfield 65, 3) := by decide +kernel
theorem dX12_item_347 : decode cX12_item 347 = .ok (.iconst 2, 1) := by decide +kernel
theorem dX12_item_348 : decode cX12_item 348 = .ok (.iaload, 1) := by decide +kernel
theorem dX12_item_349 : decode cX12_item 349 = .ok (.aload_n 0, 1) := by decide +kernel
theorem dX12_item_350 : decode cX12_item 350 = .ok (.getfield 65, 3) := by decide +kernel
theorem dX12_item_353 : decode cX12_item 353 = .ok (.iconst 3, 1) := by decide +kernel
theorem dX12_item_354 : decode cX12_item 354 = .ok (.iaload, 1) := by decide +kernel
theorem dX12_item_355 : decode cX12_item 355 = .ok (.aload_n 0, 1) := by decide +kernel
theorem dX12_item_356 : decode cX12_item 356 = .ok (.getfield 65, 3) := by decide +kernel
theorem dX12_item_359 : decode cX12_item 359 = .ok (.iconst 4, 1) := by decide +kernel
theorem dX12_item_360 : decode cX12_item 360 = .ok (.iaload, 1) := by decide +kernel
theorem dX12_item_361 : decode cX12_item 361 = .ok (.invokevirtual 145, 3) := by decide +kernel
theorem dX12_item_364 : decode cX12_item 364 = .ok (.pop, 1) := by decide +kernel
theorem dX12_item_365 : decode cX12_item 365 = .ok (.iconst 1, 1) := by decide +kernel
theorem dX12_item_366 : decode cX12_item 366 = .ok (.ireturn, 1) := by decide +kernel
theorem dX12_item_367 : decode cX12_item 367 = .ok (.aload_n 0, 1) := by decide +kernel
theorem dX12_item_368 : decode cX12_item 368 = .ok (.bipush 104, 2) := by decide +kernel
theorem dX12_item_370 : decode cX12_item 370 = .ok (.invokevirtual 177, 3) := by decide +kernel
theorem dX12_item_373 : decode cX12_item 373 = .ok (.ifCond .ne 5, 3) := by decide +kernel
theorem dX12_item_376 : decode cX12_item 376 = .ok (.iconst 0, 1) := by decide +kernel
theorem dX12_item_377 : decode cX12_item 377 = .ok (.ireturn, 1) := by decide +kernel
theorem dX12_item_378 : decode cX12_item 378 = .ok (.aload_n 0, 1) := by decide +kernel
theorem dX12_item_379 : decode cX12_item 379 = .ok (.bipush 105, 2) := by decide +kernel
theorem dX12_item_381 : decode cX12_item 381 = .ok (.invokevirtual 177, 3) := by decide +kernel
theorem dX12_item_384 : decode cX12_item 384 = .ok (.ifCond .eq 54, 3) := by decide +kernel
theorem dX12_item_387 : decode cX12_item 387 = .ok (.aload_n 0, 1) := by decide +kernel
theorem dX12_item_388 : decode cX12_item 388 = .ok (.ldc 200, 2) := by decide +kernel
theorem dX12_item_390 : decode cX12_item 390 = .ok (.invokevirtual 183, 3) := by decide +kernel
theorem dX12_item_393 : decode cX12_item 393 = .ok (.ifCond .eq 24, 3) := by decide +kernel
theorem dX12_item_396 : decode cX12_item 396 = .ok (.aload_n 0, 1) := by decide +kernel
theorem dX12_item_397 : decode cX12_item 397 = .ok (.iconst 0, 1) := by decide +kernel
theorem dX12_item_398 : decode cX12_item 398 = .ok (.iconst 0, 1) := by decide +kernel
theorem dX12_item_399 : decode cX12_item 399 = .ok (.iconst 5, 1) := by decide +kernel
theorem dX12_item_400 : decode cX12_item 400 = .ok (.invokevirtual 187, 3) := by decide +kernel
theorem dX12_item_403 : decode cX12_item 403 = .ok (.ifCond .eq 14, 3) := by decide +kernel
theorem dX12_item_406 : decode cX12_item 406 = .ok (.aload_n 0, 1) := by decide +kernel
theorem dX12_item_407 : decode cX12_item 407 = .ok (.iconst 1, 1) := by decide +kernel
theorem dX12_item_408 : decode cX12_item 408 = .ok (.iconst 0, 1) := by decide +kernel
theorem dX12_item_409 : decode cX12_item 409 = .ok (.bipush 9, 2) := by decide +kernel
theorem dX12_item_411 : decode cX12_item 411 = .ok (.invokevirtual 187, 3) := by decide +kernel
theorem dX12_item_414 : decode cX12_item 414 = .ok (.ifCond .ne 5, 3) := by decide +kernel
theorem dX12_item_417 : decode cX12_item 417 = .ok (.iconst 0, 1) := by decide +kernel
theorem dX12_item_418 : decode cX12_item 418 = .ok (.ireturn, 1) := by decide +kernel
theorem dX12_item_419 : decode cX12_item 419 = .ok (.aload_n 0, 1) := by decide +kernel
theorem dX12_item_420 : decode cX12_item 420 = .ok (.getfield 47, 3) := by decide +kernel
theorem dX12_item_423 : decode cX12_item 423 = .ok (.aload_n 0, 1) := by decide +kernel
theorem dX12_item_424 : decode cX12_item 424 = .ok (.getfield 65, 3) := by decide +kernel
theorem dX12_item_427 : decode cX12_item 427 = .ok (.iconst 0, 1) := by decide +kernel
theorem dX12_item_428 : decode cX12_item 428 = .ok (.iaload, 1) := by decide +kernel
theorem dX12_item_429 : decode cX12_item 429 = .ok (.aload_n 0, 1) := by decide +kernel
theorem dX12_item_430 : decode cX12_item 430 = .ok (.getfield 65, 3) := by decide +kernel
theorem dX12_item_433 : decode cX12_item 433 = .ok (.iconst 1, 1) := by decide +kernel
theorem dX12_item_434 : decode cX12_item 434 = .ok (.iaload, 1) := by decide +kernel
theorem dX12_item_435 : decode cX12_item 435 = .ok (.iastore, 1) := by decide +kernel
theorem dX12_item_436 : decode cX12_item 436 = .ok (.iconst 1, 1) := by decide +kernel
theorem dX12_item_437 : decode cX12_item 437 = .ok (.ireturn, 1) := by decide +kernel
theorem dX12_item_438 : decode cX12_item 438 = .ok (.aload_n 0, 1) := by decide +kernel
theorem dX12_item_439 : decode cX12_item 439 = .ok (.bipush 97, 2) := by decide +kernel
theorem dX12_item_441 : decode cX12_item 441 = .ok (.invokevirtual 177, 3) := by decide +kernel
theorem dX12_item_444 : decode cX12_item 444 = .ok (.ifCond .eq 38, 3) := by decide +kernel
theorem dX12_item_447 : decode cX12_item 447 = .ok (.aload_n 0, 1) := by decide +kernel
theorem dX12_item_448 : decode cX12_item 448 = .ok (.ldc 202, 2) := by decide +kernel
theorem dX12_item_450 : decode cX12_item 450 = .ok (.invokevirtual 183, 3) := by decide +kernel
theorem dX12_item_453 : decode cX12_item 453 = .ok (.ifCond .eq 14, 3) := by decide +kernel
theorem dX12_item_456 : decode cX12_item 456 = .ok (.aload_n 0, 1) := by decide +kernel
theorem dX12_item_457 : decode cX12_item 457 = .ok (.iconst 0, 1) := by decide +kernel
theorem dX12_item_458 : decode cX12_item 458 = .ok (.iconst 0, 1) := by decide +kernel
theorem dX12_item_459 : decode cX12_item 459 = .ok (.bipush 99, 2) := by decide +kernel
theorem dX12_item_461 : decode cX12_item 461 = .ok (.invokevirtual 187, 3) := by decide +kernel
theorem dX12_item_464 : decode cX12_item 464 = .ok (.ifCond .ne 5, 3) := by decide +kernel
theorem dX12_item_467 : decode cX12_item 467 = .ok (.iconst 0, 1) := by decide +kernel
theorem dX12_item_468 : decode cX12_item 468 = .ok (.ireturn, 1) := by decide +kernel
theorem dX12_item_469 : decode cX12_item 469 = .ok (.aload_n 0, 1) := by decide +kernel
theorem dX12_item_470 : decode cX12_item 470 = .ok (.aload_n 0, 1) := by decide +kernel
theorem dX12_item_471 : decode cX12_item 471 = .ok (.getfield 65, 3) := by decide +kernel
theorem dX12_item_474 : decode cX12_item 474 = .ok (.iconst 0, 1) := by decide +kernel
theorem dX12_item_475 : decode cX12_item 475 = .ok (.iaload, 1) := by decide +kernel
theorem dX12_item_476 : decode cX12_item 476 = .ok (.invokevirtual 204, 3) := by decide +kernel
theorem dX12_item_479 : decode cX12_item 479 = .ok (.pop, 1) := by decide +kernel
theorem dX12_item_480 : decode cX12_item 480 = .ok (.iconst 1, 1) := by decide +kernel
theorem dX12_item_481 : decode cX12_item 481 = .ok (.ireturn, 1) := by decide +kernel
theorem dX12_item_482 : decode cX12_item 482 = .ok (.aload_n 0, 1) := by decide +kernel
theorem dX12_item_483 : decode cX12_item 483 = .ok (.ldc 207, 2) := by decide +kernel
theorem dX12_item_485 : decode cX12_item 485 = .ok (.invokevirtual 183, 3) := by decide +kernel
theorem dX12_item_488 : decode cX12_item 488 = .ok (.ifCond .ne 5, 3) := by decide +kernel
theorem dX12_item_491 : decode cX12_item 491 = .ok (.iconst 0, 1) := by decide +kernel
theorem dX12_item_492 : decode cX12_item 492 = .ok (.ireturn, 1) := by decide +kernel
theorem dX12_item_493 : decode cX12_item 493 = .ok (.aload_n 0, 1) := by decide +kernel
theorem dX12_item_494 : decode cX12_item 494 = .ok (.getfield 87, 3) := by decide +kernel
theorem dX12_item_497 : decode cX12_item 497 = .ok (.bipush 6, 2) := by decide +kernel
theorem dX12_item_499 : decode cX12_item 499 = .ok (.if_icmp .ne 10, 3) := by decide +kernel
theorem dX12_item_502 : decode cX12_item 502 = .ok (.aload_n 0, 1) := by decide +kernel
theorem dX12_item_503 : decode cX12_item 503 = .ok (.iload_n 1, 1) := by decide +kernel
theorem dX12_item_504 : decode cX12_item 504 = .ok (.putfield 158, 3) := by decide +kernel
theorem dX12_item_507 : decode cX12_item 507 = .ok (.iconst 0, 1) := by decide +kernel
theorem dX12_item_508 : decode cX12_item 508 = .ok (.ireturn, 1) := by decide +kernel
theorem dX12_item_509 : decode cX12_item 509 = .ok (.aload_n 0, 1) := by decide +kernel
theorem dX12_item_510 : decode cX12_item 510 = .ok (.iconst 0, 1) := by decide +kernel
theorem dX12_item_511 : decode cX12_item 511 = .ok (.iconst 0, 1) := by decide +kernel
theorem dX12_item_512 : decode cX12_item 512 = .ok (.bipush 6, 2) := by decide +kernel
theorem dX12_item_514 : decode cX12_item 514 = .ok (.invokevirtual 187, 3) := by decide +kernel
theorem dX12_item_517 : decode cX12_item 517 = .ok (.ifCond .eq 14, 3) := by decide +kernel
theorem dX12_item_520 : decode cX12_item 520 = .ok (.aload_n 0, 1) := by decide +kernel
theorem dX12_item_521 : decode cX12_item 521 = .ok (.iconst 1, 1) := by decide +kernel
theorem dX12_item_522 : decode cX12_item 522 = .ok (.iconst 0, 1) := by decide +kernel
theorem dX12_item_523 : decode cX12_item 523 = .ok (.bipush 9, 2) := by decide +kernel
theorem dX12_item_525 : decode cX12_item 525 = .ok (.invokevirtual 187, 3) := by decide +kernel
theorem dX12_item_528 : decode cX12_item 528 = .ok (.ifCond .ne 5, 3) := by decide +kernel
theorem dX12_item_531 : decode cX12_item 531 = .ok (.iconst 0, 1) := by decide +kernel
theorem dX12_item_532 : decode cX12_item 532 = .ok (.ireturn, 1) := by decide +kernel
theorem dX12_item_533 : decode cX12_item 533 = .ok (.aload_n 0, 1) := by decide +kernel
theorem dX12_item_534 : decode cX12_item 534 = .ok (.aload_n 0, 1) := by decide +kernel
theorem dX12_item_535 : decode cX12_item 535 = .ok (.getfield 65, 3) := by decide +kernel
theorem dX12_item_538 : decode cX12_item 538 = .ok (.iconst 0, 1) := by decide +kernel
theorem dX12_item_539 : decode cX12_item 539 = .ok (.iaload, 1) := by decide +kernel
theorem dX12_item_540 : decode cX12_item 540 = .ok (.aload_n 0, 1) := by decide +kernel
theorem dX12_item_541 : decode cX12_item 541 = .ok (.getfield 65, 3) := by decide +kernel
theorem dX12_item_544 : decode cX12_item 544 = .ok (.iconst 1, 1) := by decide +kernel
theorem dX12_item_545 : decode cX12_item 545 = .ok (.iaload, 1) := by decide +kernel
theorem dX12_item_546 : decode cX12_item 546 = .ok (.invokevirtual 133, 3) := by decide +kernel
theorem dX12_item_549 : decode cX12_item 549 = .ok (.pop, 1) := by decide +kernel
theorem dX12_item_550 : decode cX12_item 550 = .ok (.iconst 1, 1) := by decide +kernel
theorem dX12_item_551 : decode cX12_item 551 = .ok (.ireturn, 1) := by decide +kernel
theorem dX12_sign__0 : decode cX12_sign_ 0 = .ok (.aload_n 0, 1) := by decide +kernel
theorem dX12_sign__1 : decode cX12_sign_ 1 = .ok (.getfield 16, 3) := by decide +kernel
theorem dX12_sign__4 : decode cX12_sign_ 4 = .ok (.sipush 160, 3) := by decide +kernel
theorem dX12_sign__7 : decode cX12_sign_ 7 = .ok (.aload_n 0, 1) := by decide +kernel
theorem dX12_sign__8 : decode cX12_sign_ 8 = .ok (.getfield 161, 3) := by decide +kernel
theorem dX12_sign__11 : decode cX12_sign_ 11 = .ok (.imul, 1) := by decide +kernel
theorem dX12_sign__12 : decode cX12_sign_ 12 = .ok (.iload_n 1, 1) := by decide +kernel
theorem dX12_sign__13 : decode cX12_sign_ 13 = .ok (.iadd, 1) := by decide +kernel
theorem dX12_sign__14 : decode cX12_sign_ 14 = .ok (.laload, 1) := by decide +kernel
theorem dX12_sign__15 : decode cX12_sign_ 15 = .ok (.l2i, 1) := by decide +kernel
theorem dX12_sign__16 : decode cX12_sign_ 16 = .ok (.ireturn, 1) := by decide +kernel
theorem dX12_street_0 : decode cX12_street 0 = .ok (.aload_n 0, 1) := by decide +kernel
theorem dX12_street_1 : decode cX12_street 1 = .ok (.iload_n 1, 1) := by decide +kernel
theorem dX12_street_2 : decode cX12_street 2 = .ok (.invokevirtual 105, 3) := by decide +kernel
theorem dX12_street_5 : decode cX12_street 5 = .ok (.istore_n 2, 1) := by decide +kernel
theorem dX12_street_6 : decode cX12_street 6 = .ok (.iload_n 2, 1) := by decide +kernel
theorem dX12_street_7 : decode cX12_street 7 = .ok (.ifCond .ge 9, 3) := by decide +kernel
theorem dX12_street_10 : decode cX12_street 10 = .ok (.aload_n 0, 1) := by decide +kernel
theorem dX12_street_11 : decode cX12_street 11 = .ok (.iload_n 2, 1) := by decide +kernel
theorem dX12_street_12 : decode cX12_street 12 = .ok (.invokevirtual 98, 3) := by decide +kernel
theorem dX12_street_15 : decode cX12_street 15 = .ok (.ireturn, 1) := by decide +kernel
theorem dX12_street_16 : decode cX12_street 16 = .ok (.aload_n 0, 1) := by decide +kernel
theorem dX12_street_17 : decode cX12_street 17 = .ok (.aload_n 0, 1) := by decide +kernel
theorem dX12_street_18 : decode cX12_street 18 = .ok (.getfield 62, 3) := by decide +kernel
theorem dX12_street_21 : decode cX12_street 21 = .ok (.invokevirtual 209, 3) := by decide +kernel
theorem dX12_street_24 : decode cX12_street 24 = .ok (.aload_n 0, 1) := by decide +kernel
theorem dX12_street_25 : decode cX12_street 25 = .ok (.iload_n 1, 1) := by decide +kernel
theorem dX12_street_26 : decode cX12_street 26 = .ok (.putfield 161, 3) := by decide +kernel
theorem dX12_street_29 : decode cX12_street 29 = .ok (.aload_n 0, 1) := by decide +kernel
theorem dX12_street_30 : decode cX12_street 30 = .ok (.iconst 0, 1) := by decide +kernel
theorem dX12_street_31 : decode cX12_street 31 = .ok (.putfield 158, 3) := by decide +kernel
theorem dX12_street_34 : decode cX12_street 34 = .ok (.iconst 0, 1) := by decide +kernel
theorem dX12_street_35 : decode cX12_street 35 = .ok (.istore_n 3, 1) := by decide +kernel
theorem dX12_street_36 : decode cX12_street 36 = .ok (.iconst 1, 1) := by decide +kernel
theorem dX12_street_37 : decode cX12_street 37 = .ok (.istore 4, 2) := by decide +kernel
theorem dX12_street_39 : decode cX12_street 39 = .ok (.iload 4, 2) := by decide +kernel
theorem dX12_street_41 : decode cX12_street 41 = .ok (.ifCond .eq 58, 3) := by decide +kernel
theorem dX12_street_44 : decode cX12_street 44 = .ok (.aload_n 0, 1) := by decide +kernel
theorem dX12_street_45 : decode cX12_street 45 = .ok (.invokevirtual 213, 3) := by decide +kernel
theorem dX12_street_48 : decode cX12_street 48 = .ok (.istore 4, 2) := by decide +kernel
theorem dX12_street_50 : decode cX12_street 50 = .ok (.iload 4, 2) := by decide +kernel
theorem dX12_street_52 : decode cX12_street 52 = .ok (.ifCond .eq 6, 3) := by decide +kernel
theorem dX12_street_55 : decode cX12_street 55 = .ok (.iinc 3 1, 3) := by decide +kernel
theorem dX12_street_58 : decode cX12_street 58 = .ok (.iload 4, 2) := by decide +kernel
theorem dX12_street_60 : decode cX12_street 60 = .ok (.ifCond .eq 23, 3) := by decide +kernel
theorem dX12_street_63 : decode cX12_street 63 = .ok (.aload_n 0, 1) := by decide +kernel
theorem dX12_street_64 : decode cX12_street 64 = .ok (.getfield 158, 3) := by decide +kernel
theorem dX12_street_67 : decode cX12_street 67 = .ok (.aload_n 0, 1) := by decide +kernel
theorem dX12_street_68 : decode cX12_street 68 = .ok (.getfield 13, 3) := by decide +kernel
theorem dX12_street_71 : decode cX12_street 71 = .ok (.iload_n 1, 1) := by decide +kernel
theorem dX12_street_72 : decode cX12_street 72 = .ok (.iaload, 1) := by decide +kernel
theorem dX12_street_73 : decode cX12_street 73 = .ok (.if_icmp .ne 10, 3) := by decide +kernel
theorem dX12_street_76 : decode cX12_street 76 = .ok (.aload_n 0, 1) := by decide +kernel
theorem dX12_street_77 : decode cX12_street 77 = .ok (.iconst (-1), 1) := by decide +kernel
theorem dX12_street_78 : decode cX12_street 78 = .ok (.putfield 84, 3) := by decide +kernel
theorem dX12_street_81 : decode cX12_street 81 = .ok (.iload_n 3, 1) := by decide +kernel
theorem dX12_street_82 : decode cX12_street 82 = .ok (.ireturn, 1) := by decide +kernel
theorem dX12_street_83 : decode cX12_street 83 = .ok (.iload 4, 2) := by decide +kernel
theorem dX12_street_85 : decode cX12_street 85 = .ok (.ifCond .eq (-46), 3) := by decide +kernel
theorem dX12_street_88 : decode cX12_street 88 = .ok (.aload_n 0, 1) := by decide +kernel
theorem dX12_street_89 : decode cX12_street 89 = .ok (.bipush 59, 2) := by decide +kernel
theorem dX12_street_91 : decode cX12_street 91 = .ok (.invokevirtual 177, 3) := by decide +kernel
theorem dX12_street_94 : decode cX12_street 94 = .ok (.istore 4, 2) := by decide +kernel
theorem dX12_street_96 : decode cX12_street 96 = .ok (.goto (-57), 3) := by decide +kernel
theorem dX12_street_99 : decode cX12_street 99 = .ok (.aload_n 0, 1) := by decide +kernel
theorem dX12_street_100 : decode cX12_street 100 = .ok (.aload_n 0, 1) := by decide +kernel
theorem dX12_street_101 : decode cX12_street 101 = .ok (.getfield 158, 3) := by decide +kernel
theorem dX12_street_104 : decode cX12_street 104 = .ok (.putfield 84, 3) := by decide +kernel
theorem dX12_street_107 : decode cX12_street 107 = .ok (.aload_n 0, 1) := by decide +kernel
theorem dX12_street_108 : decode cX12_street 108 = .ok (.aload_n 0, 1) := by decide +kernel
theorem dX12_street_109 : decode cX12_street 109 = .ok (.getfield 62, 3) := by decide +kernel
theorem dX12_street_112 : decode cX12_street 112 = .ok (.invokevirtual 217, 3) := by decide +kernel
theorem dX12_street_115 : decode cX12_street 115 = .ok (.aload_n 0, 1) := by decide +kernel
theorem dX12_street_116 : decode cX12_street 116 = .ok (.bipush (-6), 2) := by decide +kernel
theorem dX12_street_118 : decode cX12_street 118 = .ok (.invokevirtual 98, 3) := by decide +kernel
theorem dX12_street_121 : decode cX12_street 121 = .ok (.ireturn, 1) := by decide +kernel
theorem dX12_fault_0 : decode cX12_fault 0 = .ok (.aload_n 0, 1) := by decide +kernel
theorem dX12_fault_1 : decode cX12_fault 1 = .ok (.getfield 84, 3) := by decide +kernel
theorem dX12_fault_4 : decode cX12_fault 4 = .ok (.ireturn, 1) := by decide +kernel
theorem dX12_strength_0 : decode cX12_strength 0 = .ok (.aload_n 0, 1) := by decide +kernel
theorem dX12_strength_1 : decode cX12_strength 1 = .ok (.getfield 47, 3) := by decide +kernel
theorem dX12_strength_4 : decode cX12_strength 4 = .ok (.aload_n 0, 1) := by decide +kernel
theorem dX12_strength_5 : decode cX12_strength 5 = .ok (.getfield 32, 3) := by decide +kernel
theorem dX12_strength_8 : decode cX12_strength 8 = .ok (.bipush 8, 2) := by decide +kernel
theorem dX12_strength_10 : decode cX12_strength 10 = .ok (.iload_n 1, 1) := by decide +kernel
theorem dX12_strength_11 : decode cX12_strength 11 = .ok (.imul, 1) := by decide +kernel
theorem dX12_strength_12 : decode cX12_strength 12 = .ok (.iload_n 2, 1) := by decide +kernel
theorem dX12_strength_13 : decode cX12_strength 13 = .ok (.iadd, 1) := by decide +kernel
theorem dX12_strength_14 : decode cX12_strength 14 = .ok (.iaload, 1) := by decide +kernel
theorem dX12_strength_15 : decode cX12_strength 15 = .ok (.iaload, 1) := by decide +kernel
theorem dX12_strength_16 : decode cX12_strength 16 = .ok (.istore_n 3, 1) := by decide +kernel
theorem dX12_strength_17 : decode cX12_strength 17 = .ok (.aload_n 0, 1) := by decide +kernel
theorem dX12_strength_18 : decode cX12_strength 18 = .ok (.getfield 20, 3) := by decide +kernel
theorem dX12_strength_21 : decode cX12_strength 21 = .ok (.iload_n 1, 1) := by decide +kernel
theorem dX12_strength_22 : decode cX12_strength 22 = .ok (.iaload, 1) := by decide +kernel
theorem dX12_strength_23 : decode cX12_strength 23 = .ok (.iconst 4, 1) := by decide +kernel
theorem dX12_strength_24 : decode cX12_strength 24 = .ok (.if_icmp .ne 10, 3) := by decide +kernel
theorem dX12_strength_27 : decode cX12_strength 27 = .ok (.iload_n 3, 1) := by decide +kernel
theorem dX12_strength_28 : decode cX12_strength 28 = .ok (.ifCond .le 6, 3) := by decide +kernel
theorem dX12_strength_31 : decode cX12_strength 31 = .ok (.iinc 3 (-1), 3) := by decide +kernel
theorem dX12_strength_34 : decode cX12_strength 34 = .ok (.iload_n 3, 1) := by decide +kernel
theorem dX12_strength_35 : decode cX12_strength 35 = .ok (.aload_n 0, 1) := by decide +kernel
theorem dX12_strength_36 : decode cX12_strength 36 = .ok (.getfield 35, 3) := by decide +kernel
theorem dX12_strength_39 : decode cX12_strength 39 = .ok (.bipush 8, 2) := by decide +kernel
theorem dX12_strength_41 : decode cX12_strength 41 = .ok (.iload_n 1, 1) := by decide +kernel
theorem dX12_strength_42 : decode cX12_strength 42 = .ok (.imul, 1) := by decide +kernel
theorem dX12_strength_43 : decode cX12_strength 43 = .ok (.iload_n 2, 1) := by decide +kernel
theorem dX12_strength_44 : decode cX12_strength 44 = .ok (.iadd, 1) := by decide +kernel
theorem dX12_strength_45 : decode cX12_strength 45 = .ok (.iaload, 1) := by decide +kernel
theorem dX12_strength_46 : decode cX12_strength 46 = .ok (.imul, 1) := by decide +kernel
theorem dX12_strength_47 : decode cX12_strength 47 = .ok (.ireturn, 1) := by decide +kernel
theorem dX12_wetOf_0 : decode cX12_wetOf 0 = .ok (.aload_n 0, 1) := by decide +kernel
theorem dX12_wetOf_1 : decode cX12_wetOf 1 = .ok (.getfield 20, 3) := by decide +kernel
theorem dX12_wetOf_4 : decode cX12_wetOf 4 = .ok (.iload_n 1, 1) := by decide +kernel
theorem dX12_wetOf_5 : decode cX12_wetOf 5 = .ok (.iaload, 1) := by decide +kernel
theorem dX12_wetOf_6 : decode cX12_wetOf 6 = .ok (.iconst 1, 1) := by decide +kernel
theorem dX12_wetOf_7 : decode cX12_wetOf 7 = .ok (.if_icmp .eq 13, 3) := by decide +kernel
theorem dX12_wetOf_10 : decode cX12_wetOf 10 = .ok (.aload_n 0, 1) := by decide +kernel
theorem dX12_wetOf_11 : decode cX12_wetOf 11 = .ok (.getfield 20, 3) := by decide +kernel
theorem dX12_wetOf_14 : decode cX12_wetOf 14 = .ok (.iload_n 1, 1) := by decide +kernel
theorem dX12_wetOf_15 : decode cX12_wetOf 15 = .ok (.iaload, 1) := by decide +kernel
theorem dX12_wetOf_16 : decode cX12_wetOf 16 = .ok (.iconst 3, 1) := by decide +kernel
theorem dX12_wetOf_17 : decode cX12_wetOf 17 = .ok (.if_icmp .ne 7, 3) := by decide +kernel
theorem dX12_wetOf_20 : decode cX12_wetOf 20 = .ok (.iconst 1, 1) := by decide +kernel
theorem dX12_wetOf_21 : decode cX12_wetOf 21 = .ok (.goto 4, 3) := by decide +kernel
theorem dX12_wetOf_24 : decode cX12_wetOf 24 = .ok (.iconst 0, 1) := by decide +kernel
theorem dX12_wetOf_25 : decode cX12_wetOf 25 = .ok (.istore 4, 2) := by decide +kernel
theorem dX12_wetOf_27 : decode cX12_wetOf 27 = .ok (.iload 4, 2) := by decide +kernel
theorem dX12_wetOf_29 : decode cX12_wetOf 29 = .ok (.ifCond .eq 18, 3) := by decide +kernel
theorem dX12_wetOf_32 : decode cX12_wetOf 32 = .ok (.iload_n 3, 1) := by decide +kernel
theorem dX12_wetOf_33 : decode cX12_wetOf 33 = .ok (.ifCond .le 14, 3) := by decide +kernel
theorem dX12_wetOf_36 : decode cX12_wetOf 36 = .ok (.iload_n 3, 1) := by decide +kernel
theorem dX12_wetOf_37 : decode cX12_wetOf 37 = .ok (.aload_n 0, 1) := by decide +kernel
theorem dX12_wetOf_38 : decode cX12_wetOf 38 = .ok (.getfield 23, 3) := by decide +kernel
theorem dX12_wetOf_41 : decode cX12_wetOf 41 = .ok (.iload_n 1, 1) := by decide +kernel
theorem dX12_wetOf_42 : decode cX12_wetOf 42 = .ok (.iaload, 1) := by decide +kernel
theorem dX12_wetOf_43 : decode cX12_wetOf 43 = .ok (.iadd, 1) := by decide +kernel
theorem dX12_wetOf_44 : decode cX12_wetOf 44 = .ok (.goto 4, 3) := by decide +kernel
theorem dX12_wetOf_47 : decode cX12_wetOf 47 = .ok (.iload_n 3, 1) := by decide +kernel
theorem dX12_wetOf_48 : decode cX12_wetOf 48 = .ok (.istore 5, 2) := by decide +kernel
theorem dX12_wetOf_50 : decode cX12_wetOf 50 = .ok (.aload_n 0, 1) := by decide +kernel
theorem dX12_wetOf_51 : decode cX12_wetOf 51 = .ok (.getfield 20, 3) := by decide +kernel
theorem dX12_wetOf_54 : decode cX12_wetOf 54 = .ok (.iload_n 1, 1) := by decide +kernel
theorem dX12_wetOf_55 : decode cX12_wetOf 55 = .ok (.iaload, 1) := by decide +kernel
theorem dX12_wetOf_56 : decode cX12_wetOf 56 = .ok (.iconst 3, 1) := by decide +kernel
theorem dX12_wetOf_57 : decode cX12_wetOf 57 = .ok (.if_icmp .ne 16, 3) := by decide +kernel
theorem dX12_wetOf_60 : decode cX12_wetOf 60 = .ok (.iload_n 2, 1) := by decide +kernel
theorem dX12_wetOf_61 : decode cX12_wetOf 61 = .ok (.bipush 7, 2) := by decide +kernel
theorem dX12_wetOf_63 : decode cX12_wetOf 63 = .ok (.if_icmp .le 10, 3) := by decide +kernel
theorem dX12_wetOf_66 : decode cX12_wetOf 66 = .ok (.iconst 2, 1) := by decide +kernel
theorem dX12_wetOf_67 : decode cX12_wetOf 67 = .ok (.iload 5, 2) := by decide +kernel
theorem dX12_wetOf_69 : decode cX12_wetOf 69 = .ok (.imul, 1) := by decide +kernel
theorem dX12_wetOf_70 : decode cX12_wetOf 70 = .ok (.goto 5, 3) := by decide +kernel
theorem dX12_wetOf_73 : decode cX12_wetOf 73 = .ok (.iload 5, 2) := by decide +kernel
theorem dX12_wetOf_75 : decode cX12_wetOf 75 = .ok (.ireturn, 1) := by decide +kernel
theorem dX12_lies_0 : decode cX12_lies 0 = .ok (.iconst 0, 1) := by decide +kernel
theorem dX12_lies_1 : decode cX12_lies 1 = .ok (.istore_n 3, 1) := by decide +kernel
theorem dX12_lies_2 : decode cX12_lies 2 = .ok (.iconst 0, 1) := by decide +kernel
theorem dX12_lies_3 : decode cX12_lies 3 = .ok (.istore 4, 2) := by decide +kernel
theorem dX12_lies_5 : decode cX12_lies 5 = .ok (.iload 4, 2) := by decide +kernel
theorem dX12_lies_7 : decode cX12_lies 7 = .ok (.aload_n 0, 1) := by decide +kernel
theorem dX12_lies_8 : decode cX12_lies 8 = .ok (.getfield 26, 3) := by decide +kernel
theorem dX12_lies_11 : decode cX12_lies 11 = .ok (.iload_n 1, 1) := by decide +kernel
theorem dX12_lies_12 : decode cX12_lies 12 = .ok (.iaload, 1) := by decide +kernel
theorem dX12_lies_13 : decode cX12_lies 13 = .ok (.if_icmp .ge 51, 3) := by decide +kernel
theorem dX12_lies_16 : decode cX12_lies 16 = .ok (.aload_n 0, 1) := by decide +kernel
theorem dX12_lies_17 : decode cX12_lies 17 = .ok (.getfield 38, 3) := by decide +kernel
theorem dX12_lies_20 : decode cX12_lies 20 = .ok (.bipush 8, 2) := by decide +kernel
theorem dX12_lies_22 : decode cX12_lies 22 = .ok (.iload_n 1, 1) := by decide +kernel
theorem dX12_lies_23 : decode cX12_lies 23 = .ok (.imul, 1) := by decide +kernel
theorem dX12_lies_24 : decode cX12_lies 24 = .ok (.iload 4, 2) := by decide +kernel
theorem dX12_lies_26 : decode cX12_lies 26 = .ok (.iadd, 1) := by decide +kernel
theorem dX12_lies_27 : decode cX12_lies 27 = .ok (.iaload, 1) := by decide +kernel
theorem dX12_lies_28 : decode cX12_lies 28 = .ok (.iload_n 2, 1) := by decide +kernel
theorem dX12_lies_29 : decode cX12_lies 29 = .ok (.if_icmp .eq 29, 3) := by decide +kernel
theorem dX12_lies_32 : decode cX12_lies 32 = .ok (.aload_n 0, 1) := by decide +kernel
theorem dX12_lies_33 : decode cX12_lies 33 = .ok (.getfield 44, 3) := by decide +kernel
theorem dX12_lies_36 : decode cX12_lies 36 = .ok (.bipush 12, 2) := by decide +kernel
theorem dX12_lies_38 : decode cX12_lies 38 = .ok (.iload_n 1, 1) := by decide +kernel
theorem dX12_lies_39 : decode cX12_lies 39 = .ok (.imul, 1) := by decide +kernel
theorem dX12_lies_40 : decode cX12_lies 40 = .ok (.iload_n 2, 1) := by decide +kernel
theorem dX12_lies_41 : decode cX12_lies 41 = .ok (.iadd, 1) := by decide +kernel
theorem dX12_lies_42 : decode cX12_lies 42 = .ok (.iaload, 1) := by decide +kernel
theorem dX12_lies_43 : decode cX12_lies 43 = .ok (.iload 4, 2) := by decide +kernel
theorem dX12_lies_45 : decode cX12_lies 45 = .ok (.invokestatic 155, 3) := by decide +kernel
theorem dX12_lies_48 : decode cX12_lies 48 = .ok (.ifCond .ne 10, 3) := by decide +kernel
theorem dX12_lies_51 : decode cX12_lies 51 = .ok (.iload_n 3, 1) := by decide +kernel
theorem dX12_lies_52 : decode cX12_lies 52 = .ok (.iconst 1, 1) := by decide +kernel
theorem dX12_lies_53 : decode cX12_lies 53 = .ok (.iload 4, 2) := by decide +kernel
theorem dX12_lies_55 : decode cX12_lies 55 = .ok (.ishl, 1) := by decide +kernel
theorem dX12_lies_56 : decode cX12_lies 56 = .ok (.ior, 1) := by decide +kernel
theorem dX12_lies_57 : decode cX12_lies 57 = .ok (.istore_n 3, 1) := by decide +kernel
theorem dX12_lies_58 : decode cX12_lies 58 = .ok (.iinc 4 1, 3) := by decide +kernel
theorem dX12_lies_61 : decode cX12_lies 61 = .ok (.goto (-56), 3) := by decide +kernel
theorem dX12_lies_64 : decode cX12_lies 64 = .ok (.iload_n 3, 1) := by decide +kernel
theorem dX12_lies_65 : decode cX12_lies 65 = .ok (.ireturn, 1) := by decide +kernel
theorem dX12_seenIn_0 : decode cX12_seenIn 0 = .ok (.aload_n 0, 1) := by decide +kernel
theorem dX12_seenIn_1 : decode cX12_seenIn 1 = .ok (.getfield 26, 3) := by decide +kernel
theorem dX12_seenIn_4 : decode cX12_seenIn 4 = .ok (.iload_n 1, 1) := by decide +kernel
theorem dX12_seenIn_5 : decode cX12_seenIn 5 = .ok (.iaload, 1) := by decide +kernel
theorem dX12_seenIn_6 : decode cX12_seenIn 6 = .ok (.iconst 1, 1) := by decide +kernel
theorem dX12_seenIn_7 : decode cX12_seenIn 7 = .ok (.isub, 1) := by decide +kernel
theorem dX12_seenIn_8 : decode cX12_seenIn 8 = .ok (.istore 4, 2) := by decide +kernel
theorem dX12_seenIn_10 : decode cX12_seenIn 10 = .ok (.iload 4, 2) := by decide +kernel
theorem dX12_seenIn_12 : decode cX12_seenIn 12 = .ok (.ifCond .lt 32, 3) := by decide +kernel
theorem dX12_seenIn_15 : decode cX12_seenIn 15 = .ok (.iload_n 2, 1) := by decide +kernel
theorem dX12_seenIn_16 : decode cX12_seenIn 16 = .ok (.iload 4, 2) := by decide +kernel
theorem dX12_seenIn_18 : decode cX12_seenIn 18 = .ok (.invokestatic 155, 3) := by decide +kernel
theorem dX12_seenIn_21 : decode cX12_seenIn 21 = .ok (.ifCond .eq 17, 3) := by decide +kernel
theorem dX12_seenIn_24 : decode cX12_seenIn 24 = .ok (.aload_n 0, 1) := by decide +kernel
theorem dX12_seenIn_25 : decode cX12_seenIn 25 = .ok (.iload_n 1, 1) := by decide +kernel
theorem dX12_seenIn_26 : decode cX12_seenIn 26 = .ok (.iload 4, 2) := by decide +kernel
theorem dX12_seenIn_28 : decode cX12_seenIn 28 = .ok (.invokevirtual 125, 3) := by decide +kernel
theorem dX12_seenIn_31 : decode cX12_seenIn 31 = .ok (.iload_n 3, 1) := by decide +kernel
theorem dX12_seenIn_32 : decode cX12_seenIn 32 = .ok (.if_icmp .lt 6, 3) := by decide +kernel
theorem dX12_seenIn_35 : decode cX12_seenIn 35 = .ok (.iload 4, 2) := by decide +kernel
theorem dX12_seenIn_37 : decode cX12_seenIn 37 = .ok (.ireturn, 1) := by decide +kernel
theorem dX12_seenIn_38 : decode cX12_seenIn 38 = .ok (.iinc 4 (-1), 3) := by decide +kernel
theorem dX12_seenIn_41 : decode cX12_seenIn 41 = .ok (.goto (-31), 3) := by decide +kernel
theorem dX12_seenIn_44 : decode cX12_seenIn 44 = .ok (.iconst (-1), 1) := by decide +kernel
theorem dX12_seenIn_45 : decode cX12_seenIn 45 = .ok (.ireturn, 1) := by decide +kernel
theorem dX12_seenAt_0 : decode cX12_seenAt 0 = .ok (.aload_n 0, 1) := by decide +kernel
theorem dX12_seenAt_1 : decode cX12_seenAt 1 = .ok (.iload_n 1, 1) := by decide +kernel
theorem dX12_seenAt_2 : decode cX12_seenAt 2 = .ok (.aload_n 0, 1) := by decide +kernel
theorem dX12_seenAt_3 : decode cX12_seenAt 3 = .ok (.iload_n 1, 1) := by decide +kernel
theorem dX12_seenAt_4 : decode cX12_seenAt 4 = .ok (.iload_n 2, 1) := by decide +kernel
theorem dX12_seenAt_5 : decode cX12_seenAt 5 = .ok (.invokevirtual 152, 3) := by decide +kernel
theorem dX12_seenAt_8 : decode cX12_seenAt 8 = .ok (.aload_n 0, 1) := by decide +kernel
theorem dX12_seenAt_9 : decode cX12_seenAt 9 = .ok (.iload_n 1, 1) := by decide +kernel
theorem dX12_seenAt_10 : decode cX12_seenAt 10 = .ok (.iload_n 2, 1) := by decide +kernel
theorem dX12_seenAt_11 : decode cX12_seenAt 11 = .ok (.iload_n 3, 1) := by decide +kernel
theorem dX12_seenAt_12 : decode cX12_seenAt 12 = .ok (.invokevirtual 118, 3) := by decide +kernel
theorem dX12_seenAt_15 : decode cX12_seenAt 15 = .ok (.invokevirtual 220, 3) := by decide +kernel
theorem dX12_seenAt_18 : decode cX12_seenAt 18 = .ok (.ireturn, 1) := by decide +kernel
theorem dX12_hard_0 : decode cX12_hard 0 = .ok (.aload_n 0, 1) := by decide +kernel
theorem dX12_hard_1 : decode cX12_hard 1 = .ok (.getfield 20, 3) := by decide +kernel
theorem dX12_hard_4 : decode cX12_hard 4 = .ok (.iload_n 1, 1) := by decide +kernel
theorem dX12_hard_5 : decode cX12_hard 5 = .ok (.iaload, 1) := by decide +kernel
theorem dX12_hard_6 : decode cX12_hard 6 = .ok (.istore 4, 2) := by decide +kernel
theorem dX12_hard_8 : decode cX12_hard 8 = .ok (.iload 4, 2) := by decide +kernel
theorem dX12_hard_10 : decode cX12_hard 10 = .ok (.iconst 2, 1) := by decide +kernel
theorem dX12_hard_11 : decode cX12_hard 11 = .ok (.if_icmp .eq 9, 3) := by decide +kernel
theorem dX12_hard_14 : decode cX12_hard 14 = .ok (.iload 4, 2) := by decide +kernel
theorem dX12_hard_16 : decode cX12_hard 16 = .ok (.iconst 4, 1) := by decide +kernel
theorem dX12_hard_17 : decode cX12_hard 17 = .ok (.if_icmp .le 18, 3) := by decide +kernel
theorem dX12_hard_20 : decode cX12_hard 20 = .ok (.iconst 0, 1) := by decide +kernel
theorem dX12_hard_21 : decode cX12_hard 21 = .ok (.iload_n 3, 1) := by decide +kernel
theorem dX12_hard_22 : decode cX12_hard 22 = .ok (.aload_n 0, 1) := by decide +kernel
theorem dX12_hard_23 : decode cX12_hard 23 = .ok (.getfield 23, 3) := by decide +kernel
theorem dX12_hard_26 : decode cX12_hard 26 = .ok (.iload_n 1, 1) := by decide +kernel
theorem dX12_hard_27 : decode cX12_hard 27 = .ok (.iaload, 1) := by decide +kernel
theorem dX12_hard_28 : decode cX12_hard 28 = .ok (.isub, 1) := by decide +kernel
theorem dX12_hard_29 : decode cX12_hard 29 = .ok (.invokestatic 223, 3) := by decide +kernel
theorem dX12_hard_32 : decode cX12_hard 32 = .ok (.goto 4, 3) := by decide +kernel
theorem dX12_hard_35 : decode cX12_hard 35 = .ok (.iload_n 3, 1) := by decide +kernel
theorem dX12_hard_36 : decode cX12_hard 36 = .ok (.istore 5, 2) := by decide +kernel
theorem dX12_hard_38 : decode cX12_hard 38 = .ok (.iload 4, 2) := by decide +kernel
theorem dX12_hard_40 : decode cX12_hard 40 = .ok (.iconst 5, 1) := by decide +kernel
theorem dX12_hard_41 : decode cX12_hard 41 = .ok (.if_icmp .ne 12, 3) := by decide +kernel
theorem dX12_hard_44 : decode cX12_hard 44 = .ok (.iload_n 2, 1) := by decide +kernel
theorem dX12_hard_45 : decode cX12_hard 45 = .ok (.iconst 4, 1) := by decide +kernel
theorem dX12_hard_46 : decode cX12_hard 46 = .ok (.if_icmp .ge 7, 3) := by decide +kernel
theorem dX12_hard_49 : decode cX12_hard 49 = .ok (.iconst 0, 1) := by decide +kernel
theorem dX12_hard_50 : decode cX12_hard 50 = .ok (.goto 19, 3) := by decide +kernel
theorem dX12_hard_53 : decode cX12_hard 53 = .ok (.iload 4, 2) := by decide +kernel
theorem dX12_hard_55 : decode cX12_hard 55 = .ok (.bipush 6, 2) := by decide +kernel
theorem dX12_hard_57 : decode cX12_hard 57 = .ok (.if_icmp .ne 10, 3) := by decide +kernel
theorem dX12_hard_60 : decode cX12_hard 60 = .ok (.iconst 2, 1) := by decide +kernel
theorem dX12_hard_61 : decode cX12_hard 61 = .ok (.iload 5, 2) := by decide +kernel
theorem dX12_hard_63 : decode cX12_hard 63 = .ok (.imul, 1) := by decide +kernel
theorem dX12_hard_64 : decode cX12_hard 64 = .ok (.goto 5, 3) := by decide +kernel
theorem dX12_hard_67 : decode cX12_hard 67 = .ok (.iload 5, 2) := by decide +kernel
theorem dX12_hard_69 : decode cX12_hard 69 = .ok (.ireturn, 1) := by decide +kernel
theorem dX12_behind_0 : decode cX12_behind 0 = .ok (.aload_n 0, 1) := by decide +kernel
theorem dX12_behind_1 : decode cX12_behind 1 = .ok (.iload_n 1, 1) := by decide +kernel
theorem dX12_behind_2 : decode cX12_behind 2 = .ok (.iload_n 2, 1) := by decide +kernel
theorem dX12_behind_3 : decode cX12_behind 3 = .ok (.invokevirtual 152, 3) := by decide +kernel
theorem dX12_behind_6 : decode cX12_behind 6 = .ok (.istore 4, 2) := by decide +kernel
theorem dX12_behind_8 : decode cX12_behind 8 = .ok (.aload_n 0, 1) := by decide +kernel
theorem dX12_behind_9 : decode cX12_behind 9 = .ok (.iload_n 1, 1) := by decide +kernel
theorem dX12_behind_10 : decode cX12_behind 10 = .ok (.iload_n 2, 1) := by decide +kernel
theorem dX12_behind_11 : decode cX12_behind 11 = .ok (.iload_n 3, 1) := by decide +kernel
theorem dX12_behind_12 : decode cX12_behind 12 = .ok (.invokevirtual 122, 3) := by decide +kernel
theorem dX12_behind_15 : decode cX12_behind 15 = .ok (.istore 5, 2) := by decide +kernel
theorem dX12_behind_17 : decode cX12_behind 17 = .ok (.iload 4, 2) := by decide +kernel
theorem dX12_behind_19 : decode cX12_behind 19 = .ok (.ifCond .eq 62, 3) := by decide +kernel
theorem dX12_behind_22 : decode cX12_behind 22 = .ok (.bipush 31, 2) := by decide +kernel
theorem dX12_behind_24 : decode cX12_behind 24 = .ok (.iload 4, 2) := by decide +kernel
theorem dX12_behind_26 : decode cX12_behind 26 = .ok (.invokestatic 228, 3) := by decide +kernel
theorem dX12_behind_29 : decode cX12_behind 29 = .ok (.isub, 1) := by decide +kernel
theorem dX12_behind_30 : decode cX12_behind 30 = .ok (.istore 6, 2) := by decide +kernel
theorem dX12_behind_32 : decode cX12_behind 32 = .ok (.aload_n 0, 1) := by decide +kernel
theorem dX12_behind_33 : decode cX12_behind 33 = .ok (.getfield 35, 3) := by decide +kernel
theorem dX12_behind_36 : decode cX12_behind 36 = .ok (.bipush 8, 2) := by decide +kernel
theorem dX12_behind_38 : decode cX12_behind 38 = .ok (.iload_n 1, 1) := by decide +kernel
theorem dX12_behind_39 : decode cX12_behind 39 = .ok (.imul, 1) := by decide +kernel
theorem dX12_behind_40 : decode cX12_behind 40 = .ok (.iload 6, 2) := by decide +kernel
theorem dX12_behind_42 : decode cX12_behind 42 = .ok (.iadd, 1) := by decide +kernel
theorem dX12_behind_43 : decode cX12_behind 43 = .ok (.iaload, 1) := by decide +kernel
theorem dX12_behind_44 : decode cX12_behind 44 = .ok (.iload 5, 2) := by decide +kernel
theorem dX12_behind_46 : decode cX12_behind 46 = .ok (.if_icmp .le 6, 3) := by decide +kernel
theorem dX12_behind_49 : decode cX12_behind 49 = .ok (.iload 4, 2) := by decide +kernel
theorem dX12_behind_51 : decode cX12_behind 51 = .ok (.ireturn, 1) := by decide +kernel
theorem dX12_behind_52 : decode cX12_behind 52 = .ok (.iload 5, 2) := by decide +kernel
theorem dX12_behind_54 : decode cX12_behind 54 = .ok (.aload_n 0, 1) := by decide +kernel
theorem dX12_behind_55 : decode cX12_behind 55 = .ok (.getfield 35, 3) := by decide +kernel
theorem dX12_behind_58 : decode cX12_behind 58 = .ok (.bipush 8, 2) := by decide +kernel
theorem dX12_behind_60 : decode cX12_behind 60 = .ok (.iload_n 1, 1) := by decide +kernel
theorem dX12_behind_61 : decode cX12_behind 61 = .ok (.imul, 1) := by decide +kernel
theorem dX12_behind_62 : decode cX12_behind 62 = .ok (.iload 6, 2) := by decide +kernel
theorem dX12_behind_64 : decode cX12_behind 64 = .ok (.iadd, 1) := by decide +kernel
theorem dX12_behind_65 : decode cX12_behind 65 = .ok (.iaload, 1) := by decide +kernel
theorem dX12_behind_66 : decode cX12_behind 66 = .ok (.isub, 1) := by decide +kernel
theorem dX12_behind_67 : decode cX12_behind 67 = .ok (.istore 5, 2) := by decide +kernel
theorem dX12_behind_69 : decode cX12_behind 69 = .ok (.iload 4, 2) := by decide +kernel
theorem dX12_behind_71 : decode cX12_behind 71 = .ok (.iconst 1, 1) := by decide +kernel
theorem dX12_behind_72 : decode cX12_behind 72 = .ok (.iload 6, 2) := by decide +kernel
theorem dX12_behind_74 : decode cX12_behind 74 = .ok (.ishl, 1) := by decide +kernel
theorem dX12_behind_75 : decode cX12_behind 75 = .ok (.ixor, 1) := by decide +kernel
theorem dX12_behind_76 : decode cX12_behind 76 = .ok (.istore 4, 2) := by decide +kernel
theorem dX12_behind_78 : decode cX12_behind 78 = .ok (.goto (-61), 3) := by decide +kernel
theorem dX12_behind_81 : decode cX12_behind 81 = .ok (.iload 4, 2) := by decide +kernel
theorem dX12_behind_83 : decode cX12_behind 83 = .ok (.ireturn, 1) := by decide +kernel
theorem dX12_sum_0 : decode cX12_sum 0 = .ok (.iconst 0, 1) := by decide +kernel
theorem dX12_sum_1 : decode cX12_sum 1 = .ok (.istore_n 3, 1) := by decide +kernel
theorem dX12_sum_2 : decode cX12_sum 2 = .ok (.iconst 0, 1) := by decide +kernel
theorem dX12_sum_3 : decode cX12_sum 3 = .ok (.istore 4, 2) := by decide +kernel
theorem dX12_sum_5 : decode cX12_sum 5 = .ok (.iload 4, 2) := by decide +kernel
theorem dX12_sum_7 : decode cX12_sum 7 = .ok (.aload_n 0, 1) := by decide +kernel
theorem dX12_sum_8 : decode cX12_sum 8 = .ok (.getfield 26, 3) := by decide +kernel
theorem dX12_sum_11 : decode cX12_sum 11 = .ok (.iload_n 1, 1) := by decide +kernel
theorem dX12_sum_12 : decode cX12_sum 12 = .ok (.iaload, 1) := by decide +kernel
theorem dX12_sum_13 : decode cX12_sum 13 = .ok (.if_icmp .ge 33, 3) := by decide +kernel
theorem dX12_sum_16 : decode cX12_sum 16 = .ok (.iload_n 2, 1) := by decide +kernel
theorem dX12_sum_17 : decode cX12_sum 17 = .ok (.iload 4, 2) := by decide +kernel
theorem dX12_sum_19 : decode cX12_sum 19 = .ok (.invokestatic 155, 3) := by decide +kernel
theorem dX12_sum_22 : decode cX12_sum 22 = .ok (.ifCond .eq 18, 3) := by decide +kernel
theorem dX12_sum_25 : decode cX12_sum 25 = .ok (.iload_n 3, 1) := by decide +kernel
theorem dX12_sum_26 : decode cX12_sum 26 = .ok (.aload_n 0, 1) := by decide +kernel
theorem dX12_sum_27 : decode cX12_sum 27 = .ok (.getfield 35, 3) := by decide +kernel
theorem dX12_sum_30 : decode cX12_sum 30 = .ok (.bipush 8, 2) := by decide +kernel
theorem dX12_sum_32 : decode cX12_sum 32 = .ok (.iload_n 1, 1) := by decide +kernel
theorem dX12_sum_33 : decode cX12_sum 33 = .ok (.imul, 1) := by decide +kernel
theorem dX12_sum_34 : decode cX12_sum 34 = .ok (.iload 4, 2) := by decide +kernel
theorem dX12_sum_36 : decode cX12_sum 36 = .ok (.iadd, 1) := by decide +kernel
theorem dX12_sum_37 : decode cX12_sum 37 = .ok (.iaload, 1) := by decide +kernel
theorem dX12_sum_38 : decode cX12_sum 38 = .ok (.iadd, 1) := by decide +kernel
theorem dX12_sum_39 : decode cX12_sum 39 = .ok (.istore_n 3, 1) := by decide +kernel
theorem dX12_sum_40 : decode cX12_sum 40 = .ok (.iinc 4 1, 3) := by decide +kernel
theorem dX12_sum_43 : decode cX12_sum 43 = .ok (.goto (-38), 3) := by decide +kernel
theorem dX12_sum_46 : decode cX12_sum 46 = .ok (.iload_n 3, 1) := by decide +kernel
theorem dX12_sum_47 : decode cX12_sum 47 = .ok (.ireturn, 1) := by decide +kernel
theorem dX12_deepOf_0 : decode cX12_deepOf 0 = .ok (.aload_n 0, 1) := by decide +kernel
theorem dX12_deepOf_1 : decode cX12_deepOf 1 = .ok (.iload_n 1, 1) := by decide +kernel
theorem dX12_deepOf_2 : decode cX12_deepOf 2 = .ok (.aload_n 0, 1) := by decide +kernel
theorem dX12_deepOf_3 : decode cX12_deepOf 3 = .ok (.iload_n 1, 1) := by decide +kernel
theorem dX12_deepOf_4 : decode cX12_deepOf 4 = .ok (.iload_n 2, 1) := by decide +kernel
theorem dX12_deepOf_5 : decode cX12_deepOf 5 = .ok (.invokevirtual 152, 3) := by decide +kernel
theorem dX12_deepOf_8 : decode cX12_deepOf 8 = .ok (.invokevirtual 231, 3) := by decide +kernel
theorem dX12_deepOf_11 : decode cX12_deepOf 11 = .ok (.ireturn, 1) := by decide +kernel
theorem dX12_skinOf_0 : decode cX12_skinOf 0 = .ok (.iconst 0, 1) := by decide +kernel
theorem dX12_skinOf_1 : decode cX12_skinOf 1 = .ok (.istore_n 2, 1) := by decide +kernel
theorem dX12_skinOf_2 : decode cX12_skinOf 2 = .ok (.iconst 0, 1) := by decide +kernel
theorem dX12_skinOf_3 : decode cX12_skinOf 3 = .ok (.istore_n 3, 1) := by decide +kernel
theorem dX12_skinOf_4 : decode cX12_skinOf 4 = .ok (.iload_n 3, 1) := by decide +kernel
theorem dX12_skinOf_5 : decode cX12_skinOf 5 = .ok (.bipush 12, 2) := by decide +kernel
theorem dX12_skinOf_7 : decode cX12_skinOf 7 = .ok (.if_icmp .ge 18, 3) := by decide +kernel
theorem dX12_skinOf_10 : decode cX12_skinOf 10 = .ok (.iload_n 2, 1) := by decide +kernel
theorem dX12_skinOf_11 : decode cX12_skinOf 11 = .ok (.aload_n 0, 1) := by decide +kernel
theorem dX12_skinOf_12 : decode cX12_skinOf 12 = .ok (.iload_n 1, 1) := by decide +kernel
theorem dX12_skinOf_13 : decode cX12_skinOf 13 = .ok (.iload_n 3, 1) := by decide +kernel
theorem dX12_skinOf_14 : decode cX12_skinOf 14 = .ok (.invokevirtual 234, 3) := by decide +kernel
theorem dX12_skinOf_17 : decode cX12_skinOf 17 = .ok (.iadd, 1) := by decide +kernel
theorem dX12_skinOf_18 : decode cX12_skinOf 18 = .ok (.istore_n 2, 1) := by decide +kernel
theorem dX12_skinOf_19 : decode cX12_skinOf 19 = .ok (.iinc 3 1, 3) := by decide +kernel
theorem dX12_skinOf_22 : decode cX12_skinOf 22 = .ok (.goto (-18), 3) := by decide +kernel
theorem dX12_skinOf_25 : decode cX12_skinOf 25 = .ok (.iload_n 2, 1) := by decide +kernel
theorem dX12_skinOf_26 : decode cX12_skinOf 26 = .ok (.ireturn, 1) := by decide +kernel
theorem dX12_seen_0 : decode cX12_seen 0 = .ok (.aload_n 0, 1) := by decide +kernel
theorem dX12_seen_1 : decode cX12_seen 1 = .ok (.iload_n 1, 1) := by decide +kernel
theorem dX12_seen_2 : decode cX12_seen 2 = .ok (.invokevirtual 94, 3) := by decide +kernel
theorem dX12_seen_5 : decode cX12_seen 5 = .ok (.ifCond .ne 9, 3) := by decide +kernel
theorem dX12_seen_8 : decode cX12_seen 8 = .ok (.aload_n 0, 1) := by decide +kernel
theorem dX12_seen_9 : decode cX12_seen 9 = .ok (.iconst (-1), 1) := by decide +kernel
theorem dX12_seen_10 : decode cX12_seen 10 = .ok (.invokevirtual 237, 3) := by decide +kernel
theorem dX12_seen_13 : decode cX12_seen 13 = .ok (.ireturn, 1) := by decide +kernel
theorem dX12_seen_14 : decode cX12_seen 14 = .ok (.iload_n 2, 1) := by decide +kernel
theorem dX12_seen_15 : decode cX12_seen 15 = .ok (.invokestatic 142, 3) := by decide +kernel
theorem dX12_seen_18 : decode cX12_seen 18 = .ok (.ifCond .ne 10, 3) := by decide +kernel
theorem dX12_seen_21 : decode cX12_seen 21 = .ok (.aload_n 0, 1) := by decide +kernel
theorem dX12_seen_22 : decode cX12_seen 22 = .ok (.bipush (-5), 2) := by decide +kernel
theorem dX12_seen_24 : decode cX12_seen 24 = .ok (.invokevirtual 237, 3) := by decide +kernel
theorem dX12_seen_27 : decode cX12_seen 27 = .ok (.ireturn, 1) := by decide +kernel
theorem dX12_seen_28 : decode cX12_seen 28 = .ok (.iload_n 3, 1) := by decide +kernel
theorem dX12_seen_29 : decode cX12_seen 29 = .ok (.invokestatic 240, 3) := by decide +kernel
theorem dX12_seen_32 : decode cX12_seen 32 = .ok (.ifCond .eq 13, 3) := by decide +kernel
theorem dX12_seen_35 : decode cX12_seen 35 = .ok (.aload_n 0, 1) := by decide +kernel
theorem dX12_seen_36 : decode cX12_seen 36 = .ok (.iload_n 1, 1) := by decide +kernel
theorem dX12_seen_37 : decode cX12_seen 37 = .ok (.iload_n 2, 1) := by decide +kernel
theorem dX12_seen_38 : decode cX12_seen 38 = .ok (.iload_n 3, 1) := by decide +kernel
theorem dX12_seen_39 : decode cX12_seen 39 = .ok (.invokevirtual 243, 3) := by decide +kernel
theorem dX12_seen_42 : decode cX12_seen 42 = .ok (.goto 9, 3) := by decide +kernel
theorem dX12_seen_45 : decode cX12_seen 45 = .ok (.aload_n 0, 1) := by decide +kernel
theorem dX12_seen_46 : decode cX12_seen 46 = .ok (.bipush (-6), 2) := by decide +kernel
theorem dX12_seen_48 : decode cX12_seen 48 = .ok (.invokevirtual 237, 3) := by decide +kernel
theorem dX12_seen_51 : decode cX12_seen 51 = .ok (.ireturn, 1) := by decide +kernel
theorem dX12_wet_0 : decode cX12_wet 0 = .ok (.aload_n 0, 1) := by decide +kernel
theorem dX12_wet_1 : decode cX12_wet 1 = .ok (.iload_n 1, 1) := by decide +kernel
theorem dX12_wet_2 : decode cX12_wet 2 = .ok (.invokevirtual 94, 3) := by decide +kernel
theorem dX12_wet_5 : decode cX12_wet 5 = .ok (.ifCond .ne 9, 3) := by decide +kernel
theorem dX12_wet_8 : decode cX12_wet 8 = .ok (.aload_n 0, 1) := by decide +kernel
theorem dX12_wet_9 : decode cX12_wet 9 = .ok (.iconst (-1), 1) := by decide +kernel
theorem dX12_wet_10 : decode cX12_wet 10 = .ok (.invokevirtual 98, 3) := by decide +kernel
theorem dX12_wet_13 : decode cX12_wet 13 = .ok (.ireturn, 1) := by decide +kernel
theorem dX12_wet_14 : decode cX12_wet 14 = .ok (.iload_n 2, 1) := by decide +kernel
theorem dX12_wet_15 : decode cX12_wet 15 = .ok (.invokestatic 142, 3) := by decide +kernel
theorem dX12_wet_18 : decode cX12_wet 18 = .ok (.ifCond .ne 10, 3) := by decide +kernel
theorem dX12_wet_21 : decode cX12_wet 21 = .ok (.aload_n 0, 1) := by decide +kernel
theorem dX12_wet_22 : decode cX12_wet 22 = .ok (.bipush (-5), 2) := by decide +kernel
theorem dX12_wet_24 : decode cX12_wet 24 = .ok (.invokevirtual 98, 3) := by decide +kernel
theorem dX12_wet_27 : decode cX12_wet 27 = .ok (.ireturn, 1) := by decide +kernel
theorem dX12_wet_28 : decode cX12_wet 28 = .ok (.iload_n 3, 1) := by decide +kernel
theorem dX12_wet_29 : decode cX12_wet 29 = .ok (.invokestatic 240, 3) := by decide +kernel
theorem dX12_wet_32 : decode cX12_wet 32 = .ok (.ifCond .eq 13, 3) := by decide +kernel
theorem dX12_wet_35 : decode cX12_wet 35 = .ok (.aload_n 0, 1) := by decide +kernel
theorem dX12_wet_36 : decode cX12_wet 36 = .ok (.iload_n 1, 1) := by decide +kernel
theorem dX12_wet_37 : decode cX12_wet 37 = .ok (.iload_n 2, 1) := by decide +kernel
theorem dX12_wet_38 : decode cX12_wet 38 = .ok (.iload_n 3, 1) := by decide +kernel
theorem dX12_wet_39 : decode cX12_wet 39 = .ok (.invokevirtual 118, 3) := by decide +kernel
theorem dX12_wet_42 : decode cX12_wet 42 = .ok (.goto 9, 3) := by decide +kernel
theorem dX12_wet_45 : decode cX12_wet 45 = .ok (.aload_n 0, 1) := by decide +kernel
theorem dX12_wet_46 : decode cX12_wet 46 = .ok (.bipush (-6), 2) := by decide +kernel
theorem dX12_wet_48 : decode cX12_wet 48 = .ok (.invokevirtual 98, 3) := by decide +kernel
theorem dX12_wet_51 : decode cX12_wet 51 = .ok (.ireturn, 1) := by decide +kernel
theorem dX12_deep_0 : decode cX12_deep 0 = .ok (.aload_n 0, 1) := by decide +kernel
theorem dX12_deep_1 : decode cX12_deep 1 = .ok (.iload_n 1, 1) := by decide +kernel
theorem dX12_deep_2 : decode cX12_deep 2 = .ok (.invokevirtual 94, 3) := by decide +kernel
theorem dX12_deep_5 : decode cX12_deep 5 = .ok (.ifCond .ne 9, 3) := by decide +kernel
theorem dX12_deep_8 : decode cX12_deep 8 = .ok (.aload_n 0, 1) := by decide +kernel
theorem dX12_deep_9 : decode cX12_deep 9 = .ok (.iconst (-1), 1) := by decide +kernel
theorem dX12_deep_10 : decode cX12_deep 10 = .ok (.invokevirtual 98, 3) := by decide +kernel
theorem dX12_deep_13 : decode cX12_deep 13 = .ok (.ireturn, 1) := by decide +kernel
theorem dX12_deep_14 : decode cX12_deep 14 = .ok (.iload_n 2, 1) := by decide +kernel
theorem dX12_deep_15 : decode cX12_deep 15 = .ok (.invokestatic 142, 3) := by decide +kernel
theorem dX12_deep_18 : decode cX12_deep 18 = .ok (.ifCond .eq 12, 3) := by decide +kernel
theorem dX12_deep_21 : decode cX12_deep 21 = .ok (.aload_n 0, 1) := by decide +kernel
theorem dX12_deep_22 : decode cX12_deep 22 = .ok (.iload_n 1, 1) := by decide +kernel
theorem dX12_deep_23 : decode cX12_deep 23 = .ok (.iload_n 2, 1) := by decide +kernel
theorem dX12_deep_24 : decode cX12_deep 24 = .ok (.invokevirtual 234, 3) := by decide +kernel
theorem dX12_deep_27 : decode cX12_deep 27 = .ok (.goto 9, 3) := by decide +kernel
theorem dX12_deep_30 : decode cX12_deep 30 = .ok (.aload_n 0, 1) := by decide +kernel
theorem dX12_deep_31 : decode cX12_deep 31 = .ok (.bipush (-5), 2) := by decide +kernel
theorem dX12_deep_33 : decode cX12_deep 33 = .ok (.invokevirtual 98, 3) := by decide +kernel
theorem dX12_deep_36 : decode cX12_deep 36 = .ok (.ireturn, 1) := by decide +kernel
theorem dX12_skin_0 : decode cX12_skin 0 = .ok (.aload_n 0, 1) := by decide +kernel
theorem dX12_skin_1 : decode cX12_skin 1 = .ok (.iload_n 1, 1) := by decide +kernel
theorem dX12_skin_2 : decode cX12_skin 2 = .ok (.invokevirtual 94, 3) := by decide +kernel
theorem dX12_skin_5 : decode cX12_skin 5 = .ok (.ifCond .eq 11, 3) := by decide +kernel
theorem dX12_skin_8 : decode cX12_skin 8 = .ok (.aload_n 0, 1) := by decide +kernel
theorem dX12_skin_9 : decode cX12_skin 9 = .ok (.iload_n 1, 1) := by decide +kernel
theorem dX12_skin_10 : decode cX12_skin 10 = .ok (.invokevirtual 115, 3) := by decide +kernel
theorem dX12_skin_13 : decode cX12_skin 13 = .ok (.goto 8, 3) := by decide +kernel
theorem dX12_skin_16 : decode cX12_skin 16 = .ok (.aload_n 0, 1) := by decide +kernel
theorem dX12_skin_17 : decode cX12_skin 17 = .ok (.iconst (-1), 1) := by decide +kernel
theorem dX12_skin_18 : decode cX12_skin 18 = .ok (.invokevirtual 98, 3) := by decide +kernel
theorem dX12_skin_21 : decode cX12_skin 21 = .ok (.ireturn, 1) := by decide +kernel
theorem dX12_hailed_0 : decode cX12_hailed 0 = .ok (.aload_n 0, 1) := by decide +kernel
theorem dX12_hailed_1 : decode cX12_hailed 1 = .ok (.iload_n 1, 1) := by decide +kernel
theorem dX12_hailed_2 : decode cX12_hailed 2 = .ok (.invokevirtual 94, 3) := by decide +kernel
theorem dX12_hailed_5 : decode cX12_hailed 5 = .ok (.ifCond .ne 9, 3) := by decide +kernel
theorem dX12_hailed_8 : decode cX12_hailed 8 = .ok (.aload_n 0, 1) := by decide +kernel
theorem dX12_hailed_9 : decode cX12_hailed 9 = .ok (.iconst (-1), 1) := by decide +kernel
theorem dX12_hailed_10 : decode cX12_hailed 10 = .ok (.invokevirtual 98, 3) := by decide +kernel
theorem dX12_hailed_13 : decode cX12_hailed 13 = .ok (.ireturn, 1) := by decide +kernel
theorem dX12_hailed_14 : decode cX12_hailed 14 = .ok (.iload_n 2, 1) := by decide +kernel
theorem dX12_hailed_15 : decode cX12_hailed 15 = .ok (.invokestatic 142, 3) := by decide +kernel
theorem dX12_hailed_18 : decode cX12_hailed 18 = .ok (.ifCond .ne 10, 3) := by decide +kernel
theorem dX12_hailed_21 : decode cX12_hailed 21 = .ok (.aload_n 0, 1) := by decide +kernel
theorem dX12_hailed_22 : decode cX12_hailed 22 = .ok (.bipush (-5), 2) := by decide +kernel
theorem dX12_hailed_24 : decode cX12_hailed 24 = .ok (.invokevirtual 98, 3) := by decide +kernel
theorem dX12_hailed_27 : decode cX12_hailed 27 = .ok (.ireturn, 1) := by decide +kernel
theorem dX12_hailed_28 : decode cX12_hailed 28 = .ok (.iload_n 3, 1) := by decide +kernel
theorem dX12_hailed_29 : decode cX12_hailed 29 = .ok (.invokestatic 240, 3) := by decide +kernel
theorem dX12_hailed_32 : decode cX12_hailed 32 = .ok (.ifCond .eq 13, 3) := by decide +kernel
theorem dX12_hailed_35 : decode cX12_hailed 35 = .ok (.aload_n 0, 1) := by decide +kernel
theorem dX12_hailed_36 : decode cX12_hailed 36 = .ok (.iload_n 1, 1) := by decide +kernel
theorem dX12_hailed_37 : decode cX12_hailed 37 = .ok (.iload_n 2, 1) := by decide +kernel
theorem dX12_hailed_38 : decode cX12_hailed 38 = .ok (.iload_n 3, 1) := by decide +kernel
theorem dX12_hailed_39 : decode cX12_hailed 39 = .ok (.invokevirtual 246, 3) := by decide +kernel
theorem dX12_hailed_42 : decode cX12_hailed 42 = .ok (.goto 9, 3) := by decide +kernel
theorem dX12_hailed_45 : decode cX12_hailed 45 = .ok (.aload_n 0, 1) := by decide +kernel
theorem dX12_hailed_46 : decode cX12_hailed 46 = .ok (.bipush (-6), 2) := by decide +kernel
theorem dX12_hailed_48 : decode cX12_hailed 48 = .ok (.invokevirtual 98, 3) := by decide +kernel
theorem dX12_hailed_51 : decode cX12_hailed 51 = .ok (.ireturn, 1) := by decide +kernel
theorem dX12_razor_0 : decode cX12_razor 0 = .ok (.aload_n 0, 1) := by decide +kernel
theorem dX12_razor_1 : decode cX12_razor 1 = .ok (.iload_n 1, 1) := by decide +kernel
theorem dX12_razor_2 : decode cX12_razor 2 = .ok (.iload_n 2, 1) := by decide +kernel
theorem dX12_razor_3 : decode cX12_razor 3 = .ok (.invokevirtual 149, 3) := by decide +kernel
theorem dX12_razor_6 : decode cX12_razor 6 = .ok (.ifCond .ne 9, 3) := by decide +kernel
theorem dX12_razor_9 : decode cX12_razor 9 = .ok (.aload_n 0, 1) := by decide +kernel
theorem dX12_razor_10 : decode cX12_razor 10 = .ok (.iconst (-1), 1) := by decide +kernel
theorem dX12_razor_11 : decode cX12_razor 11 = .ok (.invokevirtual 237, 3) := by decide +kernel
theorem dX12_razor_14 : decode cX12_razor 14 = .ok (.ireturn, 1) := by decide +kernel
theorem dX12_razor_15 : decode cX12_razor 15 = .ok (.iload_n 3, 1) := by decide +kernel
theorem dX12_razor_16 : decode cX12_razor 16 = .ok (.iconst 0, 1) := by decide +kernel
theorem dX12_razor_17 : decode cX12_razor 17 = .ok (.iconst 1, 1) := by decide +kernel
theorem dX12_razor_18 : decode cX12_razor 18 = .ok (.invokestatic 90, 3) := by decide +kernel
theorem dX12_razor_21 : decode cX12_razor 21 = .ok (.ifCond .ne 10, 3) := by decide +kernel
theorem dX12_razor_24 : decode cX12_razor 24 = .ok (.aload_n 0, 1) := by decide +kernel
theorem dX12_razor_25 : decode cX12_razor 25 = .ok (.bipush (-5), 2) := by decide +kernel
theorem dX12_razor_27 : decode cX12_razor 27 = .ok (.invokevirtual 237, 3) := by decide +kernel
theorem dX12_razor_30 : decode cX12_razor 30 = .ok (.ireturn, 1) := by decide +kernel
theorem dX12_razor_31 : decode cX12_razor 31 = .ok (.iconst (-1), 1) := by decide +kernel
theorem dX12_razor_32 : decode cX12_razor 32 = .ok (.istore 4, 2) := by decide +kernel
theorem dX12_razor_34 : decode cX12_razor 34 = .ok (.iconst 0, 1) := by decide +kernel
theorem dX12_razor_35 : decode cX12_razor 35 = .ok (.istore 5, 2) := by decide +kernel
theorem dX12_razor_37 : decode cX12_razor 37 = .ok (.iconst 0, 1) := by decide +kernel
theorem dX12_razor_38 : decode cX12_razor 38 = .ok (.istore 6, 2) := by decide +kernel
theorem dX12_razor_40 : decode cX12_razor 40 = .ok (.iload 6, 2) := by decide +kernel
theorem dX12_razor_42 : decode cX12_razor 42 = .ok (.bipush 12, 2) := by decide +kernel
theorem dX12_razor_44 : decode cX12_razor 44 = .ok (.if_icmp .ge 70, 3) := by decide +kernel
theorem dX12_razor_47 : decode cX12_razor 47 = .ok (.aload_n 0, 1) := by decide +kernel
theorem dX12_razor_48 : decode cX12_razor 48 = .ok (.iload_n 1, 1) := by decide +kernel
theorem dX12_razor_49 : decode cX12_razor 49 = .ok (.iload 6, 2) := by decide +kernel
theorem dX12_razor_51 : decode cX12_razor 51 = .ok (.invokevirtual 152, 3) := by decide +kernel
theorem dX12_razor_54 : decode cX12_razor 54 = .ok (.istore 7, 2) := by decide +kernel
theorem dX12_razor_56 : decode cX12_razor 56 = .ok (.iload 7, 2) := by decide +kernel
theorem dX12_razor_58 : decode cX12_razor 58 = .ok (.iload_n 2, 1) := by decide +kernel
theorem dX12_razor_59 : decode cX12_razor 59 = .ok (.invokestatic 155, 3) := by decide +kernel
theorem dX12_razor_62 : decode cX12_razor 62 = .ok (.ifCond .ne 6, 3) := by decide +kernel
theorem dX12_razor_65 : decode cX12_razor 65 = .ok (.goto 43, 3) := by decide +kernel
theorem dX12_razor_68 : decode cX12_razor 68 = .ok (.aload_n 0, 1) := by decide +kernel
theorem dX12_razor_69 : decode cX12_razor 69 = .ok (.iload_n 1, 1) := by decide +kernel
theorem dX12_razor_70 : decode cX12_razor 70 = .ok (.iload 7, 2) := by decide +kernel
theorem dX12_razor_72 : decode cX12_razor 72 = .ok (.iload_n 2, 1) := by decide +kernel
theorem dX12_razor_73 : decode cX12_razor 73 = .ok (.iconst 1, 1) := by decide +kernel
theorem dX12_razor_74 : decode cX12_razor 74 = .ok (.iadd, 1) := by decide +kernel
theorem dX12_razor_75 : decode cX12_razor 75 = .ok (.ishr, 1) := by decide +kernel
theorem dX12_razor_76 : decode cX12_razor 76 = .ok (.iload_n 2, 1) := by decide +kernel
theorem dX12_razor_77 : decode cX12_razor 77 = .ok (.iconst 1, 1) := by decide +kernel
theorem dX12_razor_78 : decode cX12_razor 78 = .ok (.iadd, 1) := by decide +kernel
theorem dX12_razor_79 : decode cX12_razor 79 = .ok (.ishl, 1) := by decide +kernel
theorem dX12_razor_80 : decode cX12_razor 80 = .ok (.invokevirtual 231, 3) := by decide +kernel
theorem dX12_razor_83 : decode cX12_razor 83 = .ok (.istore 8, 2) := by decide +kernel
theorem dX12_razor_85 : decode cX12_razor 85 = .ok (.iload 4, 2) := by decide +kernel
theorem dX12_razor_87 : decode cX12_razor 87 = .ok (.ifCond .lt 13, 3) := by decide +kernel
theorem dX12_razor_90 : decode cX12_razor 90 = .ok (.iload 8, 2) := by decide +kernel
theorem dX12_razor_92 : decode cX12_razor 92 = .ok (.iload 5, 2) := by decide +kernel
theorem dX12_razor_94 : decode cX12_razor 94 = .ok (.if_icmp .lt 6, 3) := by decide +kernel
theorem dX12_razor_97 : decode cX12_razor 97 = .ok (.goto 11, 3) := by decide +kernel
theorem dX12_razor_100 : decode cX12_razor 100 = .ok (.iload 6, 2) := by decide +kernel
theorem dX12_razor_102 : decode cX12_razor 102 = .ok (.istore 4, 2) := by decide +kernel
theorem dX12_razor_104 : decode cX12_razor 104 = .ok (.iload 8, 2) := by decide +kernel
theorem dX12_razor_106 : decode cX12_razor 106 = .ok (.istore 5, 2) := by decide +kernel
theorem dX12_razor_108 : decode cX12_razor 108 = .ok (.iinc 6 1, 3) := by decide +kernel
theorem dX12_razor_111 : decode cX12_razor 111 = .ok (.goto (-71), 3) := by decide +kernel
theorem dX12_razor_114 : decode cX12_razor 114 = .ok (.iload 4, 2) := by decide +kernel
theorem dX12_razor_116 : decode cX12_razor 116 = .ok (.iconst (-1), 1) := by decide +kernel
theorem dX12_razor_117 : decode cX12_razor 117 = .ok (.if_icmp .eq 7, 3) := by decide +kernel
theorem dX12_razor_120 : decode cX12_razor 120 = .ok (.iload_n 3, 1) := by decide +kernel
theorem dX12_razor_121 : decode cX12_razor 121 = .ok (.ifCond .ne 8, 3) := by decide +kernel
theorem dX12_razor_124 : decode cX12_razor 124 = .ok (.iload 4, 2) := by decide +kernel
theorem dX12_razor_126 : decode cX12_razor 126 = .ok (.goto 5, 3) := by decide +kernel
theorem dX12_razor_129 : decode cX12_razor 129 = .ok (.iload 5, 2) := by decide +kernel
theorem dX12_razor_131 : decode cX12_razor 131 = .ok (.ireturn, 1) := by decide +kernel
theorem dX12_seenAll_0 : decode cX12_seenAll 0 = .ok (.iconst 0, 1) := by decide +kernel
theorem dX12_seenAll_1 : decode cX12_seenAll 1 = .ok (.istore_n 3, 1) := by decide +kernel
theorem dX12_seenAll_2 : decode cX12_seenAll 2 = .ok (.iconst 0, 1) := by decide +kernel
theorem dX12_seenAll_3 : decode cX12_seenAll 3 = .ok (.istore 4, 2) := by decide +kernel
theorem dX12_seenAll_5 : decode cX12_seenAll 5 = .ok (.iload 4, 2) := by decide +kernel
theorem dX12_seenAll_7 : decode cX12_seenAll 7 = .ok (.bipush 12, 2) := by decide +kernel
theorem dX12_seenAll_9 : decode cX12_seenAll 9 = .ok (.if_icmp .ge 32, 3) := by decide +kernel
theorem dX12_seenAll_12 : decode cX12_seenAll 12 = .ok (.aload_n 0, 1) := by decide +kernel
theorem dX12_seenAll_13 : decode cX12_seenAll 13 = .ok (.iload_n 1, 1) := by decide +kernel
theorem dX12_seenAll_14 : decode cX12_seenAll 14 = .ok (.iload 4, 2) := by decide +kernel
theorem dX12_seenAll_16 : decode cX12_seenAll 16 = .ok (.iload_n 2, 1) := by decide +kernel
theorem dX12_seenAll_17 : decode cX12_seenAll 17 = .ok (.invokevirtual 243, 3) := by decide +kernel
theorem dX12_seenAll_20 : decode cX12_seenAll 20 = .ok (.istore 5, 2) := by decide +kernel
theorem dX12_seenAll_22 : decode cX12_seenAll 22 = .ok (.iload 5, 2) := by decide +kernel
theorem dX12_seenAll_24 : decode cX12_seenAll 24 = .ok (.iconst (-1), 1) := by decide +kernel
theorem dX12_seenAll_25 : decode cX12_seenAll 25 = .ok (.if_icmp .eq 10, 3) := by decide +kernel
theorem dX12_seenAll_28 : decode cX12_seenAll 28 = .ok (.iload_n 3, 1) := by decide +kernel
theorem dX12_seenAll_29 : decode cX12_seenAll 29 = .ok (.iconst 1, 1) := by decide +kernel
theorem dX12_seenAll_30 : decode cX12_seenAll 30 = .ok (.iload 5, 2) := by decide +kernel
theorem dX12_seenAll_32 : decode cX12_seenAll 32 = .ok (.ishl, 1) := by decide +kernel
theorem dX12_seenAll_33 : decode cX12_seenAll 33 = .ok (.ior, 1) := by decide +kernel
theorem dX12_seenAll_34 : decode cX12_seenAll 34 = .ok (.istore_n 3, 1) := by decide +kernel
theorem dX12_seenAll_35 : decode cX12_seenAll 35 = .ok (.iinc 4 1, 3) := by decide +kernel
theorem dX12_seenAll_38 : decode cX12_seenAll 38 = .ok (.goto (-33), 3) := by decide +kernel
theorem dX12_seenAll_41 : decode cX12_seenAll 41 = .ok (.iload_n 3, 1) := by decide +kernel
theorem dX12_seenAll_42 : decode cX12_seenAll 42 = .ok (.ireturn, 1) := by decide +kernel
theorem dX12_hidden_0 : decode cX12_hidden 0 = .ok (.aload_n 0, 1) := by decide +kernel
theorem dX12_hidden_1 : decode cX12_hidden 1 = .ok (.iload_n 1, 1) := by decide +kernel
theorem dX12_hidden_2 : decode cX12_hidden 2 = .ok (.invokevirtual 94, 3) := by decide +kernel
theorem dX12_hidden_5 : decode cX12_hidden 5 = .ok (.ifCond .ne 9, 3) := by decide +kernel
theorem dX12_hidden_8 : decode cX12_hidden 8 = .ok (.aload_n 0, 1) := by decide +kernel
theorem dX12_hidden_9 : decode cX12_hidden 9 = .ok (.iconst (-1), 1) := by decide +kernel
theorem dX12_hidden_10 : decode cX12_hidden 10 = .ok (.invokevirtual 98, 3) := by decide +kernel
theorem dX12_hidden_13 : decode cX12_hidden 13 = .ok (.ireturn, 1) := by decide +kernel
theorem dX12_hidden_14 : decode cX12_hidden 14 = .ok (.iload_n 2, 1) := by decide +kernel
theorem dX12_hidden_15 : decode cX12_hidden 15 = .ok (.invokestatic 240, 3) := by decide +kernel
theorem dX12_hidden_18 : decode cX12_hidden 18 = .ok (.ifCond .eq 25, 3) := by decide +kernel
theorem dX12_hidden_21 : decode cX12_hidden 21 = .ok (.iconst 1, 1) := by decide +kernel
theorem dX12_hidden_22 : decode cX12_hidden 22 = .ok (.aload_n 0, 1) := by decide +kernel
theorem dX12_hidden_23 : decode cX12_hidden 23 = .ok (.getfield 26, 3) := by decide +kernel
theorem dX12_hidden_26 : decode cX12_hidden 26 = .ok (.iload_n 1, 1) := by decide +kernel
theorem dX12_hidden_27 : decode cX12_hidden 27 = .ok (.iaload, 1) := by decide +kernel
theorem dX12_hidden_28 : decode cX12_hidden 28 = .ok (.ishl, 1) := by decide +kernel
theorem dX12_hidden_29 : decode cX12_hidden 29 = .ok (.iconst 1, 1) := by decide +kernel
theorem dX12_hidden_30 : decode cX12_hidden 30 = .ok (.isub, 1) := by decide +kernel
theorem dX12_hidden_31 : decode cX12_hidden 31 = .ok (.aload_n 0, 1) := by decide +kernel
theorem dX12_hidden_32 : decode cX12_hidden 32 = .ok (.iload_n 1, 1) := by decide +kernel
theorem dX12_hidden_33 : decode cX12_hidden 33 = .ok (.iload_n 2, 1) := by decide +kernel
theorem dX12_hidden_34 : decode cX12_hidden 34 = .ok (.invokevirtual 249, 3) := by decide +kernel
theorem dX12_hidden_37 : decode cX12_hidden 37 = .ok (.iconst (-1), 1) := by decide +kernel
theorem dX12_hidden_38 : decode cX12_hidden 38 = .ok (.ixor, 1) := by decide +kernel
theorem dX12_hidden_39 : decode cX12_hidden 39 = .ok (.iand, 1) := by decide +kernel
theorem dX12_hidden_40 : decode cX12_hidden 40 = .ok (.goto 9, 3) := by decide +kernel
theorem dX12_hidden_43 : decode cX12_hidden 43 = .ok (.aload_n 0, 1) := by decide +kernel
theorem dX12_hidden_44 : decode cX12_hidden 44 = .ok (.bipush (-6), 2) := by decide +kernel
theorem dX12_hidden_46 : decode cX12_hidden 46 = .ok (.invokevirtual 98, 3) := by decide +kernel
theorem dX12_hidden_49 : decode cX12_hidden 49 = .ok (.ireturn, 1) := by decide +kernel
theorem dX12_shown_0 : decode cX12_shown 0 = .ok (.aload_n 0, 1) := by decide +kernel
theorem dX12_shown_1 : decode cX12_shown 1 = .ok (.iload_n 1, 1) := by decide +kernel
theorem dX12_shown_2 : decode cX12_shown 2 = .ok (.invokevirtual 94, 3) := by decide +kernel
theorem dX12_shown_5 : decode cX12_shown 5 = .ok (.ifCond .ne 9, 3) := by decide +kernel
theorem dX12_shown_8 : decode cX12_shown 8 = .ok (.aload_n 0, 1) := by decide +kernel
theorem dX12_shown_9 : decode cX12_shown 9 = .ok (.iconst (-1), 1) := by decide +kernel
theorem dX12_shown_10 : decode cX12_shown 10 = .ok (.invokevirtual 98, 3) := by decide +kernel
theorem dX12_shown_13 : decode cX12_shown 13 = .ok (.ireturn, 1) := by decide +kernel
theorem dX12_shown_14 : decode cX12_shown 14 = .ok (.iload_n 2, 1) := by decide +kernel
theorem dX12_shown_15 : decode cX12_shown 15 = .ok (.invokestatic 240, 3) := by decide +kernel
theorem dX12_shown_18 : decode cX12_shown 18 = .ok (.ifCond .ne 10, 3) := by decide +kernel
theorem dX12_shown_21 : decode cX12_shown 21 = .ok (.aload_n 0, 1) := by decide +kernel
theorem dX12_shown_22 : decode cX12_shown 22 = .ok (.bipush (-6), 2) := by decide +kernel
theorem dX12_shown_24 : decode cX12_shown 24 = .ok (.invokevirtual 98, 3) := by decide +kernel
theorem dX12_shown_27 : decode cX12_shown 27 = .ok (.ireturn, 1) := by decide +kernel
theorem dX12_shown_28 : decode cX12_shown 28 = .ok (.iconst 0, 1) := by decide +kernel
theorem dX12_shown_29 : decode cX12_shown 29 = .ok (.istore_n 3, 1) := by decide +kernel
theorem dX12_shown_30 : decode cX12_shown 30 = .ok (.iconst 0, 1) := by decide +kernel
theorem dX12_shown_31 : decode cX12_shown 31 = .ok (.istore 4, 2) := by decide +kernel
theorem dX12_shown_33 : decode cX12_shown 33 = .ok (.iload 4, 2) := by decide +kernel
theorem dX12_shown_35 : decode cX12_shown 35 = .ok (.bipush 12, 2) := by decide +kernel
theorem dX12_shown_37 : decode cX12_shown 37 = .ok (.if_icmp .ge 38, 3) := by decide +kernel
theorem dX12_shown_40 : decode cX12_shown 40 = .ok (.aload_n 0, 1) := by decide +kernel
theorem dX12_shown_41 : decode cX12_shown 41 = .ok (.iload_n 1, 1) := by decide +kernel
theorem dX12_shown_42 : decode cX12_shown 42 = .ok (.aload_n 0, 1) := by decide +kernel
theorem dX12_shown_43 : decode cX12_shown 43 = .ok (.iload_n 1, 1) := by decide +kernel
theorem dX12_shown_44 : decode cX12_shown 44 = .ok (.iload 4, 2) := by decide +kernel
theorem dX12_shown_46 : decode cX12_shown 46 = .ok (.iload_n 2, 1) := by decide +kernel
theorem dX12_shown_47 : decode cX12_shown 47 = .ok (.invokevirtual 246, 3) := by decide +kernel
theorem dX12_shown_50 : decode cX12_shown 50 = .ok (.iconst 0, 1) := by decide +kernel
theorem dX12_shown_51 : decode cX12_shown 51 = .ok (.invokevirtual 220, 3) := by decide +kernel
theorem dX12_shown_54 : decode cX12_shown 54 = .ok (.istore 5, 2) := by decide +kernel
theorem dX12_shown_56 : decode cX12_shown 56 = .ok (.iload 5, 2) := by decide +kernel
theorem dX12_shown_58 : decode cX12_shown 58 = .ok (.iconst (-1), 1) := by decide +kernel
theorem dX12_shown_59 : decode cX12_shown 59 = .ok (.if_icmp .eq 10, 3) := by decide +kernel
theorem dX12_shown_62 : decode cX12_shown 62 = .ok (.iload_n 3, 1) := by decide +kernel
theorem dX12_shown_63 : decode cX12_shown 63 = .ok (.iconst 1, 1) := by decide +kernel
theorem dX12_shown_64 : decode cX12_shown 64 = .ok (.iload 5, 2) := by decide +kernel
theorem dX12_shown_66 : decode cX12_shown 66 = .ok (.ishl, 1) := by decide +kernel
theorem dX12_shown_67 : decode cX12_shown 67 = .ok (.ior, 1) := by decide +kernel
theorem dX12_shown_68 : decode cX12_shown 68 = .ok (.istore_n 3, 1) := by decide +kernel
theorem dX12_shown_69 : decode cX12_shown 69 = .ok (.iinc 4 1, 3) := by decide +kernel
theorem dX12_shown_72 : decode cX12_shown 72 = .ok (.goto (-39), 3) := by decide +kernel
theorem dX12_shown_75 : decode cX12_shown 75 = .ok (.iload_n 3, 1) := by decide +kernel
theorem dX12_shown_76 : decode cX12_shown 76 = .ok (.aload_n 0, 1) := by decide +kernel
theorem dX12_shown_77 : decode cX12_shown 77 = .ok (.iload_n 1, 1) := by decide +kernel
theorem dX12_shown_78 : decode cX12_shown 78 = .ok (.iconst 0, 1) := by decide +kernel
theorem dX12_shown_79 : decode cX12_shown 79 = .ok (.invokevirtual 249, 3) := by decide +kernel
theorem dX12_shown_82 : decode cX12_shown 82 = .ok (.iconst (-1), 1) := by decide +kernel
theorem dX12_shown_83 : decode cX12_shown 83 = .ok (.ixor, 1) := by decide +kernel
theorem dX12_shown_84 : decode cX12_shown 84 = .ok (.iand, 1) := by decide +kernel
theorem dX12_shown_85 : decode cX12_shown 85 = .ok (.ireturn, 1) := by decide +kernel
theorem dX12_firstWet_0 : decode cX12_firstWet 0 = .ok (.aload_n 0, 1) := by decide +kernel
theorem dX12_firstWet_1 : decode cX12_firstWet 1 = .ok (.iload_n 1, 1) := by decide +kernel
theorem dX12_firstWet_2 : decode cX12_firstWet 2 = .ok (.iload_n 2, 1) := by decide +kernel
theorem dX12_firstWet_3 : decode cX12_firstWet 3 = .ok (.invokevirtual 149, 3) := by decide +kernel
theorem dX12_firstWet_6 : decode cX12_firstWet 6 = .ok (.ifCond .ne 9, 3) := by decide +kernel
theorem dX12_firstWet_9 : decode cX12_firstWet 9 = .ok (.aload_n 0, 1) := by decide +kernel
theorem dX12_firstWet_10 : decode cX12_firstWet 10 = .ok (.iconst (-1), 1) := by decide +kernel
theorem dX12_firstWet_11 : decode cX12_firstWet 11 = .ok (.invokevirtual 237, 3) := by decide +kernel
theorem dX12_firstWet_14 : decode cX12_firstWet 14 = .ok (.ireturn, 1) := by decide +kernel
theorem dX12_firstWet_15 : decode cX12_firstWet 15 = .ok (.iconst 0, 1) := by decide +kernel
theorem dX12_firstWet_16 : decode cX12_firstWet 16 = .ok (.istore_n 3, 1) := by decide +kernel
theorem dX12_firstWet_17 : decode cX12_firstWet 17 = .ok (.iload_n 3, 1) := by decide +kernel
theorem dX12_firstWet_18 : decode cX12_firstWet 18 = .ok (.bipush 100, 2) := by decide +kernel
theorem dX12_firstWet_20 : decode cX12_firstWet 20 = .ok (.if_icmp .ge 24, 3) := by decide +kernel
theorem dX12_firstWet_23 : decode cX12_firstWet 23 = .ok (.aload_n 0, 1) := by decide +kernel
theorem dX12_firstWet_24 : decode cX12_firstWet 24 = .ok (.iload_n 1, 1) := by decide +kernel
theorem dX12_firstWet_25 : decode cX12_firstWet 25 = .ok (.iload_n 3, 1) := by decide +kernel
theorem dX12_firstWet_26 : decode cX12_firstWet 26 = .ok (.invokevirtual 249, 3) := by decide +kernel
theorem dX12_firstWet_29 : decode cX12_firstWet 29 = .ok (.iload_n 2, 1) := by decide +kernel
theorem dX12_firstWet_30 : decode cX12_firstWet 30 = .ok (.invokestatic 155, 3) := by decide +kernel
theorem dX12_firstWet_33 : decode cX12_firstWet 33 = .ok (.ifCond .eq 5, 3) := by decide +kernel
theorem dX12_firstWet_36 : decode cX12_firstWet 36 = .ok (.iload_n 3, 1) := by decide +kernel
theorem dX12_firstWet_37 : decode cX12_firstWet 37 = .ok (.ireturn, 1) := by decide +kernel
theorem dX12_firstWet_38 : decode cX12_firstWet 38 = .ok (.iinc 3 1, 3) := by decide +kernel
theorem dX12_firstWet_41 : decode cX12_firstWet 41 = .ok (.goto (-24), 3) := by decide +kernel
theorem dX12_firstWet_44 : decode cX12_firstWet 44 = .ok (.iconst (-1), 1) := by decide +kernel
theorem dX12_firstWet_45 : decode cX12_firstWet 45 = .ok (.ireturn, 1) := by decide +kernel
theorem dX12_paint_0 : decode cX12_paint 0 = .ok (.aload_n 0, 1) := by decide +kernel
theorem dX12_paint_1 : decode cX12_paint 1 = .ok (.iload_n 1, 1) := by decide +kernel
theorem dX12_paint_2 : decode cX12_paint 2 = .ok (.invokevirtual 94, 3) := by decide +kernel
theorem dX12_paint_5 : decode cX12_paint 5 = .ok (.ifCond .ne 9, 3) := by decide +kernel
theorem dX12_paint_8 : decode cX12_paint 8 = .ok (.aload_n 0, 1) := by decide +kernel
theorem dX12_paint_9 : decode cX12_paint 9 = .ok (.iconst (-1), 1) := by decide +kernel
theorem dX12_paint_10 : decode cX12_paint 10 = .ok (.invokevirtual 237, 3) := by decide +kernel
theorem dX12_paint_13 : decode cX12_paint 13 = .ok (.ireturn, 1) := by decide +kernel
theorem dX12_paint_14 : decode cX12_paint 14 = .ok (.iload_n 2, 1) := by decide +kernel
theorem dX12_paint_15 : decode cX12_paint 15 = .ok (.invokestatic 142, 3) := by decide +kernel
theorem dX12_paint_18 : decode cX12_paint 18 = .ok (.ifCond .eq 10, 3) := by decide +kernel
theorem dX12_paint_21 : decode cX12_paint 21 = .ok (.iload_n 3, 1) := by decide +kernel
theorem dX12_paint_22 : decode cX12_paint 22 = .ok (.invokestatic 240, 3) := by decide +kernel
theorem dX12_paint_25 : decode cX12_paint 25 = .ok (.ifCond .ne 10, 3) := by decide +kernel
theorem dX12_paint_28 : decode cX12_paint 28 = .ok (.aload_n 0, 1) := by decide +kernel
theorem dX12_paint_29 : decode cX12_paint 29 = .ok (.bipush (-6), 2) := by decide +kernel
theorem dX12_paint_31 : decode cX12_paint 31 = .ok (.invokevirtual 237, 3) := by decide +kernel
theorem dX12_paint_34 : decode cX12_paint 34 = .ok (.ireturn, 1) := by decide +kernel
theorem dX12_paint_35 : decode cX12_paint 35 = .ok (.aload_n 0, 1) := by decide +kernel
theorem dX12_paint_36 : decode cX12_paint 36 = .ok (.getfield 26, 3) := by decide +kernel
theorem dX12_paint_39 : decode cX12_paint 39 = .ok (.iload_n 1, 1) := by decide +kernel
theorem dX12_paint_40 : decode cX12_paint 40 = .ok (.iaload, 1) := by decide +kernel
theorem dX12_paint_41 : decode cX12_paint 41 = .ok (.bipush 8, 2) := by decide +kernel
theorem dX12_paint_43 : decode cX12_paint 43 = .ok (.if_icmp .ne 10, 3) := by decide +kernel
theorem dX12_paint_46 : decode cX12_paint 46 = .ok (.aload_n 0, 1) := by decide +kernel
theorem dX12_paint_47 : decode cX12_paint 47 = .ok (.bipush (-7), 2) := by decide +kernel
theorem dX12_paint_49 : decode cX12_paint 49 = .ok (.invokevirtual 237, 3) := by decide +kernel
theorem dX12_paint_52 : decode cX12_paint 52 = .ok (.ireturn, 1) := by decide +kernel
theorem dX12_paint_53 : decode cX12_paint 53 = .ok (.iconst 0, 1) := by decide +kernel
theorem dX12_paint_54 : decode cX12_paint 54 = .ok (.istore 4, 2) := by decide +kernel
theorem dX12_paint_56 : decode cX12_paint 56 = .ok (.iconst 0, 1) := by decide +kernel
theorem dX12_paint_57 : decode cX12_paint 57 = .ok (.istore 5, 2) := by decide +kernel
theorem dX12_paint_59 : decode cX12_paint 59 = .ok (.iload 5, 2) := by decide +kernel
theorem dX12_paint_61 : decode cX12_paint 61 = .ok (.bipush 12, 2) := by decide +kernel
theorem dX12_paint_63 : decode cX12_paint 63 = .ok (.if_icmp .ge 30, 3) := by decide +kernel
theorem dX12_paint_66 : decode cX12_paint 66 = .ok (.iload 5, 2) := by decide +kernel
theorem dX12_paint_68 : decode cX12_paint 68 = .ok (.iload_n 2, 1) := by decide +kernel
theorem dX12_paint_69 : decode cX12_paint 69 = .ok (.if_icmp .eq 18, 3) := by decide +kernel
theorem dX12_paint_72 : decode cX12_paint 72 = .ok (.iload 4, 2) := by decide +kernel
theorem dX12_paint_74 : decode cX12_paint 74 = .ok (.aload_n 0, 1) := by decide +kernel
theorem dX12_paint_75 : decode cX12_paint 75 = .ok (.iload_n 1, 1) := by decide +kernel
theorem dX12_paint_76 : decode cX12_paint 76 = .ok (.iload 5, 2) := by decide +kernel
theorem dX12_paint_78 : decode cX12_paint 78 = .ok (.iload_n 3, 1) := by decide +kernel
theorem dX12_paint_79 : decode cX12_paint 79 = .ok (.invokevirtual 118, 3) := by decide +kernel
theorem dX12_paint_82 : decode cX12_paint 82 = .ok (.invokestatic 223, 3) := by decide +kernel
theorem dX12_paint_85 : decode cX12_paint 85 = .ok (.istore 4, 2) := by decide +kernel
theorem dX12_paint_87 : decode cX12_paint 87 = .ok (.iinc 5 1, 3) := by decide +kernel
theorem dX12_paint_90 : decode cX12_paint 90 = .ok (.goto (-31), 3) := by decide +kernel
theorem dX12_paint_93 : decode cX12_paint 93 = .ok (.iconst (-1), 1) := by decide +kernel
theorem dX12_paint_94 : decode cX12_paint 94 = .ok (.istore 5, 2) := by decide +kernel
theorem dX12_paint_96 : decode cX12_paint 96 = .ok (.iconst 0, 1) := by decide +kernel
theorem dX12_paint_97 : decode cX12_paint 97 = .ok (.istore 6, 2) := by decide +kernel
theorem dX12_paint_99 : decode cX12_paint 99 = .ok (.iconst 0, 1) := by decide +kernel
theorem dX12_paint_100 : decode cX12_paint 100 = .ok (.istore 7, 2) := by decide +kernel
theorem dX12_paint_102 : decode cX12_paint 102 = .ok (.iload 7, 2) := by decide +kernel
theorem dX12_paint_104 : decode cX12_paint 104 = .ok (.bipush 6, 2) := by decide +kernel
theorem dX12_paint_106 : decode cX12_paint 106 = .ok (.if_icmp .ge 115, 3) := by decide +kernel
theorem dX12_paint_109 : decode cX12_paint 109 = .ok (.iconst 1, 1) := by decide +kernel
theorem dX12_paint_110 : decode cX12_paint 110 = .ok (.istore 8, 2) := by decide +kernel
theorem dX12_paint_112 : decode cX12_paint 112 = .ok (.iload 8, 2) := by decide +kernel
theorem dX12_paint_114 : decode cX12_paint 114 = .ok (.bipush 10, 2) := by decide +kernel
theorem dX12_paint_116 : decode cX12_paint 116 = .ok (.if_icmp .ge 99, 3) := by decide +kernel
theorem dX12_paint_119 : decode cX12_paint 119 = .ok (.aload_n 0, 1) := by decide +kernel
theorem dX12_paint_120 : decode cX12_paint 120 = .ok (.getfield 20, 3) := by decide +kernel
theorem dX12_paint_123 : decode cX12_paint 123 = .ok (.iload_n 1, 1) := by decide +kernel
theorem dX12_paint_124 : decode cX12_paint 124 = .ok (.iaload, 1) := by decide +kernel
theorem dX12_paint_125 : decode cX12_paint 125 = .ok (.iconst 4, 1) := by decide +kernel
theorem dX12_paint_126 : decode cX12_paint 126 = .ok (.if_icmp .ne 19, 3) := by decide +kernel
theorem dX12_paint_129 : decode cX12_paint 129 = .ok (.iconst 0, 1) := by decide +kernel
theorem dX12_paint_130 : decode cX12_paint 130 = .ok (.aload_n 0, 1) := by decide +kernel
theorem dX12_paint_131 : decode cX12_paint 131 = .ok (.getfield 47, 3) := by decide +kernel
theorem dX12_paint_134 : decode cX12_paint 134 = .ok (.iload 7, 2) := by decide +kernel
theorem dX12_paint_136 : decode cX12_paint 136 = .ok (.iaload, 1) := by decide +kernel
theorem dX12_paint_137 : decode cX12_paint 137 = .ok (.iconst 1, 1) := by decide +kernel
theorem dX12_paint_138 : decode cX12_paint 138 = .ok (.isub, 1) := by decide +kernel
theorem dX12_paint_139 : decode cX12_paint 139 = .ok (.invokestatic 223, 3) := by decide +kernel
theorem dX12_paint_142 : decode cX12_paint 142 = .ok (.goto 10, 3) := by decide +kernel
theorem dX12_paint_145 : decode cX12_paint 145 = .ok (.aload_n 0, 1) := by decide +kernel
theorem dX12_paint_146 : decode cX12_paint 146 = .ok (.getfield 47, 3) := by decide +kernel
theorem dX12_paint_149 : decode cX12_paint 149 = .ok (.iload 7, 2) := by decide +kernel
theorem dX12_paint_151 : decode cX12_paint 151 = .ok (.iaload, 1) := by decide +kernel
theorem dX12_paint_152 : decode cX12_paint 152 = .ok (.istore 9, 2) := by decide +kernel
theorem dX12_paint_154 : decode cX12_paint 154 = .ok (.iload 9, 2) := by decide +kernel
theorem dX12_paint_156 : decode cX12_paint 156 = .ok (.iload 8, 2) := by decide +kernel
theorem dX12_paint_158 : decode cX12_paint 158 = .ok (.imul, 1) := by decide +kernel
theorem dX12_paint_159 : decode cX12_paint 159 = .ok (.iload 4, 2) := by decide +kernel
theorem dX12_paint_161 : decode cX12_paint 161 = .ok (.if_icmp .lt 48, 3) := by decide +kernel
theorem dX12_paint_164 : decode cX12_paint 164 = .ok (.iload 5, 2) := by decide +kernel
theorem dX12_paint_166 : decode cX12_paint 166 = .ok (.ifCond .lt 21, 3) := by decide +kernel
theorem dX12_paint_169 : decode cX12_paint 169 = .ok (.aload_n 0, 1) := by decide +kernel
theorem dX12_paint_170 : decode cX12_paint 170 = .ok (.getfield 50, 3) := by decide +kernel
theorem dX12_paint_173 : decode cX12_paint 173 = .ok (.iload 7, 2) := by decide +kernel
theorem dX12_paint_175 : decode cX12_paint 175 = .ok (.iaload, 1) := by decide +kernel
theorem dX12_paint_176 : decode cX12_paint 176 = .ok (.iload 8, 2) := by decide +kernel
theorem dX12_paint_178 : decode cX12_paint 178 = .ok (.imul, 1) := by decide +kernel
theorem dX12_paint_179 : decode cX12_paint 179 = .ok (.iload 6, 2) := by decide +kernel
theorem dX12_paint_181 : decode cX12_paint 181 = .ok (.if_icmp .lt 6, 3) := by decide +kernel
theorem dX12_paint_184 : decode cX12_paint 184 = .ok (.goto 25, 3) := by decide +kernel
theorem dX12_paint_187 : decode cX12_paint 187 = .ok (.bipush 10, 2) := by decide +kernel
theorem dX12_paint_189 : decode cX12_paint 189 = .ok (.iload 7, 2) := by decide +kernel
theorem dX12_paint_191 : decode cX12_paint 191 = .ok (.imul, 1) := by decide +kernel
theorem dX12_paint_192 : decode cX12_paint 192 = .ok (.iload 8, 2) := by decide +kernel
theorem dX12_paint_194 : decode cX12_paint 194 = .ok (.iadd, 1) := by decide +kernel
theorem dX12_paint_195 : decode cX12_paint 195 = .ok (.istore 5, 2) := by decide +kernel
theorem dX12_paint_197 : decode cX12_paint 197 = .ok (.aload_n 0, 1) := by decide +kernel
theorem dX12_paint_198 : decode cX12_paint 198 = .ok (.getfield 50, 3) := by decide +kernel
theorem dX12_paint_201 : decode cX12_paint 201 = .ok (.iload 7, 2) := by decide +kernel
theorem dX12_paint_203 : decode cX12_paint 203 = .ok (.iaload, 1) := by decide +kernel
theorem dX12_paint_204 : decode cX12_paint 204 = .ok (.iload 8, 2) := by decide +kernel
theorem dX12_paint_206 : decode cX12_paint 206 = .ok (.imul, 1) := by decide +kernel
theorem dX12_paint_207 : decode cX12_paint 207 = .ok (.istore 6, 2) := by decide +kernel
theorem dX12_paint_209 : decode cX12_paint 209 = .ok (.iinc 8 1, 3) := by decide +kernel
theorem dX12_paint_212 : decode cX12_paint 212 = .ok (.goto (-100), 3) := by decide +kernel
theorem dX12_paint_215 : decode cX12_paint 215 = .ok (.iinc 7 1, 3) := by decide +kernel
theorem dX12_paint_218 : decode cX12_paint 218 = .ok (.goto (-116), 3) := by decide +kernel
theorem dX12_paint_221 : decode cX12_paint 221 = .ok (.iload 5, 2) := by decide +kernel
theorem dX12_paint_223 : decode cX12_paint 223 = .ok (.ireturn, 1) := by decide +kernel
theorem dX12_gap_0 : decode cX12_gap 0 = .ok (.aload_n 0, 1) := by decide +kernel
theorem dX12_gap_1 : decode cX12_gap 1 = .ok (.iload_n 1, 1) := by decide +kernel
theorem dX12_gap_2 : decode cX12_gap 2 = .ok (.invokevirtual 94, 3) := by decide +kernel
theorem dX12_gap_5 : decode cX12_gap 5 = .ok (.ifCond .eq 13, 3) := by decide +kernel
theorem dX12_gap_8 : decode cX12_gap 8 = .ok (.iload_n 2, 1) := by decide +kernel
theorem dX12_gap_9 : decode cX12_gap 9 = .ok (.iconst 0, 1) := by decide +kernel
theorem dX12_gap_10 : decode cX12_gap 10 = .ok (.bipush 7, 2) := by decide +kernel
theorem dX12_gap_12 : decode cX12_gap 12 = .ok (.invokestatic 90, 3) := by decide +kernel
theorem dX12_gap_15 : decode cX12_gap 15 = .ok (.ifCond .ne 9, 3) := by decide +kernel
theorem dX12_gap_18 : decode cX12_gap 18 = .ok (.aload_n 0, 1) := by decide +kernel
theorem dX12_gap_19 : decode cX12_gap 19 = .ok (.iconst (-1), 1) := by decide +kernel
theorem dX12_gap_20 : decode cX12_gap 20 = .ok (.invokevirtual 237, 3) := by decide +kernel
theorem dX12_gap_23 : decode cX12_gap 23 = .ok (.ireturn, 1) := by decide +kernel
theorem dX12_gap_24 : decode cX12_gap 24 = .ok (.iconst (-1), 1) := by decide +kernel
theorem dX12_gap_25 : decode cX12_gap 25 = .ok (.istore_n 3, 1) := by decide +kernel
theorem dX12_gap_26 : decode cX12_gap 26 = .ok (.iconst 0, 1) := by decide +kernel
theorem dX12_gap_27 : decode cX12_gap 27 = .ok (.istore 4, 2) := by decide +kernel
theorem dX12_gap_29 : decode cX12_gap 29 = .ok (.iload 4, 2) := by decide +kernel
theorem dX12_gap_31 : decode cX12_gap 31 = .ok (.bipush 12, 2) := by decide +kernel
theorem dX12_gap_33 : decode cX12_gap 33 = .ok (.if_icmp .ge 68, 3) := by decide +kernel
theorem dX12_gap_36 : decode cX12_gap 36 = .ok (.aload_n 0, 1) := by decide +kernel
theorem dX12_gap_37 : decode cX12_gap 37 = .ok (.iload_n 1, 1) := by decide +kernel
theorem dX12_gap_38 : decode cX12_gap 38 = .ok (.iload 4, 2) := by decide +kernel
theorem dX12_gap_40 : decode cX12_gap 40 = .ok (.iconst 0, 1) := by decide +kernel
theorem dX12_gap_41 : decode cX12_gap 41 = .ok (.invokevirtual 243, 3) := by decide +kernel
theorem dX12_gap_44 : decode cX12_gap 44 = .ok (.istore 5, 2) := by decide +kernel
theorem dX12_gap_46 : decode cX12_gap 46 = .ok (.iload 5, 2) := by decide +kernel
theorem dX12_gap_48 : decode cX12_gap 48 = .ok (.iconst (-1), 1) := by decide +kernel
theorem dX12_gap_49 : decode cX12_gap 49 = .ok (.if_icmp .eq 22, 3) := by decide +kernel
theorem dX12_gap_52 : decode cX12_gap 52 = .ok (.aload_n 0, 1) := by decide +kernel
theorem dX12_gap_53 : decode cX12_gap 53 = .ok (.getfield 29, 3) := by decide +kernel
theorem dX12_gap_56 : decode cX12_gap 56 = .ok (.bipush 8, 2) := by decide +kernel
theorem dX12_gap_58 : decode cX12_gap 58 = .ok (.iload_n 1, 1) := by decide +kernel
theorem dX12_gap_59 : decode cX12_gap 59 = .ok (.imul, 1) := by decide +kernel
theorem dX12_gap_60 : decode cX12_gap 60 = .ok (.iload 5, 2) := by decide +kernel
theorem dX12_gap_62 : decode cX12_gap 62 = .ok (.iadd, 1) := by decide +kernel
theorem dX12_gap_63 : decode cX12_gap 63 = .ok (.iaload, 1) := by decide +kernel
theorem dX12_gap_64 : decode cX12_gap 64 = .ok (.iload_n 2, 1) := by decide +kernel
theorem dX12_gap_65 : decode cX12_gap 65 = .ok (.if_icmp .ne 6, 3) := by decide +kernel
theorem dX12_gap_68 : decode cX12_gap 68 = .ok (.goto 27, 3) := by decide +kernel
theorem dX12_gap_71 : decode cX12_gap 71 = .ok (.iload_n 3, 1) := by decide +kernel
theorem dX12_gap_72 : decode cX12_gap 72 = .ok (.iconst (-1), 1) := by decide +kernel
theorem dX12_gap_73 : decode cX12_gap 73 = .ok (.if_icmp .eq 19, 3) := by decide +kernel
theorem dX12_gap_76 : decode cX12_gap 76 = .ok (.aload_n 0, 1) := by decide +kernel
theorem dX12_gap_77 : decode cX12_gap 77 = .ok (.iload_n 1, 1) := by decide +kernel
theorem dX12_gap_78 : decode cX12_gap 78 = .ok (.iload 4, 2) := by decide +kernel
theorem dX12_gap_80 : decode cX12_gap 80 = .ok (.invokevirtual 234, 3) := by decide +kernel
theorem dX12_gap_83 : decode cX12_gap 83 = .ok (.aload_n 0, 1) := by decide +kernel
theorem dX12_gap_84 : decode cX12_gap 84 = .ok (.iload_n 1, 1) := by decide +kernel
theorem dX12_gap_85 : decode cX12_gap 85 = .ok (.iload_n 3, 1) := by decide +kernel
theorem dX12_gap_86 : decode cX12_gap 86 = .ok (.invokevirtual 234, 3) := by decide +kernel
theorem dX12_gap_89 : decode cX12_gap 89 = .ok (.if_icmp .ge 6, 3) := by decide +kernel
theorem dX12_gap_92 : decode cX12_gap 92 = .ok (.iload 4, 2) := by decide +kernel
theorem dX12_gap_94 : decode cX12_gap 94 = .ok (.istore_n 3, 1) := by decide +kernel
theorem dX12_gap_95 : decode cX12_gap 95 = .ok (.iinc 4 1, 3) := by decide +kernel
theorem dX12_gap_98 : decode cX12_gap 98 = .ok (.goto (-69), 3) := by decide +kernel
theorem dX12_gap_101 : decode cX12_gap 101 = .ok (.iload_n 3, 1) := by decide +kernel
theorem dX12_gap_102 : decode cX12_gap 102 = .ok (.ireturn, 1) := by decide +kernel
theorem dX12_moves_0 : decode cX12_moves 0 = .ok (.iload_n 1, 1) := by decide +kernel
theorem dX12_moves_1 : decode cX12_moves 1 = .ok (.iconst 0, 1) := by decide +kernel
theorem dX12_moves_2 : decode cX12_moves 2 = .ok (.bipush 7, 2) := by decide +kernel
theorem dX12_moves_4 : decode cX12_moves 4 = .ok (.invokestatic 90, 3) := by decide +kernel
theorem dX12_moves_7 : decode cX12_moves 7 = .ok (.ifCond .ne 9, 3) := by decide +kernel
theorem dX12_moves_10 : decode cX12_moves 10 = .ok (.aload_n 0, 1) := by decide +kernel
theorem dX12_moves_11 : decode cX12_moves 11 = .ok (.iconst (-1), 1) := by decide +kernel
theorem dX12_moves_12 : decode cX12_moves 12 = .ok (.invokevirtual 98, 3) := by decide +kernel
theorem dX12_moves_15 : decode cX12_moves 15 = .ok (.ireturn, 1) := by decide +kernel
theorem dX12_moves_16 : decode cX12_moves 16 = .ok (.iload_n 2, 1) := by decide +kernel
theorem dX12_moves_17 : decode cX12_moves 17 = .ok (.iconst 0, 1) := by decide +kernel
theorem dX12_moves_18 : decode cX12_moves 18 = .ok (.iconst 1, 1) := by decide +kernel
theorem dX12_moves_19 : decode cX12_moves 19 = .ok (.invokestatic 90, 3) := by decide +kernel
theorem dX12_moves_22 : decode cX12_moves 22 = .ok (.ifCond .ne 10, 3) := by decide +kernel
theorem dX12_moves_25 : decode cX12_moves 25 = .ok (.aload_n 0, 1) := by decide +kernel
theorem dX12_moves_26 : decode cX12_moves 26 = .ok (.bipush (-5), 2) := by decide +kernel
theorem dX12_moves_28 : decode cX12_moves 28 = .ok (.invokevirtual 98, 3) := by decide +kernel
theorem dX12_moves_31 : decode cX12_moves 31 = .ok (.ireturn, 1) := by decide +kernel
theorem dX12_moves_32 : decode cX12_moves 32 = .ok (.iconst 0, 1) := by decide +kernel
theorem dX12_moves_33 : decode cX12_moves 33 = .ok (.istore_n 3, 1) := by decide +kernel
theorem dX12_moves_34 : decode cX12_moves 34 = .ok (.iconst 0, 1) := by decide +kernel
theorem dX12_moves_35 : decode cX12_moves 35 = .ok (.istore 4, 2) := by decide +kernel
theorem dX12_moves_37 : decode cX12_moves 37 = .ok (.iconst 0, 1) := by decide +kernel
theorem dX12_moves_38 : decode cX12_moves 38 = .ok (.istore 5, 2) := by decide +kernel
theorem dX12_moves_40 : decode cX12_moves 40 = .ok (.iload 5, 2) := by decide +kernel
theorem dX12_moves_42 : decode cX12_moves 42 = .ok (.aload_n 0, 1) := by decide +kernel
theorem dX12_moves_43 : decode cX12_moves 43 = .ok (.getfield 87, 3) := by decide +kernel
theorem dX12_moves_46 : decode cX12_moves 46 = .ok (.if_icmp .ge 60, 3) := by decide +kernel
theorem dX12_moves_49 : decode cX12_moves 49 = .ok (.iconst 0, 1) := by decide +kernel
theorem dX12_moves_50 : decode cX12_moves 50 = .ok (.istore 6, 2) := by decide +kernel
theorem dX12_moves_52 : decode cX12_moves 52 = .ok (.iload 6, 2) := by decide +kernel
theorem dX12_moves_54 : decode cX12_moves 54 = .ok (.aload_n 0, 1) := by decide +kernel
theorem dX12_moves_55 : decode cX12_moves 55 = .ok (.getfield 26, 3) := by decide +kernel
theorem dX12_moves_58 : decode cX12_moves 58 = .ok (.iload 5, 2) := by decide +kernel
theorem dX12_moves_60 : decode cX12_moves 60 = .ok (.iaload, 1) := by decide +kernel
theorem dX12_moves_61 : decode cX12_moves 61 = .ok (.if_icmp .ge 39, 3) := by decide +kernel
theorem dX12_moves_64 : decode cX12_moves 64 = .ok (.aload_n 0, 1) := by decide +kernel
theorem dX12_moves_65 : decode cX12_moves 65 = .ok (.getfield 29, 3) := by decide +kernel
theorem dX12_moves_68 : decode cX12_moves 68 = .ok (.bipush 8, 2) := by decide +kernel
theorem dX12_moves_70 : decode cX12_moves 70 = .ok (.iload 5, 2) := by decide +kernel
theorem dX12_moves_72 : decode cX12_moves 72 = .ok (.imul, 1) := by decide +kernel
theorem dX12_moves_73 : decode cX12_moves 73 = .ok (.iload 6, 2) := by decide +kernel
theorem dX12_moves_75 : decode cX12_moves 75 = .ok (.iadd, 1) := by decide +kernel
theorem dX12_moves_76 : decode cX12_moves 76 = .ok (.iaload, 1) := by decide +kernel
theorem dX12_moves_77 : decode cX12_moves 77 = .ok (.iload_n 1, 1) := by decide +kernel
theorem dX12_moves_78 : decode cX12_moves 78 = .ok (.if_icmp .eq 6, 3) := by decide +kernel
theorem dX12_moves_81 : decode cX12_moves 81 = .ok (.goto 13, 3) := by decide +kernel
theorem dX12_moves_84 : decode cX12_moves 84 = .ok (.iload_n 3, 1) := by decide +kernel
theorem dX12_moves_85 : decode cX12_moves 85 = .ok (.iconst 1, 1) := by decide +kernel
theorem dX12_moves_86 : decode cX12_moves 86 = .ok (.iload 5, 2) := by decide +kernel
theorem dX12_moves_88 : decode cX12_moves 88 = .ok (.ishl, 1) := by decide +kernel
theorem dX12_moves_89 : decode cX12_moves 89 = .ok (.ior, 1) := by decide +kernel
theorem dX12_moves_90 : decode cX12_moves 90 = .ok (.istore_n 3, 1) := by decide +kernel
theorem dX12_moves_91 : decode cX12_moves 91 = .ok (.iinc 4 1, 3) := by decide +kernel
theorem dX12_moves_94 : decode cX12_moves 94 = .ok (.iinc 6 1, 3) := by decide +kernel
theorem dX12_moves_97 : decode cX12_moves 97 = .ok (.goto (-45), 3) := by decide +kernel
theorem dX12_moves_100 : decode cX12_moves 100 = .ok (.iinc 5 1, 3) := by decide +kernel
theorem dX12_moves_103 : decode cX12_moves 103 = .ok (.goto (-63), 3) := by decide +kernel
theorem dX12_moves_106 : decode cX12_moves 106 = .ok (.iload_n 2, 1) := by decide +kernel
theorem dX12_moves_107 : decode cX12_moves 107 = .ok (.ifCond .ne 7, 3) := by decide +kernel
theorem dX12_moves_110 : decode cX12_moves 110 = .ok (.iload_n 3, 1) := by decide +kernel
theorem dX12_moves_111 : decode cX12_moves 111 = .ok (.goto 5, 3) := by decide +kernel
theorem dX12_moves_114 : decode cX12_moves 114 = .ok (.iload 4, 2) := by decide +kernel
theorem dX12_moves_116 : decode cX12_moves 116 = .ok (.ireturn, 1) := by decide +kernel
theorem dX12_noPairs_0 : decode cX12_noPairs 0 = .ok (.aload_n 0, 1) := by decide +kernel
theorem dX12_noPairs_1 : decode cX12_noPairs 1 = .ok (.iload_n 1, 1) := by decide +kernel
theorem dX12_noPairs_2 : decode cX12_noPairs 2 = .ok (.invokevirtual 105, 3) := by decide +kernel
theorem dX12_noPairs_5 : decode cX12_noPairs 5 = .ok (.istore 4, 2) := by decide +kernel
theorem dX12_noPairs_7 : decode cX12_noPairs 7 = .ok (.iload 4, 2) := by decide +kernel
theorem dX12_noPairs_9 : decode cX12_noPairs 9 = .ok (.ifCond .ge 6, 3) := by decide +kernel
theorem dX12_noPairs_12 : decode cX12_noPairs 12 = .ok (.iload 4, 2) := by decide +kernel
theorem dX12_noPairs_14 : decode cX12_noPairs 14 = .ok (.ireturn, 1) := by decide +kernel
theorem dX12_noPairs_15 : decode cX12_noPairs 15 = .ok (.iload_n 2, 1) := by decide +kernel
theorem dX12_noPairs_16 : decode cX12_noPairs 16 = .ok (.ifCond .ge 6, 3) := by decide +kernel
theorem dX12_noPairs_19 : decode cX12_noPairs 19 = .ok (.bipush (-4), 2) := by decide +kernel
theorem dX12_noPairs_21 : decode cX12_noPairs 21 = .ok (.ireturn, 1) := by decide +kernel
theorem dX12_noPairs_22 : decode cX12_noPairs 22 = .ok (.iload_n 2, 1) := by decide +kernel
theorem dX12_noPairs_23 : decode cX12_noPairs 23 = .ok (.aload_n 0, 1) := by decide +kernel
theorem dX12_noPairs_24 : decode cX12_noPairs 24 = .ok (.getfield 13, 3) := by decide +kernel
theorem dX12_noPairs_27 : decode cX12_noPairs 27 = .ok (.iload_n 1, 1) := by decide +kernel
theorem dX12_noPairs_28 : decode cX12_noPairs 28 = .ok (.iaload, 1) := by decide +kernel
theorem dX12_noPairs_29 : decode cX12_noPairs 29 = .ok (.if_icmp .gt 7, 3) := by decide +kernel
theorem dX12_noPairs_32 : decode cX12_noPairs 32 = .ok (.iload_n 3, 1) := by decide +kernel
theorem dX12_noPairs_33 : decode cX12_noPairs 33 = .ok (.ifCond .eq 6, 3) := by decide +kernel
theorem dX12_noPairs_36 : decode cX12_noPairs 36 = .ok (.bipush (-5), 2) := by decide +kernel
theorem dX12_noPairs_38 : decode cX12_noPairs 38 = .ok (.ireturn, 1) := by decide +kernel
theorem dX12_noPairs_39 : decode cX12_noPairs 39 = .ok (.iload_n 2, 1) := by decide +kernel
theorem dX12_noPairs_40 : decode cX12_noPairs 40 = .ok (.bipush 20, 2) := by decide +kernel
theorem dX12_noPairs_42 : decode cX12_noPairs 42 = .ok (.if_icmp .le 6, 3) := by decide +kernel
theorem dX12_noPairs_45 : decode cX12_noPairs 45 = .ok (.bipush (-6), 2) := by decide +kernel
theorem dX12_noPairs_47 : decode cX12_noPairs 47 = .ok (.ireturn, 1) := by decide +kernel
theorem dX12_noPairs_48 : decode cX12_noPairs 48 = .ok (.iconst 0, 1) := by decide +kernel
theorem dX12_noPairs_49 : decode cX12_noPairs 49 = .ok (.istore 5, 2) := by decide +kernel
theorem dX12_noPairs_51 : decode cX12_noPairs 51 = .ok (.iload 5, 2) := by decide +kernel
theorem dX12_noPairs_53 : decode cX12_noPairs 53 = .ok (.iload_n 2, 1) := by decide +kernel
theorem dX12_noPairs_54 : decode cX12_noPairs 54 = .ok (.if_icmp .ge 63, 3) := by decide +kernel
theorem dX12_noPairs_57 : decode cX12_noPairs 57 = .ok (.aload_n 0, 1) := by decide +kernel
theorem dX12_noPairs_58 : decode cX12_noPairs 58 = .ok (.getfield 16, 3) := by decide +kernel
theorem dX12_noPairs_61 : decode cX12_noPairs 61 = .ok (.sipush 160, 3) := by decide +kernel
theorem dX12_noPairs_64 : decode cX12_noPairs 64 = .ok (.iload_n 1, 1) := by decide +kernel
theorem dX12_noPairs_65 : decode cX12_noPairs 65 = .ok (.imul, 1) := by decide +kernel
theorem dX12_noPairs_66 : decode cX12_noPairs 66 = .ok (.iload 5, 2) := by decide +kernel
theorem dX12_noPairs_68 : decode cX12_noPairs 68 = .ok (.iadd, 1) := by decide +kernel
theorem dX12_noPairs_69 : decode cX12_noPairs 69 = .ok (.laload, 1) := by decide +kernel
theorem dX12_noPairs_70 : decode cX12_noPairs 70 = .ok (.l2i, 1) := by decide +kernel
theorem dX12_noPairs_71 : decode cX12_noPairs 71 = .ok (.istore 6, 2) := by decide +kernel
theorem dX12_noPairs_73 : decode cX12_noPairs 73 = .ok (.iload 6, 2) := by decide +kernel
theorem dX12_noPairs_75 : decode cX12_noPairs 75 = .ok (.ifCond .lt 33, 3) := by decide +kernel
theorem dX12_noPairs_78 : decode cX12_noPairs 78 = .ok (.iload 6, 2) := by decide +kernel
theorem dX12_noPairs_80 : decode cX12_noPairs 80 = .ok (.bipush 77, 2) := by decide +kernel
theorem dX12_noPairs_82 : decode cX12_noPairs 82 = .ok (.if_icmp .gt 26, 3) := by decide +kernel
theorem dX12_noPairs_85 : decode cX12_noPairs 85 = .ok (.iload 6, 2) := by decide +kernel
theorem dX12_noPairs_87 : decode cX12_noPairs 87 = .ok (.bipush 10, 2) := by decide +kernel
theorem dX12_noPairs_89 : decode cX12_noPairs 89 = .ok (.irem, 1) := by decide +kernel
theorem dX12_noPairs_90 : decode cX12_noPairs 90 = .ok (.bipush 7, 2) := by decide +kernel
theorem dX12_noPairs_92 : decode cX12_noPairs 92 = .ok (.if_icmp .gt 16, 3) := by decide +kernel
theorem dX12_noPairs_95 : decode cX12_noPairs 95 = .ok (.iload 6, 2) := by decide +kernel
theorem dX12_noPairs_97 : decode cX12_noPairs 97 = .ok (.bipush 10, 2) := by decide +kernel
theorem dX12_noPairs_99 : decode cX12_noPairs 99 = .ok (.idiv, 1) := by decide +kernel
theorem dX12_noPairs_100 : decode cX12_noPairs 100 = .ok (.iload 6, 2) := by decide +kernel
theorem dX12_noPairs_102 : decode cX12_noPairs 102 = .ok (.bipush 10, 2) := by decide +kernel
theorem dX12_noPairs_104 : decode cX12_noPairs 104 = .ok (.irem, 1) := by decide +kernel
theorem dX12_noPairs_105 : decode cX12_noPairs 105 = .ok (.if_icmp .ne 6, 3) := by decide +kernel
theorem dX12_noPairs_108 : decode cX12_noPairs 108 = .ok (.bipush (-6), 2) := by decide +kernel
theorem dX12_noPairs_110 : decode cX12_noPairs 110 = .ok (.ireturn, 1) := by decide +kernel
theorem dX12_noPairs_111 : decode cX12_noPairs 111 = .ok (.iinc 5 1, 3) := by decide +kernel
theorem dX12_noPairs_114 : decode cX12_noPairs 114 = .ok (.goto (-63), 3) := by decide +kernel
theorem dX12_noPairs_117 : decode cX12_noPairs 117 = .ok (.iconst 0, 1) := by decide +kernel
theorem dX12_noPairs_118 : decode cX12_noPairs 118 = .ok (.ireturn, 1) := by decide +kernel
theorem dX12_pairs_0 : decode cX12_pairs 0 = .ok (.aload_n 0, 1) := by decide +kernel
theorem dX12_pairs_1 : decode cX12_pairs 1 = .ok (.iconst 0, 1) := by decide +kernel
theorem dX12_pairs_2 : decode cX12_pairs 2 = .ok (.putfield 252, 3) := by decide +kernel
theorem dX12_pairs_5 : decode cX12_pairs 5 = .ok (.iconst 0, 1) := by decide +kernel
theorem dX12_pairs_6 : decode cX12_pairs 6 = .ok (.istore_n 3, 1) := by decide +kernel
theorem dX12_pairs_7 : decode cX12_pairs 7 = .ok (.iload_n 3, 1) := by decide +kernel
theorem dX12_pairs_8 : decode cX12_pairs 8 = .ok (.bipush 8, 2) := by decide +kernel
theorem dX12_pairs_10 : decode cX12_pairs 10 = .ok (.if_icmp .ge 16, 3) := by decide +kernel
theorem dX12_pairs_13 : decode cX12_pairs 13 = .ok (.aload_n 0, 1) := by decide +kernel
theorem dX12_pairs_14 : decode cX12_pairs 14 = .ok (.getfield 68, 3) := by decide +kernel
theorem dX12_pairs_17 : decode cX12_pairs 17 = .ok (.iload_n 3, 1) := by decide +kernel
theorem dX12_pairs_18 : decode cX12_pairs 18 = .ok (.iconst 0, 1) := by decide +kernel
theorem dX12_pairs_19 : decode cX12_pairs 19 = .ok (.iastore, 1) := by decide +kernel
theorem dX12_pairs_20 : decode cX12_pairs 20 = .ok (.iinc 3 1, 3) := by decide +kernel
theorem dX12_pairs_23 : decode cX12_pairs 23 = .ok (.goto (-16), 3) := by decide +kernel
theorem dX12_pairs_26 : decode cX12_pairs 26 = .ok (.iconst 0, 1) := by decide +kernel
theorem dX12_pairs_27 : decode cX12_pairs 27 = .ok (.istore_n 3, 1) := by decide +kernel
theorem dX12_pairs_28 : decode cX12_pairs 28 = .ok (.iload_n 3, 1) := by decide +kernel
theorem dX12_pairs_29 : decode cX12_pairs 29 = .ok (.iload_n 2, 1) := by decide +kernel
theorem dX12_pairs_30 : decode cX12_pairs 30 = .ok (.if_icmp .ge 68, 3) := by decide +kernel
theorem dX12_pairs_33 : decode cX12_pairs 33 = .ok (.aload_n 0, 1) := by decide +kernel
theorem dX12_pairs_34 : decode cX12_pairs 34 = .ok (.getfield 16, 3) := by decide +kernel
theorem dX12_pairs_37 : decode cX12_pairs 37 = .ok (.sipush 160, 3) := by decide +kernel
theorem dX12_pairs_40 : decode cX12_pairs 40 = .ok (.iload_n 1, 1) := by decide +kernel
theorem dX12_pairs_41 : decode cX12_pairs 41 = .ok (.imul, 1) := by decide +kernel
theorem dX12_pairs_42 : decode cX12_pairs 42 = .ok (.iload_n 3, 1) := by decide +kernel
theorem dX12_pairs_43 : decode cX12_pairs 43 = .ok (.iadd, 1) := by decide +kernel
theorem dX12_pairs_44 : decode cX12_pairs 44 = .ok (.laload, 1) := by decide +kernel
theorem dX12_pairs_45 : decode cX12_pairs 45 = .ok (.l2i, 1) := by decide +kernel
theorem dX12_pairs_46 : decode cX12_pairs 46 = .ok (.istore 4, 2) := by decide +kernel
theorem dX12_pairs_48 : decode cX12_pairs 48 = .ok (.aload_n 0, 1) := by decide +kernel
theorem dX12_pairs_49 : decode cX12_pairs 49 = .ok (.dup, 1) := by decide +kernel
theorem dX12_pairs_50 : decode cX12_pairs 50 = .ok (.getfield 252, 3) := by decide +kernel
theorem dX12_pairs_53 : decode cX12_pairs 53 = .ok (.iconst 1, 1) := by decide +kernel
theorem dX12_pairs_54 : decode cX12_pairs 54 = .ok (.iload 4, 2) := by decide +kernel
theorem dX12_pairs_56 : decode cX12_pairs 56 = .ok (.bipush 10, 2) := by decide +kernel
theorem dX12_pairs_58 : decode cX12_pairs 58 = .ok (.idiv, 1) := by decide +kernel
theorem dX12_pairs_59 : decode cX12_pairs 59 = .ok (.ishl, 1) := by decide +kernel
theorem dX12_pairs_60 : decode cX12_pairs 60 = .ok (.iconst 1, 1) := by decide +kernel
theorem dX12_pairs_61 : decode cX12_pairs 61 = .ok (.iload 4, 2) := by decide +kernel
theorem dX12_pairs_63 : decode cX12_pairs 63 = .ok (.bipush 10, 2) := by decide +kernel
theorem dX12_pairs_65 : decode cX12_pairs 65 = .ok (.irem, 1) := by decide +kernel
theorem dX12_pairs_66 : decode cX12_pairs 66 = .ok (.ishl, 1) := by decide +kernel
theorem dX12_pairs_67 : decode cX12_pairs 67 = .ok (.ior, 1) := by decide +kernel
theorem dX12_pairs_68 : decode cX12_pairs 68 = .ok (.ior, 1) := by decide +kernel
theorem dX12_pairs_69 : decode cX12_pairs 69 = .ok (.putfield 252, 3) := by decide +kernel
theorem dX12_pairs_72 : decode cX12_pairs 72 = .ok (.aload_n 0, 1) := by decide +kernel
theorem dX12_pairs_73 : decode cX12_pairs 73 = .ok (.getfield 68, 3) := by decide +kernel
theorem dX12_pairs_76 : decode cX12_pairs 76 = .ok (.iload 4, 2) := by decide +kernel
theorem dX12_pairs_78 : decode cX12_pairs 78 = .ok (.bipush 10, 2) := by decide +kernel
theorem dX12_pairs_80 : decode cX12_pairs 80 = .ok (.idiv, 1) := by decide +kernel
theorem dX12_pairs_81 : decode cX12_pairs 81 = .ok (.dup2, 1) := by decide +kernel
theorem dX12_pairs_82 : decode cX12_pairs 82 = .ok (.iaload, 1) := by decide +kernel
theorem dX12_pairs_83 : decode cX12_pairs 83 = .ok (.iconst 1, 1) := by decide +kernel
theorem dX12_pairs_84 : decode cX12_pairs 84 = .ok (.iload 4, 2) := by decide +kernel
theorem dX12_pairs_86 : decode cX12_pairs 86 = .ok (.bipush 10, 2) := by decide +kernel
theorem dX12_pairs_88 : decode cX12_pairs 88 = .ok (.irem, 1) := by decide +kernel
theorem dX12_pairs_89 : decode cX12_pairs 89 = .ok (.ishl, 1) := by decide +kernel
theorem dX12_pairs_90 : decode cX12_pairs 90 = .ok (.ior, 1) := by decide +kernel
theorem dX12_pairs_91 : decode cX12_pairs 91 = .ok (.iastore, 1) := by decide +kernel
theorem dX12_pairs_92 : decode cX12_pairs 92 = .ok (.iinc 3 1, 3) := by decide +kernel
theorem dX12_pairs_95 : decode cX12_pairs 95 = .ok (.goto (-67), 3) := by decide +kernel
theorem dX12_pairs_98 : decode cX12_pairs 98 = .ok (.return_, 1) := by decide +kernel
theorem dX12_ordersFrom_0 : decode cX12_ordersFrom 0 = .ok (.iload_n 1, 1) := by decide +kernel
theorem dX12_ordersFrom_1 : decode cX12_ordersFrom 1 = .ok (.aload_n 0, 1) := by decide +kernel
theorem dX12_ordersFrom_2 : decode cX12_ordersFrom 2 = .ok (.getfield 252, 3) := by decide +kernel
theorem dX12_ordersFrom_5 : decode cX12_ordersFrom 5 = .ok (.if_icmp .ne 5, 3) := by decide +kernel
theorem dX12_ordersFrom_8 : decode cX12_ordersFrom 8 = .ok (.iconst 1, 1) := by decide +kernel
theorem dX12_ordersFrom_9 : decode cX12_ordersFrom 9 = .ok (.ireturn, 1) := by decide +kernel
theorem dX12_ordersFrom_10 : decode cX12_ordersFrom 10 = .ok (.iconst 0, 1) := by decide +kernel
theorem dX12_ordersFrom_11 : decode cX12_ordersFrom 11 = .ok (.istore_n 2, 1) := by decide +kernel
theorem dX12_ordersFrom_12 : decode cX12_ordersFrom 12 = .ok (.iconst 0, 1) := by decide +kernel
theorem dX12_ordersFrom_13 : decode cX12_ordersFrom 13 = .ok (.istore_n 3, 1) := by decide +kernel
theorem dX12_ordersFrom_14 : decode cX12_ordersFrom 14 = .ok (.iload_n 3, 1) := by decide +kernel
theorem dX12_ordersFrom_15 : decode cX12_ordersFrom 15 = .ok (.bipush 8, 2) := by decide +kernel
theorem dX12_ordersFrom_17 : decode cX12_ordersFrom 17 = .ok (.if_icmp .ge 49, 3) := by decide +kernel
theorem dX12_ordersFrom_20 : decode cX12_ordersFrom 20 = .ok (.aload_n 0, 1) := by decide +kernel
theorem dX12_ordersFrom_21 : decode cX12_ordersFrom 21 = .ok (.getfield 252, 3) := by decide +kernel
theorem dX12_ordersFrom_24 : decode cX12_ordersFrom 24 = .ok (.iload_n 1, 1) := by decide +kernel
theorem dX12_ordersFrom_25 : decode cX12_ordersFrom 25 = .ok (.iconst (-1), 1) := by decide +kernel
theorem dX12_ordersFrom_26 : decode cX12_ordersFrom 26 = .ok (.ixor, 1) := by decide +kernel
theorem dX12_ordersFrom_27 : decode cX12_ordersFrom 27 = .ok (.iand, 1) := by decide +kernel
theorem dX12_ordersFrom_28 : decode cX12_ordersFrom 28 = .ok (.iload_n 3, 1) := by decide +kernel
theorem dX12_ordersFrom_29 : decode cX12_ordersFrom 29 = .ok (.invokestatic 155, 3) := by decide +kernel
theorem dX12_ordersFrom_32 : decode cX12_ordersFrom 32 = .ok (.ifCond .eq 28, 3) := by decide +kernel
theorem dX12_ordersFrom_35 : decode cX12_ordersFrom 35 = .ok (.aload_n 0, 1) := by decide +kernel
theorem dX12_ordersFrom_36 : decode cX12_ordersFrom 36 = .ok (.getfield 68, 3) := by decide +kernel
theorem dX12_ordersFrom_39 : decode cX12_ordersFrom 39 = .ok (.iload_n 3, 1) := by decide +kernel
theorem dX12_ordersFrom_40 : decode cX12_ordersFrom 40 = .ok (.iaload, 1) := by decide +kernel
theorem dX12_ordersFrom_41 : decode cX12_ordersFrom 41 = .ok (.iload_n 1, 1) := by decide +kernel
theorem dX12_ordersFrom_42 : decode cX12_ordersFrom 42 = .ok (.iconst (-1), 1) := by decide +kernel
theorem dX12_ordersFrom_43 : decode cX12_ordersFrom 43 = .ok (.ixor, 1) := by decide +kernel
theorem dX12_ordersFrom_44 : decode cX12_ordersFrom 44 = .ok (.iand, 1) := by decide +kernel
theorem dX12_ordersFrom_45 : decode cX12_ordersFrom 45 = .ok (.ifCond .ne 15, 3) := by decide +kernel
theorem dX12_ordersFrom_48 : decode cX12_ordersFrom 48 = .ok (.iload_n 2, 1) := by decide +kernel
theorem dX12_ordersFrom_49 : decode cX12_ordersFrom 49 = .ok (.aload_n 0, 1) := by decide +kernel
theorem dX12_ordersFrom_50 : decode cX12_ordersFrom 50 = .ok (.iload_n 1, 1) := by decide +kernel
theorem dX12_ordersFrom_51 : decode cX12_ordersFrom 51 = .ok (.iconst 1, 1) := by decide +kernel
theorem dX12_ordersFrom_52 : decode cX12_ordersFrom 52 = .ok (.iload_n 3, 1) := by decide +kernel
theorem dX12_ordersFrom_53 : decode cX12_ordersFrom 53 = .ok (.ishl, 1) := by decide +kernel
theorem dX12_ordersFrom_54 : decode cX12_ordersFrom 54 = .ok (.ior, 1) := by decide +kernel
theorem dX12_ordersFrom_55 : decode cX12_ordersFrom 55 = .ok (.invokevirtual 255, 3) := by decide +kernel
theorem dX12_ordersFrom_58 : decode cX12_ordersFrom 58 = .ok (.iadd, 1) := by decide +kernel
theorem dX12_ordersFrom_59 : decode cX12_ordersFrom 59 = .ok (.istore_n 2, 1) := by decide +kernel
theorem dX12_ordersFrom_60 : decode cX12_ordersFrom 60 = .ok (.iinc 3 1, 3) := by decide +kernel
theorem dX12_ordersFrom_63 : decode cX12_ordersFrom 63 = .ok (.goto (-49), 3) := by decide +kernel
theorem dX12_ordersFrom_66 : decode cX12_ordersFrom 66 = .ok (.iload_n 2, 1) := by decide +kernel
theorem dX12_ordersFrom_67 : decode cX12_ordersFrom 67 = .ok (.ireturn, 1) := by decide +kernel
theorem dX12_orders_0 : decode cX12_orders 0 = .ok (.aload_n 0, 1) := by decide +kernel
theorem dX12_orders_1 : decode cX12_orders 1 = .ok (.iload_n 1, 1) := by decide +kernel
theorem dX12_orders_2 : decode cX12_orders 2 = .ok (.iload_n 2, 1) := by decide +kernel
theorem dX12_orders_3 : decode cX12_orders 3 = .ok (.iload_n 3, 1) := by decide +kernel
theorem dX12_orders_4 : decode cX12_orders 4 = .ok (.iconst (-1), 1) := by decide +kernel
theorem dX12_orders_5 : decode cX12_orders 5 = .ok (.if_icmp .ge 7, 3) := by decide +kernel
theorem dX12_orders_8 : decode cX12_orders 8 = .ok (.iconst 1, 1) := by decide +kernel
theorem dX12_orders_9 : decode cX12_orders 9 = .ok (.goto 4, 3) := by decide +kernel
theorem dX12_orders_12 : decode cX12_orders 12 = .ok (.iconst 0, 1) := by decide +kernel
theorem dX12_orders_13 : decode cX12_orders 13 = .ok (.invokevirtual 258, 3) := by decide +kernel
theorem dX12_orders_16 : decode cX12_orders 16 = .ok (.istore 4, 2) := by decide +kernel
theorem dX12_orders_18 : decode cX12_orders 18 = .ok (.iload 4, 2) := by decide +kernel
theorem dX12_orders_20 : decode cX12_orders 20 = .ok (.ifCond .ge 10, 3) := by decide +kernel
theorem dX12_orders_23 : decode cX12_orders 23 = .ok (.aload_n 0, 1) := by decide +kernel
theorem dX12_orders_24 : decode cX12_orders 24 = .ok (.iload 4, 2) := by decide +kernel
theorem dX12_orders_26 : decode cX12_orders 26 = .ok (.invokevirtual 98, 3) := by decide +kernel
theorem dX12_orders_29 : decode cX12_orders 29 = .ok (.ireturn, 1) := by decide +kernel
theorem dX12_orders_30 : decode cX12_orders 30 = .ok (.aload_n 0, 1) := by decide +kernel
theorem dX12_orders_31 : decode cX12_orders 31 = .ok (.iload_n 1, 1) := by decide +kernel
theorem dX12_orders_32 : decode cX12_orders 32 = .ok (.iload_n 2, 1) := by decide +kernel
theorem dX12_orders_33 : decode cX12_orders 33 = .ok (.invokevirtual 262, 3) := by decide +kernel
theorem dX12_orders_36 : decode cX12_orders 36 = .ok (.aload_n 0, 1) := by decide +kernel
theorem dX12_orders_37 : decode cX12_orders 37 = .ok (.iconst 0, 1) := by decide +kernel
theorem dX12_orders_38 : decode cX12_orders 38 = .ok (.invokevirtual 255, 3) := by decide +kernel
theorem dX12_orders_41 : decode cX12_orders 41 = .ok (.istore 5, 2) := by decide +kernel
theorem dX12_orders_43 : decode cX12_orders 43 = .ok (.iload_n 3, 1) := by decide +kernel
theorem dX12_orders_44 : decode cX12_orders 44 = .ok (.iconst (-1), 1) := by decide +kernel
theorem dX12_orders_45 : decode cX12_orders 45 = .ok (.if_icmp .ne 6, 3) := by decide +kernel
theorem dX12_orders_48 : decode cX12_orders 48 = .ok (.iload 5, 2) := by decide +kernel
theorem dX12_orders_50 : decode cX12_orders 50 = .ok (.ireturn, 1) := by decide +kernel
theorem dX12_orders_51 : decode cX12_orders 51 = .ok (.iload 5, 2) := by decide +kernel
theorem dX12_orders_53 : decode cX12_orders 53 = .ok (.ifCond .eq 20, 3) := by decide +kernel
theorem dX12_orders_56 : decode cX12_orders 56 = .ok (.iload_n 3, 1) := by decide +kernel
theorem dX12_orders_57 : decode cX12_orders 57 = .ok (.iconst 0, 1) := by decide +kernel
theorem dX12_orders_58 : decode cX12_orders 58 = .ok (.aload_n 0, 1) := by decide +kernel
theorem dX12_orders_59 : decode cX12_orders 59 = .ok (.getfield 252, 3) := by decide +kernel
theorem dX12_orders_62 : decode cX12_orders 62 = .ok (.invokestatic 266, 3) := by decide +kernel
theorem dX12_orders_65 : decode cX12_orders 65 = .ok (.iconst 1, 1) := by decide +kernel
theorem dX12_orders_66 : decode cX12_orders 66 = .ok (.isub, 1) := by decide +kernel
theorem dX12_orders_67 : decode cX12_orders 67 = .ok (.invokestatic 90, 3) := by decide +kernel
theorem dX12_orders_70 : decode cX12_orders 70 = .ok (.ifCond .ne 10, 3) := by decide +kernel
theorem dX12_orders_73 : decode cX12_orders 73 = .ok (.aload_n 0, 1) := by decide +kernel
theorem dX12_orders_74 : decode cX12_orders 74 = .ok (.bipush (-5), 2) := by decide +kernel
theorem dX12_orders_76 : decode cX12_orders 76 = .ok (.invokevirtual 98, 3) := by decide +kernel
theorem dX12_orders_79 : decode cX12_orders 79 = .ok (.ireturn, 1) := by decide +kernel
theorem dX12_orders_80 : decode cX12_orders 80 = .ok (.iconst 0, 1) := by decide +kernel
theorem dX12_orders_81 : decode cX12_orders 81 = .ok (.istore 6, 2) := by decide +kernel
theorem dX12_orders_83 : decode cX12_orders 83 = .ok (.iconst 0, 1) := by decide +kernel
theorem dX12_orders_84 : decode cX12_orders 84 = .ok (.istore 7, 2) := by decide +kernel
theorem dX12_orders_86 : decode cX12_orders 86 = .ok (.iload 7, 2) := by decide +kernel
theorem dX12_orders_88 : decode cX12_orders 88 = .ok (.iload_n 3, 1) := by decide +kernel
theorem dX12_orders_89 : decode cX12_orders 89 = .ok (.if_icmp .gt 82, 3) := by decide +kernel
theorem dX12_orders_92 : decode cX12_orders 92 = .ok (.iconst 0, 1) := by decide +kernel
theorem dX12_orders_93 : decode cX12_orders 93 = .ok (.istore 8, 2) := by decide +kernel
theorem dX12_orders_95 : decode cX12_orders 95 = .ok (.aload_n 0, 1) := by decide +kernel
theorem dX12_orders_96 : decode cX12_orders 96 = .ok (.getfield 252, 3) := by decide +kernel
theorem dX12_orders_99 : decode cX12_orders 99 = .ok (.iload 6, 2) := by decide +kernel
theorem dX12_orders_101 : decode cX12_orders 101 = .ok (.iconst (-1), 1) := by decide +kernel
theorem dX12_orders_102 : decode cX12_orders 102 = .ok (.ixor, 1) := by decide +kernel
theorem dX12_orders_103 : decode cX12_orders 103 = .ok (.iand, 1) := by decide +kernel
theorem dX12_orders_104 : decode cX12_orders 104 = .ok (.iload 8, 2) := by decide +kernel
theorem dX12_orders_106 : decode cX12_orders 106 = .ok (.invokestatic 155, 3) := by decide +kernel
theorem dX12_orders_109 : decode cX12_orders 109 = .ok (.ifCond .eq 32, 3) := by decide +kernel
theorem dX12_orders_112 : decode cX12_orders 112 = .ok (.aload_n 0, 1) := by decide +kernel
theorem dX12_orders_113 : decode cX12_orders 113 = .ok (.getfield 68, 3) := by decide +kernel
theorem dX12_orders_116 : decode cX12_orders 116 = .ok (.iload 8, 2) := by decide +kernel
theorem dX12_orders_118 : decode cX12_orders 118 = .ok (.iaload, 1) := by decide +kernel
theorem dX12_orders_119 : decode cX12_orders 119 = .ok (.iload 6, 2) := by decide +kernel
theorem dX12_orders_121 : decode cX12_orders 121 = .ok (.iconst (-1), 1) := by decide +kernel
theorem dX12_orders_122 : decode cX12_orders 122 = .ok (.ixor, 1) := by decide +kernel
theorem dX12_orders_123 : decode cX12_orders 123 = .ok (.iand, 1) := by decide +kernel
theorem dX12_orders_124 : decode cX12_orders 124 = .ok (.ifCond .ne 17, 3) := by decide +kernel
theorem dX12_orders_127 : decode cX12_orders 127 = .ok (.aload_n 0, 1) := by decide +kernel
theorem dX12_orders_128 : decode cX12_orders 128 = .ok (.iload 6, 2) := by decide +kernel
theorem dX12_orders_130 : decode cX12_orders 130 = .ok (.iconst 1, 1) := by decide +kernel
theorem dX12_orders_131 : decode cX12_orders 131 = .ok (.iload 8, 2) := by decide +kernel
theorem dX12_orders_133 : decode cX12_orders 133 = .ok (.ishl, 1) := by decide +kernel
theorem dX12_orders_134 : decode cX12_orders 134 = .ok (.ior, 1) := by decide +kernel
theorem dX12_orders_135 : decode cX12_orders 135 = .ok (.invokevirtual 255, 3) := by decide +kernel
theorem dX12_orders_138 : decode cX12_orders 138 = .ok (.ifCond .ne 9, 3) := by decide +kernel
theorem dX12_orders_141 : decode cX12_orders 141 = .ok (.iinc 8 1, 3) := by decide +kernel
theorem dX12_orders_144 : decode cX12_orders 144 = .ok (.goto (-49), 3) := by decide +kernel
theorem dX12_orders_147 : decode cX12_orders 147 = .ok (.aload_n 0, 1) := by decide +kernel
theorem dX12_orders_148 : decode cX12_orders 148 = .ok (.getfield 71, 3) := by decide +kernel
theorem dX12_orders_151 : decode cX12_orders 151 = .ok (.iload 7, 2) := by decide +kernel
theorem dX12_orders_153 : decode cX12_orders 153 = .ok (.iload 8, 2) := by decide +kernel
theorem dX12_orders_155 : decode cX12_orders 155 = .ok (.iastore, 1) := by decide +kernel
theorem dX12_orders_156 : decode cX12_orders 156 = .ok (.iload 6, 2) := by decide +kernel
theorem dX12_orders_158 : decode cX12_orders 158 = .ok (.iconst 1, 1) := by decide +kernel
theorem dX12_orders_159 : decode cX12_orders 159 = .ok (.iload 8, 2) := by decide +kernel
theorem dX12_orders_161 : decode cX12_orders 161 = .ok (.ishl, 1) := by decide +kernel
theorem dX12_orders_162 : decode cX12_orders 162 = .ok (.ior, 1) := by decide +kernel
theorem dX12_orders_163 : decode cX12_orders 163 = .ok (.istore 6, 2) := by decide +kernel
theorem dX12_orders_165 : decode cX12_orders 165 = .ok (.iinc 7 1, 3) := by decide +kernel
theorem dX12_orders_168 : decode cX12_orders 168 = .ok (.goto (-82), 3) := by decide +kernel
theorem dX12_orders_171 : decode cX12_orders 171 = .ok (.aload_n 0, 1) := by decide +kernel
theorem dX12_orders_172 : decode cX12_orders 172 = .ok (.getfield 71, 3) := by decide +kernel
theorem dX12_orders_175 : decode cX12_orders 175 = .ok (.iload_n 3, 1) := by decide +kernel
theorem dX12_orders_176 : decode cX12_orders 176 = .ok (.iaload, 1) := by decide +kernel
theorem dX12_orders_177 : decode cX12_orders 177 = .ok (.ireturn, 1) := by decide +kernel
theorem dX12_forged_0 : decode cX12_forged 0 = .ok (.aload_n 0, 1) := by decide +kernel
theorem dX12_forged_1 : decode cX12_forged 1 = .ok (.iload_n 1, 1) := by decide +kernel
theorem dX12_forged_2 : decode cX12_forged 2 = .ok (.iload_n 2, 1) := by decide +kernel
theorem dX12_forged_3 : decode cX12_forged 3 = .ok (.iconst 0, 1) := by decide +kernel
theorem dX12_forged_4 : decode cX12_forged 4 = .ok (.invokevirtual 258, 3) := by decide +kernel
theorem dX12_forged_7 : decode cX12_forged 7 = .ok (.istore_n 3, 1) := by decide +kernel
theorem dX12_forged_8 : decode cX12_forged 8 = .ok (.iload_n 3, 1) := by decide +kernel
theorem dX12_forged_9 : decode cX12_forged 9 = .ok (.ifCond .ge 9, 3) := by decide +kernel
theorem dX12_forged_12 : decode cX12_forged 12 = .ok (.aload_n 0, 1) := by decide +kernel
theorem dX12_forged_13 : decode cX12_forged 13 = .ok (.iload_n 3, 1) := by decide +kernel
theorem dX12_forged_14 : decode cX12_forged 14 = .ok (.invokevirtual 237, 3) := by decide +kernel
theorem dX12_forged_17 : decode cX12_forged 17 = .ok (.ireturn, 1) := by decide +kernel
theorem dX12_forged_18 : decode cX12_forged 18 = .ok (.iconst 0, 1) := by decide +kernel
theorem dX12_forged_19 : decode cX12_forged 19 = .ok (.istore 4, 2) := by decide +kernel
theorem dX12_forged_21 : decode cX12_forged 21 = .ok (.iload 4, 2) := by decide +kernel
theorem dX12_forged_23 : decode cX12_forged 23 = .ok (.iload_n 2, 1) := by decide +kernel
theorem dX12_forged_24 : decode cX12_forged 24 = .ok (.if_icmp .ge 29, 3) := by decide +kernel
theorem dX12_forged_27 : decode cX12_forged 27 = .ok (.aload_n 0, 1) := by decide +kernel
theorem dX12_forged_28 : decode cX12_forged 28 = .ok (.iload_n 1, 1) := by decide +kernel
theorem dX12_forged_29 : decode cX12_forged 29 = .ok (.iload 4, 2) := by decide +kernel
theorem dX12_forged_31 : decode cX12_forged 31 = .ok (.iconst 1, 1) := by decide +kernel
theorem dX12_forged_32 : decode cX12_forged 32 = .ok (.iadd, 1) := by decide +kernel
theorem dX12_forged_33 : decode cX12_forged 33 = .ok (.invokevirtual 262, 3) := by decide +kernel
theorem dX12_forged_36 : decode cX12_forged 36 = .ok (.aload_n 0, 1) := by decide +kernel
theorem dX12_forged_37 : decode cX12_forged 37 = .ok (.iconst 0, 1) := by decide +kernel
theorem dX12_forged_38 : decode cX12_forged 38 = .ok (.invokevirtual 255, 3) := by decide +kernel
theorem dX12_forged_41 : decode cX12_forged 41 = .ok (.ifCond .ne 6, 3) := by decide +kernel
theorem dX12_forged_44 : decode cX12_forged 44 = .ok (.iload 4, 2) := by decide +kernel
theorem dX12_forged_46 : decode cX12_forged 46 = .ok (.ireturn, 1) := by decide +kernel
theorem dX12_forged_47 : decode cX12_forged 47 = .ok (.iinc 4 1, 3) := by decide +kernel
theorem dX12_forged_50 : decode cX12_forged 50 = .ok (.goto (-29), 3) := by decide +kernel
theorem dX12_forged_53 : decode cX12_forged 53 = .ok (.iconst (-1), 1) := by decide +kernel
theorem dX12_forged_54 : decode cX12_forged 54 = .ok (.ireturn, 1) := by decide +kernel
theorem dX12_deepest_0 : decode cX12_deepest 0 = .ok (.iconst 0, 1) := by decide +kernel
theorem dX12_deepest_1 : decode cX12_deepest 1 = .ok (.istore_n 2, 1) := by decide +kernel
theorem dX12_deepest_2 : decode cX12_deepest 2 = .ok (.iconst 0, 1) := by decide +kernel
theorem dX12_deepest_3 : decode cX12_deepest 3 = .ok (.istore_n 3, 1) := by decide +kernel
theorem dX12_deepest_4 : decode cX12_deepest 4 = .ok (.iload_n 3, 1) := by decide +kernel
theorem dX12_deepest_5 : decode cX12_deepest 5 = .ok (.bipush 12, 2) := by decide +kernel
theorem dX12_deepest_7 : decode cX12_deepest 7 = .ok (.if_icmp .ge 20, 3) := by decide +kernel
theorem dX12_deepest_10 : decode cX12_deepest 10 = .ok (.iload_n 2, 1) := by decide +kernel
theorem dX12_deepest_11 : decode cX12_deepest 11 = .ok (.aload_n 0, 1) := by decide +kernel
theorem dX12_deepest_12 : decode cX12_deepest 12 = .ok (.iload_n 1, 1) := by decide +kernel
theorem dX12_deepest_13 : decode cX12_deepest 13 = .ok (.iload_n 3, 1) := by decide +kernel
theorem dX12_deepest_14 : decode cX12_deepest 14 = .ok (.invokevirtual 234, 3) := by decide +kernel
theorem dX12_deepest_17 : decode cX12_deepest 17 = .ok (.invokestatic 223, 3) := by decide +kernel
theorem dX12_deepest_20 : decode cX12_deepest 20 = .ok (.istore_n 2, 1) := by decide +kernel
theorem dX12_deepest_21 : decode cX12_deepest 21 = .ok (.iinc 3 1, 3) := by decide +kernel
theorem dX12_deepest_24 : decode cX12_deepest 24 = .ok (.goto (-20), 3) := by decide +kernel
theorem dX12_deepest_27 : decode cX12_deepest 27 = .ok (.iload_n 2, 1) := by decide +kernel
theorem dX12_deepest_28 : decode cX12_deepest 28 = .ok (.ireturn, 1) := by decide +kernel
theorem dX12_lane_0 : decode cX12_lane 0 = .ok (.aload_n 0, 1) := by decide +kernel
theorem dX12_lane_1 : decode cX12_lane 1 = .ok (.iload_n 1, 1) := by decide +kernel
theorem dX12_lane_2 : decode cX12_lane 2 = .ok (.invokevirtual 94, 3) := by decide +kernel
theorem dX12_lane_5 : decode cX12_lane 5 = .ok (.ifCond .eq 11, 3) := by decide +kernel
theorem dX12_lane_8 : decode cX12_lane 8 = .ok (.aload_n 0, 1) := by decide +kernel
theorem dX12_lane_9 : decode cX12_lane 9 = .ok (.iload_n 2, 1) := by decide +kernel
theorem dX12_lane_10 : decode cX12_lane 10 = .ok (.invokevirtual 94, 3) := by decide +kernel
theorem dX12_lane_13 : decode cX12_lane 13 = .ok (.ifCond .ne 13, 3) := by decide +kernel
theorem dX12_lane_16 : decode cX12_lane 16 = .ok (.aload_n 0, 1) := by decide +kernel
theorem dX12_lane_17 : decode cX12_lane 17 = .ok (.iconst (-1), 1) := by decide +kernel
theorem dX12_lane_18 : decode cX12_lane 18 = .ok (.invokevirtual 98, 3) := by decide +kernel
theorem dX12_lane_21 : decode cX12_lane 21 = .ok (.sipush 1000, 3) := by decide +kernel
theorem dX12_lane_24 : decode cX12_lane 24 = .ok (.isub, 1) := by decide +kernel
theorem dX12_lane_25 : decode cX12_lane 25 = .ok (.ireturn, 1) := by decide +kernel
theorem dX12_lane_26 : decode cX12_lane 26 = .ok (.iload_n 1, 1) := by decide +kernel
theorem dX12_lane_27 : decode cX12_lane 27 = .ok (.iload_n 2, 1) := by decide +kernel
theorem dX12_lane_28 : decode cX12_lane 28 = .ok (.if_icmp .ne 14, 3) := by decide +kernel
theorem dX12_lane_31 : decode cX12_lane 31 = .ok (.aload_n 0, 1) := by decide +kernel
theorem dX12_lane_32 : decode cX12_lane 32 = .ok (.bipush (-6), 2) := by decide +kernel
theorem dX12_lane_34 : decode cX12_lane 34 = .ok (.invokevirtual 98, 3) := by decide +kernel
theorem dX12_lane_37 : decode cX12_lane 37 = .ok (.sipush 1000, 3) := by decide +kernel
theorem dX12_lane_40 : decode cX12_lane 40 = .ok (.isub, 1) := by decide +kernel
theorem dX12_lane_41 : decode cX12_lane 41 = .ok (.ireturn, 1) := by decide +kernel
theorem dX12_lane_42 : decode cX12_lane 42 = .ok (.aload_n 0, 1) := by decide +kernel
theorem dX12_lane_43 : decode cX12_lane 43 = .ok (.getfield 78, 3) := by decide +kernel
theorem dX12_lane_46 : decode cX12_lane 46 = .ok (.aload_n 0, 1) := by decide +kernel
theorem dX12_lane_47 : decode cX12_lane 47 = .ok (.iload_n 1, 1) := by decide +kernel
theorem dX12_lane_48 : decode cX12_lane 48 = .ok (.invokevirtual 269, 3) := by decide +kernel
theorem dX12_lane_51 : decode cX12_lane 51 = .ok (.isub, 1) := by decide +kernel
theorem dX12_lane_52 : decode cX12_lane 52 = .ok (.aload_n 0, 1) := by decide +kernel
theorem dX12_lane_53 : decode cX12_lane 53 = .ok (.iload_n 2, 1) := by decide +kernel
theorem dX12_lane_54 : decode cX12_lane 54 = .ok (.invokevirtual 269, 3) := by decide +kernel
theorem dX12_lane_57 : decode cX12_lane 57 = .ok (.isub, 1) := by decide +kernel
theorem dX12_lane_58 : decode cX12_lane 58 = .ok (.ireturn, 1) := by decide +kernel
theorem dX12_price_0 : decode cX12_price 0 = .ok (.aload_n 0, 1) := by decide +kernel
theorem dX12_price_1 : decode cX12_price 1 = .ok (.iload_n 1, 1) := by decide +kernel
theorem dX12_price_2 : decode cX12_price 2 = .ok (.invokevirtual 94, 3) := by decide +kernel
theorem dX12_price_5 : decode cX12_price 5 = .ok (.ifCond .ne 9, 3) := by decide +kernel
theorem dX12_price_8 : decode cX12_price 8 = .ok (.aload_n 0, 1) := by decide +kernel
theorem dX12_price_9 : decode cX12_price 9 = .ok (.iconst (-1), 1) := by decide +kernel
theorem dX12_price_10 : decode cX12_price 10 = .ok (.invokevirtual 98, 3) := by decide +kernel
theorem dX12_price_13 : decode cX12_price 13 = .ok (.ireturn, 1) := by decide +kernel
theorem dX12_price_14 : decode cX12_price 14 = .ok (.iload_n 2, 1) := by decide +kernel
theorem dX12_price_15 : decode cX12_price 15 = .ok (.invokestatic 240, 3) := by decide +kernel
theorem dX12_price_18 : decode cX12_price 18 = .ok (.ifCond .ne 10, 3) := by decide +kernel
theorem dX12_price_21 : decode cX12_price 21 = .ok (.aload_n 0, 1) := by decide +kernel
theorem dX12_price_22 : decode cX12_price 22 = .ok (.bipush (-6), 2) := by decide +kernel
theorem dX12_price_24 : decode cX12_price 24 = .ok (.invokevirtual 98, 3) := by decide +kernel
theorem dX12_price_27 : decode cX12_price 27 = .ok (.ireturn, 1) := by decide +kernel
theorem dX12_price_28 : decode cX12_price 28 = .ok (.aload_n 0, 1) := by decide +kernel
theorem dX12_price_29 : decode cX12_price 29 = .ok (.iload_n 1, 1) := by decide +kernel
theorem dX12_price_30 : decode cX12_price 30 = .ok (.iload_n 2, 1) := by decide +kernel
theorem dX12_price_31 : decode cX12_price 31 = .ok (.invokevirtual 249, 3) := by decide +kernel
theorem dX12_price_34 : decode cX12_price 34 = .ok (.istore_n 3, 1) := by decide +kernel
theorem dX12_price_35 : decode cX12_price 35 = .ok (.iconst 0, 1) := by decide +kernel
theorem dX12_price_36 : decode cX12_price 36 = .ok (.istore 4, 2) := by decide +kernel
theorem dX12_price_38 : decode cX12_price 38 = .ok (.iconst 0, 1) := by decide +kernel
theorem dX12_price_39 : decode cX12_price 39 = .ok (.istore 5, 2) := by decide +kernel
theorem dX12_price_41 : decode cX12_price 41 = .ok (.iload 5, 2) := by decide +kernel
theorem dX12_price_43 : decode cX12_price 43 = .ok (.aload_n 0, 1) := by decide +kernel
theorem dX12_price_44 : decode cX12_price 44 = .ok (.getfield 26, 3) := by decide +kernel
theorem dX12_price_47 : decode cX12_price 47 = .ok (.iload_n 1, 1) := by decide +kernel
theorem dX12_price_48 : decode cX12_price 48 = .ok (.iaload, 1) := by decide +kernel
theorem dX12_price_49 : decode cX12_price 49 = .ok (.if_icmp .ge 37, 3) := by decide +kernel
theorem dX12_price_52 : decode cX12_price 52 = .ok (.iload_n 3, 1) := by decide +kernel
theorem dX12_price_53 : decode cX12_price 53 = .ok (.iload 5, 2) := by decide +kernel
theorem dX12_price_55 : decode cX12_price 55 = .ok (.invokestatic 155, 3) := by decide +kernel
theorem dX12_price_58 : decode cX12_price 58 = .ok (.ifCond .eq 22, 3) := by decide +kernel
theorem dX12_price_61 : decode cX12_price 61 = .ok (.iload 4, 2) := by decide +kernel
theorem dX12_price_63 : decode cX12_price 63 = .ok (.iconst 1, 1) := by decide +kernel
theorem dX12_price_64 : decode cX12_price 64 = .ok (.aload_n 0, 1) := by decide +kernel
theorem dX12_price_65 : decode cX12_price 65 = .ok (.getfield 32, 3) := by decide +kernel
theorem dX12_price_68 : decode cX12_price 68 = .ok (.bipush 8, 2) := by decide +kernel
theorem dX12_price_70 : decode cX12_price 70 = .ok (.iload_n 1, 1) := by decide +kernel
theorem dX12_price_71 : decode cX12_price 71 = .ok (.imul, 1) := by decide +kernel
theorem dX12_price_72 : decode cX12_price 72 = .ok (.iload 5, 2) := by decide +kernel
theorem dX12_price_74 : decode cX12_price 74 = .ok (.iadd, 1) := by decide +kernel
theorem dX12_price_75 : decode cX12_price 75 = .ok (.iaload, 1) := by decide +kernel
theorem dX12_price_76 : decode cX12_price 76 = .ok (.ishl, 1) := by decide +kernel
theorem dX12_price_77 : decode cX12_price 77 = .ok (.ior, 1) := by decide +kernel
theorem dX12_price_78 : decode cX12_price 78 = .ok (.istore 4, 2) := by decide +kernel
theorem dX12_price_80 : decode cX12_price 80 = .ok (.iinc 5 1, 3) := by decide +kernel
theorem dX12_price_83 : decode cX12_price 83 = .ok (.goto (-42), 3) := by decide +kernel
theorem dX12_price_86 : decode cX12_price 86 = .ok (.iconst 0, 1) := by decide +kernel
theorem dX12_price_87 : decode cX12_price 87 = .ok (.istore 5, 2) := by decide +kernel
theorem dX12_price_89 : decode cX12_price 89 = .ok (.iconst 0, 1) := by decide +kernel
theorem dX12_price_90 : decode cX12_price 90 = .ok (.istore 6, 2) := by decide +kernel
theorem dX12_price_92 : decode cX12_price 92 = .ok (.iload 6, 2) := by decide +kernel
theorem dX12_price_94 : decode cX12_price 94 = .ok (.bipush 6, 2) := by decide +kernel
theorem dX12_price_96 : decode cX12_price 96 = .ok (.if_icmp .ge 31, 3) := by decide +kernel
theorem dX12_price_99 : decode cX12_price 99 = .ok (.iload 4, 2) := by decide +kernel
theorem dX12_price_101 : decode cX12_price 101 = .ok (.iload 6, 2) := by decide +kernel
theorem dX12_price_103 : decode cX12_price 103 = .ok (.invokestatic 155, 3) := by decide +kernel
theorem dX12_price_106 : decode cX12_price 106 = .ok (.ifCond .eq 15, 3) := by decide +kernel
theorem dX12_price_109 : decode cX12_price 109 = .ok (.iload 5, 2) := by decide +kernel
theorem dX12_price_111 : decode cX12_price 111 = .ok (.aload_n 0, 1) := by decide +kernel
theorem dX12_price_112 : decode cX12_price 112 = .ok (.getfield 50, 3) := by decide +kernel
theorem dX12_price_115 : decode cX12_price 115 = .ok (.iload 6, 2) := by decide +kernel
theorem dX12_price_117 : decode cX12_price 117 = .ok (.iaload, 1) := by decide +kernel
theorem dX12_price_118 : decode cX12_price 118 = .ok (.iadd, 1) := by decide +kernel
theorem dX12_price_119 : decode cX12_price 119 = .ok (.istore 5, 2) := by decide +kernel
theorem dX12_price_121 : decode cX12_price 121 = .ok (.iinc 6 1, 3) := by decide +kernel
theorem dX12_price_124 : decode cX12_price 124 = .ok (.goto (-32), 3) := by decide +kernel
theorem dX12_price_127 : decode cX12_price 127 = .ok (.iload 5, 2) := by decide +kernel
theorem dX12_price_129 : decode cX12_price 129 = .ok (.ireturn, 1) := by decide +kernel
theorem dX12_hailAll_0 : decode cX12_hailAll 0 = .ok (.iconst 0, 1) := by decide +kernel
theorem dX12_hailAll_1 : decode cX12_hailAll 1 = .ok (.istore_n 2, 1) := by decide +kernel
theorem dX12_hailAll_2 : decode cX12_hailAll 2 = .ok (.iconst 0, 1) := by decide +kernel
theorem dX12_hailAll_3 : decode cX12_hailAll 3 = .ok (.istore_n 3, 1) := by decide +kernel
theorem dX12_hailAll_4 : decode cX12_hailAll 4 = .ok (.iload_n 3, 1) := by decide +kernel
theorem dX12_hailAll_5 : decode cX12_hailAll 5 = .ok (.aload_n 0, 1) := by decide +kernel
theorem dX12_hailAll_6 : decode cX12_hailAll 6 = .ok (.getfield 87, 3) := by decide +kernel
theorem dX12_hailAll_9 : decode cX12_hailAll 9 = .ok (.if_icmp .ge 70, 3) := by decide +kernel
theorem dX12_hailAll_12 : decode cX12_hailAll 12 = .ok (.iconst 0, 1) := by decide +kernel
theorem dX12_hailAll_13 : decode cX12_hailAll 13 = .ok (.istore 4, 2) := by decide +kernel
theorem dX12_hailAll_15 : decode cX12_hailAll 15 = .ok (.iload 4, 2) := by decide +kernel
theorem dX12_hailAll_17 : decode cX12_hailAll 17 = .ok (.bipush 12, 2) := by decide +kernel
theorem dX12_hailAll_19 : decode cX12_hailAll 19 = .ok (.if_icmp .ge 54, 3) := by decide +kernel
theorem dX12_hailAll_22 : decode cX12_hailAll 22 = .ok (.aload_n 0, 1) := by decide +kernel
theorem dX12_hailAll_23 : decode cX12_hailAll 23 = .ok (.iload_n 3, 1) := by decide +kernel
theorem dX12_hailAll_24 : decode cX12_hailAll 24 = .ok (.iload 4, 2) := by decide +kernel
theorem dX12_hailAll_26 : decode cX12_hailAll 26 = .ok (.invokevirtual 152, 3) := by decide +kernel
theorem dX12_hailAll_29 : decode cX12_hailAll 29 = .ok (.aload_n 0, 1) := by decide +kernel
theorem dX12_hailAll_30 : decode cX12_hailAll 30 = .ok (.iload_n 3, 1) := by decide +kernel
theorem dX12_hailAll_31 : decode cX12_hailAll 31 = .ok (.iload 4, 2) := by decide +kernel
theorem dX12_hailAll_33 : decode cX12_hailAll 33 = .ok (.iload_n 1, 1) := by decide +kernel
theorem dX12_hailAll_34 : decode cX12_hailAll 34 = .ok (.invokevirtual 246, 3) := by decide +kernel
theorem dX12_hailAll_37 : decode cX12_hailAll 37 = .ok (.iconst (-1), 1) := by decide +kernel
theorem dX12_hailAll_38 : decode cX12_hailAll 38 = .ok (.ixor, 1) := by decide +kernel
theorem dX12_hailAll_39 : decode cX12_hailAll 39 = .ok (.iand, 1) := by decide +kernel
theorem dX12_hailAll_40 : decode cX12_hailAll 40 = .ok (.istore 5, 2) := by decide +kernel
theorem dX12_hailAll_42 : decode cX12_hailAll 42 = .ok (.aload_n 0, 1) := by decide +kernel
theorem dX12_hailAll_43 : decode cX12_hailAll 43 = .ok (.getfield 44, 3) := by decide +kernel
theorem dX12_hailAll_46 : decode cX12_hailAll 46 = .ok (.bipush 12, 2) := by decide +kernel
theorem dX12_hailAll_48 : decode cX12_hailAll 48 = .ok (.iload_n 3, 1) := by decide +kernel
theorem dX12_hailAll_49 : decode cX12_hailAll 49 = .ok (.imul, 1) := by decide +kernel
theorem dX12_hailAll_50 : decode cX12_hailAll 50 = .ok (.iload 4, 2) := by decide +kernel
theorem dX12_hailAll_52 : decode cX12_hailAll 52 = .ok (.iadd, 1) := by decide +kernel
theorem dX12_hailAll_53 : decode cX12_hailAll 53 = .ok (.dup2, 1) := by decide +kernel
theorem dX12_hailAll_54 : decode cX12_hailAll 54 = .ok (.iaload, 1) := by decide +kernel
theorem dX12_hailAll_55 : decode cX12_hailAll 55 = .ok (.iload 5, 2) := by decide +kernel
theorem dX12_hailAll_57 : decode cX12_hailAll 57 = .ok (.ior, 1) := by decide +kernel
theorem dX12_hailAll_58 : decode cX12_hailAll 58 = .ok (.iastore, 1) := by decide +kernel
theorem dX12_hailAll_59 : decode cX12_hailAll 59 = .ok (.iload_n 2, 1) := by decide +kernel
theorem dX12_hailAll_60 : decode cX12_hailAll 60 = .ok (.iload 5, 2) := by decide +kernel
theorem dX12_hailAll_62 : decode cX12_hailAll 62 = .ok (.invokestatic 266, 3) := by decide +kernel
theorem dX12_hailAll_65 : decode cX12_hailAll 65 = .ok (.iadd, 1) := by decide +kernel
theorem dX12_hailAll_66 : decode cX12_hailAll 66 = .ok (.istore_n 2, 1) := by decide +kernel
theorem dX12_hailAll_67 : decode cX12_hailAll 67 = .ok (.iinc 4 1, 3) := by decide +kernel
theorem dX12_hailAll_70 : decode cX12_hailAll 70 = .ok (.goto (-55), 3) := by decide +kernel
theorem dX12_hailAll_73 : decode cX12_hailAll 73 = .ok (.iinc 3 1, 3) := by decide +kernel
theorem dX12_hailAll_76 : decode cX12_hailAll 76 = .ok (.goto (-72), 3) := by decide +kernel
theorem dX12_hailAll_79 : decode cX12_hailAll 79 = .ok (.iload_n 2, 1) := by decide +kernel
theorem dX12_hailAll_80 : decode cX12_hailAll 80 = .ok (.ireturn, 1) := by decide +kernel
theorem dX12_hail_0 : decode cX12_hail 0 = .ok (.iload_n 1, 1) := by decide +kernel
theorem dX12_hail_1 : decode cX12_hail 1 = .ok (.invokestatic 240, 3) := by decide +kernel
theorem dX12_hail_4 : decode cX12_hail 4 = .ok (.ifCond .eq 11, 3) := by decide +kernel
theorem dX12_hail_7 : decode cX12_hail 7 = .ok (.aload_n 0, 1) := by decide +kernel
theorem dX12_hail_8 : decode cX12_hail 8 = .ok (.iload_n 1, 1) := by decide +kernel
theorem dX12_hail_9 : decode cX12_hail 9 = .ok (.invokevirtual 204, 3) := by decide +kernel
theorem dX12_hail_12 : decode cX12_hail 12 = .ok (.goto 9, 3) := by decide +kernel
theorem dX12_hail_15 : decode cX12_hail 15 = .ok (.aload_n 0, 1) := by decide +kernel
theorem dX12_hail_16 : decode cX12_hail 16 = .ok (.bipush (-6), 2) := by decide +kernel
theorem dX12_hail_18 : decode cX12_hail 18 = .ok (.invokevirtual 98, 3) := by decide +kernel
theorem dX12_hail_21 : decode cX12_hail 21 = .ok (.ireturn, 1) := by decide +kernel
theorem dX12_scratch_0 : decode cX12_scratch 0 = .ok (.aload_n 0, 1) := by decide +kernel
theorem dX12_scratch_1 : decode cX12_scratch 1 = .ok (.iload_n 1, 1) := by decide +kernel
theorem dX12_scratch_2 : decode cX12_scratch 2 = .ok (.invokevirtual 94, 3) := by decide +kernel
theorem dX12_scratch_5 : decode cX12_scratch 5 = .ok (.ifCond .ne 9, 3) := by decide +kernel
theorem dX12_scratch_8 : decode cX12_scratch 8 = .ok (.aload_n 0, 1) := by decide +kernel
theorem dX12_scratch_9 : decode cX12_scratch 9 = .ok (.iconst (-1), 1) := by decide +kernel
theorem dX12_scratch_10 : decode cX12_scratch 10 = .ok (.invokevirtual 98, 3) := by decide +kernel
theorem dX12_scratch_13 : decode cX12_scratch 13 = .ok (.ireturn, 1) := by decide +kernel
theorem dX12_scratch_14 : decode cX12_scratch 14 = .ok (.iload_n 2, 1) := by decide +kernel
theorem dX12_scratch_15 : decode cX12_scratch 15 = .ok (.invokestatic 142, 3) := by decide +kernel
theorem dX12_scratch_18 : decode cX12_scratch 18 = .ok (.ifCond .ne 10, 3) := by decide +kernel
theorem dX12_scratch_21 : decode cX12_scratch 21 = .ok (.aload_n 0, 1) := by decide +kernel
theorem dX12_scratch_22 : decode cX12_scratch 22 = .ok (.bipush (-5), 2) := by decide +kernel
theorem dX12_scratch_24 : decode cX12_scratch 24 = .ok (.invokevirtual 98, 3) := by decide +kernel
theorem dX12_scratch_27 : decode cX12_scratch 27 = .ok (.ireturn, 1) := by decide +kernel
theorem dX12_scratch_28 : decode cX12_scratch 28 = .ok (.aload_n 0, 1) := by decide +kernel
theorem dX12_scratch_29 : decode cX12_scratch 29 = .ok (.iload_n 1, 1) := by decide +kernel
theorem dX12_scratch_30 : decode cX12_scratch 30 = .ok (.iload_n 2, 1) := by decide +kernel
theorem dX12_scratch_31 : decode cX12_scratch 31 = .ok (.invokevirtual 152, 3) := by decide +kernel
theorem dX12_scratch_34 : decode cX12_scratch 34 = .ok (.istore_n 3, 1) := by decide +kernel
theorem dX12_scratch_35 : decode cX12_scratch 35 = .ok (.iload_n 3, 1) := by decide +kernel
theorem dX12_scratch_36 : decode cX12_scratch 36 = .ok (.ifCond .ne 10, 3) := by decide +kernel
theorem dX12_scratch_39 : decode cX12_scratch 39 = .ok (.aload_n 0, 1) := by decide +kernel
theorem dX12_scratch_40 : decode cX12_scratch 40 = .ok (.bipush (-6), 2) := by decide +kernel
theorem dX12_scratch_42 : decode cX12_scratch 42 = .ok (.invokevirtual 98, 3) := by decide +kernel
theorem dX12_scratch_45 : decode cX12_scratch 45 = .ok (.ireturn, 1) := by decide +kernel
theorem dX12_scratch_46 : decode cX12_scratch 46 = .ok (.bipush 31, 2) := by decide +kernel
theorem dX12_scratch_48 : decode cX12_scratch 48 = .ok (.iload_n 3, 1) := by decide +kernel
theorem dX12_scratch_49 : decode cX12_scratch 49 = .ok (.invokestatic 228, 3) := by decide +kernel
theorem dX12_scratch_52 : decode cX12_scratch 52 = .ok (.isub, 1) := by decide +kernel
theorem dX12_scratch_53 : decode cX12_scratch 53 = .ok (.istore 4, 2) := by decide +kernel
theorem dX12_scratch_55 : decode cX12_scratch 55 = .ok (.aload_n 0, 1) := by decide +kernel
theorem dX12_scratch_56 : decode cX12_scratch 56 = .ok (.getfield 44, 3) := by decide +kernel
theorem dX12_scratch_59 : decode cX12_scratch 59 = .ok (.bipush 12, 2) := by decide +kernel
theorem dX12_scratch_61 : decode cX12_scratch 61 = .ok (.iload_n 1, 1) := by decide +kernel
theorem dX12_scratch_62 : decode cX12_scratch 62 = .ok (.imul, 1) := by decide +kernel
theorem dX12_scratch_63 : decode cX12_scratch 63 = .ok (.iload_n 2, 1) := by decide +kernel
theorem dX12_scratch_64 : decode cX12_scratch 64 = .ok (.iadd, 1) := by decide +kernel
theorem dX12_scratch_65 : decode cX12_scratch 65 = .ok (.dup2, 1) := by decide +kernel
theorem dX12_scratch_66 : decode cX12_scratch 66 = .ok (.iaload, 1) := by decide +kernel
theorem dX12_scratch_67 : decode cX12_scratch 67 = .ok (.iconst 1, 1) := by decide +kernel
theorem dX12_scratch_68 : decode cX12_scratch 68 = .ok (.iload 4, 2) := by decide +kernel
theorem dX12_scratch_70 : decode cX12_scratch 70 = .ok (.ishl, 1) := by decide +kernel
theorem dX12_scratch_71 : decode cX12_scratch 71 = .ok (.ior, 1) := by decide +kernel
theorem dX12_scratch_72 : decode cX12_scratch 72 = .ok (.iastore, 1) := by decide +kernel
theorem dX12_scratch_73 : decode cX12_scratch 73 = .ok (.iload 4, 2) := by decide +kernel
theorem dX12_scratch_75 : decode cX12_scratch 75 = .ok (.ireturn, 1) := by decide +kernel
theorem dX12_fall_0 : decode cX12_fall 0 = .ok (.iconst 0, 1) := by decide +kernel
theorem dX12_fall_1 : decode cX12_fall 1 = .ok (.istore_n 1, 1) := by decide +kernel
theorem dX12_fall_2 : decode cX12_fall 2 = .ok (.iconst 0, 1) := by decide +kernel
theorem dX12_fall_3 : decode cX12_fall 3 = .ok (.istore_n 2, 1) := by decide +kernel
theorem dX12_fall_4 : decode cX12_fall 4 = .ok (.iload_n 2, 1) := by decide +kernel
theorem dX12_fall_5 : decode cX12_fall 5 = .ok (.aload_n 0, 1) := by decide +kernel
theorem dX12_fall_6 : decode cX12_fall 6 = .ok (.getfield 87, 3) := by decide +kernel
theorem dX12_fall_9 : decode cX12_fall 9 = .ok (.if_icmp .ge 45, 3) := by decide +kernel
theorem dX12_fall_12 : decode cX12_fall 12 = .ok (.aload_n 0, 1) := by decide +kernel
theorem dX12_fall_13 : decode cX12_fall 13 = .ok (.iload_n 2, 1) := by decide +kernel
theorem dX12_fall_14 : decode cX12_fall 14 = .ok (.invokevirtual 115, 3) := by decide +kernel
theorem dX12_fall_17 : decode cX12_fall 17 = .ok (.aload_n 0, 1) := by decide +kernel
theorem dX12_fall_18 : decode cX12_fall 18 = .ok (.getfield 74, 3) := by decide +kernel
theorem dX12_fall_21 : decode cX12_fall 21 = .ok (.if_icmp .gt 6, 3) := by decide +kernel
theorem dX12_fall_24 : decode cX12_fall 24 = .ok (.goto 24, 3) := by decide +kernel
theorem dX12_fall_27 : decode cX12_fall 27 = .ok (.iload_n 1, 1) := by decide +kernel
theorem dX12_fall_28 : decode cX12_fall 28 = .ok (.iconst 1, 1) := by decide +kernel
theorem dX12_fall_29 : decode cX12_fall 29 = .ok (.iload_n 2, 1) := by decide +kernel
theorem dX12_fall_30 : decode cX12_fall 30 = .ok (.ishl, 1) := by decide +kernel
theorem dX12_fall_31 : decode cX12_fall 31 = .ok (.ior, 1) := by decide +kernel
theorem dX12_fall_32 : decode cX12_fall 32 = .ok (.istore_n 1, 1) := by decide +kernel
theorem dX12_fall_33 : decode cX12_fall 33 = .ok (.aload_n 0, 1) := by decide +kernel
theorem dX12_fall_34 : decode cX12_fall 34 = .ok (.iload_n 2, 1) := by decide +kernel
theorem dX12_fall_35 : decode cX12_fall 35 = .ok (.invokevirtual 129, 3) := by decide +kernel
theorem dX12_fall_38 : decode cX12_fall 38 = .ok (.aload_n 0, 1) := by decide +kernel
theorem dX12_fall_39 : decode cX12_fall 39 = .ok (.dup, 1) := by decide +kernel
theorem dX12_fall_40 : decode cX12_fall 40 = .ok (.getfield 272, 3) := by decide +kernel
theorem dX12_fall_43 : decode cX12_fall 43 = .ok (.iconst 1, 1) := by decide +kernel
theorem dX12_fall_44 : decode cX12_fall 44 = .ok (.iadd, 1) := by decide +kernel
theorem dX12_fall_45 : decode cX12_fall 45 = .ok (.putfield 272, 3) := by decide +kernel
theorem dX12_fall_48 : decode cX12_fall 48 = .ok (.iinc 2 1, 3) := by decide +kernel
theorem dX12_fall_51 : decode cX12_fall 51 = .ok (.goto (-47), 3) := by decide +kernel
theorem dX12_fall_54 : decode cX12_fall 54 = .ok (.iload_n 1, 1) := by decide +kernel
theorem dX12_fall_55 : decode cX12_fall 55 = .ok (.ireturn, 1) := by decide +kernel
theorem dX12_falls_0 : decode cX12_falls 0 = .ok (.aload_n 0, 1) := by decide +kernel
theorem dX12_falls_1 : decode cX12_falls 1 = .ok (.invokevirtual 275, 3) := by decide +kernel
theorem dX12_falls_4 : decode cX12_falls 4 = .ok (.ireturn, 1) := by decide +kernel
theorem dX12_draw_0 : decode cX12_draw 0 = .ok (.aload_n 0, 1) := by decide +kernel
theorem dX12_draw_1 : decode cX12_draw 1 = .ok (.aload_n 0, 1) := by decide +kernel
theorem dX12_draw_2 : decode cX12_draw 2 = .ok (.getfield 81, 3) := by decide +kernel
theorem dX12_draw_5 : decode cX12_draw 5 = .ok (.ldc_w 278, 3) := by decide +kernel
theorem dX12_draw_8 : decode cX12_draw 8 = .ok (.imul, 1) := by decide +kernel
theorem dX12_draw_9 : decode cX12_draw 9 = .ok (.sipush 12345, 3) := by decide +kernel
theorem dX12_draw_12 : decode cX12_draw 12 = .ok (.iadd, 1) := by decide +kernel
theorem dX12_draw_13 : decode cX12_draw 13 = .ok (.putfield 81, 3) := by decide +kernel
theorem dX12_draw_16 : decode cX12_draw 16 = .ok (.aload_n 0, 1) := by decide +kernel
theorem dX12_draw_17 : decode cX12_draw 17 = .ok (.getfield 81, 3) := by decide +kernel
theorem dX12_draw_20 : decode cX12_draw 20 = .ok (.bipush 16, 2) := by decide +kernel
theorem dX12_draw_22 : decode cX12_draw 22 = .ok (.iushr, 1) := by decide +kernel
theorem dX12_draw_23 : decode cX12_draw 23 = .ok (.iload_n 1, 1) := by decide +kernel
theorem dX12_draw_24 : decode cX12_draw 24 = .ok (.irem, 1) := by decide +kernel
theorem dX12_draw_25 : decode cX12_draw 25 = .ok (.ireturn, 1) := by decide +kernel
theorem dX12_years_0 : decode cX12_years 0 = .ok (.aload_n 0, 1) := by decide +kernel
theorem dX12_years_1 : decode cX12_years 1 = .ok (.getfield 87, 3) := by decide +kernel
theorem dX12_years_4 : decode cX12_years 4 = .ok (.ifCond .ne 10, 3) := by decide +kernel
theorem dX12_years_7 : decode cX12_years 7 = .ok (.aload_n 0, 1) := by decide +kernel
theorem dX12_years_8 : decode cX12_years 8 = .ok (.bipush (-5), 2) := by decide +kernel
theorem dX12_years_10 : decode cX12_years 10 = .ok (.invokevirtual 98, 3) := by decide +kernel
theorem dX12_years_13 : decode cX12_years 13 = .ok (.ireturn, 1) := by decide +kernel
theorem dX12_years_14 : decode cX12_years 14 = .ok (.iload_n 1, 1) := by decide +kernel
theorem dX12_years_15 : decode cX12_years 15 = .ok (.iconst 1, 1) := by decide +kernel
theorem dX12_years_16 : decode cX12_years 16 = .ok (.bipush 40, 2) := by decide +kernel
theorem dX12_years_18 : decode cX12_years 18 = .ok (.invokestatic 90, 3) := by decide +kernel
theorem dX12_years_21 : decode cX12_years 21 = .ok (.ifCond .ne 10, 3) := by decide +kernel
theorem dX12_years_24 : decode cX12_years 24 = .ok (.aload_n 0, 1) := by decide +kernel
theorem dX12_years_25 : decode cX12_years 25 = .ok (.bipush (-6), 2) := by decide +kernel
theorem dX12_years_27 : decode cX12_years 27 = .ok (.invokevirtual 98, 3) := by decide +kernel
theorem dX12_years_30 : decode cX12_years 30 = .ok (.ireturn, 1) := by decide +kernel
theorem dX12_years_31 : decode cX12_years 31 = .ok (.aload_n 0, 1) := by decide +kernel
theorem dX12_years_32 : decode cX12_years 32 = .ok (.getfield 272, 3) := by decide +kernel
theorem dX12_years_35 : decode cX12_years 35 = .ok (.istore_n 2, 1) := by decide +kernel
theorem dX12_years_36 : decode cX12_years 36 = .ok (.iconst 0, 1) := by decide +kernel
theorem dX12_years_37 : decode cX12_years 37 = .ok (.istore_n 3, 1) := by decide +kernel
theorem dX12_years_38 : decode cX12_years 38 = .ok (.iload_n 3, 1) := by decide +kernel
theorem dX12_years_39 : decode cX12_years 39 = .ok (.iload_n 1, 1) := by decide +kernel
theorem dX12_years_40 : decode cX12_years 40 = .ok (.if_icmp .ge 106, 3) := by decide +kernel
theorem dX12_years_43 : decode cX12_years 43 = .ok (.aload_n 0, 1) := by decide +kernel
theorem dX12_years_44 : decode cX12_years 44 = .ok (.aload_n 0, 1) := by decide +kernel
theorem dX12_years_45 : decode cX12_years 45 = .ok (.getfield 87, 3) := by decide +kernel
theorem dX12_years_48 : decode cX12_years 48 = .ok (.invokevirtual 279, 3) := by decide +kernel
theorem dX12_years_51 : decode cX12_years 51 = .ok (.istore 4, 2) := by decide +kernel
theorem dX12_years_53 : decode cX12_years 53 = .ok (.aload_n 0, 1) := by decide +kernel
theorem dX12_years_54 : decode cX12_years 54 = .ok (.bipush 8, 2) := by decide +kernel
theorem dX12_years_56 : decode cX12_years 56 = .ok (.invokevirtual 279, 3) := by decide +kernel
theorem dX12_years_59 : decode cX12_years 59 = .ok (.istore 5, 2) := by decide +kernel
theorem dX12_years_61 : decode cX12_years 61 = .ok (.aload_n 0, 1) := by decide +kernel
theorem dX12_years_62 : decode cX12_years 62 = .ok (.bipush 6, 2) := by decide +kernel
theorem dX12_years_64 : decode cX12_years 64 = .ok (.invokevirtual 279, 3) := by decide +kernel
theorem dX12_years_67 : decode cX12_years 67 = .ok (.istore 6, 2) := by decide +kernel
theorem dX12_years_69 : decode cX12_years 69 = .ok (.aload_n 0, 1) := by decide +kernel
theorem dX12_years_70 : decode cX12_years 70 = .ok (.bipush 9, 2) := by decide +kernel
theorem dX12_years_72 : decode cX12_years 72 = .ok (.invokevirtual 279, 3) := by decide +kernel
theorem dX12_years_75 : decode cX12_years 75 = .ok (.iconst 1, 1) := by decide +kernel
theorem dX12_years_76 : decode cX12_years 76 = .ok (.iadd, 1) := by decide +kernel
theorem dX12_years_77 : decode cX12_years 77 = .ok (.istore 7, 2) := by decide +kernel
theorem dX12_years_79 : decode cX12_years 79 = .ok (.aload_n 0, 1) := by decide +kernel
theorem dX12_years_80 : decode cX12_years 80 = .ok (.bipush 12, 2) := by decide +kernel
theorem dX12_years_82 : decode cX12_years 82 = .ok (.invokevirtual 279, 3) := by decide +kernel
theorem dX12_years_85 : decode cX12_years 85 = .ok (.istore 8, 2) := by decide +kernel
theorem dX12_years_87 : decode cX12_years 87 = .ok (.aload_n 0, 1) := by decide +kernel
theorem dX12_years_88 : decode cX12_years 88 = .ok (.getfield 26, 3) := by decide +kernel
theorem dX12_years_91 : decode cX12_years 91 = .ok (.iload 4, 2) := by decide +kernel
theorem dX12_years_93 : decode cX12_years 93 = .ok (.iaload, 1) := by decide +kernel
theorem dX12_years_94 : decode cX12_years 94 = .ok (.bipush 8, 2) := by decide +kernel
theorem dX12_years_96 : decode cX12_years 96 = .ok (.if_icmp .ge 18, 3) := by decide +kernel
theorem dX12_years_99 : decode cX12_years 99 = .ok (.aload_n 0, 1) := by decide +kernel
theorem dX12_years_100 : decode cX12_years 100 = .ok (.iload 4, 2) := by decide +kernel
theorem dX12_years_102 : decode cX12_years 102 = .ok (.iload 5, 2) := by decide +kernel
theorem dX12_years_104 : decode cX12_years 104 = .ok (.iload 6, 2) := by decide +kernel
theorem dX12_years_106 : decode cX12_years 106 = .ok (.iload 7, 2) := by decide +kernel
theorem dX12_years_108 : decode cX12_years 108 = .ok (.iload 8, 2) := by decide +kernel
theorem dX12_years_110 : decode cX12_years 110 = .ok (.invokevirtual 145, 3) := by decide +kernel
theorem dX12_years_113 : decode cX12_years 113 = .ok (.pop, 1) := by decide +kernel
theorem dX12_years_114 : decode cX12_years 114 = .ok (.aload_n 0, 1) := by decide +kernel
theorem dX12_years_115 : decode cX12_years 115 = .ok (.aload_n 0, 1) := by decide +kernel
theorem dX12_years_116 : decode cX12_years 116 = .ok (.bipush 8, 2) := by decide +kernel
theorem dX12_years_118 : decode cX12_years 118 = .ok (.invokevirtual 279, 3) := by decide +kernel
theorem dX12_years_121 : decode cX12_years 121 = .ok (.invokevirtual 204, 3) := by decide +kernel
theorem dX12_years_124 : decode cX12_years 124 = .ok (.pop, 1) := by decide +kernel
theorem dX12_years_125 : decode cX12_years 125 = .ok (.aload_n 0, 1) := by decide +kernel
theorem dX12_years_126 : decode cX12_years 126 = .ok (.invokevirtual 275, 3) := by decide +kernel
theorem dX12_years_129 : decode cX12_years 129 = .ok (.pop, 1) := by decide +kernel
theorem dX12_years_130 : decode cX12_years 130 = .ok (.aload_n 0, 1) := by decide +kernel
theorem dX12_years_131 : decode cX12_years 131 = .ok (.dup, 1) := by decide +kernel
theorem dX12_years_132 : decode cX12_years 132 = .ok (.getfield 139, 3) := by decide +kernel
theorem dX12_years_135 : decode cX12_years 135 = .ok (.iconst 1, 1) := by decide +kernel
theorem dX12_years_136 : decode cX12_years 136 = .ok (.iadd, 1) := by decide +kernel
theorem dX12_years_137 : decode cX12_years 137 = .ok (.putfield 139, 3) := by decide +kernel
theorem dX12_years_140 : decode cX12_years 140 = .ok (.iinc 3 1, 3) := by decide +kernel
theorem dX12_years_143 : decode cX12_years 143 = .ok (.goto (-105), 3) := by decide +kernel
theorem dX12_years_146 : decode cX12_years 146 = .ok (.aload_n 0, 1) := by decide +kernel
theorem dX12_years_147 : decode cX12_years 147 = .ok (.getfield 272, 3) := by decide +kernel
theorem dX12_years_150 : decode cX12_years 150 = .ok (.iload_n 2, 1) := by decide +kernel
theorem dX12_years_151 : decode cX12_years 151 = .ok (.isub, 1) := by decide +kernel
theorem dX12_years_152 : decode cX12_years 152 = .ok (.ireturn, 1) := by decide +kernel
theorem dX12_seed_0 : decode cX12_seed 0 = .ok (.aload_n 0, 1) := by decide +kernel
theorem dX12_seed_1 : decode cX12_seed 1 = .ok (.getfield 81, 3) := by decide +kernel
theorem dX12_seed_4 : decode cX12_seed 4 = .ok (.istore_n 2, 1) := by decide +kernel
theorem dX12_seed_5 : decode cX12_seed 5 = .ok (.aload_n 0, 1) := by decide +kernel
theorem dX12_seed_6 : decode cX12_seed 6 = .ok (.iload_n 1, 1) := by decide +kernel
theorem dX12_seed_7 : decode cX12_seed 7 = .ok (.putfield 81, 3) := by decide +kernel
theorem dX12_seed_10 : decode cX12_seed 10 = .ok (.iload_n 2, 1) := by decide +kernel
theorem dX12_seed_11 : decode cX12_seed 11 = .ok (.ireturn, 1) := by decide +kernel
theorem dX12_ran_0 : decode cX12_ran 0 = .ok (.aload_n 0, 1) := by decide +kernel
theorem dX12_ran_1 : decode cX12_ran 1 = .ok (.getfield 282, 3) := by decide +kernel
theorem dX12_ran_4 : decode cX12_ran 4 = .ok (.bipush 20, 2) := by decide +kernel
theorem dX12_ran_6 : decode cX12_ran 6 = .ok (.if_icmp .ge 13, 3) := by decide +kernel
theorem dX12_ran_9 : decode cX12_ran 9 = .ok (.aload_n 0, 1) := by decide +kernel
theorem dX12_ran_10 : decode cX12_ran 10 = .ok (.getfield 56, 3) := by decide +kernel
theorem dX12_ran_13 : decode cX12_ran 13 = .ok (.aload_n 0, 1) := by decide +kernel
theorem dX12_ran_14 : decode cX12_ran 14 = .ok (.getfield 282, 3) := by decide +kernel
theorem dX12_ran_17 : decode cX12_ran 17 = .ok (.iload_n 1, 1) := by decide +kernel
theorem dX12_ran_18 : decode cX12_ran 18 = .ok (.iastore, 1) := by decide +kernel
theorem dX12_ran_19 : decode cX12_ran 19 = .ok (.aload_n 0, 1) := by decide +kernel
theorem dX12_ran_20 : decode cX12_ran 20 = .ok (.dup, 1) := by decide +kernel
theorem dX12_ran_21 : decode cX12_ran 21 = .ok (.getfield 282, 3) := by decide +kernel
theorem dX12_ran_24 : decode cX12_ran 24 = .ok (.iconst 1, 1) := by decide +kernel
theorem dX12_ran_25 : decode cX12_ran 25 = .ok (.iadd, 1) := by decide +kernel
theorem dX12_ran_26 : decode cX12_ran 26 = .ok (.putfield 282, 3) := by decide +kernel
theorem dX12_ran_29 : decode cX12_ran 29 = .ok (.return_, 1) := by decide +kernel
theorem dX12_paintsAct_0 : decode cX12_paintsAct 0 = .ok (.aload_n 0, 1) := by decide +kernel
theorem dX12_paintsAct_1 : decode cX12_paintsAct 1 = .ok (.getfield 20, 3) := by decide +kernel
theorem dX12_paintsAct_4 : decode cX12_paintsAct 4 = .ok (.iload_n 1, 1) := by decide +kernel
theorem dX12_paintsAct_5 : decode cX12_paintsAct 5 = .ok (.iaload, 1) := by decide +kernel
theorem dX12_paintsAct_6 : decode cX12_paintsAct 6 = .ok (.istore_n 3, 1) := by decide +kernel
theorem dX12_paintsAct_7 : decode cX12_paintsAct 7 = .ok (.iload_n 3, 1) := by decide +kernel
theorem dX12_paintsAct_8 : decode cX12_paintsAct 8 = .ok (.iconst 1, 1) := by decide +kernel
theorem dX12_paintsAct_9 : decode cX12_paintsAct 9 = .ok (.if_icmp .eq 8, 3) := by decide +kernel
theorem dX12_paintsAct_12 : decode cX12_paintsAct 12 = .ok (.iload_n 3, 1) := by decide +kernel
theorem dX12_paintsAct_13 : decode cX12_paintsAct 13 = .ok (.iconst 3, 1) := by decide +kernel
theorem dX12_paintsAct_14 : decode cX12_paintsAct 14 = .ok (.if_icmp .ne 9, 3) := by decide +kernel
theorem dX12_paintsAct_17 : decode cX12_paintsAct 17 = .ok (.aload_n 0, 1) := by decide +kernel
theorem dX12_paintsAct_18 : decode cX12_paintsAct 18 = .ok (.bipush 20, 2) := by decide +kernel
theorem dX12_paintsAct_20 : decode cX12_paintsAct 20 = .ok (.invokevirtual 285, 3) := by decide +kernel
theorem dX12_paintsAct_23 : decode cX12_paintsAct 23 = .ok (.iload_n 3, 1) := by decide +kernel
theorem dX12_paintsAct_24 : decode cX12_paintsAct 24 = .ok (.iconst 4, 1) := by decide +kernel
theorem dX12_paintsAct_25 : decode cX12_paintsAct 25 = .ok (.if_icmp .ne 9, 3) := by decide +kernel
theorem dX12_paintsAct_28 : decode cX12_paintsAct 28 = .ok (.aload_n 0, 1) := by decide +kernel
theorem dX12_paintsAct_29 : decode cX12_paintsAct 29 = .ok (.bipush 51, 2) := by decide +kernel
theorem dX12_paintsAct_31 : decode cX12_paintsAct 31 = .ok (.invokevirtual 285, 3) := by decide +kernel
theorem dX12_paintsAct_34 : decode cX12_paintsAct 34 = .ok (.iload_n 3, 1) := by decide +kernel
theorem dX12_paintsAct_35 : decode cX12_paintsAct 35 = .ok (.bipush 6, 2) := by decide +kernel
theorem dX12_paintsAct_37 : decode cX12_paintsAct 37 = .ok (.if_icmp .ne 9, 3) := by decide +kernel
theorem dX12_paintsAct_40 : decode cX12_paintsAct 40 = .ok (.aload_n 0, 1) := by decide +kernel
theorem dX12_paintsAct_41 : decode cX12_paintsAct 41 = .ok (.bipush 70, 2) := by decide +kernel
theorem dX12_paintsAct_43 : decode cX12_paintsAct 43 = .ok (.invokevirtual 285, 3) := by decide +kernel
theorem dX12_paintsAct_46 : decode cX12_paintsAct 46 = .ok (.aload_n 0, 1) := by decide +kernel
theorem dX12_paintsAct_47 : decode cX12_paintsAct 47 = .ok (.bipush 10, 2) := by decide +kernel
theorem dX12_paintsAct_49 : decode cX12_paintsAct 49 = .ok (.invokevirtual 285, 3) := by decide +kernel
theorem dX12_paintsAct_52 : decode cX12_paintsAct 52 = .ok (.iload_n 2, 1) := by decide +kernel
theorem dX12_paintsAct_53 : decode cX12_paintsAct 53 = .ok (.iload_n 1, 1) := by decide +kernel
theorem dX12_paintsAct_54 : decode cX12_paintsAct 54 = .ok (.iadd, 1) := by decide +kernel
theorem dX12_paintsAct_55 : decode cX12_paintsAct 55 = .ok (.istore 4, 2) := by decide +kernel
theorem dX12_paintsAct_57 : decode cX12_paintsAct 57 = .ok (.iload_n 3, 1) := by decide +kernel
theorem dX12_paintsAct_58 : decode cX12_paintsAct 58 = .ok (.iconst 1, 1) := by decide +kernel
theorem dX12_paintsAct_59 : decode cX12_paintsAct 59 = .ok (.if_icmp .eq 8, 3) := by decide +kernel
theorem dX12_paintsAct_62 : decode cX12_paintsAct 62 = .ok (.iload_n 3, 1) := by decide +kernel
theorem dX12_paintsAct_63 : decode cX12_paintsAct 63 = .ok (.iconst 3, 1) := by decide +kernel
theorem dX12_paintsAct_64 : decode cX12_paintsAct 64 = .ok (.if_icmp .ne 15, 3) := by decide +kernel
theorem dX12_paintsAct_67 : decode cX12_paintsAct 67 = .ok (.iload 4, 2) := by decide +kernel
theorem dX12_paintsAct_69 : decode cX12_paintsAct 69 = .ok (.aload_n 0, 1) := by decide +kernel
theorem dX12_paintsAct_70 : decode cX12_paintsAct 70 = .ok (.getfield 23, 3) := by decide +kernel
theorem dX12_paintsAct_73 : decode cX12_paintsAct 73 = .ok (.iload_n 1, 1) := by decide +kernel
theorem dX12_paintsAct_74 : decode cX12_paintsAct 74 = .ok (.iaload, 1) := by decide +kernel
theorem dX12_paintsAct_75 : decode cX12_paintsAct 75 = .ok (.iadd, 1) := by decide +kernel
theorem dX12_paintsAct_76 : decode cX12_paintsAct 76 = .ok (.goto 30, 3) := by decide +kernel
theorem dX12_paintsAct_79 : decode cX12_paintsAct 79 = .ok (.iload_n 3, 1) := by decide +kernel
theorem dX12_paintsAct_80 : decode cX12_paintsAct 80 = .ok (.iconst 4, 1) := by decide +kernel
theorem dX12_paintsAct_81 : decode cX12_paintsAct 81 = .ok (.if_icmp .ne 10, 3) := by decide +kernel
theorem dX12_paintsAct_84 : decode cX12_paintsAct 84 = .ok (.iload 4, 2) := by decide +kernel
theorem dX12_paintsAct_86 : decode cX12_paintsAct 86 = .ok (.iload_n 1, 1) := by decide +kernel
theorem dX12_paintsAct_87 : decode cX12_paintsAct 87 = .ok (.isub, 1) := by decide +kernel
theorem dX12_paintsAct_88 : decode cX12_paintsAct 88 = .ok (.goto 18, 3) := by decide +kernel
theorem dX12_paintsAct_91 : decode cX12_paintsAct 91 = .ok (.iload_n 3, 1) := by decide +kernel
theorem dX12_paintsAct_92 : decode cX12_paintsAct 92 = .ok (.bipush 6, 2) := by decide +kernel
theorem dX12_paintsAct_94 : decode cX12_paintsAct 94 = .ok (.if_icmp .ne 10, 3) := by decide +kernel
theorem dX12_paintsAct_97 : decode cX12_paintsAct 97 = .ok (.iload 4, 2) := by decide +kernel
theorem dX12_paintsAct_99 : decode cX12_paintsAct 99 = .ok (.iconst 2, 1) := by decide +kernel
theorem dX12_paintsAct_100 : decode cX12_paintsAct 100 = .ok (.imul, 1) := by decide +kernel
theorem dX12_paintsAct_101 : decode cX12_paintsAct 101 = .ok (.goto 5, 3) := by decide +kernel
theorem dX12_paintsAct_104 : decode cX12_paintsAct 104 = .ok (.iload 4, 2) := by decide +kernel
theorem dX12_paintsAct_106 : decode cX12_paintsAct 106 = .ok (.ireturn, 1) := by decide +kernel
theorem dX12_peels_0 : decode cX12_peels 0 = .ok (.aload_n 0, 1) := by decide +kernel
theorem dX12_peels_1 : decode cX12_peels 1 = .ok (.getfield 20, 3) := by decide +kernel
theorem dX12_peels_4 : decode cX12_peels 4 = .ok (.iload_n 1, 1) := by decide +kernel
theorem dX12_peels_5 : decode cX12_peels 5 = .ok (.iaload, 1) := by decide +kernel
theorem dX12_peels_6 : decode cX12_peels 6 = .ok (.istore_n 3, 1) := by decide +kernel
theorem dX12_peels_7 : decode cX12_peels 7 = .ok (.iload_n 2, 1) := by decide +kernel
theorem dX12_peels_8 : decode cX12_peels 8 = .ok (.istore 4, 2) := by decide +kernel
theorem dX12_peels_10 : decode cX12_peels 10 = .ok (.iload_n 3, 1) := by decide +kernel
theorem dX12_peels_11 : decode cX12_peels 11 = .ok (.bipush 6, 2) := by decide +kernel
theorem dX12_peels_13 : decode cX12_peels 13 = .ok (.if_icmp .ne 19, 3) := by decide +kernel
theorem dX12_peels_16 : decode cX12_peels 16 = .ok (.aload_n 0, 1) := by decide +kernel
theorem dX12_peels_17 : decode cX12_peels 17 = .ok (.bipush 71, 2) := by decide +kernel
theorem dX12_peels_19 : decode cX12_peels 19 = .ok (.invokevirtual 285, 3) := by decide +kernel
theorem dX12_peels_22 : decode cX12_peels 22 = .ok (.iload_n 2, 1) := by decide +kernel
theorem dX12_peels_23 : decode cX12_peels 23 = .ok (.aload_n 0, 1) := by decide +kernel
theorem dX12_peels_24 : decode cX12_peels 24 = .ok (.getfield 23, 3) := by decide +kernel
theorem dX12_peels_27 : decode cX12_peels 27 = .ok (.iload_n 1, 1) := by decide +kernel
theorem dX12_peels_28 : decode cX12_peels 28 = .ok (.iaload, 1) := by decide +kernel
theorem dX12_peels_29 : decode cX12_peels 29 = .ok (.isub, 1) := by decide +kernel
theorem dX12_peels_30 : decode cX12_peels 30 = .ok (.istore 4, 2) := by decide +kernel
theorem dX12_peels_32 : decode cX12_peels 32 = .ok (.iload_n 3, 1) := by decide +kernel
theorem dX12_peels_33 : decode cX12_peels 33 = .ok (.iconst 3, 1) := by decide +kernel
theorem dX12_peels_34 : decode cX12_peels 34 = .ok (.if_icmp .ne 14, 3) := by decide +kernel
theorem dX12_peels_37 : decode cX12_peels 37 = .ok (.aload_n 0, 1) := by decide +kernel
theorem dX12_peels_38 : decode cX12_peels 38 = .ok (.bipush 40, 2) := by decide +kernel
theorem dX12_peels_40 : decode cX12_peels 40 = .ok (.invokevirtual 285, 3) := by decide +kernel
theorem dX12_peels_43 : decode cX12_peels 43 = .ok (.iload_n 2, 1) := by decide +kernel
theorem dX12_peels_44 : decode cX12_peels 44 = .ok (.iconst 1, 1) := by decide +kernel
theorem dX12_peels_45 : decode cX12_peels 45 = .ok (.iadd, 1) := by decide +kernel
theorem dX12_peels_46 : decode cX12_peels 46 = .ok (.istore 4, 2) := by decide +kernel
theorem dX12_peels_48 : decode cX12_peels 48 = .ok (.iload_n 3, 1) := by decide +kernel
theorem dX12_peels_49 : decode cX12_peels 49 = .ok (.iconst 2, 1) := by decide +kernel
theorem dX12_peels_50 : decode cX12_peels 50 = .ok (.if_icmp .eq 14, 3) := by decide +kernel
theorem dX12_peels_53 : decode cX12_peels 53 = .ok (.iload_n 3, 1) := by decide +kernel
theorem dX12_peels_54 : decode cX12_peels 54 = .ok (.iconst 5, 1) := by decide +kernel
theorem dX12_peels_55 : decode cX12_peels 55 = .ok (.if_icmp .eq 9, 3) := by decide +kernel
theorem dX12_peels_58 : decode cX12_peels 58 = .ok (.iload_n 3, 1) := by decide +kernel
theorem dX12_peels_59 : decode cX12_peels 59 = .ok (.bipush 6, 2) := by decide +kernel
theorem dX12_peels_61 : decode cX12_peels 61 = .ok (.if_icmp .ne 7, 3) := by decide +kernel
theorem dX12_peels_64 : decode cX12_peels 64 = .ok (.iconst 1, 1) := by decide +kernel
theorem dX12_peels_65 : decode cX12_peels 65 = .ok (.goto 4, 3) := by decide +kernel
theorem dX12_peels_68 : decode cX12_peels 68 = .ok (.iconst 0, 1) := by decide +kernel
theorem dX12_peels_69 : decode cX12_peels 69 = .ok (.istore 5, 2) := by decide +kernel
theorem dX12_peels_71 : decode cX12_peels 71 = .ok (.iload 5, 2) := by decide +kernel
theorem dX12_peels_73 : decode cX12_peels 73 = .ok (.ifCond .eq 9, 3) := by decide +kernel
theorem dX12_peels_76 : decode cX12_peels 76 = .ok (.aload_n 0, 1) := by decide +kernel
theorem dX12_peels_77 : decode cX12_peels 77 = .ok (.bipush 30, 2) := by decide +kernel
theorem dX12_peels_79 : decode cX12_peels 79 = .ok (.invokevirtual 285, 3) := by decide +kernel
theorem dX12_peels_82 : decode cX12_peels 82 = .ok (.aload_n 0, 1) := by decide +kernel
theorem dX12_peels_83 : decode cX12_peels 83 = .ok (.bipush 11, 2) := by decide +kernel
theorem dX12_peels_85 : decode cX12_peels 85 = .ok (.invokevirtual 285, 3) := by decide +kernel
theorem dX12_peels_88 : decode cX12_peels 88 = .ok (.aload_n 0, 1) := by decide +kernel
theorem dX12_peels_89 : decode cX12_peels 89 = .ok (.iload_n 1, 1) := by decide +kernel
theorem dX12_peels_90 : decode cX12_peels 90 = .ok (.iload 4, 2) := by decide +kernel
theorem dX12_peels_92 : decode cX12_peels 92 = .ok (.invokevirtual 288, 3) := by decide +kernel
theorem dX12_peels_95 : decode cX12_peels 95 = .ok (.iconst 2, 1) := by decide +kernel
theorem dX12_peels_96 : decode cX12_peels 96 = .ok (.imul, 1) := by decide +kernel
theorem dX12_peels_97 : decode cX12_peels 97 = .ok (.istore 6, 2) := by decide +kernel
theorem dX12_peels_99 : decode cX12_peels 99 = .ok (.iload 5, 2) := by decide +kernel
theorem dX12_peels_101 : decode cX12_peels 101 = .ok (.ifCond .eq 10, 3) := by decide +kernel
theorem dX12_peels_104 : decode cX12_peels 104 = .ok (.iload 6, 2) := by decide +kernel
theorem dX12_peels_106 : decode cX12_peels 106 = .ok (.iconst 3, 1) := by decide +kernel
theorem dX12_peels_107 : decode cX12_peels 107 = .ok (.imul, 1) := by decide +kernel
theorem dX12_peels_108 : decode cX12_peels 108 = .ok (.goto 5, 3) := by decide +kernel
theorem dX12_peels_111 : decode cX12_peels 111 = .ok (.iload 6, 2) := by decide +kernel
theorem dX12_peels_113 : decode cX12_peels 113 = .ok (.ireturn, 1) := by decide +kernel
theorem dX12_fallsAct_0 : decode cX12_fallsAct 0 = .ok (.aload_n 0, 1) := by decide +kernel
theorem dX12_fallsAct_1 : decode cX12_fallsAct 1 = .ok (.getfield 20, 3) := by decide +kernel
theorem dX12_fallsAct_4 : decode cX12_fallsAct 4 = .ok (.iload_n 1, 1) := by decide +kernel
theorem dX12_fallsAct_5 : decode cX12_fallsAct 5 = .ok (.iaload, 1) := by decide +kernel
theorem dX12_fallsAct_6 : decode cX12_fallsAct 6 = .ok (.iconst 4, 1) := by decide +kernel
theorem dX12_fallsAct_7 : decode cX12_fallsAct 7 = .ok (.if_icmp .ne 9, 3) := by decide +kernel
theorem dX12_fallsAct_10 : decode cX12_fallsAct 10 = .ok (.aload_n 0, 1) := by decide +kernel
theorem dX12_fallsAct_11 : decode cX12_fallsAct 11 = .ok (.bipush 50, 2) := by decide +kernel
theorem dX12_fallsAct_13 : decode cX12_fallsAct 13 = .ok (.invokevirtual 285, 3) := by decide +kernel
theorem dX12_fallsAct_16 : decode cX12_fallsAct 16 = .ok (.aload_n 0, 1) := by decide +kernel
theorem dX12_fallsAct_17 : decode cX12_fallsAct 17 = .ok (.getfield 20, 3) := by decide +kernel
theorem dX12_fallsAct_20 : decode cX12_fallsAct 20 = .ok (.iload_n 1, 1) := by decide +kernel
theorem dX12_fallsAct_21 : decode cX12_fallsAct 21 = .ok (.iaload, 1) := by decide +kernel
theorem dX12_fallsAct_22 : decode cX12_fallsAct 22 = .ok (.iconst 5, 1) := by decide +kernel
theorem dX12_fallsAct_23 : decode cX12_fallsAct 23 = .ok (.if_icmp .ne 9, 3) := by decide +kernel
theorem dX12_fallsAct_26 : decode cX12_fallsAct 26 = .ok (.aload_n 0, 1) := by decide +kernel
theorem dX12_fallsAct_27 : decode cX12_fallsAct 27 = .ok (.bipush 60, 2) := by decide +kernel
theorem dX12_fallsAct_29 : decode cX12_fallsAct 29 = .ok (.invokevirtual 285, 3) := by decide +kernel
theorem dX12_fallsAct_32 : decode cX12_fallsAct 32 = .ok (.aload_n 0, 1) := by decide +kernel
theorem dX12_fallsAct_33 : decode cX12_fallsAct 33 = .ok (.bipush 12, 2) := by decide +kernel
theorem dX12_fallsAct_35 : decode cX12_fallsAct 35 = .ok (.invokevirtual 285, 3) := by decide +kernel
theorem dX12_fallsAct_38 : decode cX12_fallsAct 38 = .ok (.aload_n 0, 1) := by decide +kernel
theorem dX12_fallsAct_39 : decode cX12_fallsAct 39 = .ok (.iload_n 1, 1) := by decide +kernel
theorem dX12_fallsAct_40 : decode cX12_fallsAct 40 = .ok (.iload_n 2, 1) := by decide +kernel
theorem dX12_fallsAct_41 : decode cX12_fallsAct 41 = .ok (.invokevirtual 291, 3) := by decide +kernel
theorem dX12_fallsAct_44 : decode cX12_fallsAct 44 = .ok (.istore_n 3, 1) := by decide +kernel
theorem dX12_fallsAct_45 : decode cX12_fallsAct 45 = .ok (.iload_n 3, 1) := by decide +kernel
theorem dX12_fallsAct_46 : decode cX12_fallsAct 46 = .ok (.aload_n 0, 1) := by decide +kernel
theorem dX12_fallsAct_47 : decode cX12_fallsAct 47 = .ok (.iload_n 1, 1) := by decide +kernel
theorem dX12_fallsAct_48 : decode cX12_fallsAct 48 = .ok (.iload_n 2, 1) := by decide +kernel
theorem dX12_fallsAct_49 : decode cX12_fallsAct 49 = .ok (.aload_n 0, 1) := by decide +kernel
theorem dX12_fallsAct_50 : decode cX12_fallsAct 50 = .ok (.getfield 23, 3) := by decide +kernel
theorem dX12_fallsAct_53 : decode cX12_fallsAct 53 = .ok (.iload_n 1, 1) := by decide +kernel
theorem dX12_fallsAct_54 : decode cX12_fallsAct 54 = .ok (.iaload, 1) := by decide +kernel
theorem dX12_fallsAct_55 : decode cX12_fallsAct 55 = .ok (.isub, 1) := by decide +kernel
theorem dX12_fallsAct_56 : decode cX12_fallsAct 56 = .ok (.invokevirtual 288, 3) := by decide +kernel
theorem dX12_fallsAct_59 : decode cX12_fallsAct 59 = .ok (.ixor, 1) := by decide +kernel
theorem dX12_fallsAct_60 : decode cX12_fallsAct 60 = .ok (.istore 4, 2) := by decide +kernel
theorem dX12_fallsAct_62 : decode cX12_fallsAct 62 = .ok (.aload_n 0, 1) := by decide +kernel
theorem dX12_fallsAct_63 : decode cX12_fallsAct 63 = .ok (.getfield 20, 3) := by decide +kernel
theorem dX12_fallsAct_66 : decode cX12_fallsAct 66 = .ok (.iload_n 1, 1) := by decide +kernel
theorem dX12_fallsAct_67 : decode cX12_fallsAct 67 = .ok (.iaload, 1) := by decide +kernel
theorem dX12_fallsAct_68 : decode cX12_fallsAct 68 = .ok (.iconst 4, 1) := by decide +kernel
theorem dX12_fallsAct_69 : decode cX12_fallsAct 69 = .ok (.if_icmp .ne 9, 3) := by decide +kernel
theorem dX12_fallsAct_72 : decode cX12_fallsAct 72 = .ok (.iload 4, 2) := by decide +kernel
theorem dX12_fallsAct_74 : decode cX12_fallsAct 74 = .ok (.ineg, 1) := by decide +kernel
theorem dX12_fallsAct_75 : decode cX12_fallsAct 75 = .ok (.goto 22, 3) := by decide +kernel
theorem dX12_fallsAct_78 : decode cX12_fallsAct 78 = .ok (.aload_n 0, 1) := by decide +kernel
theorem dX12_fallsAct_79 : decode cX12_fallsAct 79 = .ok (.getfield 20, 3) := by decide +kernel
theorem dX12_fallsAct_82 : decode cX12_fallsAct 82 = .ok (.iload_n 1, 1) := by decide +kernel
theorem dX12_fallsAct_83 : decode cX12_fallsAct 83 = .ok (.iaload, 1) := by decide +kernel
theorem dX12_fallsAct_84 : decode cX12_fallsAct 84 = .ok (.iconst 5, 1) := by decide +kernel
theorem dX12_fallsAct_85 : decode cX12_fallsAct 85 = .ok (.if_icmp .ne 10, 3) := by decide +kernel
theorem dX12_fallsAct_88 : decode cX12_fallsAct 88 = .ok (.iload 4, 2) := by decide +kernel
theorem dX12_fallsAct_90 : decode cX12_fallsAct 90 = .ok (.iconst 5, 1) := by decide +kernel
theorem dX12_fallsAct_91 : decode cX12_fallsAct 91 = .ok (.ixor, 1) := by decide +kernel
theorem dX12_fallsAct_92 : decode cX12_fallsAct 92 = .ok (.goto 5, 3) := by decide +kernel
theorem dX12_fallsAct_95 : decode cX12_fallsAct 95 = .ok (.iload 4, 2) := by decide +kernel
theorem dX12_fallsAct_97 : decode cX12_fallsAct 97 = .ok (.ireturn, 1) := by decide +kernel
theorem dX12_act_0 : decode cX12_act 0 = .ok (.aload_n 0, 1) := by decide +kernel
theorem dX12_act_1 : decode cX12_act 1 = .ok (.iconst 0, 1) := by decide +kernel
theorem dX12_act_2 : decode cX12_act 2 = .ok (.putfield 282, 3) := by decide +kernel
theorem dX12_act_5 : decode cX12_act 5 = .ok (.aload_n 0, 1) := by decide +kernel
theorem dX12_act_6 : decode cX12_act 6 = .ok (.iload_n 1, 1) := by decide +kernel
theorem dX12_act_7 : decode cX12_act 7 = .ok (.invokevirtual 94, 3) := by decide +kernel
theorem dX12_act_10 : decode cX12_act 10 = .ok (.ifCond .eq 12, 3) := by decide +kernel
theorem dX12_act_13 : decode cX12_act 13 = .ok (.iload_n 2, 1) := by decide +kernel
theorem dX12_act_14 : decode cX12_act 14 = .ok (.iconst 0, 1) := by decide +kernel
theorem dX12_act_15 : decode cX12_act 15 = .ok (.iconst 2, 1) := by decide +kernel
theorem dX12_act_16 : decode cX12_act 16 = .ok (.invokestatic 90, 3) := by decide +kernel
theorem dX12_act_19 : decode cX12_act 19 = .ok (.ifCond .ne 5, 3) := by decide +kernel
theorem dX12_act_22 : decode cX12_act 22 = .ok (.iconst 0, 1) := by decide +kernel
theorem dX12_act_23 : decode cX12_act 23 = .ok (.ireturn, 1) := by decide +kernel
theorem dX12_act_24 : decode cX12_act 24 = .ok (.iload_n 2, 1) := by decide +kernel
theorem dX12_act_25 : decode cX12_act 25 = .ok (.ifCond .ne 12, 3) := by decide +kernel
theorem dX12_act_28 : decode cX12_act 28 = .ok (.aload_n 0, 1) := by decide +kernel
theorem dX12_act_29 : decode cX12_act 29 = .ok (.iload_n 1, 1) := by decide +kernel
theorem dX12_act_30 : decode cX12_act 30 = .ok (.iload_n 3, 1) := by decide +kernel
theorem dX12_act_31 : decode cX12_act 31 = .ok (.invokevirtual 288, 3) := by decide +kernel
theorem dX12_act_34 : decode cX12_act 34 = .ok (.goto 23, 3) := by decide +kernel
theorem dX12_act_37 : decode cX12_act 37 = .ok (.iload_n 2, 1) := by decide +kernel
theorem dX12_act_38 : decode cX12_act 38 = .ok (.iconst 1, 1) := by decide +kernel
theorem dX12_act_39 : decode cX12_act 39 = .ok (.if_icmp .ne 12, 3) := by decide +kernel
theorem dX12_act_42 : decode cX12_act 42 = .ok (.aload_n 0, 1) := by decide +kernel
theorem dX12_act_43 : decode cX12_act 43 = .ok (.iload_n 1, 1) := by decide +kernel
theorem dX12_act_44 : decode cX12_act 44 = .ok (.iload_n 3, 1) := by decide +kernel
theorem dX12_act_45 : decode cX12_act 45 = .ok (.invokevirtual 291, 3) := by decide +kernel
theorem dX12_act_48 : decode cX12_act 48 = .ok (.goto 9, 3) := by decide +kernel
theorem dX12_act_51 : decode cX12_act 51 = .ok (.aload_n 0, 1) := by decide +kernel
theorem dX12_act_52 : decode cX12_act 52 = .ok (.iload_n 1, 1) := by decide +kernel
theorem dX12_act_53 : decode cX12_act 53 = .ok (.iload_n 3, 1) := by decide +kernel
theorem dX12_act_54 : decode cX12_act 54 = .ok (.invokevirtual 294, 3) := by decide +kernel
theorem dX12_act_57 : decode cX12_act 57 = .ok (.ireturn, 1) := by decide +kernel
theorem dX12_trace_0 : decode cX12_trace 0 = .ok (.iload_n 1, 1) := by decide +kernel
theorem dX12_trace_1 : decode cX12_trace 1 = .ok (.ifCond .lt 26, 3) := by decide +kernel
theorem dX12_trace_4 : decode cX12_trace 4 = .ok (.iload_n 1, 1) := by decide +kernel
theorem dX12_trace_5 : decode cX12_trace 5 = .ok (.aload_n 0, 1) := by decide +kernel
theorem dX12_trace_6 : decode cX12_trace 6 = .ok (.getfield 282, 3) := by decide +kernel
theorem dX12_trace_9 : decode cX12_trace 9 = .ok (.if_icmp .ge 18, 3) := by decide +kernel
theorem dX12_trace_12 : decode cX12_trace 12 = .ok (.iload_n 1, 1) := by decide +kernel
theorem dX12_trace_13 : decode cX12_trace 13 = .ok (.bipush 20, 2) := by decide +kernel
theorem dX12_trace_15 : decode cX12_trace 15 = .ok (.if_icmp .ge 12, 3) := by decide +kernel
theorem dX12_trace_18 : decode cX12_trace 18 = .ok (.aload_n 0, 1) := by decide +kernel
theorem dX12_trace_19 : decode cX12_trace 19 = .ok (.getfield 56, 3) := by decide +kernel
theorem dX12_trace_22 : decode cX12_trace 22 = .ok (.iload_n 1, 1) := by decide +kernel
theorem dX12_trace_23 : decode cX12_trace 23 = .ok (.iaload, 1) := by decide +kernel
theorem dX12_trace_24 : decode cX12_trace 24 = .ok (.goto 4, 3) := by decide +kernel
theorem dX12_trace_27 : decode cX12_trace 27 = .ok (.iconst (-1), 1) := by decide +kernel
theorem dX12_trace_28 : decode cX12_trace 28 = .ok (.ireturn, 1) := by decide +kernel
theorem dX12_keep_0 : decode cX12_keep 0 = .ok (.iconst 0, 1) := by decide +kernel
theorem dX12_keep_1 : decode cX12_keep 1 = .ok (.istore_n 2, 1) := by decide +kernel
theorem dX12_keep_2 : decode cX12_keep 2 = .ok (.iload_n 2, 1) := by decide +kernel
theorem dX12_keep_3 : decode cX12_keep 3 = .ok (.bipush 6, 2) := by decide +kernel
theorem dX12_keep_5 : decode cX12_keep 5 = .ok (.if_icmp .ge 68, 3) := by decide +kernel
theorem dX12_keep_8 : decode cX12_keep 8 = .ok (.aload_n 1, 1) := by decide +kernel
theorem dX12_keep_9 : decode cX12_keep 9 = .ok (.iload_n 2, 1) := by decide +kernel
theorem dX12_keep_10 : decode cX12_keep 10 = .ok (.aload_n 0, 1) := by decide +kernel
theorem dX12_keep_11 : decode cX12_keep 11 = .ok (.getfield 20, 3) := by decide +kernel
theorem dX12_keep_14 : decode cX12_keep 14 = .ok (.iload_n 2, 1) := by decide +kernel
theorem dX12_keep_15 : decode cX12_keep 15 = .ok (.iaload, 1) := by decide +kernel
theorem dX12_keep_16 : decode cX12_keep 16 = .ok (.iastore, 1) := by decide +kernel
theorem dX12_keep_17 : decode cX12_keep 17 = .ok (.aload_n 1, 1) := by decide +kernel
theorem dX12_keep_18 : decode cX12_keep 18 = .ok (.bipush 6, 2) := by decide +kernel
theorem dX12_keep_20 : decode cX12_keep 20 = .ok (.iload_n 2, 1) := by decide +kernel
theorem dX12_keep_21 : decode cX12_keep 21 = .ok (.iadd, 1) := by decide +kernel
theorem dX12_keep_22 : decode cX12_keep 22 = .ok (.aload_n 0, 1) := by decide +kernel
theorem dX12_keep_23 : decode cX12_keep 23 = .ok (.getfield 23, 3) := by decide +kernel
theorem dX12_keep_26 : decode cX12_keep 26 = .ok (.iload_n 2, 1) := by decide +kernel
theorem dX12_keep_27 : decode cX12_keep 27 = .ok (.iaload, 1) := by decide +kernel
theorem dX12_keep_28 : decode cX12_keep 28 = .ok (.iastore, 1) := by decide +kernel
theorem dX12_keep_29 : decode cX12_keep 29 = .ok (.aload_n 1, 1) := by decide +kernel
theorem dX12_keep_30 : decode cX12_keep 30 = .ok (.bipush 12, 2) := by decide +kernel
theorem dX12_keep_32 : decode cX12_keep 32 = .ok (.iload_n 2, 1) := by decide +kernel
theorem dX12_keep_33 : decode cX12_keep 33 = .ok (.iadd, 1) := by decide +kernel
theorem dX12_keep_34 : decode cX12_keep 34 = .ok (.aload_n 0, 1) := by decide +kernel
theorem dX12_keep_35 : decode cX12_keep 35 = .ok (.getfield 26, 3) := by decide +kernel
theorem dX12_keep_38 : decode cX12_keep 38 = .ok (.iload_n 2, 1) := by decide +kernel
theorem dX12_keep_39 : decode cX12_keep 39 = .ok (.iaload, 1) := by decide +kernel
theorem dX12_keep_40 : decode cX12_keep 40 = .ok (.iastore, 1) := by decide +kernel
theorem dX12_keep_41 : decode cX12_keep 41 = .ok (.aload_n 1, 1) := by decide +kernel
theorem dX12_keep_42 : decode cX12_keep 42 = .ok (.sipush 330, 3) := by decide +kernel
theorem dX12_keep_45 : decode cX12_keep 45 = .ok (.iload_n 2, 1) := by decide +kernel
theorem dX12_keep_46 : decode cX12_keep 46 = .ok (.iadd, 1) := by decide +kernel
theorem dX12_keep_47 : decode cX12_keep 47 = .ok (.aload_n 0, 1) := by decide +kernel
theorem dX12_keep_48 : decode cX12_keep 48 = .ok (.getfield 47, 3) := by decide +kernel
theorem dX12_keep_51 : decode cX12_keep 51 = .ok (.iload_n 2, 1) := by decide +kernel
theorem dX12_keep_52 : decode cX12_keep 52 = .ok (.iaload, 1) := by decide +kernel
theorem dX12_keep_53 : decode cX12_keep 53 = .ok (.iastore, 1) := by decide +kernel
theorem dX12_keep_54 : decode cX12_keep 54 = .ok (.aload_n 1, 1) := by decide +kernel
theorem dX12_keep_55 : decode cX12_keep 55 = .ok (.sipush 336, 3) := by decide +kernel
theorem dX12_keep_58 : decode cX12_keep 58 = .ok (.iload_n 2, 1) := by decide +kernel
theorem dX12_keep_59 : decode cX12_keep 59 = .ok (.iadd, 1) := by decide +kernel
theorem dX12_keep_60 : decode cX12_keep 60 = .ok (.aload_n 0, 1) := by decide +kernel
theorem dX12_keep_61 : decode cX12_keep 61 = .ok (.getfield 50, 3) := by decide +kernel
theorem dX12_keep_64 : decode cX12_keep 64 = .ok (.iload_n 2, 1) := by decide +kernel
theorem dX12_keep_65 : decode cX12_keep 65 = .ok (.iaload, 1) := by decide +kernel
theorem dX12_keep_66 : decode cX12_keep 66 = .ok (.iastore, 1) := by decide +kernel
theorem dX12_keep_67 : decode cX12_keep 67 = .ok (.iinc 2 1, 3) := by decide +kernel
theorem dX12_keep_70 : decode cX12_keep 70 = .ok (.goto (-68), 3) := by decide +kernel
theorem dX12_keep_73 : decode cX12_keep 73 = .ok (.iconst 0, 1) := by decide +kernel
theorem dX12_keep_74 : decode cX12_keep 74 = .ok (.istore_n 2, 1) := by decide +kernel
theorem dX12_keep_75 : decode cX12_keep 75 = .ok (.iload_n 2, 1) := by decide +kernel
theorem dX12_keep_76 : decode cX12_keep 76 = .ok (.bipush 48, 2) := by decide +kernel
theorem dX12_keep_78 : decode cX12_keep 78 = .ok (.if_icmp .ge 71, 3) := by decide +kernel
theorem dX12_keep_81 : decode cX12_keep 81 = .ok (.aload_n 1, 1) := by decide +kernel
theorem dX12_keep_82 : decode cX12_keep 82 = .ok (.bipush 18, 2) := by decide +kernel
theorem dX12_keep_84 : decode cX12_keep 84 = .ok (.iload_n 2, 1) := by decide +kernel
theorem dX12_keep_85 : decode cX12_keep 85 = .ok (.iadd, 1) := by decide +kernel
theorem dX12_keep_86 : decode cX12_keep 86 = .ok (.aload_n 0, 1) := by decide +kernel
theorem dX12_keep_87 : decode cX12_keep 87 = .ok (.getfield 29, 3) := by decide +kernel
theorem dX12_keep_90 : decode cX12_keep 90 = .ok (.iload_n 2, 1) := by decide +kernel
theorem dX12_keep_91 : decode cX12_keep 91 = .ok (.iaload, 1) := by decide +kernel
theorem dX12_keep_92 : decode cX12_keep 92 = .ok (.iastore, 1) := by decide +kernel
theorem dX12_keep_93 : decode cX12_keep 93 = .ok (.aload_n 1, 1) := by decide +kernel
theorem dX12_keep_94 : decode cX12_keep 94 = .ok (.bipush 66, 2) := by decide +kernel
theorem dX12_keep_96 : decode cX12_keep 96 = .ok (.iload_n 2, 1) := by decide +kernel
theorem dX12_keep_97 : decode cX12_keep 97 = .ok (.iadd, 1) := by decide +kernel
theorem dX12_keep_98 : decode cX12_keep 98 = .ok (.aload_n 0, 1) := by decide +kernel
theorem dX12_keep_99 : decode cX12_keep 99 = .ok (.getfield 32, 3) := by decide +kernel
theorem dX12_keep_102 : decode cX12_keep 102 = .ok (.iload_n 2, 1) := by decide +kernel
theorem dX12_keep_103 : decode cX12_keep 103 = .ok (.iaload, 1) := by decide +kernel
theorem dX12_keep_104 : decode cX12_keep 104 = .ok (.iastore, 1) := by decide +kernel
theorem dX12_keep_105 : decode cX12_keep 105 = .ok (.aload_n 1, 1) := by decide +kernel
theorem dX12_keep_106 : decode cX12_keep 106 = .ok (.bipush 114, 2) := by decide +kernel
theorem dX12_keep_108 : decode cX12_keep 108 = .ok (.iload_n 2, 1) := by decide +kernel
theorem dX12_keep_109 : decode cX12_keep 109 = .ok (.iadd, 1) := by decide +kernel
theorem dX12_keep_110 : decode cX12_keep 110 = .ok (.aload_n 0, 1) := by decide +kernel
theorem dX12_keep_111 : decode cX12_keep 111 = .ok (.getfield 35, 3) := by decide +kernel
theorem dX12_keep_114 : decode cX12_keep 114 = .ok (.iload_n 2, 1) := by decide +kernel
theorem dX12_keep_115 : decode cX12_keep 115 = .ok (.iaload, 1) := by decide +kernel
theorem dX12_keep_116 : decode cX12_keep 116 = .ok (.iastore, 1) := by decide +kernel
theorem dX12_keep_117 : decode cX12_keep 117 = .ok (.aload_n 1, 1) := by decide +kernel
theorem dX12_keep_118 : decode cX12_keep 118 = .ok (.sipush 162, 3) := by decide +kernel
theorem dX12_keep_121 : decode cX12_keep 121 = .ok (.iload_n 2, 1) := by decide +kernel
theorem dX12_keep_122 : decode cX12_keep 122 = .ok (.iadd, 1) := by decide +kernel
theorem dX12_keep_123 : decode cX12_keep 123 = .ok (.aload_n 0, 1) := by decide +kernel
theorem dX12_keep_124 : decode cX12_keep 124 = .ok (.getfield 38, 3) := by decide +kernel
theorem dX12_keep_127 : decode cX12_keep 127 = .ok (.iload_n 2, 1) := by decide +kernel
theorem dX12_keep_128 : decode cX12_keep 128 = .ok (.iaload, 1) := by decide +kernel
theorem dX12_keep_129 : decode cX12_keep 129 = .ok (.iastore, 1) := by decide +kernel
theorem dX12_keep_130 : decode cX12_keep 130 = .ok (.aload_n 1, 1) := by decide +kernel
theorem dX12_keep_131 : decode cX12_keep 131 = .ok (.sipush 210, 3) := by decide +kernel
theorem dX12_keep_134 : decode cX12_keep 134 = .ok (.iload_n 2, 1) := by decide +kernel
theorem dX12_keep_135 : decode cX12_keep 135 = .ok (.iadd, 1) := by decide +kernel
theorem dX12_keep_136 : decode cX12_keep 136 = .ok (.aload_n 0, 1) := by decide +kernel
theorem dX12_keep_137 : decode cX12_keep 137 = .ok (.getfield 41, 3) := by decide +kernel
theorem dX12_keep_140 : decode cX12_keep 140 = .ok (.iload_n 2, 1) := by decide +kernel
theorem dX12_keep_141 : decode cX12_keep 141 = .ok (.iaload, 1) := by decide +kernel
theorem dX12_keep_142 : decode cX12_keep 142 = .ok (.iastore, 1) := by decide +kernel
theorem dX12_keep_143 : decode cX12_keep 143 = .ok (.iinc 2 1, 3) := by decide +kernel
theorem dX12_keep_146 : decode cX12_keep 146 = .ok (.goto (-71), 3) := by decide +kernel
theorem dX12_keep_149 : decode cX12_keep 149 = .ok (.iconst 0, 1) := by decide +kernel
theorem dX12_keep_150 : decode cX12_keep 150 = .ok (.istore_n 2, 1) := by decide +kernel
theorem dX12_keep_151 : decode cX12_keep 151 = .ok (.iload_n 2, 1) := by decide +kernel
theorem dX12_keep_152 : decode cX12_keep 152 = .ok (.bipush 72, 2) := by decide +kernel
theorem dX12_keep_154 : decode cX12_keep 154 = .ok (.if_icmp .ge 22, 3) := by decide +kernel
theorem dX12_keep_157 : decode cX12_keep 157 = .ok (.aload_n 1, 1) := by decide +kernel
theorem dX12_keep_158 : decode cX12_keep 158 = .ok (.sipush 258, 3) := by decide +kernel
theorem dX12_keep_161 : decode cX12_keep 161 = .ok (.iload_n 2, 1) := by decide +kernel
theorem dX12_keep_162 : decode cX12_keep 162 = .ok (.iadd, 1) := by decide +kernel
theorem dX12_keep_163 : decode cX12_keep 163 = .ok (.aload_n 0, 1) := by decide +kernel
theorem dX12_keep_164 : decode cX12_keep 164 = .ok (.getfield 44, 3) := by decide +kernel
theorem dX12_keep_167 : decode cX12_keep 167 = .ok (.iload_n 2, 1) := by decide +kernel
theorem dX12_keep_168 : decode cX12_keep 168 = .ok (.iaload, 1) := by decide +kernel
theorem dX12_keep_169 : decode cX12_keep 169 = .ok (.iastore, 1) := by decide +kernel
theorem dX12_keep_170 : decode cX12_keep 170 = .ok (.iinc 2 1, 3) := by decide +kernel
theorem dX12_keep_173 : decode cX12_keep 173 = .ok (.goto (-22), 3) := by decide +kernel
theorem dX12_keep_176 : decode cX12_keep 176 = .ok (.aload_n 1, 1) := by decide +kernel
theorem dX12_keep_177 : decode cX12_keep 177 = .ok (.sipush 342, 3) := by decide +kernel
theorem dX12_keep_180 : decode cX12_keep 180 = .ok (.aload_n 0, 1) := by decide +kernel
theorem dX12_keep_181 : decode cX12_keep 181 = .ok (.getfield 87, 3) := by decide +kernel
theorem dX12_keep_184 : decode cX12_keep 184 = .ok (.iastore, 1) := by decide +kernel
theorem dX12_keep_185 : decode cX12_keep 185 = .ok (.aload_n 1, 1) := by decide +kernel
theorem dX12_keep_186 : decode cX12_keep 186 = .ok (.sipush 343, 3) := by decide +kernel
theorem dX12_keep_189 : decode cX12_keep 189 = .ok (.bipush 100, 2) := by decide +kernel
theorem dX12_keep_191 : decode cX12_keep 191 = .ok (.aload_n 0, 1) := by decide +kernel
theorem dX12_keep_192 : decode cX12_keep 192 = .ok (.getfield 74, 3) := by decide +kernel
theorem dX12_keep_195 : decode cX12_keep 195 = .ok (.imul, 1) := by decide +kernel
theorem dX12_keep_196 : decode cX12_keep 196 = .ok (.aload_n 0, 1) := by decide +kernel
theorem dX12_keep_197 : decode cX12_keep 197 = .ok (.getfield 78, 3) := by decide +kernel
theorem dX12_keep_200 : decode cX12_keep 200 = .ok (.iadd, 1) := by decide +kernel
theorem dX12_keep_201 : decode cX12_keep 201 = .ok (.iastore, 1) := by decide +kernel
theorem dX12_keep_202 : decode cX12_keep 202 = .ok (.aload_n 1, 1) := by decide +kernel
theorem dX12_keep_203 : decode cX12_keep 203 = .ok (.sipush 344, 3) := by decide +kernel
theorem dX12_keep_206 : decode cX12_keep 206 = .ok (.aload_n 0, 1) := by decide +kernel
theorem dX12_keep_207 : decode cX12_keep 207 = .ok (.getfield 139, 3) := by decide +kernel
theorem dX12_keep_210 : decode cX12_keep 210 = .ok (.iastore, 1) := by decide +kernel
theorem dX12_keep_211 : decode cX12_keep 211 = .ok (.aload_n 1, 1) := by decide +kernel
theorem dX12_keep_212 : decode cX12_keep 212 = .ok (.sipush 345, 3) := by decide +kernel
theorem dX12_keep_215 : decode cX12_keep 215 = .ok (.aload_n 0, 1) := by decide +kernel
theorem dX12_keep_216 : decode cX12_keep 216 = .ok (.getfield 272, 3) := by decide +kernel
theorem dX12_keep_219 : decode cX12_keep 219 = .ok (.iastore, 1) := by decide +kernel
theorem dX12_keep_220 : decode cX12_keep 220 = .ok (.aload_n 1, 1) := by decide +kernel
theorem dX12_keep_221 : decode cX12_keep 221 = .ok (.sipush 346, 3) := by decide +kernel
theorem dX12_keep_224 : decode cX12_keep 224 = .ok (.aload_n 0, 1) := by decide +kernel
theorem dX12_keep_225 : decode cX12_keep 225 = .ok (.getfield 81, 3) := by decide +kernel
theorem dX12_keep_228 : decode cX12_keep 228 = .ok (.iastore, 1) := by decide +kernel
theorem dX12_keep_229 : decode cX12_keep 229 = .ok (.return_, 1) := by decide +kernel
theorem dX12_again_0 : decode cX12_again 0 = .ok (.iconst 0, 1) := by decide +kernel
theorem dX12_again_1 : decode cX12_again 1 = .ok (.istore_n 2, 1) := by decide +kernel
theorem dX12_again_2 : decode cX12_again 2 = .ok (.iload_n 2, 1) := by decide +kernel
theorem dX12_again_3 : decode cX12_again 3 = .ok (.bipush 6, 2) := by decide +kernel
theorem dX12_again_5 : decode cX12_again 5 = .ok (.if_icmp .ge 68, 3) := by decide +kernel
theorem dX12_again_8 : decode cX12_again 8 = .ok (.aload_n 0, 1) := by decide +kernel
theorem dX12_again_9 : decode cX12_again 9 = .ok (.getfield 20, 3) := by decide +kernel
theorem dX12_again_12 : decode cX12_again 12 = .ok (.iload_n 2, 1) := by decide +kernel
theorem dX12_again_13 : decode cX12_again 13 = .ok (.aload_n 1, 1) := by decide +kernel
theorem dX12_again_14 : decode cX12_again 14 = .ok (.iload_n 2, 1) := by decide +kernel
theorem dX12_again_15 : decode cX12_again 15 = .ok (.iaload, 1) := by decide +kernel
theorem dX12_again_16 : decode cX12_again 16 = .ok (.iastore, 1) := by decide +kernel
theorem dX12_again_17 : decode cX12_again 17 = .ok (.aload_n 0, 1) := by decide +kernel
theorem dX12_again_18 : decode cX12_again 18 = .ok (.getfield 23, 3) := by decide +kernel
theorem dX12_again_21 : decode cX12_again 21 = .ok (.iload_n 2, 1) := by decide +kernel
theorem dX12_again_22 : decode cX12_again 22 = .ok (.aload_n 1, 1) := by decide +kernel
theorem dX12_again_23 : decode cX12_again 23 = .ok (.bipush 6, 2) := by decide +kernel
theorem dX12_again_25 : decode cX12_again 25 = .ok (.iload_n 2, 1) := by decide +kernel
theorem dX12_again_26 : decode cX12_again 26 = .ok (.iadd, 1) := by decide +kernel
theorem dX12_again_27 : decode cX12_again 27 = .ok (.iaload, 1) := by decide +kernel
theorem dX12_again_28 : decode cX12_again 28 = .ok (.iastore, 1) := by decide +kernel
theorem dX12_again_29 : decode cX12_again 29 = .ok (.aload_n 0, 1) := by decide +kernel
theorem dX12_again_30 : decode cX12_again 30 = .ok (.getfield 26, 3) := by decide +kernel
theorem dX12_again_33 : decode cX12_again 33 = .ok (.iload_n 2, 1) := by decide +kernel
theorem dX12_again_34 : decode cX12_again 34 = .ok (.aload_n 1, 1) := by decide +kernel
theorem dX12_again_35 : decode cX12_again 35 = .ok (.bipush 12, 2) := by decide +kernel
theorem dX12_again_37 : decode cX12_again 37 = .ok (.iload_n 2, 1) := by decide +kernel
theorem dX12_again_38 : decode cX12_again 38 = .ok (.iadd, 1) := by decide +kernel
theorem dX12_again_39 : decode cX12_again 39 = .ok (.iaload, 1) := by decide +kernel
theorem dX12_again_40 : decode cX12_again 40 = .ok (.iastore, 1) := by decide +kernel
theorem dX12_again_41 : decode cX12_again 41 = .ok (.aload_n 0, 1) := by decide +kernel
theorem dX12_again_42 : decode cX12_again 42 = .ok (.getfield 47, 3) := by decide +kernel
theorem dX12_again_45 : decode cX12_again 45 = .ok (.iload_n 2, 1) := by decide +kernel
theorem dX12_again_46 : decode cX12_again 46 = .ok (.aload_n 1, 1) := by decide +kernel
theorem dX12_again_47 : decode cX12_again 47 = .ok (.sipush 330, 3) := by decide +kernel
theorem dX12_again_50 : decode cX12_again 50 = .ok (.iload_n 2, 1) := by decide +kernel
theorem dX12_again_51 : decode cX12_again 51 = .ok (.iadd, 1) := by decide +kernel
theorem dX12_again_52 : decode cX12_again 52 = .ok (.iaload, 1) := by decide +kernel
theorem dX12_again_53 : decode cX12_again 53 = .ok (.iastore, 1) := by decide +kernel
theorem dX12_again_54 : decode cX12_again 54 = .ok (.aload_n 0, 1) := by decide +kernel
theorem dX12_again_55 : decode cX12_again 55 = .ok (.getfield 50, 3) := by decide +kernel
theorem dX12_again_58 : decode cX12_again 58 = .ok (.iload_n 2, 1) := by decide +kernel
theorem dX12_again_59 : decode cX12_again 59 = .ok (.aload_n 1, 1) := by decide +kernel
theorem dX12_again_60 : decode cX12_again 60 = .ok (.sipush 336, 3) := by decide +kernel
theorem dX12_again_63 : decode cX12_again 63 = .ok (.iload_n 2, 1) := by decide +kernel
theorem dX12_again_64 : decode cX12_again 64 = .ok (.iadd, 1) := by decide +kernel
theorem dX12_again_65 : decode cX12_again 65 = .ok (.iaload, 1) := by decide +kernel
theorem dX12_again_66 : decode cX12_again 66 = .ok (.iastore, 1) := by decide +kernel
theorem dX12_again_67 : decode cX12_again 67 = .ok (.iinc 2 1, 3) := by decide +kernel
theorem dX12_again_70 : decode cX12_again 70 = .ok (.goto (-68), 3) := by decide +kernel
theorem dX12_again_73 : decode cX12_again 73 = .ok (.iconst 0, 1) := by decide +kernel
theorem dX12_again_74 : decode cX12_again 74 = .ok (.istore_n 2, 1) := by decide +kernel
theorem dX12_again_75 : decode cX12_again 75 = .ok (.iload_n 2, 1) := by decide +kernel
theorem dX12_again_76 : decode cX12_again 76 = .ok (.bipush 48, 2) := by decide +kernel
theorem dX12_again_78 : decode cX12_again 78 = .ok (.if_icmp .ge 71, 3) := by decide +kernel
theorem dX12_again_81 : decode cX12_again 81 = .ok (.aload_n 0, 1) := by decide +kernel
theorem dX12_again_82 : decode cX12_again 82 = .ok (.getfield 29, 3) := by decide +kernel
theorem dX12_again_85 : decode cX12_again 85 = .ok (.iload_n 2, 1) := by decide +kernel
theorem dX12_again_86 : decode cX12_again 86 = .ok (.aload_n 1, 1) := by decide +kernel
theorem dX12_again_87 : decode cX12_again 87 = .ok (.bipush 18, 2) := by decide +kernel
theorem dX12_again_89 : decode cX12_again 89 = .ok (.iload_n 2, 1) := by decide +kernel
theorem dX12_again_90 : decode cX12_again 90 = .ok (.iadd, 1) := by decide +kernel
theorem dX12_again_91 : decode cX12_again 91 = .ok (.iaload, 1) := by decide +kernel
theorem dX12_again_92 : decode cX12_again 92 = .ok (.iastore, 1) := by decide +kernel
theorem dX12_again_93 : decode cX12_again 93 = .ok (.aload_n 0, 1) := by decide +kernel
theorem dX12_again_94 : decode cX12_again 94 = .ok (.getfield 32, 3) := by decide +kernel
theorem dX12_again_97 : decode cX12_again 97 = .ok (.iload_n 2, 1) := by decide +kernel
theorem dX12_again_98 : decode cX12_again 98 = .ok (.aload_n 1, 1) := by decide +kernel
theorem dX12_again_99 : decode cX12_again 99 = .ok (.bipush 66, 2) := by decide +kernel
theorem dX12_again_101 : decode cX12_again 101 = .ok (.iload_n 2, 1) := by decide +kernel
theorem dX12_again_102 : decode cX12_again 102 = .ok (.iadd, 1) := by decide +kernel
theorem dX12_again_103 : decode cX12_again 103 = .ok (.iaload, 1) := by decide +kernel
theorem dX12_again_104 : decode cX12_again 104 = .ok (.iastore, 1) := by decide +kernel
theorem dX12_again_105 : decode cX12_again 105 = .ok (.aload_n 0, 1) := by decide +kernel
theorem dX12_again_106 : decode cX12_again 106 = .ok (.getfield 35, 3) := by decide +kernel
theorem dX12_again_109 : decode cX12_again 109 = .ok (.iload_n 2, 1) := by decide +kernel
theorem dX12_again_110 : decode cX12_again 110 = .ok (.aload_n 1, 1) := by decide +kernel
theorem dX12_again_111 : decode cX12_again 111 = .ok (.bipush 114, 2) := by decide +kernel
theorem dX12_again_113 : decode cX12_again 113 = .ok (.iload_n 2, 1) := by decide +kernel
theorem dX12_again_114 : decode cX12_again 114 = .ok (.iadd, 1) := by decide +kernel
theorem dX12_again_115 : decode cX12_again 115 = .ok (.iaload, 1) := by decide +kernel
theorem dX12_again_116 : decode cX12_again 116 = .ok (.iastore, 1) := by decide +kernel
theorem dX12_again_117 : decode cX12_again 117 = .ok (.aload_n 0, 1) := by decide +kernel
theorem dX12_again_118 : decode cX12_again 118 = .ok (.getfield 38, 3) := by decide +kernel
theorem dX12_again_121 : decode cX12_again 121 = .ok (.iload_n 2, 1) := by decide +kernel
theorem dX12_again_122 : decode cX12_again 122 = .ok (.aload_n 1, 1) := by decide +kernel
theorem dX12_again_123 : decode cX12_again 123 = .ok (.sipush 162, 3) := by decide +kernel
theorem dX12_again_126 : decode cX12_again 126 = .ok (.iload_n 2, 1) := by decide +kernel
theorem dX12_again_127 : decode cX12_again 127 = .ok (.iadd, 1) := by decide +kernel
theorem dX12_again_128 : decode cX12_again 128 = .ok (.iaload, 1) := by decide +kernel
theorem dX12_again_129 : decode cX12_again 129 = .ok (.iastore, 1) := by decide +kernel
theorem dX12_again_130 : decode cX12_again 130 = .ok (.aload_n 0, 1) := by decide +kernel
theorem dX12_again_131 : decode cX12_again 131 = .ok (.getfield 41, 3) := by decide +kernel
theorem dX12_again_134 : decode cX12_again 134 = .ok (.iload_n 2, 1) := by decide +kernel
theorem dX12_again_135 : decode cX12_again 135 = .ok (.aload_n 1, 1) := by decide +kernel
theorem dX12_again_136 : decode cX12_again 136 = .ok (.sipush 210, 3) := by decide +kernel
theorem dX12_again_139 : decode cX12_again 139 = .ok (.iload_n 2, 1) := by decide +kernel
theorem dX12_again_140 : decode cX12_again 140 = .ok (.iadd, 1) := by decide +kernel
theorem dX12_again_141 : decode cX12_again 141 = .ok (.iaload, 1) := by decide +kernel
theorem dX12_again_142 : decode cX12_again 142 = .ok (.iastore, 1) := by decide +kernel
theorem dX12_again_143 : decode cX12_again 143 = .ok (.iinc 2 1, 3) := by decide +kernel
theorem dX12_again_146 : decode cX12_again 146 = .ok (.goto (-71), 3) := by decide +kernel
theorem dX12_again_149 : decode cX12_again 149 = .ok (.iconst 0, 1) := by decide +kernel
theorem dX12_again_150 : decode cX12_again 150 = .ok (.istore_n 2, 1) := by decide +kernel
theorem dX12_again_151 : decode cX12_again 151 = .ok (.iload_n 2, 1) := by decide +kernel
theorem dX12_again_152 : decode cX12_again 152 = .ok (.bipush 72, 2) := by decide +kernel
theorem dX12_again_154 : decode cX12_again 154 = .ok (.if_icmp .ge 22, 3) := by decide +kernel
theorem dX12_again_157 : decode cX12_again 157 = .ok (.aload_n 0, 1) := by decide +kernel
theorem dX12_again_158 : decode cX12_again 158 = .ok (.getfield 44, 3) := by decide +kernel
theorem dX12_again_161 : decode cX12_again 161 = .ok (.iload_n 2, 1) := by decide +kernel
theorem dX12_again_162 : decode cX12_again 162 = .ok (.aload_n 1, 1) := by decide +kernel
theorem dX12_again_163 : decode cX12_again 163 = .ok (.sipush 258, 3) := by decide +kernel
theorem dX12_again_166 : decode cX12_again 166 = .ok (.iload_n 2, 1) := by decide +kernel
theorem dX12_again_167 : decode cX12_again 167 = .ok (.iadd, 1) := by decide +kernel
theorem dX12_again_168 : decode cX12_again 168 = .ok (.iaload, 1) := by decide +kernel
theorem dX12_again_169 : decode cX12_again 169 = .ok (.iastore, 1) := by decide +kernel
theorem dX12_again_170 : decode cX12_again 170 = .ok (.iinc 2 1, 3) := by decide +kernel
theorem dX12_again_173 : decode cX12_again 173 = .ok (.goto (-22), 3) := by decide +kernel
theorem dX12_again_176 : decode cX12_again 176 = .ok (.aload_n 0, 1) := by decide +kernel
theorem dX12_again_177 : decode cX12_again 177 = .ok (.aload_n 1, 1) := by decide +kernel
theorem dX12_again_178 : decode cX12_again 178 = .ok (.sipush 342, 3) := by decide +kernel
theorem dX12_again_181 : decode cX12_again 181 = .ok (.iaload, 1) := by decide +kernel
theorem dX12_again_182 : decode cX12_again 182 = .ok (.putfield 87, 3) := by decide +kernel
theorem dX12_again_185 : decode cX12_again 185 = .ok (.aload_n 0, 1) := by decide +kernel
theorem dX12_again_186 : decode cX12_again 186 = .ok (.aload_n 1, 1) := by decide +kernel
theorem dX12_again_187 : decode cX12_again 187 = .ok (.sipush 343, 3) := by decide +kernel
theorem dX12_again_190 : decode cX12_again 190 = .ok (.iaload, 1) := by decide +kernel
theorem dX12_again_191 : decode cX12_again 191 = .ok (.bipush 100, 2) := by decide +kernel
theorem dX12_again_193 : decode cX12_again 193 = .ok (.idiv, 1) := by decide +kernel
theorem dX12_again_194 : decode cX12_again 194 = .ok (.putfield 74, 3) := by decide +kernel
theorem dX12_again_197 : decode cX12_again 197 = .ok (.aload_n 0, 1) := by decide +kernel
theorem dX12_again_198 : decode cX12_again 198 = .ok (.aload_n 1, 1) := by decide +kernel
theorem dX12_again_199 : decode cX12_again 199 = .ok (.sipush 343, 3) := by decide +kernel
theorem dX12_again_202 : decode cX12_again 202 = .ok (.iaload, 1) := by decide +kernel
theorem dX12_again_203 : decode cX12_again 203 = .ok (.bipush 100, 2) := by decide +kernel
theorem dX12_again_205 : decode cX12_again 205 = .ok (.irem, 1) := by decide +kernel
theorem dX12_again_206 : decode cX12_again 206 = .ok (.putfield 78, 3) := by decide +kernel
theorem dX12_again_209 : decode cX12_again 209 = .ok (.aload_n 0, 1) := by decide +kernel
theorem dX12_again_210 : decode cX12_again 210 = .ok (.aload_n 1, 1) := by decide +kernel
theorem dX12_again_211 : decode cX12_again 211 = .ok (.sipush 344, 3) := by decide +kernel
theorem dX12_again_214 : decode cX12_again 214 = .ok (.iaload, 1) := by decide +kernel
theorem dX12_again_215 : decode cX12_again 215 = .ok (.putfield 139, 3) := by decide +kernel
theorem dX12_again_218 : decode cX12_again 218 = .ok (.aload_n 0, 1) := by decide +kernel
theorem dX12_again_219 : decode cX12_again 219 = .ok (.aload_n 1, 1) := by decide +kernel
theorem dX12_again_220 : decode cX12_again 220 = .ok (.sipush 345, 3) := by decide +kernel
theorem dX12_again_223 : decode cX12_again 223 = .ok (.iaload, 1) := by decide +kernel
theorem dX12_again_224 : decode cX12_again 224 = .ok (.putfield 272, 3) := by decide +kernel
theorem dX12_again_227 : decode cX12_again 227 = .ok (.aload_n 0, 1) := by decide +kernel
theorem dX12_again_228 : decode cX12_again 228 = .ok (.aload_n 1, 1) := by decide +kernel
theorem dX12_again_229 : decode cX12_again 229 = .ok (.sipush 346, 3) := by decide +kernel
theorem dX12_again_232 : decode cX12_again 232 = .ok (.iaload, 1) := by decide +kernel
theorem dX12_again_233 : decode cX12_again 233 = .ok (.putfield 81, 3) := by decide +kernel
theorem dX12_again_236 : decode cX12_again 236 = .ok (.return_, 1) := by decide +kernel
theorem dX12_image_0 : decode cX12_image 0 = .ok (.aload_n 0, 1) := by decide +kernel
theorem dX12_image_1 : decode cX12_image 1 = .ok (.iconst 1, 1) := by decide +kernel
theorem dX12_image_2 : decode cX12_image 2 = .ok (.putfield 297, 3) := by decide +kernel
theorem dX12_image_5 : decode cX12_image 5 = .ok (.aload_n 0, 1) := by decide +kernel
theorem dX12_image_6 : decode cX12_image 6 = .ok (.aload_n 0, 1) := by decide +kernel
theorem dX12_image_7 : decode cX12_image 7 = .ok (.getfield 59, 3) := by decide +kernel
theorem dX12_image_10 : decode cX12_image 10 = .ok (.invokevirtual 209, 3) := by decide +kernel
theorem dX12_image_13 : decode cX12_image 13 = .ok (.aload_n 0, 1) := by decide +kernel
theorem dX12_image_14 : decode cX12_image 14 = .ok (.getfield 87, 3) := by decide +kernel
theorem dX12_image_17 : decode cX12_image 17 = .ok (.ireturn, 1) := by decide +kernel
theorem dX12_restore_0 : decode cX12_restore 0 = .ok (.aload_n 0, 1) := by decide +kernel
theorem dX12_restore_1 : decode cX12_restore 1 = .ok (.getfield 297, 3) := by decide +kernel
theorem dX12_restore_4 : decode cX12_restore 4 = .ok (.ifCond .ne 10, 3) := by decide +kernel
theorem dX12_restore_7 : decode cX12_restore 7 = .ok (.aload_n 0, 1) := by decide +kernel
theorem dX12_restore_8 : decode cX12_restore 8 = .ok (.bipush (-6), 2) := by decide +kernel
theorem dX12_restore_10 : decode cX12_restore 10 = .ok (.invokevirtual 98, 3) := by decide +kernel
theorem dX12_restore_13 : decode cX12_restore 13 = .ok (.ireturn, 1) := by decide +kernel
theorem dX12_restore_14 : decode cX12_restore 14 = .ok (.aload_n 0, 1) := by decide +kernel
theorem dX12_restore_15 : decode cX12_restore 15 = .ok (.aload_n 0, 1) := by decide +kernel
theorem dX12_restore_16 : decode cX12_restore 16 = .ok (.getfield 59, 3) := by decide +kernel
theorem dX12_restore_19 : decode cX12_restore 19 = .ok (.invokevirtual 217, 3) := by decide +kernel
theorem dX12_restore_22 : decode cX12_restore 22 = .ok (.iconst 0, 1) := by decide +kernel
theorem dX12_restore_23 : decode cX12_restore 23 = .ok (.istore_n 1, 1) := by decide +kernel
theorem dX12_restore_24 : decode cX12_restore 24 = .ok (.iload_n 1, 1) := by decide +kernel
theorem dX12_restore_25 : decode cX12_restore 25 = .ok (.bipush 8, 2) := by decide +kernel
theorem dX12_restore_27 : decode cX12_restore 27 = .ok (.if_icmp .ge 37, 3) := by decide +kernel
theorem dX12_restore_30 : decode cX12_restore 30 = .ok (.aload_n 0, 1) := by decide +kernel
theorem dX12_restore_31 : decode cX12_restore 31 = .ok (.iload_n 1, 1) := by decide +kernel
theorem dX12_restore_32 : decode cX12_restore 32 = .ok (.invokevirtual 102, 3) := by decide +kernel
theorem dX12_restore_35 : decode cX12_restore 35 = .ok (.ifCond .ne 23, 3) := by decide +kernel
theorem dX12_restore_38 : decode cX12_restore 38 = .ok (.aload_n 0, 1) := by decide +kernel
theorem dX12_restore_39 : decode cX12_restore 39 = .ok (.getfield 7, 3) := by decide +kernel
theorem dX12_restore_42 : decode cX12_restore 42 = .ok (.iload_n 1, 1) := by decide +kernel
theorem dX12_restore_43 : decode cX12_restore 43 = .ok (.iaload, 1) := by decide +kernel
theorem dX12_restore_44 : decode cX12_restore 44 = .ok (.aload_n 0, 1) := by decide +kernel
theorem dX12_restore_45 : decode cX12_restore 45 = .ok (.getfield 87, 3) := by decide +kernel
theorem dX12_restore_48 : decode cX12_restore 48 = .ok (.if_icmp .lt 10, 3) := by decide +kernel
theorem dX12_restore_51 : decode cX12_restore 51 = .ok (.aload_n 0, 1) := by decide +kernel
theorem dX12_restore_52 : decode cX12_restore 52 = .ok (.getfield 7, 3) := by decide +kernel
theorem dX12_restore_55 : decode cX12_restore 55 = .ok (.iload_n 1, 1) := by decide +kernel
theorem dX12_restore_56 : decode cX12_restore 56 = .ok (.iconst (-1), 1) := by decide +kernel
theorem dX12_restore_57 : decode cX12_restore 57 = .ok (.iastore, 1) := by decide +kernel
theorem dX12_restore_58 : decode cX12_restore 58 = .ok (.iinc 1 1, 3) := by decide +kernel
theorem dX12_restore_61 : decode cX12_restore 61 = .ok (.goto (-37), 3) := by decide +kernel
theorem dX12_restore_64 : decode cX12_restore 64 = .ok (.aload_n 0, 1) := by decide +kernel
theorem dX12_restore_65 : decode cX12_restore 65 = .ok (.getfield 87, 3) := by decide +kernel
theorem dX12_restore_68 : decode cX12_restore 68 = .ok (.ireturn, 1) := by decide +kernel
theorem dX12_status_0 : decode cX12_status 0 = .ok (.iconst 0, 1) := by decide +kernel
theorem dX12_status_1 : decode cX12_status 1 = .ok (.istore_n 2, 1) := by decide +kernel
theorem dX12_status_2 : decode cX12_status 2 = .ok (.iload_n 1, 1) := by decide +kernel
theorem dX12_status_3 : decode cX12_status 3 = .ok (.tableswitch 107 0 7 #[45, 50, 77, 82, 87, 92, 97, 102], 45) := by decide +kernel
theorem dX12_status_48 : decode cX12_status 48 = .ok (.aload_n 0, 1) := by decide +kernel
theorem dX12_status_49 : decode cX12_status 49 = .ok (.getfield 87, 3) := by decide +kernel
theorem dX12_status_52 : decode cX12_status 52 = .ok (.ireturn, 1) := by decide +kernel
theorem dX12_status_53 : decode cX12_status 53 = .ok (.iconst 0, 1) := by decide +kernel
theorem dX12_status_54 : decode cX12_status 54 = .ok (.istore_n 3, 1) := by decide +kernel
theorem dX12_status_55 : decode cX12_status 55 = .ok (.iload_n 3, 1) := by decide +kernel
theorem dX12_status_56 : decode cX12_status 56 = .ok (.aload_n 0, 1) := by decide +kernel
theorem dX12_status_57 : decode cX12_status 57 = .ok (.getfield 87, 3) := by decide +kernel
theorem dX12_status_60 : decode cX12_status 60 = .ok (.if_icmp .ge 18, 3) := by decide +kernel
theorem dX12_status_63 : decode cX12_status 63 = .ok (.iload_n 2, 1) := by decide +kernel
theorem dX12_status_64 : decode cX12_status 64 = .ok (.aload_n 0, 1) := by decide +kernel
theorem dX12_status_65 : decode cX12_status 65 = .ok (.getfield 26, 3) := by decide +kernel
theorem dX12_status_68 : decode cX12_status 68 = .ok (.iload_n 3, 1) := by decide +kernel
theorem dX12_status_69 : decode cX12_status 69 = .ok (.iaload, 1) := by decide +kernel
theorem dX12_status_70 : decode cX12_status 70 = .ok (.iadd, 1) := by decide +kernel
theorem dX12_status_71 : decode cX12_status 71 = .ok (.istore_n 2, 1) := by decide +kernel
theorem dX12_status_72 : decode cX12_status 72 = .ok (.iinc 3 1, 3) := by decide +kernel
theorem dX12_status_75 : decode cX12_status 75 = .ok (.goto (-20), 3) := by decide +kernel
theorem dX12_status_78 : decode cX12_status 78 = .ok (.iload_n 2, 1) := by decide +kernel
theorem dX12_status_79 : decode cX12_status 79 = .ok (.ireturn, 1) := by decide +kernel
theorem dX12_status_80 : decode cX12_status 80 = .ok (.aload_n 0, 1) := by decide +kernel
theorem dX12_status_81 : decode cX12_status 81 = .ok (.getfield 74, 3) := by decide +kernel
theorem dX12_status_84 : decode cX12_status 84 = .ok (.ireturn, 1) := by decide +kernel
theorem dX12_status_85 : decode cX12_status 85 = .ok (.aload_n 0, 1) := by decide +kernel
theorem dX12_status_86 : decode cX12_status 86 = .ok (.getfield 78, 3) := by decide +kernel
theorem dX12_status_89 : decode cX12_status 89 = .ok (.ireturn, 1) := by decide +kernel
theorem dX12_status_90 : decode cX12_status 90 = .ok (.aload_n 0, 1) := by decide +kernel
theorem dX12_status_91 : decode cX12_status 91 = .ok (.getfield 139, 3) := by decide +kernel
theorem dX12_status_94 : decode cX12_status 94 = .ok (.ireturn, 1) := by decide +kernel
theorem dX12_status_95 : decode cX12_status 95 = .ok (.aload_n 0, 1) := by decide +kernel
theorem dX12_status_96 : decode cX12_status 96 = .ok (.getfield 272, 3) := by decide +kernel
theorem dX12_status_99 : decode cX12_status 99 = .ok (.ireturn, 1) := by decide +kernel
theorem dX12_status_100 : decode cX12_status 100 = .ok (.aload_n 0, 1) := by decide +kernel
theorem dX12_status_101 : decode cX12_status 101 = .ok (.getfield 81, 3) := by decide +kernel
theorem dX12_status_104 : decode cX12_status 104 = .ok (.ireturn, 1) := by decide +kernel
theorem dX12_status_105 : decode cX12_status 105 = .ok (.aload_n 0, 1) := by decide +kernel
theorem dX12_status_106 : decode cX12_status 106 = .ok (.getfield 282, 3) := by decide +kernel
theorem dX12_status_109 : decode cX12_status 109 = .ok (.ireturn, 1) := by decide +kernel
theorem dX12_status_110 : decode cX12_status 110 = .ok (.iload_n 1, 1) := by decide +kernel
theorem dX12_status_111 : decode cX12_status 111 = .ok (.bipush 11, 2) := by decide +kernel
theorem dX12_status_113 : decode cX12_status 113 = .ok (.bipush 17, 2) := by decide +kernel
theorem dX12_status_115 : decode cX12_status 115 = .ok (.invokestatic 90, 3) := by decide +kernel
theorem dX12_status_118 : decode cX12_status 118 = .ok (.ifCond .eq 15, 3) := by decide +kernel
theorem dX12_status_121 : decode cX12_status 121 = .ok (.aload_n 0, 1) := by decide +kernel
theorem dX12_status_122 : decode cX12_status 122 = .ok (.getfield 53, 3) := by decide +kernel
theorem dX12_status_125 : decode cX12_status 125 = .ok (.iload_n 1, 1) := by decide +kernel
theorem dX12_status_126 : decode cX12_status 126 = .ok (.bipush 10, 2) := by decide +kernel
theorem dX12_status_128 : decode cX12_status 128 = .ok (.isub, 1) := by decide +kernel
theorem dX12_status_129 : decode cX12_status 129 = .ok (.iaload, 1) := by decide +kernel
theorem dX12_status_130 : decode cX12_status 130 = .ok (.goto 4, 3) := by decide +kernel
theorem dX12_status_133 : decode cX12_status 133 = .ok (.iconst (-1), 1) := by decide +kernel
theorem dX12_status_134 : decode cX12_status 134 = .ok (.ireturn, 1) := by decide +kernel
