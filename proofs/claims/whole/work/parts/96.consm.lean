/-! the constructor of the reference -/
def muM : Mm := (wI (wI (wI (wI (wI (wI (wI (wI (wI (wI (wI (wI (wI (wI (wI (wI (wI (wI (wI (wI (wI (wI (wI (wI (wR (wR (wR (wR (wR (wR (wR (wR (wR (wR (wR (wR (wR (wR (wR (wR (wR (wR (wR (wR (wR zM 0 0 (some 1)) 0 1 (some 2)) 0 2 (some 3)) 0 4 (some 4)) 0 5 (some 5)) 0 6 (some 6)) 0 7 (some 7)) 0 8 (some 8)) 0 9 (some 9)) 0 10 (some 10)) 0 11 (some 11)) 0 12 (some 12)) 0 13 (some 13)) 0 14 (some 14)) 0 21 (some 15)) 0 23 (some 16)) 0 25 (some 17)) 0 26 (some 18)) 0 29 (some 19)) 0 30 (some 20)) 0 32 (some 21)) 1 0 (-1)) 1 1 (-1)) 1 2 (-1)) 1 3 (-1)) 1 4 (-1)) 1 5 (-1)) 1 6 (-1)) 1 7 (-1)) 13 0 (nI 3)) 14 0 (nI 1)) 13 1 (nI 3)) 14 1 (nI 1)) 13 2 (nI 3)) 14 2 (nI 1)) 13 3 (nI 3)) 14 3 (nI 1)) 13 4 (nI 3)) 14 4 (nI 1)) 13 5 (nI 3)) 14 5 (nI 1)) 0 15 (nI 300)) 0 16 (nI 40)) 0 19 (nI 1)) 0 20 (-1))
set_option maxRecDepth 100000 in
set_option maxHeartbeats 4000000 in
theorem c_X12_init {l : Launch} {δ : Dl} {b : Nat} : MC l δ b NM shM True yX12_init cX12_init 2 none 1 21 2381 1 22 [.ref (b + 0)] zM (pV fun μ1 => μ1 = muM) := by
  refine MC.intro ([some (.ref (b + 0)), none]) (by decide) rfl rfl fun κ Qc hl hQ X => ?_
  subst hl
  refine AW.aload_n X dX12_init_0 (i := 0) rfl rfl ?_
  refine AW.objInit X dX12_init_1 oiX12 ⟨rfl, rfl⟩ ?_
  refine AW.aload_n X dX12_init_4 (i := 0) rfl rfl ?_
  refine AW.bipushN X 8 dX12_init_5 rfl ?_
  refine AW.newI X dX12_init_7 (by decide) trivial (zf_zM _) (by decide +kernel) (N1 := 2) (c1 := 1) (s1 := 8) rfl rfl rfl ⟨rfl, rfl⟩ ?_
  refine AW.putRF X dX12_init_9 fX12_7 rfl rfl rfl rfl (by decide) (dOB (by decide +kernel)) ?_
  refine AW.aload_n X dX12_init_12 (i := 0) rfl rfl ?_
  refine AW.bipushN X 8 dX12_init_13 rfl ?_
  refine AW.newI X dX12_init_15 (by decide) trivial (ZF.wR (zf_zM _) (by omega)) (by decide +kernel) (N1 := 3) (c1 := 2) (s1 := 16) rfl rfl rfl ⟨rfl, rfl⟩ ?_
  refine AW.putRF X dX12_init_17 fX12_13 rfl rfl rfl rfl (by decide) (dOB (by decide +kernel)) ?_
  refine AW.aload_n X dX12_init_20 (i := 0) rfl rfl ?_
  refine AW.sipushN X 1280 dX12_init_21 rfl ?_
  refine AW.newL X dX12_init_24 (by decide) trivial (ZF.wR (ZF.wR (zf_zM _) (by omega)) (by omega)) (by decide +kernel) (N1 := 4) (c1 := 3) (s1 := 1296) rfl rfl rfl ⟨rfl, rfl⟩ ?_
  refine AW.putRF X dX12_init_26 fX12_16 rfl rfl rfl rfl (by decide) (dOB (by decide +kernel)) ?_
  refine AW.aload_n X dX12_init_29 (i := 0) rfl rfl ?_
  refine AW.bipushN X 6 dX12_init_30 rfl ?_
  refine AW.newI X dX12_init_32 (by decide) trivial (ZF.wR (ZF.wR (ZF.wR (zf_zM _) (by omega)) (by omega)) (by omega)) (by decide +kernel) (N1 := 5) (c1 := 4) (s1 := 1302) rfl rfl rfl ⟨rfl, rfl⟩ ?_
  refine AW.putRF X dX12_init_34 fX12_20 rfl rfl rfl rfl (by decide) (dOB (by decide +kernel)) ?_
  refine AW.aload_n X dX12_init_37 (i := 0) rfl rfl ?_
  refine AW.bipushN X 6 dX12_init_38 rfl ?_
  refine AW.newI X dX12_init_40 (by decide) trivial (ZF.wR (ZF.wR (ZF.wR (ZF.wR (zf_zM _) (by omega)) (by omega)) (by omega)) (by omega)) (by decide +kernel) (N1 := 6) (c1 := 5) (s1 := 1308) rfl rfl rfl ⟨rfl, rfl⟩ ?_
  refine AW.putRF X dX12_init_42 fX12_23 rfl rfl rfl rfl (by decide) (dOB (by decide +kernel)) ?_
  refine AW.aload_n X dX12_init_45 (i := 0) rfl rfl ?_
  refine AW.bipushN X 6 dX12_init_46 rfl ?_
  refine AW.newI X dX12_init_48 (by decide) trivial (ZF.wR (ZF.wR (ZF.wR (ZF.wR (ZF.wR (zf_zM _) (by omega)) (by omega)) (by omega)) (by omega)) (by omega)) (by decide +kernel) (N1 := 7) (c1 := 6) (s1 := 1314) rfl rfl rfl ⟨rfl, rfl⟩ ?_
  refine AW.putRF X dX12_init_50 fX12_26 rfl rfl rfl rfl (by decide) (dOB (by decide +kernel)) ?_
  refine AW.aload_n X dX12_init_53 (i := 0) rfl rfl ?_
  refine AW.bipushN X 48 dX12_init_54 rfl ?_
  refine AW.newI X dX12_init_56 (by decide) trivial (ZF.wR (ZF.wR (ZF.wR (ZF.wR (ZF.wR (ZF.wR (zf_zM _) (by omega)) (by omega)) (by omega)) (by omega)) (by omega)) (by omega)) (by decide +kernel) (N1 := 8) (c1 := 7) (s1 := 1362) rfl rfl rfl ⟨rfl, rfl⟩ ?_
  refine AW.putRF X dX12_init_58 fX12_29 rfl rfl rfl rfl (by decide) (dOB (by decide +kernel)) ?_
  refine AW.aload_n X dX12_init_61 (i := 0) rfl rfl ?_
  refine AW.bipushN X 48 dX12_init_62 rfl ?_
  refine AW.newI X dX12_init_64 (by decide) trivial (ZF.wR (ZF.wR (ZF.wR (ZF.wR (ZF.wR (ZF.wR (ZF.wR (zf_zM _) (by omega)) (by omega)) (by omega)) (by omega)) (by omega)) (by omega)) (by omega)) (by decide +kernel) (N1 := 9) (c1 := 8) (s1 := 1410) rfl rfl rfl ⟨rfl, rfl⟩ ?_
  refine AW.putRF X dX12_init_66 fX12_32 rfl rfl rfl rfl (by decide) (dOB (by decide +kernel)) ?_
  refine AW.aload_n X dX12_init_69 (i := 0) rfl rfl ?_
  refine AW.bipushN X 48 dX12_init_70 rfl ?_
  refine AW.newI X dX12_init_72 (by decide) trivial (ZF.wR (ZF.wR (ZF.wR (ZF.wR (ZF.wR (ZF.wR (ZF.wR (ZF.wR (zf_zM _) (by omega)) (by omega)) (by omega)) (by omega)) (by omega)) (by omega)) (by omega)) (by omega)) (by decide +kernel) (N1 := 10) (c1 := 9) (s1 := 1458) rfl rfl rfl ⟨rfl, rfl⟩ ?_
  refine AW.putRF X dX12_init_74 fX12_35 rfl rfl rfl rfl (by decide) (dOB (by decide +kernel)) ?_
  refine AW.aload_n X dX12_init_77 (i := 0) rfl rfl ?_
  refine AW.bipushN X 48 dX12_init_78 rfl ?_
  refine AW.newI X dX12_init_80 (by decide) trivial (ZF.wR (ZF.wR (ZF.wR (ZF.wR (ZF.wR (ZF.wR (ZF.wR (ZF.wR (ZF.wR (zf_zM _) (by omega)) (by omega)) (by omega)) (by omega)) (by omega)) (by omega)) (by omega)) (by omega)) (by omega)) (by decide +kernel) (N1 := 11) (c1 := 10) (s1 := 1506) rfl rfl rfl ⟨rfl, rfl⟩ ?_
  refine AW.putRF X dX12_init_82 fX12_38 rfl rfl rfl rfl (by decide) (dOB (by decide +kernel)) ?_
  refine AW.aload_n X dX12_init_85 (i := 0) rfl rfl ?_
  refine AW.bipushN X 48 dX12_init_86 rfl ?_
  refine AW.newI X dX12_init_88 (by decide) trivial (ZF.wR (ZF.wR (ZF.wR (ZF.wR (ZF.wR (ZF.wR (ZF.wR (ZF.wR (ZF.wR (ZF.wR (zf_zM _) (by omega)) (by omega)) (by omega)) (by omega)) (by omega)) (by omega)) (by omega)) (by omega)) (by omega)) (by omega)) (by decide +kernel) (N1 := 12) (c1 := 11) (s1 := 1554) rfl rfl rfl ⟨rfl, rfl⟩ ?_
  refine AW.putRF X dX12_init_90 fX12_41 rfl rfl rfl rfl (by decide) (dOB (by decide +kernel)) ?_
  refine AW.aload_n X dX12_init_93 (i := 0) rfl rfl ?_
  refine AW.bipushN X 72 dX12_init_94 rfl ?_
  refine AW.newI X dX12_init_96 (by decide) trivial (ZF.wR (ZF.wR (ZF.wR (ZF.wR (ZF.wR (ZF.wR (ZF.wR (ZF.wR (ZF.wR (ZF.wR (ZF.wR (zf_zM _) (by omega)) (by omega)) (by omega)) (by omega)) (by omega)) (by omega)) (by omega)) (by omega)) (by omega)) (by omega)) (by omega)) (by decide +kernel) (N1 := 13) (c1 := 12) (s1 := 1626) rfl rfl rfl ⟨rfl, rfl⟩ ?_
  refine AW.putRF X dX12_init_98 fX12_44 rfl rfl rfl rfl (by decide) (dOB (by decide +kernel)) ?_
  refine AW.aload_n X dX12_init_101 (i := 0) rfl rfl ?_
  refine AW.bipushN X 6 dX12_init_102 rfl ?_
  refine AW.newI X dX12_init_104 (by decide) trivial (ZF.wR (ZF.wR (ZF.wR (ZF.wR (ZF.wR (ZF.wR (ZF.wR (ZF.wR (ZF.wR (ZF.wR (ZF.wR (ZF.wR (zf_zM _) (by omega)) (by omega)) (by omega)) (by omega)) (by omega)) (by omega)) (by omega)) (by omega)) (by omega)) (by omega)) (by omega)) (by omega)) (by decide +kernel) (N1 := 14) (c1 := 13) (s1 := 1632) rfl rfl rfl ⟨rfl, rfl⟩ ?_
  refine AW.putRF X dX12_init_106 fX12_47 rfl rfl rfl rfl (by decide) (dOB (by decide +kernel)) ?_
  refine AW.aload_n X dX12_init_109 (i := 0) rfl rfl ?_
  refine AW.bipushN X 6 dX12_init_110 rfl ?_
  refine AW.newI X dX12_init_112 (by decide) trivial (ZF.wR (ZF.wR (ZF.wR (ZF.wR (ZF.wR (ZF.wR (ZF.wR (ZF.wR (ZF.wR (ZF.wR (ZF.wR (ZF.wR (ZF.wR (zf_zM _) (by omega)) (by omega)) (by omega)) (by omega)) (by omega)) (by omega)) (by omega)) (by omega)) (by omega)) (by omega)) (by omega)) (by omega)) (by omega)) (by decide +kernel) (N1 := 15) (c1 := 14) (s1 := 1638) rfl rfl rfl ⟨rfl, rfl⟩ ?_
  refine AW.putRF X dX12_init_114 fX12_50 rfl rfl rfl rfl (by decide) (dOB (by decide +kernel)) ?_
  refine AW.aload_n X dX12_init_117 (i := 0) rfl rfl ?_
  refine AW.bipushN X 8 dX12_init_118 rfl ?_
  refine AW.newI X dX12_init_120 (by decide) trivial (ZF.wR (ZF.wR (ZF.wR (ZF.wR (ZF.wR (ZF.wR (ZF.wR (ZF.wR (ZF.wR (ZF.wR (ZF.wR (ZF.wR (ZF.wR (ZF.wR (zf_zM _) (by omega)) (by omega)) (by omega)) (by omega)) (by omega)) (by omega)) (by omega)) (by omega)) (by omega)) (by omega)) (by omega)) (by omega)) (by omega)) (by omega)) (by decide +kernel) (N1 := 16) (c1 := 15) (s1 := 1646) rfl rfl rfl ⟨rfl, rfl⟩ ?_
  refine AW.putRF X dX12_init_122 fX12_53 rfl rfl rfl rfl (by decide) (dOB (by decide +kernel)) ?_
  refine AW.aload_n X dX12_init_125 (i := 0) rfl rfl ?_
  refine AW.bipushN X 20 dX12_init_126 rfl ?_
  refine AW.newI X dX12_init_128 (by decide) trivial (ZF.wR (ZF.wR (ZF.wR (ZF.wR (ZF.wR (ZF.wR (ZF.wR (ZF.wR (ZF.wR (ZF.wR (ZF.wR (ZF.wR (ZF.wR (ZF.wR (ZF.wR (zf_zM _) (by omega)) (by omega)) (by omega)) (by omega)) (by omega)) (by omega)) (by omega)) (by omega)) (by omega)) (by omega)) (by omega)) (by omega)) (by omega)) (by omega)) (by omega)) (by decide +kernel) (N1 := 17) (c1 := 16) (s1 := 1666) rfl rfl rfl ⟨rfl, rfl⟩ ?_
  refine AW.putRF X dX12_init_130 fX12_56 rfl rfl rfl rfl (by decide) (dOB (by decide +kernel)) ?_
  refine AW.aload_n X dX12_init_133 (i := 0) rfl rfl ?_
  refine AW.sipushN X 347 dX12_init_134 rfl ?_
  refine AW.newI X dX12_init_137 (by decide) trivial (ZF.wR (ZF.wR (ZF.wR (ZF.wR (ZF.wR (ZF.wR (ZF.wR (ZF.wR (ZF.wR (ZF.wR (ZF.wR (ZF.wR (ZF.wR (ZF.wR (ZF.wR (ZF.wR (zf_zM _) (by omega)) (by omega)) (by omega)) (by omega)) (by omega)) (by omega)) (by omega)) (by omega)) (by omega)) (by omega)) (by omega)) (by omega)) (by omega)) (by omega)) (by omega)) (by omega)) (by decide +kernel) (N1 := 18) (c1 := 17) (s1 := 2013) rfl rfl rfl ⟨rfl, rfl⟩ ?_
  refine AW.putRF X dX12_init_139 fX12_59 rfl rfl rfl rfl (by decide) (dOB (by decide +kernel)) ?_
  refine AW.aload_n X dX12_init_142 (i := 0) rfl rfl ?_
  refine AW.sipushN X 347 dX12_init_143 rfl ?_
  refine AW.newI X dX12_init_146 (by decide) trivial (ZF.wR (ZF.wR (ZF.wR (ZF.wR (ZF.wR (ZF.wR (ZF.wR (ZF.wR (ZF.wR (ZF.wR (ZF.wR (ZF.wR (ZF.wR (ZF.wR (ZF.wR (ZF.wR (ZF.wR (zf_zM _) (by omega)) (by omega)) (by omega)) (by omega)) (by omega)) (by omega)) (by omega)) (by omega)) (by omega)) (by omega)) (by omega)) (by omega)) (by omega)) (by omega)) (by omega)) (by omega)) (by omega)) (by decide +kernel) (N1 := 19) (c1 := 18) (s1 := 2360) rfl rfl rfl ⟨rfl, rfl⟩ ?_
  refine AW.putRF X dX12_init_148 fX12_62 rfl rfl rfl rfl (by decide) (dOB (by decide +kernel)) ?_
  refine AW.aload_n X dX12_init_151 (i := 0) rfl rfl ?_
  refine AW.iconstN X 5 dX12_init_152 rfl ?_
  refine AW.newI X dX12_init_153 (by decide) trivial (ZF.wR (ZF.wR (ZF.wR (ZF.wR (ZF.wR (ZF.wR (ZF.wR (ZF.wR (ZF.wR (ZF.wR (ZF.wR (ZF.wR (ZF.wR (ZF.wR (ZF.wR (ZF.wR (ZF.wR (ZF.wR (zf_zM _) (by omega)) (by omega)) (by omega)) (by omega)) (by omega)) (by omega)) (by omega)) (by omega)) (by omega)) (by omega)) (by omega)) (by omega)) (by omega)) (by omega)) (by omega)) (by omega)) (by omega)) (by omega)) (by decide +kernel) (N1 := 20) (c1 := 19) (s1 := 2365) rfl rfl rfl ⟨rfl, rfl⟩ ?_
  refine AW.putRF X dX12_init_155 fX12_65 rfl rfl rfl rfl (by decide) (dOB (by decide +kernel)) ?_
  refine AW.aload_n X dX12_init_158 (i := 0) rfl rfl ?_
  refine AW.bipushN X 8 dX12_init_159 rfl ?_
  refine AW.newI X dX12_init_161 (by decide) trivial (ZF.wR (ZF.wR (ZF.wR (ZF.wR (ZF.wR (ZF.wR (ZF.wR (ZF.wR (ZF.wR (ZF.wR (ZF.wR (ZF.wR (ZF.wR (ZF.wR (ZF.wR (ZF.wR (ZF.wR (ZF.wR (ZF.wR (zf_zM _) (by omega)) (by omega)) (by omega)) (by omega)) (by omega)) (by omega)) (by omega)) (by omega)) (by omega)) (by omega)) (by omega)) (by omega)) (by omega)) (by omega)) (by omega)) (by omega)) (by omega)) (by omega)) (by omega)) (by decide +kernel) (N1 := 21) (c1 := 20) (s1 := 2373) rfl rfl rfl ⟨rfl, rfl⟩ ?_
  refine AW.putRF X dX12_init_163 fX12_68 rfl rfl rfl rfl (by decide) (dOB (by decide +kernel)) ?_
  refine AW.aload_n X dX12_init_166 (i := 0) rfl rfl ?_
  refine AW.bipushN X 8 dX12_init_167 rfl ?_
  refine AW.newI X dX12_init_169 (by decide) trivial (ZF.wR (ZF.wR (ZF.wR (ZF.wR (ZF.wR (ZF.wR (ZF.wR (ZF.wR (ZF.wR (ZF.wR (ZF.wR (ZF.wR (ZF.wR (ZF.wR (ZF.wR (ZF.wR (ZF.wR (ZF.wR (ZF.wR (ZF.wR (zf_zM _) (by omega)) (by omega)) (by omega)) (by omega)) (by omega)) (by omega)) (by omega)) (by omega)) (by omega)) (by omega)) (by omega)) (by omega)) (by omega)) (by omega)) (by omega)) (by omega)) (by omega)) (by omega)) (by omega)) (by omega)) (by decide +kernel) (N1 := 22) (c1 := 21) (s1 := 2381) rfl rfl rfl ⟨rfl, rfl⟩ ?_
  refine AW.putRF X dX12_init_171 fX12_71 rfl rfl rfl rfl (by decide) (dOB (by decide +kernel)) ?_
  refine AW.iconstN X 0 dX12_init_174 rfl ?_
  refine AW.istore_n X dX12_init_175 (i := 1) rfl rfl ?_
  refine AW.iload_n X dX12_init_176 (i := 1) rfl rfl ?_
  refine AW.bipushN X 8 dX12_init_177 rfl ?_
  refine AW.icmp_geN X (tgt := 195) dX12_init_179 (by decide) (by decide) (by decide) (fun h179 => ?_) (fun h179 => ?_)
  · exact absurd h179 (by decide)
  refine AW.aload_n X dX12_init_182 (i := 0) rfl rfl ?_
  refine AW.getR X (r := 1) dX12_init_183 fX12_7 rfl (dOB (by decide +kernel)) ((wR_nk (by decide)).trans ((wR_nk (by decide)).trans ((wR_nk (by decide)).trans ((wR_nk (by decide)).trans ((wR_nk (by decide)).trans ((wR_nk (by decide)).trans ((wR_nk (by decide)).trans ((wR_nk (by decide)).trans ((wR_nk (by decide)).trans ((wR_nk (by decide)).trans ((wR_nk (by decide)).trans ((wR_nk (by decide)).trans ((wR_nk (by decide)).trans ((wR_nk (by decide)).trans ((wR_nk (by decide)).trans ((wR_nk (by decide)).trans ((wR_nk (by decide)).trans ((wR_nk (by decide)).trans ((wR_nk (by decide)).trans ((wR_nk (by decide)).trans wR_at)))))))))))))))))))) ?_
  refine AW.iload_n X dX12_init_186 (i := 1) rfl rfl ?_
  refine AW.iconst X (v := -1) dX12_init_187 rfl ?_
  refine AW.iastN X dX12_init_188 (by decide) (dAR (n := 8) (by decide +kernel)) (by decide) (by decide) ?_
  refine AW.iincN X (c := 1) dX12_init_189 rfl (inc_1 0) rfl ?_
  refine AW.goto X (tgt := 176) dX12_init_192 (by decide) ?_
  refine AW.iload_n X dX12_init_176 (i := 1) rfl rfl ?_
  refine AW.bipushN X 8 dX12_init_177 rfl ?_
  refine AW.icmp_geN X (tgt := 195) dX12_init_179 (by decide) (by decide) (by decide) (fun h179 => ?_) (fun h179 => ?_)
  · exact absurd h179 (by decide)
  refine AW.aload_n X dX12_init_182 (i := 0) rfl rfl ?_
  refine AW.getR X (r := 1) dX12_init_183 fX12_7 rfl (dOB (by decide +kernel)) ((wR_nk (by decide)).trans ((wR_nk (by decide)).trans ((wR_nk (by decide)).trans ((wR_nk (by decide)).trans ((wR_nk (by decide)).trans ((wR_nk (by decide)).trans ((wR_nk (by decide)).trans ((wR_nk (by decide)).trans ((wR_nk (by decide)).trans ((wR_nk (by decide)).trans ((wR_nk (by decide)).trans ((wR_nk (by decide)).trans ((wR_nk (by decide)).trans ((wR_nk (by decide)).trans ((wR_nk (by decide)).trans ((wR_nk (by decide)).trans ((wR_nk (by decide)).trans ((wR_nk (by decide)).trans ((wR_nk (by decide)).trans ((wR_nk (by decide)).trans wR_at)))))))))))))))))))) ?_
  refine AW.iload_n X dX12_init_186 (i := 1) rfl rfl ?_
  refine AW.iconst X (v := -1) dX12_init_187 rfl ?_
  refine AW.iastN X dX12_init_188 (by decide) (dAR (n := 8) (by decide +kernel)) (by decide) (by decide) ?_
  refine AW.iincN X (c := 2) dX12_init_189 rfl (inc_1 1) rfl ?_
  refine AW.goto X (tgt := 176) dX12_init_192 (by decide) ?_
  refine AW.iload_n X dX12_init_176 (i := 1) rfl rfl ?_
  refine AW.bipushN X 8 dX12_init_177 rfl ?_
  refine AW.icmp_geN X (tgt := 195) dX12_init_179 (by decide) (by decide) (by decide) (fun h179 => ?_) (fun h179 => ?_)
  · exact absurd h179 (by decide)
  refine AW.aload_n X dX12_init_182 (i := 0) rfl rfl ?_
  refine AW.getR X (r := 1) dX12_init_183 fX12_7 rfl (dOB (by decide +kernel)) ((wR_nk (by decide)).trans ((wR_nk (by decide)).trans ((wR_nk (by decide)).trans ((wR_nk (by decide)).trans ((wR_nk (by decide)).trans ((wR_nk (by decide)).trans ((wR_nk (by decide)).trans ((wR_nk (by decide)).trans ((wR_nk (by decide)).trans ((wR_nk (by decide)).trans ((wR_nk (by decide)).trans ((wR_nk (by decide)).trans ((wR_nk (by decide)).trans ((wR_nk (by decide)).trans ((wR_nk (by decide)).trans ((wR_nk (by decide)).trans ((wR_nk (by decide)).trans ((wR_nk (by decide)).trans ((wR_nk (by decide)).trans ((wR_nk (by decide)).trans wR_at)))))))))))))))))))) ?_
  refine AW.iload_n X dX12_init_186 (i := 1) rfl rfl ?_
  refine AW.iconst X (v := -1) dX12_init_187 rfl ?_
  refine AW.iastN X dX12_init_188 (by decide) (dAR (n := 8) (by decide +kernel)) (by decide) (by decide) ?_
  refine AW.iincN X (c := 3) dX12_init_189 rfl (inc_1 2) rfl ?_
  refine AW.goto X (tgt := 176) dX12_init_192 (by decide) ?_
  refine AW.iload_n X dX12_init_176 (i := 1) rfl rfl ?_
  refine AW.bipushN X 8 dX12_init_177 rfl ?_
  refine AW.icmp_geN X (tgt := 195) dX12_init_179 (by decide) (by decide) (by decide) (fun h179 => ?_) (fun h179 => ?_)
  · exact absurd h179 (by decide)
  refine AW.aload_n X dX12_init_182 (i := 0) rfl rfl ?_
  refine AW.getR X (r := 1) dX12_init_183 fX12_7 rfl (dOB (by decide +kernel)) ((wR_nk (by decide)).trans ((wR_nk (by decide)).trans ((wR_nk (by decide)).trans ((wR_nk (by decide)).trans ((wR_nk (by decide)).trans ((wR_nk (by decide)).trans ((wR_nk (by decide)).trans ((wR_nk (by decide)).trans ((wR_nk (by decide)).trans ((wR_nk (by decide)).trans ((wR_nk (by decide)).trans ((wR_nk (by decide)).trans ((wR_nk (by decide)).trans ((wR_nk (by decide)).trans ((wR_nk (by decide)).trans ((wR_nk (by decide)).trans ((wR_nk (by decide)).trans ((wR_nk (by decide)).trans ((wR_nk (by decide)).trans ((wR_nk (by decide)).trans wR_at)))))))))))))))))))) ?_
  refine AW.iload_n X dX12_init_186 (i := 1) rfl rfl ?_
  refine AW.iconst X (v := -1) dX12_init_187 rfl ?_
  refine AW.iastN X dX12_init_188 (by decide) (dAR (n := 8) (by decide +kernel)) (by decide) (by decide) ?_
  refine AW.iincN X (c := 4) dX12_init_189 rfl (inc_1 3) rfl ?_
  refine AW.goto X (tgt := 176) dX12_init_192 (by decide) ?_
  refine AW.iload_n X dX12_init_176 (i := 1) rfl rfl ?_
  refine AW.bipushN X 8 dX12_init_177 rfl ?_
  refine AW.icmp_geN X (tgt := 195) dX12_init_179 (by decide) (by decide) (by decide) (fun h179 => ?_) (fun h179 => ?_)
  · exact absurd h179 (by decide)
  refine AW.aload_n X dX12_init_182 (i := 0) rfl rfl ?_
  refine AW.getR X (r := 1) dX12_init_183 fX12_7 rfl (dOB (by decide +kernel)) ((wR_nk (by decide)).trans ((wR_nk (by decide)).trans ((wR_nk (by decide)).trans ((wR_nk (by decide)).trans ((wR_nk (by decide)).trans ((wR_nk (by decide)).trans ((wR_nk (by decide)).trans ((wR_nk (by decide)).trans ((wR_nk (by decide)).trans ((wR_nk (by decide)).trans ((wR_nk (by decide)).trans ((wR_nk (by decide)).trans ((wR_nk (by decide)).trans ((wR_nk (by decide)).trans ((wR_nk (by decide)).trans ((wR_nk (by decide)).trans ((wR_nk (by decide)).trans ((wR_nk (by decide)).trans ((wR_nk (by decide)).trans ((wR_nk (by decide)).trans wR_at)))))))))))))))))))) ?_
  refine AW.iload_n X dX12_init_186 (i := 1) rfl rfl ?_
  refine AW.iconst X (v := -1) dX12_init_187 rfl ?_
  refine AW.iastN X dX12_init_188 (by decide) (dAR (n := 8) (by decide +kernel)) (by decide) (by decide) ?_
  refine AW.iincN X (c := 5) dX12_init_189 rfl (inc_1 4) rfl ?_
  refine AW.goto X (tgt := 176) dX12_init_192 (by decide) ?_
  refine AW.iload_n X dX12_init_176 (i := 1) rfl rfl ?_
  refine AW.bipushN X 8 dX12_init_177 rfl ?_
  refine AW.icmp_geN X (tgt := 195) dX12_init_179 (by decide) (by decide) (by decide) (fun h179 => ?_) (fun h179 => ?_)
  · exact absurd h179 (by decide)
  refine AW.aload_n X dX12_init_182 (i := 0) rfl rfl ?_
  refine AW.getR X (r := 1) dX12_init_183 fX12_7 rfl (dOB (by decide +kernel)) ((wR_nk (by decide)).trans ((wR_nk (by decide)).trans ((wR_nk (by decide)).trans ((wR_nk (by decide)).trans ((wR_nk (by decide)).trans ((wR_nk (by decide)).trans ((wR_nk (by decide)).trans ((wR_nk (by decide)).trans ((wR_nk (by decide)).trans ((wR_nk (by decide)).trans ((wR_nk (by decide)).trans ((wR_nk (by decide)).trans ((wR_nk (by decide)).trans ((wR_nk (by decide)).trans ((wR_nk (by decide)).trans ((wR_nk (by decide)).trans ((wR_nk (by decide)).trans ((wR_nk (by decide)).trans ((wR_nk (by decide)).trans ((wR_nk (by decide)).trans wR_at)))))))))))))))))))) ?_
  refine AW.iload_n X dX12_init_186 (i := 1) rfl rfl ?_
  refine AW.iconst X (v := -1) dX12_init_187 rfl ?_
  refine AW.iastN X dX12_init_188 (by decide) (dAR (n := 8) (by decide +kernel)) (by decide) (by decide) ?_
  refine AW.iincN X (c := 6) dX12_init_189 rfl (inc_1 5) rfl ?_
  refine AW.goto X (tgt := 176) dX12_init_192 (by decide) ?_
  refine AW.iload_n X dX12_init_176 (i := 1) rfl rfl ?_
  refine AW.bipushN X 8 dX12_init_177 rfl ?_
  refine AW.icmp_geN X (tgt := 195) dX12_init_179 (by decide) (by decide) (by decide) (fun h179 => ?_) (fun h179 => ?_)
  · exact absurd h179 (by decide)
  refine AW.aload_n X dX12_init_182 (i := 0) rfl rfl ?_
  refine AW.getR X (r := 1) dX12_init_183 fX12_7 rfl (dOB (by decide +kernel)) ((wR_nk (by decide)).trans ((wR_nk (by decide)).trans ((wR_nk (by decide)).trans ((wR_nk (by decide)).trans ((wR_nk (by decide)).trans ((wR_nk (by decide)).trans ((wR_nk (by decide)).trans ((wR_nk (by decide)).trans ((wR_nk (by decide)).trans ((wR_nk (by decide)).trans ((wR_nk (by decide)).trans ((wR_nk (by decide)).trans ((wR_nk (by decide)).trans ((wR_nk (by decide)).trans ((wR_nk (by decide)).trans ((wR_nk (by decide)).trans ((wR_nk (by decide)).trans ((wR_nk (by decide)).trans ((wR_nk (by decide)).trans ((wR_nk (by decide)).trans wR_at)))))))))))))))))))) ?_
  refine AW.iload_n X dX12_init_186 (i := 1) rfl rfl ?_
  refine AW.iconst X (v := -1) dX12_init_187 rfl ?_
  refine AW.iastN X dX12_init_188 (by decide) (dAR (n := 8) (by decide +kernel)) (by decide) (by decide) ?_
  refine AW.iincN X (c := 7) dX12_init_189 rfl (inc_1 6) rfl ?_
  refine AW.goto X (tgt := 176) dX12_init_192 (by decide) ?_
  refine AW.iload_n X dX12_init_176 (i := 1) rfl rfl ?_
  refine AW.bipushN X 8 dX12_init_177 rfl ?_
  refine AW.icmp_geN X (tgt := 195) dX12_init_179 (by decide) (by decide) (by decide) (fun h179 => ?_) (fun h179 => ?_)
  · exact absurd h179 (by decide)
  refine AW.aload_n X dX12_init_182 (i := 0) rfl rfl ?_
  refine AW.getR X (r := 1) dX12_init_183 fX12_7 rfl (dOB (by decide +kernel)) ((wR_nk (by decide)).trans ((wR_nk (by decide)).trans ((wR_nk (by decide)).trans ((wR_nk (by decide)).trans ((wR_nk (by decide)).trans ((wR_nk (by decide)).trans ((wR_nk (by decide)).trans ((wR_nk (by decide)).trans ((wR_nk (by decide)).trans ((wR_nk (by decide)).trans ((wR_nk (by decide)).trans ((wR_nk (by decide)).trans ((wR_nk (by decide)).trans ((wR_nk (by decide)).trans ((wR_nk (by decide)).trans ((wR_nk (by decide)).trans ((wR_nk (by decide)).trans ((wR_nk (by decide)).trans ((wR_nk (by decide)).trans ((wR_nk (by decide)).trans wR_at)))))))))))))))))))) ?_
  refine AW.iload_n X dX12_init_186 (i := 1) rfl rfl ?_
  refine AW.iconst X (v := -1) dX12_init_187 rfl ?_
  refine AW.iastN X dX12_init_188 (by decide) (dAR (n := 8) (by decide +kernel)) (by decide) (by decide) ?_
  refine AW.iincN X (c := 8) dX12_init_189 rfl (inc_1 7) rfl ?_
  refine AW.goto X (tgt := 176) dX12_init_192 (by decide) ?_
  refine AW.iload_n X dX12_init_176 (i := 1) rfl rfl ?_
  refine AW.bipushN X 8 dX12_init_177 rfl ?_
  refine AW.icmp_geN X (tgt := 195) dX12_init_179 (by decide) (by decide) (by decide) (fun h179 => ?_) (fun h179 => ?_)
  rotate_left
  · exact absurd h179 (by decide)
  refine AW.iconstN X 0 dX12_init_195 rfl ?_
  refine AW.istore_n X dX12_init_196 (i := 1) rfl rfl ?_
  refine AW.iload_n X dX12_init_197 (i := 1) rfl rfl ?_
  refine AW.bipushN X 6 dX12_init_198 rfl ?_
  refine AW.icmp_geN X (tgt := 223) dX12_init_200 (by decide) (by decide) (by decide) (fun h200 => ?_) (fun h200 => ?_)
  · exact absurd h200 (by decide)
  refine AW.aload_n X dX12_init_203 (i := 0) rfl rfl ?_
  refine AW.getR X (r := 13) dX12_init_204 fX12_47 rfl (dOB (by decide +kernel)) ((wR_nk (by decide)).trans ((wR_nk (by decide)).trans ((wR_nk (by decide)).trans ((wR_nk (by decide)).trans ((wR_nk (by decide)).trans ((wR_nk (by decide)).trans ((wR_nk (by decide)).trans ((wR_nk (by decide)).trans wR_at)))))))) ?_
  refine AW.iload_n X dX12_init_207 (i := 1) rfl rfl ?_
  refine AW.iconstN X 3 dX12_init_208 rfl ?_
  refine AW.iastN X dX12_init_209 (by decide) (dAR (n := 6) (by decide +kernel)) (by decide) (by decide) ?_
  refine AW.aload_n X dX12_init_210 (i := 0) rfl rfl ?_
  refine AW.getR X (r := 14) dX12_init_211 fX12_50 rfl (dOB (by decide +kernel)) ((wR_nk (by decide)).trans ((wR_nk (by decide)).trans ((wR_nk (by decide)).trans ((wR_nk (by decide)).trans ((wR_nk (by decide)).trans ((wR_nk (by decide)).trans ((wR_nk (by decide)).trans wR_at))))))) ?_
  refine AW.iload_n X dX12_init_214 (i := 1) rfl rfl ?_
  refine AW.iconstN X 1 dX12_init_215 rfl ?_
  refine AW.iastN X dX12_init_216 (by decide) (dAR (n := 6) (by decide +kernel)) (by decide) (by decide) ?_
  refine AW.iincN X (c := 1) dX12_init_217 rfl (inc_1 0) rfl ?_
  refine AW.goto X (tgt := 197) dX12_init_220 (by decide) ?_
  refine AW.iload_n X dX12_init_197 (i := 1) rfl rfl ?_
  refine AW.bipushN X 6 dX12_init_198 rfl ?_
  refine AW.icmp_geN X (tgt := 223) dX12_init_200 (by decide) (by decide) (by decide) (fun h200 => ?_) (fun h200 => ?_)
  · exact absurd h200 (by decide)
  refine AW.aload_n X dX12_init_203 (i := 0) rfl rfl ?_
  refine AW.getR X (r := 13) dX12_init_204 fX12_47 rfl (dOB (by decide +kernel)) ((wR_nk (by decide)).trans ((wR_nk (by decide)).trans ((wR_nk (by decide)).trans ((wR_nk (by decide)).trans ((wR_nk (by decide)).trans ((wR_nk (by decide)).trans ((wR_nk (by decide)).trans ((wR_nk (by decide)).trans wR_at)))))))) ?_
  refine AW.iload_n X dX12_init_207 (i := 1) rfl rfl ?_
  refine AW.iconstN X 3 dX12_init_208 rfl ?_
  refine AW.iastN X dX12_init_209 (by decide) (dAR (n := 6) (by decide +kernel)) (by decide) (by decide) ?_
  refine AW.aload_n X dX12_init_210 (i := 0) rfl rfl ?_
  refine AW.getR X (r := 14) dX12_init_211 fX12_50 rfl (dOB (by decide +kernel)) ((wR_nk (by decide)).trans ((wR_nk (by decide)).trans ((wR_nk (by decide)).trans ((wR_nk (by decide)).trans ((wR_nk (by decide)).trans ((wR_nk (by decide)).trans ((wR_nk (by decide)).trans wR_at))))))) ?_
  refine AW.iload_n X dX12_init_214 (i := 1) rfl rfl ?_
  refine AW.iconstN X 1 dX12_init_215 rfl ?_
  refine AW.iastN X dX12_init_216 (by decide) (dAR (n := 6) (by decide +kernel)) (by decide) (by decide) ?_
  refine AW.iincN X (c := 2) dX12_init_217 rfl (inc_1 1) rfl ?_
  refine AW.goto X (tgt := 197) dX12_init_220 (by decide) ?_
  refine AW.iload_n X dX12_init_197 (i := 1) rfl rfl ?_
  refine AW.bipushN X 6 dX12_init_198 rfl ?_
  refine AW.icmp_geN X (tgt := 223) dX12_init_200 (by decide) (by decide) (by decide) (fun h200 => ?_) (fun h200 => ?_)
  · exact absurd h200 (by decide)
  refine AW.aload_n X dX12_init_203 (i := 0) rfl rfl ?_
  refine AW.getR X (r := 13) dX12_init_204 fX12_47 rfl (dOB (by decide +kernel)) ((wR_nk (by decide)).trans ((wR_nk (by decide)).trans ((wR_nk (by decide)).trans ((wR_nk (by decide)).trans ((wR_nk (by decide)).trans ((wR_nk (by decide)).trans ((wR_nk (by decide)).trans ((wR_nk (by decide)).trans wR_at)))))))) ?_
  refine AW.iload_n X dX12_init_207 (i := 1) rfl rfl ?_
  refine AW.iconstN X 3 dX12_init_208 rfl ?_
  refine AW.iastN X dX12_init_209 (by decide) (dAR (n := 6) (by decide +kernel)) (by decide) (by decide) ?_
  refine AW.aload_n X dX12_init_210 (i := 0) rfl rfl ?_
  refine AW.getR X (r := 14) dX12_init_211 fX12_50 rfl (dOB (by decide +kernel)) ((wR_nk (by decide)).trans ((wR_nk (by decide)).trans ((wR_nk (by decide)).trans ((wR_nk (by decide)).trans ((wR_nk (by decide)).trans ((wR_nk (by decide)).trans ((wR_nk (by decide)).trans wR_at))))))) ?_
  refine AW.iload_n X dX12_init_214 (i := 1) rfl rfl ?_
  refine AW.iconstN X 1 dX12_init_215 rfl ?_
  refine AW.iastN X dX12_init_216 (by decide) (dAR (n := 6) (by decide +kernel)) (by decide) (by decide) ?_
  refine AW.iincN X (c := 3) dX12_init_217 rfl (inc_1 2) rfl ?_
  refine AW.goto X (tgt := 197) dX12_init_220 (by decide) ?_
  refine AW.iload_n X dX12_init_197 (i := 1) rfl rfl ?_
  refine AW.bipushN X 6 dX12_init_198 rfl ?_
  refine AW.icmp_geN X (tgt := 223) dX12_init_200 (by decide) (by decide) (by decide) (fun h200 => ?_) (fun h200 => ?_)
  · exact absurd h200 (by decide)
  refine AW.aload_n X dX12_init_203 (i := 0) rfl rfl ?_
  refine AW.getR X (r := 13) dX12_init_204 fX12_47 rfl (dOB (by decide +kernel)) ((wR_nk (by decide)).trans ((wR_nk (by decide)).trans ((wR_nk (by decide)).trans ((wR_nk (by decide)).trans ((wR_nk (by decide)).trans ((wR_nk (by decide)).trans ((wR_nk (by decide)).trans ((wR_nk (by decide)).trans wR_at)))))))) ?_
  refine AW.iload_n X dX12_init_207 (i := 1) rfl rfl ?_
  refine AW.iconstN X 3 dX12_init_208 rfl ?_
  refine AW.iastN X dX12_init_209 (by decide) (dAR (n := 6) (by decide +kernel)) (by decide) (by decide) ?_
  refine AW.aload_n X dX12_init_210 (i := 0) rfl rfl ?_
  refine AW.getR X (r := 14) dX12_init_211 fX12_50 rfl (dOB (by decide +kernel)) ((wR_nk (by decide)).trans ((wR_nk (by decide)).trans ((wR_nk (by decide)).trans ((wR_nk (by decide)).trans ((wR_nk (by decide)).trans ((wR_nk (by decide)).trans ((wR_nk (by decide)).trans wR_at))))))) ?_
  refine AW.iload_n X dX12_init_214 (i := 1) rfl rfl ?_
  refine AW.iconstN X 1 dX12_init_215 rfl ?_
  refine AW.iastN X dX12_init_216 (by decide) (dAR (n := 6) (by decide +kernel)) (by decide) (by decide) ?_
  refine AW.iincN X (c := 4) dX12_init_217 rfl (inc_1 3) rfl ?_
  refine AW.goto X (tgt := 197) dX12_init_220 (by decide) ?_
  refine AW.iload_n X dX12_init_197 (i := 1) rfl rfl ?_
  refine AW.bipushN X 6 dX12_init_198 rfl ?_
  refine AW.icmp_geN X (tgt := 223) dX12_init_200 (by decide) (by decide) (by decide) (fun h200 => ?_) (fun h200 => ?_)
  · exact absurd h200 (by decide)
  refine AW.aload_n X dX12_init_203 (i := 0) rfl rfl ?_
  refine AW.getR X (r := 13) dX12_init_204 fX12_47 rfl (dOB (by decide +kernel)) ((wR_nk (by decide)).trans ((wR_nk (by decide)).trans ((wR_nk (by decide)).trans ((wR_nk (by decide)).trans ((wR_nk (by decide)).trans ((wR_nk (by decide)).trans ((wR_nk (by decide)).trans ((wR_nk (by decide)).trans wR_at)))))))) ?_
  refine AW.iload_n X dX12_init_207 (i := 1) rfl rfl ?_
  refine AW.iconstN X 3 dX12_init_208 rfl ?_
  refine AW.iastN X dX12_init_209 (by decide) (dAR (n := 6) (by decide +kernel)) (by decide) (by decide) ?_
  refine AW.aload_n X dX12_init_210 (i := 0) rfl rfl ?_
  refine AW.getR X (r := 14) dX12_init_211 fX12_50 rfl (dOB (by decide +kernel)) ((wR_nk (by decide)).trans ((wR_nk (by decide)).trans ((wR_nk (by decide)).trans ((wR_nk (by decide)).trans ((wR_nk (by decide)).trans ((wR_nk (by decide)).trans ((wR_nk (by decide)).trans wR_at))))))) ?_
  refine AW.iload_n X dX12_init_214 (i := 1) rfl rfl ?_
  refine AW.iconstN X 1 dX12_init_215 rfl ?_
  refine AW.iastN X dX12_init_216 (by decide) (dAR (n := 6) (by decide +kernel)) (by decide) (by decide) ?_
  refine AW.iincN X (c := 5) dX12_init_217 rfl (inc_1 4) rfl ?_
  refine AW.goto X (tgt := 197) dX12_init_220 (by decide) ?_
  refine AW.iload_n X dX12_init_197 (i := 1) rfl rfl ?_
  refine AW.bipushN X 6 dX12_init_198 rfl ?_
  refine AW.icmp_geN X (tgt := 223) dX12_init_200 (by decide) (by decide) (by decide) (fun h200 => ?_) (fun h200 => ?_)
  · exact absurd h200 (by decide)
  refine AW.aload_n X dX12_init_203 (i := 0) rfl rfl ?_
  refine AW.getR X (r := 13) dX12_init_204 fX12_47 rfl (dOB (by decide +kernel)) ((wR_nk (by decide)).trans ((wR_nk (by decide)).trans ((wR_nk (by decide)).trans ((wR_nk (by decide)).trans ((wR_nk (by decide)).trans ((wR_nk (by decide)).trans ((wR_nk (by decide)).trans ((wR_nk (by decide)).trans wR_at)))))))) ?_
  refine AW.iload_n X dX12_init_207 (i := 1) rfl rfl ?_
  refine AW.iconstN X 3 dX12_init_208 rfl ?_
  refine AW.iastN X dX12_init_209 (by decide) (dAR (n := 6) (by decide +kernel)) (by decide) (by decide) ?_
  refine AW.aload_n X dX12_init_210 (i := 0) rfl rfl ?_
  refine AW.getR X (r := 14) dX12_init_211 fX12_50 rfl (dOB (by decide +kernel)) ((wR_nk (by decide)).trans ((wR_nk (by decide)).trans ((wR_nk (by decide)).trans ((wR_nk (by decide)).trans ((wR_nk (by decide)).trans ((wR_nk (by decide)).trans ((wR_nk (by decide)).trans wR_at))))))) ?_
  refine AW.iload_n X dX12_init_214 (i := 1) rfl rfl ?_
  refine AW.iconstN X 1 dX12_init_215 rfl ?_
  refine AW.iastN X dX12_init_216 (by decide) (dAR (n := 6) (by decide +kernel)) (by decide) (by decide) ?_
  refine AW.iincN X (c := 6) dX12_init_217 rfl (inc_1 5) rfl ?_
  refine AW.goto X (tgt := 197) dX12_init_220 (by decide) ?_
  refine AW.iload_n X dX12_init_197 (i := 1) rfl rfl ?_
  refine AW.bipushN X 6 dX12_init_198 rfl ?_
  refine AW.icmp_geN X (tgt := 223) dX12_init_200 (by decide) (by decide) (by decide) (fun h200 => ?_) (fun h200 => ?_)
  rotate_left
  · exact absurd h200 (by decide)
  refine AW.aload_n X dX12_init_223 (i := 0) rfl rfl ?_
  refine AW.sipushN X 300 dX12_init_224 rfl ?_
  refine AW.putI X dX12_init_227 fX12_74 rfl rfl ⟨rfl, rfl⟩ (by decide) (dOB (by decide +kernel)) ?_
  refine AW.aload_n X dX12_init_230 (i := 0) rfl rfl ?_
  refine AW.bipushN X 40 dX12_init_231 rfl ?_
  refine AW.putI X dX12_init_233 fX12_78 rfl rfl ⟨rfl, rfl⟩ (by decide) (dOB (by decide +kernel)) ?_
  refine AW.aload_n X dX12_init_236 (i := 0) rfl rfl ?_
  refine AW.iconstN X 1 dX12_init_237 rfl ?_
  refine AW.putI X dX12_init_238 fX12_81 rfl rfl ⟨rfl, rfl⟩ (by decide) (dOB (by decide +kernel)) ?_
  refine AW.aload_n X dX12_init_241 (i := 0) rfl rfl ?_
  refine AW.iconst X (v := -1) dX12_init_242 rfl ?_
  refine AW.putI X dX12_init_243 fX12_84 rfl rfl ⟨rfl, rfl⟩ (by decide) (dOB (by decide +kernel)) ?_
  exact AW.vret X hQ dX12_init_246 ⟨rfl, rfl⟩
