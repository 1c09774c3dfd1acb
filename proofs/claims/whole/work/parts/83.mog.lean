set_option maxRecDepth 100000 in
set_option maxHeartbeats 4000000 in
theorem c_X12_paint {l : Launch} {δ : Dl} {b : Nat} {μ : Mm} {S : St} (hR : RMX μ S) {x : Int32} {y : Int32} {z : Int32} : MCM l δ b yX12_paint cX12_paint 10 (some .int) 3 [.ref (b + 0), .int x, .int y, .int z] μ (pI fun r μ' => r = (S_paint S x y z).1 ∧ RMX μ' (S_paint S x y z).2) := by
  have hT := rm_t hR
  have W := rm_w hR
  have bn := ti_n hT.1
  refine MC.intro ([some (.ref (b + 0)), some (.int x), some (.int y), some (.int z), none, none, none, none, none, none]) (by decide) rfl rfl fun κ Qc hl hQ X => ?_
  subst hl
  refine AW.aload_n X dX12_paint_0 (i := 0) rfl rfl ?_
  refine AW.iload_n X dX12_paint_1 (i := 1) rfl rfl ?_
  refine AW.callV X dX12_paint_2 lX12_94 cfX12 (c_X12_isHouse W hT) om0 rfl rfl rfl rfl ⟨rfl, rfl⟩ (pR_k ?_)
  refine AW.if_neB X (tgt := 14) dX12_paint_5 (by decide) (fun h5 => ?_) (fun h5 => ?_)
  · obtain ⟨h, hh, eh⟩ := inr_of (x := x) (m := (S.1 6 0 0)) (by omega) h5
    subst eh
    have ch := cl_n (show h < 2147483648 by omega)
    have hIh := tm_hi hT hh
    have bnh := hi_n hIh
    have bah := hi_a hIh
    refine AW.iload_n X dX12_paint_14 (i := 2) rfl rfl ?_
    refine AW.callS X dX12_paint_15 lX12_142 (c_X12_isCell) rfl rfl rfl rfl ⟨rfl, rfl⟩ (pR_k ?_)
    refine AW.if_eqB X (tgt := 28) dX12_paint_18 (by decide) (fun h18 => ?_) (fun h18 => ?_)
    · refine AW.aload_n X dX12_paint_28 (i := 0) rfl rfl ?_
      refine AW.bipush X (v := -6) dX12_paint_29 rfl ?_
      refine AW.callV X dX12_paint_31 lX12_237 cfX12 (c_X12_no10 (k := 6) hR (by decide) (by decide)) om0 rfl rfl rfl rfl ⟨rfl, rfl⟩ (pI_k fun r μ1 hr => ?_)
      refine AW.iret X hQ dX12_paint_34 ⟨_, rfl, ?_⟩
      refine rm_of ?_ hr
      simp [S_paint, *]
    · obtain ⟨g, hg, eg⟩ := inr_of (x := y) (m := 12) (by omega) h18
      subst eg
      have cg := cl_n (show g < 2147483648 by omega)
      refine AW.iload_n X dX12_paint_21 (i := 3) rfl rfl ?_
      refine AW.callS X dX12_paint_22 lX12_240 (c_X12_isWeather) rfl rfl rfl rfl ⟨rfl, rfl⟩ (pR_k ?_)
      refine AW.if_neB X (tgt := 35) dX12_paint_25 (by decide) (fun h25 => ?_) (fun h25 => ?_)
      · obtain ⟨d, hd, ed⟩ := inr_of (x := z) (m := 100) (by omega) h25
        subst ed
        have cd := cl_n (show d < 2147483648 by omega)
        refine AW.aload_n X dX12_paint_35 (i := 0) rfl rfl ?_
        refine AW.getR X dX12_paint_36 fX12_26 rfl om0 (wm_at W 5 rfl) ?_
        refine AW.iload_n X dX12_paint_39 (i := 1) rfl rfl ?_
        refine AW.iaload X dX12_paint_40 (am_at 5 rfl) (n2_in (by omega) (by decide)) (v := (nI (S.1 h 0 2))) (by rw [n2_clamp (by omega)]; exact tm_n hT (by omega)) ?_
        refine AW.bipushN X 8 dX12_paint_41 rfl ?_
        refine AW.icmp_neN X (tgt := 53) dX12_paint_43 (by decide) (by omega) (by omega) (fun h43 => ?_) (fun h43 => ?_)
        · have g61 : ¬ 8 ≤ S.1 h 0 2 := by omega
          refine AW.iconstN X 0 dX12_paint_53 rfl ?_
          refine AW.istore X dX12_paint_54 rfl ?_
          refine AW.iconstN X 0 dX12_paint_56 rfl ?_
          refine AW.istore X dX12_paint_57 rfl ?_
          have L59 : ∀ (m59 ix : Nat), 12 - ix < m59 → ix ≤ 12 → AW κ (δ, b, NM, 10, shM, False, Qc, 0, 0) NM 0 0 59 [some (.ref (b + 0)), some (.int (nI h)), some (.int (nI g)), some (.int (nI d)), some (.int (nI (wetTo (S.1 h) g d ix))), some (.int (nI ix)), none, none, none, none] [] μ := by
            intro m59
            induction m59 with
            | zero => intro ix hm; exact absurd hm (Nat.not_lt_zero _)
            | succ m59 ih59 =>
              intro ix hm59 hi59 
              refine AW.iload X dX12_paint_59 rfl ?_
              refine AW.bipushN X 12 dX12_paint_61 rfl ?_
              refine AW.icmp_geN X (tgt := 93) dX12_paint_63 (by decide) (by omega) (by omega) (fun h63 => ?_) (fun h63 => ?_)
              · obtain rfl : 12 = ix := by omega
                have n63 := Nat.not_lt_of_le h63
                have bw := wetTo_le hIh g hd 12
                refine AW.iconst X (v := -1) dX12_paint_93 rfl ?_
                refine AW.istore X dX12_paint_94 rfl ?_
                refine AW.iconstN X 0 dX12_paint_96 rfl ?_
                refine AW.istore X dX12_paint_97 rfl ?_
                refine AW.iconstN X 0 dX12_paint_99 rfl ?_
                refine AW.istore X dX12_paint_100 rfl ?_
                have L102 : ∀ (m102 ix : Nat), 6 - ix < m102 → ix ≤ 6 → AW κ (δ, b, NM, 10, shM, False, Qc, 0, 0) NM 0 0 102 [some (.ref (b + 0)), some (.int (nI h)), some (.int (nI g)), some (.int (nI d)), some (.int (nI (wetTo (S.1 h) g d 12))), some (.int (oI (Option.map Prod.fst (chC (S.1 6 1) (S.1 6 2) (S.1 h) (wetTo (S.1 h) g d 12) ix)))), some (.int (nI (oL (chC (S.1 6 1) (S.1 6 2) (S.1 h) (wetTo (S.1 h) g d 12) ix)))), some (.int (nI ix)), none, none] [] μ := by
                  intro m102
                  induction m102 with
                  | zero => intro ix hm; exact absurd hm (Nat.not_lt_zero _)
                  | succ m102 ih102 =>
                    intro ix hm102 hi102 
                    refine AW.iload X dX12_paint_102 rfl ?_
                    refine AW.bipushN X 6 dX12_paint_104 rfl ?_
                    refine AW.icmp_geN X (tgt := 221) dX12_paint_106 (by decide) (by omega) (by omega) (fun h106 => ?_) (fun h106 => ?_)
                    · obtain rfl : 6 = ix := by omega
                      have n106 := Nat.not_lt_of_le h106
                      refine AW.iload X dX12_paint_221 rfl ?_
                      refine AW.iret X hQ dX12_paint_223 ⟨_, rfl, ?_⟩
                      refine rm_val ?_ hR
                      simp [S_paint, *]
                    · have n106 := Nat.not_le_of_lt h106
                      refine AW.iconstN X 1 dX12_paint_109 rfl ?_
                      refine AW.istore X dX12_paint_110 rfl ?_
                      have L112 : ∀ (m112 jx : Nat), 9 - jx < m112 → jx ≤ 9 → AW κ (δ, b, NM, 10, shM, False, Qc, 0, 0) NM 0 0 112 [some (.ref (b + 0)), some (.int (nI h)), some (.int (nI g)), some (.int (nI d)), some (.int (nI (wetTo (S.1 h) g d 12))), some (.int (oI (Option.map Prod.fst (chT (S.1 6 1) (S.1 6 2) (S.1 h) (wetTo (S.1 h) g d 12) ix (chC (S.1 6 1) (S.1 6 2) (S.1 h) (wetTo (S.1 h) g d 12) ix) jx)))), some (.int (nI (oL (chT (S.1 6 1) (S.1 6 2) (S.1 h) (wetTo (S.1 h) g d 12) ix (chC (S.1 6 1) (S.1 6 2) (S.1 h) (wetTo (S.1 h) g d 12) ix) jx)))), some (.int (nI ix)), some (.int (nI (jx + 1))), none] [] μ := by
                        intro m112
                        induction m112 with
                        | zero => intro jx hm; exact absurd hm (Nat.not_lt_zero _)
                        | succ m112 ih112 =>
                          intro jx hm112 hi112 
                          rcases hz : (chT (S.1 6 1) (S.1 6 2) (S.1 h) (wetTo (S.1 h) g d 12) ix (chC (S.1 6 1) (S.1 6 2) (S.1 h) (wetTo (S.1 h) g d 12) ix) jx) with _ | ⟨p9, q9⟩
                          · show AW κ (δ, b, NM, 10, shM, False, Qc, 0, 0) NM 0 0 112 [some (.ref (b + 0)), some (.int (nI h)), some (.int (nI g)), some (.int (nI d)), some (.int (nI (wetTo (S.1 h) g d 12))), some (.int (-1)), some (.int (nI 0)), some (.int (nI ix)), some (.int (nI (jx + 1))), none] [] μ
                            refine AW.iload X dX12_paint_112 rfl ?_
                            refine AW.bipushN X 10 dX12_paint_114 rfl ?_
                            refine AW.icmp_geN X (tgt := 215) dX12_paint_116 (by decide) (by omega) (by omega) (fun h116 => ?_) (fun h116 => ?_)
                            · obtain rfl : 9 = jx := by omega
                              have n116 := Nat.not_lt_of_le h116
                              refine AW.iincN X (c := (ix + 1)) dX12_paint_215 rfl (inc_1 _) rfl ?_
                              refine AW.goto X (tgt := 102) dX12_paint_218 (by decide) ?_
                              refine AW.cgw (ih102 (ix + 1) (by omega) (by omega)) ⟨rfl, rfl, rfl, rfl, rfl, ?_, ?_, rfl, trivial⟩
                              · simp [chC, hz, oI, oL]
                              · simp [chC, hz, oI, oL]
                            · have n116 := Nat.not_le_of_lt h116
                              have bh := ti_hid hT.1 h106
                              have bkd := hi_k hIh
                              have bm := Nat.mul_le_mul (ti_cos hT.1 h106) (show jx + 1 ≤ 9 by omega)
                              have bk := Nat.mul_le_mul bh (show jx + 1 ≤ 9 by omega)
                              have bk1 := Nat.mul_le_mul (show S.1 6 1 ix - 1 ≤ 9 by omega) (show jx + 1 ≤ 9 by omega)
                              refine AW.aload_n X dX12_paint_119 (i := 0) rfl rfl ?_
                              refine AW.getR X dX12_paint_120 fX12_20 rfl om0 (wm_at W 3 rfl) ?_
                              refine AW.iload_n X dX12_paint_123 (i := 1) rfl rfl ?_
                              refine AW.iaload X dX12_paint_124 (am_at 3 rfl) (n2_in (by omega) (by decide)) (v := (nI (S.1 h 0 0))) (by rw [n2_clamp (by omega)]; exact tm_k hT (by omega)) ?_
                              refine AW.iconstN X 4 dX12_paint_125 rfl ?_
                              refine AW.icmp_neN X (tgt := 145) dX12_paint_126 (by decide) (by omega) (by omega) (fun h126 => ?_) (fun h126 => ?_)
                              · refine AW.aload_n X dX12_paint_145 (i := 0) rfl rfl ?_
                                refine AW.getR X dX12_paint_146 fX12_47 rfl om0 (wm_at W 12 rfl) ?_
                                refine AW.iload X dX12_paint_149 rfl ?_
                                refine AW.iaload X dX12_paint_151 (am_at 12 rfl) (n2_in (by omega) (by decide)) (v := (nI (S.1 6 1 ix))) (by rw [n2_clamp (by omega)]; exact tm_hid hT (by omega)) ?_
                                refine AW.istore X dX12_paint_152 rfl ?_
                                refine AW.iload X dX12_paint_154 rfl ?_
                                refine AW.iload X dX12_paint_156 rfl ?_
                                refine AW.imulN X dX12_paint_158 ?_
                                refine AW.iload X dX12_paint_159 rfl ?_
                                refine AW.icmp_ltN X (tgt := 209) dX12_paint_161 (by decide) (by omega) (by omega) (fun h161 => ?_) (fun h161 => ?_)
                                · have n161 := Nat.not_le_of_lt h161
                                  refine AW.iincN X (c := ((jx + 1) + 1)) dX12_paint_209 rfl (inc_1 _) rfl ?_
                                  refine AW.goto X (tgt := 112) dX12_paint_212 (by decide) ?_
                                  refine AW.cgw (ih112 (jx + 1) (by omega) (by omega)) ⟨rfl, rfl, rfl, rfl, rfl, ?_, ?_, rfl, rfl, trivial⟩
                                  · simp [chT, counted, oI, oL, under1_n, under1_s, *]
                                  · simp [chT, counted, oI, oL, under1_n, under1_s, *]
                                · have n161 := Nat.not_lt_of_le h161
                                  refine AW.iload X dX12_paint_164 rfl ?_
                                  refine AW.if_lt X (tgt := 187) dX12_paint_166 (by decide) (fun h166 => ?_) (fun h166 => ?_)
                                  · refine AW.bipushN X 10 dX12_paint_187 rfl ?_
                                    refine AW.iload X dX12_paint_189 rfl ?_
                                    refine AW.imulN X dX12_paint_191 ?_
                                    refine AW.iload X dX12_paint_192 rfl ?_
                                    refine AW.iaddN X dX12_paint_194 ?_
                                    refine AW.istore X dX12_paint_195 rfl ?_
                                    refine AW.aload_n X dX12_paint_197 (i := 0) rfl rfl ?_
                                    refine AW.getR X dX12_paint_198 fX12_50 rfl om0 (wm_at W 13 rfl) ?_
                                    refine AW.iload X dX12_paint_201 rfl ?_
                                    refine AW.iaload X dX12_paint_203 (am_at 13 rfl) (n2_in (by omega) (by decide)) (v := (nI (S.1 6 2 ix))) (by rw [n2_clamp (by omega)]; exact tm_cos hT (by omega)) ?_
                                    refine AW.iload X dX12_paint_204 rfl ?_
                                    refine AW.imulN X dX12_paint_206 ?_
                                    refine AW.istore X dX12_paint_207 rfl ?_
                                    refine AW.iincN X (c := ((jx + 1) + 1)) dX12_paint_209 rfl (inc_1 _) rfl ?_
                                    refine AW.goto X (tgt := 112) dX12_paint_212 (by decide) ?_
                                    refine AW.cgw (ih112 (jx + 1) (by omega) (by omega)) ⟨rfl, rfl, rfl, rfl, rfl, ?_, ?_, rfl, rfl, trivial⟩
                                    · simp [chT, counted, oI, oL, under1_n, under1_s, *]
                                    · simp [chT, counted, oI, oL, under1_n, under1_s, *]
                                  · exact absurd (by decide) h166
                              · refine AW.iconstN X 0 dX12_paint_129 rfl ?_
                                refine AW.aload_n X dX12_paint_130 (i := 0) rfl rfl ?_
                                refine AW.getR X dX12_paint_131 fX12_47 rfl om0 (wm_at W 12 rfl) ?_
                                refine AW.iload X dX12_paint_134 rfl ?_
                                refine AW.iaload X dX12_paint_136 (am_at 12 rfl) (n2_in (by omega) (by decide)) (v := (nI (S.1 6 1 ix))) (by rw [n2_clamp (by omega)]; exact tm_hid hT (by omega)) ?_
                                refine AW.iconstN X 1 dX12_paint_137 rfl ?_
                                refine AW.isub X dX12_paint_138 ?_
                                refine AW.maxD X dX12_paint_139 (by omega) (by omega) lX12_max ⟨rfl, rfl, rfl, rfl⟩ ?_
                                refine AW.goto X (tgt := 152) dX12_paint_142 (by decide) ?_
                                refine AW.istore X dX12_paint_152 rfl ?_
                                refine AW.iload X dX12_paint_154 rfl ?_
                                refine AW.iload X dX12_paint_156 rfl ?_
                                refine AW.imulN X dX12_paint_158 ?_
                                refine AW.iload X dX12_paint_159 rfl ?_
                                refine AW.icmp_ltN X (tgt := 209) dX12_paint_161 (by decide) (by omega) (by omega) (fun h161 => ?_) (fun h161 => ?_)
                                · have n161 := Nat.not_le_of_lt h161
                                  refine AW.iincN X (c := ((jx + 1) + 1)) dX12_paint_209 rfl (inc_1 _) rfl ?_
                                  refine AW.goto X (tgt := 112) dX12_paint_212 (by decide) ?_
                                  refine AW.cgw (ih112 (jx + 1) (by omega) (by omega)) ⟨rfl, rfl, rfl, rfl, rfl, ?_, ?_, rfl, rfl, trivial⟩
                                  · simp [chT, counted, oI, oL, under1_n, under1_s, *]
                                  · simp [chT, counted, oI, oL, under1_n, under1_s, *]
                                · have n161 := Nat.not_lt_of_le h161
                                  refine AW.iload X dX12_paint_164 rfl ?_
                                  refine AW.if_lt X (tgt := 187) dX12_paint_166 (by decide) (fun h166 => ?_) (fun h166 => ?_)
                                  · refine AW.bipushN X 10 dX12_paint_187 rfl ?_
                                    refine AW.iload X dX12_paint_189 rfl ?_
                                    refine AW.imulN X dX12_paint_191 ?_
                                    refine AW.iload X dX12_paint_192 rfl ?_
                                    refine AW.iaddN X dX12_paint_194 ?_
                                    refine AW.istore X dX12_paint_195 rfl ?_
                                    refine AW.aload_n X dX12_paint_197 (i := 0) rfl rfl ?_
                                    refine AW.getR X dX12_paint_198 fX12_50 rfl om0 (wm_at W 13 rfl) ?_
                                    refine AW.iload X dX12_paint_201 rfl ?_
                                    refine AW.iaload X dX12_paint_203 (am_at 13 rfl) (n2_in (by omega) (by decide)) (v := (nI (S.1 6 2 ix))) (by rw [n2_clamp (by omega)]; exact tm_cos hT (by omega)) ?_
                                    refine AW.iload X dX12_paint_204 rfl ?_
                                    refine AW.imulN X dX12_paint_206 ?_
                                    refine AW.istore X dX12_paint_207 rfl ?_
                                    refine AW.iincN X (c := ((jx + 1) + 1)) dX12_paint_209 rfl (inc_1 _) rfl ?_
                                    refine AW.goto X (tgt := 112) dX12_paint_212 (by decide) ?_
                                    refine AW.cgw (ih112 (jx + 1) (by omega) (by omega)) ⟨rfl, rfl, rfl, rfl, rfl, ?_, ?_, rfl, rfl, trivial⟩
                                    · simp [chT, counted, oI, oL, under1_n, under1_s, *]
                                    · simp [chT, counted, oI, oL, under1_n, under1_s, *]
                                  · exact absurd (by decide) h166
                          · show AW κ (δ, b, NM, 10, shM, False, Qc, 0, 0) NM 0 0 112 [some (.ref (b + 0)), some (.int (nI h)), some (.int (nI g)), some (.int (nI d)), some (.int (nI (wetTo (S.1 h) g d 12))), some (.int (nI p9)), some (.int (nI q9)), some (.int (nI ix)), some (.int (nI (jx + 1))), none] [] μ
                            have bz := chT_le h106 (ti_cos hT.1 h106) (fun p q h2 => chC_le (fun c hc => ti_cos hT.1 hc) (by omega) h2) (by omega) hz
                            refine AW.iload X dX12_paint_112 rfl ?_
                            refine AW.bipushN X 10 dX12_paint_114 rfl ?_
                            refine AW.icmp_geN X (tgt := 215) dX12_paint_116 (by decide) (by omega) (by omega) (fun h116 => ?_) (fun h116 => ?_)
                            · obtain rfl : 9 = jx := by omega
                              have n116 := Nat.not_lt_of_le h116
                              refine AW.iincN X (c := (ix + 1)) dX12_paint_215 rfl (inc_1 _) rfl ?_
                              refine AW.goto X (tgt := 102) dX12_paint_218 (by decide) ?_
                              refine AW.cgw (ih102 (ix + 1) (by omega) (by omega)) ⟨rfl, rfl, rfl, rfl, rfl, ?_, ?_, rfl, trivial⟩
                              · simp [chC, hz, oI, oL]
                              · simp [chC, hz, oI, oL]
                            · have n116 := Nat.not_le_of_lt h116
                              have bh := ti_hid hT.1 h106
                              have bkd := hi_k hIh
                              have bm := Nat.mul_le_mul (ti_cos hT.1 h106) (show jx + 1 ≤ 9 by omega)
                              have bk := Nat.mul_le_mul bh (show jx + 1 ≤ 9 by omega)
                              have bk1 := Nat.mul_le_mul (show S.1 6 1 ix - 1 ≤ 9 by omega) (show jx + 1 ≤ 9 by omega)
                              refine AW.aload_n X dX12_paint_119 (i := 0) rfl rfl ?_
                              refine AW.getR X dX12_paint_120 fX12_20 rfl om0 (wm_at W 3 rfl) ?_
                              refine AW.iload_n X dX12_paint_123 (i := 1) rfl rfl ?_
                              refine AW.iaload X dX12_paint_124 (am_at 3 rfl) (n2_in (by omega) (by decide)) (v := (nI (S.1 h 0 0))) (by rw [n2_clamp (by omega)]; exact tm_k hT (by omega)) ?_
                              refine AW.iconstN X 4 dX12_paint_125 rfl ?_
                              refine AW.icmp_neN X (tgt := 145) dX12_paint_126 (by decide) (by omega) (by omega) (fun h126 => ?_) (fun h126 => ?_)
                              · refine AW.aload_n X dX12_paint_145 (i := 0) rfl rfl ?_
                                refine AW.getR X dX12_paint_146 fX12_47 rfl om0 (wm_at W 12 rfl) ?_
                                refine AW.iload X dX12_paint_149 rfl ?_
                                refine AW.iaload X dX12_paint_151 (am_at 12 rfl) (n2_in (by omega) (by decide)) (v := (nI (S.1 6 1 ix))) (by rw [n2_clamp (by omega)]; exact tm_hid hT (by omega)) ?_
                                refine AW.istore X dX12_paint_152 rfl ?_
                                refine AW.iload X dX12_paint_154 rfl ?_
                                refine AW.iload X dX12_paint_156 rfl ?_
                                refine AW.imulN X dX12_paint_158 ?_
                                refine AW.iload X dX12_paint_159 rfl ?_
                                refine AW.icmp_ltN X (tgt := 209) dX12_paint_161 (by decide) (by omega) (by omega) (fun h161 => ?_) (fun h161 => ?_)
                                · have n161 := Nat.not_le_of_lt h161
                                  refine AW.iincN X (c := ((jx + 1) + 1)) dX12_paint_209 rfl (inc_1 _) rfl ?_
                                  refine AW.goto X (tgt := 112) dX12_paint_212 (by decide) ?_
                                  refine AW.cgw (ih112 (jx + 1) (by omega) (by omega)) ⟨rfl, rfl, rfl, rfl, rfl, ?_, ?_, rfl, rfl, trivial⟩
                                  · simp [chT, counted, oI, oL, under1_n, under1_s, *]
                                  · simp [chT, counted, oI, oL, under1_n, under1_s, *]
                                · have n161 := Nat.not_lt_of_le h161
                                  refine AW.iload X dX12_paint_164 rfl ?_
                                  refine AW.if_ltN X (tgt := 187) dX12_paint_166 (by decide) (by omega) (fun h166 => ?_) (fun h166 => ?_)
                                  · exact h166.elim
                                  · refine AW.aload_n X dX12_paint_169 (i := 0) rfl rfl ?_
                                    refine AW.getR X dX12_paint_170 fX12_50 rfl om0 (wm_at W 13 rfl) ?_
                                    refine AW.iload X dX12_paint_173 rfl ?_
                                    refine AW.iaload X dX12_paint_175 (am_at 13 rfl) (n2_in (by omega) (by decide)) (v := (nI (S.1 6 2 ix))) (by rw [n2_clamp (by omega)]; exact tm_cos hT (by omega)) ?_
                                    refine AW.iload X dX12_paint_176 rfl ?_
                                    refine AW.imulN X dX12_paint_178 ?_
                                    refine AW.iload X dX12_paint_179 rfl ?_
                                    refine AW.icmp_ltN X (tgt := 187) dX12_paint_181 (by decide) (by omega) (by omega) (fun h181 => ?_) (fun h181 => ?_)
                                    · have n181 := Nat.not_le_of_lt h181
                                      refine AW.bipushN X 10 dX12_paint_187 rfl ?_
                                      refine AW.iload X dX12_paint_189 rfl ?_
                                      refine AW.imulN X dX12_paint_191 ?_
                                      refine AW.iload X dX12_paint_192 rfl ?_
                                      refine AW.iaddN X dX12_paint_194 ?_
                                      refine AW.istore X dX12_paint_195 rfl ?_
                                      refine AW.aload_n X dX12_paint_197 (i := 0) rfl rfl ?_
                                      refine AW.getR X dX12_paint_198 fX12_50 rfl om0 (wm_at W 13 rfl) ?_
                                      refine AW.iload X dX12_paint_201 rfl ?_
                                      refine AW.iaload X dX12_paint_203 (am_at 13 rfl) (n2_in (by omega) (by decide)) (v := (nI (S.1 6 2 ix))) (by rw [n2_clamp (by omega)]; exact tm_cos hT (by omega)) ?_
                                      refine AW.iload X dX12_paint_204 rfl ?_
                                      refine AW.imulN X dX12_paint_206 ?_
                                      refine AW.istore X dX12_paint_207 rfl ?_
                                      refine AW.iincN X (c := ((jx + 1) + 1)) dX12_paint_209 rfl (inc_1 _) rfl ?_
                                      refine AW.goto X (tgt := 112) dX12_paint_212 (by decide) ?_
                                      refine AW.cgw (ih112 (jx + 1) (by omega) (by omega)) ⟨rfl, rfl, rfl, rfl, rfl, ?_, ?_, rfl, rfl, trivial⟩
                                      · simp [chT, counted, oI, oL, under1_n, under1_s, *]
                                      · simp [chT, counted, oI, oL, under1_n, under1_s, *]
                                    · have n181 := Nat.not_lt_of_le h181
                                      refine AW.goto X (tgt := 209) dX12_paint_184 (by decide) ?_
                                      refine AW.iincN X (c := ((jx + 1) + 1)) dX12_paint_209 rfl (inc_1 _) rfl ?_
                                      refine AW.goto X (tgt := 112) dX12_paint_212 (by decide) ?_
                                      refine AW.cgw (ih112 (jx + 1) (by omega) (by omega)) ⟨rfl, rfl, rfl, rfl, rfl, ?_, ?_, rfl, rfl, trivial⟩
                                      · simp [chT, counted, oI, oL, under1_n, under1_s, *]
                                      · simp [chT, counted, oI, oL, under1_n, under1_s, *]
                              · refine AW.iconstN X 0 dX12_paint_129 rfl ?_
                                refine AW.aload_n X dX12_paint_130 (i := 0) rfl rfl ?_
                                refine AW.getR X dX12_paint_131 fX12_47 rfl om0 (wm_at W 12 rfl) ?_
                                refine AW.iload X dX12_paint_134 rfl ?_
                                refine AW.iaload X dX12_paint_136 (am_at 12 rfl) (n2_in (by omega) (by decide)) (v := (nI (S.1 6 1 ix))) (by rw [n2_clamp (by omega)]; exact tm_hid hT (by omega)) ?_
                                refine AW.iconstN X 1 dX12_paint_137 rfl ?_
                                refine AW.isub X dX12_paint_138 ?_
                                refine AW.maxD X dX12_paint_139 (by omega) (by omega) lX12_max ⟨rfl, rfl, rfl, rfl⟩ ?_
                                refine AW.goto X (tgt := 152) dX12_paint_142 (by decide) ?_
                                refine AW.istore X dX12_paint_152 rfl ?_
                                refine AW.iload X dX12_paint_154 rfl ?_
                                refine AW.iload X dX12_paint_156 rfl ?_
                                refine AW.imulN X dX12_paint_158 ?_
                                refine AW.iload X dX12_paint_159 rfl ?_
                                refine AW.icmp_ltN X (tgt := 209) dX12_paint_161 (by decide) (by omega) (by omega) (fun h161 => ?_) (fun h161 => ?_)
                                · have n161 := Nat.not_le_of_lt h161
                                  refine AW.iincN X (c := ((jx + 1) + 1)) dX12_paint_209 rfl (inc_1 _) rfl ?_
                                  refine AW.goto X (tgt := 112) dX12_paint_212 (by decide) ?_
                                  refine AW.cgw (ih112 (jx + 1) (by omega) (by omega)) ⟨rfl, rfl, rfl, rfl, rfl, ?_, ?_, rfl, rfl, trivial⟩
                                  · simp [chT, counted, oI, oL, under1_n, under1_s, *]
                                  · simp [chT, counted, oI, oL, under1_n, under1_s, *]
                                · have n161 := Nat.not_lt_of_le h161
                                  refine AW.iload X dX12_paint_164 rfl ?_
                                  refine AW.if_ltN X (tgt := 187) dX12_paint_166 (by decide) (by omega) (fun h166 => ?_) (fun h166 => ?_)
                                  · exact h166.elim
                                  · refine AW.aload_n X dX12_paint_169 (i := 0) rfl rfl ?_
                                    refine AW.getR X dX12_paint_170 fX12_50 rfl om0 (wm_at W 13 rfl) ?_
                                    refine AW.iload X dX12_paint_173 rfl ?_
                                    refine AW.iaload X dX12_paint_175 (am_at 13 rfl) (n2_in (by omega) (by decide)) (v := (nI (S.1 6 2 ix))) (by rw [n2_clamp (by omega)]; exact tm_cos hT (by omega)) ?_
                                    refine AW.iload X dX12_paint_176 rfl ?_
                                    refine AW.imulN X dX12_paint_178 ?_
                                    refine AW.iload X dX12_paint_179 rfl ?_
                                    refine AW.icmp_ltN X (tgt := 187) dX12_paint_181 (by decide) (by omega) (by omega) (fun h181 => ?_) (fun h181 => ?_)
                                    · have n181 := Nat.not_le_of_lt h181
                                      refine AW.bipushN X 10 dX12_paint_187 rfl ?_
                                      refine AW.iload X dX12_paint_189 rfl ?_
                                      refine AW.imulN X dX12_paint_191 ?_
                                      refine AW.iload X dX12_paint_192 rfl ?_
                                      refine AW.iaddN X dX12_paint_194 ?_
                                      refine AW.istore X dX12_paint_195 rfl ?_
                                      refine AW.aload_n X dX12_paint_197 (i := 0) rfl rfl ?_
                                      refine AW.getR X dX12_paint_198 fX12_50 rfl om0 (wm_at W 13 rfl) ?_
                                      refine AW.iload X dX12_paint_201 rfl ?_
                                      refine AW.iaload X dX12_paint_203 (am_at 13 rfl) (n2_in (by omega) (by decide)) (v := (nI (S.1 6 2 ix))) (by rw [n2_clamp (by omega)]; exact tm_cos hT (by omega)) ?_
                                      refine AW.iload X dX12_paint_204 rfl ?_
                                      refine AW.imulN X dX12_paint_206 ?_
                                      refine AW.istore X dX12_paint_207 rfl ?_
                                      refine AW.iincN X (c := ((jx + 1) + 1)) dX12_paint_209 rfl (inc_1 _) rfl ?_
                                      refine AW.goto X (tgt := 112) dX12_paint_212 (by decide) ?_
                                      refine AW.cgw (ih112 (jx + 1) (by omega) (by omega)) ⟨rfl, rfl, rfl, rfl, rfl, ?_, ?_, rfl, rfl, trivial⟩
                                      · simp [chT, counted, oI, oL, under1_n, under1_s, *]
                                      · simp [chT, counted, oI, oL, under1_n, under1_s, *]
                                    · have n181 := Nat.not_lt_of_le h181
                                      refine AW.goto X (tgt := 209) dX12_paint_184 (by decide) ?_
                                      refine AW.iincN X (c := ((jx + 1) + 1)) dX12_paint_209 rfl (inc_1 _) rfl ?_
                                      refine AW.goto X (tgt := 112) dX12_paint_212 (by decide) ?_
                                      refine AW.cgw (ih112 (jx + 1) (by omega) (by omega)) ⟨rfl, rfl, rfl, rfl, rfl, ?_, ?_, rfl, rfl, trivial⟩
                                      · simp [chT, counted, oI, oL, under1_n, under1_s, *]
                                      · simp [chT, counted, oI, oL, under1_n, under1_s, *]
                      refine AW.cgw (L112 _ 0 (Nat.lt_succ_self _) (by omega)) ⟨rfl, rfl, rfl, rfl, rfl, ?_, ?_, rfl, rfl, trivial⟩
                      · simp [chT]
                      · simp [chT]
                refine AW.cgw (L102 _ 0 (Nat.lt_succ_self _) (by omega)) ⟨rfl, rfl, rfl, rfl, rfl, ?_, ?_, rfl, trivial⟩
                · simp [chC, oI, oL]
                · simp [chC, oI, oL]
              · have n63 := Nat.not_le_of_lt h63
                have bw0 := wet_le hIh ix hd
                have bw1 := wetTo_le hIh g hd ix
                refine AW.iload X dX12_paint_66 rfl ?_
                refine AW.iload_n X dX12_paint_68 (i := 2) rfl rfl ?_
                refine AW.icmp_eqN X (tgt := 87) dX12_paint_69 (by decide) (by omega) (by omega) (fun h69 => ?_) (fun h69 => ?_)
                · refine AW.iincN X (c := (ix + 1)) dX12_paint_87 rfl (inc_1 _) rfl ?_
                  refine AW.goto X (tgt := 59) dX12_paint_90 (by decide) ?_
                  refine AW.cgw (ih59 (ix + 1) (by omega) (by omega)) ⟨rfl, rfl, rfl, rfl, ?_, rfl, trivial⟩
                  · simp [wetTo, *]
                · refine AW.iload X dX12_paint_72 rfl ?_
                  refine AW.aload_n X dX12_paint_74 (i := 0) rfl rfl ?_
                  refine AW.iload_n X dX12_paint_75 (i := 1) rfl rfl ?_
                  refine AW.iload X dX12_paint_76 rfl ?_
                  refine AW.iload_n X dX12_paint_78 (i := 3) rfl rfl ?_
                  refine AW.callV X dX12_paint_79 lX12_118 cfX12 (c_X12_wetOf W hT (by omega) (by omega) (by omega)) om0 rfl rfl rfl rfl ⟨rfl, rfl⟩ (pR_k ?_)
                  refine AW.maxN X dX12_paint_82 (by omega) (by omega) lX12_max (by decide) ?_
                  refine AW.istore X dX12_paint_85 rfl ?_
                  refine AW.iincN X (c := (ix + 1)) dX12_paint_87 rfl (inc_1 _) rfl ?_
                  refine AW.goto X (tgt := 59) dX12_paint_90 (by decide) ?_
                  refine AW.cgw (ih59 (ix + 1) (by omega) (by omega)) ⟨rfl, rfl, rfl, rfl, ?_, rfl, trivial⟩
                  · simp [wetTo, *]
          refine AW.cgw (L59 _ 0 (Nat.lt_succ_self _) (by omega)) ⟨rfl, rfl, rfl, rfl, ?_, rfl, trivial⟩
          · rfl
        · refine AW.aload_n X dX12_paint_46 (i := 0) rfl rfl ?_
          refine AW.bipush X (v := -7) dX12_paint_47 rfl ?_
          refine AW.callV X dX12_paint_49 lX12_237 cfX12 (c_X12_no10 (k := 7) hR (by decide) (by decide)) om0 rfl rfl rfl rfl ⟨rfl, rfl⟩ (pI_k fun r μ1 hr => ?_)
          refine AW.iret X hQ dX12_paint_52 ⟨_, rfl, ?_⟩
          refine rm_of ?_ hr
          simp [S_paint, *]
      · refine AW.aload_n X dX12_paint_28 (i := 0) rfl rfl ?_
        refine AW.bipush X (v := -6) dX12_paint_29 rfl ?_
        refine AW.callV X dX12_paint_31 lX12_237 cfX12 (c_X12_no10 (k := 6) hR (by decide) (by decide)) om0 rfl rfl rfl rfl ⟨rfl, rfl⟩ (pI_k fun r μ1 hr => ?_)
        refine AW.iret X hQ dX12_paint_34 ⟨_, rfl, ?_⟩
        refine rm_of ?_ hr
        simp [S_paint, *]
  · refine AW.aload_n X dX12_paint_8 (i := 0) rfl rfl ?_
    refine AW.iconst X (v := -1) dX12_paint_9 rfl ?_
    refine AW.callV X dX12_paint_10 lX12_237 cfX12 (c_X12_no10 (k := 1) hR (by decide) (by decide)) om0 rfl rfl rfl rfl ⟨rfl, rfl⟩ (pI_k fun r μ1 hr => ?_)
    refine AW.iret X hQ dX12_paint_13 ⟨_, rfl, ?_⟩
    refine rm_of ?_ hr
    simp [S_paint, *]
