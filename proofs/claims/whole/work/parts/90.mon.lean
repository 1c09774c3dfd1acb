set_option maxRecDepth 100000 in
set_option maxHeartbeats 4000000 in
theorem c_X12_item {l : Launch} {δ : Dl} {b : Nat} {μ : Mm} (W : WM μ.2.2) {s n p : Nat} {L : Nat → Int64} (hD : RDM μ s n p L) {τ : Tt} (hT : TMX μ τ) : MCM l δ b yX12_item cX12_item 4 (some .boolean) 7 [.ref (b + 0)] μ (pI fun r μ' => PIM μ s n p L (itOne (enR n L) τ p) r μ') := by
  have hs8 := hD.2.2.1
  have hk := hD.2.2.2.1
  have hq := hD.2.2.2.2
  have bn := ti_n hT.1
  refine MC.intro ([some (.ref (b + 0)), none, none, none]) (by decide) rfl rfl fun κ Qc hl hQ X => ?_
  subst hl
  refine AW.aload_n X dX12_item_0 (i := 0) rfl rfl ?_
  refine AW.getI X dX12_item_1 fX12_158 rfl om0 hD.1.2.1 ?_
  refine AW.istore_n X dX12_item_4 (i := 1) rfl rfl ?_
  refine AW.aload_n X dX12_item_5 (i := 0) rfl rfl ?_
  refine AW.bipushN X 115 dX12_item_6 rfl ?_
  by_cases he8 : enR n L p = nI 115
  · have hl8 := enR_lt (by decide) he8
    refine AW.callV X dX12_item_8 lX12_177 cfX12 (ct_is W hD (by decide) he8) om0 rfl rfl rfl rfl ⟨rfl, rfl⟩ (pI_k fun r8 μr8 hr8 => ?_)
    obtain ⟨rfl, rfl⟩ := hr8
    have hD8 := rdm_at hD (q := p + 1) (by omega)
    have W8 : WM (wI μ 0 28 (nI (p + 1))).2.2 := W
    have hs8 := (SmM.rf : SmM ITp μ μ).trn (SmM.w (o := 0) (k := 28) (v := nI (p + 1)) (Or.inr (Or.inl ⟨rfl, rfl⟩)))
    have hT8 : TMX (wI μ 0 28 (nI (p + 1))) τ := tm_same hT (SmM.w (P := ATp) ⟨rfl, rfl⟩) (fun q k a c => by unfold TPl at a; unfold ATp at c; omega)
    refine AW.if_eqN X (tgt := 132) dX12_item_11 (by decide) (by omega) (fun h11 => ?_) (fun h11 => ?_)
    · exact absurd h11 (by decide)
    · refine AW.aload_n X dX12_item_14 (i := 0) rfl rfl ?_
      refine AW.ldcS X (i := 6) dX12_item_15 rfl ?_
      refine AW.callV X dX12_item_17 lX12_183 cfX12 (c_X12_word W8 hD8 (i := 6) (by decide)) om0 rfl rfl rfl rfl ⟨rfl, rfl⟩ (pI_k fun r17 μ17 hr17 => ?_)
      obtain ⟨hA17, hB17, hD17, hS17⟩ := hr17
      have W17 := wm_same W8 hS17
      have hT17 := tm_at hT8 hS17
      have hs17 := hs8.trn (hS17.mono at_it)
      have hq17 := hD17.2.2.2.2
      by_cases hw17 : smL (enR n L) 6 (p + 1) = slen 6
      · have hrw := rw_s_ok he8 hw17
        obtain ⟨pw, hpw⟩ : ∃ x, x = (p + 1) + smL (enR n L) 6 (p + 1) := ⟨_, rfl⟩
        rw [← hpw] at hrw hD17
        have hpw2 : p < pw := by omega
        obtain rfl := hA17 hw17
        refine AW.if_eqN X (tgt := 49) dX12_item_20 (by decide) (by omega) (fun h20 => ?_) (fun h20 => ?_)
        · exact absurd h20 (by decide)
        · refine AW.aload_n X dX12_item_23 (i := 0) rfl rfl ?_
          refine AW.iconstN X 0 dX12_item_24 rfl ?_
          refine AW.iconstN X 0 dX12_item_25 rfl ?_
          refine AW.aload_n X dX12_item_26 (i := 0) rfl rfl ?_
          refine AW.getI X dX12_item_27 fX12_87 rfl om0 (tm_0 hT17) ?_
          refine AW.iconstN X 1 dX12_item_30 rfl ?_
          refine AW.isub X dX12_item_31 ?_
          rcases hv32 : rdN (enR n L) 0 (τ 6 0 0) pw with k32 | ⟨v32, q32⟩
          · refine AW.callV X dX12_item_32 lX12_187 cfX12 (c_X12_number W17 hD17 (i := 0) (lo := 0) (hx := (τ 6 0 0)) (by decide) (by decide) (by omega) (dn_sub _)) om0 rfl rfl rfl rfl ⟨rfl, rfl⟩ (pI_k fun r32 μ32 hr32 => ?_)
            obtain ⟨rfl, hS32, hF32, hK32⟩ := hr32.1 _ hv32
            have hs32 := hs17.trn (hS32.mono nu_it)
            have W32 := wm_same W17 hS32
            refine AW.if_eqN X (tgt := 49) dX12_item_35 (by decide) (by omega) (fun h35 => ?_) (fun h35 => ?_)
            · refine AW.iconstN X 0 dX12_item_49 rfl ?_
              refine AW.zret X rfl hQ dX12_item_50 ⟨_, rfl, ?_⟩
              have e : itOne (enR n L) τ p = .inl k32 := by simp [itOne, itS, hrw, hv32]
              exact pim_l e hs32 rfl hF32 (by omega)
            · exact absurd h35 (by decide)
          · refine AW.callV X dX12_item_32 lX12_187 cfX12 (c_X12_number W17 hD17 (i := 0) (lo := 0) (hx := (τ 6 0 0)) (by decide) (by decide) (by omega) (dn_sub _)) om0 rfl rfl rfl rfl ⟨rfl, rfl⟩ (pI_k fun r32 μ32 hr32 => ?_)
            obtain ⟨rfl, hS32, hD32, hN32, hp32, hb32, hl32⟩ := hr32.2 _ _ hv32
            have hs32 := hs17.trn (hS32.mono nu_it)
            have W32 := wm_same W17 hS32
            have hT32 := tm_nu hT17 hS32
            have hq32 := hD32.2.2.2.2
            refine AW.if_eqN X (tgt := 49) dX12_item_35 (by decide) (by omega) (fun h35 => ?_) (fun h35 => ?_)
            · exact absurd h35 (by decide)
            · refine AW.aload_n X dX12_item_38 (i := 0) rfl rfl ?_
              refine AW.iconstN X 1 dX12_item_39 rfl ?_
              refine AW.iconstN X 0 dX12_item_40 rfl ?_
              refine AW.bipushN X 11 dX12_item_41 rfl ?_
              rcases hv43 : rdN (enR n L) 0 12 q32 with k43 | ⟨v43, q43⟩
              · refine AW.callV X dX12_item_43 lX12_187 cfX12 (c_X12_number W32 hD32 (i := 1) (lo := 0) (hx := 12) (by decide) (by decide) (by omega) (dn_s 11).symm) om0 rfl rfl rfl rfl ⟨rfl, rfl⟩ (pI_k fun r43 μ43 hr43 => ?_)
                obtain ⟨rfl, hS43, hF43, hK43⟩ := hr43.1 _ hv43
                have hs43 := hs32.trn (hS43.mono nu_it)
                have W43 := wm_same W32 hS43
                refine AW.if_neN X (tgt := 51) dX12_item_46 (by decide) (by omega) (fun h46 => ?_) (fun h46 => ?_)
                · exact absurd h46 (by decide)
                · refine AW.iconstN X 0 dX12_item_49 rfl ?_
                  refine AW.zret X rfl hQ dX12_item_50 ⟨_, rfl, ?_⟩
                  have e : itOne (enR n L) τ p = .inl k43 := by simp [itOne, itS, hrw, hv32, hv43]
                  exact pim_l e hs43 rfl hF43 (by omega)
              · refine AW.callV X dX12_item_43 lX12_187 cfX12 (c_X12_number W32 hD32 (i := 1) (lo := 0) (hx := 12) (by decide) (by decide) (by omega) (dn_s 11).symm) om0 rfl rfl rfl rfl ⟨rfl, rfl⟩ (pI_k fun r43 μ43 hr43 => ?_)
                obtain ⟨rfl, hS43, hD43, hN43, hp43, hb43, hl43⟩ := hr43.2 _ _ hv43
                have hs43 := hs32.trn (hS43.mono nu_it)
                have W43 := wm_same W32 hS43
                have hT43 := tm_nu hT32 hS43
                have hq43 := hD43.2.2.2.2
                refine AW.if_neN X (tgt := 51) dX12_item_46 (by decide) (by omega) (fun h46 => ?_) (fun h46 => ?_)
                · have hIh := tm_hi hT43 hb32
                  refine AW.aload_n X dX12_item_51 (i := 0) rfl rfl ?_
                  refine AW.getI X dX12_item_52 fX12_158 rfl om0 hD43.1.2.1 ?_
                  refine AW.istore_n X dX12_item_55 (i := 2) rfl rfl ?_
                  refine AW.aload_n X dX12_item_56 (i := 0) rfl rfl ?_
                  refine AW.aload_n X dX12_item_57 (i := 0) rfl rfl ?_
                  refine AW.getR X dX12_item_58 fX12_65 rfl om0 (wm_at W43 18 rfl) ?_
                  refine AW.iconstN X 0 dX12_item_61 rfl ?_
                  refine AW.iaload X dX12_item_62 (am_at 18 rfl) (n2_in (by omega) (by decide)) (v := (nI v32)) (by rw [n2_clamp (by omega)]; exact ((hS43.2 19 0 (by unfold NUp; omega)).trans hN32)) ?_
                  refine AW.aload_n X dX12_item_63 (i := 0) rfl rfl ?_
                  refine AW.getR X dX12_item_64 fX12_65 rfl om0 (wm_at W43 18 rfl) ?_
                  refine AW.iconstN X 1 dX12_item_67 rfl ?_
                  refine AW.iaload X dX12_item_68 (am_at 18 rfl) (n2_in (by omega) (by decide)) (v := (nI v43)) (by rw [n2_clamp (by omega)]; exact hN43) ?_
                  refine AW.callV X dX12_item_69 lX12_152 cfX12 (c_X12_lies W43 hT43 (by omega) (by omega)) om0 rfl rfl rfl rfl ⟨rfl, rfl⟩ (pR_k ?_)
                  refine AW.istore_n X dX12_item_72 (i := 3) rfl rfl ?_
                  have by_ := lyN hIh v43
                  refine AW.iload_n X dX12_item_73 (i := 3) rfl rfl ?_
                  refine AW.if_neN X (tgt := 102) dX12_item_74 (by decide) (by omega) (fun h74 => ?_) (fun h74 => ?_)
                  · have ft := top_f _ by_ (Nat.pos_of_ne_zero h74)
                    have f8 := ft.2.2.2.1
                    have b6 := hi_go hIh hb43
                    refine AW.aload_n X dX12_item_102 (i := 0) rfl rfl ?_
                    refine AW.getR X dX12_item_103 fX12_44 rfl om0 (wm_at W43 11 rfl) ?_
                    refine AW.bipushN X 12 dX12_item_106 rfl ?_
                    refine AW.aload_n X dX12_item_108 (i := 0) rfl rfl ?_
                    refine AW.getR X dX12_item_109 fX12_65 rfl om0 (wm_at W43 18 rfl) ?_
                    refine AW.iconstN X 0 dX12_item_112 rfl ?_
                    refine AW.iaload X dX12_item_113 (am_at 18 rfl) (n2_in (by omega) (by decide)) (v := (nI v32)) (by rw [n2_clamp (by omega)]; exact ((hS43.2 19 0 (by unfold NUp; omega)).trans hN32)) ?_
                    refine AW.imulN X dX12_item_114 ?_
                    refine AW.aload_n X dX12_item_115 (i := 0) rfl rfl ?_
                    refine AW.getR X dX12_item_116 fX12_65 rfl om0 (wm_at W43 18 rfl) ?_
                    refine AW.iconstN X 1 dX12_item_119 rfl ?_
                    refine AW.iaload X dX12_item_120 (am_at 18 rfl) (n2_in (by omega) (by decide)) (v := (nI v43)) (by rw [n2_clamp (by omega)]; exact hN43) ?_
                    refine AW.iaddN X dX12_item_121 ?_
                    refine AW.dup2 X dX12_item_122 rfl rfl ?_
                    refine AW.iaload X dX12_item_123 (am_at 11 rfl) (n2_in (by omega) (by decide)) (v := (nI (τ v32 6 v43))) (by rw [n2_clamp (by omega)]; exact tm_6 hT43 (by omega) (by omega)) ?_
                    refine AW.iload_n X dX12_item_124 (i := 3) rfl rfl ?_
                    refine AW.callS X dX12_item_125 lX12_192 (c_J6_highestOneBit_0f7a4 (by omega) (by omega)) rfl rfl rfl rfl ⟨rfl, rfl⟩ (pR_k ?_)
                    refine AW.iorN X dX12_item_128 ?_
                    refine AW.iastore X dX12_item_129 (by decide) (am_at 11 rfl) (n2_in (by omega) (by decide)) ?_
                    rw [n2_clamp (by omega)]
                    refine AW.iconstN X 1 dX12_item_130 rfl ?_
                    refine AW.zret X rfl hQ dX12_item_131 ⟨_, rfl, ?_⟩
                    have gu := upm_top hIh h74
                    have f := tmx_up hT43 (by omega) (gone_sm hb43) (hmx_gone (k := v43) (x := τ v32 6 v43 ||| 2 ^ top (lyA (τ v32) v43)) (tm_h hT43 hb32) (or_lt8 (hi_go hIh hb43) (pow_lt8 (by omega))))
                    have sp : SmM TPl μ43 (wI μ43 12 ((12 * v32) + v43) (nI ((τ v32 6 v43) ||| (2 ^ top (lyA (τ v32) v43))))) := (gone_sm hb43).mono (fun _ _ z => hpl_t z)
                    have e : itOne (enR n L) τ p = .inr (upH τ v32 (upV (τ v32) 6 v43 (τ v32 6 v43 ||| 2 ^ top (lyA (τ v32) v43))), q43) := by simp [itOne, itS, hrw, hv32, hv43, gu]
                    exact pim_r e (hs43.trn (sp.mono tp_it)) rfl (rdm_tp hD43 sp) f (by omega)
                  · have gu := (upm_ly (τ v32) v43 (τ v32 0 2)).mp h74
                    refine AW.aload_n X dX12_item_77 (i := 0) rfl rfl ?_
                    refine AW.iload_n X dX12_item_78 (i := 2) rfl rfl ?_
                    refine AW.aload_n X dX12_item_79 (i := 0) rfl rfl ?_
                    refine AW.iload_n X dX12_item_80 (i := 2) rfl rfl ?_
                    refine AW.iconstN X 2 dX12_item_81 rfl ?_
                    refine AW.isubN X dX12_item_82 (by omega) ?_
                    refine AW.callV X dX12_item_83 lX12_190 cfX12 (c_X12_sign_ W43 hD43 (by omega)) om0 rfl rfl rfl rfl ⟨rfl, rfl⟩ (pR_k ?_)
                    refine AW.bipushN X 32 dX12_item_86 rfl ?_
                    refine AW.icmp_ne X (tgt := 95) dX12_item_88 (by decide) (fun h88 => ?_) (fun h88 => ?_)
                    · refine AW.iconstN X 2 dX12_item_95 rfl ?_
                      refine AW.isubN X dX12_item_96 (by omega) ?_
                      refine AW.putI X dX12_item_97 fX12_158 rfl rfl ⟨rfl, rfl⟩ (by decide) om0 ?_
                      refine AW.iconstN X 0 dX12_item_100 rfl ?_
                      refine AW.zret X rfl hQ dX12_item_101 ⟨_, rfl, ?_⟩
                      have hback := rdN_back hv43
                      have e : itOne (enR n L) τ p = .inl (q32 + 1) := by simp [itOne, itS, hrw, hv32, hv43, gu]
                      exact pim_l e (hs43.trn (SmM.w (Or.inr (Or.inl ⟨rfl, rfl⟩)))) rfl ((by simp [wI] : (wI μ43 0 28 (nI (q43 - 2))).1 0 28 = nI (q43 - 2)).trans (congrArg nI (hback.2 h88))) (by omega)
                    · refine AW.iconstN X 1 dX12_item_91 rfl ?_
                      refine AW.goto X (tgt := 96) dX12_item_92 (by decide) ?_
                      refine AW.isubN X dX12_item_96 (by omega) ?_
                      refine AW.putI X dX12_item_97 fX12_158 rfl rfl ⟨rfl, rfl⟩ (by decide) om0 ?_
                      refine AW.iconstN X 0 dX12_item_100 rfl ?_
                      refine AW.zret X rfl hQ dX12_item_101 ⟨_, rfl, ?_⟩
                      have hback := rdN_back hv43
                      have e : itOne (enR n L) τ p = .inl (q32 + 1) := by simp [itOne, itS, hrw, hv32, hv43, gu]
                      exact pim_l e (hs43.trn (SmM.w (Or.inr (Or.inl ⟨rfl, rfl⟩)))) rfl ((by simp [wI] : (wI μ43 0 28 (nI (q43 - 1))).1 0 28 = nI (q43 - 1)).trans (congrArg nI (hback.1 h88))) (by omega)
                · exact absurd h46 (by decide)
      · have hrw := rw_s_no he8 hw17
        obtain rfl := hB17 hw17
        refine AW.if_eqN X (tgt := 49) dX12_item_20 (by decide) (by omega) (fun h20 => ?_) (fun h20 => ?_)
        · refine AW.iconstN X 0 dX12_item_49 rfl ?_
          refine AW.zret X rfl hQ dX12_item_50 ⟨_, rfl, ?_⟩
          have e : itOne (enR n L) τ p = .inl ((p + 1) + smL (enR n L) 6 (p + 1)) := by simp [itOne, itS, hrw]
          exact pim_l e hs17 rfl hD17.1.2.1 (by omega)
        · exact absurd h20 (by decide)
  · refine AW.callV X dX12_item_8 lX12_177 cfX12 (cf_is W hD (by decide) he8) om0 rfl rfl rfl rfl ⟨rfl, rfl⟩ (pI_k fun r8 μr8 hr8 => ?_)
    obtain ⟨rfl, hm8⟩ := hr8
    obtain rfl : μ = μr8 := hm8.symm
    refine AW.if_eqN X (tgt := 132) dX12_item_11 (by decide) (by omega) (fun h11 => ?_) (fun h11 => ?_)
    · refine AW.aload_n X dX12_item_132 (i := 0) rfl rfl ?_
      refine AW.bipushN X 99 dX12_item_133 rfl ?_
      by_cases he135 : enR n L p = nI 99
      · have hl135 := enR_lt (by decide) he135
        refine AW.callV X dX12_item_135 lX12_177 cfX12 (ct_is W hD (by decide) he135) om0 rfl rfl rfl rfl ⟨rfl, rfl⟩ (pI_k fun r135 μr135 hr135 => ?_)
        obtain ⟨rfl, rfl⟩ := hr135
        have hD135 := rdm_at hD (q := p + 1) (by omega)
        have W135 : WM (wI μ 0 28 (nI (p + 1))).2.2 := W
        have hs135 := (SmM.rf : SmM ITp μ μ).trn (SmM.w (o := 0) (k := 28) (v := nI (p + 1)) (Or.inr (Or.inl ⟨rfl, rfl⟩)))
        have hT135 : TMX (wI μ 0 28 (nI (p + 1))) τ := tm_same hT (SmM.w (P := ATp) ⟨rfl, rfl⟩) (fun q k a c => by unfold TPl at a; unfold ATp at c; omega)
        refine AW.if_eqN X (tgt := 367) dX12_item_138 (by decide) (by omega) (fun h138 => ?_) (fun h138 => ?_)
        · exact absurd h138 (by decide)
        · refine AW.aload_n X dX12_item_141 (i := 0) rfl rfl ?_
          refine AW.bipushN X 111 dX12_item_142 rfl ?_
          by_cases he144 : enR n L (p + 1) = nI 111
          · have hl144 := enR_lt (by decide) he144
            refine AW.callV X dX12_item_144 lX12_177 cfX12 (ct_is W135 hD135 (by decide) he144) om0 rfl rfl rfl rfl ⟨rfl, rfl⟩ (pI_k fun r144 μr144 hr144 => ?_)
            obtain ⟨rfl, rfl⟩ := hr144
            have hD144 := rdm_at hD135 (q := (p + 1) + 1) (by omega)
            have W144 : WM (wI (wI μ 0 28 (nI (p + 1))) 0 28 (nI ((p + 1) + 1))).2.2 := W135
            have hs144 := hs135.trn (SmM.w (o := 0) (k := 28) (v := nI ((p + 1) + 1)) (Or.inr (Or.inl ⟨rfl, rfl⟩)))
            have hT144 : TMX (wI (wI μ 0 28 (nI (p + 1))) 0 28 (nI ((p + 1) + 1))) τ := tm_same hT135 (SmM.w (P := ATp) ⟨rfl, rfl⟩) (fun q k a c => by unfold TPl at a; unfold ATp at c; omega)
            refine AW.if_neN X (tgt := 152) dX12_item_147 (by decide) (by omega) (fun h147 => ?_) (fun h147 => ?_)
            · refine AW.aload_n X dX12_item_152 (i := 0) rfl rfl ?_
              refine AW.bipushN X 115 dX12_item_153 rfl ?_
              by_cases he155 : enR n L ((p + 1) + 1) = nI 115
              · have hl155 := enR_lt (by decide) he155
                refine AW.callV X dX12_item_155 lX12_177 cfX12 (ct_is W144 hD144 (by decide) he155) om0 rfl rfl rfl rfl ⟨rfl, rfl⟩ (pI_k fun r155 μr155 hr155 => ?_)
                obtain ⟨rfl, rfl⟩ := hr155
                have hD155 := rdm_at hD144 (q := ((p + 1) + 1) + 1) (by omega)
                have W155 : WM (wI (wI (wI μ 0 28 (nI (p + 1))) 0 28 (nI ((p + 1) + 1))) 0 28 (nI (((p + 1) + 1) + 1))).2.2 := W144
                have hs155 := hs144.trn (SmM.w (o := 0) (k := 28) (v := nI (((p + 1) + 1) + 1)) (Or.inr (Or.inl ⟨rfl, rfl⟩)))
                have hT155 : TMX (wI (wI (wI μ 0 28 (nI (p + 1))) 0 28 (nI ((p + 1) + 1))) 0 28 (nI (((p + 1) + 1) + 1))) τ := tm_same hT144 (SmM.w (P := ATp) ⟨rfl, rfl⟩) (fun q k a c => by unfold TPl at a; unfold ATp at c; omega)
                refine AW.if_eqN X (tgt := 212) dX12_item_158 (by decide) (by omega) (fun h158 => ?_) (fun h158 => ?_)
                · exact absurd h158 (by decide)
                · refine AW.aload_n X dX12_item_161 (i := 0) rfl rfl ?_
                  refine AW.ldcS X (i := 7) dX12_item_162 rfl ?_
                  refine AW.callV X dX12_item_164 lX12_183 cfX12 (c_X12_word W155 hD155 (i := 7) (by decide)) om0 rfl rfl rfl rfl ⟨rfl, rfl⟩ (pI_k fun r164 μ164 hr164 => ?_)
                  obtain ⟨hA164, hB164, hD164, hS164⟩ := hr164
                  have W164 := wm_same W155 hS164
                  have hT164 := tm_at hT155 hS164
                  have hs164 := hs155.trn (hS164.mono at_it)
                  have hq164 := hD164.2.2.2.2
                  by_cases hw164 : smL (enR n L) 7 (((p + 1) + 1) + 1) = slen 7
                  · have hrw := rw_cos_ok he135 he144 he155 hw164
                    obtain ⟨pw, hpw⟩ : ∃ x, x = (((p + 1) + 1) + 1) + smL (enR n L) 7 (((p + 1) + 1) + 1) := ⟨_, rfl⟩
                    rw [← hpw] at hrw hD164
                    have hpw2 : p < pw := by omega
                    obtain rfl := hA164 hw164
                    refine AW.if_eqN X (tgt := 191) dX12_item_167 (by decide) (by omega) (fun h167 => ?_) (fun h167 => ?_)
                    · exact absurd h167 (by decide)
                    · refine AW.aload_n X dX12_item_170 (i := 0) rfl rfl ?_
                      refine AW.iconstN X 0 dX12_item_171 rfl ?_
                      refine AW.iconstN X 0 dX12_item_172 rfl ?_
                      refine AW.iconstN X 5 dX12_item_173 rfl ?_
                      rcases hv174 : rdN (enR n L) 0 6 pw with k174 | ⟨v174, q174⟩
                      · refine AW.callV X dX12_item_174 lX12_187 cfX12 (c_X12_number W164 hD164 (i := 0) (lo := 0) (hx := 6) (by decide) (by decide) (by omega) (dn_s 5).symm) om0 rfl rfl rfl rfl ⟨rfl, rfl⟩ (pI_k fun r174 μ174 hr174 => ?_)
                        obtain ⟨rfl, hS174, hF174, hK174⟩ := hr174.1 _ hv174
                        have hs174 := hs164.trn (hS174.mono nu_it)
                        have W174 := wm_same W164 hS174
                        refine AW.if_eqN X (tgt := 191) dX12_item_177 (by decide) (by omega) (fun h177 => ?_) (fun h177 => ?_)
                        · refine AW.iconstN X 0 dX12_item_191 rfl ?_
                          refine AW.zret X rfl hQ dX12_item_192 ⟨_, rfl, ?_⟩
                          have e : itOne (enR n L) τ p = .inl k174 := by simp [itOne, itK, hrw, hv174]
                          exact pim_l e hs174 rfl hF174 (by omega)
                        · exact absurd h177 (by decide)
                      · refine AW.callV X dX12_item_174 lX12_187 cfX12 (c_X12_number W164 hD164 (i := 0) (lo := 0) (hx := 6) (by decide) (by decide) (by omega) (dn_s 5).symm) om0 rfl rfl rfl rfl ⟨rfl, rfl⟩ (pI_k fun r174 μ174 hr174 => ?_)
                        obtain ⟨rfl, hS174, hD174, hN174, hp174, hb174, hl174⟩ := hr174.2 _ _ hv174
                        have hs174 := hs164.trn (hS174.mono nu_it)
                        have W174 := wm_same W164 hS174
                        have hT174 := tm_nu hT164 hS174
                        have hq174 := hD174.2.2.2.2
                        refine AW.if_eqN X (tgt := 191) dX12_item_177 (by decide) (by omega) (fun h177 => ?_) (fun h177 => ?_)
                        · exact absurd h177 (by decide)
                        · refine AW.aload_n X dX12_item_180 (i := 0) rfl rfl ?_
                          refine AW.iconstN X 1 dX12_item_181 rfl ?_
                          refine AW.iconstN X 0 dX12_item_182 rfl ?_
                          refine AW.bipushN X 99 dX12_item_183 rfl ?_
                          rcases hv185 : rdN (enR n L) 0 100 q174 with k185 | ⟨v185, q185⟩
                          · refine AW.callV X dX12_item_185 lX12_187 cfX12 (c_X12_number W174 hD174 (i := 1) (lo := 0) (hx := 100) (by decide) (by decide) (by omega) (dn_s 99).symm) om0 rfl rfl rfl rfl ⟨rfl, rfl⟩ (pI_k fun r185 μ185 hr185 => ?_)
                            obtain ⟨rfl, hS185, hF185, hK185⟩ := hr185.1 _ hv185
                            have hs185 := hs174.trn (hS185.mono nu_it)
                            have W185 := wm_same W174 hS185
                            refine AW.if_neN X (tgt := 193) dX12_item_188 (by decide) (by omega) (fun h188 => ?_) (fun h188 => ?_)
                            · exact absurd h188 (by decide)
                            · refine AW.iconstN X 0 dX12_item_191 rfl ?_
                              refine AW.zret X rfl hQ dX12_item_192 ⟨_, rfl, ?_⟩
                              have e : itOne (enR n L) τ p = .inl k185 := by simp [itOne, itK, hrw, hv174, hv185]
                              exact pim_l e hs185 rfl hF185 (by omega)
                          · refine AW.callV X dX12_item_185 lX12_187 cfX12 (c_X12_number W174 hD174 (i := 1) (lo := 0) (hx := 100) (by decide) (by decide) (by omega) (dn_s 99).symm) om0 rfl rfl rfl rfl ⟨rfl, rfl⟩ (pI_k fun r185 μ185 hr185 => ?_)
                            obtain ⟨rfl, hS185, hD185, hN185, hp185, hb185, hl185⟩ := hr185.2 _ _ hv185
                            have hs185 := hs174.trn (hS185.mono nu_it)
                            have W185 := wm_same W174 hS185
                            have hT185 := tm_nu hT174 hS185
                            have hq185 := hD185.2.2.2.2
                            refine AW.if_neN X (tgt := 193) dX12_item_188 (by decide) (by omega) (fun h188 => ?_) (fun h188 => ?_)
                            · refine AW.aload_n X dX12_item_193 (i := 0) rfl rfl ?_
                              refine AW.getR X dX12_item_194 fX12_50 rfl om0 (wm_at W185 13 rfl) ?_
                              refine AW.aload_n X dX12_item_197 (i := 0) rfl rfl ?_
                              refine AW.getR X dX12_item_198 fX12_65 rfl om0 (wm_at W185 18 rfl) ?_
                              refine AW.iconstN X 0 dX12_item_201 rfl ?_
                              refine AW.iaload X dX12_item_202 (am_at 18 rfl) (n2_in (by omega) (by decide)) (v := (nI v174)) (by rw [n2_clamp (by omega)]; exact ((hS185.2 19 0 (by unfold NUp; omega)).trans hN174)) ?_
                              refine AW.aload_n X dX12_item_203 (i := 0) rfl rfl ?_
                              refine AW.getR X dX12_item_204 fX12_65 rfl om0 (wm_at W185 18 rfl) ?_
                              refine AW.iconstN X 1 dX12_item_207 rfl ?_
                              refine AW.iaload X dX12_item_208 (am_at 18 rfl) (n2_in (by omega) (by decide)) (v := (nI v185)) (by rw [n2_clamp (by omega)]; exact hN185) ?_
                              refine AW.iastore X dX12_item_209 (by decide) (am_at 13 rfl) (n2_in (by omega) (by decide)) ?_
                              rw [n2_clamp (by omega)]
                              refine AW.iconstN X 1 dX12_item_210 rfl ?_
                              refine AW.zret X rfl hQ dX12_item_211 ⟨_, rfl, ?_⟩
                              have f := tmx_pal hT185 2 v174 v185 (by decide) hb174 ⟨fun z => absurd z (by decide), fun _ => by omega⟩
                              have sp : SmM TPl μ185 (wI μ185 14 v174 (nI v185)) := SmM.w (o := 14) (k := v174) (v := nI v185) (Or.inl ⟨by decide, by decide⟩)
                              have e : itOne (enR n L) τ p = .inr (upS τ 2 v174 v185, q185) := by simp [itOne, itK, hrw, hv174, hv185]
                              exact pim_r e (hs185.trn (sp.mono tp_it)) rfl (rdm_tp hD185 sp) f (by omega)
                            · exact absurd h188 (by decide)
                  · have hrw := rw_cos_no he135 he144 he155 hw164
                    obtain rfl := hB164 hw164
                    refine AW.if_eqN X (tgt := 191) dX12_item_167 (by decide) (by omega) (fun h167 => ?_) (fun h167 => ?_)
                    · refine AW.iconstN X 0 dX12_item_191 rfl ?_
                      refine AW.zret X rfl hQ dX12_item_192 ⟨_, rfl, ?_⟩
                      have e : itOne (enR n L) τ p = .inl ((((p + 1) + 1) + 1) + smL (enR n L) 7 (((p + 1) + 1) + 1)) := by simp [itOne, itK, hrw]
                      exact pim_l e hs164 rfl hD164.1.2.1 (by omega)
                    · exact absurd h167 (by decide)
              · refine AW.callV X dX12_item_155 lX12_177 cfX12 (cf_is W144 hD144 (by decide) he155) om0 rfl rfl rfl rfl ⟨rfl, rfl⟩ (pI_k fun r155 μr155 hr155 => ?_)
                obtain ⟨rfl, hm155⟩ := hr155
                obtain rfl : (wI (wI μ 0 28 (nI (p + 1))) 0 28 (nI ((p + 1) + 1))) = μr155 := hm155.symm
                refine AW.if_eqN X (tgt := 212) dX12_item_158 (by decide) (by omega) (fun h158 => ?_) (fun h158 => ?_)
                · refine AW.aload_n X dX12_item_212 (i := 0) rfl rfl ?_
                  refine AW.ldcS X (i := 8) dX12_item_213 rfl ?_
                  refine AW.callV X dX12_item_215 lX12_183 cfX12 (c_X12_word W144 hD144 (i := 8) (by decide)) om0 rfl rfl rfl rfl ⟨rfl, rfl⟩ (pI_k fun r215 μ215 hr215 => ?_)
                  obtain ⟨hA215, hB215, hD215, hS215⟩ := hr215
                  have W215 := wm_same W144 hS215
                  have hT215 := tm_at hT144 hS215
                  have hs215 := hs144.trn (hS215.mono at_it)
                  have hq215 := hD215.2.2.2.2
                  by_cases hw215 : smL (enR n L) 8 ((p + 1) + 1) = slen 8
                  · have hrw := rw_coa_ok he135 he144 he155 hw215
                    obtain ⟨pw, hpw⟩ : ∃ x, x = ((p + 1) + 1) + smL (enR n L) 8 ((p + 1) + 1) := ⟨_, rfl⟩
                    rw [← hpw] at hrw hD215
                    have hpw2 : p < pw := by omega
                    obtain rfl := hA215 hw215
                    refine AW.if_eqN X (tgt := 236) dX12_item_218 (by decide) (by omega) (fun h218 => ?_) (fun h218 => ?_)
                    · exact absurd h218 (by decide)
                    · refine AW.aload_n X dX12_item_221 (i := 0) rfl rfl ?_
                      refine AW.iconstN X 0 dX12_item_222 rfl ?_
                      refine AW.iconstN X 0 dX12_item_223 rfl ?_
                      refine AW.aload_n X dX12_item_224 (i := 0) rfl rfl ?_
                      refine AW.getI X dX12_item_225 fX12_87 rfl om0 (tm_0 hT215) ?_
                      refine AW.iconstN X 1 dX12_item_228 rfl ?_
                      refine AW.isub X dX12_item_229 ?_
                      rcases hv230 : rdN (enR n L) 0 (τ 6 0 0) pw with k230 | ⟨v230, q230⟩
                      · refine AW.callV X dX12_item_230 lX12_187 cfX12 (c_X12_number W215 hD215 (i := 0) (lo := 0) (hx := (τ 6 0 0)) (by decide) (by decide) (by omega) (dn_sub _)) om0 rfl rfl rfl rfl ⟨rfl, rfl⟩ (pI_k fun r230 μ230 hr230 => ?_)
                        obtain ⟨rfl, hS230, hF230, hK230⟩ := hr230.1 _ hv230
                        have hs230 := hs215.trn (hS230.mono nu_it)
                        have W230 := wm_same W215 hS230
                        refine AW.if_neN X (tgt := 238) dX12_item_233 (by decide) (by omega) (fun h233 => ?_) (fun h233 => ?_)
                        · exact absurd h233 (by decide)
                        · refine AW.iconstN X 0 dX12_item_236 rfl ?_
                          refine AW.zret X rfl hQ dX12_item_237 ⟨_, rfl, ?_⟩
                          have e : itOne (enR n L) τ p = .inl k230 := by simp [itOne, itC, hrw, hv230]
                          exact pim_l e hs230 rfl hF230 (by omega)
                      · refine AW.callV X dX12_item_230 lX12_187 cfX12 (c_X12_number W215 hD215 (i := 0) (lo := 0) (hx := (τ 6 0 0)) (by decide) (by decide) (by omega) (dn_sub _)) om0 rfl rfl rfl rfl ⟨rfl, rfl⟩ (pI_k fun r230 μ230 hr230 => ?_)
                        obtain ⟨rfl, hS230, hD230, hN230, hp230, hb230, hl230⟩ := hr230.2 _ _ hv230
                        have hs230 := hs215.trn (hS230.mono nu_it)
                        have W230 := wm_same W215 hS230
                        have hT230 := tm_nu hT215 hS230
                        have hq230 := hD230.2.2.2.2
                        refine AW.if_neN X (tgt := 238) dX12_item_233 (by decide) (by omega) (fun h233 => ?_) (fun h233 => ?_)
                        · have b8n := hi_n (tm_hi hT230 hb230)
                          refine AW.aload_n X dX12_item_238 (i := 0) rfl rfl ?_
                          refine AW.getR X dX12_item_239 fX12_26 rfl om0 (wm_at W230 5 rfl) ?_
                          refine AW.aload_n X dX12_item_242 (i := 0) rfl rfl ?_
                          refine AW.getR X dX12_item_243 fX12_65 rfl om0 (wm_at W230 18 rfl) ?_
                          refine AW.iconstN X 0 dX12_item_246 rfl ?_
                          refine AW.iaload X dX12_item_247 (am_at 18 rfl) (n2_in (by omega) (by decide)) (v := (nI v230)) (by rw [n2_clamp (by omega)]; exact hN230) ?_
                          refine AW.iaload X dX12_item_248 (am_at 5 rfl) (n2_in (by omega) (by decide)) (v := (nI (τ v230 0 2))) (by rw [n2_clamp (by omega)]; exact tm_n hT230 (by omega)) ?_
                          refine AW.bipushN X 8 dX12_item_249 rfl ?_
                          refine AW.icmp_neN X (tgt := 285) dX12_item_251 (by decide) (by omega) (by omega) (fun h251 => ?_) (fun h251 => ?_)
                          · have b8 := hi_n (tm_hi hT230 hb230)
                            have g251 : ¬ 8 ≤ τ v230 0 2 := by omega
                            refine AW.aload_n X dX12_item_285 (i := 0) rfl rfl ?_
                            refine AW.iconstN X 1 dX12_item_286 rfl ?_
                            refine AW.iconstN X 0 dX12_item_287 rfl ?_
                            refine AW.bipushN X 7 dX12_item_288 rfl ?_
                            rcases hv290 : rdN (enR n L) 0 8 q230 with k290 | ⟨v290, q290⟩
                            · refine AW.callV X dX12_item_290 lX12_187 cfX12 (c_X12_number W230 hD230 (i := 1) (lo := 0) (hx := 8) (by decide) (by decide) (by omega) (dn_s 7).symm) om0 rfl rfl rfl rfl ⟨rfl, rfl⟩ (pI_k fun r290 μ290 hr290 => ?_)
                              obtain ⟨rfl, hS290, hF290, hK290⟩ := hr290.1 _ hv290
                              have hs290 := hs230.trn (hS290.mono nu_it)
                              have W290 := wm_same W230 hS290
                              refine AW.if_eqN X (tgt := 328) dX12_item_293 (by decide) (by omega) (fun h293 => ?_) (fun h293 => ?_)
                              · refine AW.iconstN X 0 dX12_item_328 rfl ?_
                                refine AW.zret X rfl hQ dX12_item_329 ⟨_, rfl, ?_⟩
                                have e : itOne (enR n L) τ p = .inl k290 := by simp [itOne, itC, g251, hrw, hv230, hv290]
                                exact pim_l e hs290 rfl hF290 (by omega)
                              · exact absurd h293 (by decide)
                            · refine AW.callV X dX12_item_290 lX12_187 cfX12 (c_X12_number W230 hD230 (i := 1) (lo := 0) (hx := 8) (by decide) (by decide) (by omega) (dn_s 7).symm) om0 rfl rfl rfl rfl ⟨rfl, rfl⟩ (pI_k fun r290 μ290 hr290 => ?_)
                              obtain ⟨rfl, hS290, hD290, hN290, hp290, hb290, hl290⟩ := hr290.2 _ _ hv290
                              have hs290 := hs230.trn (hS290.mono nu_it)
                              have W290 := wm_same W230 hS290
                              have hT290 := tm_nu hT230 hS290
                              have hq290 := hD290.2.2.2.2
                              refine AW.if_eqN X (tgt := 328) dX12_item_293 (by decide) (by omega) (fun h293 => ?_) (fun h293 => ?_)
                              · exact absurd h293 (by decide)
                              · refine AW.aload_n X dX12_item_296 (i := 0) rfl rfl ?_
                                refine AW.iconstN X 2 dX12_item_297 rfl ?_
                                refine AW.iconstN X 0 dX12_item_298 rfl ?_
                                refine AW.iconstN X 5 dX12_item_299 rfl ?_
                                rcases hv300 : rdN (enR n L) 0 6 q290 with k300 | ⟨v300, q300⟩
                                · refine AW.callV X dX12_item_300 lX12_187 cfX12 (c_X12_number W290 hD290 (i := 2) (lo := 0) (hx := 6) (by decide) (by decide) (by omega) (dn_s 5).symm) om0 rfl rfl rfl rfl ⟨rfl, rfl⟩ (pI_k fun r300 μ300 hr300 => ?_)
                                  obtain ⟨rfl, hS300, hF300, hK300⟩ := hr300.1 _ hv300
                                  have hs300 := hs290.trn (hS300.mono nu_it)
                                  have W300 := wm_same W290 hS300
                                  refine AW.if_eqN X (tgt := 328) dX12_item_303 (by decide) (by omega) (fun h303 => ?_) (fun h303 => ?_)
                                  · refine AW.iconstN X 0 dX12_item_328 rfl ?_
                                    refine AW.zret X rfl hQ dX12_item_329 ⟨_, rfl, ?_⟩
                                    have e : itOne (enR n L) τ p = .inl k300 := by simp [itOne, itC, g251, hrw, hv230, hv290, hv300]
                                    exact pim_l e hs300 rfl hF300 (by omega)
                                  · exact absurd h303 (by decide)
                                · refine AW.callV X dX12_item_300 lX12_187 cfX12 (c_X12_number W290 hD290 (i := 2) (lo := 0) (hx := 6) (by decide) (by decide) (by omega) (dn_s 5).symm) om0 rfl rfl rfl rfl ⟨rfl, rfl⟩ (pI_k fun r300 μ300 hr300 => ?_)
                                  obtain ⟨rfl, hS300, hD300, hN300, hp300, hb300, hl300⟩ := hr300.2 _ _ hv300
                                  have hs300 := hs290.trn (hS300.mono nu_it)
                                  have W300 := wm_same W290 hS300
                                  have hT300 := tm_nu hT290 hS300
                                  have hq300 := hD300.2.2.2.2
                                  refine AW.if_eqN X (tgt := 328) dX12_item_303 (by decide) (by omega) (fun h303 => ?_) (fun h303 => ?_)
                                  · exact absurd h303 (by decide)
                                  · refine AW.aload_n X dX12_item_306 (i := 0) rfl rfl ?_
                                    refine AW.iconstN X 3 dX12_item_307 rfl ?_
                                    refine AW.iconstN X 1 dX12_item_308 rfl ?_
                                    refine AW.bipushN X 9 dX12_item_309 rfl ?_
                                    rcases hv311 : rdN (enR n L) 1 10 q300 with k311 | ⟨v311, q311⟩
                                    · refine AW.callV X dX12_item_311 lX12_187 cfX12 (c_X12_number W300 hD300 (i := 3) (lo := 1) (hx := 10) (by decide) (by decide) (by omega) (dn_s 9).symm) om0 rfl rfl rfl rfl ⟨rfl, rfl⟩ (pI_k fun r311 μ311 hr311 => ?_)
                                      obtain ⟨rfl, hS311, hF311, hK311⟩ := hr311.1 _ hv311
                                      have hs311 := hs300.trn (hS311.mono nu_it)
                                      have W311 := wm_same W300 hS311
                                      refine AW.if_eqN X (tgt := 328) dX12_item_314 (by decide) (by omega) (fun h314 => ?_) (fun h314 => ?_)
                                      · refine AW.iconstN X 0 dX12_item_328 rfl ?_
                                        refine AW.zret X rfl hQ dX12_item_329 ⟨_, rfl, ?_⟩
                                        have e : itOne (enR n L) τ p = .inl k311 := by simp [itOne, itC, g251, hrw, hv230, hv290, hv300, hv311]
                                        exact pim_l e hs311 rfl hF311 (by omega)
                                      · exact absurd h314 (by decide)
                                    · refine AW.callV X dX12_item_311 lX12_187 cfX12 (c_X12_number W300 hD300 (i := 3) (lo := 1) (hx := 10) (by decide) (by decide) (by omega) (dn_s 9).symm) om0 rfl rfl rfl rfl ⟨rfl, rfl⟩ (pI_k fun r311 μ311 hr311 => ?_)
                                      obtain ⟨rfl, hS311, hD311, hN311, hp311, hb311, hl311⟩ := hr311.2 _ _ hv311
                                      have hs311 := hs300.trn (hS311.mono nu_it)
                                      have W311 := wm_same W300 hS311
                                      have hT311 := tm_nu hT300 hS311
                                      have hq311 := hD311.2.2.2.2
                                      refine AW.if_eqN X (tgt := 328) dX12_item_314 (by decide) (by omega) (fun h314 => ?_) (fun h314 => ?_)
                                      · exact absurd h314 (by decide)
                                      · refine AW.aload_n X dX12_item_317 (i := 0) rfl rfl ?_
                                        refine AW.iconstN X 4 dX12_item_318 rfl ?_
                                        refine AW.iconstN X 0 dX12_item_319 rfl ?_
                                        refine AW.bipushN X 11 dX12_item_320 rfl ?_
                                        rcases hv322 : rdN (enR n L) 0 12 q311 with k322 | ⟨v322, q322⟩
                                        · refine AW.callV X dX12_item_322 lX12_187 cfX12 (c_X12_number W311 hD311 (i := 4) (lo := 0) (hx := 12) (by decide) (by decide) (by omega) (dn_s 11).symm) om0 rfl rfl rfl rfl ⟨rfl, rfl⟩ (pI_k fun r322 μ322 hr322 => ?_)
                                          obtain ⟨rfl, hS322, hF322, hK322⟩ := hr322.1 _ hv322
                                          have hs322 := hs311.trn (hS322.mono nu_it)
                                          have W322 := wm_same W311 hS322
                                          refine AW.if_neN X (tgt := 330) dX12_item_325 (by decide) (by omega) (fun h325 => ?_) (fun h325 => ?_)
                                          · exact absurd h325 (by decide)
                                          · refine AW.iconstN X 0 dX12_item_328 rfl ?_
                                            refine AW.zret X rfl hQ dX12_item_329 ⟨_, rfl, ?_⟩
                                            have e : itOne (enR n L) τ p = .inl k322 := by simp [itOne, itC, g251, hrw, hv230, hv290, hv300, hv311, hv322]
                                            exact pim_l e hs322 rfl hF322 (by omega)
                                        · refine AW.callV X dX12_item_322 lX12_187 cfX12 (c_X12_number W311 hD311 (i := 4) (lo := 0) (hx := 12) (by decide) (by decide) (by omega) (dn_s 11).symm) om0 rfl rfl rfl rfl ⟨rfl, rfl⟩ (pI_k fun r322 μ322 hr322 => ?_)
                                          obtain ⟨rfl, hS322, hD322, hN322, hp322, hb322, hl322⟩ := hr322.2 _ _ hv322
                                          have hs322 := hs311.trn (hS322.mono nu_it)
                                          have W322 := wm_same W311 hS322
                                          have hT322 := tm_nu hT311 hS322
                                          have hq322 := hD322.2.2.2.2
                                          refine AW.if_neN X (tgt := 330) dX12_item_325 (by decide) (by omega) (fun h325 => ?_) (fun h325 => ?_)
                                          · refine AW.aload_n X dX12_item_330 (i := 0) rfl rfl ?_
                                            refine AW.aload_n X dX12_item_331 (i := 0) rfl rfl ?_
                                            refine AW.getR X dX12_item_332 fX12_65 rfl om0 (wm_at W322 18 rfl) ?_
                                            refine AW.iconstN X 0 dX12_item_335 rfl ?_
                                            refine AW.iaload X dX12_item_336 (am_at 18 rfl) (n2_in (by omega) (by decide)) (v := (nI v230)) (by rw [n2_clamp (by omega)]; exact ((hS322.2 19 0 (by unfold NUp; omega)).trans ((hS311.2 19 0 (by unfold NUp; omega)).trans ((hS300.2 19 0 (by unfold NUp; omega)).trans ((hS290.2 19 0 (by unfold NUp; omega)).trans hN230))))) ?_
                                            refine AW.aload_n X dX12_item_337 (i := 0) rfl rfl ?_
                                            refine AW.getR X dX12_item_338 fX12_65 rfl om0 (wm_at W322 18 rfl) ?_
                                            refine AW.iconstN X 1 dX12_item_341 rfl ?_
                                            refine AW.iaload X dX12_item_342 (am_at 18 rfl) (n2_in (by omega) (by decide)) (v := (nI v290)) (by rw [n2_clamp (by omega)]; exact ((hS322.2 19 1 (by unfold NUp; omega)).trans ((hS311.2 19 1 (by unfold NUp; omega)).trans ((hS300.2 19 1 (by unfold NUp; omega)).trans hN290)))) ?_
                                            refine AW.aload_n X dX12_item_343 (i := 0) rfl rfl ?_
                                            refine AW.getR X dX12_item_344 fX12_65 rfl om0 (wm_at W322 18 rfl) ?_
                                            refine AW.iconstN X 2 dX12_item_347 rfl ?_
                                            refine AW.iaload X dX12_item_348 (am_at 18 rfl) (n2_in (by omega) (by decide)) (v := (nI v300)) (by rw [n2_clamp (by omega)]; exact ((hS322.2 19 2 (by unfold NUp; omega)).trans ((hS311.2 19 2 (by unfold NUp; omega)).trans hN300))) ?_
                                            refine AW.aload_n X dX12_item_349 (i := 0) rfl rfl ?_
                                            refine AW.getR X dX12_item_350 fX12_65 rfl om0 (wm_at W322 18 rfl) ?_
                                            refine AW.iconstN X 3 dX12_item_353 rfl ?_
                                            refine AW.iaload X dX12_item_354 (am_at 18 rfl) (n2_in (by omega) (by decide)) (v := (nI v311)) (by rw [n2_clamp (by omega)]; exact ((hS322.2 19 3 (by unfold NUp; omega)).trans hN311)) ?_
                                            refine AW.aload_n X dX12_item_355 (i := 0) rfl rfl ?_
                                            refine AW.getR X dX12_item_356 fX12_65 rfl om0 (wm_at W322 18 rfl) ?_
                                            refine AW.iconstN X 4 dX12_item_359 rfl ?_
                                            refine AW.iaload X dX12_item_360 (am_at 18 rfl) (n2_in (by omega) (by decide)) (v := (nI v322)) (by rw [n2_clamp (by omega)]; exact hN322) ?_
                                            refine AW.callV X dX12_item_361 lX12_145 cfX12 (c_X12_paints W322 hT322 hb230 (by omega)) om0 rfl rfl rfl rfl ⟨rfl, rfl⟩ (pI_k fun rp μp hpt => ?_)
                                            refine AW.pop X dX12_item_364 rfl ?_
                                            refine AW.iconstN X 1 dX12_item_365 rfl ?_
                                            refine AW.zret X rfl hQ dX12_item_366 ⟨_, rfl, ?_⟩
                                            obtain ⟨rfl, rfl⟩ := hpt
                                            have f := tmx_up hT322 (by omega) (pm_sm (t := v290) (c := v300) (th := v311) (g := v322) (y := τ 6 0 3) (by omega)) (hmx_put (τ 6 0 3) (tm_h hT322 hb230) (by omega) hb290 hb300 hl311 (by omega) hb322)
                                            have sp : SmM TPl μ322 (pmM μ322 v230 (τ v230 0 2) v290 v300 v311 v322 (τ 6 0 3)) := (pm_sm (by omega)).mono (fun _ _ z => hpl_t z)
                                            have e : itOne (enR n L) τ p = .inr (upH τ v230 (putV (τ v230) v290 v300 v311 v322 (τ 6 0 3)), q322) := by simp [itOne, itC, hrw, hv230, hv290, hv300, hv311, hv322, g251]
                                            exact pim_r e (hs322.trn (sp.mono tp_it)) rfl (rdm_tp hD322 sp) f (by omega)
                                          · exact absurd h325 (by decide)
                          · have g251 : 8 ≤ τ v230 0 2 := by omega
                            refine AW.aload_n X dX12_item_254 (i := 0) rfl rfl ?_
                            refine AW.dup X dX12_item_255 rfl ?_
                            refine AW.getI X dX12_item_256 fX12_158 rfl om0 hD230.1.2.1 ?_
                            refine AW.aload_n X dX12_item_259 (i := 0) rfl rfl ?_
                            refine AW.aload_n X dX12_item_260 (i := 0) rfl rfl ?_
                            refine AW.getI X dX12_item_261 fX12_158 rfl om0 hD230.1.2.1 ?_
                            refine AW.iconstN X 2 dX12_item_264 rfl ?_
                            refine AW.isubN X dX12_item_265 (by omega) ?_
                            refine AW.callV X dX12_item_266 lX12_190 cfX12 (c_X12_sign_ W230 hD230 (by omega)) om0 rfl rfl rfl rfl ⟨rfl, rfl⟩ (pR_k ?_)
                            refine AW.bipushN X 32 dX12_item_269 rfl ?_
                            refine AW.icmp_ne X (tgt := 278) dX12_item_271 (by decide) (fun h271 => ?_) (fun h271 => ?_)
                            · refine AW.iconstN X 2 dX12_item_278 rfl ?_
                              refine AW.isubN X dX12_item_279 (by omega) ?_
                              refine AW.putI X dX12_item_280 fX12_158 rfl rfl ⟨rfl, rfl⟩ (by decide) om0 ?_
                              refine AW.iconstN X 0 dX12_item_283 rfl ?_
                              refine AW.zret X rfl hQ dX12_item_284 ⟨_, rfl, ?_⟩
                              have hback := rdN_back hv230
                              have e : itOne (enR n L) τ p = .inl (pw + 1) := by simp [itOne, itC, hrw, hv230, g251]
                              exact pim_l e (hs230.trn (SmM.w (Or.inr (Or.inl ⟨rfl, rfl⟩)))) rfl ((by simp [wI] : (wI μ230 0 28 (nI (q230 - 2))).1 0 28 = nI (q230 - 2)).trans (congrArg nI (hback.2 h271))) (by omega)
                            · refine AW.iconstN X 1 dX12_item_274 rfl ?_
                              refine AW.goto X (tgt := 279) dX12_item_275 (by decide) ?_
                              refine AW.isubN X dX12_item_279 (by omega) ?_
                              refine AW.putI X dX12_item_280 fX12_158 rfl rfl ⟨rfl, rfl⟩ (by decide) om0 ?_
                              refine AW.iconstN X 0 dX12_item_283 rfl ?_
                              refine AW.zret X rfl hQ dX12_item_284 ⟨_, rfl, ?_⟩
                              have hback := rdN_back hv230
                              have e : itOne (enR n L) τ p = .inl (pw + 1) := by simp [itOne, itC, hrw, hv230, g251]
                              exact pim_l e (hs230.trn (SmM.w (Or.inr (Or.inl ⟨rfl, rfl⟩)))) rfl ((by simp [wI] : (wI μ230 0 28 (nI (q230 - 1))).1 0 28 = nI (q230 - 1)).trans (congrArg nI (hback.1 h271))) (by omega)
                        · exact absurd h233 (by decide)
                  · have hrw := rw_coa_no he135 he144 he155 hw215
                    obtain rfl := hB215 hw215
                    refine AW.if_eqN X (tgt := 236) dX12_item_218 (by decide) (by omega) (fun h218 => ?_) (fun h218 => ?_)
                    · refine AW.iconstN X 0 dX12_item_236 rfl ?_
                      refine AW.zret X rfl hQ dX12_item_237 ⟨_, rfl, ?_⟩
                      have e : itOne (enR n L) τ p = .inl (((p + 1) + 1) + smL (enR n L) 8 ((p + 1) + 1)) := by simp [itOne, itC, hrw]
                      exact pim_l e hs215 rfl hD215.1.2.1 (by omega)
                    · exact absurd h218 (by decide)
                · exact absurd h158 (by decide)
            · exact absurd h147 (by decide)
          · refine AW.callV X dX12_item_144 lX12_177 cfX12 (cf_is W135 hD135 (by decide) he144) om0 rfl rfl rfl rfl ⟨rfl, rfl⟩ (pI_k fun r144 μr144 hr144 => ?_)
            obtain ⟨rfl, hm144⟩ := hr144
            obtain rfl : (wI μ 0 28 (nI (p + 1))) = μr144 := hm144.symm
            refine AW.if_neN X (tgt := 152) dX12_item_147 (by decide) (by omega) (fun h147 => ?_) (fun h147 => ?_)
            · exact absurd h147 (by decide)
            · refine AW.iconstN X 0 dX12_item_150 rfl ?_
              refine AW.zret X rfl hQ dX12_item_151 ⟨_, rfl, ?_⟩
              have e : itOne (enR n L) τ p = .inl (p + 1) := by simp [itOne, rw_cx he135 he144]
              exact pim_l e hs135 rfl hD135.1.2.1 (by omega)
      · refine AW.callV X dX12_item_135 lX12_177 cfX12 (cf_is W hD (by decide) he135) om0 rfl rfl rfl rfl ⟨rfl, rfl⟩ (pI_k fun r135 μr135 hr135 => ?_)
        obtain ⟨rfl, hm135⟩ := hr135
        obtain rfl : μ = μr135 := hm135.symm
        refine AW.if_eqN X (tgt := 367) dX12_item_138 (by decide) (by omega) (fun h138 => ?_) (fun h138 => ?_)
        · refine AW.aload_n X dX12_item_367 (i := 0) rfl rfl ?_
          refine AW.bipushN X 104 dX12_item_368 rfl ?_
          by_cases he370 : enR n L p = nI 104
          · have hl370 := enR_lt (by decide) he370
            refine AW.callV X dX12_item_370 lX12_177 cfX12 (ct_is W hD (by decide) he370) om0 rfl rfl rfl rfl ⟨rfl, rfl⟩ (pI_k fun r370 μr370 hr370 => ?_)
            obtain ⟨rfl, rfl⟩ := hr370
            have hD370 := rdm_at hD (q := p + 1) (by omega)
            have W370 : WM (wI μ 0 28 (nI (p + 1))).2.2 := W
            have hs370 := (SmM.rf : SmM ITp μ μ).trn (SmM.w (o := 0) (k := 28) (v := nI (p + 1)) (Or.inr (Or.inl ⟨rfl, rfl⟩)))
            have hT370 : TMX (wI μ 0 28 (nI (p + 1))) τ := tm_same hT (SmM.w (P := ATp) ⟨rfl, rfl⟩) (fun q k a c => by unfold TPl at a; unfold ATp at c; omega)
            refine AW.if_neN X (tgt := 378) dX12_item_373 (by decide) (by omega) (fun h373 => ?_) (fun h373 => ?_)
            · refine AW.aload_n X dX12_item_378 (i := 0) rfl rfl ?_
              refine AW.bipushN X 105 dX12_item_379 rfl ?_
              by_cases he381 : enR n L (p + 1) = nI 105
              · have hl381 := enR_lt (by decide) he381
                refine AW.callV X dX12_item_381 lX12_177 cfX12 (ct_is W370 hD370 (by decide) he381) om0 rfl rfl rfl rfl ⟨rfl, rfl⟩ (pI_k fun r381 μr381 hr381 => ?_)
                obtain ⟨rfl, rfl⟩ := hr381
                have hD381 := rdm_at hD370 (q := (p + 1) + 1) (by omega)
                have W381 : WM (wI (wI μ 0 28 (nI (p + 1))) 0 28 (nI ((p + 1) + 1))).2.2 := W370
                have hs381 := hs370.trn (SmM.w (o := 0) (k := 28) (v := nI ((p + 1) + 1)) (Or.inr (Or.inl ⟨rfl, rfl⟩)))
                have hT381 : TMX (wI (wI μ 0 28 (nI (p + 1))) 0 28 (nI ((p + 1) + 1))) τ := tm_same hT370 (SmM.w (P := ATp) ⟨rfl, rfl⟩) (fun q k a c => by unfold TPl at a; unfold ATp at c; omega)
                refine AW.if_eqN X (tgt := 438) dX12_item_384 (by decide) (by omega) (fun h384 => ?_) (fun h384 => ?_)
                · exact absurd h384 (by decide)
                · refine AW.aload_n X dX12_item_387 (i := 0) rfl rfl ?_
                  refine AW.ldcS X (i := 9) dX12_item_388 rfl ?_
                  refine AW.callV X dX12_item_390 lX12_183 cfX12 (c_X12_word W381 hD381 (i := 9) (by decide)) om0 rfl rfl rfl rfl ⟨rfl, rfl⟩ (pI_k fun r390 μ390 hr390 => ?_)
                  obtain ⟨hA390, hB390, hD390, hS390⟩ := hr390
                  have W390 := wm_same W381 hS390
                  have hT390 := tm_at hT381 hS390
                  have hs390 := hs381.trn (hS390.mono at_it)
                  have hq390 := hD390.2.2.2.2
                  by_cases hw390 : smL (enR n L) 9 ((p + 1) + 1) = slen 9
                  · have hrw := rw_hi_ok he370 he381 hw390
                    obtain ⟨pw, hpw⟩ : ∃ x, x = ((p + 1) + 1) + smL (enR n L) 9 ((p + 1) + 1) := ⟨_, rfl⟩
                    rw [← hpw] at hrw hD390
                    have hpw2 : p < pw := by omega
                    obtain rfl := hA390 hw390
                    refine AW.if_eqN X (tgt := 417) dX12_item_393 (by decide) (by omega) (fun h393 => ?_) (fun h393 => ?_)
                    · exact absurd h393 (by decide)
                    · refine AW.aload_n X dX12_item_396 (i := 0) rfl rfl ?_
                      refine AW.iconstN X 0 dX12_item_397 rfl ?_
                      refine AW.iconstN X 0 dX12_item_398 rfl ?_
                      refine AW.iconstN X 5 dX12_item_399 rfl ?_
                      rcases hv400 : rdN (enR n L) 0 6 pw with k400 | ⟨v400, q400⟩
                      · refine AW.callV X dX12_item_400 lX12_187 cfX12 (c_X12_number W390 hD390 (i := 0) (lo := 0) (hx := 6) (by decide) (by decide) (by omega) (dn_s 5).symm) om0 rfl rfl rfl rfl ⟨rfl, rfl⟩ (pI_k fun r400 μ400 hr400 => ?_)
                        obtain ⟨rfl, hS400, hF400, hK400⟩ := hr400.1 _ hv400
                        have hs400 := hs390.trn (hS400.mono nu_it)
                        have W400 := wm_same W390 hS400
                        refine AW.if_eqN X (tgt := 417) dX12_item_403 (by decide) (by omega) (fun h403 => ?_) (fun h403 => ?_)
                        · refine AW.iconstN X 0 dX12_item_417 rfl ?_
                          refine AW.zret X rfl hQ dX12_item_418 ⟨_, rfl, ?_⟩
                          have e : itOne (enR n L) τ p = .inl k400 := by simp [itOne, itK, hrw, hv400]
                          exact pim_l e hs400 rfl hF400 (by omega)
                        · exact absurd h403 (by decide)
                      · refine AW.callV X dX12_item_400 lX12_187 cfX12 (c_X12_number W390 hD390 (i := 0) (lo := 0) (hx := 6) (by decide) (by decide) (by omega) (dn_s 5).symm) om0 rfl rfl rfl rfl ⟨rfl, rfl⟩ (pI_k fun r400 μ400 hr400 => ?_)
                        obtain ⟨rfl, hS400, hD400, hN400, hp400, hb400, hl400⟩ := hr400.2 _ _ hv400
                        have hs400 := hs390.trn (hS400.mono nu_it)
                        have W400 := wm_same W390 hS400
                        have hT400 := tm_nu hT390 hS400
                        have hq400 := hD400.2.2.2.2
                        refine AW.if_eqN X (tgt := 417) dX12_item_403 (by decide) (by omega) (fun h403 => ?_) (fun h403 => ?_)
                        · exact absurd h403 (by decide)
                        · refine AW.aload_n X dX12_item_406 (i := 0) rfl rfl ?_
                          refine AW.iconstN X 1 dX12_item_407 rfl ?_
                          refine AW.iconstN X 0 dX12_item_408 rfl ?_
                          refine AW.bipushN X 9 dX12_item_409 rfl ?_
                          rcases hv411 : rdN (enR n L) 0 10 q400 with k411 | ⟨v411, q411⟩
                          · refine AW.callV X dX12_item_411 lX12_187 cfX12 (c_X12_number W400 hD400 (i := 1) (lo := 0) (hx := 10) (by decide) (by decide) (by omega) (dn_s 9).symm) om0 rfl rfl rfl rfl ⟨rfl, rfl⟩ (pI_k fun r411 μ411 hr411 => ?_)
                            obtain ⟨rfl, hS411, hF411, hK411⟩ := hr411.1 _ hv411
                            have hs411 := hs400.trn (hS411.mono nu_it)
                            have W411 := wm_same W400 hS411
                            refine AW.if_neN X (tgt := 419) dX12_item_414 (by decide) (by omega) (fun h414 => ?_) (fun h414 => ?_)
                            · exact absurd h414 (by decide)
                            · refine AW.iconstN X 0 dX12_item_417 rfl ?_
                              refine AW.zret X rfl hQ dX12_item_418 ⟨_, rfl, ?_⟩
                              have e : itOne (enR n L) τ p = .inl k411 := by simp [itOne, itK, hrw, hv400, hv411]
                              exact pim_l e hs411 rfl hF411 (by omega)
                          · refine AW.callV X dX12_item_411 lX12_187 cfX12 (c_X12_number W400 hD400 (i := 1) (lo := 0) (hx := 10) (by decide) (by decide) (by omega) (dn_s 9).symm) om0 rfl rfl rfl rfl ⟨rfl, rfl⟩ (pI_k fun r411 μ411 hr411 => ?_)
                            obtain ⟨rfl, hS411, hD411, hN411, hp411, hb411, hl411⟩ := hr411.2 _ _ hv411
                            have hs411 := hs400.trn (hS411.mono nu_it)
                            have W411 := wm_same W400 hS411
                            have hT411 := tm_nu hT400 hS411
                            have hq411 := hD411.2.2.2.2
                            refine AW.if_neN X (tgt := 419) dX12_item_414 (by decide) (by omega) (fun h414 => ?_) (fun h414 => ?_)
                            · refine AW.aload_n X dX12_item_419 (i := 0) rfl rfl ?_
                              refine AW.getR X dX12_item_420 fX12_47 rfl om0 (wm_at W411 12 rfl) ?_
                              refine AW.aload_n X dX12_item_423 (i := 0) rfl rfl ?_
                              refine AW.getR X dX12_item_424 fX12_65 rfl om0 (wm_at W411 18 rfl) ?_
                              refine AW.iconstN X 0 dX12_item_427 rfl ?_
                              refine AW.iaload X dX12_item_428 (am_at 18 rfl) (n2_in (by omega) (by decide)) (v := (nI v400)) (by rw [n2_clamp (by omega)]; exact ((hS411.2 19 0 (by unfold NUp; omega)).trans hN400)) ?_
                              refine AW.aload_n X dX12_item_429 (i := 0) rfl rfl ?_
                              refine AW.getR X dX12_item_430 fX12_65 rfl om0 (wm_at W411 18 rfl) ?_
                              refine AW.iconstN X 1 dX12_item_433 rfl ?_
                              refine AW.iaload X dX12_item_434 (am_at 18 rfl) (n2_in (by omega) (by decide)) (v := (nI v411)) (by rw [n2_clamp (by omega)]; exact hN411) ?_
                              refine AW.iastore X dX12_item_435 (by decide) (am_at 12 rfl) (n2_in (by omega) (by decide)) ?_
                              rw [n2_clamp (by omega)]
                              refine AW.iconstN X 1 dX12_item_436 rfl ?_
                              refine AW.zret X rfl hQ dX12_item_437 ⟨_, rfl, ?_⟩
                              have f := tmx_pal hT411 1 v400 v411 (by decide) hb400 ⟨fun _ => by omega, fun z => absurd z (by decide)⟩
                              have sp : SmM TPl μ411 (wI μ411 13 v400 (nI v411)) := SmM.w (o := 13) (k := v400) (v := nI v411) (Or.inl ⟨by decide, by decide⟩)
                              have e : itOne (enR n L) τ p = .inr (upS τ 1 v400 v411, q411) := by simp [itOne, itK, hrw, hv400, hv411]
                              exact pim_r e (hs411.trn (sp.mono tp_it)) rfl (rdm_tp hD411 sp) f (by omega)
                            · exact absurd h414 (by decide)
                  · have hrw := rw_hi_no he370 he381 hw390
                    obtain rfl := hB390 hw390
                    refine AW.if_eqN X (tgt := 417) dX12_item_393 (by decide) (by omega) (fun h393 => ?_) (fun h393 => ?_)
                    · refine AW.iconstN X 0 dX12_item_417 rfl ?_
                      refine AW.zret X rfl hQ dX12_item_418 ⟨_, rfl, ?_⟩
                      have e : itOne (enR n L) τ p = .inl (((p + 1) + 1) + smL (enR n L) 9 ((p + 1) + 1)) := by simp [itOne, itK, hrw]
                      exact pim_l e hs390 rfl hD390.1.2.1 (by omega)
                    · exact absurd h393 (by decide)
              · refine AW.callV X dX12_item_381 lX12_177 cfX12 (cf_is W370 hD370 (by decide) he381) om0 rfl rfl rfl rfl ⟨rfl, rfl⟩ (pI_k fun r381 μr381 hr381 => ?_)
                obtain ⟨rfl, hm381⟩ := hr381
                obtain rfl : (wI μ 0 28 (nI (p + 1))) = μr381 := hm381.symm
                refine AW.if_eqN X (tgt := 438) dX12_item_384 (by decide) (by omega) (fun h384 => ?_) (fun h384 => ?_)
                · refine AW.aload_n X dX12_item_438 (i := 0) rfl rfl ?_
                  refine AW.bipushN X 97 dX12_item_439 rfl ?_
                  by_cases he441 : enR n L (p + 1) = nI 97
                  · have hl441 := enR_lt (by decide) he441
                    refine AW.callV X dX12_item_441 lX12_177 cfX12 (ct_is W370 hD370 (by decide) he441) om0 rfl rfl rfl rfl ⟨rfl, rfl⟩ (pI_k fun r441 μr441 hr441 => ?_)
                    obtain ⟨rfl, rfl⟩ := hr441
                    have hD441 := rdm_at hD370 (q := (p + 1) + 1) (by omega)
                    have W441 : WM (wI (wI μ 0 28 (nI (p + 1))) 0 28 (nI ((p + 1) + 1))).2.2 := W370
                    have hs441 := hs370.trn (SmM.w (o := 0) (k := 28) (v := nI ((p + 1) + 1)) (Or.inr (Or.inl ⟨rfl, rfl⟩)))
                    have hT441 : TMX (wI (wI μ 0 28 (nI (p + 1))) 0 28 (nI ((p + 1) + 1))) τ := tm_same hT370 (SmM.w (P := ATp) ⟨rfl, rfl⟩) (fun q k a c => by unfold TPl at a; unfold ATp at c; omega)
                    refine AW.if_eqN X (tgt := 482) dX12_item_444 (by decide) (by omega) (fun h444 => ?_) (fun h444 => ?_)
                    · exact absurd h444 (by decide)
                    · refine AW.aload_n X dX12_item_447 (i := 0) rfl rfl ?_
                      refine AW.ldcS X (i := 10) dX12_item_448 rfl ?_
                      refine AW.callV X dX12_item_450 lX12_183 cfX12 (c_X12_word W441 hD441 (i := 10) (by decide)) om0 rfl rfl rfl rfl ⟨rfl, rfl⟩ (pI_k fun r450 μ450 hr450 => ?_)
                      obtain ⟨hA450, hB450, hD450, hS450⟩ := hr450
                      have W450 := wm_same W441 hS450
                      have hT450 := tm_at hT441 hS450
                      have hs450 := hs441.trn (hS450.mono at_it)
                      have hq450 := hD450.2.2.2.2
                      by_cases hw450 : smL (enR n L) 10 ((p + 1) + 1) = slen 10
                      · have hrw := rw_ha_ok he370 he441 hw450
                        obtain ⟨pw, hpw⟩ : ∃ x, x = ((p + 1) + 1) + smL (enR n L) 10 ((p + 1) + 1) := ⟨_, rfl⟩
                        rw [← hpw] at hrw hD450
                        have hpw2 : p < pw := by omega
                        obtain rfl := hA450 hw450
                        refine AW.if_eqN X (tgt := 467) dX12_item_453 (by decide) (by omega) (fun h453 => ?_) (fun h453 => ?_)
                        · exact absurd h453 (by decide)
                        · refine AW.aload_n X dX12_item_456 (i := 0) rfl rfl ?_
                          refine AW.iconstN X 0 dX12_item_457 rfl ?_
                          refine AW.iconstN X 0 dX12_item_458 rfl ?_
                          refine AW.bipushN X 99 dX12_item_459 rfl ?_
                          rcases hv461 : rdN (enR n L) 0 100 pw with k461 | ⟨v461, q461⟩
                          · refine AW.callV X dX12_item_461 lX12_187 cfX12 (c_X12_number W450 hD450 (i := 0) (lo := 0) (hx := 100) (by decide) (by decide) (by omega) (dn_s 99).symm) om0 rfl rfl rfl rfl ⟨rfl, rfl⟩ (pI_k fun r461 μ461 hr461 => ?_)
                            obtain ⟨rfl, hS461, hF461, hK461⟩ := hr461.1 _ hv461
                            have hs461 := hs450.trn (hS461.mono nu_it)
                            have W461 := wm_same W450 hS461
                            refine AW.if_neN X (tgt := 469) dX12_item_464 (by decide) (by omega) (fun h464 => ?_) (fun h464 => ?_)
                            · exact absurd h464 (by decide)
                            · refine AW.iconstN X 0 dX12_item_467 rfl ?_
                              refine AW.zret X rfl hQ dX12_item_468 ⟨_, rfl, ?_⟩
                              have e : itOne (enR n L) τ p = .inl k461 := by simp [itOne, itL, hrw, hv461]
                              exact pim_l e hs461 rfl hF461 (by omega)
                          · refine AW.callV X dX12_item_461 lX12_187 cfX12 (c_X12_number W450 hD450 (i := 0) (lo := 0) (hx := 100) (by decide) (by decide) (by omega) (dn_s 99).symm) om0 rfl rfl rfl rfl ⟨rfl, rfl⟩ (pI_k fun r461 μ461 hr461 => ?_)
                            obtain ⟨rfl, hS461, hD461, hN461, hp461, hb461, hl461⟩ := hr461.2 _ _ hv461
                            have hs461 := hs450.trn (hS461.mono nu_it)
                            have W461 := wm_same W450 hS461
                            have hT461 := tm_nu hT450 hS461
                            have hq461 := hD461.2.2.2.2
                            refine AW.if_neN X (tgt := 469) dX12_item_464 (by decide) (by omega) (fun h464 => ?_) (fun h464 => ?_)
                            · refine AW.aload_n X dX12_item_469 (i := 0) rfl rfl ?_
                              refine AW.aload_n X dX12_item_470 (i := 0) rfl rfl ?_
                              refine AW.getR X dX12_item_471 fX12_65 rfl om0 (wm_at W461 18 rfl) ?_
                              refine AW.iconstN X 0 dX12_item_474 rfl ?_
                              refine AW.iaload X dX12_item_475 (am_at 18 rfl) (n2_in (by omega) (by decide)) (v := (nI v461)) (by rw [n2_clamp (by omega)]; exact hN461) ?_
                              refine AW.callV X dX12_item_476 lX12_204 cfX12 (c_X12_hailAll W461 hT461 (by omega)) om0 rfl rfl rfl rfl ⟨rfl, rfl⟩ (pI_k fun rha μha hha => ?_)
                              refine AW.pop X dX12_item_479 rfl ?_
                              refine AW.iconstN X 1 dX12_item_480 rfl ?_
                              refine AW.zret X rfl hQ dX12_item_481 ⟨_, rfl, ?_⟩
                              obtain ⟨rfl, f, sp⟩ := hha
                              have e : itOne (enR n L) τ p = .inr (hailT τ v461 (τ 6 0 0), q461) := by simp [itOne, itL, hrw, hv461]
                              exact pim_r e (hs461.trn (sp.mono tp_it)) rfl (rdm_tp hD461 sp) f (by omega)
                            · exact absurd h464 (by decide)
                      · have hrw := rw_ha_no he370 he441 hw450
                        obtain rfl := hB450 hw450
                        refine AW.if_eqN X (tgt := 467) dX12_item_453 (by decide) (by omega) (fun h453 => ?_) (fun h453 => ?_)
                        · refine AW.iconstN X 0 dX12_item_467 rfl ?_
                          refine AW.zret X rfl hQ dX12_item_468 ⟨_, rfl, ?_⟩
                          have e : itOne (enR n L) τ p = .inl (((p + 1) + 1) + smL (enR n L) 10 ((p + 1) + 1)) := by simp [itOne, itL, hrw]
                          exact pim_l e hs450 rfl hD450.1.2.1 (by omega)
                        · exact absurd h453 (by decide)
                  · refine AW.callV X dX12_item_441 lX12_177 cfX12 (cf_is W370 hD370 (by decide) he441) om0 rfl rfl rfl rfl ⟨rfl, rfl⟩ (pI_k fun r441 μr441 hr441 => ?_)
                    obtain ⟨rfl, hm441⟩ := hr441
                    obtain rfl : (wI μ 0 28 (nI (p + 1))) = μr441 := hm441.symm
                    refine AW.if_eqN X (tgt := 482) dX12_item_444 (by decide) (by omega) (fun h444 => ?_) (fun h444 => ?_)
                    · refine AW.aload_n X dX12_item_482 (i := 0) rfl rfl ?_
                      refine AW.ldcS X (i := 11) dX12_item_483 rfl ?_
                      refine AW.callV X dX12_item_485 lX12_183 cfX12 (c_X12_word W370 hD370 (i := 11) (by decide)) om0 rfl rfl rfl rfl ⟨rfl, rfl⟩ (pI_k fun r485 μ485 hr485 => ?_)
                      obtain ⟨hA485, hB485, hD485, hS485⟩ := hr485
                      have W485 := wm_same W370 hS485
                      have hT485 := tm_at hT370 hS485
                      have hs485 := hs370.trn (hS485.mono at_it)
                      have hq485 := hD485.2.2.2.2
                      by_cases hw485 : smL (enR n L) 11 (p + 1) = slen 11
                      · have hrw := rw_ho_ok he370 he381 he441 hw485
                        obtain ⟨pw, hpw⟩ : ∃ x, x = (p + 1) + smL (enR n L) 11 (p + 1) := ⟨_, rfl⟩
                        rw [← hpw] at hrw hD485
                        have hpw2 : p < pw := by omega
                        obtain rfl := hA485 hw485
                        refine AW.if_neN X (tgt := 493) dX12_item_488 (by decide) (by omega) (fun h488 => ?_) (fun h488 => ?_)
                        · refine AW.aload_n X dX12_item_493 (i := 0) rfl rfl ?_
                          refine AW.getI X dX12_item_494 fX12_87 rfl om0 (tm_0 hT485) ?_
                          refine AW.bipushN X 6 dX12_item_497 rfl ?_
                          refine AW.icmp_neN X (tgt := 509) dX12_item_499 (by decide) (by omega) (by omega) (fun h499 => ?_) (fun h499 => ?_)
                          · have g499 : ¬ 6 ≤ τ 6 0 0 := by omega
                            refine AW.aload_n X dX12_item_509 (i := 0) rfl rfl ?_
                            refine AW.iconstN X 0 dX12_item_510 rfl ?_
                            refine AW.iconstN X 0 dX12_item_511 rfl ?_
                            refine AW.bipushN X 6 dX12_item_512 rfl ?_
                            rcases hv514 : rdN (enR n L) 0 7 pw with k514 | ⟨v514, q514⟩
                            · refine AW.callV X dX12_item_514 lX12_187 cfX12 (c_X12_number W485 hD485 (i := 0) (lo := 0) (hx := 7) (by decide) (by decide) (by omega) (dn_s 6).symm) om0 rfl rfl rfl rfl ⟨rfl, rfl⟩ (pI_k fun r514 μ514 hr514 => ?_)
                              obtain ⟨rfl, hS514, hF514, hK514⟩ := hr514.1 _ hv514
                              have hs514 := hs485.trn (hS514.mono nu_it)
                              have W514 := wm_same W485 hS514
                              refine AW.if_eqN X (tgt := 531) dX12_item_517 (by decide) (by omega) (fun h517 => ?_) (fun h517 => ?_)
                              · refine AW.iconstN X 0 dX12_item_531 rfl ?_
                                refine AW.zret X rfl hQ dX12_item_532 ⟨_, rfl, ?_⟩
                                have e : itOne (enR n L) τ p = .inl k514 := by simp [itOne, itH, g499, hrw, hv514]
                                exact pim_l e hs514 rfl hF514 (by omega)
                              · exact absurd h517 (by decide)
                            · refine AW.callV X dX12_item_514 lX12_187 cfX12 (c_X12_number W485 hD485 (i := 0) (lo := 0) (hx := 7) (by decide) (by decide) (by omega) (dn_s 6).symm) om0 rfl rfl rfl rfl ⟨rfl, rfl⟩ (pI_k fun r514 μ514 hr514 => ?_)
                              obtain ⟨rfl, hS514, hD514, hN514, hp514, hb514, hl514⟩ := hr514.2 _ _ hv514
                              have hs514 := hs485.trn (hS514.mono nu_it)
                              have W514 := wm_same W485 hS514
                              have hT514 := tm_nu hT485 hS514
                              have hq514 := hD514.2.2.2.2
                              refine AW.if_eqN X (tgt := 531) dX12_item_517 (by decide) (by omega) (fun h517 => ?_) (fun h517 => ?_)
                              · exact absurd h517 (by decide)
                              · refine AW.aload_n X dX12_item_520 (i := 0) rfl rfl ?_
                                refine AW.iconstN X 1 dX12_item_521 rfl ?_
                                refine AW.iconstN X 0 dX12_item_522 rfl ?_
                                refine AW.bipushN X 9 dX12_item_523 rfl ?_
                                rcases hv525 : rdN (enR n L) 0 10 q514 with k525 | ⟨v525, q525⟩
                                · refine AW.callV X dX12_item_525 lX12_187 cfX12 (c_X12_number W514 hD514 (i := 1) (lo := 0) (hx := 10) (by decide) (by decide) (by omega) (dn_s 9).symm) om0 rfl rfl rfl rfl ⟨rfl, rfl⟩ (pI_k fun r525 μ525 hr525 => ?_)
                                  obtain ⟨rfl, hS525, hF525, hK525⟩ := hr525.1 _ hv525
                                  have hs525 := hs514.trn (hS525.mono nu_it)
                                  have W525 := wm_same W514 hS525
                                  refine AW.if_neN X (tgt := 533) dX12_item_528 (by decide) (by omega) (fun h528 => ?_) (fun h528 => ?_)
                                  · exact absurd h528 (by decide)
                                  · refine AW.iconstN X 0 dX12_item_531 rfl ?_
                                    refine AW.zret X rfl hQ dX12_item_532 ⟨_, rfl, ?_⟩
                                    have e : itOne (enR n L) τ p = .inl k525 := by simp [itOne, itH, g499, hrw, hv514, hv525]
                                    exact pim_l e hs525 rfl hF525 (by omega)
                                · refine AW.callV X dX12_item_525 lX12_187 cfX12 (c_X12_number W514 hD514 (i := 1) (lo := 0) (hx := 10) (by decide) (by decide) (by omega) (dn_s 9).symm) om0 rfl rfl rfl rfl ⟨rfl, rfl⟩ (pI_k fun r525 μ525 hr525 => ?_)
                                  obtain ⟨rfl, hS525, hD525, hN525, hp525, hb525, hl525⟩ := hr525.2 _ _ hv525
                                  have hs525 := hs514.trn (hS525.mono nu_it)
                                  have W525 := wm_same W514 hS525
                                  have hT525 := tm_nu hT514 hS525
                                  have hq525 := hD525.2.2.2.2
                                  refine AW.if_neN X (tgt := 533) dX12_item_528 (by decide) (by omega) (fun h528 => ?_) (fun h528 => ?_)
                                  · refine AW.aload_n X dX12_item_533 (i := 0) rfl rfl ?_
                                    refine AW.aload_n X dX12_item_534 (i := 0) rfl rfl ?_
                                    refine AW.getR X dX12_item_535 fX12_65 rfl om0 (wm_at W525 18 rfl) ?_
                                    refine AW.iconstN X 0 dX12_item_538 rfl ?_
                                    refine AW.iaload X dX12_item_539 (am_at 18 rfl) (n2_in (by omega) (by decide)) (v := (nI v514)) (by rw [n2_clamp (by omega)]; exact ((hS525.2 19 0 (by unfold NUp; omega)).trans hN514)) ?_
                                    refine AW.aload_n X dX12_item_540 (i := 0) rfl rfl ?_
                                    refine AW.getR X dX12_item_541 fX12_65 rfl om0 (wm_at W525 18 rfl) ?_
                                    refine AW.iconstN X 1 dX12_item_544 rfl ?_
                                    refine AW.iaload X dX12_item_545 (am_at 18 rfl) (n2_in (by omega) (by decide)) (v := (nI v525)) (by rw [n2_clamp (by omega)]; exact hN525) ?_
                                    refine AW.callV X dX12_item_546 lX12_133 cfX12 (c_X12_newHouse W525 hT525 (by omega)) om0 rfl rfl rfl rfl ⟨rfl, rfl⟩ (pI_k fun rnh μnh hnh => ?_)
                                    refine AW.pop X dX12_item_549 rfl ?_
                                    refine AW.iconstN X 1 dX12_item_550 rfl ?_
                                    refine AW.zret X rfl hQ dX12_item_551 ⟨_, rfl, ?_⟩
                                    obtain ⟨rfl, rfl⟩ := hnh
                                    have f := tmx_build (k := v514) (a := v525) hT525 hb514 (by omega) (by omega)
                                    have sp : SmM TPl μ525 (nhM μ525 (τ 6 0 0) v514 v525) := nh_tp
                                    have e : itOne (enR n L) τ p = .inr (buildT τ v514 v525, q525) := by simp [itOne, itH, hrw, hv514, hv525, g499]
                                    exact pim_r e (hs525.trn (sp.mono tp_it)) rfl (rdm_tp hD525 sp) f (by omega)
                                  · exact absurd h528 (by decide)
                          · refine AW.aload_n X dX12_item_502 (i := 0) rfl rfl ?_
                            refine AW.iload_n X dX12_item_503 (i := 1) rfl rfl ?_
                            refine AW.putI X dX12_item_504 fX12_158 rfl rfl ⟨rfl, rfl⟩ (by decide) om0 ?_
                            refine AW.iconstN X 0 dX12_item_507 rfl ?_
                            refine AW.zret X rfl hQ dX12_item_508 ⟨_, rfl, ?_⟩
                            have e : itOne (enR n L) τ p = .inl p := by simp [itOne, itH, hrw, h499]
                            exact pim_l e (hs485.trn (SmM.w (Or.inr (Or.inl ⟨rfl, rfl⟩)))) rfl (by simp [wI]) (by omega)
                        · exact absurd h488 (by decide)
                      · have hrw := rw_ho_no he370 he381 he441 hw485
                        obtain rfl := hB485 hw485
                        refine AW.if_neN X (tgt := 493) dX12_item_488 (by decide) (by omega) (fun h488 => ?_) (fun h488 => ?_)
                        · exact absurd h488 (by decide)
                        · refine AW.iconstN X 0 dX12_item_491 rfl ?_
                          refine AW.zret X rfl hQ dX12_item_492 ⟨_, rfl, ?_⟩
                          have e : itOne (enR n L) τ p = .inl ((p + 1) + smL (enR n L) 11 (p + 1)) := by simp [itOne, itH, hrw]
                          exact pim_l e hs485 rfl hD485.1.2.1 (by omega)
                    · exact absurd h444 (by decide)
                · exact absurd h384 (by decide)
            · exact absurd h373 (by decide)
          · refine AW.callV X dX12_item_370 lX12_177 cfX12 (cf_is W hD (by decide) he370) om0 rfl rfl rfl rfl ⟨rfl, rfl⟩ (pI_k fun r370 μr370 hr370 => ?_)
            obtain ⟨rfl, hm370⟩ := hr370
            obtain rfl : μ = μr370 := hm370.symm
            refine AW.if_neN X (tgt := 378) dX12_item_373 (by decide) (by omega) (fun h373 => ?_) (fun h373 => ?_)
            · exact absurd h373 (by decide)
            · refine AW.iconstN X 0 dX12_item_376 rfl ?_
              refine AW.zret X rfl hQ dX12_item_377 ⟨_, rfl, ?_⟩
              have e : itOne (enR n L) τ p = .inl p := by simp [itOne, rw_none he8 he135 he370]
              exact pim_l e (SmM.rf : SmM ITp μ μ) rfl hD.1.2.1 (by omega)
        · exact absurd h138 (by decide)
    · exact absurd h11 (by decide)
