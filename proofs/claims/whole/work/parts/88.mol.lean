theorem c_winN {l : Launch} {δ : Dl} {b : Nat} {μ : Mm} {v lo hx : Nat} (hv : v < 1000) (hl : lo < 1000) (hh : hx < 1000) : MCM l δ b yX12_within cX12_within 3 (some .boolean) 1 [.int (nI v), .int (nI lo), .int (dn hx)] μ (pI fun r μ' => r = bI (decide (lo ≤ v ∧ v < hx)) ∧ μ' = μ) := by
  rw [← win_dn hv hl hh]
  exact c_X12_within
set_option maxRecDepth 100000 in
set_option maxHeartbeats 4000000 in
theorem c_X12_number {l : Launch} {δ : Dl} {b : Nat} {μ : Mm} (W : WM μ.2.2) {s n p : Nat} {L : Nat → Int64} (hD : RDM μ s n p L) {i lo hx : Nat} (hi5 : i < 5) (hlo : lo < 1000) (hhx : hx < 1000) {hi : Int32} (hh : hi = dn hx)  : MCM l δ b yX12_number cX12_number 6 (some .boolean) 3 [.ref (b + 0), .int (nI i), .int (nI lo), .int hi] μ (pI fun r μ' => (∀ k, rdN (enR n L) lo hx p = .inl k → r = nI 0 ∧ SmM (NUp i) μ μ' ∧ μ'.1 0 28 = nI k ∧ k ≤ n) ∧ (∀ v q, rdN (enR n L) lo hx p = .inr (v, q) → r = nI 1 ∧ SmM (NUp i) μ μ' ∧ RDM μ' s n q L ∧ μ'.1 19 i = nI v ∧ p < q ∧ v < hx ∧ lo ≤ v)) := by
  have hs8 := hD.2.2.1
  have hk := hD.2.2.2.1
  have hq := hD.2.2.2.2
  refine MC.intro ([some (.ref (b + 0)), some (.int (nI i)), some (.int (nI lo)), some (.int hi), none, none]) (by decide) rfl rfl fun κ Qc hl hQ X => ?_
  subst hl
  subst hh
  refine AW.aload_n X dX12_number_0 (i := 0) rfl rfl ?_
  refine AW.bipushN X 32 dX12_number_1 rfl ?_
  by_cases he3 : enR n L p = nI 32
  · have hl3 := enR_lt (by decide) he3
    refine AW.callV X dX12_number_3 lX12_177 cfX12 (ct_is W hD (by decide) he3) om0 rfl rfl rfl rfl ⟨rfl, rfl⟩ (pI_k fun r3 μr3 hr3 => ?_)
    obtain ⟨rfl, rfl⟩ := hr3
    have hD3 := rdm_at hD (q := p + 1) (by omega)
    have W3 : WM (wI μ 0 28 (nI (p + 1))).2.2 := W
    refine AW.if_neN X (tgt := 11) dX12_number_6 (by decide) (by omega) (fun h6 => ?_) (fun h6 => ?_)
    · refine AW.aload_n X dX12_number_11 (i := 0) rfl rfl ?_
      refine AW.getI X dX12_number_12 fX12_158 rfl om0 hD3.1.2.1 ?_
      refine AW.istore X dX12_number_15 rfl ?_
      refine AW.iconstN X 0 dX12_number_17 rfl ?_
      refine AW.istore X dX12_number_18 rfl ?_
      refine AW.aload_n X dX12_number_20 (i := 0) rfl rfl ?_
      refine AW.getI X dX12_number_21 fX12_158 rfl om0 hD3.1.2.1 ?_
      refine AW.iload X dX12_number_24 rfl ?_
      refine AW.isubN X dX12_number_26 (by omega) ?_
      refine AW.iconstN X 2 dX12_number_27 rfl ?_
      refine AW.icmp_geN X (tgt := 77) dX12_number_28 (by decide) (by omega) (by omega) (fun h28 => ?_) (fun h28 => ?_)
      · exact absurd h28 (by omega)
      · have n28 := Nat.not_le_of_lt h28
        refine AW.aload_n X dX12_number_31 (i := 0) rfl rfl ?_
        refine AW.callV X dX12_number_32 lX12_164 cfX12 (c_X12_sign W3 hD3) om0 rfl rfl rfl rfl ⟨rfl, rfl⟩ (pR_k ?_)
        refine AW.bipushN X 48 dX12_number_35 rfl ?_
        refine AW.icmp_lt X (tgt := 77) dX12_number_37 (by decide) (fun h37 => ?_) (fun h37 => ?_)
        · have hg0 : dgt (enR n L (p + 1)) = false := by simp [dgt, h37]
          refine AW.aload_n X dX12_number_77 (i := 0) rfl rfl ?_
          refine AW.getI X dX12_number_78 fX12_158 rfl om0 hD3.1.2.1 ?_
          refine AW.iload X dX12_number_81 rfl ?_
          refine AW.icmp_neN X (tgt := 88) dX12_number_83 (by decide) (by omega) (by omega) (fun h83 => ?_) (fun h83 => ?_)
          · exact absurd h83 (by omega)
          · refine AW.iconstN X 0 dX12_number_86 rfl ?_
            refine AW.zret X rfl hQ dX12_number_87 ⟨_, rfl, ?_⟩
            have e : rdN (enR n L) lo hx p = .inl (p + 1) := by rw [rdN, if_pos he3, if_neg (by rw [hg0]; decide)]
            exact ⟨fun k2 hk2 => by rw [e] at hk2; cases hk2; exact ⟨rfl, (SmM.rf.trn (SmM.w (by unfold NUp; omega))), (by simp [wI]), by omega⟩, fun v q hq2 => by rw [e] at hq2; cases hq2⟩
        · refine AW.aload_n X dX12_number_40 (i := 0) rfl rfl ?_
          refine AW.callV X dX12_number_41 lX12_164 cfX12 (c_X12_sign W3 hD3) om0 rfl rfl rfl rfl ⟨rfl, rfl⟩ (pR_k ?_)
          refine AW.bipushN X 57 dX12_number_44 rfl ?_
          refine AW.icmp_gt X (tgt := 77) dX12_number_46 (by decide) (fun h46 => ?_) (fun h46 => ?_)
          · have hg0 : dgt (enR n L (p + 1)) = false := by simp [dgt, h37, h46]
            refine AW.aload_n X dX12_number_77 (i := 0) rfl rfl ?_
            refine AW.getI X dX12_number_78 fX12_158 rfl om0 hD3.1.2.1 ?_
            refine AW.iload X dX12_number_81 rfl ?_
            refine AW.icmp_neN X (tgt := 88) dX12_number_83 (by decide) (by omega) (by omega) (fun h83 => ?_) (fun h83 => ?_)
            · exact absurd h83 (by omega)
            · refine AW.iconstN X 0 dX12_number_86 rfl ?_
              refine AW.zret X rfl hQ dX12_number_87 ⟨_, rfl, ?_⟩
              have e : rdN (enR n L) lo hx p = .inl (p + 1) := by rw [rdN, if_pos he3, if_neg (by rw [hg0]; decide)]
              exact ⟨fun k2 hk2 => by rw [e] at hk2; cases hk2; exact ⟨rfl, (SmM.rf.trn (SmM.w (by unfold NUp; omega))), (by simp [wI]), by omega⟩, fun v q hq2 => by rw [e] at hq2; cases hq2⟩
          · have hgx : dgt (enR n L (p + 1)) = true := by simp [dgt, h37, h46]
            obtain ⟨xq, xq1, xq2, exq⟩ := dgt_of hgx
            have lxq := dgt_lt hgx
            have cxq := cl_n (show xq < 2147483648 by omega)
            refine AW.bipushN X 10 dX12_number_49 rfl ?_
            refine AW.iload X dX12_number_51 rfl ?_
            refine AW.imulN X dX12_number_53 ?_
            refine AW.aload_n X dX12_number_54 (i := 0) rfl rfl ?_
            refine AW.callV X dX12_number_55 lX12_164 cfX12 (c_X12_sign W3 hD3) om0 rfl rfl rfl rfl ⟨rfl, rfl⟩ (pR_k ?_)
            rw [exq]
            refine AW.iaddN X dX12_number_58 ?_
            refine AW.bipushN X 48 dX12_number_59 rfl ?_
            refine AW.isubN X dX12_number_61 (by omega) ?_
            rw [show (((10 * 0) + xq) - 48) = (xq - 48) by omega]
            refine AW.istore X dX12_number_62 rfl ?_
            refine AW.aload_n X dX12_number_64 (i := 0) rfl rfl ?_
            refine AW.dup X dX12_number_65 rfl ?_
            refine AW.getI X dX12_number_66 fX12_158 rfl om0 hD3.1.2.1 ?_
            refine AW.iconstN X 1 dX12_number_69 rfl ?_
            refine AW.iaddN X dX12_number_70 ?_
            refine AW.putI X dX12_number_71 fX12_158 rfl rfl ⟨rfl, rfl⟩ (by decide) om0 ?_
            have hD90 := rdm_at hD3 (q := (p + 1 + 1)) (by omega)
            have W90 : WM (wI (wI μ 0 28 (nI (p + 1))) 0 28 (nI ((p + 1) + 1))).2.2 := W3
            refine AW.goto X (tgt := 20) dX12_number_74 (by decide) ?_
            refine AW.aload_n X dX12_number_20 (i := 0) rfl rfl ?_
            refine AW.getI X dX12_number_21 fX12_158 rfl om0 hD90.1.2.1 ?_
            refine AW.iload X dX12_number_24 rfl ?_
            refine AW.isubN X dX12_number_26 (by omega) ?_
            refine AW.iconstN X 2 dX12_number_27 rfl ?_
            refine AW.icmp_geN X (tgt := 77) dX12_number_28 (by decide) (by omega) (by omega) (fun h28 => ?_) (fun h28 => ?_)
            · exact absurd h28 (by omega)
            · have n28 := Nat.not_le_of_lt h28
              refine AW.aload_n X dX12_number_31 (i := 0) rfl rfl ?_
              refine AW.callV X dX12_number_32 lX12_164 cfX12 (c_X12_sign W90 hD90) om0 rfl rfl rfl rfl ⟨rfl, rfl⟩ (pR_k ?_)
              refine AW.bipushN X 48 dX12_number_35 rfl ?_
              refine AW.icmp_lt X (tgt := 77) dX12_number_37 (by decide) (fun h37 => ?_) (fun h37 => ?_)
              · have hg1 : dgt (enR n L (p + 1 + 1)) = false := by simp [dgt, h37]
                refine AW.aload_n X dX12_number_77 (i := 0) rfl rfl ?_
                refine AW.getI X dX12_number_78 fX12_158 rfl om0 hD90.1.2.1 ?_
                refine AW.iload X dX12_number_81 rfl ?_
                refine AW.icmp_neN X (tgt := 88) dX12_number_83 (by decide) (by omega) (by omega) (fun h83 => ?_) (fun h83 => ?_)
                · refine AW.aload_n X dX12_number_88 (i := 0) rfl rfl ?_
                  refine AW.getR X dX12_number_89 fX12_65 rfl om0 (wm_at W90 18 rfl) ?_
                  refine AW.iload_n X dX12_number_92 (i := 1) rfl rfl ?_
                  refine AW.iload X dX12_number_93 rfl ?_
                  refine AW.iastore X dX12_number_95 (by decide) (am_at 18 rfl) (n2_in (by omega) (by decide)) ?_
                  rw [n2_clamp (by omega)]
                  refine AW.iload X dX12_number_96 rfl ?_
                  refine AW.iload_n X dX12_number_98 (i := 2) rfl rfl ?_
                  refine AW.iload_n X dX12_number_99 (i := 3) rfl rfl ?_
                  refine AW.callS X dX12_number_100 lX12_90 (c_winN (v := (xq - 48)) (by omega) (by omega) (by omega)) rfl rfl rfl rfl ⟨rfl, rfl⟩ (pR_k ?_)
                  refine AW.if_eqB X (tgt := 108) dX12_number_103 (by decide) (fun h103 => ?_) (fun h103 => ?_)
                  · have hr3 := of_decide_eq_false h103
                    refine AW.aload_n X dX12_number_108 (i := 0) rfl rfl ?_
                    refine AW.iload X dX12_number_109 rfl ?_
                    refine AW.putI X dX12_number_111 fX12_158 rfl rfl ⟨rfl, rfl⟩ (by decide) om0 ?_
                    refine AW.iconstN X 0 dX12_number_114 rfl ?_
                    refine AW.zret X rfl hQ dX12_number_115 ⟨_, rfl, ?_⟩
                    have e : rdN (enR n L) lo hx p = .inl (p + 1) := by rw [rdN, if_pos he3, if_pos hgx, if_neg (by rw [hg1]; decide), exq, cxq, if_neg (by omega)]
                    exact ⟨fun k2 hk2 => by rw [e] at hk2; cases hk2; exact ⟨rfl, ((((SmM.rf.trn (SmM.w (by unfold NUp; omega))).trn (SmM.w (by unfold NUp; omega))).trn (SmM.w (by unfold NUp; omega))).trn (SmM.w (by unfold NUp; omega))), (by simp [wI]), by omega⟩, fun v q hq2 => by rw [e] at hq2; cases hq2⟩
                  · have hr3 := of_decide_eq_true h103
                    refine AW.iconstN X 1 dX12_number_106 rfl ?_
                    refine AW.zret X rfl hQ dX12_number_107 ⟨_, rfl, ?_⟩
                    have e : rdN (enR n L) lo hx p = .inr ((xq - 48), (p + 1 + 1)) := by rw [rdN, if_pos he3, if_pos hgx, if_neg (by rw [hg1]; decide), exq, cxq, if_pos ⟨by omega, by omega⟩]
                    exact ⟨fun k2 hk2 => (by rw [e] at hk2; cases hk2), fun v q hq2 => by rw [e] at hq2; cases hq2; exact ⟨rfl, (((SmM.rf.trn (SmM.w (by unfold NUp; omega))).trn (SmM.w (by unfold NUp; omega))).trn (SmM.w (by unfold NUp; omega))), rdm_far hD90 (SmM.w (P := fun q _ => q = 19) rfl) (by omega) (by omega) (by omega), by simp [wI], by omega, by omega, by omega⟩⟩
                · exact absurd h83 (by omega)
              · refine AW.aload_n X dX12_number_40 (i := 0) rfl rfl ?_
                refine AW.callV X dX12_number_41 lX12_164 cfX12 (c_X12_sign W90 hD90) om0 rfl rfl rfl rfl ⟨rfl, rfl⟩ (pR_k ?_)
                refine AW.bipushN X 57 dX12_number_44 rfl ?_
                refine AW.icmp_gt X (tgt := 77) dX12_number_46 (by decide) (fun h46 => ?_) (fun h46 => ?_)
                · have hg1 : dgt (enR n L (p + 1 + 1)) = false := by simp [dgt, h37, h46]
                  refine AW.aload_n X dX12_number_77 (i := 0) rfl rfl ?_
                  refine AW.getI X dX12_number_78 fX12_158 rfl om0 hD90.1.2.1 ?_
                  refine AW.iload X dX12_number_81 rfl ?_
                  refine AW.icmp_neN X (tgt := 88) dX12_number_83 (by decide) (by omega) (by omega) (fun h83 => ?_) (fun h83 => ?_)
                  · refine AW.aload_n X dX12_number_88 (i := 0) rfl rfl ?_
                    refine AW.getR X dX12_number_89 fX12_65 rfl om0 (wm_at W90 18 rfl) ?_
                    refine AW.iload_n X dX12_number_92 (i := 1) rfl rfl ?_
                    refine AW.iload X dX12_number_93 rfl ?_
                    refine AW.iastore X dX12_number_95 (by decide) (am_at 18 rfl) (n2_in (by omega) (by decide)) ?_
                    rw [n2_clamp (by omega)]
                    refine AW.iload X dX12_number_96 rfl ?_
                    refine AW.iload_n X dX12_number_98 (i := 2) rfl rfl ?_
                    refine AW.iload_n X dX12_number_99 (i := 3) rfl rfl ?_
                    refine AW.callS X dX12_number_100 lX12_90 (c_winN (v := (xq - 48)) (by omega) (by omega) (by omega)) rfl rfl rfl rfl ⟨rfl, rfl⟩ (pR_k ?_)
                    refine AW.if_eqB X (tgt := 108) dX12_number_103 (by decide) (fun h103 => ?_) (fun h103 => ?_)
                    · have hr3 := of_decide_eq_false h103
                      refine AW.aload_n X dX12_number_108 (i := 0) rfl rfl ?_
                      refine AW.iload X dX12_number_109 rfl ?_
                      refine AW.putI X dX12_number_111 fX12_158 rfl rfl ⟨rfl, rfl⟩ (by decide) om0 ?_
                      refine AW.iconstN X 0 dX12_number_114 rfl ?_
                      refine AW.zret X rfl hQ dX12_number_115 ⟨_, rfl, ?_⟩
                      have e : rdN (enR n L) lo hx p = .inl (p + 1) := by rw [rdN, if_pos he3, if_pos hgx, if_neg (by rw [hg1]; decide), exq, cxq, if_neg (by omega)]
                      exact ⟨fun k2 hk2 => by rw [e] at hk2; cases hk2; exact ⟨rfl, ((((SmM.rf.trn (SmM.w (by unfold NUp; omega))).trn (SmM.w (by unfold NUp; omega))).trn (SmM.w (by unfold NUp; omega))).trn (SmM.w (by unfold NUp; omega))), (by simp [wI]), by omega⟩, fun v q hq2 => by rw [e] at hq2; cases hq2⟩
                    · have hr3 := of_decide_eq_true h103
                      refine AW.iconstN X 1 dX12_number_106 rfl ?_
                      refine AW.zret X rfl hQ dX12_number_107 ⟨_, rfl, ?_⟩
                      have e : rdN (enR n L) lo hx p = .inr ((xq - 48), (p + 1 + 1)) := by rw [rdN, if_pos he3, if_pos hgx, if_neg (by rw [hg1]; decide), exq, cxq, if_pos ⟨by omega, by omega⟩]
                      exact ⟨fun k2 hk2 => (by rw [e] at hk2; cases hk2), fun v q hq2 => by rw [e] at hq2; cases hq2; exact ⟨rfl, (((SmM.rf.trn (SmM.w (by unfold NUp; omega))).trn (SmM.w (by unfold NUp; omega))).trn (SmM.w (by unfold NUp; omega))), rdm_far hD90 (SmM.w (P := fun q _ => q = 19) rfl) (by omega) (by omega) (by omega), by simp [wI], by omega, by omega, by omega⟩⟩
                  · exact absurd h83 (by omega)
                · have hgy : dgt (enR n L (p + 1 + 1)) = true := by simp [dgt, h37, h46]
                  obtain ⟨yq, yq1, yq2, eyq⟩ := dgt_of hgy
                  have lyq := dgt_lt hgy
                  have cyq := cl_n (show yq < 2147483648 by omega)
                  refine AW.bipushN X 10 dX12_number_49 rfl ?_
                  refine AW.iload X dX12_number_51 rfl ?_
                  refine AW.imulN X dX12_number_53 ?_
                  refine AW.aload_n X dX12_number_54 (i := 0) rfl rfl ?_
                  refine AW.callV X dX12_number_55 lX12_164 cfX12 (c_X12_sign W90 hD90) om0 rfl rfl rfl rfl ⟨rfl, rfl⟩ (pR_k ?_)
                  rw [eyq]
                  refine AW.iaddN X dX12_number_58 ?_
                  refine AW.bipushN X 48 dX12_number_59 rfl ?_
                  refine AW.isubN X dX12_number_61 (by omega) ?_
                  rw [show (((10 * (xq - 48)) + yq) - 48) = (10 * (xq - 48) + yq - 48) by omega]
                  refine AW.istore X dX12_number_62 rfl ?_
                  refine AW.aload_n X dX12_number_64 (i := 0) rfl rfl ?_
                  refine AW.dup X dX12_number_65 rfl ?_
                  refine AW.getI X dX12_number_66 fX12_158 rfl om0 hD90.1.2.1 ?_
                  refine AW.iconstN X 1 dX12_number_69 rfl ?_
                  refine AW.iaddN X dX12_number_70 ?_
                  refine AW.putI X dX12_number_71 fX12_158 rfl rfl ⟨rfl, rfl⟩ (by decide) om0 ?_
                  have hD91 := rdm_at hD90 (q := (p + 1 + 1 + 1)) (by omega)
                  have W91 : WM (wI (wI (wI μ 0 28 (nI (p + 1))) 0 28 (nI ((p + 1) + 1))) 0 28 (nI ((p + 1 + 1) + 1))).2.2 := W90
                  refine AW.goto X (tgt := 20) dX12_number_74 (by decide) ?_
                  refine AW.aload_n X dX12_number_20 (i := 0) rfl rfl ?_
                  refine AW.getI X dX12_number_21 fX12_158 rfl om0 hD91.1.2.1 ?_
                  refine AW.iload X dX12_number_24 rfl ?_
                  refine AW.isubN X dX12_number_26 (by omega) ?_
                  refine AW.iconstN X 2 dX12_number_27 rfl ?_
                  refine AW.icmp_geN X (tgt := 77) dX12_number_28 (by decide) (by omega) (by omega) (fun h28 => ?_) (fun h28 => ?_)
                  · have n28 := Nat.not_lt_of_le h28
                    refine AW.aload_n X dX12_number_77 (i := 0) rfl rfl ?_
                    refine AW.getI X dX12_number_78 fX12_158 rfl om0 hD91.1.2.1 ?_
                    refine AW.iload X dX12_number_81 rfl ?_
                    refine AW.icmp_neN X (tgt := 88) dX12_number_83 (by decide) (by omega) (by omega) (fun h83 => ?_) (fun h83 => ?_)
                    · refine AW.aload_n X dX12_number_88 (i := 0) rfl rfl ?_
                      refine AW.getR X dX12_number_89 fX12_65 rfl om0 (wm_at W91 18 rfl) ?_
                      refine AW.iload_n X dX12_number_92 (i := 1) rfl rfl ?_
                      refine AW.iload X dX12_number_93 rfl ?_
                      refine AW.iastore X dX12_number_95 (by decide) (am_at 18 rfl) (n2_in (by omega) (by decide)) ?_
                      rw [n2_clamp (by omega)]
                      refine AW.iload X dX12_number_96 rfl ?_
                      refine AW.iload_n X dX12_number_98 (i := 2) rfl rfl ?_
                      refine AW.iload_n X dX12_number_99 (i := 3) rfl rfl ?_
                      refine AW.callS X dX12_number_100 lX12_90 (c_winN (v := (10 * (xq - 48) + yq - 48)) (by omega) (by omega) (by omega)) rfl rfl rfl rfl ⟨rfl, rfl⟩ (pR_k ?_)
                      refine AW.if_eqB X (tgt := 108) dX12_number_103 (by decide) (fun h103 => ?_) (fun h103 => ?_)
                      · have hr3 := of_decide_eq_false h103
                        refine AW.aload_n X dX12_number_108 (i := 0) rfl rfl ?_
                        refine AW.iload X dX12_number_109 rfl ?_
                        refine AW.putI X dX12_number_111 fX12_158 rfl rfl ⟨rfl, rfl⟩ (by decide) om0 ?_
                        refine AW.iconstN X 0 dX12_number_114 rfl ?_
                        refine AW.zret X rfl hQ dX12_number_115 ⟨_, rfl, ?_⟩
                        have e : rdN (enR n L) lo hx p = .inl (p + 1) := by rw [rdN, if_pos he3, if_pos hgx, if_pos hgy, exq, eyq, cxq, cyq, if_neg (by omega)]
                        exact ⟨fun k2 hk2 => by rw [e] at hk2; cases hk2; exact ⟨rfl, (((((SmM.rf.trn (SmM.w (by unfold NUp; omega))).trn (SmM.w (by unfold NUp; omega))).trn (SmM.w (by unfold NUp; omega))).trn (SmM.w (by unfold NUp; omega))).trn (SmM.w (by unfold NUp; omega))), (by simp [wI]), by omega⟩, fun v q hq2 => by rw [e] at hq2; cases hq2⟩
                      · have hr3 := of_decide_eq_true h103
                        refine AW.iconstN X 1 dX12_number_106 rfl ?_
                        refine AW.zret X rfl hQ dX12_number_107 ⟨_, rfl, ?_⟩
                        have e : rdN (enR n L) lo hx p = .inr ((10 * (xq - 48) + yq - 48), (p + 1 + 1 + 1)) := by rw [rdN, if_pos he3, if_pos hgx, if_pos hgy, exq, eyq, cxq, cyq, if_pos ⟨by omega, by omega⟩]
                        exact ⟨fun k2 hk2 => (by rw [e] at hk2; cases hk2), fun v q hq2 => by rw [e] at hq2; cases hq2; exact ⟨rfl, ((((SmM.rf.trn (SmM.w (by unfold NUp; omega))).trn (SmM.w (by unfold NUp; omega))).trn (SmM.w (by unfold NUp; omega))).trn (SmM.w (by unfold NUp; omega))), rdm_far hD91 (SmM.w (P := fun q _ => q = 19) rfl) (by omega) (by omega) (by omega), by simp [wI], by omega, by omega, by omega⟩⟩
                    · exact absurd h83 (by omega)
                  · exact absurd h28 (by omega)
    · exact absurd h6 (by decide)
  · refine AW.callV X dX12_number_3 lX12_177 cfX12 (cf_is W hD (by decide) he3) om0 rfl rfl rfl rfl ⟨rfl, rfl⟩ (pI_k fun r3 μr3 hr3 => ?_)
    obtain ⟨rfl, hm3⟩ := hr3
    obtain rfl : μ = μr3 := hm3.symm
    refine AW.if_neN X (tgt := 11) dX12_number_6 (by decide) (by omega) (fun h6 => ?_) (fun h6 => ?_)
    · exact absurd h6 (by decide)
    · refine AW.iconstN X 0 dX12_number_9 rfl ?_
      refine AW.zret X rfl hQ dX12_number_10 ⟨_, rfl, ?_⟩
      have e : rdN (enR n L) lo hx p = .inl (p) := by rw [rdN, if_neg he3]
      exact ⟨fun k2 hk2 => by rw [e] at hk2; cases hk2; exact ⟨rfl, SmM.rf, hD.1.2.1, by omega⟩, fun v q hq2 => by rw [e] at hq2; cases hq2⟩
