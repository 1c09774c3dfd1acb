/-! acts of the reference -/
def TRM (μ : Mm) (T : Nat × (Nat → Nat)) : Prop := μ.1 0 22 = nI T.1 ∧ T.1 < 900 ∧ ∀ i, i < 20 → i < T.1 → μ.1 16 i = nI (T.2 i)
def TRp (q k : Nat) : Prop := q = 16 ∨ (q = 0 ∧ k = 22)
theorem trm_bg {μ : Mm} {x : Nat} {T : Nat × (Nat → Nat)} (h : TRM μ T) (hT : T.1 < 880) : TRM (wI (if T.1 < 20 then wI μ 16 T.1 (nI x) else μ) 0 22 (nI (T.1 + 1))) (bgT x T) := by
  obtain ⟨h3, h4, h5⟩ := h
  refine ⟨by simp [wI, bgT], by show T.1 + 1 < 900; omega, fun i hi hr => ?_⟩
  have hr : i < T.1 + 1 := hr
  by_cases q : T.1 < 20
  · by_cases z : i = T.1
    · subst z; simp [wI, bgT, q]
    · simpa [wI, bgT, q, z] using h5 i hi (by omega)
  · simpa [wI, bgT, q] using h5 i hi (by omega)
theorem trp_bg {μ : Mm} {n x : Nat} : SmM TRp μ (wI (if n < 20 then wI μ 16 n (nI x) else μ) 0 22 (nI (n + 1))) := by
  split
  · exact (SmM.w (Or.inl rfl)).trn (SmM.w (Or.inr ⟨rfl, rfl⟩))
  · exact SmM.w (Or.inr ⟨rfl, rfl⟩)
theorem tm_tr {μ μ' : Mm} {τ : Tt} (h : TMX μ τ) (hs : SmM TRp μ μ') : TMX μ' τ := tm_same h hs (fun q k a c => by unfold TPl at a; unfold TRp at c; omega)
theorem rm_trT {μ μ' : Mm} {S : St} {T : Nat × (Nat → Nat)} (h : RMX μ S) (hs : SmM TRp μ μ') (ht : TRM μ' T) : RMX μ' (trT S T) := by
  obtain ⟨⟨i1, i2, i3, i4, i5, i6⟩, W, hT, h4, x1, x2, x3, x4, x5, x6, x7⟩ := h
  have e : ∀ q k, q ≠ 16 → ¬ (q = 0 ∧ k = 22) → μ'.1 q k = μ.1 q k := fun q k a c => hs.2 q k (fun z => by unfold TRp at z; omega)
  refine ⟨⟨i1, i2, i3, i4, i5, by have := ht.2.1; show T.1 < 1000; omega⟩, wm_same W hs, tm_tr hT hs, fun q => old_same (h4 q) hs (fun k z => by unfold TRp at z; omega), fun s hs8 => by rw [e 1 s (by decide) (by omega), e 2 s (by decide) (by omega)]; exact x1 s hs8, fun i hi => by rw [e 15 i (by decide) (by omega)]; exact x2 i hi, by rw [e 0 24 (by decide) (by omega)]; exact x3, by rw [e 0 20 (by decide) (by omega)]; exact x4, ht.1, ht.2.2, fun s hs8 i hi => by rw [hs.1]; exact x7 s hs8 i hi⟩
set_option maxRecDepth 100000 in
set_option maxHeartbeats 4000000 in
theorem c_X12_ran {l : Launch} {δ : Dl} {b : Nat} {μ : Mm} (W : WM μ.2.2) {T : Nat × (Nat → Nat)} (hTr : TRM μ T) (hn : T.1 < 880) {x : Nat} : MCM l δ b yX12_ran cX12_ran 2 none 1 [.ref (b + 0), .int (nI x)] μ (pV fun μ' => TRM μ' (bgT x T) ∧ SmM TRp μ μ') := by
  refine MC.intro ([some (.ref (b + 0)), some (.int (nI x))]) (by decide) rfl rfl fun κ Qc hl hQ X => ?_
  subst hl
  refine AW.aload_n X dX12_ran_0 (i := 0) rfl rfl ?_
  refine AW.getI X dX12_ran_1 fX12_282 rfl om0 (v := (nI T.1)) hTr.1 ?_
  refine AW.bipushN X 20 dX12_ran_4 rfl ?_
  refine AW.icmp_geN X (tgt := 19) dX12_ran_6 (by decide) (by omega) (by omega) (fun h6 => ?_) (fun h6 => ?_)
  · have n6 := Nat.not_lt_of_le h6
    refine AW.aload_n X dX12_ran_19 (i := 0) rfl rfl ?_
    refine AW.dup X dX12_ran_20 rfl ?_
    refine AW.getI X dX12_ran_21 fX12_282 rfl om0 (v := (nI T.1)) (by first | exact hTr.1 | (simp [wI]; exact hTr.1)) ?_
    refine AW.iconstN X 1 dX12_ran_24 rfl ?_
    refine AW.iaddN X dX12_ran_25 ?_
    refine AW.putI X dX12_ran_26 fX12_282 rfl rfl ⟨rfl, rfl⟩ (by decide) om0 ?_
    refine AW.vret X hQ dX12_ran_29 ⟨rfl, ?_⟩
    have f := trm_bg (x := x) hTr hn
    have f2 := trp_bg (μ := μ) (n := T.1) (x := x)
    rw [if_neg (by omega)] at f f2
    exact ⟨f, f2⟩
  · have n6 := Nat.not_le_of_lt h6
    refine AW.aload_n X dX12_ran_9 (i := 0) rfl rfl ?_
    refine AW.getR X dX12_ran_10 fX12_56 rfl om0 (wm_at W 15 rfl) ?_
    refine AW.aload_n X dX12_ran_13 (i := 0) rfl rfl ?_
    refine AW.getI X dX12_ran_14 fX12_282 rfl om0 (v := (nI T.1)) hTr.1 ?_
    refine AW.iload_n X dX12_ran_17 (i := 1) rfl rfl ?_
    refine AW.iastore X dX12_ran_18 (by decide) (am_at 15 rfl) (n2_in (by omega) (by decide)) ?_
    rw [n2_clamp (by omega)]
    refine AW.aload_n X dX12_ran_19 (i := 0) rfl rfl ?_
    refine AW.dup X dX12_ran_20 rfl ?_
    refine AW.getI X dX12_ran_21 fX12_282 rfl om0 (v := (nI T.1)) (by first | exact hTr.1 | (simp [wI]; exact hTr.1)) ?_
    refine AW.iconstN X 1 dX12_ran_24 rfl ?_
    refine AW.iaddN X dX12_ran_25 ?_
    refine AW.putI X dX12_ran_26 fX12_282 rfl rfl ⟨rfl, rfl⟩ (by decide) om0 ?_
    refine AW.vret X hQ dX12_ran_29 ⟨rfl, ?_⟩
    have f := trm_bg (x := x) hTr hn
    have f2 := trp_bg (μ := μ) (n := T.1) (x := x)
    rw [if_pos h6] at f f2
    exact ⟨f, f2⟩
set_option maxRecDepth 100000 in
set_option maxHeartbeats 4000000 in
theorem c_X12_paintsAct {l : Launch} {δ : Dl} {b : Nat} {μ : Mm} (W : WM μ.2.2) {τ : Tt} (hT : TMX μ τ) {h : Nat} (hh : h < τ 6 0 0) {k : Nat} (hk : τ h 0 0 = k) {T : Nat × (Nat → Nat)} (hTr : TRM μ T) (hn : T.1 < 850) {x : Int32} : MCM l δ b yX12_paintsAct cX12_paintsAct 5 (some .int) 2 [.ref (b + 0), .int (nI h), .int x] μ (pI fun r μ' => r = aPv k h (τ h 0 1) x ∧ TRM μ' (runL (aPb k) T) ∧ SmM TRp μ μ') := by
  have bn := ti_n hT.1
  have hI := tm_hi hT hh
  have bc := hi_n hI
  have ba := hi_a hI
  have bk := hi_k hI
  refine MC.intro ([some (.ref (b + 0)), some (.int (nI h)), some (.int x), none, none]) (by decide) rfl rfl fun κ Qc hl hQ X => ?_
  subst hl
  have hk7 : k = 0 ∨ k = 1 ∨ k = 2 ∨ k = 3 ∨ k = 4 ∨ k = 5 ∨ k = 6 := by have := hi_k hI; omega
  rcases hk7 with rfl | rfl | rfl | rfl | rfl | rfl | rfl
  · skip
    refine AW.aload_n X dX12_paintsAct_0 (i := 0) rfl rfl ?_
    refine AW.getR X dX12_paintsAct_1 fX12_20 rfl om0 (wm_at W 3 rfl) ?_
    refine AW.iload_n X dX12_paintsAct_4 (i := 1) rfl rfl ?_
    refine AW.iaload X dX12_paintsAct_5 (am_at 3 rfl) (n2_in (by omega) (by decide)) (v := (nI 0)) (by rw [n2_clamp (by omega)]; exact (tm_k hT hh).trans (congrArg nI hk)) ?_
    refine AW.istore_n X dX12_paintsAct_6 (i := 3) rfl rfl ?_
    refine AW.iload_n X dX12_paintsAct_7 (i := 3) rfl rfl ?_
    refine AW.iconstN X 1 dX12_paintsAct_8 rfl ?_
    refine AW.icmp_eqN X (tgt := 17) dX12_paintsAct_9 (by decide) (by omega) (by omega) (fun h9 => ?_) (fun h9 => ?_)
    · exact absurd h9 (by decide)
    · refine AW.iload_n X dX12_paintsAct_12 (i := 3) rfl rfl ?_
      refine AW.iconstN X 3 dX12_paintsAct_13 rfl ?_
      refine AW.icmp_neN X (tgt := 23) dX12_paintsAct_14 (by decide) (by omega) (by omega) (fun h14 => ?_) (fun h14 => ?_)
      · refine AW.iload_n X dX12_paintsAct_23 (i := 3) rfl rfl ?_
        refine AW.iconstN X 4 dX12_paintsAct_24 rfl ?_
        refine AW.icmp_neN X (tgt := 34) dX12_paintsAct_25 (by decide) (by omega) (by omega) (fun h25 => ?_) (fun h25 => ?_)
        · refine AW.iload_n X dX12_paintsAct_34 (i := 3) rfl rfl ?_
          refine AW.bipushN X 6 dX12_paintsAct_35 rfl ?_
          refine AW.icmp_neN X (tgt := 46) dX12_paintsAct_37 (by decide) (by omega) (by omega) (fun h37 => ?_) (fun h37 => ?_)
          · refine AW.aload_n X dX12_paintsAct_46 (i := 0) rfl rfl ?_
            refine AW.bipushN X 10 dX12_paintsAct_47 rfl ?_
            refine AW.callV X dX12_paintsAct_49 lX12_285 cfX12 (c_X12_ran W hTr (by show T.1 + 0 < 880; omega) (x := 10)) om0 rfl rfl rfl rfl ⟨rfl, rfl⟩ (pV_k fun μr49 hb49 => ?_)
            have W49 := wm_same W hb49.2
            have hT49 := tm_tr hT hb49.2
            refine AW.iload_n X dX12_paintsAct_52 (i := 2) rfl rfl ?_
            refine AW.iload_n X dX12_paintsAct_53 (i := 1) rfl rfl ?_
            refine AW.iadd X dX12_paintsAct_54 ?_
            refine AW.istore X dX12_paintsAct_55 rfl ?_
            refine AW.iload_n X dX12_paintsAct_57 (i := 3) rfl rfl ?_
            refine AW.iconstN X 1 dX12_paintsAct_58 rfl ?_
            refine AW.icmp_eqN X (tgt := 67) dX12_paintsAct_59 (by decide) (by omega) (by omega) (fun h59 => ?_) (fun h59 => ?_)
            · exact absurd h59 (by decide)
            · refine AW.iload_n X dX12_paintsAct_62 (i := 3) rfl rfl ?_
              refine AW.iconstN X 3 dX12_paintsAct_63 rfl ?_
              refine AW.icmp_neN X (tgt := 79) dX12_paintsAct_64 (by decide) (by omega) (by omega) (fun h64 => ?_) (fun h64 => ?_)
              · refine AW.iload_n X dX12_paintsAct_79 (i := 3) rfl rfl ?_
                refine AW.iconstN X 4 dX12_paintsAct_80 rfl ?_
                refine AW.icmp_neN X (tgt := 91) dX12_paintsAct_81 (by decide) (by omega) (by omega) (fun h81 => ?_) (fun h81 => ?_)
                · refine AW.iload_n X dX12_paintsAct_91 (i := 3) rfl rfl ?_
                  refine AW.bipushN X 6 dX12_paintsAct_92 rfl ?_
                  refine AW.icmp_neN X (tgt := 104) dX12_paintsAct_94 (by decide) (by omega) (by omega) (fun h94 => ?_) (fun h94 => ?_)
                  · refine AW.iload X dX12_paintsAct_104 rfl ?_
                    refine AW.iret X hQ dX12_paintsAct_106 ⟨_, rfl, ?_⟩
                    exact ⟨rfl, hb49.1, hb49.2⟩
                  · exact absurd h94 (by decide)
                · exact absurd h81 (by decide)
              · exact absurd h64 (by decide)
          · exact absurd h37 (by decide)
        · exact absurd h25 (by decide)
      · exact absurd h14 (by decide)
  · skip
    refine AW.aload_n X dX12_paintsAct_0 (i := 0) rfl rfl ?_
    refine AW.getR X dX12_paintsAct_1 fX12_20 rfl om0 (wm_at W 3 rfl) ?_
    refine AW.iload_n X dX12_paintsAct_4 (i := 1) rfl rfl ?_
    refine AW.iaload X dX12_paintsAct_5 (am_at 3 rfl) (n2_in (by omega) (by decide)) (v := (nI 1)) (by rw [n2_clamp (by omega)]; exact (tm_k hT hh).trans (congrArg nI hk)) ?_
    refine AW.istore_n X dX12_paintsAct_6 (i := 3) rfl rfl ?_
    refine AW.iload_n X dX12_paintsAct_7 (i := 3) rfl rfl ?_
    refine AW.iconstN X 1 dX12_paintsAct_8 rfl ?_
    refine AW.icmp_eqN X (tgt := 17) dX12_paintsAct_9 (by decide) (by omega) (by omega) (fun h9 => ?_) (fun h9 => ?_)
    · refine AW.aload_n X dX12_paintsAct_17 (i := 0) rfl rfl ?_
      refine AW.bipushN X 20 dX12_paintsAct_18 rfl ?_
      refine AW.callV X dX12_paintsAct_20 lX12_285 cfX12 (c_X12_ran W hTr (by show T.1 + 0 < 880; omega) (x := 20)) om0 rfl rfl rfl rfl ⟨rfl, rfl⟩ (pV_k fun μr20 hb20 => ?_)
      have W20 := wm_same W hb20.2
      have hT20 := tm_tr hT hb20.2
      refine AW.iload_n X dX12_paintsAct_23 (i := 3) rfl rfl ?_
      refine AW.iconstN X 4 dX12_paintsAct_24 rfl ?_
      refine AW.icmp_neN X (tgt := 34) dX12_paintsAct_25 (by decide) (by omega) (by omega) (fun h25 => ?_) (fun h25 => ?_)
      · refine AW.iload_n X dX12_paintsAct_34 (i := 3) rfl rfl ?_
        refine AW.bipushN X 6 dX12_paintsAct_35 rfl ?_
        refine AW.icmp_neN X (tgt := 46) dX12_paintsAct_37 (by decide) (by omega) (by omega) (fun h37 => ?_) (fun h37 => ?_)
        · refine AW.aload_n X dX12_paintsAct_46 (i := 0) rfl rfl ?_
          refine AW.bipushN X 10 dX12_paintsAct_47 rfl ?_
          refine AW.callV X dX12_paintsAct_49 lX12_285 cfX12 (c_X12_ran W20 hb20.1 (by show T.1 + 1 < 880; omega) (x := 10)) om0 rfl rfl rfl rfl ⟨rfl, rfl⟩ (pV_k fun μr49 hb49 => ?_)
          have W49 := wm_same W20 hb49.2
          have hT49 := tm_tr hT20 hb49.2
          refine AW.iload_n X dX12_paintsAct_52 (i := 2) rfl rfl ?_
          refine AW.iload_n X dX12_paintsAct_53 (i := 1) rfl rfl ?_
          refine AW.iadd X dX12_paintsAct_54 ?_
          refine AW.istore X dX12_paintsAct_55 rfl ?_
          refine AW.iload_n X dX12_paintsAct_57 (i := 3) rfl rfl ?_
          refine AW.iconstN X 1 dX12_paintsAct_58 rfl ?_
          refine AW.icmp_eqN X (tgt := 67) dX12_paintsAct_59 (by decide) (by omega) (by omega) (fun h59 => ?_) (fun h59 => ?_)
          · refine AW.iload X dX12_paintsAct_67 rfl ?_
            refine AW.aload_n X dX12_paintsAct_69 (i := 0) rfl rfl ?_
            refine AW.getR X dX12_paintsAct_70 fX12_23 rfl om0 (wm_at W49 4 rfl) ?_
            refine AW.iload_n X dX12_paintsAct_73 (i := 1) rfl rfl ?_
            refine AW.iaload X dX12_paintsAct_74 (am_at 4 rfl) (n2_in (by omega) (by decide)) (v := (nI (τ h 0 1))) (by rw [n2_clamp (by omega)]; exact tm_a hT49 (by omega)) ?_
            refine AW.iadd X dX12_paintsAct_75 ?_
            refine AW.goto X (tgt := 106) dX12_paintsAct_76 (by decide) ?_
            refine AW.iret X hQ dX12_paintsAct_106 ⟨_, rfl, ?_⟩
            exact ⟨rfl, hb49.1, (hb20.2.trn hb49.2)⟩
          · exact absurd h59 (by decide)
        · exact absurd h37 (by decide)
      · exact absurd h25 (by decide)
    · exact absurd h9 (by decide)
  · skip
    refine AW.aload_n X dX12_paintsAct_0 (i := 0) rfl rfl ?_
    refine AW.getR X dX12_paintsAct_1 fX12_20 rfl om0 (wm_at W 3 rfl) ?_
    refine AW.iload_n X dX12_paintsAct_4 (i := 1) rfl rfl ?_
    refine AW.iaload X dX12_paintsAct_5 (am_at 3 rfl) (n2_in (by omega) (by decide)) (v := (nI 2)) (by rw [n2_clamp (by omega)]; exact (tm_k hT hh).trans (congrArg nI hk)) ?_
    refine AW.istore_n X dX12_paintsAct_6 (i := 3) rfl rfl ?_
    refine AW.iload_n X dX12_paintsAct_7 (i := 3) rfl rfl ?_
    refine AW.iconstN X 1 dX12_paintsAct_8 rfl ?_
    refine AW.icmp_eqN X (tgt := 17) dX12_paintsAct_9 (by decide) (by omega) (by omega) (fun h9 => ?_) (fun h9 => ?_)
    · exact absurd h9 (by decide)
    · refine AW.iload_n X dX12_paintsAct_12 (i := 3) rfl rfl ?_
      refine AW.iconstN X 3 dX12_paintsAct_13 rfl ?_
      refine AW.icmp_neN X (tgt := 23) dX12_paintsAct_14 (by decide) (by omega) (by omega) (fun h14 => ?_) (fun h14 => ?_)
      · refine AW.iload_n X dX12_paintsAct_23 (i := 3) rfl rfl ?_
        refine AW.iconstN X 4 dX12_paintsAct_24 rfl ?_
        refine AW.icmp_neN X (tgt := 34) dX12_paintsAct_25 (by decide) (by omega) (by omega) (fun h25 => ?_) (fun h25 => ?_)
        · refine AW.iload_n X dX12_paintsAct_34 (i := 3) rfl rfl ?_
          refine AW.bipushN X 6 dX12_paintsAct_35 rfl ?_
          refine AW.icmp_neN X (tgt := 46) dX12_paintsAct_37 (by decide) (by omega) (by omega) (fun h37 => ?_) (fun h37 => ?_)
          · refine AW.aload_n X dX12_paintsAct_46 (i := 0) rfl rfl ?_
            refine AW.bipushN X 10 dX12_paintsAct_47 rfl ?_
            refine AW.callV X dX12_paintsAct_49 lX12_285 cfX12 (c_X12_ran W hTr (by show T.1 + 0 < 880; omega) (x := 10)) om0 rfl rfl rfl rfl ⟨rfl, rfl⟩ (pV_k fun μr49 hb49 => ?_)
            have W49 := wm_same W hb49.2
            have hT49 := tm_tr hT hb49.2
            refine AW.iload_n X dX12_paintsAct_52 (i := 2) rfl rfl ?_
            refine AW.iload_n X dX12_paintsAct_53 (i := 1) rfl rfl ?_
            refine AW.iadd X dX12_paintsAct_54 ?_
            refine AW.istore X dX12_paintsAct_55 rfl ?_
            refine AW.iload_n X dX12_paintsAct_57 (i := 3) rfl rfl ?_
            refine AW.iconstN X 1 dX12_paintsAct_58 rfl ?_
            refine AW.icmp_eqN X (tgt := 67) dX12_paintsAct_59 (by decide) (by omega) (by omega) (fun h59 => ?_) (fun h59 => ?_)
            · exact absurd h59 (by decide)
            · refine AW.iload_n X dX12_paintsAct_62 (i := 3) rfl rfl ?_
              refine AW.iconstN X 3 dX12_paintsAct_63 rfl ?_
              refine AW.icmp_neN X (tgt := 79) dX12_paintsAct_64 (by decide) (by omega) (by omega) (fun h64 => ?_) (fun h64 => ?_)
              · refine AW.iload_n X dX12_paintsAct_79 (i := 3) rfl rfl ?_
                refine AW.iconstN X 4 dX12_paintsAct_80 rfl ?_
                refine AW.icmp_neN X (tgt := 91) dX12_paintsAct_81 (by decide) (by omega) (by omega) (fun h81 => ?_) (fun h81 => ?_)
                · refine AW.iload_n X dX12_paintsAct_91 (i := 3) rfl rfl ?_
                  refine AW.bipushN X 6 dX12_paintsAct_92 rfl ?_
                  refine AW.icmp_neN X (tgt := 104) dX12_paintsAct_94 (by decide) (by omega) (by omega) (fun h94 => ?_) (fun h94 => ?_)
                  · refine AW.iload X dX12_paintsAct_104 rfl ?_
                    refine AW.iret X hQ dX12_paintsAct_106 ⟨_, rfl, ?_⟩
                    exact ⟨rfl, hb49.1, hb49.2⟩
                  · exact absurd h94 (by decide)
                · exact absurd h81 (by decide)
              · exact absurd h64 (by decide)
          · exact absurd h37 (by decide)
        · exact absurd h25 (by decide)
      · exact absurd h14 (by decide)
  · skip
    refine AW.aload_n X dX12_paintsAct_0 (i := 0) rfl rfl ?_
    refine AW.getR X dX12_paintsAct_1 fX12_20 rfl om0 (wm_at W 3 rfl) ?_
    refine AW.iload_n X dX12_paintsAct_4 (i := 1) rfl rfl ?_
    refine AW.iaload X dX12_paintsAct_5 (am_at 3 rfl) (n2_in (by omega) (by decide)) (v := (nI 3)) (by rw [n2_clamp (by omega)]; exact (tm_k hT hh).trans (congrArg nI hk)) ?_
    refine AW.istore_n X dX12_paintsAct_6 (i := 3) rfl rfl ?_
    refine AW.iload_n X dX12_paintsAct_7 (i := 3) rfl rfl ?_
    refine AW.iconstN X 1 dX12_paintsAct_8 rfl ?_
    refine AW.icmp_eqN X (tgt := 17) dX12_paintsAct_9 (by decide) (by omega) (by omega) (fun h9 => ?_) (fun h9 => ?_)
    · exact absurd h9 (by decide)
    · refine AW.iload_n X dX12_paintsAct_12 (i := 3) rfl rfl ?_
      refine AW.iconstN X 3 dX12_paintsAct_13 rfl ?_
      refine AW.icmp_neN X (tgt := 23) dX12_paintsAct_14 (by decide) (by omega) (by omega) (fun h14 => ?_) (fun h14 => ?_)
      · exact absurd h14 (by decide)
      · refine AW.aload_n X dX12_paintsAct_17 (i := 0) rfl rfl ?_
        refine AW.bipushN X 20 dX12_paintsAct_18 rfl ?_
        refine AW.callV X dX12_paintsAct_20 lX12_285 cfX12 (c_X12_ran W hTr (by show T.1 + 0 < 880; omega) (x := 20)) om0 rfl rfl rfl rfl ⟨rfl, rfl⟩ (pV_k fun μr20 hb20 => ?_)
        have W20 := wm_same W hb20.2
        have hT20 := tm_tr hT hb20.2
        refine AW.iload_n X dX12_paintsAct_23 (i := 3) rfl rfl ?_
        refine AW.iconstN X 4 dX12_paintsAct_24 rfl ?_
        refine AW.icmp_neN X (tgt := 34) dX12_paintsAct_25 (by decide) (by omega) (by omega) (fun h25 => ?_) (fun h25 => ?_)
        · refine AW.iload_n X dX12_paintsAct_34 (i := 3) rfl rfl ?_
          refine AW.bipushN X 6 dX12_paintsAct_35 rfl ?_
          refine AW.icmp_neN X (tgt := 46) dX12_paintsAct_37 (by decide) (by omega) (by omega) (fun h37 => ?_) (fun h37 => ?_)
          · refine AW.aload_n X dX12_paintsAct_46 (i := 0) rfl rfl ?_
            refine AW.bipushN X 10 dX12_paintsAct_47 rfl ?_
            refine AW.callV X dX12_paintsAct_49 lX12_285 cfX12 (c_X12_ran W20 hb20.1 (by show T.1 + 1 < 880; omega) (x := 10)) om0 rfl rfl rfl rfl ⟨rfl, rfl⟩ (pV_k fun μr49 hb49 => ?_)
            have W49 := wm_same W20 hb49.2
            have hT49 := tm_tr hT20 hb49.2
            refine AW.iload_n X dX12_paintsAct_52 (i := 2) rfl rfl ?_
            refine AW.iload_n X dX12_paintsAct_53 (i := 1) rfl rfl ?_
            refine AW.iadd X dX12_paintsAct_54 ?_
            refine AW.istore X dX12_paintsAct_55 rfl ?_
            refine AW.iload_n X dX12_paintsAct_57 (i := 3) rfl rfl ?_
            refine AW.iconstN X 1 dX12_paintsAct_58 rfl ?_
            refine AW.icmp_eqN X (tgt := 67) dX12_paintsAct_59 (by decide) (by omega) (by omega) (fun h59 => ?_) (fun h59 => ?_)
            · exact absurd h59 (by decide)
            · refine AW.iload_n X dX12_paintsAct_62 (i := 3) rfl rfl ?_
              refine AW.iconstN X 3 dX12_paintsAct_63 rfl ?_
              refine AW.icmp_neN X (tgt := 79) dX12_paintsAct_64 (by decide) (by omega) (by omega) (fun h64 => ?_) (fun h64 => ?_)
              · exact absurd h64 (by decide)
              · refine AW.iload X dX12_paintsAct_67 rfl ?_
                refine AW.aload_n X dX12_paintsAct_69 (i := 0) rfl rfl ?_
                refine AW.getR X dX12_paintsAct_70 fX12_23 rfl om0 (wm_at W49 4 rfl) ?_
                refine AW.iload_n X dX12_paintsAct_73 (i := 1) rfl rfl ?_
                refine AW.iaload X dX12_paintsAct_74 (am_at 4 rfl) (n2_in (by omega) (by decide)) (v := (nI (τ h 0 1))) (by rw [n2_clamp (by omega)]; exact tm_a hT49 (by omega)) ?_
                refine AW.iadd X dX12_paintsAct_75 ?_
                refine AW.goto X (tgt := 106) dX12_paintsAct_76 (by decide) ?_
                refine AW.iret X hQ dX12_paintsAct_106 ⟨_, rfl, ?_⟩
                exact ⟨rfl, hb49.1, (hb20.2.trn hb49.2)⟩
          · exact absurd h37 (by decide)
        · exact absurd h25 (by decide)
  · skip
    refine AW.aload_n X dX12_paintsAct_0 (i := 0) rfl rfl ?_
    refine AW.getR X dX12_paintsAct_1 fX12_20 rfl om0 (wm_at W 3 rfl) ?_
    refine AW.iload_n X dX12_paintsAct_4 (i := 1) rfl rfl ?_
    refine AW.iaload X dX12_paintsAct_5 (am_at 3 rfl) (n2_in (by omega) (by decide)) (v := (nI 4)) (by rw [n2_clamp (by omega)]; exact (tm_k hT hh).trans (congrArg nI hk)) ?_
    refine AW.istore_n X dX12_paintsAct_6 (i := 3) rfl rfl ?_
    refine AW.iload_n X dX12_paintsAct_7 (i := 3) rfl rfl ?_
    refine AW.iconstN X 1 dX12_paintsAct_8 rfl ?_
    refine AW.icmp_eqN X (tgt := 17) dX12_paintsAct_9 (by decide) (by omega) (by omega) (fun h9 => ?_) (fun h9 => ?_)
    · exact absurd h9 (by decide)
    · refine AW.iload_n X dX12_paintsAct_12 (i := 3) rfl rfl ?_
      refine AW.iconstN X 3 dX12_paintsAct_13 rfl ?_
      refine AW.icmp_neN X (tgt := 23) dX12_paintsAct_14 (by decide) (by omega) (by omega) (fun h14 => ?_) (fun h14 => ?_)
      · refine AW.iload_n X dX12_paintsAct_23 (i := 3) rfl rfl ?_
        refine AW.iconstN X 4 dX12_paintsAct_24 rfl ?_
        refine AW.icmp_neN X (tgt := 34) dX12_paintsAct_25 (by decide) (by omega) (by omega) (fun h25 => ?_) (fun h25 => ?_)
        · exact absurd h25 (by decide)
        · refine AW.aload_n X dX12_paintsAct_28 (i := 0) rfl rfl ?_
          refine AW.bipushN X 51 dX12_paintsAct_29 rfl ?_
          refine AW.callV X dX12_paintsAct_31 lX12_285 cfX12 (c_X12_ran W hTr (by show T.1 + 0 < 880; omega) (x := 51)) om0 rfl rfl rfl rfl ⟨rfl, rfl⟩ (pV_k fun μr31 hb31 => ?_)
          have W31 := wm_same W hb31.2
          have hT31 := tm_tr hT hb31.2
          refine AW.iload_n X dX12_paintsAct_34 (i := 3) rfl rfl ?_
          refine AW.bipushN X 6 dX12_paintsAct_35 rfl ?_
          refine AW.icmp_neN X (tgt := 46) dX12_paintsAct_37 (by decide) (by omega) (by omega) (fun h37 => ?_) (fun h37 => ?_)
          · refine AW.aload_n X dX12_paintsAct_46 (i := 0) rfl rfl ?_
            refine AW.bipushN X 10 dX12_paintsAct_47 rfl ?_
            refine AW.callV X dX12_paintsAct_49 lX12_285 cfX12 (c_X12_ran W31 hb31.1 (by show T.1 + 1 < 880; omega) (x := 10)) om0 rfl rfl rfl rfl ⟨rfl, rfl⟩ (pV_k fun μr49 hb49 => ?_)
            have W49 := wm_same W31 hb49.2
            have hT49 := tm_tr hT31 hb49.2
            refine AW.iload_n X dX12_paintsAct_52 (i := 2) rfl rfl ?_
            refine AW.iload_n X dX12_paintsAct_53 (i := 1) rfl rfl ?_
            refine AW.iadd X dX12_paintsAct_54 ?_
            refine AW.istore X dX12_paintsAct_55 rfl ?_
            refine AW.iload_n X dX12_paintsAct_57 (i := 3) rfl rfl ?_
            refine AW.iconstN X 1 dX12_paintsAct_58 rfl ?_
            refine AW.icmp_eqN X (tgt := 67) dX12_paintsAct_59 (by decide) (by omega) (by omega) (fun h59 => ?_) (fun h59 => ?_)
            · exact absurd h59 (by decide)
            · refine AW.iload_n X dX12_paintsAct_62 (i := 3) rfl rfl ?_
              refine AW.iconstN X 3 dX12_paintsAct_63 rfl ?_
              refine AW.icmp_neN X (tgt := 79) dX12_paintsAct_64 (by decide) (by omega) (by omega) (fun h64 => ?_) (fun h64 => ?_)
              · refine AW.iload_n X dX12_paintsAct_79 (i := 3) rfl rfl ?_
                refine AW.iconstN X 4 dX12_paintsAct_80 rfl ?_
                refine AW.icmp_neN X (tgt := 91) dX12_paintsAct_81 (by decide) (by omega) (by omega) (fun h81 => ?_) (fun h81 => ?_)
                · exact absurd h81 (by decide)
                · refine AW.iload X dX12_paintsAct_84 rfl ?_
                  refine AW.iload_n X dX12_paintsAct_86 (i := 1) rfl rfl ?_
                  refine AW.isub X dX12_paintsAct_87 ?_
                  refine AW.goto X (tgt := 106) dX12_paintsAct_88 (by decide) ?_
                  refine AW.iret X hQ dX12_paintsAct_106 ⟨_, rfl, ?_⟩
                  exact ⟨rfl, hb49.1, (hb31.2.trn hb49.2)⟩
              · exact absurd h64 (by decide)
          · exact absurd h37 (by decide)
      · exact absurd h14 (by decide)
  · skip
    refine AW.aload_n X dX12_paintsAct_0 (i := 0) rfl rfl ?_
    refine AW.getR X dX12_paintsAct_1 fX12_20 rfl om0 (wm_at W 3 rfl) ?_
    refine AW.iload_n X dX12_paintsAct_4 (i := 1) rfl rfl ?_
    refine AW.iaload X dX12_paintsAct_5 (am_at 3 rfl) (n2_in (by omega) (by decide)) (v := (nI 5)) (by rw [n2_clamp (by omega)]; exact (tm_k hT hh).trans (congrArg nI hk)) ?_
    refine AW.istore_n X dX12_paintsAct_6 (i := 3) rfl rfl ?_
    refine AW.iload_n X dX12_paintsAct_7 (i := 3) rfl rfl ?_
    refine AW.iconstN X 1 dX12_paintsAct_8 rfl ?_
    refine AW.icmp_eqN X (tgt := 17) dX12_paintsAct_9 (by decide) (by omega) (by omega) (fun h9 => ?_) (fun h9 => ?_)
    · exact absurd h9 (by decide)
    · refine AW.iload_n X dX12_paintsAct_12 (i := 3) rfl rfl ?_
      refine AW.iconstN X 3 dX12_paintsAct_13 rfl ?_
      refine AW.icmp_neN X (tgt := 23) dX12_paintsAct_14 (by decide) (by omega) (by omega) (fun h14 => ?_) (fun h14 => ?_)
      · refine AW.iload_n X dX12_paintsAct_23 (i := 3) rfl rfl ?_
        refine AW.iconstN X 4 dX12_paintsAct_24 rfl ?_
        refine AW.icmp_neN X (tgt := 34) dX12_paintsAct_25 (by decide) (by omega) (by omega) (fun h25 => ?_) (fun h25 => ?_)
        · refine AW.iload_n X dX12_paintsAct_34 (i := 3) rfl rfl ?_
          refine AW.bipushN X 6 dX12_paintsAct_35 rfl ?_
          refine AW.icmp_neN X (tgt := 46) dX12_paintsAct_37 (by decide) (by omega) (by omega) (fun h37 => ?_) (fun h37 => ?_)
          · refine AW.aload_n X dX12_paintsAct_46 (i := 0) rfl rfl ?_
            refine AW.bipushN X 10 dX12_paintsAct_47 rfl ?_
            refine AW.callV X dX12_paintsAct_49 lX12_285 cfX12 (c_X12_ran W hTr (by show T.1 + 0 < 880; omega) (x := 10)) om0 rfl rfl rfl rfl ⟨rfl, rfl⟩ (pV_k fun μr49 hb49 => ?_)
            have W49 := wm_same W hb49.2
            have hT49 := tm_tr hT hb49.2
            refine AW.iload_n X dX12_paintsAct_52 (i := 2) rfl rfl ?_
            refine AW.iload_n X dX12_paintsAct_53 (i := 1) rfl rfl ?_
            refine AW.iadd X dX12_paintsAct_54 ?_
            refine AW.istore X dX12_paintsAct_55 rfl ?_
            refine AW.iload_n X dX12_paintsAct_57 (i := 3) rfl rfl ?_
            refine AW.iconstN X 1 dX12_paintsAct_58 rfl ?_
            refine AW.icmp_eqN X (tgt := 67) dX12_paintsAct_59 (by decide) (by omega) (by omega) (fun h59 => ?_) (fun h59 => ?_)
            · exact absurd h59 (by decide)
            · refine AW.iload_n X dX12_paintsAct_62 (i := 3) rfl rfl ?_
              refine AW.iconstN X 3 dX12_paintsAct_63 rfl ?_
              refine AW.icmp_neN X (tgt := 79) dX12_paintsAct_64 (by decide) (by omega) (by omega) (fun h64 => ?_) (fun h64 => ?_)
              · refine AW.iload_n X dX12_paintsAct_79 (i := 3) rfl rfl ?_
                refine AW.iconstN X 4 dX12_paintsAct_80 rfl ?_
                refine AW.icmp_neN X (tgt := 91) dX12_paintsAct_81 (by decide) (by omega) (by omega) (fun h81 => ?_) (fun h81 => ?_)
                · refine AW.iload_n X dX12_paintsAct_91 (i := 3) rfl rfl ?_
                  refine AW.bipushN X 6 dX12_paintsAct_92 rfl ?_
                  refine AW.icmp_neN X (tgt := 104) dX12_paintsAct_94 (by decide) (by omega) (by omega) (fun h94 => ?_) (fun h94 => ?_)
                  · refine AW.iload X dX12_paintsAct_104 rfl ?_
                    refine AW.iret X hQ dX12_paintsAct_106 ⟨_, rfl, ?_⟩
                    exact ⟨rfl, hb49.1, hb49.2⟩
                  · exact absurd h94 (by decide)
                · exact absurd h81 (by decide)
              · exact absurd h64 (by decide)
          · exact absurd h37 (by decide)
        · exact absurd h25 (by decide)
      · exact absurd h14 (by decide)
  · skip
    refine AW.aload_n X dX12_paintsAct_0 (i := 0) rfl rfl ?_
    refine AW.getR X dX12_paintsAct_1 fX12_20 rfl om0 (wm_at W 3 rfl) ?_
    refine AW.iload_n X dX12_paintsAct_4 (i := 1) rfl rfl ?_
    refine AW.iaload X dX12_paintsAct_5 (am_at 3 rfl) (n2_in (by omega) (by decide)) (v := (nI 6)) (by rw [n2_clamp (by omega)]; exact (tm_k hT hh).trans (congrArg nI hk)) ?_
    refine AW.istore_n X dX12_paintsAct_6 (i := 3) rfl rfl ?_
    refine AW.iload_n X dX12_paintsAct_7 (i := 3) rfl rfl ?_
    refine AW.iconstN X 1 dX12_paintsAct_8 rfl ?_
    refine AW.icmp_eqN X (tgt := 17) dX12_paintsAct_9 (by decide) (by omega) (by omega) (fun h9 => ?_) (fun h9 => ?_)
    · exact absurd h9 (by decide)
    · refine AW.iload_n X dX12_paintsAct_12 (i := 3) rfl rfl ?_
      refine AW.iconstN X 3 dX12_paintsAct_13 rfl ?_
      refine AW.icmp_neN X (tgt := 23) dX12_paintsAct_14 (by decide) (by omega) (by omega) (fun h14 => ?_) (fun h14 => ?_)
      · refine AW.iload_n X dX12_paintsAct_23 (i := 3) rfl rfl ?_
        refine AW.iconstN X 4 dX12_paintsAct_24 rfl ?_
        refine AW.icmp_neN X (tgt := 34) dX12_paintsAct_25 (by decide) (by omega) (by omega) (fun h25 => ?_) (fun h25 => ?_)
        · refine AW.iload_n X dX12_paintsAct_34 (i := 3) rfl rfl ?_
          refine AW.bipushN X 6 dX12_paintsAct_35 rfl ?_
          refine AW.icmp_neN X (tgt := 46) dX12_paintsAct_37 (by decide) (by omega) (by omega) (fun h37 => ?_) (fun h37 => ?_)
          · exact absurd h37 (by decide)
          · refine AW.aload_n X dX12_paintsAct_40 (i := 0) rfl rfl ?_
            refine AW.bipushN X 70 dX12_paintsAct_41 rfl ?_
            refine AW.callV X dX12_paintsAct_43 lX12_285 cfX12 (c_X12_ran W hTr (by show T.1 + 0 < 880; omega) (x := 70)) om0 rfl rfl rfl rfl ⟨rfl, rfl⟩ (pV_k fun μr43 hb43 => ?_)
            have W43 := wm_same W hb43.2
            have hT43 := tm_tr hT hb43.2
            refine AW.aload_n X dX12_paintsAct_46 (i := 0) rfl rfl ?_
            refine AW.bipushN X 10 dX12_paintsAct_47 rfl ?_
            refine AW.callV X dX12_paintsAct_49 lX12_285 cfX12 (c_X12_ran W43 hb43.1 (by show T.1 + 1 < 880; omega) (x := 10)) om0 rfl rfl rfl rfl ⟨rfl, rfl⟩ (pV_k fun μr49 hb49 => ?_)
            have W49 := wm_same W43 hb49.2
            have hT49 := tm_tr hT43 hb49.2
            refine AW.iload_n X dX12_paintsAct_52 (i := 2) rfl rfl ?_
            refine AW.iload_n X dX12_paintsAct_53 (i := 1) rfl rfl ?_
            refine AW.iadd X dX12_paintsAct_54 ?_
            refine AW.istore X dX12_paintsAct_55 rfl ?_
            refine AW.iload_n X dX12_paintsAct_57 (i := 3) rfl rfl ?_
            refine AW.iconstN X 1 dX12_paintsAct_58 rfl ?_
            refine AW.icmp_eqN X (tgt := 67) dX12_paintsAct_59 (by decide) (by omega) (by omega) (fun h59 => ?_) (fun h59 => ?_)
            · exact absurd h59 (by decide)
            · refine AW.iload_n X dX12_paintsAct_62 (i := 3) rfl rfl ?_
              refine AW.iconstN X 3 dX12_paintsAct_63 rfl ?_
              refine AW.icmp_neN X (tgt := 79) dX12_paintsAct_64 (by decide) (by omega) (by omega) (fun h64 => ?_) (fun h64 => ?_)
              · refine AW.iload_n X dX12_paintsAct_79 (i := 3) rfl rfl ?_
                refine AW.iconstN X 4 dX12_paintsAct_80 rfl ?_
                refine AW.icmp_neN X (tgt := 91) dX12_paintsAct_81 (by decide) (by omega) (by omega) (fun h81 => ?_) (fun h81 => ?_)
                · refine AW.iload_n X dX12_paintsAct_91 (i := 3) rfl rfl ?_
                  refine AW.bipushN X 6 dX12_paintsAct_92 rfl ?_
                  refine AW.icmp_neN X (tgt := 104) dX12_paintsAct_94 (by decide) (by omega) (by omega) (fun h94 => ?_) (fun h94 => ?_)
                  · exact absurd h94 (by decide)
                  · refine AW.iload X dX12_paintsAct_97 rfl ?_
                    refine AW.iconstN X 2 dX12_paintsAct_99 rfl ?_
                    refine AW.imul X dX12_paintsAct_100 ?_
                    refine AW.goto X (tgt := 106) dX12_paintsAct_101 (by decide) ?_
                    refine AW.iret X hQ dX12_paintsAct_106 ⟨_, rfl, ?_⟩
                    exact ⟨rfl, hb49.1, (hb43.2.trn hb49.2)⟩
                · exact absurd h81 (by decide)
              · exact absurd h64 (by decide)
        · exact absurd h25 (by decide)
      · exact absurd h14 (by decide)
set_option maxRecDepth 100000 in
set_option maxHeartbeats 4000000 in
theorem c_X12_peels {l : Launch} {δ : Dl} {b : Nat} {μ : Mm} (W : WM μ.2.2) {τ : Tt} (hT : TMX μ τ) {h : Nat} (hh : h < τ 6 0 0) {k : Nat} (hk : τ h 0 0 = k) {T : Nat × (Nat → Nat)} (hTr : TRM μ T) (hn : T.1 < 830) {x : Int32} : MCM l δ b yX12_peels cX12_peels 7 (some .int) 3 [.ref (b + 0), .int (nI h), .int x] μ (pI fun r μ' => r = aLv k h (τ h 0 1) x ∧ TRM μ' (runL (aLb k) T) ∧ SmM TRp μ μ') := by
  have bn := ti_n hT.1
  have hI := tm_hi hT hh
  have bc := hi_n hI
  have ba := hi_a hI
  have bk := hi_k hI
  refine MC.intro ([some (.ref (b + 0)), some (.int (nI h)), some (.int x), none, none, none, none]) (by decide) rfl rfl fun κ Qc hl hQ X => ?_
  subst hl
  have hk7 : k = 0 ∨ k = 1 ∨ k = 2 ∨ k = 3 ∨ k = 4 ∨ k = 5 ∨ k = 6 := by have := hi_k hI; omega
  rcases hk7 with rfl | rfl | rfl | rfl | rfl | rfl | rfl
  · skip
    refine AW.aload_n X dX12_peels_0 (i := 0) rfl rfl ?_
    refine AW.getR X dX12_peels_1 fX12_20 rfl om0 (wm_at W 3 rfl) ?_
    refine AW.iload_n X dX12_peels_4 (i := 1) rfl rfl ?_
    refine AW.iaload X dX12_peels_5 (am_at 3 rfl) (n2_in (by omega) (by decide)) (v := (nI 0)) (by rw [n2_clamp (by omega)]; exact (tm_k hT hh).trans (congrArg nI hk)) ?_
    refine AW.istore_n X dX12_peels_6 (i := 3) rfl rfl ?_
    refine AW.iload_n X dX12_peels_7 (i := 2) rfl rfl ?_
    refine AW.istore X dX12_peels_8 rfl ?_
    refine AW.iload_n X dX12_peels_10 (i := 3) rfl rfl ?_
    refine AW.bipushN X 6 dX12_peels_11 rfl ?_
    refine AW.icmp_neN X (tgt := 32) dX12_peels_13 (by decide) (by omega) (by omega) (fun h13 => ?_) (fun h13 => ?_)
    · refine AW.iload_n X dX12_peels_32 (i := 3) rfl rfl ?_
      refine AW.iconstN X 3 dX12_peels_33 rfl ?_
      refine AW.icmp_neN X (tgt := 48) dX12_peels_34 (by decide) (by omega) (by omega) (fun h34 => ?_) (fun h34 => ?_)
      · refine AW.iload_n X dX12_peels_48 (i := 3) rfl rfl ?_
        refine AW.iconstN X 2 dX12_peels_49 rfl ?_
        refine AW.icmp_eqN X (tgt := 64) dX12_peels_50 (by decide) (by omega) (by omega) (fun h50 => ?_) (fun h50 => ?_)
        · exact absurd h50 (by decide)
        · refine AW.iload_n X dX12_peels_53 (i := 3) rfl rfl ?_
          refine AW.iconstN X 5 dX12_peels_54 rfl ?_
          refine AW.icmp_eqN X (tgt := 64) dX12_peels_55 (by decide) (by omega) (by omega) (fun h55 => ?_) (fun h55 => ?_)
          · exact absurd h55 (by decide)
          · refine AW.iload_n X dX12_peels_58 (i := 3) rfl rfl ?_
            refine AW.bipushN X 6 dX12_peels_59 rfl ?_
            refine AW.icmp_neN X (tgt := 68) dX12_peels_61 (by decide) (by omega) (by omega) (fun h61 => ?_) (fun h61 => ?_)
            · refine AW.iconstN X 0 dX12_peels_68 rfl ?_
              refine AW.istore X dX12_peels_69 rfl ?_
              refine AW.iload X dX12_peels_71 rfl ?_
              refine AW.if_eqN X (tgt := 82) dX12_peels_73 (by decide) (by omega) (fun h73 => ?_) (fun h73 => ?_)
              · refine AW.aload_n X dX12_peels_82 (i := 0) rfl rfl ?_
                refine AW.bipushN X 11 dX12_peels_83 rfl ?_
                refine AW.callV X dX12_peels_85 lX12_285 cfX12 (c_X12_ran W hTr (by show T.1 + 0 < 880; omega) (x := 11)) om0 rfl rfl rfl rfl ⟨rfl, rfl⟩ (pV_k fun μr85 hb85 => ?_)
                have W85 := wm_same W hb85.2
                have hT85 := tm_tr hT hb85.2
                refine AW.aload_n X dX12_peels_88 (i := 0) rfl rfl ?_
                refine AW.iload_n X dX12_peels_89 (i := 1) rfl rfl ?_
                refine AW.iload X dX12_peels_90 rfl ?_
                refine AW.callV X dX12_peels_92 lX12_288 cfX12 (c_X12_paintsAct W85 hT85 hh hk hb85.1 (by show T.1 + 1 < 850; omega)) om0 rfl rfl rfl rfl ⟨rfl, rfl⟩ (pI_k fun rr92 μr92 hc92 => ?_)
                obtain ⟨rfl, ha92, hs92⟩ := hc92
                have W92 := wm_same W85 hs92
                have hT92 := tm_tr hT85 hs92
                refine AW.iconstN X 2 dX12_peels_95 rfl ?_
                refine AW.imul X dX12_peels_96 ?_
                refine AW.istore X dX12_peels_97 rfl ?_
                refine AW.iload X dX12_peels_99 rfl ?_
                refine AW.if_eqN X (tgt := 111) dX12_peels_101 (by decide) (by omega) (fun h101 => ?_) (fun h101 => ?_)
                · refine AW.iload X dX12_peels_111 rfl ?_
                  refine AW.iret X hQ dX12_peels_113 ⟨_, rfl, ?_⟩
                  exact ⟨rfl, ha92, (hb85.2.trn hs92)⟩
                · exact absurd h101 (by decide)
              · exact absurd h73 (by decide)
            · exact absurd h61 (by decide)
      · exact absurd h34 (by decide)
    · exact absurd h13 (by decide)
  · skip
    refine AW.aload_n X dX12_peels_0 (i := 0) rfl rfl ?_
    refine AW.getR X dX12_peels_1 fX12_20 rfl om0 (wm_at W 3 rfl) ?_
    refine AW.iload_n X dX12_peels_4 (i := 1) rfl rfl ?_
    refine AW.iaload X dX12_peels_5 (am_at 3 rfl) (n2_in (by omega) (by decide)) (v := (nI 1)) (by rw [n2_clamp (by omega)]; exact (tm_k hT hh).trans (congrArg nI hk)) ?_
    refine AW.istore_n X dX12_peels_6 (i := 3) rfl rfl ?_
    refine AW.iload_n X dX12_peels_7 (i := 2) rfl rfl ?_
    refine AW.istore X dX12_peels_8 rfl ?_
    refine AW.iload_n X dX12_peels_10 (i := 3) rfl rfl ?_
    refine AW.bipushN X 6 dX12_peels_11 rfl ?_
    refine AW.icmp_neN X (tgt := 32) dX12_peels_13 (by decide) (by omega) (by omega) (fun h13 => ?_) (fun h13 => ?_)
    · refine AW.iload_n X dX12_peels_32 (i := 3) rfl rfl ?_
      refine AW.iconstN X 3 dX12_peels_33 rfl ?_
      refine AW.icmp_neN X (tgt := 48) dX12_peels_34 (by decide) (by omega) (by omega) (fun h34 => ?_) (fun h34 => ?_)
      · refine AW.iload_n X dX12_peels_48 (i := 3) rfl rfl ?_
        refine AW.iconstN X 2 dX12_peels_49 rfl ?_
        refine AW.icmp_eqN X (tgt := 64) dX12_peels_50 (by decide) (by omega) (by omega) (fun h50 => ?_) (fun h50 => ?_)
        · exact absurd h50 (by decide)
        · refine AW.iload_n X dX12_peels_53 (i := 3) rfl rfl ?_
          refine AW.iconstN X 5 dX12_peels_54 rfl ?_
          refine AW.icmp_eqN X (tgt := 64) dX12_peels_55 (by decide) (by omega) (by omega) (fun h55 => ?_) (fun h55 => ?_)
          · exact absurd h55 (by decide)
          · refine AW.iload_n X dX12_peels_58 (i := 3) rfl rfl ?_
            refine AW.bipushN X 6 dX12_peels_59 rfl ?_
            refine AW.icmp_neN X (tgt := 68) dX12_peels_61 (by decide) (by omega) (by omega) (fun h61 => ?_) (fun h61 => ?_)
            · refine AW.iconstN X 0 dX12_peels_68 rfl ?_
              refine AW.istore X dX12_peels_69 rfl ?_
              refine AW.iload X dX12_peels_71 rfl ?_
              refine AW.if_eqN X (tgt := 82) dX12_peels_73 (by decide) (by omega) (fun h73 => ?_) (fun h73 => ?_)
              · refine AW.aload_n X dX12_peels_82 (i := 0) rfl rfl ?_
                refine AW.bipushN X 11 dX12_peels_83 rfl ?_
                refine AW.callV X dX12_peels_85 lX12_285 cfX12 (c_X12_ran W hTr (by show T.1 + 0 < 880; omega) (x := 11)) om0 rfl rfl rfl rfl ⟨rfl, rfl⟩ (pV_k fun μr85 hb85 => ?_)
                have W85 := wm_same W hb85.2
                have hT85 := tm_tr hT hb85.2
                refine AW.aload_n X dX12_peels_88 (i := 0) rfl rfl ?_
                refine AW.iload_n X dX12_peels_89 (i := 1) rfl rfl ?_
                refine AW.iload X dX12_peels_90 rfl ?_
                refine AW.callV X dX12_peels_92 lX12_288 cfX12 (c_X12_paintsAct W85 hT85 hh hk hb85.1 (by show T.1 + 1 < 850; omega)) om0 rfl rfl rfl rfl ⟨rfl, rfl⟩ (pI_k fun rr92 μr92 hc92 => ?_)
                obtain ⟨rfl, ha92, hs92⟩ := hc92
                have W92 := wm_same W85 hs92
                have hT92 := tm_tr hT85 hs92
                refine AW.iconstN X 2 dX12_peels_95 rfl ?_
                refine AW.imul X dX12_peels_96 ?_
                refine AW.istore X dX12_peels_97 rfl ?_
                refine AW.iload X dX12_peels_99 rfl ?_
                refine AW.if_eqN X (tgt := 111) dX12_peels_101 (by decide) (by omega) (fun h101 => ?_) (fun h101 => ?_)
                · refine AW.iload X dX12_peels_111 rfl ?_
                  refine AW.iret X hQ dX12_peels_113 ⟨_, rfl, ?_⟩
                  exact ⟨rfl, ha92, (hb85.2.trn hs92)⟩
                · exact absurd h101 (by decide)
              · exact absurd h73 (by decide)
            · exact absurd h61 (by decide)
      · exact absurd h34 (by decide)
    · exact absurd h13 (by decide)
  · skip
    refine AW.aload_n X dX12_peels_0 (i := 0) rfl rfl ?_
    refine AW.getR X dX12_peels_1 fX12_20 rfl om0 (wm_at W 3 rfl) ?_
    refine AW.iload_n X dX12_peels_4 (i := 1) rfl rfl ?_
    refine AW.iaload X dX12_peels_5 (am_at 3 rfl) (n2_in (by omega) (by decide)) (v := (nI 2)) (by rw [n2_clamp (by omega)]; exact (tm_k hT hh).trans (congrArg nI hk)) ?_
    refine AW.istore_n X dX12_peels_6 (i := 3) rfl rfl ?_
    refine AW.iload_n X dX12_peels_7 (i := 2) rfl rfl ?_
    refine AW.istore X dX12_peels_8 rfl ?_
    refine AW.iload_n X dX12_peels_10 (i := 3) rfl rfl ?_
    refine AW.bipushN X 6 dX12_peels_11 rfl ?_
    refine AW.icmp_neN X (tgt := 32) dX12_peels_13 (by decide) (by omega) (by omega) (fun h13 => ?_) (fun h13 => ?_)
    · refine AW.iload_n X dX12_peels_32 (i := 3) rfl rfl ?_
      refine AW.iconstN X 3 dX12_peels_33 rfl ?_
      refine AW.icmp_neN X (tgt := 48) dX12_peels_34 (by decide) (by omega) (by omega) (fun h34 => ?_) (fun h34 => ?_)
      · refine AW.iload_n X dX12_peels_48 (i := 3) rfl rfl ?_
        refine AW.iconstN X 2 dX12_peels_49 rfl ?_
        refine AW.icmp_eqN X (tgt := 64) dX12_peels_50 (by decide) (by omega) (by omega) (fun h50 => ?_) (fun h50 => ?_)
        · refine AW.iconstN X 1 dX12_peels_64 rfl ?_
          refine AW.goto X (tgt := 69) dX12_peels_65 (by decide) ?_
          refine AW.istore X dX12_peels_69 rfl ?_
          refine AW.iload X dX12_peels_71 rfl ?_
          refine AW.if_eqN X (tgt := 82) dX12_peels_73 (by decide) (by omega) (fun h73 => ?_) (fun h73 => ?_)
          · exact absurd h73 (by decide)
          · refine AW.aload_n X dX12_peels_76 (i := 0) rfl rfl ?_
            refine AW.bipushN X 30 dX12_peels_77 rfl ?_
            refine AW.callV X dX12_peels_79 lX12_285 cfX12 (c_X12_ran W hTr (by show T.1 + 0 < 880; omega) (x := 30)) om0 rfl rfl rfl rfl ⟨rfl, rfl⟩ (pV_k fun μr79 hb79 => ?_)
            have W79 := wm_same W hb79.2
            have hT79 := tm_tr hT hb79.2
            refine AW.aload_n X dX12_peels_82 (i := 0) rfl rfl ?_
            refine AW.bipushN X 11 dX12_peels_83 rfl ?_
            refine AW.callV X dX12_peels_85 lX12_285 cfX12 (c_X12_ran W79 hb79.1 (by show T.1 + 1 < 880; omega) (x := 11)) om0 rfl rfl rfl rfl ⟨rfl, rfl⟩ (pV_k fun μr85 hb85 => ?_)
            have W85 := wm_same W79 hb85.2
            have hT85 := tm_tr hT79 hb85.2
            refine AW.aload_n X dX12_peels_88 (i := 0) rfl rfl ?_
            refine AW.iload_n X dX12_peels_89 (i := 1) rfl rfl ?_
            refine AW.iload X dX12_peels_90 rfl ?_
            refine AW.callV X dX12_peels_92 lX12_288 cfX12 (c_X12_paintsAct W85 hT85 hh hk hb85.1 (by show T.1 + 2 < 850; omega)) om0 rfl rfl rfl rfl ⟨rfl, rfl⟩ (pI_k fun rr92 μr92 hc92 => ?_)
            obtain ⟨rfl, ha92, hs92⟩ := hc92
            have W92 := wm_same W85 hs92
            have hT92 := tm_tr hT85 hs92
            refine AW.iconstN X 2 dX12_peels_95 rfl ?_
            refine AW.imul X dX12_peels_96 ?_
            refine AW.istore X dX12_peels_97 rfl ?_
            refine AW.iload X dX12_peels_99 rfl ?_
            refine AW.if_eqN X (tgt := 111) dX12_peels_101 (by decide) (by omega) (fun h101 => ?_) (fun h101 => ?_)
            · exact absurd h101 (by decide)
            · refine AW.iload X dX12_peels_104 rfl ?_
              refine AW.iconstN X 3 dX12_peels_106 rfl ?_
              refine AW.imul X dX12_peels_107 ?_
              refine AW.goto X (tgt := 113) dX12_peels_108 (by decide) ?_
              refine AW.iret X hQ dX12_peels_113 ⟨_, rfl, ?_⟩
              exact ⟨rfl, ha92, ((hb79.2.trn hb85.2).trn hs92)⟩
        · exact absurd h50 (by decide)
      · exact absurd h34 (by decide)
    · exact absurd h13 (by decide)
  · skip
    refine AW.aload_n X dX12_peels_0 (i := 0) rfl rfl ?_
    refine AW.getR X dX12_peels_1 fX12_20 rfl om0 (wm_at W 3 rfl) ?_
    refine AW.iload_n X dX12_peels_4 (i := 1) rfl rfl ?_
    refine AW.iaload X dX12_peels_5 (am_at 3 rfl) (n2_in (by omega) (by decide)) (v := (nI 3)) (by rw [n2_clamp (by omega)]; exact (tm_k hT hh).trans (congrArg nI hk)) ?_
    refine AW.istore_n X dX12_peels_6 (i := 3) rfl rfl ?_
    refine AW.iload_n X dX12_peels_7 (i := 2) rfl rfl ?_
    refine AW.istore X dX12_peels_8 rfl ?_
    refine AW.iload_n X dX12_peels_10 (i := 3) rfl rfl ?_
    refine AW.bipushN X 6 dX12_peels_11 rfl ?_
    refine AW.icmp_neN X (tgt := 32) dX12_peels_13 (by decide) (by omega) (by omega) (fun h13 => ?_) (fun h13 => ?_)
    · refine AW.iload_n X dX12_peels_32 (i := 3) rfl rfl ?_
      refine AW.iconstN X 3 dX12_peels_33 rfl ?_
      refine AW.icmp_neN X (tgt := 48) dX12_peels_34 (by decide) (by omega) (by omega) (fun h34 => ?_) (fun h34 => ?_)
      · exact absurd h34 (by decide)
      · refine AW.aload_n X dX12_peels_37 (i := 0) rfl rfl ?_
        refine AW.bipushN X 40 dX12_peels_38 rfl ?_
        refine AW.callV X dX12_peels_40 lX12_285 cfX12 (c_X12_ran W hTr (by show T.1 + 0 < 880; omega) (x := 40)) om0 rfl rfl rfl rfl ⟨rfl, rfl⟩ (pV_k fun μr40 hb40 => ?_)
        have W40 := wm_same W hb40.2
        have hT40 := tm_tr hT hb40.2
        refine AW.iload_n X dX12_peels_43 (i := 2) rfl rfl ?_
        refine AW.iconstN X 1 dX12_peels_44 rfl ?_
        refine AW.iadd X dX12_peels_45 ?_
        refine AW.istore X dX12_peels_46 rfl ?_
        refine AW.iload_n X dX12_peels_48 (i := 3) rfl rfl ?_
        refine AW.iconstN X 2 dX12_peels_49 rfl ?_
        refine AW.icmp_eqN X (tgt := 64) dX12_peels_50 (by decide) (by omega) (by omega) (fun h50 => ?_) (fun h50 => ?_)
        · exact absurd h50 (by decide)
        · refine AW.iload_n X dX12_peels_53 (i := 3) rfl rfl ?_
          refine AW.iconstN X 5 dX12_peels_54 rfl ?_
          refine AW.icmp_eqN X (tgt := 64) dX12_peels_55 (by decide) (by omega) (by omega) (fun h55 => ?_) (fun h55 => ?_)
          · exact absurd h55 (by decide)
          · refine AW.iload_n X dX12_peels_58 (i := 3) rfl rfl ?_
            refine AW.bipushN X 6 dX12_peels_59 rfl ?_
            refine AW.icmp_neN X (tgt := 68) dX12_peels_61 (by decide) (by omega) (by omega) (fun h61 => ?_) (fun h61 => ?_)
            · refine AW.iconstN X 0 dX12_peels_68 rfl ?_
              refine AW.istore X dX12_peels_69 rfl ?_
              refine AW.iload X dX12_peels_71 rfl ?_
              refine AW.if_eqN X (tgt := 82) dX12_peels_73 (by decide) (by omega) (fun h73 => ?_) (fun h73 => ?_)
              · refine AW.aload_n X dX12_peels_82 (i := 0) rfl rfl ?_
                refine AW.bipushN X 11 dX12_peels_83 rfl ?_
                refine AW.callV X dX12_peels_85 lX12_285 cfX12 (c_X12_ran W40 hb40.1 (by show T.1 + 1 < 880; omega) (x := 11)) om0 rfl rfl rfl rfl ⟨rfl, rfl⟩ (pV_k fun μr85 hb85 => ?_)
                have W85 := wm_same W40 hb85.2
                have hT85 := tm_tr hT40 hb85.2
                refine AW.aload_n X dX12_peels_88 (i := 0) rfl rfl ?_
                refine AW.iload_n X dX12_peels_89 (i := 1) rfl rfl ?_
                refine AW.iload X dX12_peels_90 rfl ?_
                refine AW.callV X dX12_peels_92 lX12_288 cfX12 (c_X12_paintsAct W85 hT85 hh hk hb85.1 (by show T.1 + 2 < 850; omega)) om0 rfl rfl rfl rfl ⟨rfl, rfl⟩ (pI_k fun rr92 μr92 hc92 => ?_)
                obtain ⟨rfl, ha92, hs92⟩ := hc92
                have W92 := wm_same W85 hs92
                have hT92 := tm_tr hT85 hs92
                refine AW.iconstN X 2 dX12_peels_95 rfl ?_
                refine AW.imul X dX12_peels_96 ?_
                refine AW.istore X dX12_peels_97 rfl ?_
                refine AW.iload X dX12_peels_99 rfl ?_
                refine AW.if_eqN X (tgt := 111) dX12_peels_101 (by decide) (by omega) (fun h101 => ?_) (fun h101 => ?_)
                · refine AW.iload X dX12_peels_111 rfl ?_
                  refine AW.iret X hQ dX12_peels_113 ⟨_, rfl, ?_⟩
                  exact ⟨rfl, ha92, ((hb40.2.trn hb85.2).trn hs92)⟩
                · exact absurd h101 (by decide)
              · exact absurd h73 (by decide)
            · exact absurd h61 (by decide)
    · exact absurd h13 (by decide)
  · skip
    refine AW.aload_n X dX12_peels_0 (i := 0) rfl rfl ?_
    refine AW.getR X dX12_peels_1 fX12_20 rfl om0 (wm_at W 3 rfl) ?_
    refine AW.iload_n X dX12_peels_4 (i := 1) rfl rfl ?_
    refine AW.iaload X dX12_peels_5 (am_at 3 rfl) (n2_in (by omega) (by decide)) (v := (nI 4)) (by rw [n2_clamp (by omega)]; exact (tm_k hT hh).trans (congrArg nI hk)) ?_
    refine AW.istore_n X dX12_peels_6 (i := 3) rfl rfl ?_
    refine AW.iload_n X dX12_peels_7 (i := 2) rfl rfl ?_
    refine AW.istore X dX12_peels_8 rfl ?_
    refine AW.iload_n X dX12_peels_10 (i := 3) rfl rfl ?_
    refine AW.bipushN X 6 dX12_peels_11 rfl ?_
    refine AW.icmp_neN X (tgt := 32) dX12_peels_13 (by decide) (by omega) (by omega) (fun h13 => ?_) (fun h13 => ?_)
    · refine AW.iload_n X dX12_peels_32 (i := 3) rfl rfl ?_
      refine AW.iconstN X 3 dX12_peels_33 rfl ?_
      refine AW.icmp_neN X (tgt := 48) dX12_peels_34 (by decide) (by omega) (by omega) (fun h34 => ?_) (fun h34 => ?_)
      · refine AW.iload_n X dX12_peels_48 (i := 3) rfl rfl ?_
        refine AW.iconstN X 2 dX12_peels_49 rfl ?_
        refine AW.icmp_eqN X (tgt := 64) dX12_peels_50 (by decide) (by omega) (by omega) (fun h50 => ?_) (fun h50 => ?_)
        · exact absurd h50 (by decide)
        · refine AW.iload_n X dX12_peels_53 (i := 3) rfl rfl ?_
          refine AW.iconstN X 5 dX12_peels_54 rfl ?_
          refine AW.icmp_eqN X (tgt := 64) dX12_peels_55 (by decide) (by omega) (by omega) (fun h55 => ?_) (fun h55 => ?_)
          · exact absurd h55 (by decide)
          · refine AW.iload_n X dX12_peels_58 (i := 3) rfl rfl ?_
            refine AW.bipushN X 6 dX12_peels_59 rfl ?_
            refine AW.icmp_neN X (tgt := 68) dX12_peels_61 (by decide) (by omega) (by omega) (fun h61 => ?_) (fun h61 => ?_)
            · refine AW.iconstN X 0 dX12_peels_68 rfl ?_
              refine AW.istore X dX12_peels_69 rfl ?_
              refine AW.iload X dX12_peels_71 rfl ?_
              refine AW.if_eqN X (tgt := 82) dX12_peels_73 (by decide) (by omega) (fun h73 => ?_) (fun h73 => ?_)
              · refine AW.aload_n X dX12_peels_82 (i := 0) rfl rfl ?_
                refine AW.bipushN X 11 dX12_peels_83 rfl ?_
                refine AW.callV X dX12_peels_85 lX12_285 cfX12 (c_X12_ran W hTr (by show T.1 + 0 < 880; omega) (x := 11)) om0 rfl rfl rfl rfl ⟨rfl, rfl⟩ (pV_k fun μr85 hb85 => ?_)
                have W85 := wm_same W hb85.2
                have hT85 := tm_tr hT hb85.2
                refine AW.aload_n X dX12_peels_88 (i := 0) rfl rfl ?_
                refine AW.iload_n X dX12_peels_89 (i := 1) rfl rfl ?_
                refine AW.iload X dX12_peels_90 rfl ?_
                refine AW.callV X dX12_peels_92 lX12_288 cfX12 (c_X12_paintsAct W85 hT85 hh hk hb85.1 (by show T.1 + 1 < 850; omega)) om0 rfl rfl rfl rfl ⟨rfl, rfl⟩ (pI_k fun rr92 μr92 hc92 => ?_)
                obtain ⟨rfl, ha92, hs92⟩ := hc92
                have W92 := wm_same W85 hs92
                have hT92 := tm_tr hT85 hs92
                refine AW.iconstN X 2 dX12_peels_95 rfl ?_
                refine AW.imul X dX12_peels_96 ?_
                refine AW.istore X dX12_peels_97 rfl ?_
                refine AW.iload X dX12_peels_99 rfl ?_
                refine AW.if_eqN X (tgt := 111) dX12_peels_101 (by decide) (by omega) (fun h101 => ?_) (fun h101 => ?_)
                · refine AW.iload X dX12_peels_111 rfl ?_
                  refine AW.iret X hQ dX12_peels_113 ⟨_, rfl, ?_⟩
                  exact ⟨rfl, ha92, (hb85.2.trn hs92)⟩
                · exact absurd h101 (by decide)
              · exact absurd h73 (by decide)
            · exact absurd h61 (by decide)
      · exact absurd h34 (by decide)
    · exact absurd h13 (by decide)
  · skip
    refine AW.aload_n X dX12_peels_0 (i := 0) rfl rfl ?_
    refine AW.getR X dX12_peels_1 fX12_20 rfl om0 (wm_at W 3 rfl) ?_
    refine AW.iload_n X dX12_peels_4 (i := 1) rfl rfl ?_
    refine AW.iaload X dX12_peels_5 (am_at 3 rfl) (n2_in (by omega) (by decide)) (v := (nI 5)) (by rw [n2_clamp (by omega)]; exact (tm_k hT hh).trans (congrArg nI hk)) ?_
    refine AW.istore_n X dX12_peels_6 (i := 3) rfl rfl ?_
    refine AW.iload_n X dX12_peels_7 (i := 2) rfl rfl ?_
    refine AW.istore X dX12_peels_8 rfl ?_
    refine AW.iload_n X dX12_peels_10 (i := 3) rfl rfl ?_
    refine AW.bipushN X 6 dX12_peels_11 rfl ?_
    refine AW.icmp_neN X (tgt := 32) dX12_peels_13 (by decide) (by omega) (by omega) (fun h13 => ?_) (fun h13 => ?_)
    · refine AW.iload_n X dX12_peels_32 (i := 3) rfl rfl ?_
      refine AW.iconstN X 3 dX12_peels_33 rfl ?_
      refine AW.icmp_neN X (tgt := 48) dX12_peels_34 (by decide) (by omega) (by omega) (fun h34 => ?_) (fun h34 => ?_)
      · refine AW.iload_n X dX12_peels_48 (i := 3) rfl rfl ?_
        refine AW.iconstN X 2 dX12_peels_49 rfl ?_
        refine AW.icmp_eqN X (tgt := 64) dX12_peels_50 (by decide) (by omega) (by omega) (fun h50 => ?_) (fun h50 => ?_)
        · exact absurd h50 (by decide)
        · refine AW.iload_n X dX12_peels_53 (i := 3) rfl rfl ?_
          refine AW.iconstN X 5 dX12_peels_54 rfl ?_
          refine AW.icmp_eqN X (tgt := 64) dX12_peels_55 (by decide) (by omega) (by omega) (fun h55 => ?_) (fun h55 => ?_)
          · refine AW.iconstN X 1 dX12_peels_64 rfl ?_
            refine AW.goto X (tgt := 69) dX12_peels_65 (by decide) ?_
            refine AW.istore X dX12_peels_69 rfl ?_
            refine AW.iload X dX12_peels_71 rfl ?_
            refine AW.if_eqN X (tgt := 82) dX12_peels_73 (by decide) (by omega) (fun h73 => ?_) (fun h73 => ?_)
            · exact absurd h73 (by decide)
            · refine AW.aload_n X dX12_peels_76 (i := 0) rfl rfl ?_
              refine AW.bipushN X 30 dX12_peels_77 rfl ?_
              refine AW.callV X dX12_peels_79 lX12_285 cfX12 (c_X12_ran W hTr (by show T.1 + 0 < 880; omega) (x := 30)) om0 rfl rfl rfl rfl ⟨rfl, rfl⟩ (pV_k fun μr79 hb79 => ?_)
              have W79 := wm_same W hb79.2
              have hT79 := tm_tr hT hb79.2
              refine AW.aload_n X dX12_peels_82 (i := 0) rfl rfl ?_
              refine AW.bipushN X 11 dX12_peels_83 rfl ?_
              refine AW.callV X dX12_peels_85 lX12_285 cfX12 (c_X12_ran W79 hb79.1 (by show T.1 + 1 < 880; omega) (x := 11)) om0 rfl rfl rfl rfl ⟨rfl, rfl⟩ (pV_k fun μr85 hb85 => ?_)
              have W85 := wm_same W79 hb85.2
              have hT85 := tm_tr hT79 hb85.2
              refine AW.aload_n X dX12_peels_88 (i := 0) rfl rfl ?_
              refine AW.iload_n X dX12_peels_89 (i := 1) rfl rfl ?_
              refine AW.iload X dX12_peels_90 rfl ?_
              refine AW.callV X dX12_peels_92 lX12_288 cfX12 (c_X12_paintsAct W85 hT85 hh hk hb85.1 (by show T.1 + 2 < 850; omega)) om0 rfl rfl rfl rfl ⟨rfl, rfl⟩ (pI_k fun rr92 μr92 hc92 => ?_)
              obtain ⟨rfl, ha92, hs92⟩ := hc92
              have W92 := wm_same W85 hs92
              have hT92 := tm_tr hT85 hs92
              refine AW.iconstN X 2 dX12_peels_95 rfl ?_
              refine AW.imul X dX12_peels_96 ?_
              refine AW.istore X dX12_peels_97 rfl ?_
              refine AW.iload X dX12_peels_99 rfl ?_
              refine AW.if_eqN X (tgt := 111) dX12_peels_101 (by decide) (by omega) (fun h101 => ?_) (fun h101 => ?_)
              · exact absurd h101 (by decide)
              · refine AW.iload X dX12_peels_104 rfl ?_
                refine AW.iconstN X 3 dX12_peels_106 rfl ?_
                refine AW.imul X dX12_peels_107 ?_
                refine AW.goto X (tgt := 113) dX12_peels_108 (by decide) ?_
                refine AW.iret X hQ dX12_peels_113 ⟨_, rfl, ?_⟩
                exact ⟨rfl, ha92, ((hb79.2.trn hb85.2).trn hs92)⟩
          · exact absurd h55 (by decide)
      · exact absurd h34 (by decide)
    · exact absurd h13 (by decide)
  · skip
    refine AW.aload_n X dX12_peels_0 (i := 0) rfl rfl ?_
    refine AW.getR X dX12_peels_1 fX12_20 rfl om0 (wm_at W 3 rfl) ?_
    refine AW.iload_n X dX12_peels_4 (i := 1) rfl rfl ?_
    refine AW.iaload X dX12_peels_5 (am_at 3 rfl) (n2_in (by omega) (by decide)) (v := (nI 6)) (by rw [n2_clamp (by omega)]; exact (tm_k hT hh).trans (congrArg nI hk)) ?_
    refine AW.istore_n X dX12_peels_6 (i := 3) rfl rfl ?_
    refine AW.iload_n X dX12_peels_7 (i := 2) rfl rfl ?_
    refine AW.istore X dX12_peels_8 rfl ?_
    refine AW.iload_n X dX12_peels_10 (i := 3) rfl rfl ?_
    refine AW.bipushN X 6 dX12_peels_11 rfl ?_
    refine AW.icmp_neN X (tgt := 32) dX12_peels_13 (by decide) (by omega) (by omega) (fun h13 => ?_) (fun h13 => ?_)
    · exact absurd h13 (by decide)
    · refine AW.aload_n X dX12_peels_16 (i := 0) rfl rfl ?_
      refine AW.bipushN X 71 dX12_peels_17 rfl ?_
      refine AW.callV X dX12_peels_19 lX12_285 cfX12 (c_X12_ran W hTr (by show T.1 + 0 < 880; omega) (x := 71)) om0 rfl rfl rfl rfl ⟨rfl, rfl⟩ (pV_k fun μr19 hb19 => ?_)
      have W19 := wm_same W hb19.2
      have hT19 := tm_tr hT hb19.2
      refine AW.iload_n X dX12_peels_22 (i := 2) rfl rfl ?_
      refine AW.aload_n X dX12_peels_23 (i := 0) rfl rfl ?_
      refine AW.getR X dX12_peels_24 fX12_23 rfl om0 (wm_at W19 4 rfl) ?_
      refine AW.iload_n X dX12_peels_27 (i := 1) rfl rfl ?_
      refine AW.iaload X dX12_peels_28 (am_at 4 rfl) (n2_in (by omega) (by decide)) (v := (nI (τ h 0 1))) (by rw [n2_clamp (by omega)]; exact tm_a hT19 (by omega)) ?_
      refine AW.isub X dX12_peels_29 ?_
      refine AW.istore X dX12_peels_30 rfl ?_
      refine AW.iload_n X dX12_peels_32 (i := 3) rfl rfl ?_
      refine AW.iconstN X 3 dX12_peels_33 rfl ?_
      refine AW.icmp_neN X (tgt := 48) dX12_peels_34 (by decide) (by omega) (by omega) (fun h34 => ?_) (fun h34 => ?_)
      · refine AW.iload_n X dX12_peels_48 (i := 3) rfl rfl ?_
        refine AW.iconstN X 2 dX12_peels_49 rfl ?_
        refine AW.icmp_eqN X (tgt := 64) dX12_peels_50 (by decide) (by omega) (by omega) (fun h50 => ?_) (fun h50 => ?_)
        · exact absurd h50 (by decide)
        · refine AW.iload_n X dX12_peels_53 (i := 3) rfl rfl ?_
          refine AW.iconstN X 5 dX12_peels_54 rfl ?_
          refine AW.icmp_eqN X (tgt := 64) dX12_peels_55 (by decide) (by omega) (by omega) (fun h55 => ?_) (fun h55 => ?_)
          · exact absurd h55 (by decide)
          · refine AW.iload_n X dX12_peels_58 (i := 3) rfl rfl ?_
            refine AW.bipushN X 6 dX12_peels_59 rfl ?_
            refine AW.icmp_neN X (tgt := 68) dX12_peels_61 (by decide) (by omega) (by omega) (fun h61 => ?_) (fun h61 => ?_)
            · exact absurd h61 (by decide)
            · refine AW.iconstN X 1 dX12_peels_64 rfl ?_
              refine AW.goto X (tgt := 69) dX12_peels_65 (by decide) ?_
              refine AW.istore X dX12_peels_69 rfl ?_
              refine AW.iload X dX12_peels_71 rfl ?_
              refine AW.if_eqN X (tgt := 82) dX12_peels_73 (by decide) (by omega) (fun h73 => ?_) (fun h73 => ?_)
              · exact absurd h73 (by decide)
              · refine AW.aload_n X dX12_peels_76 (i := 0) rfl rfl ?_
                refine AW.bipushN X 30 dX12_peels_77 rfl ?_
                refine AW.callV X dX12_peels_79 lX12_285 cfX12 (c_X12_ran W19 hb19.1 (by show T.1 + 1 < 880; omega) (x := 30)) om0 rfl rfl rfl rfl ⟨rfl, rfl⟩ (pV_k fun μr79 hb79 => ?_)
                have W79 := wm_same W19 hb79.2
                have hT79 := tm_tr hT19 hb79.2
                refine AW.aload_n X dX12_peels_82 (i := 0) rfl rfl ?_
                refine AW.bipushN X 11 dX12_peels_83 rfl ?_
                refine AW.callV X dX12_peels_85 lX12_285 cfX12 (c_X12_ran W79 hb79.1 (by show T.1 + 2 < 880; omega) (x := 11)) om0 rfl rfl rfl rfl ⟨rfl, rfl⟩ (pV_k fun μr85 hb85 => ?_)
                have W85 := wm_same W79 hb85.2
                have hT85 := tm_tr hT79 hb85.2
                refine AW.aload_n X dX12_peels_88 (i := 0) rfl rfl ?_
                refine AW.iload_n X dX12_peels_89 (i := 1) rfl rfl ?_
                refine AW.iload X dX12_peels_90 rfl ?_
                refine AW.callV X dX12_peels_92 lX12_288 cfX12 (c_X12_paintsAct W85 hT85 hh hk hb85.1 (by show T.1 + 3 < 850; omega)) om0 rfl rfl rfl rfl ⟨rfl, rfl⟩ (pI_k fun rr92 μr92 hc92 => ?_)
                obtain ⟨rfl, ha92, hs92⟩ := hc92
                have W92 := wm_same W85 hs92
                have hT92 := tm_tr hT85 hs92
                refine AW.iconstN X 2 dX12_peels_95 rfl ?_
                refine AW.imul X dX12_peels_96 ?_
                refine AW.istore X dX12_peels_97 rfl ?_
                refine AW.iload X dX12_peels_99 rfl ?_
                refine AW.if_eqN X (tgt := 111) dX12_peels_101 (by decide) (by omega) (fun h101 => ?_) (fun h101 => ?_)
                · exact absurd h101 (by decide)
                · refine AW.iload X dX12_peels_104 rfl ?_
                  refine AW.iconstN X 3 dX12_peels_106 rfl ?_
                  refine AW.imul X dX12_peels_107 ?_
                  refine AW.goto X (tgt := 113) dX12_peels_108 (by decide) ?_
                  refine AW.iret X hQ dX12_peels_113 ⟨_, rfl, ?_⟩
                  exact ⟨rfl, ha92, (((hb19.2.trn hb79.2).trn hb85.2).trn hs92)⟩
      · exact absurd h34 (by decide)
set_option maxRecDepth 100000 in
set_option maxHeartbeats 4000000 in
theorem c_X12_fallsAct {l : Launch} {δ : Dl} {b : Nat} {μ : Mm} (W : WM μ.2.2) {τ : Tt} (hT : TMX μ τ) {h : Nat} (hh : h < τ 6 0 0) {k : Nat} (hk : τ h 0 0 = k) {T : Nat × (Nat → Nat)} (hTr : TRM μ T) (hn : T.1 < 810) {x : Int32} : MCM l δ b yX12_fallsAct cX12_fallsAct 5 (some .int) 4 [.ref (b + 0), .int (nI h), .int x] μ (pI fun r μ' => r = aFv k h (τ h 0 1) x ∧ TRM μ' (runL (aFb k) T) ∧ SmM TRp μ μ') := by
  have bn := ti_n hT.1
  have hI := tm_hi hT hh
  have bc := hi_n hI
  have ba := hi_a hI
  have bk := hi_k hI
  refine MC.intro ([some (.ref (b + 0)), some (.int (nI h)), some (.int x), none, none]) (by decide) rfl rfl fun κ Qc hl hQ X => ?_
  subst hl
  have hk7 : k = 0 ∨ k = 1 ∨ k = 2 ∨ k = 3 ∨ k = 4 ∨ k = 5 ∨ k = 6 := by have := hi_k hI; omega
  rcases hk7 with rfl | rfl | rfl | rfl | rfl | rfl | rfl
  · skip
    refine AW.aload_n X dX12_fallsAct_0 (i := 0) rfl rfl ?_
    refine AW.getR X dX12_fallsAct_1 fX12_20 rfl om0 (wm_at W 3 rfl) ?_
    refine AW.iload_n X dX12_fallsAct_4 (i := 1) rfl rfl ?_
    refine AW.iaload X dX12_fallsAct_5 (am_at 3 rfl) (n2_in (by omega) (by decide)) (v := (nI 0)) (by rw [n2_clamp (by omega)]; exact (tm_k hT hh).trans (congrArg nI hk)) ?_
    refine AW.iconstN X 4 dX12_fallsAct_6 rfl ?_
    refine AW.icmp_neN X (tgt := 16) dX12_fallsAct_7 (by decide) (by omega) (by omega) (fun h7 => ?_) (fun h7 => ?_)
    · refine AW.aload_n X dX12_fallsAct_16 (i := 0) rfl rfl ?_
      refine AW.getR X dX12_fallsAct_17 fX12_20 rfl om0 (wm_at W 3 rfl) ?_
      refine AW.iload_n X dX12_fallsAct_20 (i := 1) rfl rfl ?_
      refine AW.iaload X dX12_fallsAct_21 (am_at 3 rfl) (n2_in (by omega) (by decide)) (v := (nI 0)) (by rw [n2_clamp (by omega)]; exact (tm_k hT hh).trans (congrArg nI hk)) ?_
      refine AW.iconstN X 5 dX12_fallsAct_22 rfl ?_
      refine AW.icmp_neN X (tgt := 32) dX12_fallsAct_23 (by decide) (by omega) (by omega) (fun h23 => ?_) (fun h23 => ?_)
      · refine AW.aload_n X dX12_fallsAct_32 (i := 0) rfl rfl ?_
        refine AW.bipushN X 12 dX12_fallsAct_33 rfl ?_
        refine AW.callV X dX12_fallsAct_35 lX12_285 cfX12 (c_X12_ran W hTr (by show T.1 + 0 < 880; omega) (x := 12)) om0 rfl rfl rfl rfl ⟨rfl, rfl⟩ (pV_k fun μr35 hb35 => ?_)
        have W35 := wm_same W hb35.2
        have hT35 := tm_tr hT hb35.2
        refine AW.aload_n X dX12_fallsAct_38 (i := 0) rfl rfl ?_
        refine AW.iload_n X dX12_fallsAct_39 (i := 1) rfl rfl ?_
        refine AW.iload_n X dX12_fallsAct_40 (i := 2) rfl rfl ?_
        refine AW.callV X dX12_fallsAct_41 lX12_291 cfX12 (c_X12_peels W35 hT35 hh hk hb35.1 (by show T.1 + 1 < 830; omega)) om0 rfl rfl rfl rfl ⟨rfl, rfl⟩ (pI_k fun rr41 μr41 hc41 => ?_)
        obtain ⟨rfl, ha41, hs41⟩ := hc41
        have W41 := wm_same W35 hs41
        have hT41 := tm_tr hT35 hs41
        refine AW.istore_n X dX12_fallsAct_44 (i := 3) rfl rfl ?_
        refine AW.iload_n X dX12_fallsAct_45 (i := 3) rfl rfl ?_
        refine AW.aload_n X dX12_fallsAct_46 (i := 0) rfl rfl ?_
        refine AW.iload_n X dX12_fallsAct_47 (i := 1) rfl rfl ?_
        refine AW.iload_n X dX12_fallsAct_48 (i := 2) rfl rfl ?_
        refine AW.aload_n X dX12_fallsAct_49 (i := 0) rfl rfl ?_
        refine AW.getR X dX12_fallsAct_50 fX12_23 rfl om0 (wm_at W41 4 rfl) ?_
        refine AW.iload_n X dX12_fallsAct_53 (i := 1) rfl rfl ?_
        refine AW.iaload X dX12_fallsAct_54 (am_at 4 rfl) (n2_in (by omega) (by decide)) (v := (nI (τ h 0 1))) (by rw [n2_clamp (by omega)]; exact tm_a hT41 (by omega)) ?_
        refine AW.isub X dX12_fallsAct_55 ?_
        refine AW.callV X dX12_fallsAct_56 lX12_288 cfX12 (c_X12_paintsAct W41 hT41 hh hk ha41 (by show T.1 + 3 < 850; omega)) om0 rfl rfl rfl rfl ⟨rfl, rfl⟩ (pI_k fun rr56 μr56 hc56 => ?_)
        obtain ⟨rfl, ha56, hs56⟩ := hc56
        have W56 := wm_same W41 hs56
        have hT56 := tm_tr hT41 hs56
        refine AW.ixor X dX12_fallsAct_59 ?_
        refine AW.istore X dX12_fallsAct_60 rfl ?_
        refine AW.aload_n X dX12_fallsAct_62 (i := 0) rfl rfl ?_
        refine AW.getR X dX12_fallsAct_63 fX12_20 rfl om0 (wm_at W56 3 rfl) ?_
        refine AW.iload_n X dX12_fallsAct_66 (i := 1) rfl rfl ?_
        refine AW.iaload X dX12_fallsAct_67 (am_at 3 rfl) (n2_in (by omega) (by decide)) (v := (nI 0)) (by rw [n2_clamp (by omega)]; exact (tm_k hT56 hh).trans (congrArg nI hk)) ?_
        refine AW.iconstN X 4 dX12_fallsAct_68 rfl ?_
        refine AW.icmp_neN X (tgt := 78) dX12_fallsAct_69 (by decide) (by omega) (by omega) (fun h69 => ?_) (fun h69 => ?_)
        · refine AW.aload_n X dX12_fallsAct_78 (i := 0) rfl rfl ?_
          refine AW.getR X dX12_fallsAct_79 fX12_20 rfl om0 (wm_at W56 3 rfl) ?_
          refine AW.iload_n X dX12_fallsAct_82 (i := 1) rfl rfl ?_
          refine AW.iaload X dX12_fallsAct_83 (am_at 3 rfl) (n2_in (by omega) (by decide)) (v := (nI 0)) (by rw [n2_clamp (by omega)]; exact (tm_k hT56 hh).trans (congrArg nI hk)) ?_
          refine AW.iconstN X 5 dX12_fallsAct_84 rfl ?_
          refine AW.icmp_neN X (tgt := 95) dX12_fallsAct_85 (by decide) (by omega) (by omega) (fun h85 => ?_) (fun h85 => ?_)
          · refine AW.iload X dX12_fallsAct_95 rfl ?_
            refine AW.iret X hQ dX12_fallsAct_97 ⟨_, rfl, ?_⟩
            exact ⟨rfl, ha56, ((hb35.2.trn hs41).trn hs56)⟩
          · exact absurd h85 (by decide)
        · exact absurd h69 (by decide)
      · exact absurd h23 (by decide)
    · exact absurd h7 (by decide)
  · skip
    refine AW.aload_n X dX12_fallsAct_0 (i := 0) rfl rfl ?_
    refine AW.getR X dX12_fallsAct_1 fX12_20 rfl om0 (wm_at W 3 rfl) ?_
    refine AW.iload_n X dX12_fallsAct_4 (i := 1) rfl rfl ?_
    refine AW.iaload X dX12_fallsAct_5 (am_at 3 rfl) (n2_in (by omega) (by decide)) (v := (nI 1)) (by rw [n2_clamp (by omega)]; exact (tm_k hT hh).trans (congrArg nI hk)) ?_
    refine AW.iconstN X 4 dX12_fallsAct_6 rfl ?_
    refine AW.icmp_neN X (tgt := 16) dX12_fallsAct_7 (by decide) (by omega) (by omega) (fun h7 => ?_) (fun h7 => ?_)
    · refine AW.aload_n X dX12_fallsAct_16 (i := 0) rfl rfl ?_
      refine AW.getR X dX12_fallsAct_17 fX12_20 rfl om0 (wm_at W 3 rfl) ?_
      refine AW.iload_n X dX12_fallsAct_20 (i := 1) rfl rfl ?_
      refine AW.iaload X dX12_fallsAct_21 (am_at 3 rfl) (n2_in (by omega) (by decide)) (v := (nI 1)) (by rw [n2_clamp (by omega)]; exact (tm_k hT hh).trans (congrArg nI hk)) ?_
      refine AW.iconstN X 5 dX12_fallsAct_22 rfl ?_
      refine AW.icmp_neN X (tgt := 32) dX12_fallsAct_23 (by decide) (by omega) (by omega) (fun h23 => ?_) (fun h23 => ?_)
      · refine AW.aload_n X dX12_fallsAct_32 (i := 0) rfl rfl ?_
        refine AW.bipushN X 12 dX12_fallsAct_33 rfl ?_
        refine AW.callV X dX12_fallsAct_35 lX12_285 cfX12 (c_X12_ran W hTr (by show T.1 + 0 < 880; omega) (x := 12)) om0 rfl rfl rfl rfl ⟨rfl, rfl⟩ (pV_k fun μr35 hb35 => ?_)
        have W35 := wm_same W hb35.2
        have hT35 := tm_tr hT hb35.2
        refine AW.aload_n X dX12_fallsAct_38 (i := 0) rfl rfl ?_
        refine AW.iload_n X dX12_fallsAct_39 (i := 1) rfl rfl ?_
        refine AW.iload_n X dX12_fallsAct_40 (i := 2) rfl rfl ?_
        refine AW.callV X dX12_fallsAct_41 lX12_291 cfX12 (c_X12_peels W35 hT35 hh hk hb35.1 (by show T.1 + 1 < 830; omega)) om0 rfl rfl rfl rfl ⟨rfl, rfl⟩ (pI_k fun rr41 μr41 hc41 => ?_)
        obtain ⟨rfl, ha41, hs41⟩ := hc41
        have W41 := wm_same W35 hs41
        have hT41 := tm_tr hT35 hs41
        refine AW.istore_n X dX12_fallsAct_44 (i := 3) rfl rfl ?_
        refine AW.iload_n X dX12_fallsAct_45 (i := 3) rfl rfl ?_
        refine AW.aload_n X dX12_fallsAct_46 (i := 0) rfl rfl ?_
        refine AW.iload_n X dX12_fallsAct_47 (i := 1) rfl rfl ?_
        refine AW.iload_n X dX12_fallsAct_48 (i := 2) rfl rfl ?_
        refine AW.aload_n X dX12_fallsAct_49 (i := 0) rfl rfl ?_
        refine AW.getR X dX12_fallsAct_50 fX12_23 rfl om0 (wm_at W41 4 rfl) ?_
        refine AW.iload_n X dX12_fallsAct_53 (i := 1) rfl rfl ?_
        refine AW.iaload X dX12_fallsAct_54 (am_at 4 rfl) (n2_in (by omega) (by decide)) (v := (nI (τ h 0 1))) (by rw [n2_clamp (by omega)]; exact tm_a hT41 (by omega)) ?_
        refine AW.isub X dX12_fallsAct_55 ?_
        refine AW.callV X dX12_fallsAct_56 lX12_288 cfX12 (c_X12_paintsAct W41 hT41 hh hk ha41 (by show T.1 + 4 < 850; omega)) om0 rfl rfl rfl rfl ⟨rfl, rfl⟩ (pI_k fun rr56 μr56 hc56 => ?_)
        obtain ⟨rfl, ha56, hs56⟩ := hc56
        have W56 := wm_same W41 hs56
        have hT56 := tm_tr hT41 hs56
        refine AW.ixor X dX12_fallsAct_59 ?_
        refine AW.istore X dX12_fallsAct_60 rfl ?_
        refine AW.aload_n X dX12_fallsAct_62 (i := 0) rfl rfl ?_
        refine AW.getR X dX12_fallsAct_63 fX12_20 rfl om0 (wm_at W56 3 rfl) ?_
        refine AW.iload_n X dX12_fallsAct_66 (i := 1) rfl rfl ?_
        refine AW.iaload X dX12_fallsAct_67 (am_at 3 rfl) (n2_in (by omega) (by decide)) (v := (nI 1)) (by rw [n2_clamp (by omega)]; exact (tm_k hT56 hh).trans (congrArg nI hk)) ?_
        refine AW.iconstN X 4 dX12_fallsAct_68 rfl ?_
        refine AW.icmp_neN X (tgt := 78) dX12_fallsAct_69 (by decide) (by omega) (by omega) (fun h69 => ?_) (fun h69 => ?_)
        · refine AW.aload_n X dX12_fallsAct_78 (i := 0) rfl rfl ?_
          refine AW.getR X dX12_fallsAct_79 fX12_20 rfl om0 (wm_at W56 3 rfl) ?_
          refine AW.iload_n X dX12_fallsAct_82 (i := 1) rfl rfl ?_
          refine AW.iaload X dX12_fallsAct_83 (am_at 3 rfl) (n2_in (by omega) (by decide)) (v := (nI 1)) (by rw [n2_clamp (by omega)]; exact (tm_k hT56 hh).trans (congrArg nI hk)) ?_
          refine AW.iconstN X 5 dX12_fallsAct_84 rfl ?_
          refine AW.icmp_neN X (tgt := 95) dX12_fallsAct_85 (by decide) (by omega) (by omega) (fun h85 => ?_) (fun h85 => ?_)
          · refine AW.iload X dX12_fallsAct_95 rfl ?_
            refine AW.iret X hQ dX12_fallsAct_97 ⟨_, rfl, ?_⟩
            exact ⟨rfl, ha56, ((hb35.2.trn hs41).trn hs56)⟩
          · exact absurd h85 (by decide)
        · exact absurd h69 (by decide)
      · exact absurd h23 (by decide)
    · exact absurd h7 (by decide)
  · skip
    refine AW.aload_n X dX12_fallsAct_0 (i := 0) rfl rfl ?_
    refine AW.getR X dX12_fallsAct_1 fX12_20 rfl om0 (wm_at W 3 rfl) ?_
    refine AW.iload_n X dX12_fallsAct_4 (i := 1) rfl rfl ?_
    refine AW.iaload X dX12_fallsAct_5 (am_at 3 rfl) (n2_in (by omega) (by decide)) (v := (nI 2)) (by rw [n2_clamp (by omega)]; exact (tm_k hT hh).trans (congrArg nI hk)) ?_
    refine AW.iconstN X 4 dX12_fallsAct_6 rfl ?_
    refine AW.icmp_neN X (tgt := 16) dX12_fallsAct_7 (by decide) (by omega) (by omega) (fun h7 => ?_) (fun h7 => ?_)
    · refine AW.aload_n X dX12_fallsAct_16 (i := 0) rfl rfl ?_
      refine AW.getR X dX12_fallsAct_17 fX12_20 rfl om0 (wm_at W 3 rfl) ?_
      refine AW.iload_n X dX12_fallsAct_20 (i := 1) rfl rfl ?_
      refine AW.iaload X dX12_fallsAct_21 (am_at 3 rfl) (n2_in (by omega) (by decide)) (v := (nI 2)) (by rw [n2_clamp (by omega)]; exact (tm_k hT hh).trans (congrArg nI hk)) ?_
      refine AW.iconstN X 5 dX12_fallsAct_22 rfl ?_
      refine AW.icmp_neN X (tgt := 32) dX12_fallsAct_23 (by decide) (by omega) (by omega) (fun h23 => ?_) (fun h23 => ?_)
      · refine AW.aload_n X dX12_fallsAct_32 (i := 0) rfl rfl ?_
        refine AW.bipushN X 12 dX12_fallsAct_33 rfl ?_
        refine AW.callV X dX12_fallsAct_35 lX12_285 cfX12 (c_X12_ran W hTr (by show T.1 + 0 < 880; omega) (x := 12)) om0 rfl rfl rfl rfl ⟨rfl, rfl⟩ (pV_k fun μr35 hb35 => ?_)
        have W35 := wm_same W hb35.2
        have hT35 := tm_tr hT hb35.2
        refine AW.aload_n X dX12_fallsAct_38 (i := 0) rfl rfl ?_
        refine AW.iload_n X dX12_fallsAct_39 (i := 1) rfl rfl ?_
        refine AW.iload_n X dX12_fallsAct_40 (i := 2) rfl rfl ?_
        refine AW.callV X dX12_fallsAct_41 lX12_291 cfX12 (c_X12_peels W35 hT35 hh hk hb35.1 (by show T.1 + 1 < 830; omega)) om0 rfl rfl rfl rfl ⟨rfl, rfl⟩ (pI_k fun rr41 μr41 hc41 => ?_)
        obtain ⟨rfl, ha41, hs41⟩ := hc41
        have W41 := wm_same W35 hs41
        have hT41 := tm_tr hT35 hs41
        refine AW.istore_n X dX12_fallsAct_44 (i := 3) rfl rfl ?_
        refine AW.iload_n X dX12_fallsAct_45 (i := 3) rfl rfl ?_
        refine AW.aload_n X dX12_fallsAct_46 (i := 0) rfl rfl ?_
        refine AW.iload_n X dX12_fallsAct_47 (i := 1) rfl rfl ?_
        refine AW.iload_n X dX12_fallsAct_48 (i := 2) rfl rfl ?_
        refine AW.aload_n X dX12_fallsAct_49 (i := 0) rfl rfl ?_
        refine AW.getR X dX12_fallsAct_50 fX12_23 rfl om0 (wm_at W41 4 rfl) ?_
        refine AW.iload_n X dX12_fallsAct_53 (i := 1) rfl rfl ?_
        refine AW.iaload X dX12_fallsAct_54 (am_at 4 rfl) (n2_in (by omega) (by decide)) (v := (nI (τ h 0 1))) (by rw [n2_clamp (by omega)]; exact tm_a hT41 (by omega)) ?_
        refine AW.isub X dX12_fallsAct_55 ?_
        refine AW.callV X dX12_fallsAct_56 lX12_288 cfX12 (c_X12_paintsAct W41 hT41 hh hk ha41 (by show T.1 + 4 < 850; omega)) om0 rfl rfl rfl rfl ⟨rfl, rfl⟩ (pI_k fun rr56 μr56 hc56 => ?_)
        obtain ⟨rfl, ha56, hs56⟩ := hc56
        have W56 := wm_same W41 hs56
        have hT56 := tm_tr hT41 hs56
        refine AW.ixor X dX12_fallsAct_59 ?_
        refine AW.istore X dX12_fallsAct_60 rfl ?_
        refine AW.aload_n X dX12_fallsAct_62 (i := 0) rfl rfl ?_
        refine AW.getR X dX12_fallsAct_63 fX12_20 rfl om0 (wm_at W56 3 rfl) ?_
        refine AW.iload_n X dX12_fallsAct_66 (i := 1) rfl rfl ?_
        refine AW.iaload X dX12_fallsAct_67 (am_at 3 rfl) (n2_in (by omega) (by decide)) (v := (nI 2)) (by rw [n2_clamp (by omega)]; exact (tm_k hT56 hh).trans (congrArg nI hk)) ?_
        refine AW.iconstN X 4 dX12_fallsAct_68 rfl ?_
        refine AW.icmp_neN X (tgt := 78) dX12_fallsAct_69 (by decide) (by omega) (by omega) (fun h69 => ?_) (fun h69 => ?_)
        · refine AW.aload_n X dX12_fallsAct_78 (i := 0) rfl rfl ?_
          refine AW.getR X dX12_fallsAct_79 fX12_20 rfl om0 (wm_at W56 3 rfl) ?_
          refine AW.iload_n X dX12_fallsAct_82 (i := 1) rfl rfl ?_
          refine AW.iaload X dX12_fallsAct_83 (am_at 3 rfl) (n2_in (by omega) (by decide)) (v := (nI 2)) (by rw [n2_clamp (by omega)]; exact (tm_k hT56 hh).trans (congrArg nI hk)) ?_
          refine AW.iconstN X 5 dX12_fallsAct_84 rfl ?_
          refine AW.icmp_neN X (tgt := 95) dX12_fallsAct_85 (by decide) (by omega) (by omega) (fun h85 => ?_) (fun h85 => ?_)
          · refine AW.iload X dX12_fallsAct_95 rfl ?_
            refine AW.iret X hQ dX12_fallsAct_97 ⟨_, rfl, ?_⟩
            exact ⟨rfl, ha56, ((hb35.2.trn hs41).trn hs56)⟩
          · exact absurd h85 (by decide)
        · exact absurd h69 (by decide)
      · exact absurd h23 (by decide)
    · exact absurd h7 (by decide)
  · skip
    refine AW.aload_n X dX12_fallsAct_0 (i := 0) rfl rfl ?_
    refine AW.getR X dX12_fallsAct_1 fX12_20 rfl om0 (wm_at W 3 rfl) ?_
    refine AW.iload_n X dX12_fallsAct_4 (i := 1) rfl rfl ?_
    refine AW.iaload X dX12_fallsAct_5 (am_at 3 rfl) (n2_in (by omega) (by decide)) (v := (nI 3)) (by rw [n2_clamp (by omega)]; exact (tm_k hT hh).trans (congrArg nI hk)) ?_
    refine AW.iconstN X 4 dX12_fallsAct_6 rfl ?_
    refine AW.icmp_neN X (tgt := 16) dX12_fallsAct_7 (by decide) (by omega) (by omega) (fun h7 => ?_) (fun h7 => ?_)
    · refine AW.aload_n X dX12_fallsAct_16 (i := 0) rfl rfl ?_
      refine AW.getR X dX12_fallsAct_17 fX12_20 rfl om0 (wm_at W 3 rfl) ?_
      refine AW.iload_n X dX12_fallsAct_20 (i := 1) rfl rfl ?_
      refine AW.iaload X dX12_fallsAct_21 (am_at 3 rfl) (n2_in (by omega) (by decide)) (v := (nI 3)) (by rw [n2_clamp (by omega)]; exact (tm_k hT hh).trans (congrArg nI hk)) ?_
      refine AW.iconstN X 5 dX12_fallsAct_22 rfl ?_
      refine AW.icmp_neN X (tgt := 32) dX12_fallsAct_23 (by decide) (by omega) (by omega) (fun h23 => ?_) (fun h23 => ?_)
      · refine AW.aload_n X dX12_fallsAct_32 (i := 0) rfl rfl ?_
        refine AW.bipushN X 12 dX12_fallsAct_33 rfl ?_
        refine AW.callV X dX12_fallsAct_35 lX12_285 cfX12 (c_X12_ran W hTr (by show T.1 + 0 < 880; omega) (x := 12)) om0 rfl rfl rfl rfl ⟨rfl, rfl⟩ (pV_k fun μr35 hb35 => ?_)
        have W35 := wm_same W hb35.2
        have hT35 := tm_tr hT hb35.2
        refine AW.aload_n X dX12_fallsAct_38 (i := 0) rfl rfl ?_
        refine AW.iload_n X dX12_fallsAct_39 (i := 1) rfl rfl ?_
        refine AW.iload_n X dX12_fallsAct_40 (i := 2) rfl rfl ?_
        refine AW.callV X dX12_fallsAct_41 lX12_291 cfX12 (c_X12_peels W35 hT35 hh hk hb35.1 (by show T.1 + 1 < 830; omega)) om0 rfl rfl rfl rfl ⟨rfl, rfl⟩ (pI_k fun rr41 μr41 hc41 => ?_)
        obtain ⟨rfl, ha41, hs41⟩ := hc41
        have W41 := wm_same W35 hs41
        have hT41 := tm_tr hT35 hs41
        refine AW.istore_n X dX12_fallsAct_44 (i := 3) rfl rfl ?_
        refine AW.iload_n X dX12_fallsAct_45 (i := 3) rfl rfl ?_
        refine AW.aload_n X dX12_fallsAct_46 (i := 0) rfl rfl ?_
        refine AW.iload_n X dX12_fallsAct_47 (i := 1) rfl rfl ?_
        refine AW.iload_n X dX12_fallsAct_48 (i := 2) rfl rfl ?_
        refine AW.aload_n X dX12_fallsAct_49 (i := 0) rfl rfl ?_
        refine AW.getR X dX12_fallsAct_50 fX12_23 rfl om0 (wm_at W41 4 rfl) ?_
        refine AW.iload_n X dX12_fallsAct_53 (i := 1) rfl rfl ?_
        refine AW.iaload X dX12_fallsAct_54 (am_at 4 rfl) (n2_in (by omega) (by decide)) (v := (nI (τ h 0 1))) (by rw [n2_clamp (by omega)]; exact tm_a hT41 (by omega)) ?_
        refine AW.isub X dX12_fallsAct_55 ?_
        refine AW.callV X dX12_fallsAct_56 lX12_288 cfX12 (c_X12_paintsAct W41 hT41 hh hk ha41 (by show T.1 + 5 < 850; omega)) om0 rfl rfl rfl rfl ⟨rfl, rfl⟩ (pI_k fun rr56 μr56 hc56 => ?_)
        obtain ⟨rfl, ha56, hs56⟩ := hc56
        have W56 := wm_same W41 hs56
        have hT56 := tm_tr hT41 hs56
        refine AW.ixor X dX12_fallsAct_59 ?_
        refine AW.istore X dX12_fallsAct_60 rfl ?_
        refine AW.aload_n X dX12_fallsAct_62 (i := 0) rfl rfl ?_
        refine AW.getR X dX12_fallsAct_63 fX12_20 rfl om0 (wm_at W56 3 rfl) ?_
        refine AW.iload_n X dX12_fallsAct_66 (i := 1) rfl rfl ?_
        refine AW.iaload X dX12_fallsAct_67 (am_at 3 rfl) (n2_in (by omega) (by decide)) (v := (nI 3)) (by rw [n2_clamp (by omega)]; exact (tm_k hT56 hh).trans (congrArg nI hk)) ?_
        refine AW.iconstN X 4 dX12_fallsAct_68 rfl ?_
        refine AW.icmp_neN X (tgt := 78) dX12_fallsAct_69 (by decide) (by omega) (by omega) (fun h69 => ?_) (fun h69 => ?_)
        · refine AW.aload_n X dX12_fallsAct_78 (i := 0) rfl rfl ?_
          refine AW.getR X dX12_fallsAct_79 fX12_20 rfl om0 (wm_at W56 3 rfl) ?_
          refine AW.iload_n X dX12_fallsAct_82 (i := 1) rfl rfl ?_
          refine AW.iaload X dX12_fallsAct_83 (am_at 3 rfl) (n2_in (by omega) (by decide)) (v := (nI 3)) (by rw [n2_clamp (by omega)]; exact (tm_k hT56 hh).trans (congrArg nI hk)) ?_
          refine AW.iconstN X 5 dX12_fallsAct_84 rfl ?_
          refine AW.icmp_neN X (tgt := 95) dX12_fallsAct_85 (by decide) (by omega) (by omega) (fun h85 => ?_) (fun h85 => ?_)
          · refine AW.iload X dX12_fallsAct_95 rfl ?_
            refine AW.iret X hQ dX12_fallsAct_97 ⟨_, rfl, ?_⟩
            exact ⟨rfl, ha56, ((hb35.2.trn hs41).trn hs56)⟩
          · exact absurd h85 (by decide)
        · exact absurd h69 (by decide)
      · exact absurd h23 (by decide)
    · exact absurd h7 (by decide)
  · skip
    refine AW.aload_n X dX12_fallsAct_0 (i := 0) rfl rfl ?_
    refine AW.getR X dX12_fallsAct_1 fX12_20 rfl om0 (wm_at W 3 rfl) ?_
    refine AW.iload_n X dX12_fallsAct_4 (i := 1) rfl rfl ?_
    refine AW.iaload X dX12_fallsAct_5 (am_at 3 rfl) (n2_in (by omega) (by decide)) (v := (nI 4)) (by rw [n2_clamp (by omega)]; exact (tm_k hT hh).trans (congrArg nI hk)) ?_
    refine AW.iconstN X 4 dX12_fallsAct_6 rfl ?_
    refine AW.icmp_neN X (tgt := 16) dX12_fallsAct_7 (by decide) (by omega) (by omega) (fun h7 => ?_) (fun h7 => ?_)
    · exact absurd h7 (by decide)
    · refine AW.aload_n X dX12_fallsAct_10 (i := 0) rfl rfl ?_
      refine AW.bipushN X 50 dX12_fallsAct_11 rfl ?_
      refine AW.callV X dX12_fallsAct_13 lX12_285 cfX12 (c_X12_ran W hTr (by show T.1 + 0 < 880; omega) (x := 50)) om0 rfl rfl rfl rfl ⟨rfl, rfl⟩ (pV_k fun μr13 hb13 => ?_)
      have W13 := wm_same W hb13.2
      have hT13 := tm_tr hT hb13.2
      refine AW.aload_n X dX12_fallsAct_16 (i := 0) rfl rfl ?_
      refine AW.getR X dX12_fallsAct_17 fX12_20 rfl om0 (wm_at W13 3 rfl) ?_
      refine AW.iload_n X dX12_fallsAct_20 (i := 1) rfl rfl ?_
      refine AW.iaload X dX12_fallsAct_21 (am_at 3 rfl) (n2_in (by omega) (by decide)) (v := (nI 4)) (by rw [n2_clamp (by omega)]; exact (tm_k hT13 hh).trans (congrArg nI hk)) ?_
      refine AW.iconstN X 5 dX12_fallsAct_22 rfl ?_
      refine AW.icmp_neN X (tgt := 32) dX12_fallsAct_23 (by decide) (by omega) (by omega) (fun h23 => ?_) (fun h23 => ?_)
      · refine AW.aload_n X dX12_fallsAct_32 (i := 0) rfl rfl ?_
        refine AW.bipushN X 12 dX12_fallsAct_33 rfl ?_
        refine AW.callV X dX12_fallsAct_35 lX12_285 cfX12 (c_X12_ran W13 hb13.1 (by show T.1 + 1 < 880; omega) (x := 12)) om0 rfl rfl rfl rfl ⟨rfl, rfl⟩ (pV_k fun μr35 hb35 => ?_)
        have W35 := wm_same W13 hb35.2
        have hT35 := tm_tr hT13 hb35.2
        refine AW.aload_n X dX12_fallsAct_38 (i := 0) rfl rfl ?_
        refine AW.iload_n X dX12_fallsAct_39 (i := 1) rfl rfl ?_
        refine AW.iload_n X dX12_fallsAct_40 (i := 2) rfl rfl ?_
        refine AW.callV X dX12_fallsAct_41 lX12_291 cfX12 (c_X12_peels W35 hT35 hh hk hb35.1 (by show T.1 + 2 < 830; omega)) om0 rfl rfl rfl rfl ⟨rfl, rfl⟩ (pI_k fun rr41 μr41 hc41 => ?_)
        obtain ⟨rfl, ha41, hs41⟩ := hc41
        have W41 := wm_same W35 hs41
        have hT41 := tm_tr hT35 hs41
        refine AW.istore_n X dX12_fallsAct_44 (i := 3) rfl rfl ?_
        refine AW.iload_n X dX12_fallsAct_45 (i := 3) rfl rfl ?_
        refine AW.aload_n X dX12_fallsAct_46 (i := 0) rfl rfl ?_
        refine AW.iload_n X dX12_fallsAct_47 (i := 1) rfl rfl ?_
        refine AW.iload_n X dX12_fallsAct_48 (i := 2) rfl rfl ?_
        refine AW.aload_n X dX12_fallsAct_49 (i := 0) rfl rfl ?_
        refine AW.getR X dX12_fallsAct_50 fX12_23 rfl om0 (wm_at W41 4 rfl) ?_
        refine AW.iload_n X dX12_fallsAct_53 (i := 1) rfl rfl ?_
        refine AW.iaload X dX12_fallsAct_54 (am_at 4 rfl) (n2_in (by omega) (by decide)) (v := (nI (τ h 0 1))) (by rw [n2_clamp (by omega)]; exact tm_a hT41 (by omega)) ?_
        refine AW.isub X dX12_fallsAct_55 ?_
        refine AW.callV X dX12_fallsAct_56 lX12_288 cfX12 (c_X12_paintsAct W41 hT41 hh hk ha41 (by show T.1 + 5 < 850; omega)) om0 rfl rfl rfl rfl ⟨rfl, rfl⟩ (pI_k fun rr56 μr56 hc56 => ?_)
        obtain ⟨rfl, ha56, hs56⟩ := hc56
        have W56 := wm_same W41 hs56
        have hT56 := tm_tr hT41 hs56
        refine AW.ixor X dX12_fallsAct_59 ?_
        refine AW.istore X dX12_fallsAct_60 rfl ?_
        refine AW.aload_n X dX12_fallsAct_62 (i := 0) rfl rfl ?_
        refine AW.getR X dX12_fallsAct_63 fX12_20 rfl om0 (wm_at W56 3 rfl) ?_
        refine AW.iload_n X dX12_fallsAct_66 (i := 1) rfl rfl ?_
        refine AW.iaload X dX12_fallsAct_67 (am_at 3 rfl) (n2_in (by omega) (by decide)) (v := (nI 4)) (by rw [n2_clamp (by omega)]; exact (tm_k hT56 hh).trans (congrArg nI hk)) ?_
        refine AW.iconstN X 4 dX12_fallsAct_68 rfl ?_
        refine AW.icmp_neN X (tgt := 78) dX12_fallsAct_69 (by decide) (by omega) (by omega) (fun h69 => ?_) (fun h69 => ?_)
        · exact absurd h69 (by decide)
        · refine AW.iload X dX12_fallsAct_72 rfl ?_
          refine AW.ineg X dX12_fallsAct_74 ?_
          refine AW.goto X (tgt := 97) dX12_fallsAct_75 (by decide) ?_
          refine AW.iret X hQ dX12_fallsAct_97 ⟨_, rfl, ?_⟩
          exact ⟨rfl, ha56, (((hb13.2.trn hb35.2).trn hs41).trn hs56)⟩
      · exact absurd h23 (by decide)
  · skip
    refine AW.aload_n X dX12_fallsAct_0 (i := 0) rfl rfl ?_
    refine AW.getR X dX12_fallsAct_1 fX12_20 rfl om0 (wm_at W 3 rfl) ?_
    refine AW.iload_n X dX12_fallsAct_4 (i := 1) rfl rfl ?_
    refine AW.iaload X dX12_fallsAct_5 (am_at 3 rfl) (n2_in (by omega) (by decide)) (v := (nI 5)) (by rw [n2_clamp (by omega)]; exact (tm_k hT hh).trans (congrArg nI hk)) ?_
    refine AW.iconstN X 4 dX12_fallsAct_6 rfl ?_
    refine AW.icmp_neN X (tgt := 16) dX12_fallsAct_7 (by decide) (by omega) (by omega) (fun h7 => ?_) (fun h7 => ?_)
    · refine AW.aload_n X dX12_fallsAct_16 (i := 0) rfl rfl ?_
      refine AW.getR X dX12_fallsAct_17 fX12_20 rfl om0 (wm_at W 3 rfl) ?_
      refine AW.iload_n X dX12_fallsAct_20 (i := 1) rfl rfl ?_
      refine AW.iaload X dX12_fallsAct_21 (am_at 3 rfl) (n2_in (by omega) (by decide)) (v := (nI 5)) (by rw [n2_clamp (by omega)]; exact (tm_k hT hh).trans (congrArg nI hk)) ?_
      refine AW.iconstN X 5 dX12_fallsAct_22 rfl ?_
      refine AW.icmp_neN X (tgt := 32) dX12_fallsAct_23 (by decide) (by omega) (by omega) (fun h23 => ?_) (fun h23 => ?_)
      · exact absurd h23 (by decide)
      · refine AW.aload_n X dX12_fallsAct_26 (i := 0) rfl rfl ?_
        refine AW.bipushN X 60 dX12_fallsAct_27 rfl ?_
        refine AW.callV X dX12_fallsAct_29 lX12_285 cfX12 (c_X12_ran W hTr (by show T.1 + 0 < 880; omega) (x := 60)) om0 rfl rfl rfl rfl ⟨rfl, rfl⟩ (pV_k fun μr29 hb29 => ?_)
        have W29 := wm_same W hb29.2
        have hT29 := tm_tr hT hb29.2
        refine AW.aload_n X dX12_fallsAct_32 (i := 0) rfl rfl ?_
        refine AW.bipushN X 12 dX12_fallsAct_33 rfl ?_
        refine AW.callV X dX12_fallsAct_35 lX12_285 cfX12 (c_X12_ran W29 hb29.1 (by show T.1 + 1 < 880; omega) (x := 12)) om0 rfl rfl rfl rfl ⟨rfl, rfl⟩ (pV_k fun μr35 hb35 => ?_)
        have W35 := wm_same W29 hb35.2
        have hT35 := tm_tr hT29 hb35.2
        refine AW.aload_n X dX12_fallsAct_38 (i := 0) rfl rfl ?_
        refine AW.iload_n X dX12_fallsAct_39 (i := 1) rfl rfl ?_
        refine AW.iload_n X dX12_fallsAct_40 (i := 2) rfl rfl ?_
        refine AW.callV X dX12_fallsAct_41 lX12_291 cfX12 (c_X12_peels W35 hT35 hh hk hb35.1 (by show T.1 + 2 < 830; omega)) om0 rfl rfl rfl rfl ⟨rfl, rfl⟩ (pI_k fun rr41 μr41 hc41 => ?_)
        obtain ⟨rfl, ha41, hs41⟩ := hc41
        have W41 := wm_same W35 hs41
        have hT41 := tm_tr hT35 hs41
        refine AW.istore_n X dX12_fallsAct_44 (i := 3) rfl rfl ?_
        refine AW.iload_n X dX12_fallsAct_45 (i := 3) rfl rfl ?_
        refine AW.aload_n X dX12_fallsAct_46 (i := 0) rfl rfl ?_
        refine AW.iload_n X dX12_fallsAct_47 (i := 1) rfl rfl ?_
        refine AW.iload_n X dX12_fallsAct_48 (i := 2) rfl rfl ?_
        refine AW.aload_n X dX12_fallsAct_49 (i := 0) rfl rfl ?_
        refine AW.getR X dX12_fallsAct_50 fX12_23 rfl om0 (wm_at W41 4 rfl) ?_
        refine AW.iload_n X dX12_fallsAct_53 (i := 1) rfl rfl ?_
        refine AW.iaload X dX12_fallsAct_54 (am_at 4 rfl) (n2_in (by omega) (by decide)) (v := (nI (τ h 0 1))) (by rw [n2_clamp (by omega)]; exact tm_a hT41 (by omega)) ?_
        refine AW.isub X dX12_fallsAct_55 ?_
        refine AW.callV X dX12_fallsAct_56 lX12_288 cfX12 (c_X12_paintsAct W41 hT41 hh hk ha41 (by show T.1 + 5 < 850; omega)) om0 rfl rfl rfl rfl ⟨rfl, rfl⟩ (pI_k fun rr56 μr56 hc56 => ?_)
        obtain ⟨rfl, ha56, hs56⟩ := hc56
        have W56 := wm_same W41 hs56
        have hT56 := tm_tr hT41 hs56
        refine AW.ixor X dX12_fallsAct_59 ?_
        refine AW.istore X dX12_fallsAct_60 rfl ?_
        refine AW.aload_n X dX12_fallsAct_62 (i := 0) rfl rfl ?_
        refine AW.getR X dX12_fallsAct_63 fX12_20 rfl om0 (wm_at W56 3 rfl) ?_
        refine AW.iload_n X dX12_fallsAct_66 (i := 1) rfl rfl ?_
        refine AW.iaload X dX12_fallsAct_67 (am_at 3 rfl) (n2_in (by omega) (by decide)) (v := (nI 5)) (by rw [n2_clamp (by omega)]; exact (tm_k hT56 hh).trans (congrArg nI hk)) ?_
        refine AW.iconstN X 4 dX12_fallsAct_68 rfl ?_
        refine AW.icmp_neN X (tgt := 78) dX12_fallsAct_69 (by decide) (by omega) (by omega) (fun h69 => ?_) (fun h69 => ?_)
        · refine AW.aload_n X dX12_fallsAct_78 (i := 0) rfl rfl ?_
          refine AW.getR X dX12_fallsAct_79 fX12_20 rfl om0 (wm_at W56 3 rfl) ?_
          refine AW.iload_n X dX12_fallsAct_82 (i := 1) rfl rfl ?_
          refine AW.iaload X dX12_fallsAct_83 (am_at 3 rfl) (n2_in (by omega) (by decide)) (v := (nI 5)) (by rw [n2_clamp (by omega)]; exact (tm_k hT56 hh).trans (congrArg nI hk)) ?_
          refine AW.iconstN X 5 dX12_fallsAct_84 rfl ?_
          refine AW.icmp_neN X (tgt := 95) dX12_fallsAct_85 (by decide) (by omega) (by omega) (fun h85 => ?_) (fun h85 => ?_)
          · exact absurd h85 (by decide)
          · refine AW.iload X dX12_fallsAct_88 rfl ?_
            refine AW.iconstN X 5 dX12_fallsAct_90 rfl ?_
            refine AW.ixor X dX12_fallsAct_91 ?_
            refine AW.goto X (tgt := 97) dX12_fallsAct_92 (by decide) ?_
            refine AW.iret X hQ dX12_fallsAct_97 ⟨_, rfl, ?_⟩
            exact ⟨rfl, ha56, (((hb29.2.trn hb35.2).trn hs41).trn hs56)⟩
        · exact absurd h69 (by decide)
    · exact absurd h7 (by decide)
  · skip
    refine AW.aload_n X dX12_fallsAct_0 (i := 0) rfl rfl ?_
    refine AW.getR X dX12_fallsAct_1 fX12_20 rfl om0 (wm_at W 3 rfl) ?_
    refine AW.iload_n X dX12_fallsAct_4 (i := 1) rfl rfl ?_
    refine AW.iaload X dX12_fallsAct_5 (am_at 3 rfl) (n2_in (by omega) (by decide)) (v := (nI 6)) (by rw [n2_clamp (by omega)]; exact (tm_k hT hh).trans (congrArg nI hk)) ?_
    refine AW.iconstN X 4 dX12_fallsAct_6 rfl ?_
    refine AW.icmp_neN X (tgt := 16) dX12_fallsAct_7 (by decide) (by omega) (by omega) (fun h7 => ?_) (fun h7 => ?_)
    · refine AW.aload_n X dX12_fallsAct_16 (i := 0) rfl rfl ?_
      refine AW.getR X dX12_fallsAct_17 fX12_20 rfl om0 (wm_at W 3 rfl) ?_
      refine AW.iload_n X dX12_fallsAct_20 (i := 1) rfl rfl ?_
      refine AW.iaload X dX12_fallsAct_21 (am_at 3 rfl) (n2_in (by omega) (by decide)) (v := (nI 6)) (by rw [n2_clamp (by omega)]; exact (tm_k hT hh).trans (congrArg nI hk)) ?_
      refine AW.iconstN X 5 dX12_fallsAct_22 rfl ?_
      refine AW.icmp_neN X (tgt := 32) dX12_fallsAct_23 (by decide) (by omega) (by omega) (fun h23 => ?_) (fun h23 => ?_)
      · refine AW.aload_n X dX12_fallsAct_32 (i := 0) rfl rfl ?_
        refine AW.bipushN X 12 dX12_fallsAct_33 rfl ?_
        refine AW.callV X dX12_fallsAct_35 lX12_285 cfX12 (c_X12_ran W hTr (by show T.1 + 0 < 880; omega) (x := 12)) om0 rfl rfl rfl rfl ⟨rfl, rfl⟩ (pV_k fun μr35 hb35 => ?_)
        have W35 := wm_same W hb35.2
        have hT35 := tm_tr hT hb35.2
        refine AW.aload_n X dX12_fallsAct_38 (i := 0) rfl rfl ?_
        refine AW.iload_n X dX12_fallsAct_39 (i := 1) rfl rfl ?_
        refine AW.iload_n X dX12_fallsAct_40 (i := 2) rfl rfl ?_
        refine AW.callV X dX12_fallsAct_41 lX12_291 cfX12 (c_X12_peels W35 hT35 hh hk hb35.1 (by show T.1 + 1 < 830; omega)) om0 rfl rfl rfl rfl ⟨rfl, rfl⟩ (pI_k fun rr41 μr41 hc41 => ?_)
        obtain ⟨rfl, ha41, hs41⟩ := hc41
        have W41 := wm_same W35 hs41
        have hT41 := tm_tr hT35 hs41
        refine AW.istore_n X dX12_fallsAct_44 (i := 3) rfl rfl ?_
        refine AW.iload_n X dX12_fallsAct_45 (i := 3) rfl rfl ?_
        refine AW.aload_n X dX12_fallsAct_46 (i := 0) rfl rfl ?_
        refine AW.iload_n X dX12_fallsAct_47 (i := 1) rfl rfl ?_
        refine AW.iload_n X dX12_fallsAct_48 (i := 2) rfl rfl ?_
        refine AW.aload_n X dX12_fallsAct_49 (i := 0) rfl rfl ?_
        refine AW.getR X dX12_fallsAct_50 fX12_23 rfl om0 (wm_at W41 4 rfl) ?_
        refine AW.iload_n X dX12_fallsAct_53 (i := 1) rfl rfl ?_
        refine AW.iaload X dX12_fallsAct_54 (am_at 4 rfl) (n2_in (by omega) (by decide)) (v := (nI (τ h 0 1))) (by rw [n2_clamp (by omega)]; exact tm_a hT41 (by omega)) ?_
        refine AW.isub X dX12_fallsAct_55 ?_
        refine AW.callV X dX12_fallsAct_56 lX12_288 cfX12 (c_X12_paintsAct W41 hT41 hh hk ha41 (by show T.1 + 6 < 850; omega)) om0 rfl rfl rfl rfl ⟨rfl, rfl⟩ (pI_k fun rr56 μr56 hc56 => ?_)
        obtain ⟨rfl, ha56, hs56⟩ := hc56
        have W56 := wm_same W41 hs56
        have hT56 := tm_tr hT41 hs56
        refine AW.ixor X dX12_fallsAct_59 ?_
        refine AW.istore X dX12_fallsAct_60 rfl ?_
        refine AW.aload_n X dX12_fallsAct_62 (i := 0) rfl rfl ?_
        refine AW.getR X dX12_fallsAct_63 fX12_20 rfl om0 (wm_at W56 3 rfl) ?_
        refine AW.iload_n X dX12_fallsAct_66 (i := 1) rfl rfl ?_
        refine AW.iaload X dX12_fallsAct_67 (am_at 3 rfl) (n2_in (by omega) (by decide)) (v := (nI 6)) (by rw [n2_clamp (by omega)]; exact (tm_k hT56 hh).trans (congrArg nI hk)) ?_
        refine AW.iconstN X 4 dX12_fallsAct_68 rfl ?_
        refine AW.icmp_neN X (tgt := 78) dX12_fallsAct_69 (by decide) (by omega) (by omega) (fun h69 => ?_) (fun h69 => ?_)
        · refine AW.aload_n X dX12_fallsAct_78 (i := 0) rfl rfl ?_
          refine AW.getR X dX12_fallsAct_79 fX12_20 rfl om0 (wm_at W56 3 rfl) ?_
          refine AW.iload_n X dX12_fallsAct_82 (i := 1) rfl rfl ?_
          refine AW.iaload X dX12_fallsAct_83 (am_at 3 rfl) (n2_in (by omega) (by decide)) (v := (nI 6)) (by rw [n2_clamp (by omega)]; exact (tm_k hT56 hh).trans (congrArg nI hk)) ?_
          refine AW.iconstN X 5 dX12_fallsAct_84 rfl ?_
          refine AW.icmp_neN X (tgt := 95) dX12_fallsAct_85 (by decide) (by omega) (by omega) (fun h85 => ?_) (fun h85 => ?_)
          · refine AW.iload X dX12_fallsAct_95 rfl ?_
            refine AW.iret X hQ dX12_fallsAct_97 ⟨_, rfl, ?_⟩
            exact ⟨rfl, ha56, ((hb35.2.trn hs41).trn hs56)⟩
          · exact absurd h85 (by decide)
        · exact absurd h69 (by decide)
      · exact absurd h23 (by decide)
    · exact absurd h7 (by decide)
set_option maxRecDepth 100000 in
set_option maxHeartbeats 4000000 in
theorem c_X12_act {l : Launch} {δ : Dl} {b : Nat} {μ : Mm} {S : St} (hR : RMX μ S) {x : Int32} {w : Int32} {z : Int32} : MCM l δ b yX12_act cX12_act 4 (some .int) 5 [.ref (b + 0), .int x, .int w, .int z] μ (pI fun r μ' => r = (S_act S x w z).1 ∧ RMX μ' (S_act S x w z).2) := by
  have hT := rm_t hR
  have W := rm_w hR
  have bn := ti_n hT.1
  have sm0 : SmM TRp μ (wI μ 0 22 (nI 0)) := SmM.w (Or.inr ⟨rfl, rfl⟩)
  have hT0 := tm_tr hT sm0
  have hTr0 : TRM (wI μ 0 22 (nI 0)) (0, fun i => kk S 4 i) := ⟨by simp [wI], by show (0 : Nat) < 900; decide, fun i _ hi => absurd hi (Nat.not_lt_zero i)⟩
  refine MC.intro ([some (.ref (b + 0)), some (.int x), some (.int w), some (.int z)]) (by decide) rfl rfl fun κ Qc hl hQ X => ?_
  subst hl
  refine AW.aload_n X dX12_act_0 (i := 0) rfl rfl ?_
  refine AW.iconstN X 0 dX12_act_1 rfl ?_
  refine AW.putI X dX12_act_2 fX12_282 rfl rfl ⟨rfl, rfl⟩ (by decide) om0 ?_
  refine AW.aload_n X dX12_act_5 (i := 0) rfl rfl ?_
  refine AW.iload_n X dX12_act_6 (i := 1) rfl rfl ?_
  refine AW.callV X dX12_act_7 lX12_94 cfX12 (c_X12_isHouse (μ := wI μ 0 22 (nI 0)) W hT0) om0 rfl rfl rfl rfl ⟨rfl, rfl⟩ (pR_k ?_)
  refine AW.if_eqB X (tgt := 22) dX12_act_10 (by decide) (fun h10 => ?_) (fun h10 => ?_)
  · refine AW.iconstN X 0 dX12_act_22 rfl ?_
    refine AW.iret X hQ dX12_act_23 ⟨_, rfl, ?_⟩
    exact rm_val (S' := trT S (0, fun i => kk S 4 i)) (by rw [S_act, if_pos (by simp [*])]; rfl) (rm_trT hR sm0 hTr0)
  · obtain ⟨h, hh, eh⟩ := inr_of (x := x) (m := (S.1 6 0 0)) (by omega) h10
    subst eh
    have ch := cl_n (show h < 2147483648 by omega)
    have hIh := tm_hi hT hh
    have bnh := hi_n hIh
    have bah := hi_a hIh
    refine AW.iload_n X dX12_act_13 (i := 2) rfl rfl ?_
    refine AW.iconstN X 0 dX12_act_14 rfl ?_
    refine AW.iconstN X 2 dX12_act_15 rfl ?_
    refine AW.callS X dX12_act_16 lX12_90 (c_within (m := 3) (dn_s 2).symm (by decide)) rfl rfl rfl rfl ⟨rfl, rfl⟩ (pR_k ?_)
    refine AW.if_neB X (tgt := 24) dX12_act_19 (by decide) (fun h19 => ?_) (fun h19 => ?_)
    · obtain ⟨j9, hj9, ej9⟩ := inr_of (m := 3) (by decide) h19
      have j9c : j9 = 0 ∨ j9 = 1 ∨ j9 = 2 := by omega
      subst ej9
      rcases j9c with rfl | rfl | rfl
      · skip
        refine AW.iload_n X dX12_act_24 (i := 2) rfl rfl ?_
        refine AW.if_neN X (tgt := 37) dX12_act_25 (by decide) (by omega) (fun h25 => ?_) (fun h25 => ?_)
        · exact absurd h25 (by decide)
        · refine AW.aload_n X dX12_act_28 (i := 0) rfl rfl ?_
          refine AW.iload_n X dX12_act_29 (i := 1) rfl rfl ?_
          refine AW.iload_n X dX12_act_30 (i := 3) rfl rfl ?_
          refine AW.callV X dX12_act_31 lX12_288 cfX12 (c_X12_paintsAct (μ := wI μ 0 22 (nI 0)) (k := S.1 h 0 0) (T := (0, fun i => kk S 4 i)) W hT0 hh rfl hTr0 (by show (0 : Nat) < 850; decide)) om0 rfl rfl rfl rfl ⟨rfl, rfl⟩ (pI_k fun rr μr hc => ?_)
          obtain ⟨rfl, ha, hsr⟩ := hc
          refine AW.goto X (tgt := 57) dX12_act_34 (by decide) ?_
          refine AW.iret X hQ dX12_act_57 ⟨_, rfl, ?_⟩
          refine rm_val (S' := trT S (runL (actB 0 (S.1 h 0 0)) (0, fun i => kk S 4 i))) ?_ (rm_trT hR (sm0.trn hsr) ha)
          rw [S_act, if_neg (by simp [*]), ch]
          rfl
      · skip
        refine AW.iload_n X dX12_act_24 (i := 2) rfl rfl ?_
        refine AW.if_neN X (tgt := 37) dX12_act_25 (by decide) (by omega) (fun h25 => ?_) (fun h25 => ?_)
        · refine AW.iload_n X dX12_act_37 (i := 2) rfl rfl ?_
          refine AW.iconstN X 1 dX12_act_38 rfl ?_
          refine AW.icmp_neN X (tgt := 51) dX12_act_39 (by decide) (by omega) (by omega) (fun h39 => ?_) (fun h39 => ?_)
          · exact absurd h39 (by decide)
          · refine AW.aload_n X dX12_act_42 (i := 0) rfl rfl ?_
            refine AW.iload_n X dX12_act_43 (i := 1) rfl rfl ?_
            refine AW.iload_n X dX12_act_44 (i := 3) rfl rfl ?_
            refine AW.callV X dX12_act_45 lX12_291 cfX12 (c_X12_peels (μ := wI μ 0 22 (nI 0)) (k := S.1 h 0 0) (T := (0, fun i => kk S 4 i)) W hT0 hh rfl hTr0 (by show (0 : Nat) < 830; decide)) om0 rfl rfl rfl rfl ⟨rfl, rfl⟩ (pI_k fun rr μr hc => ?_)
            obtain ⟨rfl, ha, hsr⟩ := hc
            refine AW.goto X (tgt := 57) dX12_act_48 (by decide) ?_
            refine AW.iret X hQ dX12_act_57 ⟨_, rfl, ?_⟩
            refine rm_val (S' := trT S (runL (actB 1 (S.1 h 0 0)) (0, fun i => kk S 4 i))) ?_ (rm_trT hR (sm0.trn hsr) ha)
            rw [S_act, if_neg (by simp [*]), ch]
            rfl
        · exact absurd h25 (by decide)
      · skip
        refine AW.iload_n X dX12_act_24 (i := 2) rfl rfl ?_
        refine AW.if_neN X (tgt := 37) dX12_act_25 (by decide) (by omega) (fun h25 => ?_) (fun h25 => ?_)
        · refine AW.iload_n X dX12_act_37 (i := 2) rfl rfl ?_
          refine AW.iconstN X 1 dX12_act_38 rfl ?_
          refine AW.icmp_neN X (tgt := 51) dX12_act_39 (by decide) (by omega) (by omega) (fun h39 => ?_) (fun h39 => ?_)
          · refine AW.aload_n X dX12_act_51 (i := 0) rfl rfl ?_
            refine AW.iload_n X dX12_act_52 (i := 1) rfl rfl ?_
            refine AW.iload_n X dX12_act_53 (i := 3) rfl rfl ?_
            refine AW.callV X dX12_act_54 lX12_294 cfX12 (c_X12_fallsAct (μ := wI μ 0 22 (nI 0)) (k := S.1 h 0 0) (T := (0, fun i => kk S 4 i)) W hT0 hh rfl hTr0 (by show (0 : Nat) < 810; decide)) om0 rfl rfl rfl rfl ⟨rfl, rfl⟩ (pI_k fun rr μr hc => ?_)
            obtain ⟨rfl, ha, hsr⟩ := hc
            refine AW.iret X hQ dX12_act_57 ⟨_, rfl, ?_⟩
            refine rm_val (S' := trT S (runL (actB 2 (S.1 h 0 0)) (0, fun i => kk S 4 i))) ?_ (rm_trT hR (sm0.trn hsr) ha)
            rw [S_act, if_neg (by simp [*]), ch]
            rfl
          · exact absurd h39 (by decide)
        · exact absurd h25 (by decide)
    · refine AW.iconstN X 0 dX12_act_22 rfl ?_
      refine AW.iret X hQ dX12_act_23 ⟨_, rfl, ?_⟩
      exact rm_val (S' := trT S (0, fun i => kk S 4 i)) (by rw [S_act, if_pos (by simp [*])]; rfl) (rm_trT hR sm0 hTr0)
