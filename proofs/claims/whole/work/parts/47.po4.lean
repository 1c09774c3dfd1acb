set_option maxRecDepth 100000 in
set_option maxHeartbeats 4000000 in
theorem c_X11_noSuchPart {l : Launch} {δ : Dl} {b : Nat} {μ : Mm} {S : St} (hR : RX μ S) {s m : Nat} {x : Int32} (hs : s < 8) (hm : m < 2147483648) : MCX l δ b yX11_noSuchPart cX11_noSuchPart 4 (some .boolean) 1 [.ref (b + 0), .int (nI s), .int x, .int (nI m)] μ (pI fun r μ' => r = bI (nsp S s x m) ∧ μ' = μ) := by
  obtain ⟨B, Bd, tb, hnow, hdr, hT⟩ := hR.2.2.1
  have W := rx_w hR
  have ta := two_ta tb
  have hB := ta.1
  have hBd := ta.2.1
  have bn := ti_n hT.1
  have hz := hR.1.2.2.2.1 s hs
  refine MC.intro ([some (.ref (b + 0)), some (.int (nI s)), some (.int x), some (.int (nI m))]) (by decide) rfl rfl fun κ Qc hl hQ X => ?_
  subst hl
  refine AW.iload_n X dX11_noSuchPart_0 (i := 2) rfl rfl ?_
  refine AW.if_lt X (tgt := 26) dX11_noSuchPart_1 (by decide) (fun h1 => ?_) (fun h1 => ?_)
  · refine AW.iconstN X 1 dX11_noSuchPart_26 rfl ?_
    refine AW.goto X (tgt := 31) dX11_noSuchPart_27 (by decide) ?_
    refine AW.zret X rfl hQ dX11_noSuchPart_31 ⟨_, rfl, ?_⟩
    have e : nsp S s x m = true := by simp [nsp, *]
    exact ⟨by rw [e]; rfl, rfl⟩
  · refine AW.iload_n X dX11_noSuchPart_4 (i := 3) rfl rfl ?_
    refine AW.aload_n X dX11_noSuchPart_5 (i := 0) rfl rfl ?_
    refine AW.getR X dX11_noSuchPart_6 fX11_13 rfl ox0 (wx_sizes W) ?_
    refine AW.iload_n X dX11_noSuchPart_9 (i := 1) rfl rfl ?_
    refine AW.iaload X dX11_noSuchPart_10 ax2 (n2_in (by omega) (by decide)) (v := (nI (kk S 1 s))) (by rw [n2_clamp (by omega)]; exact rx_size hR (by omega)) ?_
    refine AW.icmp_gtN X (tgt := 26) dX11_noSuchPart_11 (by decide) (by omega) (by omega) (fun h11 => ?_) (fun h11 => ?_)
    · refine AW.iconstN X 1 dX11_noSuchPart_26 rfl ?_
      refine AW.goto X (tgt := 31) dX11_noSuchPart_27 (by decide) ?_
      refine AW.zret X rfl hQ dX11_noSuchPart_31 ⟨_, rfl, ?_⟩
      have e : nsp S s x m = true := by simp [nsp, *]
      exact ⟨by rw [e]; rfl, rfl⟩
    · refine AW.iload_n X dX11_noSuchPart_14 (i := 2) rfl rfl ?_
      refine AW.aload_n X dX11_noSuchPart_15 (i := 0) rfl rfl ?_
      refine AW.getR X dX11_noSuchPart_16 fX11_13 rfl ox0 (wx_sizes W) ?_
      refine AW.iload_n X dX11_noSuchPart_19 (i := 1) rfl rfl ?_
      refine AW.iaload X dX11_noSuchPart_20 ax2 (n2_in (by omega) (by decide)) (v := (nI (kk S 1 s))) (by rw [n2_clamp (by omega)]; exact rx_size hR (by omega)) ?_
      refine AW.iload_n X dX11_noSuchPart_21 (i := 3) rfl rfl ?_
      refine AW.isubN X dX11_noSuchPart_22 (by omega) ?_
      refine AW.icmp_le X (tgt := 30) dX11_noSuchPart_23 (by decide) (fun h23 => ?_) (fun h23 => ?_)
      · replace h23 := Int32.not_lt.mpr h23
        refine AW.iconstN X 0 dX11_noSuchPart_30 rfl ?_
        refine AW.zret X rfl hQ dX11_noSuchPart_31 ⟨_, rfl, ?_⟩
        have e : nsp S s x m = false := by simp [nsp, *]
        exact ⟨by rw [e]; rfl, rfl⟩
      · replace h23 := Int32.not_le.mp h23
        refine AW.iconstN X 1 dX11_noSuchPart_26 rfl ?_
        refine AW.goto X (tgt := 31) dX11_noSuchPart_27 (by decide) ?_
        refine AW.zret X rfl hQ dX11_noSuchPart_31 ⟨_, rfl, ?_⟩
        have e : nsp S s x m = true := by simp [nsp, *]
        exact ⟨by rw [e]; rfl, rfl⟩
theorem c_isH {l : Launch} {δ : Dl} {b : Nat} {μ : Mm} {S : St} (hR : RX μ S) {s : Nat} (hs : s < 8) : MCX l δ b yX11_holdsHouse cX11_holdsHouse 2 (some .boolean) 1 [.ref (b + 0), .int (nI s)] μ (pI fun r μ' => r = bI (isH S s) ∧ μ' = μ) := c_X11_holdsHouse hR hs
theorem c_isRw {l : Launch} {δ : Dl} {b : Nat} {μ : Mm} {S : St} (hR : RX μ S) {s : Nat} (hs : s < 8) : MCX l δ b yX11_holdsRow cX11_holdsRow 2 (some .boolean) 1 [.ref (b + 0), .int (nI s)] μ (pI fun r μ' => r = bI (isRw S s) ∧ μ' = μ) := c_X11_holdsRow hR hs
theorem isH_t {S : St} {s : Nat} (h : isH S s = true) : 1 ≤ kk S 0 s ∧ kk S 0 s ≤ 100 := of_decide_eq_true h
theorem isRw_t {S : St} {s : Nat} (h : isRw S s = true) : 101 ≤ kk S 0 s := of_decide_eq_true h
theorem nsp_of {S : St} {s m : Nat} {x : Int32} (hz : kk S 1 s ≤ 160) (h : nsp S s x m = false) : ∃ i : Nat, i + m ≤ kk S 1 s ∧ x = nI i := by
  simp only [nsp, decide_eq_false_iff_not, not_or] at h
  obtain ⟨i, hi, rfl⟩ := nI_of (x := x) h.1
  refine ⟨i, ?_, rfl⟩
  have h3 := Int32.not_lt.mp h.2.2
  rw [n2_le hi (by omega)] at h3
  omega
set_option maxRecDepth 100000 in
set_option maxHeartbeats 4000000 in
theorem c_X11_copy {l : Launch} {δ : Dl} {b : Nat} {μ : Mm} {S : St} (hR : RX μ S) {x : Int32} {y : Int32} {u : Int32} {v : Int32} {w : Int32} : MCX l δ b yX11_copy cX11_copy 6 (some .int) 3 [.ref (b + 0), .int x, .int y, .int u, .int v, .int w] μ (pI fun r μ' => r = (S_copy S x y u v w).1 ∧ RX μ' (S_copy S x y u v w).2) := by
  obtain ⟨B, Bd, tb, hnow, hdr, hT⟩ := hR.2.2.1
  have W := rx_w hR
  have ta := two_ta tb
  have hB := ta.1
  have hBd := ta.2.1
  have bn := ti_n hT.1
  refine MC.intro ([some (.ref (b + 0)), some (.int x), some (.int y), some (.int u), some (.int v), some (.int w)]) (by decide) rfl rfl fun κ Qc hl hQ X => ?_
  subst hl
  refine AW.iload_n X dX11_copy_0 (i := 1) rfl rfl ?_
  refine AW.bipushN X 8 dX11_copy_1 rfl ?_
  refine AW.callS X dX11_copy_3 lX11_91 (c_X11_outside) rfl rfl rfl rfl ⟨rfl, rfl⟩ (pR_k ?_)
  refine AW.if_neB X (tgt := 18) dX11_copy_6 (by decide) (fun h6 => ?_) (fun h6 => ?_)
  · simp only [Bool.not_eq_true', Bool.not_eq_false'] at h6
    refine AW.aload_n X dX11_copy_18 (i := 0) rfl rfl ?_
    refine AW.iconstN X 1 dX11_copy_19 rfl ?_
    refine AW.callV X dX11_copy_20 lX11_95 cfX11 (c_X11_refuse (k := 1) hR (by first | decide | omega)) ox0 rfl rfl rfl rfl ⟨rfl, rfl⟩ (pI_k fun r μ1 hr => ?_)
    refine AW.iret X hQ dX11_copy_23 ⟨_, rfl, ?_⟩
    refine rx_of ?_ hr
    simp [S_copy, *]
  · simp only [Bool.not_eq_true', Bool.not_eq_false'] at h6
    obtain ⟨p, hp, ep⟩ := inr_of (x := x) (m := 8) (by omega) h6
    subst ep
    have hzp := hR.1.2.2.2.1 p hp
    have hkp := hR.1.2.2.1 p hp
    have cp := cl_n (show p < 2147483648 by omega)
    refine AW.iload_n X dX11_copy_9 (i := 2) rfl rfl ?_
    refine AW.bipushN X 8 dX11_copy_10 rfl ?_
    refine AW.callS X dX11_copy_12 lX11_91 (c_X11_outside) rfl rfl rfl rfl ⟨rfl, rfl⟩ (pR_k ?_)
    refine AW.if_eqB X (tgt := 24) dX11_copy_15 (by decide) (fun h15 => ?_) (fun h15 => ?_)
    · simp only [Bool.not_eq_true', Bool.not_eq_false'] at h15
      obtain ⟨q, hq, eq⟩ := inr_of (x := y) (m := 8) (by omega) h15
      subst eq
      have hzq := hR.1.2.2.2.1 q hq
      have hkq := hR.1.2.2.1 q hq
      have cq := cl_n (show q < 2147483648 by omega)
      refine AW.aload_n X dX11_copy_24 (i := 0) rfl rfl ?_
      refine AW.iload_n X dX11_copy_25 (i := 1) rfl rfl ?_
      refine AW.callV X dX11_copy_26 lX11_106 cfX11 (c_isH hR (by omega)) ox0 rfl rfl rfl rfl ⟨rfl, rfl⟩ (pR_k ?_)
      refine AW.if_neB X (tgt := 71) dX11_copy_29 (by decide) (fun h29 => ?_) (fun h29 => ?_)
      · refine AW.aload_n X dX11_copy_71 (i := 0) rfl rfl ?_
        refine AW.iconstN X 2 dX11_copy_72 rfl ?_
        refine AW.callV X dX11_copy_73 lX11_95 cfX11 (c_X11_refuse (k := 2) hR (by first | decide | omega)) ox0 rfl rfl rfl rfl ⟨rfl, rfl⟩ (pI_k fun r μ1 hr => ?_)
        refine AW.iret X hQ dX11_copy_76 ⟨_, rfl, ?_⟩
        refine rx_of ?_ hr
        simp [S_copy, *]
      · refine AW.aload_n X dX11_copy_32 (i := 0) rfl rfl ?_
        refine AW.iload_n X dX11_copy_33 (i := 2) rfl rfl ?_
        refine AW.callV X dX11_copy_34 lX11_106 cfX11 (c_isH hR (by omega)) ox0 rfl rfl rfl rfl ⟨rfl, rfl⟩ (pR_k ?_)
        refine AW.if_neB X (tgt := 71) dX11_copy_37 (by decide) (fun h37 => ?_) (fun h37 => ?_)
        · refine AW.aload_n X dX11_copy_71 (i := 0) rfl rfl ?_
          refine AW.iconstN X 2 dX11_copy_72 rfl ?_
          refine AW.callV X dX11_copy_73 lX11_95 cfX11 (c_X11_refuse (k := 2) hR (by first | decide | omega)) ox0 rfl rfl rfl rfl ⟨rfl, rfl⟩ (pI_k fun r μ1 hr => ?_)
          refine AW.iret X hQ dX11_copy_76 ⟨_, rfl, ?_⟩
          refine rx_of ?_ hr
          simp [S_copy, *]
        · refine AW.aload_n X dX11_copy_40 (i := 0) rfl rfl ?_
          refine AW.iload_n X dX11_copy_41 (i := 1) rfl rfl ?_
          refine AW.callV X dX11_copy_42 lX11_110 cfX11 (c_isRw hR (by omega)) ox0 rfl rfl rfl rfl ⟨rfl, rfl⟩ (pR_k ?_)
          refine AW.if_eqB X (tgt := 77) dX11_copy_45 (by decide) (fun h45 => ?_) (fun h45 => ?_)
          · refine AW.aload_n X dX11_copy_77 (i := 0) rfl rfl ?_
            refine AW.iload_n X dX11_copy_78 (i := 1) rfl rfl ?_
            refine AW.callV X dX11_copy_79 lX11_110 cfX11 (c_isRw hR (by omega)) ox0 rfl rfl rfl rfl ⟨rfl, rfl⟩ (pR_k ?_)
            refine AW.if_eqB X (tgt := 93) dX11_copy_82 (by decide) (fun h82 => ?_) (fun h82 => ?_)
            · refine AW.aload_n X dX11_copy_93 (i := 0) rfl rfl ?_
              refine AW.iconstN X 3 dX11_copy_94 rfl ?_
              refine AW.callV X dX11_copy_95 lX11_95 cfX11 (c_X11_refuse (k := 3) hR (by first | decide | omega)) ox0 rfl rfl rfl rfl ⟨rfl, rfl⟩ (pI_k fun r μ1 hr => ?_)
              refine AW.iret X hQ dX11_copy_98 ⟨_, rfl, ?_⟩
              refine rx_of ?_ hr
              simp [S_copy, *]
            · exact absurd (h45.symm.trans h82) (by decide)
          · refine AW.aload_n X dX11_copy_48 (i := 0) rfl rfl ?_
            refine AW.iload_n X dX11_copy_49 (i := 2) rfl rfl ?_
            refine AW.callV X dX11_copy_50 lX11_110 cfX11 (c_isRw hR (by omega)) ox0 rfl rfl rfl rfl ⟨rfl, rfl⟩ (pR_k ?_)
            refine AW.if_eqB X (tgt := 77) dX11_copy_53 (by decide) (fun h53 => ?_) (fun h53 => ?_)
            · refine AW.aload_n X dX11_copy_77 (i := 0) rfl rfl ?_
              refine AW.iload_n X dX11_copy_78 (i := 1) rfl rfl ?_
              refine AW.callV X dX11_copy_79 lX11_110 cfX11 (c_isRw hR (by omega)) ox0 rfl rfl rfl rfl ⟨rfl, rfl⟩ (pR_k ?_)
              refine AW.if_eqB X (tgt := 93) dX11_copy_82 (by decide) (fun h82 => ?_) (fun h82 => ?_)
              · exact absurd (h45.symm.trans h82) (by decide)
              · refine AW.aload_n X dX11_copy_85 (i := 0) rfl rfl ?_
                refine AW.iload_n X dX11_copy_86 (i := 2) rfl rfl ?_
                refine AW.callV X dX11_copy_87 lX11_110 cfX11 (c_isRw hR (by omega)) ox0 rfl rfl rfl rfl ⟨rfl, rfl⟩ (pR_k ?_)
                refine AW.if_neB X (tgt := 99) dX11_copy_90 (by decide) (fun h90 => ?_) (fun h90 => ?_)
                · exact absurd (h53.symm.trans h90) (by decide)
                · refine AW.aload_n X dX11_copy_93 (i := 0) rfl rfl ?_
                  refine AW.iconstN X 3 dX11_copy_94 rfl ?_
                  refine AW.callV X dX11_copy_95 lX11_95 cfX11 (c_X11_refuse (k := 3) hR (by first | decide | omega)) ox0 rfl rfl rfl rfl ⟨rfl, rfl⟩ (pI_k fun r μ1 hr => ?_)
                  refine AW.iret X hQ dX11_copy_98 ⟨_, rfl, ?_⟩
                  refine rx_of ?_ hr
                  simp [S_copy, *]
            · refine AW.aload_n X dX11_copy_56 (i := 0) rfl rfl ?_
              refine AW.getR X dX11_copy_57 fX11_9 rfl ox0 (wx_held W) ?_
              refine AW.iload_n X dX11_copy_60 (i := 1) rfl rfl ?_
              refine AW.iaload X dX11_copy_61 ax1 (n2_in (by omega) (by decide)) (v := (dn (kk S 0 p))) (by rw [n2_clamp (by omega)]; exact rx_held hR hp) ?_
              refine AW.aload_n X dX11_copy_62 (i := 0) rfl rfl ?_
              refine AW.getR X dX11_copy_63 fX11_9 rfl ox0 (wx_held W) ?_
              refine AW.iload_n X dX11_copy_66 (i := 2) rfl rfl ?_
              refine AW.iaload X dX11_copy_67 ax1 (n2_in (by omega) (by decide)) (v := (dn (kk S 0 q))) (by rw [n2_clamp (by omega)]; exact rx_held hR hq) ?_
              refine AW.icmp_eq X (tgt := 77) dX11_copy_68 (by decide) (fun h68 => ?_) (fun h68 => ?_)
              · rw [dn_eq (by omega) (by omega)] at h68
                refine AW.aload_n X dX11_copy_77 (i := 0) rfl rfl ?_
                refine AW.iload_n X dX11_copy_78 (i := 1) rfl rfl ?_
                refine AW.callV X dX11_copy_79 lX11_110 cfX11 (c_isRw hR (by omega)) ox0 rfl rfl rfl rfl ⟨rfl, rfl⟩ (pR_k ?_)
                refine AW.if_eqB X (tgt := 93) dX11_copy_82 (by decide) (fun h82 => ?_) (fun h82 => ?_)
                · exact absurd (h45.symm.trans h82) (by decide)
                · refine AW.aload_n X dX11_copy_85 (i := 0) rfl rfl ?_
                  refine AW.iload_n X dX11_copy_86 (i := 2) rfl rfl ?_
                  refine AW.callV X dX11_copy_87 lX11_110 cfX11 (c_isRw hR (by omega)) ox0 rfl rfl rfl rfl ⟨rfl, rfl⟩ (pR_k ?_)
                  refine AW.if_neB X (tgt := 99) dX11_copy_90 (by decide) (fun h90 => ?_) (fun h90 => ?_)
                  · refine AW.iload X dX11_copy_99 rfl ?_
                    refine AW.if_ge X (tgt := 110) dX11_copy_101 (by decide) (fun h101 => ?_) (fun h101 => ?_)
                    · replace h101 := Int32.not_lt.mpr h101
                      obtain ⟨m, hm, em⟩ := nI_of h101
                      subst em
                      have cm := cl_n hm
                      refine AW.aload_n X dX11_copy_110 (i := 0) rfl rfl ?_
                      refine AW.iload_n X dX11_copy_111 (i := 1) rfl rfl ?_
                      refine AW.iload_n X dX11_copy_112 (i := 3) rfl rfl ?_
                      refine AW.iload X dX11_copy_113 rfl ?_
                      refine AW.callV X dX11_copy_115 lX11_113 cfX11 (c_X11_noSuchPart hR (by omega) (by omega)) ox0 rfl rfl rfl rfl ⟨rfl, rfl⟩ (pR_k ?_)
                      refine AW.if_neB X (tgt := 133) dX11_copy_118 (by decide) (fun h118 => ?_) (fun h118 => ?_)
                      · refine AW.aload_n X dX11_copy_133 (i := 0) rfl rfl ?_
                        refine AW.iconstN X 5 dX11_copy_134 rfl ?_
                        refine AW.callV X dX11_copy_135 lX11_95 cfX11 (c_X11_refuse (k := 5) hR (by first | decide | omega)) ox0 rfl rfl rfl rfl ⟨rfl, rfl⟩ (pI_k fun r μ1 hr => ?_)
                        refine AW.iret X hQ dX11_copy_138 ⟨_, rfl, ?_⟩
                        refine rx_of ?_ hr
                        simp [S_copy, *]
                      · obtain ⟨i, hi, ei⟩ := nsp_of hzp h118
                        subst ei
                        have ci := cl_n (show i < 2147483648 by omega)
                        refine AW.aload_n X dX11_copy_121 (i := 0) rfl rfl ?_
                        refine AW.iload_n X dX11_copy_122 (i := 2) rfl rfl ?_
                        refine AW.iload X dX11_copy_123 rfl ?_
                        refine AW.iload X dX11_copy_125 rfl ?_
                        refine AW.callV X dX11_copy_127 lX11_113 cfX11 (c_X11_noSuchPart hR (by omega) (by omega)) ox0 rfl rfl rfl rfl ⟨rfl, rfl⟩ (pR_k ?_)
                        refine AW.if_eqB X (tgt := 139) dX11_copy_130 (by decide) (fun h130 => ?_) (fun h130 => ?_)
                        · obtain ⟨j, hj, ej⟩ := nsp_of hzq h130
                          subst ej
                          have cj := cl_n (show j < 2147483648 by omega)
                          refine AW.aload_n X dX11_copy_139 (i := 0) rfl rfl ?_
                          refine AW.getR X dX11_copy_140 fX11_18 rfl ox0 (wx_elements W) ?_
                          refine AW.iload_n X dX11_copy_143 (i := 1) rfl rfl ?_
                          refine AW.aaload X (r := (4 + p)) dX11_copy_144 rfl rfl ax3 (n2_in (by omega) (by decide)) (by rw [n2_clamp (by omega)]; exact wx_el W (by omega)) ?_
                          refine AW.iload_n X dX11_copy_145 (i := 3) rfl rfl ?_
                          refine AW.aload_n X dX11_copy_146 (i := 0) rfl rfl ?_
                          refine AW.getR X dX11_copy_147 fX11_18 rfl ox0 (wx_elements W) ?_
                          refine AW.iload_n X dX11_copy_150 (i := 2) rfl rfl ?_
                          refine AW.aaload X (r := (4 + q)) dX11_copy_151 rfl rfl ax3 (n2_in (by omega) (by decide)) (by rw [n2_clamp (by omega)]; exact wx_el W (by omega)) ?_
                          refine AW.iload X dX11_copy_152 rfl ?_
                          refine AW.iload X dX11_copy_154 rfl ?_
                          refine AW.acopyL X dX11_copy_156 lX11_copy (ax_el (by omega)) (ax_el (by omega)) (by omega) (by omega) (by decide) (by decide) ⟨rfl, rfl⟩ ?_
                          refine AW.iconstN X 1 dX11_copy_159 rfl ?_
                          refine AW.iret X hQ dX11_copy_160 ⟨_, rfl, ?_⟩
                          refine rx_val (S' := eU S q (va_cpy (S.2.2.2 p) (S.2.2.2 q) i j m)) ?_ (rx_elems hR hq rfl rfl (fun z hz => ?_) (fun i9 hi9 => ?_))
                          · simp [S_copy, *]
                          · funext k9
                            simp [cpL, hz]
                          · simp only [cpL, if_true, va_cpy]
                            split
                            · exact rx_elem hR hp (by omega)
                            · exact rx_elem hR hq hi9
                        · refine AW.aload_n X dX11_copy_133 (i := 0) rfl rfl ?_
                          refine AW.iconstN X 5 dX11_copy_134 rfl ?_
                          refine AW.callV X dX11_copy_135 lX11_95 cfX11 (c_X11_refuse (k := 5) hR (by first | decide | omega)) ox0 rfl rfl rfl rfl ⟨rfl, rfl⟩ (pI_k fun r μ1 hr => ?_)
                          refine AW.iret X hQ dX11_copy_138 ⟨_, rfl, ?_⟩
                          refine rx_of ?_ hr
                          simp [S_copy, *]
                    · replace h101 := Int32.not_le.mp h101
                      refine AW.aload_n X dX11_copy_104 (i := 0) rfl rfl ?_
                      refine AW.iconstN X 4 dX11_copy_105 rfl ?_
                      refine AW.callV X dX11_copy_106 lX11_95 cfX11 (c_X11_refuse (k := 4) hR (by first | decide | omega)) ox0 rfl rfl rfl rfl ⟨rfl, rfl⟩ (pI_k fun r μ1 hr => ?_)
                      refine AW.iret X hQ dX11_copy_109 ⟨_, rfl, ?_⟩
                      refine rx_of ?_ hr
                      simp [S_copy, *]
                  · exact absurd (h53.symm.trans h90) (by decide)
              · rw [dn_eq (by omega) (by omega)] at h68
                refine AW.aload_n X dX11_copy_71 (i := 0) rfl rfl ?_
                refine AW.iconstN X 2 dX11_copy_72 rfl ?_
                refine AW.callV X dX11_copy_73 lX11_95 cfX11 (c_X11_refuse (k := 2) hR (by first | decide | omega)) ox0 rfl rfl rfl rfl ⟨rfl, rfl⟩ (pI_k fun r μ1 hr => ?_)
                refine AW.iret X hQ dX11_copy_76 ⟨_, rfl, ?_⟩
                refine rx_of ?_ hr
                simp [S_copy, *]
    · simp only [Bool.not_eq_true', Bool.not_eq_false'] at h15
      refine AW.aload_n X dX11_copy_18 (i := 0) rfl rfl ?_
      refine AW.iconstN X 1 dX11_copy_19 rfl ?_
      refine AW.callV X dX11_copy_20 lX11_95 cfX11 (c_X11_refuse (k := 1) hR (by first | decide | omega)) ox0 rfl rfl rfl rfl ⟨rfl, rfl⟩ (pI_k fun r μ1 hr => ?_)
      refine AW.iret X hQ dX11_copy_23 ⟨_, rfl, ?_⟩
      refine rx_of ?_ hr
      simp [S_copy, *]
