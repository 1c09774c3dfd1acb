set_option maxRecDepth 100000 in
set_option maxHeartbeats 4000000 in
theorem c_X12_no {l : Launch} {δ : Dl} {b : Nat} {μ : Mm} {S : St} (hR : RMX μ S) {k : Nat} (hk : k < 8) {cv : Int32} (hc : cv = -(nI k))  : MCM l δ b yX12_no cX12_no 2 (some .int) 1 [.ref (b + 0), .int cv] μ (pI fun r μ' => r = (ref S k 0).1 ∧ RMX μ' (ref S k 0).2) := by
  have hT := rm_t hR
  have W := rm_w hR
  have bn := ti_n hT.1
  refine MC.intro ([some (.ref (b + 0)), some (.int cv)]) (by decide) rfl rfl fun κ Qc hl hQ X => ?_
  subst hl
  subst hc
  refine AW.aload_n X dX12_no_0 (i := 0) rfl rfl ?_
  refine AW.getR X dX12_no_1 fX12_53 rfl om0 (wm_at W 14 rfl) ?_
  refine AW.iload_n X dX12_no_4 (i := 1) rfl rfl ?_
  refine AW.ineg X dX12_no_5 ?_
  rw [Int32.neg_neg]
  refine AW.dup2 X dX12_no_6 rfl rfl ?_
  refine AW.iaload X dX12_no_7 (am_at 14 rfl) (n2_in (by omega) (by decide)) (v := (nI (kk S 2 k))) (by rw [n2_clamp (by omega)]; exact rm_refu hR (by omega)) ?_
  refine AW.iconstN X 1 dX12_no_8 rfl ?_
  refine AW.iaddN X dX12_no_9 ?_
  refine AW.iastore X dX12_no_10 (by decide) (am_at 14 rfl) (n2_in (by omega) (by decide)) ?_
  rw [n2_clamp (by omega)]
  refine AW.iload_n X dX12_no_11 (i := 1) rfl rfl ?_
  refine AW.iret X hQ dX12_no_12 ⟨_, rfl, ?_⟩
  exact ⟨by simp [ref, show nI 0 = (0 : Int32) by decide], rm_ref hR hk⟩
set_option maxRecDepth 100000 in
set_option maxHeartbeats 4000000 in
theorem c_X12_no10 {l : Launch} {δ : Dl} {b : Nat} {μ : Mm} {S : St} (hR : RMX μ S) {k : Nat} (hk : k < 8) {cv : Int32} (hc : cv = -(nI k))  : MCM l δ b yX12_no10 cX12_no10 2 (some .int) 1 [.ref (b + 0), .int cv] μ (pI fun r μ' => r = (ref S k 10).1 ∧ RMX μ' (ref S k 10).2) := by
  have hT := rm_t hR
  have W := rm_w hR
  have bn := ti_n hT.1
  refine MC.intro ([some (.ref (b + 0)), some (.int cv)]) (by decide) rfl rfl fun κ Qc hl hQ X => ?_
  subst hl
  subst hc
  refine AW.aload_n X dX12_no10_0 (i := 0) rfl rfl ?_
  refine AW.getR X dX12_no10_1 fX12_53 rfl om0 (wm_at W 14 rfl) ?_
  refine AW.iload_n X dX12_no10_4 (i := 1) rfl rfl ?_
  refine AW.ineg X dX12_no10_5 ?_
  rw [Int32.neg_neg]
  refine AW.dup2 X dX12_no10_6 rfl rfl ?_
  refine AW.iaload X dX12_no10_7 (am_at 14 rfl) (n2_in (by omega) (by decide)) (v := (nI (kk S 2 k))) (by rw [n2_clamp (by omega)]; exact rm_refu hR (by omega)) ?_
  refine AW.iconstN X 1 dX12_no10_8 rfl ?_
  refine AW.iaddN X dX12_no10_9 ?_
  refine AW.iastore X dX12_no10_10 (by decide) (am_at 14 rfl) (n2_in (by omega) (by decide)) ?_
  rw [n2_clamp (by omega)]
  refine AW.iload_n X dX12_no10_11 (i := 1) rfl rfl ?_
  refine AW.bipushN X 10 dX12_no10_12 rfl ?_
  refine AW.isub X dX12_no10_14 ?_
  refine AW.iret X hQ dX12_no10_15 ⟨_, rfl, ?_⟩
  exact ⟨rfl, rm_ref hR hk⟩
set_option maxRecDepth 100000 in
set_option maxHeartbeats 4000000 in
theorem c_X12_seen {l : Launch} {δ : Dl} {b : Nat} {μ : Mm} {S : St} (hR : RMX μ S) {x : Int32} {y : Int32} {z : Int32} : MCM l δ b yX12_seen cX12_seen 4 (some .int) 4 [.ref (b + 0), .int x, .int y, .int z] μ (pI fun r μ' => r = (S_seen S x y z).1 ∧ RMX μ' (S_seen S x y z).2) := by
  have hT := rm_t hR
  have W := rm_w hR
  have bn := ti_n hT.1
  refine MC.intro ([some (.ref (b + 0)), some (.int x), some (.int y), some (.int z)]) (by decide) rfl rfl fun κ Qc hl hQ X => ?_
  subst hl
  refine AW.aload_n X dX12_seen_0 (i := 0) rfl rfl ?_
  refine AW.iload_n X dX12_seen_1 (i := 1) rfl rfl ?_
  refine AW.callV X dX12_seen_2 lX12_94 cfX12 (c_X12_isHouse W hT) om0 rfl rfl rfl rfl ⟨rfl, rfl⟩ (pR_k ?_)
  refine AW.if_neB X (tgt := 14) dX12_seen_5 (by decide) (fun h5 => ?_) (fun h5 => ?_)
  · obtain ⟨h, hh, eh⟩ := inr_of (x := x) (m := (S.1 6 0 0)) (by omega) h5
    subst eh
    have ch := cl_n (show h < 2147483648 by omega)
    have hIh := tm_hi hT hh
    have bnh := hi_n hIh
    have bah := hi_a hIh
    refine AW.iload_n X dX12_seen_14 (i := 2) rfl rfl ?_
    refine AW.callS X dX12_seen_15 lX12_142 (c_X12_isCell) rfl rfl rfl rfl ⟨rfl, rfl⟩ (pR_k ?_)
    refine AW.if_neB X (tgt := 28) dX12_seen_18 (by decide) (fun h18 => ?_) (fun h18 => ?_)
    · obtain ⟨k, hk, ek⟩ := inr_of (x := y) (m := 12) (by omega) h18
      subst ek
      have ck := cl_n (show k < 2147483648 by omega)
      refine AW.iload_n X dX12_seen_28 (i := 3) rfl rfl ?_
      refine AW.callS X dX12_seen_29 lX12_240 (c_X12_isWeather) rfl rfl rfl rfl ⟨rfl, rfl⟩ (pR_k ?_)
      refine AW.if_eqB X (tgt := 45) dX12_seen_32 (by decide) (fun h32 => ?_) (fun h32 => ?_)
      · refine AW.aload_n X dX12_seen_45 (i := 0) rfl rfl ?_
        refine AW.bipush X (v := -6) dX12_seen_46 rfl ?_
        refine AW.callV X dX12_seen_48 lX12_237 cfX12 (c_X12_no10 (k := 6) hR (by decide) (by decide)) om0 rfl rfl rfl rfl ⟨rfl, rfl⟩ (pI_k fun r μ1 hr => ?_)
        refine AW.iret X hQ dX12_seen_51 ⟨_, rfl, ?_⟩
        refine rm_of ?_ hr
        simp [S_seen, seenAt, *]
      · obtain ⟨d, hd, ed⟩ := inr_of (x := z) (m := 100) (by omega) h32
        subst ed
        have cd := cl_n (show d < 2147483648 by omega)
        refine AW.aload_n X dX12_seen_35 (i := 0) rfl rfl ?_
        refine AW.iload_n X dX12_seen_36 (i := 1) rfl rfl ?_
        refine AW.iload_n X dX12_seen_37 (i := 2) rfl rfl ?_
        refine AW.iload_n X dX12_seen_38 (i := 3) rfl rfl ?_
        refine AW.callV X dX12_seen_39 lX12_243 cfX12 (c_X12_seenAt W hT (by omega) (by omega) (by omega)) om0 rfl rfl rfl rfl ⟨rfl, rfl⟩ (pR_k ?_)
        refine AW.goto X (tgt := 51) dX12_seen_42 (by decide) ?_
        refine AW.iret X hQ dX12_seen_51 ⟨_, rfl, ?_⟩
        refine rm_val ?_ hR
        simp [S_seen, seenAt, *]
    · refine AW.aload_n X dX12_seen_21 (i := 0) rfl rfl ?_
      refine AW.bipush X (v := -5) dX12_seen_22 rfl ?_
      refine AW.callV X dX12_seen_24 lX12_237 cfX12 (c_X12_no10 (k := 5) hR (by decide) (by decide)) om0 rfl rfl rfl rfl ⟨rfl, rfl⟩ (pI_k fun r μ1 hr => ?_)
      refine AW.iret X hQ dX12_seen_27 ⟨_, rfl, ?_⟩
      refine rm_of ?_ hr
      simp [S_seen, seenAt, *]
  · refine AW.aload_n X dX12_seen_8 (i := 0) rfl rfl ?_
    refine AW.iconst X (v := -1) dX12_seen_9 rfl ?_
    refine AW.callV X dX12_seen_10 lX12_237 cfX12 (c_X12_no10 (k := 1) hR (by decide) (by decide)) om0 rfl rfl rfl rfl ⟨rfl, rfl⟩ (pI_k fun r μ1 hr => ?_)
    refine AW.iret X hQ dX12_seen_13 ⟨_, rfl, ?_⟩
    refine rm_of ?_ hr
    simp [S_seen, seenAt, *]
set_option maxRecDepth 100000 in
set_option maxHeartbeats 4000000 in
theorem c_X12_wet {l : Launch} {δ : Dl} {b : Nat} {μ : Mm} {S : St} (hR : RMX μ S) {x : Int32} {y : Int32} {z : Int32} : MCM l δ b yX12_wet cX12_wet 4 (some .int) 3 [.ref (b + 0), .int x, .int y, .int z] μ (pI fun r μ' => r = (S_wet S x y z).1 ∧ RMX μ' (S_wet S x y z).2) := by
  have hT := rm_t hR
  have W := rm_w hR
  have bn := ti_n hT.1
  refine MC.intro ([some (.ref (b + 0)), some (.int x), some (.int y), some (.int z)]) (by decide) rfl rfl fun κ Qc hl hQ X => ?_
  subst hl
  refine AW.aload_n X dX12_wet_0 (i := 0) rfl rfl ?_
  refine AW.iload_n X dX12_wet_1 (i := 1) rfl rfl ?_
  refine AW.callV X dX12_wet_2 lX12_94 cfX12 (c_X12_isHouse W hT) om0 rfl rfl rfl rfl ⟨rfl, rfl⟩ (pR_k ?_)
  refine AW.if_neB X (tgt := 14) dX12_wet_5 (by decide) (fun h5 => ?_) (fun h5 => ?_)
  · obtain ⟨h, hh, eh⟩ := inr_of (x := x) (m := (S.1 6 0 0)) (by omega) h5
    subst eh
    have ch := cl_n (show h < 2147483648 by omega)
    have hIh := tm_hi hT hh
    have bnh := hi_n hIh
    have bah := hi_a hIh
    refine AW.iload_n X dX12_wet_14 (i := 2) rfl rfl ?_
    refine AW.callS X dX12_wet_15 lX12_142 (c_X12_isCell) rfl rfl rfl rfl ⟨rfl, rfl⟩ (pR_k ?_)
    refine AW.if_neB X (tgt := 28) dX12_wet_18 (by decide) (fun h18 => ?_) (fun h18 => ?_)
    · obtain ⟨k, hk, ek⟩ := inr_of (x := y) (m := 12) (by omega) h18
      subst ek
      have ck := cl_n (show k < 2147483648 by omega)
      refine AW.iload_n X dX12_wet_28 (i := 3) rfl rfl ?_
      refine AW.callS X dX12_wet_29 lX12_240 (c_X12_isWeather) rfl rfl rfl rfl ⟨rfl, rfl⟩ (pR_k ?_)
      refine AW.if_eqB X (tgt := 45) dX12_wet_32 (by decide) (fun h32 => ?_) (fun h32 => ?_)
      · refine AW.aload_n X dX12_wet_45 (i := 0) rfl rfl ?_
        refine AW.bipush X (v := -6) dX12_wet_46 rfl ?_
        refine AW.callV X dX12_wet_48 lX12_98 cfX12 (c_X12_no (k := 6) hR (by decide) (by decide)) om0 rfl rfl rfl rfl ⟨rfl, rfl⟩ (pI_k fun r μ1 hr => ?_)
        refine AW.iret X hQ dX12_wet_51 ⟨_, rfl, ?_⟩
        refine rm_of ?_ hr
        simp [S_wet, *]
      · obtain ⟨d, hd, ed⟩ := inr_of (x := z) (m := 100) (by omega) h32
        subst ed
        have cd := cl_n (show d < 2147483648 by omega)
        refine AW.aload_n X dX12_wet_35 (i := 0) rfl rfl ?_
        refine AW.iload_n X dX12_wet_36 (i := 1) rfl rfl ?_
        refine AW.iload_n X dX12_wet_37 (i := 2) rfl rfl ?_
        refine AW.iload_n X dX12_wet_38 (i := 3) rfl rfl ?_
        refine AW.callV X dX12_wet_39 lX12_118 cfX12 (c_X12_wetOf W hT (by omega) (by omega) (by omega)) om0 rfl rfl rfl rfl ⟨rfl, rfl⟩ (pR_k ?_)
        refine AW.goto X (tgt := 51) dX12_wet_42 (by decide) ?_
        refine AW.iret X hQ dX12_wet_51 ⟨_, rfl, ?_⟩
        refine rm_val ?_ hR
        simp [S_wet, *]
    · refine AW.aload_n X dX12_wet_21 (i := 0) rfl rfl ?_
      refine AW.bipush X (v := -5) dX12_wet_22 rfl ?_
      refine AW.callV X dX12_wet_24 lX12_98 cfX12 (c_X12_no (k := 5) hR (by decide) (by decide)) om0 rfl rfl rfl rfl ⟨rfl, rfl⟩ (pI_k fun r μ1 hr => ?_)
      refine AW.iret X hQ dX12_wet_27 ⟨_, rfl, ?_⟩
      refine rm_of ?_ hr
      simp [S_wet, *]
  · refine AW.aload_n X dX12_wet_8 (i := 0) rfl rfl ?_
    refine AW.iconst X (v := -1) dX12_wet_9 rfl ?_
    refine AW.callV X dX12_wet_10 lX12_98 cfX12 (c_X12_no (k := 1) hR (by decide) (by decide)) om0 rfl rfl rfl rfl ⟨rfl, rfl⟩ (pI_k fun r μ1 hr => ?_)
    refine AW.iret X hQ dX12_wet_13 ⟨_, rfl, ?_⟩
    refine rm_of ?_ hr
    simp [S_wet, *]
set_option maxRecDepth 100000 in
set_option maxHeartbeats 4000000 in
theorem c_X12_deep {l : Launch} {δ : Dl} {b : Nat} {μ : Mm} {S : St} (hR : RMX μ S) {x : Int32} {y : Int32} : MCM l δ b yX12_deep cX12_deep 3 (some .int) 4 [.ref (b + 0), .int x, .int y] μ (pI fun r μ' => r = (S_deep S x y).1 ∧ RMX μ' (S_deep S x y).2) := by
  have hT := rm_t hR
  have W := rm_w hR
  have bn := ti_n hT.1
  refine MC.intro ([some (.ref (b + 0)), some (.int x), some (.int y)]) (by decide) rfl rfl fun κ Qc hl hQ X => ?_
  subst hl
  refine AW.aload_n X dX12_deep_0 (i := 0) rfl rfl ?_
  refine AW.iload_n X dX12_deep_1 (i := 1) rfl rfl ?_
  refine AW.callV X dX12_deep_2 lX12_94 cfX12 (c_X12_isHouse W hT) om0 rfl rfl rfl rfl ⟨rfl, rfl⟩ (pR_k ?_)
  refine AW.if_neB X (tgt := 14) dX12_deep_5 (by decide) (fun h5 => ?_) (fun h5 => ?_)
  · obtain ⟨h, hh, eh⟩ := inr_of (x := x) (m := (S.1 6 0 0)) (by omega) h5
    subst eh
    have ch := cl_n (show h < 2147483648 by omega)
    have hIh := tm_hi hT hh
    have bnh := hi_n hIh
    have bah := hi_a hIh
    refine AW.iload_n X dX12_deep_14 (i := 2) rfl rfl ?_
    refine AW.callS X dX12_deep_15 lX12_142 (c_X12_isCell) rfl rfl rfl rfl ⟨rfl, rfl⟩ (pR_k ?_)
    refine AW.if_eqB X (tgt := 30) dX12_deep_18 (by decide) (fun h18 => ?_) (fun h18 => ?_)
    · refine AW.aload_n X dX12_deep_30 (i := 0) rfl rfl ?_
      refine AW.bipush X (v := -5) dX12_deep_31 rfl ?_
      refine AW.callV X dX12_deep_33 lX12_98 cfX12 (c_X12_no (k := 5) hR (by decide) (by decide)) om0 rfl rfl rfl rfl ⟨rfl, rfl⟩ (pI_k fun r μ1 hr => ?_)
      refine AW.iret X hQ dX12_deep_36 ⟨_, rfl, ?_⟩
      refine rm_of ?_ hr
      simp [S_deep, *]
    · obtain ⟨k, hk, ek⟩ := inr_of (x := y) (m := 12) (by omega) h18
      subst ek
      have ck := cl_n (show k < 2147483648 by omega)
      refine AW.aload_n X dX12_deep_21 (i := 0) rfl rfl ?_
      refine AW.iload_n X dX12_deep_22 (i := 1) rfl rfl ?_
      refine AW.iload_n X dX12_deep_23 (i := 2) rfl rfl ?_
      refine AW.callV X dX12_deep_24 lX12_234 cfX12 (c_X12_deepOf W hT (by omega) (by omega)) om0 rfl rfl rfl rfl ⟨rfl, rfl⟩ (pR_k ?_)
      refine AW.goto X (tgt := 36) dX12_deep_27 (by decide) ?_
      refine AW.iret X hQ dX12_deep_36 ⟨_, rfl, ?_⟩
      refine rm_val ?_ hR
      simp [S_deep, *]
  · refine AW.aload_n X dX12_deep_8 (i := 0) rfl rfl ?_
    refine AW.iconst X (v := -1) dX12_deep_9 rfl ?_
    refine AW.callV X dX12_deep_10 lX12_98 cfX12 (c_X12_no (k := 1) hR (by decide) (by decide)) om0 rfl rfl rfl rfl ⟨rfl, rfl⟩ (pI_k fun r μ1 hr => ?_)
    refine AW.iret X hQ dX12_deep_13 ⟨_, rfl, ?_⟩
    refine rm_of ?_ hr
    simp [S_deep, *]
set_option maxRecDepth 100000 in
set_option maxHeartbeats 4000000 in
theorem c_X12_skin {l : Launch} {δ : Dl} {b : Nat} {μ : Mm} {S : St} (hR : RMX μ S) {x : Int32} : MCM l δ b yX12_skin cX12_skin 2 (some .int) 5 [.ref (b + 0), .int x] μ (pI fun r μ' => r = (S_skin S x).1 ∧ RMX μ' (S_skin S x).2) := by
  have hT := rm_t hR
  have W := rm_w hR
  have bn := ti_n hT.1
  refine MC.intro ([some (.ref (b + 0)), some (.int x)]) (by decide) rfl rfl fun κ Qc hl hQ X => ?_
  subst hl
  refine AW.aload_n X dX12_skin_0 (i := 0) rfl rfl ?_
  refine AW.iload_n X dX12_skin_1 (i := 1) rfl rfl ?_
  refine AW.callV X dX12_skin_2 lX12_94 cfX12 (c_X12_isHouse W hT) om0 rfl rfl rfl rfl ⟨rfl, rfl⟩ (pR_k ?_)
  refine AW.if_eqB X (tgt := 16) dX12_skin_5 (by decide) (fun h5 => ?_) (fun h5 => ?_)
  · refine AW.aload_n X dX12_skin_16 (i := 0) rfl rfl ?_
    refine AW.iconst X (v := -1) dX12_skin_17 rfl ?_
    refine AW.callV X dX12_skin_18 lX12_98 cfX12 (c_X12_no (k := 1) hR (by decide) (by decide)) om0 rfl rfl rfl rfl ⟨rfl, rfl⟩ (pI_k fun r μ1 hr => ?_)
    refine AW.iret X hQ dX12_skin_21 ⟨_, rfl, ?_⟩
    refine rm_of ?_ hr
    simp [S_skin, *]
  · obtain ⟨h, hh, eh⟩ := inr_of (x := x) (m := (S.1 6 0 0)) (by omega) h5
    subst eh
    have ch := cl_n (show h < 2147483648 by omega)
    have hIh := tm_hi hT hh
    have bnh := hi_n hIh
    have bah := hi_a hIh
    refine AW.aload_n X dX12_skin_8 (i := 0) rfl rfl ?_
    refine AW.iload_n X dX12_skin_9 (i := 1) rfl rfl ?_
    refine AW.callV X dX12_skin_10 lX12_115 cfX12 (c_X12_skinOf W hT (by omega)) om0 rfl rfl rfl rfl ⟨rfl, rfl⟩ (pR_k ?_)
    refine AW.goto X (tgt := 21) dX12_skin_13 (by decide) ?_
    refine AW.iret X hQ dX12_skin_21 ⟨_, rfl, ?_⟩
    refine rm_val ?_ hR
    simp [S_skin, *]
set_option maxRecDepth 100000 in
set_option maxHeartbeats 4000000 in
theorem c_X12_hailed {l : Launch} {δ : Dl} {b : Nat} {μ : Mm} {S : St} (hR : RMX μ S) {x : Int32} {y : Int32} {z : Int32} : MCM l δ b yX12_hailed cX12_hailed 4 (some .int) 4 [.ref (b + 0), .int x, .int y, .int z] μ (pI fun r μ' => r = (S_hailed S x y z).1 ∧ RMX μ' (S_hailed S x y z).2) := by
  have hT := rm_t hR
  have W := rm_w hR
  have bn := ti_n hT.1
  refine MC.intro ([some (.ref (b + 0)), some (.int x), some (.int y), some (.int z)]) (by decide) rfl rfl fun κ Qc hl hQ X => ?_
  subst hl
  refine AW.aload_n X dX12_hailed_0 (i := 0) rfl rfl ?_
  refine AW.iload_n X dX12_hailed_1 (i := 1) rfl rfl ?_
  refine AW.callV X dX12_hailed_2 lX12_94 cfX12 (c_X12_isHouse W hT) om0 rfl rfl rfl rfl ⟨rfl, rfl⟩ (pR_k ?_)
  refine AW.if_neB X (tgt := 14) dX12_hailed_5 (by decide) (fun h5 => ?_) (fun h5 => ?_)
  · obtain ⟨h, hh, eh⟩ := inr_of (x := x) (m := (S.1 6 0 0)) (by omega) h5
    subst eh
    have ch := cl_n (show h < 2147483648 by omega)
    have hIh := tm_hi hT hh
    have bnh := hi_n hIh
    have bah := hi_a hIh
    refine AW.iload_n X dX12_hailed_14 (i := 2) rfl rfl ?_
    refine AW.callS X dX12_hailed_15 lX12_142 (c_X12_isCell) rfl rfl rfl rfl ⟨rfl, rfl⟩ (pR_k ?_)
    refine AW.if_neB X (tgt := 28) dX12_hailed_18 (by decide) (fun h18 => ?_) (fun h18 => ?_)
    · obtain ⟨k, hk, ek⟩ := inr_of (x := y) (m := 12) (by omega) h18
      subst ek
      have ck := cl_n (show k < 2147483648 by omega)
      refine AW.iload_n X dX12_hailed_28 (i := 3) rfl rfl ?_
      refine AW.callS X dX12_hailed_29 lX12_240 (c_X12_isWeather) rfl rfl rfl rfl ⟨rfl, rfl⟩ (pR_k ?_)
      refine AW.if_eqB X (tgt := 45) dX12_hailed_32 (by decide) (fun h32 => ?_) (fun h32 => ?_)
      · refine AW.aload_n X dX12_hailed_45 (i := 0) rfl rfl ?_
        refine AW.bipush X (v := -6) dX12_hailed_46 rfl ?_
        refine AW.callV X dX12_hailed_48 lX12_98 cfX12 (c_X12_no (k := 6) hR (by decide) (by decide)) om0 rfl rfl rfl rfl ⟨rfl, rfl⟩ (pI_k fun r μ1 hr => ?_)
        refine AW.iret X hQ dX12_hailed_51 ⟨_, rfl, ?_⟩
        refine rm_of ?_ hr
        simp [S_hailed, *]
      · obtain ⟨d, hd, ed⟩ := inr_of (x := z) (m := 100) (by omega) h32
        subst ed
        have cd := cl_n (show d < 2147483648 by omega)
        refine AW.aload_n X dX12_hailed_35 (i := 0) rfl rfl ?_
        refine AW.iload_n X dX12_hailed_36 (i := 1) rfl rfl ?_
        refine AW.iload_n X dX12_hailed_37 (i := 2) rfl rfl ?_
        refine AW.iload_n X dX12_hailed_38 (i := 3) rfl rfl ?_
        refine AW.callV X dX12_hailed_39 lX12_246 cfX12 (c_X12_behind W hT (by omega) (by omega) (by omega)) om0 rfl rfl rfl rfl ⟨rfl, rfl⟩ (pR_k ?_)
        refine AW.goto X (tgt := 51) dX12_hailed_42 (by decide) ?_
        refine AW.iret X hQ dX12_hailed_51 ⟨_, rfl, ?_⟩
        refine rm_val ?_ hR
        simp [S_hailed, *]
    · refine AW.aload_n X dX12_hailed_21 (i := 0) rfl rfl ?_
      refine AW.bipush X (v := -5) dX12_hailed_22 rfl ?_
      refine AW.callV X dX12_hailed_24 lX12_98 cfX12 (c_X12_no (k := 5) hR (by decide) (by decide)) om0 rfl rfl rfl rfl ⟨rfl, rfl⟩ (pI_k fun r μ1 hr => ?_)
      refine AW.iret X hQ dX12_hailed_27 ⟨_, rfl, ?_⟩
      refine rm_of ?_ hr
      simp [S_hailed, *]
  · refine AW.aload_n X dX12_hailed_8 (i := 0) rfl rfl ?_
    refine AW.iconst X (v := -1) dX12_hailed_9 rfl ?_
    refine AW.callV X dX12_hailed_10 lX12_98 cfX12 (c_X12_no (k := 1) hR (by decide) (by decide)) om0 rfl rfl rfl rfl ⟨rfl, rfl⟩ (pI_k fun r μ1 hr => ?_)
    refine AW.iret X hQ dX12_hailed_13 ⟨_, rfl, ?_⟩
    refine rm_of ?_ hr
    simp [S_hailed, *]
set_option maxRecDepth 100000 in
set_option maxHeartbeats 4000000 in
theorem c_X12_hidden {l : Launch} {δ : Dl} {b : Nat} {μ : Mm} {S : St} (hR : RMX μ S) {x : Int32} {y : Int32} : MCM l δ b yX12_hidden cX12_hidden 3 (some .int) 5 [.ref (b + 0), .int x, .int y] μ (pI fun r μ' => r = (S_hidden S x y).1 ∧ RMX μ' (S_hidden S x y).2) := by
  have hT := rm_t hR
  have W := rm_w hR
  have bn := ti_n hT.1
  refine MC.intro ([some (.ref (b + 0)), some (.int x), some (.int y)]) (by decide) rfl rfl fun κ Qc hl hQ X => ?_
  subst hl
  refine AW.aload_n X dX12_hidden_0 (i := 0) rfl rfl ?_
  refine AW.iload_n X dX12_hidden_1 (i := 1) rfl rfl ?_
  refine AW.callV X dX12_hidden_2 lX12_94 cfX12 (c_X12_isHouse W hT) om0 rfl rfl rfl rfl ⟨rfl, rfl⟩ (pR_k ?_)
  refine AW.if_neB X (tgt := 14) dX12_hidden_5 (by decide) (fun h5 => ?_) (fun h5 => ?_)
  · obtain ⟨h, hh, eh⟩ := inr_of (x := x) (m := (S.1 6 0 0)) (by omega) h5
    subst eh
    have ch := cl_n (show h < 2147483648 by omega)
    have hIh := tm_hi hT hh
    have bnh := hi_n hIh
    have bah := hi_a hIh
    refine AW.iload_n X dX12_hidden_14 (i := 2) rfl rfl ?_
    refine AW.callS X dX12_hidden_15 lX12_240 (c_X12_isWeather) rfl rfl rfl rfl ⟨rfl, rfl⟩ (pR_k ?_)
    refine AW.if_eqB X (tgt := 43) dX12_hidden_18 (by decide) (fun h18 => ?_) (fun h18 => ?_)
    · refine AW.aload_n X dX12_hidden_43 (i := 0) rfl rfl ?_
      refine AW.bipush X (v := -6) dX12_hidden_44 rfl ?_
      refine AW.callV X dX12_hidden_46 lX12_98 cfX12 (c_X12_no (k := 6) hR (by decide) (by decide)) om0 rfl rfl rfl rfl ⟨rfl, rfl⟩ (pI_k fun r μ1 hr => ?_)
      refine AW.iret X hQ dX12_hidden_49 ⟨_, rfl, ?_⟩
      refine rm_of ?_ hr
      simp [S_hidden, *]
    · obtain ⟨d, hd, ed⟩ := inr_of (x := y) (m := 100) (by omega) h18
      subst ed
      have cd := cl_n (show d < 2147483648 by omega)
      have p1 := Nat.one_le_two_pow (n := S.1 h 0 2)
      refine AW.iconstN X 1 dX12_hidden_21 rfl ?_
      refine AW.aload_n X dX12_hidden_22 (i := 0) rfl rfl ?_
      refine AW.getR X dX12_hidden_23 fX12_26 rfl om0 (wm_at W 5 rfl) ?_
      refine AW.iload_n X dX12_hidden_26 (i := 1) rfl rfl ?_
      refine AW.iaload X dX12_hidden_27 (am_at 5 rfl) (n2_in (by omega) (by decide)) (v := (nI (S.1 h 0 2))) (by rw [n2_clamp (by omega)]; exact tm_n hT (by omega)) ?_
      refine AW.shl1 X dX12_hidden_28 (by omega) ?_
      refine AW.iconstN X 1 dX12_hidden_29 rfl ?_
      refine AW.isubN X dX12_hidden_30 (by omega) ?_
      refine AW.aload_n X dX12_hidden_31 (i := 0) rfl rfl ?_
      refine AW.iload_n X dX12_hidden_32 (i := 1) rfl rfl ?_
      refine AW.iload_n X dX12_hidden_33 (i := 2) rfl rfl ?_
      refine AW.callV X dX12_hidden_34 lX12_249 cfX12 (c_X12_seenAll W hT (by omega) (by omega)) om0 rfl rfl rfl rfl ⟨rfl, rfl⟩ (pR_k ?_)
      refine AW.andNotN X dX12_hidden_37 dX12_hidden_38 dX12_hidden_39 ?_
      refine AW.goto X (tgt := 49) dX12_hidden_40 (by decide) ?_
      refine AW.iret X hQ dX12_hidden_49 ⟨_, rfl, ?_⟩
      refine rm_val ?_ hR
      simp [S_hidden, *]
  · refine AW.aload_n X dX12_hidden_8 (i := 0) rfl rfl ?_
    refine AW.iconst X (v := -1) dX12_hidden_9 rfl ?_
    refine AW.callV X dX12_hidden_10 lX12_98 cfX12 (c_X12_no (k := 1) hR (by decide) (by decide)) om0 rfl rfl rfl rfl ⟨rfl, rfl⟩ (pI_k fun r μ1 hr => ?_)
    refine AW.iret X hQ dX12_hidden_13 ⟨_, rfl, ?_⟩
    refine rm_of ?_ hr
    simp [S_hidden, *]
set_option maxRecDepth 100000 in
set_option maxHeartbeats 4000000 in
theorem c_X12_fault {l : Launch} {δ : Dl} {b : Nat} {μ : Mm} {S : St} (hR : RMX μ S)  : MCM l δ b yX12_fault cX12_fault 1 (some .int) 1 [.ref (b + 0)] μ (pI fun r μ' => r = S_fault S  ∧ μ' = μ) := by
  have hT := rm_t hR
  have W := rm_w hR
  have bn := ti_n hT.1
  refine MC.intro ([some (.ref (b + 0))]) (by decide) rfl rfl fun κ Qc hl hQ X => ?_
  subst hl
  refine AW.aload_n X dX12_fault_0 (i := 0) rfl rfl ?_
  refine AW.getI X dX12_fault_1 fX12_84 rfl om0 (rm_fault hR) ?_
  refine AW.iret X hQ dX12_fault_4 ⟨_, rfl, ?_⟩
  exact ⟨by simp [S_fault, *], rfl⟩
theorem e1000 (S : St) (k : Nat) : ((ref S k 0).1 - nI 1000, (ref S k 0).2) = ref S k 1000 := by
  have : nI 0 = (0 : Int32) := by decide
  simp [ref, this]
set_option maxRecDepth 100000 in
set_option maxHeartbeats 4000000 in
theorem c_X12_lane {l : Launch} {δ : Dl} {b : Nat} {μ : Mm} {S : St} (hR : RMX μ S) {x : Int32} {y : Int32} : MCM l δ b yX12_lane cX12_lane 3 (some .int) 5 [.ref (b + 0), .int x, .int y] μ (pI fun r μ' => r = (S_lane S x y).1 ∧ RMX μ' (S_lane S x y).2) := by
  have hT := rm_t hR
  have W := rm_w hR
  have bn := ti_n hT.1
  refine MC.intro ([some (.ref (b + 0)), some (.int x), some (.int y)]) (by decide) rfl rfl fun κ Qc hl hQ X => ?_
  subst hl
  refine AW.aload_n X dX12_lane_0 (i := 0) rfl rfl ?_
  refine AW.iload_n X dX12_lane_1 (i := 1) rfl rfl ?_
  refine AW.callV X dX12_lane_2 lX12_94 cfX12 (c_X12_isHouse W hT) om0 rfl rfl rfl rfl ⟨rfl, rfl⟩ (pR_k ?_)
  refine AW.if_eqB X (tgt := 16) dX12_lane_5 (by decide) (fun h5 => ?_) (fun h5 => ?_)
  · refine AW.aload_n X dX12_lane_16 (i := 0) rfl rfl ?_
    refine AW.iconst X (v := -1) dX12_lane_17 rfl ?_
    refine AW.callV X dX12_lane_18 lX12_98 cfX12 (c_X12_no (k := 1) hR (by decide) (by decide)) om0 rfl rfl rfl rfl ⟨rfl, rfl⟩ (pI_k fun r μ1 hr => ?_)
    refine AW.sipushN X 1000 dX12_lane_21 rfl ?_
    refine AW.isub X dX12_lane_24 ?_
    refine AW.iret X hQ dX12_lane_25 ⟨_, rfl, ?_⟩
    obtain ⟨rfl, hR1⟩ := hr
    exact rm_val (S' := (ref S 1 0).2) (by rw [e1000]; simp [S_lane, *]) hR1
  · obtain ⟨h, hh, eh⟩ := inr_of (x := x) (m := (S.1 6 0 0)) (by omega) h5
    subst eh
    have ch := cl_n (show h < 2147483648 by omega)
    have hIh := tm_hi hT hh
    have bnh := hi_n hIh
    have bah := hi_a hIh
    refine AW.aload_n X dX12_lane_8 (i := 0) rfl rfl ?_
    refine AW.iload_n X dX12_lane_9 (i := 2) rfl rfl ?_
    refine AW.callV X dX12_lane_10 lX12_94 cfX12 (c_X12_isHouse W hT) om0 rfl rfl rfl rfl ⟨rfl, rfl⟩ (pR_k ?_)
    refine AW.if_neB X (tgt := 26) dX12_lane_13 (by decide) (fun h13 => ?_) (fun h13 => ?_)
    · obtain ⟨g, hg, eg⟩ := inr_of (x := y) (m := (S.1 6 0 0)) (by omega) h13
      subst eg
      have cg := cl_n (show g < 2147483648 by omega)
      have hIg := tm_hi hT hg
      have bng := hi_n hIg
      have bag := hi_a hIg
      refine AW.iload_n X dX12_lane_26 (i := 1) rfl rfl ?_
      refine AW.iload_n X dX12_lane_27 (i := 2) rfl rfl ?_
      refine AW.icmp_neN X (tgt := 42) dX12_lane_28 (by decide) (by omega) (by omega) (fun h28 => ?_) (fun h28 => ?_)
      · refine AW.aload_n X dX12_lane_42 (i := 0) rfl rfl ?_
        refine AW.getI X dX12_lane_43 fX12_78 rfl om0 (tm_w hT) ?_
        refine AW.aload_n X dX12_lane_46 (i := 0) rfl rfl ?_
        refine AW.iload_n X dX12_lane_47 (i := 1) rfl rfl ?_
        refine AW.callV X dX12_lane_48 lX12_269 cfX12 (c_X12_deepest W hT (by omega)) om0 rfl rfl rfl rfl ⟨rfl, rfl⟩ (pR_k ?_)
        refine AW.isub X dX12_lane_51 ?_
        refine AW.aload_n X dX12_lane_52 (i := 0) rfl rfl ?_
        refine AW.iload_n X dX12_lane_53 (i := 2) rfl rfl ?_
        refine AW.callV X dX12_lane_54 lX12_269 cfX12 (c_X12_deepest W hT (by omega)) om0 rfl rfl rfl rfl ⟨rfl, rfl⟩ (pR_k ?_)
        refine AW.isub X dX12_lane_57 ?_
        refine AW.iret X hQ dX12_lane_58 ⟨_, rfl, ?_⟩
        exact rm_val (by simp [S_lane, *]) hR
      · refine AW.aload_n X dX12_lane_31 (i := 0) rfl rfl ?_
        refine AW.bipush X (v := -6) dX12_lane_32 rfl ?_
        refine AW.callV X dX12_lane_34 lX12_98 cfX12 (c_X12_no (k := 6) hR (by decide) (by decide)) om0 rfl rfl rfl rfl ⟨rfl, rfl⟩ (pI_k fun r μ1 hr => ?_)
        refine AW.sipushN X 1000 dX12_lane_37 rfl ?_
        refine AW.isub X dX12_lane_40 ?_
        refine AW.iret X hQ dX12_lane_41 ⟨_, rfl, ?_⟩
        obtain ⟨rfl, hR1⟩ := hr
        exact rm_val (S' := (ref S 6 0).2) (by rw [e1000]; simp [S_lane, *]) hR1
    · refine AW.aload_n X dX12_lane_16 (i := 0) rfl rfl ?_
      refine AW.iconst X (v := -1) dX12_lane_17 rfl ?_
      refine AW.callV X dX12_lane_18 lX12_98 cfX12 (c_X12_no (k := 1) hR (by decide) (by decide)) om0 rfl rfl rfl rfl ⟨rfl, rfl⟩ (pI_k fun r μ1 hr => ?_)
      refine AW.sipushN X 1000 dX12_lane_21 rfl ?_
      refine AW.isub X dX12_lane_24 ?_
      refine AW.iret X hQ dX12_lane_25 ⟨_, rfl, ?_⟩
      obtain ⟨rfl, hR1⟩ := hr
      exact rm_val (S' := (ref S 1 0).2) (by rw [e1000]; simp [S_lane, *]) hR1
set_option maxRecDepth 100000 in
set_option maxHeartbeats 4000000 in
theorem c_X12_isRow {l : Launch} {δ : Dl} {b : Nat} {μ : Mm} {S : St} (hR : RMX μ S) {s : Nat} (hs : s < 8) : MCM l δ b yX12_isRow cX12_isRow 2 (some .boolean) 1 [.ref (b + 0), .int (nI s)] μ (pI fun r μ' => r = bI (isRw S s) ∧ μ' = μ) := by
  have hT := rm_t hR
  have W := rm_w hR
  have bn := ti_n hT.1
  have bk := hR.1.2.2.1 s hs
  refine MC.intro ([some (.ref (b + 0)), some (.int (nI s))]) (by decide) rfl rfl fun κ Qc hl hQ X => ?_
  subst hl
  refine AW.aload_n X dX12_isRow_0 (i := 0) rfl rfl ?_
  refine AW.getR X dX12_isRow_1 fX12_7 rfl om0 (wm_at W 0 rfl) ?_
  refine AW.iload_n X dX12_isRow_4 (i := 1) rfl rfl ?_
  refine AW.iaload X dX12_isRow_5 (am_at 0 rfl) (n2_in (by omega) (by decide)) (v := (dn (kk S 0 s))) (by rw [n2_clamp (by omega)]; exact rm_held hR (by omega)) ?_
  refine AW.bipushN X 100 dX12_isRow_6 rfl ?_
  refine AW.icmp_lt X (tgt := 15) dX12_isRow_8 (by decide) (fun h8 => ?_) (fun h8 => ?_)
  · rw [dn_lt (by omega) (by omega)] at h8
    refine AW.iconstN X 0 dX12_isRow_15 rfl ?_
    refine AW.zret X rfl hQ dX12_isRow_16 ⟨_, rfl, ?_⟩
    have e : isRw S s = false := by simp [isRw]; omega
    exact ⟨by rw [e]; rfl, rfl⟩
  · rw [dn_lt (by omega) (by omega)] at h8
    refine AW.iconstN X 1 dX12_isRow_11 rfl ?_
    refine AW.goto X (tgt := 16) dX12_isRow_12 (by decide) ?_
    refine AW.zret X rfl hQ dX12_isRow_16 ⟨_, rfl, ?_⟩
    have e : isRw S s = true := by simp [isRw]; omega
    exact ⟨by rw [e]; rfl, rfl⟩
theorem inr_nf {a m : Nat} (hb : a < 2147483648 ∧ m < 2147483648) (h : m ≤ a) : inr (nI a) m = false := by rw [inr_n hb.1 hb.2]; exact decide_eq_false (by omega)
theorem inr_nt {a m : Nat} (hb : a < 2147483648 ∧ m < 2147483648) (h : a < m) : inr (nI a) m = true := by rw [inr_n hb.1 hb.2]; exact decide_eq_true h
theorem inr_neg {x : Int32} {m : Nat} (h : x < 0) : inr x m = false := decide_eq_false (fun z => Int32.not_lt.mpr z.1 h)
theorem dn_neg {a : Nat} (h : a < 1000000) : dn a < 0 ↔ a = 0 := by
  have := dn_lt (a := a) (c := 0) h (by decide)
  have e : nI 0 = (0 : Int32) := by decide
  rw [e] at this
  rw [this]
  omega
theorem rt_neg : ∀ r, r < 8 → (-(nI r) < 0 ↔ r ≠ 0) := by decide +kernel
set_option maxRecDepth 100000 in
set_option maxHeartbeats 4000000 in
theorem c_X12_noRow {l : Launch} {δ : Dl} {b : Nat} {μ : Mm} {S : St} (hR : RMX μ S) {x : Int32} : MCM l δ b yX12_noRow cX12_noRow 2 (some .int) 2 [.ref (b + 0), .int x] μ (pI fun r μ' => r = -(nI (rowT S x)) ∧ μ' = μ) := by
  have hT := rm_t hR
  have W := rm_w hR
  have bn := ti_n hT.1
  refine MC.intro ([some (.ref (b + 0)), some (.int x)]) (by decide) rfl rfl fun κ Qc hl hQ X => ?_
  subst hl
  refine AW.iload_n X dX12_noRow_0 (i := 1) rfl rfl ?_
  refine AW.iconstN X 0 dX12_noRow_1 rfl ?_
  refine AW.bipushN X 7 dX12_noRow_2 rfl ?_
  refine AW.callS X dX12_noRow_4 lX12_90 (c_within (m := 8) (dn_s 7).symm (by decide)) rfl rfl rfl rfl ⟨rfl, rfl⟩ (pR_k ?_)
  refine AW.if_neB X (tgt := 12) dX12_noRow_7 (by decide) (fun h7 => ?_) (fun h7 => ?_)
  · obtain ⟨s, hs, es⟩ := inr_of (x := x) (m := 8) (by omega) h7
    subst es
    have bk := hR.1.2.2.1 s hs
    have cs := cl_n (show s < 2147483648 by omega)
    refine AW.aload_n X dX12_noRow_12 (i := 0) rfl rfl ?_
    refine AW.getR X dX12_noRow_13 fX12_7 rfl om0 (wm_at W 0 rfl) ?_
    refine AW.iload_n X dX12_noRow_16 (i := 1) rfl rfl ?_
    refine AW.iaload X dX12_noRow_17 (am_at 0 rfl) (n2_in (by omega) (by decide)) (v := (dn (kk S 0 s))) (by rw [n2_clamp (by omega)]; exact rm_held hR (by omega)) ?_
    refine AW.if_lt X (tgt := 32) dX12_noRow_18 (by decide) (fun h18 => ?_) (fun h18 => ?_)
    · rw [dn_neg (by omega)] at h18
      refine AW.aload_n X dX12_noRow_32 (i := 0) rfl rfl ?_
      refine AW.getR X dX12_noRow_33 fX12_7 rfl om0 (wm_at W 0 rfl) ?_
      refine AW.iload_n X dX12_noRow_36 (i := 1) rfl rfl ?_
      refine AW.iaload X dX12_noRow_37 (am_at 0 rfl) (n2_in (by omega) (by decide)) (v := (dn (kk S 0 s))) (by rw [n2_clamp (by omega)]; exact rm_held hR (by omega)) ?_
      refine AW.if_ge X (tgt := 46) dX12_noRow_38 (by decide) (fun h38 => ?_) (fun h38 => ?_)
      · replace h38 := Int32.not_lt.mpr h38
        rw [dn_neg (by omega)] at h38
        refine AW.iconstN X 0 dX12_noRow_46 rfl ?_
        refine AW.iret X hQ dX12_noRow_47 ⟨_, rfl, ?_⟩
        refine ⟨?_, rfl⟩
        rw [show rowT S (nI s) = 0 from by unfold rowT; simp only [n2_clamp (show s < 2147483648 by omega)]; rw [if_neg (by simp [h7])]; rw [if_neg (by omega), if_pos (by omega)]]
        rfl
      · replace h38 := Int32.not_le.mp h38
        rw [dn_neg (by omega)] at h38
        refine AW.bipush X (v := -3) dX12_noRow_41 rfl ?_
        refine AW.goto X (tgt := 47) dX12_noRow_43 (by decide) ?_
        refine AW.iret X hQ dX12_noRow_47 ⟨_, rfl, ?_⟩
        refine ⟨?_, rfl⟩
        rw [show rowT S (nI s) = 3 from by unfold rowT; simp only [n2_clamp (show s < 2147483648 by omega)]; rw [if_neg (by simp [h7])]; rw [if_neg (by omega), if_neg (by omega)]]
        rfl
    · rw [dn_neg (by omega)] at h18
      refine AW.aload_n X dX12_noRow_21 (i := 0) rfl rfl ?_
      refine AW.iload_n X dX12_noRow_22 (i := 1) rfl rfl ?_
      refine AW.callV X dX12_noRow_23 lX12_102 cfX12 (c_X12_isRow hR (by omega)) om0 rfl rfl rfl rfl ⟨rfl, rfl⟩ (pR_k ?_)
      refine AW.if_neB X (tgt := 32) dX12_noRow_26 (by decide) (fun h26 => ?_) (fun h26 => ?_)
      · have g26 := isRw_t h26
        refine AW.aload_n X dX12_noRow_32 (i := 0) rfl rfl ?_
        refine AW.getR X dX12_noRow_33 fX12_7 rfl om0 (wm_at W 0 rfl) ?_
        refine AW.iload_n X dX12_noRow_36 (i := 1) rfl rfl ?_
        refine AW.iaload X dX12_noRow_37 (am_at 0 rfl) (n2_in (by omega) (by decide)) (v := (dn (kk S 0 s))) (by rw [n2_clamp (by omega)]; exact rm_held hR (by omega)) ?_
        refine AW.if_ge X (tgt := 46) dX12_noRow_38 (by decide) (fun h38 => ?_) (fun h38 => ?_)
        · replace h38 := Int32.not_lt.mpr h38
          rw [dn_neg (by omega)] at h38
          refine AW.iconstN X 0 dX12_noRow_46 rfl ?_
          refine AW.iret X hQ dX12_noRow_47 ⟨_, rfl, ?_⟩
          refine ⟨?_, rfl⟩
          rw [show rowT S (nI s) = 0 from by unfold rowT; simp only [n2_clamp (show s < 2147483648 by omega)]; rw [if_neg (by simp [h7])]; rw [if_neg (by omega), if_pos (by omega)]]
          rfl
        · replace h38 := Int32.not_le.mp h38
          rw [dn_neg (by omega)] at h38
          refine AW.bipush X (v := -3) dX12_noRow_41 rfl ?_
          refine AW.goto X (tgt := 47) dX12_noRow_43 (by decide) ?_
          refine AW.iret X hQ dX12_noRow_47 ⟨_, rfl, ?_⟩
          refine ⟨?_, rfl⟩
          rw [show rowT S (nI s) = 3 from by unfold rowT; simp only [n2_clamp (show s < 2147483648 by omega)]; rw [if_neg (by simp [h7])]; rw [if_neg (by omega), if_neg (by omega)]]
          rfl
      · have g26 := of_decide_eq_false h26
        refine AW.bipush X (v := -2) dX12_noRow_29 rfl ?_
        refine AW.iret X hQ dX12_noRow_31 ⟨_, rfl, ?_⟩
        refine ⟨?_, rfl⟩
        rw [show rowT S (nI s) = 2 from by unfold rowT; simp only [n2_clamp (show s < 2147483648 by omega)]; rw [if_neg (by simp [h7])]; rw [if_pos (by omega)]]
        rfl
  · refine AW.iconst X (v := -1) dX12_noRow_10 rfl ?_
    refine AW.iret X hQ dX12_noRow_11 ⟨_, rfl, ?_⟩
    refine ⟨?_, rfl⟩
    rw [show rowT S x = 1 from by unfold rowT; rw [if_pos h7]]
    rfl
set_option maxRecDepth 100000 in
set_option maxHeartbeats 4000000 in
theorem c_X12_holds {l : Launch} {δ : Dl} {b : Nat} {μ : Mm} {S : St} (hR : RMX μ S) {x : Int32} : MCM l δ b yX12_holds cX12_holds 2 (some .int) 2 [.ref (b + 0), .int x] μ (pI fun r μ' => r = S_holds S x ∧ μ' = μ) := by
  have hT := rm_t hR
  have W := rm_w hR
  have bn := ti_n hT.1
  refine MC.intro ([some (.ref (b + 0)), some (.int x)]) (by decide) rfl rfl fun κ Qc hl hQ X => ?_
  subst hl
  refine AW.iload_n X dX12_holds_0 (i := 1) rfl rfl ?_
  refine AW.iconstN X 0 dX12_holds_1 rfl ?_
  refine AW.bipushN X 7 dX12_holds_2 rfl ?_
  refine AW.callS X dX12_holds_4 lX12_90 (c_within (m := 8) (dn_s 7).symm (by decide)) rfl rfl rfl rfl ⟨rfl, rfl⟩ (pR_k ?_)
  refine AW.if_eqB X (tgt := 19) dX12_holds_7 (by decide) (fun h7 => ?_) (fun h7 => ?_)
  · refine AW.iconst X (v := -1) dX12_holds_19 rfl ?_
    refine AW.iret X hQ dX12_holds_20 ⟨_, rfl, ?_⟩
    exact ⟨by simp [S_holds, *], rfl⟩
  · obtain ⟨s, hs, es⟩ := inr_of (x := x) (m := 8) (by omega) h7
    subst es
    have cs := cl_n (show s < 2147483648 by omega)
    refine AW.aload_n X dX12_holds_10 (i := 0) rfl rfl ?_
    refine AW.getR X dX12_holds_11 fX12_7 rfl om0 (wm_at W 0 rfl) ?_
    refine AW.iload_n X dX12_holds_14 (i := 1) rfl rfl ?_
    refine AW.iaload X dX12_holds_15 (am_at 0 rfl) (n2_in (by omega) (by decide)) (v := (dn (kk S 0 s))) (by rw [n2_clamp (by omega)]; exact rm_held hR (by omega)) ?_
    refine AW.goto X (tgt := 20) dX12_holds_16 (by decide) ?_
    refine AW.iret X hQ dX12_holds_20 ⟨_, rfl, ?_⟩
    exact ⟨by simp [S_holds, *], rfl⟩
set_option maxRecDepth 100000 in
set_option maxHeartbeats 4000000 in
theorem c_X12_trace {l : Launch} {δ : Dl} {b : Nat} {μ : Mm} {S : St} (hR : RMX μ S) {xa : Int32} : MCM l δ b yX12_trace cX12_trace 2 (some .int) 1 [.ref (b + 0), .int xa] μ (pI fun r μ' => r = S_trace S xa ∧ μ' = μ) := by
  have hT := rm_t hR
  have W := rm_w hR
  have bn := ti_n hT.1
  have bq := hR.1.2.2.2.2.2
  refine MC.intro ([some (.ref (b + 0)), some (.int xa)]) (by decide) rfl rfl fun κ Qc hl hQ X => ?_
  subst hl
  refine AW.iload_n X dX12_trace_0 (i := 1) rfl rfl ?_
  refine AW.if_lt X (tgt := 27) dX12_trace_1 (by decide) (fun h1 => ?_) (fun h1 => ?_)
  · have g1 : inr xa (kk S 3 2) = false := inr_neg h1
    refine AW.iconst X (v := -1) dX12_trace_27 rfl ?_
    refine AW.iret X hQ dX12_trace_28 ⟨_, rfl, ?_⟩
    exact ⟨by simp [S_trace, *], rfl⟩
  · obtain ⟨jx, hjx, ejx⟩ := nI_of h1
    subst ejx
    have cjx := cl_n (show jx < 2147483648 by omega)
    refine AW.iload_n X dX12_trace_4 (i := 1) rfl rfl ?_
    refine AW.aload_n X dX12_trace_5 (i := 0) rfl rfl ?_
    refine AW.getI X dX12_trace_6 fX12_282 rfl om0 (rm_ran hR) ?_
    refine AW.icmp_geN X (tgt := 27) dX12_trace_9 (by decide) (by omega) (by omega) (fun h9 => ?_) (fun h9 => ?_)
    · have g9 : inr (nI jx) (kk S 3 2) = false := inr_nf (by omega) h9
      have n9 := Nat.not_lt_of_le h9
      refine AW.iconst X (v := -1) dX12_trace_27 rfl ?_
      refine AW.iret X hQ dX12_trace_28 ⟨_, rfl, ?_⟩
      exact ⟨by simp [S_trace, *], rfl⟩
    · have g9 : inr (nI jx) (kk S 3 2) = true := inr_nt (by omega) h9
      have n9 := Nat.not_le_of_lt h9
      refine AW.iload_n X dX12_trace_12 (i := 1) rfl rfl ?_
      refine AW.bipushN X 20 dX12_trace_13 rfl ?_
      refine AW.icmp_geN X (tgt := 27) dX12_trace_15 (by decide) (by omega) (by omega) (fun h15 => ?_) (fun h15 => ?_)
      · have g15 : nI 20 < nI jx ∨ nI jx = nI 20 := by rw [n2_lt (by decide) (by omega), n2_eq (by omega) (by decide)]; omega
        have n15 := Nat.not_lt_of_le h15
        refine AW.iconst X (v := -1) dX12_trace_27 rfl ?_
        refine AW.iret X hQ dX12_trace_28 ⟨_, rfl, ?_⟩
        exact ⟨by simp [S_trace, *], rfl⟩
      · have g15 : ¬ (nI 20 < nI jx ∨ nI jx = nI 20) := by rw [n2_lt (by decide) (by omega), n2_eq (by omega) (by decide)]; omega
        have n15 := Nat.not_le_of_lt h15
        refine AW.aload_n X dX12_trace_18 (i := 0) rfl rfl ?_
        refine AW.getR X dX12_trace_19 fX12_56 rfl om0 (wm_at W 15 rfl) ?_
        refine AW.iload_n X dX12_trace_22 (i := 1) rfl rfl ?_
        refine AW.iaload X dX12_trace_23 (am_at 15 rfl) (n2_in (by omega) (by decide)) (v := (nI (kk S 4 jx))) (by rw [n2_clamp (by omega)]; exact rm_body hR (by omega) (by omega)) ?_
        refine AW.goto X (tgt := 28) dX12_trace_24 (by decide) ?_
        refine AW.iret X hQ dX12_trace_28 ⟨_, rfl, ?_⟩
        exact ⟨by simp [S_trace, *], rfl⟩
