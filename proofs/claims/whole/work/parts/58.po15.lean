/-! super.m(..) where the superclass has m from its own superclass -/
section SUX
variable {p : Program} {l : Launch} {e : Env} {R : Room} {s : State} {m : MethodId} {args : Array Value} {below : List Frame} {meth : Method} {c : Code} {H : Heap} {locs : List Loc} {cells slots : Nat}
theorem sx_run {x : MethodName} {owner C own : String} {cc bytes : ByteArray} {maxL nL mc ms n index : Nat} {ret : Option FieldType} {ws : List Cond} {rm : Room} {Pc : Array Value → State → Prop} {Qc : Array Value → State → Outcome → State → Prop} {free : Addr → Prop} {Ts : List Cond} {cC : ClassId} {ba : Addr} {As rest : List Value} {g : JFrame}
    (hat : ClassAt s C cC) (S : CallFix p m c cc nL s args Ts own) (hM : Met l ⟨owner, x.name, x.desc⟩ ws rm Pc Qc mc ms free) (hrc : rm.cells = mc) (hrs : rm.slots = ms) (hfit : rm.frames + 1 ≤ R.frames ∧ 8 + (maxL + 11) + rm.locals ≤ R.locals)
    (hws : ∀ w ∈ ws, ∀ (a' : Array Value) (U : State), s.WarmedH U.vm → w.before a' U = true) (hcw : Cond.code ⟨owner, x.name, x.desc⟩ bytes maxL ret ∈ ws)
    (w1 : Cond.methodLink own index x ∈ Ts) (w2 : Cond.sameMethod x.cls owner x.name x.desc ∈ Ts) (w3 : Cond.superclass own x.cls ∈ Ts) (w4 : Cond.superclass x.cls owner ∈ Ts) (w5 : Cond.instanceMethod ⟨owner, x.name, x.desc⟩ ∈ Ts) (w6 : Cond.initialized owner ∈ Ts) (w7 : Cond.code ⟨owner, x.name, x.desc⟩ bytes maxL ret ∈ Ts)
    (hno : x.name ≠ "<init>") (hlen : (parseMethodDescriptor x.desc).map (fun d => d.parameters.length) = some n) (hp : PreV s H C ba Pc As)
    (hg : g.method = m) (hn : As.length = n) (hsize : g.locals.size = nL) (hstack : g.stack = As.reverse ++ .ref ba :: rest) (hW : 2 * g.monitorRoom + (rest.map fun v => v.category).sum ≤ 8) (hdg : decode cc g.pc = .ok (.invokespecial index, 3)) (hf : cells + mc ≤ R.cells ∧ slots + ms ≤ R.slots) :
    va_Run p l e R s m args below meth c H locs cells slots mc ms g rest (Qc (Value.ref ba :: As).toArray) (free) := by
  obtain ⟨hx, hb, hml, ho, hts⟩ := S
  have hK : Back l R p e below s args ⟨owner, x.name, x.desc⟩ 3 8 (PreOf R mc ms Pc) (PostOf Qc mc ms free) := back_of (bytes := bytes) (maxL := maxL) (ret := ret) hM hp.1 hrc hrs hfit.1 hfit.2 hws hcw (fun a' U hW => word_at hW (Or.inl (by first | rfl | simp [Cond.onTables, Cond.keeps, Cond.steady])) (hts _ w6))
  obtain ⟨-, ⟨cellB, hcB, hoB, hclB⟩, hPc⟩ := hp
  obtain ⟨hfc, kB, hkB, -⟩ := hat
  cases hfc.symm.trans hclB
  intro T hT X
  obtain ⟨mk, methM, hnamed, hmethM, hstM, habM⟩ := Cond.instanceMethod_spec (hts _ w5)
  obtain ⟨methM', cM, hmethM', -, -, -, -, -, -, hsigM⟩ := Cond.code_spec hnamed (hts _ w7)
  cases hmethM.symm.trans hmethM'
  obtain ⟨ps, dk, kp, hps, hdk, hkp, hsuper, -, -, hnid⟩ := Cond.superclass_spec ho (hts _ w3)
  obtain ⟨po, dk2, kp2, hpo, hdk2, hkp2, hsuper2, -, -, -⟩ := Cond.superclass_spec hps (hts _ w4)
  have hn2 : s.methodNamed? ⟨owner, x.name, x.desc⟩ = some mk := hnamed
  have hpm : po = mk.cls := Option.some.inj (hpo.symm.trans (findClass_of_methodNamed hnamed))
  have hsub : s.vm.isSubclass ps mk.cls = true := by
    rw [← hpm]
    have hsz : 0 < s.vm.classes.size := Nat.lt_of_le_of_lt (Nat.zero_le _) (Array.getElem?_eq_some_iff.mp hdk2).1
    obtain ⟨z, hz⟩ : ∃ z, s.vm.classes.size = z + 1 := ⟨s.vm.classes.size - 1, by omega⟩
    unfold Vm.isSubclass
    rw [hz]
    simp [Vm.isSubclassAux, hdk2, hsuper2]
  have hlen2 : As.length = methM.sig.parameters.length := by
    rw [hsigM] at hlen
    exact hn.trans (Option.some.inj hlen).symm
  obtain ⟨vm₁, X₁, hstep₁⟩ := X.invokespecialUp hx ho (hts _ w1) (hts _ w2) hn2 hmethM hstM habM hno hdk hnid hps hsuper hsub (a := ba) (cell := cellB) (by rw [hT]; exact hcB) (fun z h => by rw [h] at hoB; cases hoB) hkB (g := g) hg (argsL := As) (rest := rest) hlen2 hstack (by rw [hb]; exact hdg)
  obtain ⟨v, ⟨U', l2, c2, s2⟩, X', ⟨g', mk', t, L, e1, e2, hq, h1, hL, h2, h3⟩, hsteps⟩ := hK m meth c ⟨T.setVm vm₁, locs, cells, slots⟩ { g with stack := rest } (.invokespecial index) mk (Value.ref ba :: As).toArray X₁ hg (hsize.trans hml.symm) (by rw [hb]; exact hdg) hW (X₁.named hnamed) ⟨hf.1, hf.2, hPc (T.setVm vm₁) hT X₁.warmed⟩
  dsimp only [Pt.U, Pt.locs, Pt.cells, Pt.slots] at X' e1 e2 h1 h2 h3 hsteps
  subst h1; subst h2; subst h3
  exact ⟨v, (T.setVm vm₁).calling g' mk' (Value.ref ba :: As).toArray, t, U', L, hT, X', hL, e1, e2, hq, fun target h => hstep₁ _ (by rw [doInvoke_state]; exact hsteps.trans h)⟩
end SUX
section CALLX
variable {κ : Kt} {δ : Dl} {b n nL : Nat} {sh : Sh} {tp : Prop} {Qc : Array Value → State → Outcome → State → Prop} {mc ms d : Nat} {own nm : String} {cc : ByteArray} {ret : Option FieldType} {N cells slots pc : Nat} {ls : List (Option Value)} {st st0 : List Value} {μ : Mm}
variable {idx : Nat} {x y' : MethodName} {bytes : ByteArray} {maxL : Nat} {ret' : Option FieldType} {d' mc' ms' N2 k0 : Nat} {av : List Value} {post : Option Value → Mm → Prop}
/-- super.x, which the superclass has from its own -/
def LSX (own : String) (idx : Nat) (x y' : MethodName) (bytes : ByteArray) (maxL : Nat) (ret' : Option FieldType) (k0 : Nat) : Prop :=
  Cond.methodLink own idx x ∈ TT ∧ Cond.sameMethod x.cls y'.cls x.name x.desc ∈ TT ∧ Cond.superclass own x.cls ∈ TT ∧ Cond.superclass x.cls y'.cls ∈ TT ∧ Cond.instanceMethod y' ∈ TT ∧ Cond.initialized y'.cls ∈ TT ∧ Cond.code y' bytes maxL ret' ∈ TT ∧ maxL ≤ 45 ∧ (y' = ⟨y'.cls, x.name, x.desc⟩ ∧ x.name ≠ "<init>" ∧ (parseMethodDescriptor x.desc).map (fun d => d.parameters.length) = some k0)
theorem AW.callSX (X : CX κ (δ, b, n, nL, sh, tp, Qc, mc, ms) own nm cc ret d) {C : String} {T : u_T} {o ci : Nat} (hd : decode cc pc = .ok (.invokespecial idx, 3)) (L : LSX own idx x y' bytes maxL ret' k0) (hC : CF ci C T) (hM : MC κ.2.1 δ b n sh tp y' bytes maxL ret' d' mc' ms' N N2 (.ref (b + o) :: av) μ post) (ho : OB sh N o ci) (hav : av.length = k0) (hst : st0 = av.reverse ++ .ref (b + o) :: st) (hcat : Nat.ble (st.map fun v => v.category).sum 8 = true) (hd' : Nat.ble (d' + 1) d = true) (hr : Nat.ble (cells + mc') mc = true ∧ Nat.ble (slots + ms') ms = true)
    (kk : ∀ (v : Option Value) (μ' : Mm), post v μ' → AW κ (δ, b, n, nL, sh, tp, Qc, mc, ms) N2 (cells + mc') (slots + ms') (pc + 3) ls (v.toList ++ st) μ') : AW κ (δ, b, n, nL, sh, tp, Qc, mc, ms) N cells slots pc ls st0 μ := by
  obtain ⟨p, l, e, R, s, m, args, below, meth, c⟩ := κ
  intro H locs lsr hP hT hS h
  subst hst
  obtain ⟨x1, x2, x3, x4, hts, x6, x7, x8, hK, hKS, hR⟩ := X
  obtain ⟨l1, l2, l3, l4, l5, l6, l7, l8, l9, l10, l11⟩ := L
  subst hR
  obtain ⟨yc, yn, yd⟩ := y'
  cases l9
  have fit := rm_fit (mc := mc) (ms := ms) (mc' := mc') (ms' := ms') (Nat.le_of_ble_eq_true hd') l8
  refine run_core (sx_run (As := av) (rest := st) (hK.1.1 ci _ hC.1).2 ⟨x1, x2, x3, x4, hts⟩ hM rfl rfl fit (pay_in hts (fun w hw => ?_)) ?_ l1 l2 l3 l4 l5 l6 l7 l10 l11 ⟨pc_blind _ _ _ _, va_recv hK.1 hP hC.1 (ob_get ho), fun U hU hW => ⟨rfl, by rw [hU]; exact hP, by rw [hU]; exact hT, KX.warm hW hK, KS.at hKS hS hU hW⟩⟩ rfl hav h.1 rfl (cat_fit (Nat.le_of_ble_eq_true hcat)) hd ⟨Nat.le_of_ble_eq_true hr.1, Nat.le_of_ble_eq_true hr.2⟩) hS (fun v μ' H1 locs1 hp hP1 hT1 hS1 => kk v μ' hp H1 locs1 lsr hP1 hT1 hS1 h)
  · have key : w ∈ TT := by
      simp only [List.mem_cons] at hw
      rcases hw with rfl | hw <;> assumption
    exact ⟨key, tt_good key⟩
  · exact List.mem_cons_self
end CALLX
set_option maxRecDepth 100000 in
theorem lX0_17 : LSX RX0 17 ⟨"PaintedOver$Limed", "actPaints", "(LPaintedOver$Trace;I)I"⟩ yX4_actPaints cX4_actPaints 3 (some .int) 2 := ⟨tt_c4 110 (by decide +kernel) rfl, tt_c4 111 (by decide +kernel) rfl, tt_c1 136 (by decide +kernel) rfl, tt_c1 108 (by decide +kernel) rfl, tt_c4 100 (by decide +kernel) rfl, tt_c1 4 (by decide +kernel) rfl, tt_c4 126 rfl rfl, by decide, rfl, by decide +kernel⟩
set_option maxRecDepth 100000 in
theorem lX1_19 : LSX RX1 19 ⟨"PaintedOver$Damp", "actPeels", "(LPaintedOver$Trace;I)I"⟩ yX4_actPeels cX4_actPeels 3 (some .int) 2 := ⟨tt_c4 144 (by decide +kernel) rfl, tt_c4 145 (by decide +kernel) rfl, tt_c1 115 (by decide +kernel) rfl, tt_c1 101 (by decide +kernel) rfl, tt_c4 129 (by decide +kernel) rfl, tt_c1 4 (by decide +kernel) rfl, tt_c4 151 rfl rfl, by decide, rfl, by decide +kernel⟩
set_option maxRecDepth 100000 in
theorem lX8_19 : LSX RX8 19 ⟨"PaintedOver$Limed", "actFalls", "(LPaintedOver$Trace;I)I"⟩ yX4_actFalls cX4_actFalls 3 (some .int) 2 := ⟨tt_c4 169 (by decide +kernel) rfl, tt_c4 170 (by decide +kernel) rfl, tt_c1 129 (by decide +kernel) rfl, tt_c1 108 (by decide +kernel) rfl, tt_c4 154 (by decide +kernel) rfl, tt_c1 4 (by decide +kernel) rfl, tt_c4 172 rfl rfl, by decide, rfl, by decide +kernel⟩
