theorem ty_PT.blind {cn : Nat → Nat} {D : va_G} {ad : Nat → Nat → Nat} {cA : Nat → ClassId} {σ : ty_St} {As : List ty_SV} : FrameBlind (ty_PT cn D ad cA σ As) := fun a U g mk h => ⟨ty_P.blind a U g mk h.1, th_W.calling h.2⟩
section MTX
variable {l : Launch} {y' : MethodName} {ws : List Cond} {rm : Room} {cn : Nat → Nat} {D : va_G} {ad : Nat → Nat → Nat} {cA : Nat → ClassId} {As : List ty_SV} {σ : ty_St} {y : Int32 × Int32 × ty_St} {cI cB : Int32}
theorem ty_MT.met (h : ty_MT l y' ws rm cn D ad cA As σ y cI cB) (h0 : y.1 = 0) (hI : ¬ (0 : Int32) = cI) (hB : ¬ (0 : Int32) = cB) : Met l y' ws rm (ty_PT cn D ad cA σ As) (ty_Q cn D ad cA (fun r σ' => r = some (.inl y.2.1) ∧ σ' = y.2.2) (ty_A cn ad)) 1 6 (ty_A cn ad) := by
  refine MetFree.mono h (fun _ _ z => z) (fun _ _ _ _ _ z => z) (fun a s o t _ q => ?_)
  rcases q with q | q | q
  · exact ⟨q.2.1, q.2.2⟩
  · exact absurd (h0.symm.trans q.1) hI
  · exact absurd (h0.symm.trans q.1) hB
theorem ty_MT.thrA (h : ty_MT l y' ws rm cn D ad cA As σ y cI cB) (h0 : y.1 = cI) (hI : ¬ cI = 0) (hB : ¬ cI = cB) : MetFree l y' (headSpec ws rm) (ty_PT cn D ad cA σ As) (fun _ _ _ _ _ => True) (fun _ s o t => ty_T th_IA s o t) := by
  refine MetFree.mono h (fun _ _ z => z) (fun _ _ _ _ _ z => z) (fun a s o t _ q => ?_)
  rcases q with q | q | q
  · exact absurd (h0.symm.trans q.1) hI
  · exact q.2
  · exact absurd (h0.symm.trans q.1) hB
theorem ty_MT.thrB (h : ty_MT l y' ws rm cn D ad cA As σ y cI cB) (h0 : y.1 = cB) (hI : ¬ cB = 0) (hB : ¬ cB = cI) : MetFree l y' (headSpec ws rm) (ty_PT cn D ad cA σ As) (fun _ _ _ _ _ => True) (fun _ s o t => ty_T th_IB s o t) := by
  refine MetFree.mono h (fun _ _ z => z) (fun _ _ _ _ _ z => z) (fun a s o t _ q => ?_)
  rcases q with q | q | q
  · exact absurd (h0.symm.trans q.1) hI
  · exact absurd (h0.symm.trans q.1) hB
  · exact q.2
end MTX
/-- the one kind of throw isn't the other -/
def th_NC (U : State) : Prop := ∃ cB cI, U.vm.findClass th_IB = some cB ∧ U.vm.findClass th_IA = some cI ∧ U.vm.assignable cB cI = false
theorem th_NC.moved {u U : State} (hvm : u.vm.Alike U.vm) (h : th_NC u) : th_NC U := by
  obtain ⟨cB, cI, h1, h2, h3⟩ := h
  exact ⟨cB, cI, by rw [hvm.findClass]; exact h1, by rw [hvm.findClass]; exact h2, by rw [hvm.assignable]; exact h3⟩
section WTH
variable {p : Program} {l : Launch} {e : Env} {R : Room} {s : State} {m : MethodId} {args : Array Value} {below : List Frame} {meth : Method} {c : Code} {H : Heap} {locs : List Loc} {cells slots : Nat} {Q : State → Prop} {cc : ByteArray} {pc nL : Nat} {ls : Array Slot} {rest : List Value} {own : String}
set_option maxHeartbeats 4000000 in
/-- a call that throws: the caller's frame, with the note of the throw over it -/
theorem sx_call {U : State} (X : Stand p l e R s m args below meth c U locs cells slots) {y : MethodName} {bytes : ByteArray} {maxL : Nat} {ret : Option FieldType} {ws : List Cond} {rm : Room} {Pc : Array Value → State → Prop} {Xc : String}
    (hM : MetFree l y (headSpec ws rm) Pc (fun _ _ _ _ _ => True) (fun _ s o t => ty_T Xc s o t)) {g : JFrame} {ig : Instr} {len : Nat} (hg : g.method = m) (hsize : g.locals.size = c.maxLocals) (hdg : decode c.code g.pc = .ok (ig, len)) (hW : 2 * g.monitorRoom + (g.stack.map fun v => v.category).sum ≤ 8) {mk : MethodId} (hn : U.methodNamed? y = some mk) {a : Array Value}
    (hpre : (headSpec ws rm).pre.before a U = true) (hcode : (Cond.code y bytes maxL ret).before a U = true) (hinit : (Cond.initialized y.cls).before a U = true) (hR : rm.frames + 1 ≤ R.frames ∧ 8 + (maxL + 11) + rm.locals ≤ R.locals ∧ cells + rm.cells ≤ R.cells ∧ slots + rm.slots ≤ R.slots) (hPc : Pc a (U.calling g mk a)) :
    ∃ (v : Addr) (ce : Cell) (U' : State), Stand p l e R s m args below meth c U' locs (cells + 1) (slots + 6) ∧ (∀ q : Nat, q < U.heap.size → U'.heap[q]? = U.heap[q]?) ∧ U.heap.size ≤ U'.heap.size ∧ U'.heap[v]? = some ce ∧ ce.vm = .none ∧ U.vm.findClass Xc = some ce.cls ∧
      Steps p.tables e below (doInvoke e (U.setTop g) [] mk a).1 ((U'.setTop g).pushFrame (.throwing v)) := by
  obtain ⟨methY, cY, hmY, hcY, -, hlY, -, -, -, -⟩ := Cond.code_spec hn hcode
  obtain ⟨kY, hkY, -⟩ := className_of_methodNamed hn
  have hinitY : kY.init = .initialized := Cond.initialized_spec (findClass_of_methodNamed hn) hkY hinit
  have h : At U g.method c below := by rw [hg]; exact X.here
  have happ : (headSpec ws rm).appliesLoose y e.platform (U.calling g mk a) = true :=
    Spec.appliesLoose_calling (g := g) h hdg hn hkY hinitY (X.room_calling (g := g) (R' := rm) hsize hmY hcY hR.1 (by rw [hlY]; omega) hR.2.2.1 hR.2.2.2) hpre
  obtain ⟨mid, hmid⟩ := h.above
  have hfr : (U.setTop g).frames = (.java g :: mid) ++ below := by rw [State.frames_setTop' g h.top, hmid]; rfl
  obtain ⟨o, s₂, hsteps, -, hend, hq⟩ := Steps.callFree hM p X.admits X.cas X.clock (acts := []) hfr happ hPc trivial
  have hq' : ty_T Xc (U.calling g mk a) o s₂ := hq
  rw [State.frames_setTop' g h.top] at hend
  obtain ⟨v, ce, rfl, hge, hce, hcv, hcX, hWm, hsm⟩ := hq'
  obtain ⟨e2, q2, q3, q4, q5, q6⟩ := id hsm
  have e3 : s₂ = ({ (U.calling g mk a).setFrames s₂.frames with heap := s₂.heap, slotsUsed := s₂.slotsUsed } : State).setVm s₂.vm := by
    have : s₂ = ({ s₂ with vm := (U.calling g mk a).vm } : State).setVm s₂.vm := rfl
    rw [e2] at this
    exact this
  have hf₂ : s₂.frames = .throwing v :: .java g :: U.frames.tail := hend
  have hW' : U.WarmedH s₂.vm := hWm
  obtain ⟨g₀, hg0⟩ := Option.isSome_iff_exists.mp h.top
  obtain ⟨r, hr⟩ := State.topJava?_eq_some.mp hg0
  obtain ⟨U', hU'⟩ : ∃ u : State, u = (({ U with heap := s₂.heap, slotsUsed := s₂.slotsUsed } : State).setVm s₂.vm) := ⟨_, rfl⟩
  have hr' : U'.frames = .java g₀ :: r := by rw [hU']; exact hr
  have hs₂ : s₂ = (U'.setTop g).pushFrame (.throwing v) := by
    refine e3.trans ?_
    rw [hf₂, State.calling_eq h.top, State.setFrames_setFrames, State.pushFrame, State.frames_setTop _ hr', State.setTop_of_frames _ hr', State.setFrames_setFrames, hr, hU']
    rfl
  have hsame : U.sameButNew ({ U with heap := s₂.heap, slotsUsed := s₂.slotsUsed } : State) [] 1 6 := by
    refine ⟨?_, q2, q3, q4, q5, q6⟩
    obtain ⟨t, ht, -⟩ := State.frames_cons hr
    show ({ U with heap := s₂.heap, slotsUsed := s₂.slotsUsed } : State) = { U.setFrames U.frames with heap := s₂.heap, slotsUsed := s₂.slotsUsed }
    rw [State.setFrames_self ht]
  have XU : Stand p l e R s m args below meth c U' (locs ++ []) (cells + 1) (slots + 6) := by
    subst hg
    rw [hU']
    exact ⟨X.admits, X.cas, X.clock, X.frames, X.room, X.hears, X.method, X.code, (X.here.setHeapUsed s₂.heap s₂.slotsUsed).setVm hW'.alike, X.tail, State.WarmedH.trans X.warmed hW', X.limits, X.bytes, X.same.trans (hsame.setVm s.vm)⟩
  rw [List.append_nil] at XU
  have hh : U'.heap = s₂.heap := by rw [hU']; rfl
  refine ⟨v, ce, U', XU, fun q hq => ?_, by rw [hh]; exact q2, by rw [hh]; exact hce, hcv, hcX, by rw [← hs₂]; exact hsteps⟩
  have hc : U.heap[q]? = some (U.heap[q]'hq) := Array.getElem?_eq_getElem hq
  rw [hh]
  exact (hsm.old_cell hc).trans hc.symm
set_option maxHeartbeats 4000000 in
theorem w_throws (hx : p.tables.exec = Jvm.exec) (hb : c.code = cc) (hml : c.maxLocals = nL) (hsz : ls.size = nL) (hown : s.vm.findClass own = some m.cls) (hts : ∀ w ∈ ty_w, w.before args s = true) {X C : String} {y : MethodName} {bytes : ByteArray} {maxL idx n : Nat} {ret : Option FieldType} {rm : Room} {Pc : Array Value → State → Prop} {b : Nat} {As : List Value} {cellB : Cell}
    (hM : MetFree l y (headSpec (Cond.code y bytes maxL ret :: ty_w) rm) Pc (fun _ _ _ _ _ => True) (fun _ s o t => ty_T X s o t)) (hblind : FrameBlind Pc) (hPc : ∀ U : State, U.heap = H → s.WarmedH U.vm → Pc (Value.ref b :: As).toArray U)
    (hcell : H[b]? = some cellB) (hobj : cellB.vm.isStatics = false) (hcls : s.vm.findClass C = some cellB.cls)
    (hw : Cond.methodLink own idx y ∈ ty_w ∧ Cond.instanceMethod y ∈ ty_w ∧ Cond.selects C y y ∈ ty_w ∧ Cond.initialized y.cls ∈ ty_w ∧ Cond.code y bytes maxL ret ∈ ty_w)
    (hd : y.cls ≠ "java/lang/invoke/MethodHandle" ∧ y.cls ≠ "java/lang/invoke/VarHandle" ∧ (parseMethodDescriptor y.desc).map (fun d => d.parameters.length) = some n) (hn : As.length = n)
    (hR : rm.frames + 1 ≤ R.frames ∧ 8 + (maxL + 11) + rm.locals ≤ R.locals ∧ cells + rm.cells ≤ R.cells ∧ slots + rm.slots ≤ R.slots) (hrest : (rest.map fun v => v.category).sum ≤ 8)
    {stk : List Value} (hstk : stk = As.reverse ++ .ref b :: rest) (d : decode cc pc = .ok (.invokevirtual idx, 3))
    {x : ExceptionTableEntry} (hrows : (∃ post, c.exceptionTable.toList = x :: post) ∨ ∃ z post nz cX cz, c.exceptionTable.toList = z :: x :: post ∧ covers z pc = true ∧ z.catchType ≠ 0 ∧ Cond.classLink own z.catchType nz ∈ ty_w ∧ s.vm.findClass X = some cX ∧ s.vm.findClass nz = some cz ∧ s.vm.assignable cX cz = false) (hcov : covers x pc = true) (h0 : x.catchType ≠ 0) (hlink : Cond.classLink own x.catchType X ∈ ty_w) (hcast : va_Nw (.castable X X) s)
    (kk : ∀ (H1 : Heap) (a : Nat), (∀ q : Nat, q < H.size → H1[q]? = H[q]?) → H.size ≤ H1.size → W p l e R s m args below meth c H1 locs (cells + 1) (slots + 6) Q (F0 m x.handlerPc ls [.ref a])) :
    W p l e R s m args below meth c H locs cells slots Q (F0 m pc ls stk) := by
  subst hstk
  intro T hT X0
  have hlen : ∀ sig, parseMethodDescriptor y.desc = some sig → As.length = sig.parameters.length := fun sig h => by
    have := hd.2.2
    rw [h] at this
    simp at this
    rw [hn, ← this]
  obtain ⟨mk, methM, hnamed, hmethM, hstM, habM⟩ := Cond.instanceMethod_spec (hts _ hw.2.1)
  obtain ⟨methM', cM, hmethM', -, -, -, -, -, -, hsigM⟩ := Cond.code_spec hnamed (hts _ hw.2.2.2.2)
  cases hmethM.symm.trans hmethM'
  obtain ⟨c2, r2, m2, q1, q2, q3, q4, kP, hkP, hkPi⟩ := Cond.selects_spec (hts _ hw.2.2.1)
  cases hcls.symm.trans q1
  cases (State.methodFound?_of_named hnamed ⟨hd.1, hd.2.1⟩).symm.trans q2
  cases hnamed.symm.trans q3
  have hselP : selectMethod e.platform s.vm cellB.cls mk = .method mk := by rw [Launch.admits_selectMethod X0.admits]; exact q4
  obtain ⟨vm₁, X₁, hstep₁⟩ := X0.invokevirtual hx hown (hts _ hw.1) hnamed hmethM hstM hkP hkPi ⟨hd.1, hd.2.1⟩ (a := b) (cell := cellB) (by rw [hT]; exact hcell)
    (fun z h => by rw [h] at hobj; cases hobj) hselP hmethM habM hkP hkPi (g := F0 m pc ls (As.reverse ++ .ref b :: rest)) rfl (argsL := As) (rest := rest) (hlen _ hsigM) rfl (by rw [hb]; exact d)
  have hwd : ∀ w ∈ ty_w, w.before (Value.ref b :: As).toArray (T.setVm vm₁) = true := fun w hw => word_at X₁.warmed (ty_good w hw) (hts w hw)
  obtain ⟨v, ce, U', X', k1, k2, hce, hcv, hcX, hsteps⟩ := sx_call X₁ (bytes := bytes) (maxL := maxL) (ret := ret) hM (g := F0 m pc ls rest) rfl (by rw [hml]; exact hsz) (by rw [hb]; exact d) (by
    show 2 * (F0 m pc ls rest).monitorRoom + (rest.map fun v => v.category).sum ≤ 8
    have : JFrame.monitorRoom (F0 m pc ls rest) = 0 := rfl
    rw [this]; omega) (X₁.named hnamed) (a := (Value.ref b :: As).toArray) (atoms_intro fun w hw' => by
      rcases List.mem_cons.mp hw' with h | h
      · rw [h]; exact hwd _ hw.2.2.2.2
      · exact hwd w h) (hwd _ hw.2.2.2.2) (hwd _ hw.2.2.2.1) hR (hblind _ _ _ _ (hPc (T.setVm vm₁) hT X₁.warmed))
  have hcome : Steps p.tables e below (T.setTop (F0 m pc ls (As.reverse ++ .ref b :: rest))) ((U'.setTop (F0 m pc ls rest)).pushFrame (.throwing v)) := hstep₁ _ fun acts => by rw [doInvoke_state]; exact hsteps
  have hcX' : s.vm.findClass X = some ce.cls := by
    have h9 : (T.setVm vm₁).vm.findClass X = s.vm.findClass X := X₁.warmed.alike.findClass _ _
    rw [← h9]; exact hcX
  have hpl : e.platform.magicAccessors = ({} : Platform).magicAccessors := by rw [X0.admits.platform]
  obtain ⟨c3, c4, hc3, hc4, hasg⟩ := Cond.castable_spec (va_Nw.use (A := args) rfl hcast)
  cases Option.some.inj (hc3.symm.trans hcX')
  cases Option.some.inj (hc4.symm.trans hcX')
  obtain ⟨c5, hc5, hcl5⟩ := Cond.classLink_spec hown (hts _ hlink) e.platform hpl
  cases Option.some.inj (hc5.symm.trans hcX')
  have hk0 : ∃ k, s.vm.classes[ce.cls]? = some k := by
    obtain ⟨dk, _, _, kt, hd9, _, _, _, _, hkt, _, hopen⟩ := hcl5.here
    exact ⟨kt, hkt⟩
  obtain ⟨vm', XV, st⟩ := sx_caught X' v (g := F0 m pc ls rest) rfl hcome hce hcv hk0 (x := x) hcov h0 hcl5 hasg (by
    rcases hrows with hr1 | ⟨z, post, nz, cX, cz, z1, z2, z3, z4, z5, z6, z7⟩
    · exact Or.inl hr1
    · obtain ⟨c6, hc6, hcl6⟩ := Cond.classLink_spec hown (hts _ z4) e.platform hpl
      cases Option.some.inj (hc6.symm.trans z6)
      cases Option.some.inj (z5.symm.trans hcX')
      exact Or.inr ⟨z, post, cz, z1, z2, z3, hcl6, z7⟩)
  obtain ⟨t, a1, b1⟩ := kk U'.heap v (fun q hq => by rw [k1 q (by rw [show (T.setVm vm₁).heap = H from hT]; exact hq)]; rw [show (T.setVm vm₁).heap = H from hT]) (by rw [← show (T.setVm vm₁).heap = H from hT]; exact k2) (U'.setVm vm') rfl XV
  exact ⟨t, st.trans a1, b1⟩
end WTH
/-! THE WRAPPERS OF THE LAW -/
def wr_tys (cA : Nat → ClassId) (cL : ClassId) : List (ClassId × FieldType) := ty_tys cA ++ [(cL, .long)]
def wr_o (o : Nat) (cL : ClassId) (f : Nat → Int64) : Nat × va_E := (o, .inl (cL, 1, .inr (.inl f)))
def wr_A (ad : Nat → Nat → Nat) (o : Nat) : Nat → Prop := fun q => ty_A cnC ad q ∨ q = o
def wr_P (D : va_G) (ad : Nat → Nat → Nat) (cA : Nat → ClassId) (cL : ClassId) (o : Nat) (f : Nat → Int64) (σ : ty_St) (As : List Value) : Array Value → State → Prop := fun v U =>
  v = As.toArray ∧ ty_H cnC D ad cA σ U.heap ∧ va_K D classes (wr_tys cA cL) U ∧ va_at D classes (wr_o o cL f) U.heap ∧ th_W U U.heap ∧ th_NC U
def wr_Q (D : va_G) (ad : Nat → Nat → Nat) (cA : Nat → ClassId) (cL : ClassId) (o : Nat) (y : Int32 × Int32 × ty_St) : Array Value → State → Outcome → State → Prop := fun _ st oc t =>
  (∃ f' : Nat → Int64, oc = .returned (some (.int y.1)) ∧ (y.1 = 0 → f' 0 = y.2.1.toInt64) ∧ ty_H cnC D ad cA y.2.2 t.heap ∧ va_at D classes (wr_o o cL f') t.heap) ∧ va_F (wr_A ad o) st t
theorem wr_P.blind {D : va_G} {ad : Nat → Nat → Nat} {cA : Nat → ClassId} {cL : ClassId} {o : Nat} {f : Nat → Int64} {σ : ty_St} {As : List Value} : FrameBlind (wr_P D ad cA cL o f σ As) := by
  intro a U g mk h
  obtain ⟨h1, h2, h3, h4, h5, h6⟩ := h
  exact ⟨h1, h2, va_K.moved (u := U) (U := U.calling g mk a) (Vm.Alike.refl U.vm) h3, h4, th_W.calling h5, th_NC.moved (u := U) (U := U.calling g mk a) (Vm.Alike.refl U.vm) h6⟩
theorem wr_K {D : va_G} {cA : Nat → ClassId} {cL : ClassId} {U : State} (h : va_K D classes (wr_tys cA cL) U) : va_K D classes (ty_tys cA) U := h.sub [0, 1, 2, 3, 4] rfl
def rmW : Room := { frames := 7, cells := 1, slots := 6, locals := 220 }
theorem tab1 {c : Code} {a b h t : Nat} (q : c.exceptionTable.toList.map (fun h => (h.startPc, h.endPc, h.handlerPc, h.catchType)) = [(a, b, h, t)]) : ∃ x : ExceptionTableEntry, c.exceptionTable.toList = [] ++ x :: [] ∧ x.startPc = a ∧ x.endPc = b ∧ x.handlerPc = h ∧ x.catchType = t := by
  match hl : c.exceptionTable.toList, q with
  | [x], q =>
    simp at q
    exact ⟨x, rfl, q.1, q.2.1, q.2.2.1, q.2.2.2⟩
theorem tab2 {c : Code} {a b h t a' b' h' t' : Nat} (q : c.exceptionTable.toList.map (fun h => (h.startPc, h.endPc, h.handlerPc, h.catchType)) = [(a, b, h, t), (a', b', h', t')]) : ∃ x x' : ExceptionTableEntry, c.exceptionTable.toList = [x, x'] ∧ (x.startPc = a ∧ x.endPc = b ∧ x.handlerPc = h ∧ x.catchType = t) ∧ x'.startPc = a' ∧ x'.endPc = b' ∧ x'.handlerPc = h' ∧ x'.catchType = t' := by
  match hl : c.exceptionTable.toList, q with
  | [x, x'], q =>
    simp at q
    exact ⟨x, x', rfl, ⟨q.1.1, q.1.2.1, q.1.2.2.1, q.1.2.2.2⟩, q.2.1, q.2.2.1, q.2.2.2.1, q.2.2.2.2⟩
section WCL
variable {p : Program} {l : Launch} {e : Env} {R : Room} {s : State} {m : MethodId} {args : Array Value} {below : List Frame} {meth : Method} {c : Code} {H H0 : Heap} {locs : List Loc} {cells slots mc ms pc : Nat} {Q : State → Prop} {ls : Array Slot} {st0 rest : List Value} {D : va_G} {ad : Nat → Nat → Nat} {cA : Nat → ClassId} {cn : Nat → Nat} {A0 A1 free : Nat → Prop} {a : Array Value} {P : Option ty_SV → ty_St → Prop} {cc : ByteArray}
theorem w_call (hr : va_Run p l e R s m args below meth c H locs cells slots mc ms (F0 m pc ls st0) rest (ty_Q cn D ad cA P A1 a) free) (hS : va_S A0 H0 H locs) (hA : ∀ q, q < H.size → A1 q → A0 q) (hf : ∀ q, free q → A0 q)
    (kk : ∀ (r : Option ty_SV) (σ' : ty_St) (H1 : Heap) (locs1 : List Loc), P r σ' → ty_H cn D ad cA σ' H1 → (∀ q : Nat, q < H.size → ¬ A1 q → H1[q]? = H[q]?) → H.size ≤ H1.size → va_S A0 H0 H1 locs1 → W p l e R s m args below meth c H1 locs1 (cells + mc) (slots + ms) Q (F0 m (pc + 3) ls ((r.map (ty_sv ad)).toList ++ rest))) : W p l e R s m args below meth c H locs cells slots Q (F0 m pc ls st0) := by
  intro T hT X
  obtain ⟨v, st₀, t, T', L, h0, X', hL, e1, e2, ⟨⟨r, σ', hv, hok, hP, hH'⟩, hz, hk⟩, st⟩ := hr T hT X
  cases hv
  rw [h0] at hz hk
  obtain ⟨t2, a1, b1⟩ := kk r σ' T'.heap (locs ++ L) hP (by rw [e1]; exact hH') (fun q h1 h2 => by rw [e1]; exact hk q h1 h2) (by rw [e1]; exact hz)
    ⟨Nat.le_trans hS.1 (by rw [e1]; exact hz), fun q h1 h2 => by rw [e1, hk q (Nat.lt_of_lt_of_le h1 hS.1) (fun z => h2 (hA q (Nat.lt_of_lt_of_le h1 hS.1) z))]; exact hS.2.1 q h1 h2, fun q hq => by
      rcases List.mem_append.mp hq with h | h
      · exact hS.2.2 q h
      · exact hf _ (hL q h)⟩ T' rfl X'
  exact ⟨t2, st t2 a1, b1⟩
theorem va_lastX {tys : List (ClassId × FieldType)} {cl : List vw_C} {o n t0 : Nat} {cL : ClassId} {f : Nat → Int64} {i : Int32} {x : Int64} (hx : p.tables.exec = Jvm.exec) (hb : c.code = cc) (hK : va_K D cl tys s) (hO : va_at D cl (o, .inl (cL, n, .inr (.inl f))) H) (hS : va_S A0 H0 H locs) (hAo : A0 o) (ht : tys[t0]? = some (cL, .long)) (hin : vp_in i n) (d : decode cc pc = .ok (.lastore, 1))
    (kk : ∀ (H1 : Heap) (locs1 : List Loc), va_at D cl (o, .inl (cL, n, .inr (.inl (vp_updL f i.toNatClampNeg x)))) H1 → (∀ q : Nat, q ≠ o → H1[q]? = H[q]?) → va_S A0 H0 H1 locs1 → W p l e R s m args below meth c H1 locs1 cells slots Q (F0 m (pc + 1) ls rest)) : W p l e R s m args below meth c H locs cells slots Q (F0 m pc ls (.long x :: .int i :: .ref o :: rest)) := by
  refine W.last hx hb hO ((hK.2 t0 _ ht).1 n (fun j => .long (f j))) (fun q => by cases q) (by show ¬ (i < 0 ∨ (arrV _ _ _).slots.size ≤ _); rw [arrV_size]; exact hin) rfl rfl d fun H1 e z oq => ?_
  refine kk H1 _ ?_ oq (hS.put z oq hAo)
  show H1[o]? = some (vp_cell _ _)
  rw [e]
  rw [vp_cell_l, vp_cell_l, arrV_store]
  congr 2
  funext q
  by_cases hq : q = i.toNatClampNeg
  · subst hq
    simp [updV, vp_updL]
  · simp [updV, vp_updL, hq]
end WCL
section WRT
variable {p : Program} {l : Launch} {e : Env} {R : Room} {s : State} {m : MethodId} {args : Array Value} {below : List Frame} {meth : Method} {c : Code} {cc : ByteArray} {pc nL : Nat} {ls : Array Slot} {D : va_G} {ad : Nat → Nat → Nat} {cA : Nat → ClassId} {cL : ClassId} {o : Nat} {f : Nat → Int64} {σ : ty_St} {y : Int32 × Int32 × ty_St} {cI cB : Int32}
/-- the end of a road that threw -/
theorem wr_thrown {k : Int32} {H1 : Heap} (hx : p.tables.exec = Jvm.exec) (hb : c.code = cc) (hr : meth.sig.returnType = some .int) (hlk : meth.locks = false) (hH : ty_H cnC D ad cA σ s.heap) (hO : va_at D classes (wr_o o cL f) s.heap) (hk : y.1 = k) (h0 : ¬ k = 0) (hy : ¬ y.1 = 0 → y.2.2 = σ)
    (q1 : ∀ q : Nat, q < s.heap.size → H1[q]? = s.heap[q]?) (q2 : s.heap.size ≤ H1.size) (d : decode cc pc = .ok (.ireturn, 1)) :
    W p l e R s m args below meth c H1 [] 1 6 (MQ below (wr_Q D ad cA cL o y) args s 1 6 (wr_A ad o)) (F0 m pc ls [.int k]) := by
  refine W.iret hx hb hr (fun t ht _ => ⟨⟨f, by rw [hk], fun z => absurd (hk.symm.trans z) h0, ?_, ?_⟩, ?_⟩) (fun q hq => by cases hq) d hlk
  · rw [hy (by rw [hk]; exact h0), ht]
    exact hH.kept (fun q h _ => q1 q h)
  · rw [ht]; exact hO.kept (q1 _ hO.lt)
  · exact ⟨by rw [ht]; exact q2, fun q h _ => by rw [ht]; exact q1 q h⟩
set_option maxHeartbeats 4000000 in
/-- the call of the class's own method, that answers -/
theorem wr_call (hx : p.tables.exec = Jvm.exec) (hb : c.code = cc) (hml : c.maxLocals = nL) (hsz : ls.size = nL) (hown : s.vm.findClass "TimeoutYardLaw" = some m.cls) (hts : ∀ w ∈ ty_w, w.before args s = true) (hr : meth.sig.returnType = some .int) (hlk : meth.locks = false)
    (hH : ty_H cnC D ad cA σ s.heap) (hK : va_K D classes (wr_tys cA cL) s) (hO : va_at D classes (wr_o o cL f) s.heap) (hoA : ¬ ty_A cnC ad o) (hth : th_W s s.heap) {y' : MethodName} {bytes : ByteArray} {maxL idx n tgt : Nat} {As : List Int32} {off : Int}
    (hM : ty_MT l y' (Cond.code y' bytes maxL (some .int) :: ty_w) rmT cnC D ad cA (.inr (0, 0) :: As.map .inl) σ y cI cB) (hy0 : y.1 = 0) (hI : ¬ (0 : Int32) = cI) (hB : ¬ (0 : Int32) = cB)
    (hw : Cond.methodLink "TimeoutYardLaw" idx y' ∈ ty_w ∧ Cond.instanceMethod y' ∈ ty_w ∧ Cond.selects y'.cls y' y' ∈ ty_w ∧ Cond.initialized y'.cls ∈ ty_w ∧ Cond.code y' bytes maxL (some .int) ∈ ty_w) (hcls : y'.cls = "TimeoutYard")
    (hd : y'.cls ≠ "java/lang/invoke/MethodHandle" ∧ y'.cls ≠ "java/lang/invoke/VarHandle" ∧ (parseMethodDescriptor y'.desc).map (fun d => d.parameters.length) = some n) (hn : As.length = n)
    (hR : rmT.frames + 1 ≤ R.frames ∧ 8 + (maxL + 11) + rmT.locals ≤ R.locals ∧ 1 ≤ R.cells ∧ 6 ≤ R.slots)
    {stk : List Value} (hstk : stk = (As.map Value.int).reverse ++ .ref (ad 0 0) :: [.int 0, .ref o]) (d : decode cc pc = .ok (.invokevirtual idx, 3)) (d1 : decode cc (pc + 3) = .ok (.i2l, 1)) (d2 : decode cc (pc + 4) = .ok (.lastore, 1)) (d3 : decode cc (pc + 5) = .ok (.goto off, 3)) (ht : ((pc + 5 : Nat) : Int) + off = (tgt : Int)) (d4 : decode cc tgt = .ok (.iconst 0, 1)) (d5 : decode cc (tgt + 1) = .ok (.ireturn, 1)) :
    W p l e R s m args below meth c s.heap [] 0 0 (MQ below (wr_Q D ad cA cL o y) args s 1 6 (wr_A ad o)) (F0 m pc ls stk) := by
  have hM' := hM.met hy0 hI hB
  have cw := cwV (R := R) (own := "TimeoutYardLaw") (index := idx) (C := y'.cls) (rm := rmT) n hts (GoodIn.ty (y := y') (bytes := bytes) (maxL := maxL) (ret := some .int) (ws := [.methodLink "TimeoutYardLaw" idx y', .instanceMethod y', .selects y'.cls y' y', .initialized y'.cls]) (by
      intro w hw'
      simp only [List.mem_cons, List.not_mem_nil, or_false] at hw'
      rcases hw' with rfl | rfl | rfl | rfl
      · exact hw.1
      · exact hw.2.1
      · exact hw.2.2.1
      · exact hw.2.2.2.1) hw.2.2.2.2) rfl rfl rfl ⟨rfl, hd⟩ ⟨hR.1, hR.2.1⟩
  have hPv : va_P D classes [(ad 0 0, .inr (0, ty_fs ad (σ 0 0) 0 0 [some (1, some 0), none, none]))] s.heap := ty_one (by
    have := hH 0 0 (by decide)
    exact this)
  have e1 : (As.map (Sum.inl (β := Nat × Nat))).map (ty_sv ad) = As.map Value.int := by
    rw [List.map_map]; rfl
  have run := va_runV (As := As.map Value.int) (b := ad 0 0) (H := s.heap) (locs := []) (cells := 0) (slots := 0) (rest := [.int 0, .ref o]) (g := F0 m pc ls stk) (below := below) (meth := meth) (e := e) ⟨hx, hb, hml, hown, hts⟩ hM' cw ⟨ty_PT.blind, by rw [hcls]; exact va_recv (wr_K hK) hPv (q0 := 0) rfl rfl, fun U hU hW => ⟨⟨by rw [List.map_cons, e1]; rfl, by rw [hU]; exact hH, va_K.moved hW.alike (wr_K hK)⟩, by rw [hU]; exact th_W.warm hW hth⟩⟩ rfl (by simpa using hn) hsz hstk (by
      show 2 * (F0 m pc ls stk).monitorRoom + _ ≤ 8
      have : JFrame.monitorRoom (F0 m pc ls stk) = 0 := rfl
      rw [this]; show 2 * 0 + (1 + (1 + 0)) ≤ 8; decide) d ⟨by omega, by omega⟩
  have hS0 : va_S (wr_A ad o) s.heap s.heap [] := va_S.rf
  refine w_call run hS0 (fun q _ h => Or.inl h) (fun q h => Or.inl h) (fun r σ' H1 locs1 hP hH1 hk1 hz1 hS1 => ?_)
  obtain ⟨rfl, rfl⟩ := hP
  show W p l e R s m args below meth c H1 locs1 (0 + 1) (0 + 6) _ (F0 m (pc + 3) ls [.int y.2.1, .int 0, .ref o])
  refine lv_i2l hx hb d1 rfl ?_
  have hO1 : va_at D classes (wr_o o cL f) H1 := hO.kept (hk1 _ hO.lt (fun z => hoA z))
  have hD1 : va_D (wr_A ad o) [wr_o o cL f] := ⟨fun i j x y hi hj _ => by
    have hi' := (List.getElem?_eq_some_iff.mp hi).1
    have hj' := (List.getElem?_eq_some_iff.mp hj).1
    simp at hi' hj'; omega, fun i q hq => by
      have hi' := (List.getElem?_eq_some_iff.mp hq).1
      have : i = 0 := by simp at hi'; omega
      subst this
      cases hq
      exact Or.inr rfl⟩
  refine va_lastX hx hb hK hO1 hS1 (Or.inr rfl) (t0 := 5) rfl (by unfold vp_in; decide) d2 (fun H2 locs2 hO2 oq hS2 => ?_)
  refine lv_goto hx hb d3 ht ?_
  refine lv_iconst (v := 0) hx hb d4 (by decide) ?_
  refine W.iret hx hb hr (fun t ht' _ => ⟨⟨_, by rw [hy0], fun _ => ?_, ?_, by rw [ht']; exact hO2⟩, hS2.F ht'⟩) hS2.2.2 d5 hlk
  · simp [vp_updL]
  · rw [ht']
    exact hH1.kept (fun q _ hq => oq q (fun z => hoA (by rw [← z]; exact hq)))
end WRT
