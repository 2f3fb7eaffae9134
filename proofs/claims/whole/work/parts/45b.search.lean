/-! A THROW THAT IS CAUGHT: the search through a method's own table, where the names in it are linked on the way -/
section SXH
variable {e : Env} {s : State} {f : JFrame} {a : Addr}
/-- what the search finds, and the tables that it leaves -/
def sx_F (e : Env) (s : State) (f : JFrame) (a : Addr) (pc : Nat) (vm' : Vm) : Prop :=
  ∀ (Q : Handler → Pre) (E : CtlPost) (d : Bool) (acts : List Action), wp (findHandler f a) Q E e d acts s ↔ Q (.found pc) d acts (s.setVm vm')
/-- one row of the table whose name gets linked: it catches, or the search goes on -/
theorem sx_row {Q : Handler → Pre} {E : CtlPost} {d : Bool} {acts : List Action} {x : ExceptionTableEntry} {t : List ExceptionTableEntry} {c : ClassId} {cell : Cell} (hx : covers x f.pc = true) (h0 : x.catchType ≠ 0)
    (hl : s.vm.ClassLinks e.platform f.method.cls x.catchType c) (hcell : s.heap[a]? = some cell) (hobj : ∀ k, cell.vm ≠ .statics k)
    (hk : ∃ k, s.vm.classes[cell.cls]? = some k) (hc : ∃ k, s.vm.classes[c]? = some k) :
    wp (findHandler.go f a (x :: t)) Q E e d acts s ↔ (if s.vm.assignable cell.cls c = true then Q (.found x.handlerPc) d acts (s.setVm (s.vm.noted f.method.cls x.catchType (.cls c))) else wp (findHandler.go f a t) Q E e d acts (s.setVm (s.vm.noted f.method.cls x.catchType (.cls c)))) := by
  simp only [covers] at hx
  obtain ⟨ha, ht⟩ := (resolveClass_links e.toSetting hl).op (op := VmOp.resolveClass f.method.cls x.catchType) rfl
  have hal : s.vm.Alike (s.vm.noted f.method.cls x.catchType (.cls c)) := (Vm.Alike.refl s.vm).noted _ _ _
  obtain ⟨k1, hk1⟩ := hk
  obtain ⟨k2, hk2⟩ := hc
  obtain ⟨k1', hk1', -⟩ := hal.2.2 _ _ hk1
  obtain ⟨k2', hk2', -⟩ := hal.2.2 _ _ hk2
  by_cases h : s.vm.assignable cell.cls c = true
  · have h' : (s.vm.noted f.method.cls x.catchType (.cls c)).assignable cell.cls c = true := by rw [hal.assignable]; exact h
    rw [if_pos h]
    simp [findHandler.go, hx, h0, ha, ht, hcell, hobj, hk1', hk2', h', VmOp.dirties, VmOp.acts]
  · have h2 : s.vm.assignable cell.cls c = false := by simpa using h
    have h' : (s.vm.noted f.method.cls x.catchType (.cls c)).assignable cell.cls c = false := by rw [hal.assignable]; exact h2
    rw [if_neg h]
    simp [findHandler.go, hx, h0, ha, ht, hcell, hobj, hk1', hk2', h', VmOp.dirties, VmOp.acts]
theorem sx_step {r : List Frame} {pc : Nat} {vm' : Vm} (hfind : sx_F e s f a pc vm') :
    (stepThrowing e s a (.java f :: r)).Is ((s.setVm vm').setFrames (.java { f with pc := pc, stack := [.ref a] } :: r)) [] := by
  simp only [stepThrowing, searchFrame, vmDo]
  generalize hr : Sem.go _ e false [] s = res
  obtain ⟨as, rfl, ha⟩ := Sem.eq_ok_of hr (a := Handler.found pc) (s' := s.setVm vm') (acts' := []) (by simp [hfind _ _ _ _])
  exact ⟨rfl, ha⟩
theorem sx_steps {tb : Tables} {target : State} {g : JFrame} {c : Code} {below : List Frame} (h : At s g.method c below) {pc : Nat} {vm' : Vm}
    (hfind : sx_F e ((s.setTop g).pushFrame (.throwing a)) g a pc vm') (hrest : Steps tb e below ((s.setVm vm').setTop { g with pc := pc, stack := [.ref a] }) target) :
    Steps tb e below ((s.setTop g).pushFrame (.throwing a)) target := by
  obtain ⟨hgo, hw⟩ := h.throwing a
  refine Steps.head hgo hw ?_
  rw [stepThread_throwing (frames_entered h.top _), (sx_step (s := (s.setTop g).pushFrame (.throwing a)) hfind).1]
  obtain ⟨g₀, hg⟩ := Option.isSome_iff_exists.mp h.top
  obtain ⟨r, hr⟩ := State.topJava?_eq_some.mp hg
  have hr' : (s.setVm vm').frames = .java g₀ :: r := hr
  have e1 : ∀ (u : State) (F G : List Frame), ((u.setFrames F).setVm vm').setFrames G = (u.setVm vm').setFrames G := fun u F G => by
    show ((u.setVm vm').setFrames F).setFrames G = _
    rw [State.setFrames_setFrames]
  rw [State.setTop_of_frames _ hr'] at hrest
  rw [hr, List.tail_cons, State.pushFrame, e1, State.setTop_of_frames _ hr, e1]
  exact hrest
end SXH
section SXS
variable {p : Program} {l : Launch} {e : Env} {R : Room} {s : State} {m : MethodId} {args : Array Value} {below : List Frame} {meth : Method} {c : Code} {T : State} {locs : List Loc} {cells slots : Nat}
/-- the row x catches, as the first of the table, or behind a row that does not -/
theorem sx_caught (X : Stand p l e R s m args below meth c T locs cells slots) (a : Addr) {g : JFrame} (hg : g.method = m) {s₀ : State} (hcome : Steps p.tables e below s₀ ((T.setTop g).pushFrame (.throwing a))) {cell : Cell} (hcell : T.heap[a]? = some cell) (hobj : cell.vm = .none) (hk0 : ∃ k, s.vm.classes[cell.cls]? = some k)
    {x : ExceptionTableEntry} {cx : ClassId} (hx : covers x g.pc = true) (h0 : x.catchType ≠ 0) (hlx : s.vm.ClassLinks e.platform m.cls x.catchType cx) (hfit : s.vm.assignable cell.cls cx = true)
    (hrows : (∃ post, c.exceptionTable.toList = x :: post) ∨ ∃ z post cz, c.exceptionTable.toList = z :: x :: post ∧ covers z g.pc = true ∧ z.catchType ≠ 0 ∧ s.vm.ClassLinks e.platform m.cls z.catchType cz ∧ s.vm.assignable cell.cls cz = false) :
    ∃ vm', Stand p l e R s m args below meth c (T.setVm vm') locs cells slots ∧ Steps p.tables e below s₀ ((T.setVm vm').setTop { g with pc := x.handlerPc, stack := [.ref a] }) := by
  subst hg
  have hob : ∀ k, cell.vm ≠ .statics k := fun k z => by rw [hobj] at z; cases z
  have hcls : ∀ vm₁ : Vm, s.WarmedH vm₁ → ∀ q, (∃ k, s.vm.classes[q]? = some k) → ∃ k, vm₁.classes[q]? = some k := fun vm₁ hW q hq => by
    obtain ⟨k, hk⟩ := hq
    obtain ⟨k', hk', -⟩ := hW.alike.2.2 _ _ hk
    exact ⟨k', hk'⟩
  have key : ∃ vm', s.WarmedH vm' ∧ sx_F e ((T.setTop g).pushFrame (.throwing a)) g a x.handlerPc vm' := by
    rcases hrows with ⟨post, hs⟩ | ⟨z, post, cz, hs, hz, hz0, hlz, hno⟩
    · obtain ⟨dk, _, _, kt, hd, _, _, _, _, hkt, _, hopen⟩ := hlx.here
      refine ⟨_, X.warmed.noted hd hopen (State.rightAt_cls hlx), fun Q E d acts => ?_⟩
      rw [Jvm.W.findHandler_eq (s := (T.setTop g).pushFrame (.throwing a)) (meth := meth) (code := c) X.method' X.code, hs]
      refine (sx_row (s := (T.setTop g).pushFrame (.throwing a)) hx h0 (X.warmed.classLinks hlx) hcell hob (hcls _ X.warmed _ hk0) (hcls _ X.warmed _ ⟨kt, hkt⟩)).trans ?_
      rw [if_pos (show ((T.setTop g).pushFrame (.throwing a)).vm.assignable cell.cls cx = true from (X.warmed.alike.assignable _ _).trans hfit)]
      exact Iff.rfl
    · obtain ⟨dk, _, _, kt, hd, _, _, _, _, hkt, _, hopen⟩ := hlx.here
      obtain ⟨dz, _, _, kz, hdz, _, _, _, _, hkz, _, hopenz⟩ := hlz.here
      have hW1 := X.warmed.noted hdz hopenz (State.rightAt_cls hlz)
      refine ⟨_, hW1.noted hd hopen (State.rightAt_cls hlx), fun Q E d acts => ?_⟩
      rw [Jvm.W.findHandler_eq (s := (T.setTop g).pushFrame (.throwing a)) (meth := meth) (code := c) X.method' X.code, hs]
      refine (sx_row (s := (T.setTop g).pushFrame (.throwing a)) hz hz0 (X.warmed.classLinks hlz) hcell hob (hcls _ X.warmed _ hk0) (hcls _ X.warmed _ ⟨kz, hkz⟩)).trans ?_
      rw [if_neg (show ¬ ((T.setTop g).pushFrame (.throwing a)).vm.assignable cell.cls cz = true from fun z9 => by
        have h9 : ((T.setTop g).pushFrame (.throwing a)).vm.assignable cell.cls cz = false := (X.warmed.alike.assignable _ _).trans hno
        rw [h9] at z9
        cases z9)]
      refine (sx_row (s := ((T.setTop g).pushFrame (.throwing a)).setVm (((T.setTop g).pushFrame (.throwing a)).vm.noted g.method.cls z.catchType (.cls cz))) hx h0 (hW1.classLinks hlx) hcell hob (hcls _ hW1 _ hk0) (hcls _ hW1 _ ⟨kt, hkt⟩)).trans ?_
      rw [if_pos (show (((T.setTop g).pushFrame (.throwing a)).setVm (((T.setTop g).pushFrame (.throwing a)).vm.noted g.method.cls z.catchType (.cls cz))).vm.assignable cell.cls cx = true from (hW1.alike.assignable _ _).trans hfit)]
      exact Iff.rfl
  obtain ⟨vm', hW', hF⟩ := key
  exact ⟨vm', X.noted hW', hcome.trans (sx_steps X.here hF (Steps.refl _))⟩
end SXS
