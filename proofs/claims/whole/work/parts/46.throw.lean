/-! THE WORDS OF A THROW -/
def th_IA : String := "java/lang/IllegalArgumentException"
def th_IB : String := "java/lang/IndexOutOfBoundsException"
def th_E (ic : Nat) (X : String) : List Cond := Bundle.ownAtoms0 "TimeoutYard" ic X ["java/lang/RuntimeException", "java/lang/Exception"]
/-- those that no table's word gives: of the tables, and of the two statics -/
def th_D (X : String) : List Cond := [.declares ⟨"java/lang/RuntimeException", "<init>", "()V"⟩, .declares ⟨"java/lang/Exception", "<init>", "()V"⟩, .declares ⟨"java/lang/Throwable", "<init>", "()V"⟩, .castable X X]
def th_S : List (String × String × String) := [("java/lang/Throwable", "UNASSIGNED_STACK", "[Ljava/lang/StackTraceElement;"), ("java/lang/Throwable", "SUPPRESSED_SENTINEL", "Ljava/util/List;")]
def th_ok (ic : Nat) (X : String) (a : Cond) : Bool := (lw_tbl.any (fun w => decide (w = a)) && goodWord a) || (th_D X).any (fun w => decide (w = a)) || th_S.any (fun q => decide (a = .laysStatic q.1 q.2.1 q.2.2) || decide (a = .isRef (.static q.1 q.2.1 q.2.2)))
set_option maxRecDepth 100000 in
theorem th_okA : ((th_E 33 th_IA).all (th_ok 33 th_IA)) = true := by decide +kernel
set_option maxRecDepth 100000 in
theorem th_okB : ((th_E 45 th_IB).all (th_ok 45 th_IB)) = true := by decide +kernel
/-- a static of references, in the tables of U and the heap H -/
def th_Z (q : String × String × String) (U : State) (H : Heap) : Prop := ∃ (c : ClassId) (k : Class) (i : Nat) (f : Field) (a : Nat) (cell : Cell) (v : Value), U.vm.findClass q.1 = some c ∧ U.fieldFound? q.1 q.2.1 q.2.2 = some (c, k, i, f) ∧ f.isStatic = true ∧ k.statics = some a ∧ H[a]? = some cell ∧ cell.vm.isStatics = true ∧ cell.cls = c ∧ f.slot < cell.slots.size ∧ k.staticTypes[f.slot]? = some f.type ∧ cell.slots[f.slot]? = some v ∧ v.isRef = true
theorem th_Z.moved {q : String × String × String} {u U : State} {H : Heap} (hvm : u.vm.Alike U.vm) (h : th_Z q u H) : th_Z q U H := by
  obtain ⟨c, k, i, f, a, cell, v, h1, h2, h3, h4, h5, h6, h7, h8, h9, h10, h11⟩ := h
  obtain ⟨k', hi', he⟩ := State.fieldFound?_setVm hvm h2
  exact ⟨c, k', i, f, a, cell, v, by rw [hvm.findClass]; exact h1, hi', h3, by rw [he]; exact h4, h5, h6, h7, h8, by rw [he]; exact h9, h10, h11⟩
theorem th_Z.kept {q : String × String × String} {U : State} {H H1 : Heap} (h : th_Z q U H) (hq : ∀ a : Nat, a < H.size → H1[a]? = H[a]?) : th_Z q U H1 := by
  obtain ⟨c, k, i, f, a, cell, v, h1, h2, h3, h4, h5, h6⟩ := h
  exact ⟨c, k, i, f, a, cell, v, h1, h2, h3, h4, by rw [hq a (Array.getElem?_eq_some_iff.mp h5).1]; exact h5, h6⟩
theorem th_Z.of {q : String × String × String} {args : Array Value} {s : State} (hl : (Cond.laysStatic q.1 q.2.1 q.2.2).before args s = true) (hr : (Cond.isRef (.static q.1 q.2.1 q.2.2)).before args s = true) : th_Z q s s.heap := by
  obtain ⟨c, k, i, f, a, cell, hc, hi, hst, ha, hcell, hs, hcls, hlt, hty⟩ := Cond.laysStatic_spec hl
  obtain ⟨v, hv, hv2⟩ := Cond.isRef_spec hr
  obtain ⟨hst', a', cell', ha', hcell', -, hslot⟩ := Term.static_spec hi hv
  cases ha.symm.trans ha'
  cases hcell.symm.trans hcell'
  exact ⟨c, k, i, f, a, cell, v, hc, hi, hst, ha, hcell, hs, hcls, hlt, hty, hslot, hv2⟩
theorem th_Z.lays {q : String × String × String} {args : Array Value} {s : State} (h : th_Z q s s.heap) : (Cond.laysStatic q.1 q.2.1 q.2.2).before args s = true := by
  obtain ⟨c, k, i, f, a, cell, v, h1, h2, h3, h4, h5, h6, h7, h8, h9, h10, h11⟩ := h
  exact Cond.laysStatic_of h1 h2 h3 h4 h5 h6 h7 h8 h9
theorem th_Z.isRef {q : String × String × String} {args : Array Value} {s : State} (h : th_Z q s s.heap) : (Cond.isRef (.static q.1 q.2.1 q.2.2)).before args s = true := by
  obtain ⟨c, k, i, f, a, cell, v, h1, h2, h3, h4, h5, h6, h7, h8, h9, h10, h11⟩ := h
  have hv : (Term.static q.1 q.2.1 q.2.2).eval args s none [] s = some v := by
    simp [Term.eval, State.fieldNamed?, h2, h3, h4, h5, h6, h10]
  simp only [Cond.before, Cond.holds, Cond.value, hv]
  cases v <;> simp_all [Value.isRef]
/-- what a throw asks of a state beside the tables' words -/
def th_W (U : State) (H : Heap) : Prop := (∀ w ∈ th_D th_IA ++ th_D th_IB, va_Nw w U) ∧ ∀ q ∈ th_S, th_Z q U H
theorem th_W.kept {U : State} {H H1 : Heap} (h : th_W U H) (hq : ∀ a : Nat, a < H.size → H1[a]? = H[a]?) : th_W U H1 := ⟨h.1, fun q z => (h.2 q z).kept hq⟩
theorem th_W.warm {s U : State} {H : Heap} (hW : s.WarmedH U.vm) (h : th_W s H) : th_W U H := by
  refine ⟨fun w hw => ?_, fun q z => (h.2 q z).moved hW.alike⟩
  have h1 := h.1 w hw
  simp only [th_D, List.cons_append, List.nil_append, List.mem_cons, List.not_mem_nil, or_false] at hw
  rcases hw with rfl | rfl | rfl | rfl | rfl | rfl | rfl | rfl
  · exact va_Nw.warmD hW h1
  · exact va_Nw.warmD hW h1
  · exact va_Nw.warmD hW h1
  · exact va_Nw.warmC hW h1
  · exact va_Nw.warmD hW h1
  · exact va_Nw.warmD hW h1
  · exact va_Nw.warmD hW h1
  · exact va_Nw.warmC hW h1
theorem th_W.calling {U : State} {H : Heap} {g : JFrame} {mk : MethodId} {a : Array Value} (h : th_W U H) : th_W (U.calling g mk a) H := by
  refine ⟨fun w hw => ?_, fun q z => th_Z.moved (u := U) (U := U.calling g mk a) (Vm.Alike.refl U.vm) (h.2 q z)⟩
  have h1 := h.1 w hw
  simp only [th_D, List.cons_append, List.nil_append, List.mem_cons, List.not_mem_nil, or_false] at hw
  rcases hw with rfl | rfl | rfl | rfl | rfl | rfl | rfl | rfl <;> exact va_Nw.same (u := U) rfl rfl h1
theorem th_atoms {ic : Nat} {X : String} {args : Array Value} {s : State} (hX : X = th_IA ∨ X = th_IB) (hok : ((th_E ic X).all (th_ok ic X)) = true) (hts : ∀ w ∈ ty_w, w.before args s = true) (h : th_W s s.heap) : ∀ a ∈ th_E ic X, a.before args s = true := by
  intro a ha
  have h1 := List.all_eq_true.mp hok a ha
  simp only [th_ok, Bool.or_eq_true, Bool.and_eq_true, List.any_eq_true, decide_eq_true_eq] at h1
  rcases h1 with (⟨⟨w, hw, rfl⟩, hg⟩ | ⟨w, hw, rfl⟩) | ⟨q, hq, rfl | rfl⟩
  · exact hts w (ty_in hw hg)
  · have hm : w ∈ th_D th_IA ++ th_D th_IB := by
      rcases hX with rfl | rfl
      · exact List.mem_append_left _ hw
      · exact List.mem_append_right _ hw
    have h2 := h.1 w hm
    simp only [th_D, List.mem_cons, List.not_mem_nil, or_false] at hw
    rcases hw with rfl | rfl | rfl | rfl <;> exact va_Nw.use rfl h2
  · exact (h.2 q hq).lays
  · exact (h.2 q hq).isRef
/-- what a throw leaves: all as it was, and a new object of the class X -/
def ty_T (X : String) (st : State) (oc : Outcome) (t : State) : Prop :=
  ∃ (a : Addr) (ce : Cell), oc = .threw a ∧ st.heap.size ≤ a ∧ t.heap[a]? = some ce ∧ ce.vm = .none ∧ st.vm.findClass X = some ce.cls ∧ st.WarmedH t.vm ∧ st.sameButNew ({ t with vm := st.vm } : State) [] 1 6
section TYT
variable {cn : Nat → Nat} {p : Program} {l : Launch} {e : Env} {R : Room} {s : State} {m : MethodId} {args : Array Value} {below : List Frame} {meth : Method} {c : Code} {D : va_G} {ad : Nat → Nat → Nat} {cA : Nat → ClassId} {G : Heap → List Loc → Prop} {nL : Nat} {Q : State → Prop} {cc : ByteArray} {σ : ty_St} {loc : List (Option ty_SV)} {pc : Nat} {st : List ty_SV}
set_option maxHeartbeats 4000000 in
theorem v_throw (C : ty_CX cn p s m args meth c D ad cA "TimeoutYard" cc nL) (hl : l.stackTraces = false) (hno : c.exceptionTable.isEmpty = true) (hth : th_W s s.heap) {X : String} {iN ic : Nat} (hX : X = th_IA ∨ X = th_IB) (hok : ((th_E ic X).all (th_ok ic X)) = true)
    (hcl : Cond.classLink "TimeoutYard" iN X ∈ ty_w) (hini : Cond.initialized X ∈ ty_w) (hR : 5 < R.frames ∧ st.length + 90 ≤ R.locals ∧ 1 ≤ R.cells ∧ 6 ≤ R.slots)
    (d0 : decode cc pc = .ok (.new iN, 3)) (d1 : decode cc (pc + 3) = .ok (.dup, 1)) (d2 : decode cc (pc + 4) = .ok (.invokespecial ic, 3)) (d3 : decode cc (pc + 7) = .ok (.athrow, 1))
    (hQ : ∀ t o, t.status = .running → Ended t below o → ty_T X s o t → Q t) :
    ty_V cn p l e R s m args below meth c D ad cA (ty_Gb (fun _ => False) s) nL Q σ loc pc st := by
  intro H locs ls hH hS hL hll hs
  obtain ⟨hx, hb, hml, hown, hts, hK, -, -, hlk⟩ := id C
  have hlocs : locs = [] := List.eq_nil_iff_forall_not_mem.mpr (fun x hx => hS.2.2 x hx)
  subst hlocs
  have hat := th_atoms hX hok hts hth
  have hfit : Bundle.fit X = true := by rcases hX with rfl | rfl <;> decide +kernel
  intro T hT XX
  have htr : e.platform.stackTraces = false := by rw [XX.admits.platform]; exact hl
  have hins : (Cond.instantiable X 6).before args s = true := hat _ (by simp [th_E, Bundle.ownAtoms0])
  obtain ⟨vm₁, cX, kX, hfX, hkX, -, -, X₁, st1⟩ := XX.newCold hx (own := "TimeoutYard") (C := X) (index := iN) (n := 6) hown (hts _ hcl) hins (hts _ hini)
    (g := F0 m pc ls (st.map (ty_sv ad))) rfl (by rw [hb]; exact d0) (by omega) (by omega)
  have hcellA : ((T.setVm vm₁).pushCell { cls := cX, slots := kX.instanceTypes.map defaultValue, vm := .none }).heap[T.heap.size]? = some (freshCell cX kX) := State.heap_pushCell_size _ _
  have hge : s.heap.size ≤ T.heap.size := by rw [hT]; exact hS.1
  generalize hT1 : (T.setVm vm₁).pushCell { cls := cX, slots := kX.instanceTypes.map defaultValue, vm := .none } = T1 at X₁ st1 hcellA
  have e8 : ((st.map (ty_sv ad)).map fun v => v.category).sum = st.length := ty_len
  have key : W p l e R s m args below meth c T1.heap [] (0 + 1) (0 + 6) Q (F0 m (pc + 4) ls (.ref T.heap.size :: .ref T.heap.size :: st.map (ty_sv ad))) := by
    intro T2 hT2 X2
    obtain ⟨U, hsteps, hrun, hend, hW, hsame, ce, hce, K⟩ := X2.ctorThrow0 hx htr (own := "TimeoutYard") (cls := X) (names := ["java/lang/RuntimeException", "java/lang/Exception"]) (ic := ic) hown hfit (by decide +kernel)
      hat (fun y hy => by cases hy) hfX hkX (a := T.heap.size) (by rw [hT2]; exact hcellA) hge
      (g := F0 m (pc + 4) ls (.ref T.heap.size :: .ref T.heap.size :: st.map (ty_sv ad))) rfl (by rw [hml]; exact hL.size) rfl rfl (rest := st.map (ty_sv ad)) rfl
      (by rw [hb]; exact d2) (by rw [hb]; exact d3) (covers_of_empty hno _) (by simp; omega) (by
        have : JFrame.monitorRoom (F0 m (pc + 4) ls (Value.ref T.heap.size :: Value.ref T.heap.size :: List.map (ty_sv ad) st)) = 0 := rfl
        rw [this]
        rw [List.map_cons, List.sum_cons, e8, show (Value.ref T.heap.size).category = 1 from rfl]
        simp only [List.length_cons, List.length_nil]
        omega) hlk
    exact ⟨U, hsteps, hQ U _ hrun hend ⟨T.heap.size, ce, rfl, hge, hce, K.vm, K.cls, hW, by simpa using hsame⟩⟩
  have key2 : W p l e R s m args below meth c T1.heap [] (0 + 1) (0 + 6) Q (F0 m (pc + 3) ls (.ref T.heap.size :: st.map (ty_sv ad))) := lv_dup hx hb d1 rfl key
  obtain ⟨t, a1, b1⟩ := key2 T1 rfl X₁
  exact ⟨t, st1 t a1, b1⟩
end TYT
theorem ty_any {w : Cond} (h : (lw_tbl.any (fun v => decide (v = w)) && goodWord w) = true) : w ∈ ty_w := by
  simp only [Bool.and_eq_true, List.any_eq_true, decide_eq_true_eq] at h
  obtain ⟨⟨v, hv, rfl⟩, hg⟩ := h
  exact ty_in hv hg
set_option maxRecDepth 100000 in
theorem th_clA : Cond.classLink "TimeoutYard" 31 th_IA ∈ ty_w := ty_any (by decide +kernel)
set_option maxRecDepth 100000 in
theorem th_clB : Cond.classLink "TimeoutYard" 43 th_IB ∈ ty_w := ty_any (by decide +kernel)
set_option maxRecDepth 100000 in
theorem th_inA : Cond.initialized th_IA ∈ ty_w := ty_any (by decide +kernel)
set_option maxRecDepth 100000 in
theorem th_inB : Cond.initialized th_IB ∈ ty_w := ty_any (by decide +kernel)
