section TYR
/-- a method that answers, or throws: what it answers is y -/
def ty_R (cn : Nat → Nat) (D : va_G) (ad : Nat → Nat → Nat) (cA : Nat → ClassId) (y : Int32 × Int32 × ty_St) (cI cB : Int32) : Array Value → State → Outcome → State → Prop := fun a s o t =>
  (y.1 = 0 ∧ ty_Q cn D ad cA (fun r σ' => r = some (.inl y.2.1) ∧ σ' = y.2.2) (ty_A cn ad) a s o t ∧ ∃ L, FrameEnd s o t L 1 6 ∧ ∀ q ∈ L, ty_A cn ad q.base) ∨ (y.1 = cI ∧ ty_T th_IA s o t) ∨ (y.1 = cB ∧ ty_T th_IB s o t)
def ty_PT (cn : Nat → Nat) (D : va_G) (ad : Nat → Nat → Nat) (cA : Nat → ClassId) (σ : ty_St) (As : List ty_SV) : Array Value → State → Prop := fun a U => ty_P cn D ad cA σ As a U ∧ th_W U U.heap
def ty_MT (l : Launch) (y' : MethodName) (ws : List Cond) (rm : Room) (cn : Nat → Nat) (D : va_G) (ad : Nat → Nat → Nat) (cA : Nat → ClassId) (As : List ty_SV) (σ : ty_St) (y : Int32 × Int32 × ty_St) (cI cB : Int32) : Prop :=
  MetFree l y' (headSpec ws rm) (ty_PT cn D ad cA σ As) (fun _ _ _ _ _ => True) (ty_R cn D ad cA y cI cB)
def ty_E (below : List Frame) (cn : Nat → Nat) (D : va_G) (ad : Nat → Nat → Nat) (cA : Nat → ClassId) (y : Int32 × Int32 × ty_St) (cI cB : Int32) (a : Array Value) (s : State) : State → Prop := fun t => ∃ o, t.status = .running ∧ Ended t below o ∧ ty_R cn D ad cA y cI cB a s o t
variable {cn : Nat → Nat} {p : Program} {l : Launch} {e : Env} {R : Room} {s : State} {m : MethodId} {args : Array Value} {below : List Frame} {meth : Method} {c : Code} {D : va_G} {ad : Nat → Nat → Nat} {cA : Nat → ClassId} {nL : Nat} {cc : ByteArray} {σ : ty_St} {loc : List (Option ty_SV)} {pc : Nat} {st : List ty_SV} {y : Int32 × Int32 × ty_St} {cI cB : Int32} {own : String}
theorem W.imp {H : Heap} {locs : List Loc} {cells slots : Nat} {Q Q' : State → Prop} {g : JFrame} (h : ∀ t, Q t → Q' t) (k : W p l e R s m args below meth c H locs cells slots Q g) : W p l e R s m args below meth c H locs cells slots Q' g := fun T hT X => by
  obtain ⟨t, a, b⟩ := k T hT X
  exact ⟨t, a, h t b⟩
theorem v_iretT (C : ty_CX cn p s m args meth c D ad cA own cc nL) {r : Int32} (hr : meth.sig.returnType = some .int) (h0 : y = (0, r, σ)) (d : decode cc pc = .ok (.ireturn, 1)) : ty_V cn p l e R s m args below meth c D ad cA (ty_Gd cn ad s) nL (ty_E below cn D ad cA y cI cB args s) σ loc pc [.inl r] := by
  intro H locs ls hH hS hL hl hs
  refine W.imp ?_ (v_ireturn (P := fun r' σ' => r' = some (.inl r) ∧ σ' = σ) C hr ⟨rfl, rfl⟩ d H locs ls hH hS hL hl hs)
  rintro t ⟨o, h1, h2, h3, L, h4, h5⟩
  refine ⟨o, h1, h2, Or.inl ⟨by rw [h0], ?_, L, ⟨h4.1, h4.2.1, h4.2.2.mono (by decide) (by decide)⟩, h5⟩⟩
  rw [h0]; exact h3
/-- throws of the two kinds -/
theorem v_throwA (C : ty_CX cn p s m args meth c D ad cA "TimeoutYard" cc nL) (hx : l.stackTraces = false ∧ c.exceptionTable.isEmpty = true ∧ th_W s s.heap) (hR : 5 < R.frames ∧ st.length + 90 ≤ R.locals ∧ 1 ≤ R.cells ∧ 6 ≤ R.slots) (h0 : y.1 = cI)
    (d0 : decode cc pc = .ok (.new 31, 3)) (d1 : decode cc (pc + 3) = .ok (.dup, 1)) (d2 : decode cc (pc + 4) = .ok (.invokespecial 33, 3)) (d3 : decode cc (pc + 7) = .ok (.athrow, 1)) :
    ty_V cn p l e R s m args below meth c D ad cA (ty_Gb (fun _ => False) s) nL (ty_E below cn D ad cA y cI cB args s) σ loc pc st :=
  v_throw C hx.1 hx.2.1 hx.2.2 (Or.inl rfl) th_okA th_clA th_inA hR d0 d1 d2 d3 (fun t o h1 h2 h3 => ⟨o, h1, h2, Or.inr (Or.inl ⟨h0, h3⟩)⟩)
theorem v_throwB (C : ty_CX cn p s m args meth c D ad cA "TimeoutYard" cc nL) (hx : l.stackTraces = false ∧ c.exceptionTable.isEmpty = true ∧ th_W s s.heap) (hR : 5 < R.frames ∧ st.length + 90 ≤ R.locals ∧ 1 ≤ R.cells ∧ 6 ≤ R.slots) (h0 : y.1 = cB)
    (d0 : decode cc pc = .ok (.new 43, 3)) (d1 : decode cc (pc + 3) = .ok (.dup, 1)) (d2 : decode cc (pc + 4) = .ok (.invokespecial 45, 3)) (d3 : decode cc (pc + 7) = .ok (.athrow, 1)) :
    ty_V cn p l e R s m args below meth c D ad cA (ty_Gb (fun _ => False) s) nL (ty_E below cn D ad cA y cI cB args s) σ loc pc st :=
  v_throw C hx.1 hx.2.1 hx.2.2 (Or.inr rfl) th_okB th_clB th_inB hR d0 d1 d2 d3 (fun t o h1 h2 h3 => ⟨o, h1, h2, Or.inr (Or.inr ⟨h0, h3⟩)⟩)
end TYR
theorem ty_MT.of {l : Launch} {y' : MethodName} {rm : Room} {cn : Nat → Nat} {D : va_G} {ad : Nat → Nat → Nat} {cA : Nat → ClassId} {As : List ty_SV} {σ : ty_St} {y : Int32 × Int32 × ty_St} {cI cB : Int32} {cc : ByteArray} {maxL : Nat} {ret : Option FieldType} (hl0 : l.stackTraces = false)
    (hy : plainName y'.cls = true) (hJ : ty_J cn ad) (hlay : ∀ a i ci fl, ty_ki a i = .inl (ci, fl) → ∀ b z, some (b, z) ∈ fl → i < cn a → z.getD i < cn b) (hok : ty_oks cn As) (hlen : As.length ≤ maxL)
    (body : ∀ (p : Program) (e : Env) (s : State) (m : MethodId) (args : Array Value) (below : List Frame) (meth : Method) (c : Code), ty_CX cn p s m args meth c D ad cA y'.cls cc maxL → meth.sig.returnType = ret → (l.stackTraces = false ∧ c.exceptionTable.isEmpty = true ∧ th_W s s.heap) →
      ty_V cn p l e rm s m args below meth c D ad cA (ty_Gb (fun _ => False) s) maxL (ty_E below cn D ad cA y cI cB args s) σ (As.map some ++ List.replicate (maxL - As.length) none) 0 []) :
    ty_MT l y' (Cond.code y' cc maxL ret :: ty_w) rm cn D ad cA As σ y cI cB := by
  refine MetFree.of_bodyS (code := cc) (maxLocals := maxL) (ret := ret) hy ?_ ?_
  · intro args s m h hn
    obtain ⟨meth, c, h1, h2, h3, h4, h5, h6, -, -⟩ := Cond.code_spec hn (atoms_spec (ws := Cond.code y' cc maxL ret :: ty_w) h _ List.mem_cons_self)
    exact ⟨meth, c, h1, h2, h3, h4, h5, h6⟩
  · intro p e s m args below meth c s₁ B hml hP _
    obtain ⟨⟨rfl, hH, hK⟩, hth⟩ := hP
    have hts := atoms_spec (ws := Cond.code y' cc maxL ret :: ty_w) B.pre
    have hno : c.exceptionTable.isEmpty = true := B.noHandlers (hts _ List.mem_cons_self)
    have hown : s.vm.findClass y'.cls = some m.cls := findClass_of_methodNamed B.named
    have C : ty_CX cn p s m (As.map (ty_sv ad)).toArray meth c D ad cA y'.cls cc maxL := ⟨B.exec, B.bytes, hml, hown, fun w hw => hts w (List.mem_cons_of_mem _ hw), hK, hJ, hlay, B.notSynchronized⟩
    have hl := lv_entry (As.map (ty_sv ad)) (n := maxL) (by rw [lg_sl_ty]; exact hlen)
    have hh0 : s₁.heap = s.heap := by rw [B.state]; rfl
    have get : ∀ (i : Nat) (v : ty_SV), (As.map some ++ List.replicate (maxL - As.length) none)[i]? = some (some v) → As[i]? = some v := by
      intro i v hi
      by_cases hlt : i < As.length
      · rw [List.getElem?_append_left (by simpa using hlt), List.getElem?_map] at hi
        cases hq : As[i]? with
        | none => rw [hq] at hi; cases hi
        | some z => rw [hq] at hi; cases hi; rfl
      · rw [List.getElem?_append_right (by simpa using hlt)] at hi
        have := List.eq_of_mem_replicate (List.mem_of_getElem? hi)
        cases this
    have key : W p l e rm s m (As.map (ty_sv ad)).toArray below meth c s.heap [] 0 0 (ty_E below cn D ad cA y cI cB (As.map (ty_sv ad)).toArray s) (entryFrame m (As.map (ty_sv ad)).toArray maxL) := by
      rw [lg_entry_eq]
      refine body p e s m _ below meth c C B.returns ⟨hl0, hno, hth⟩ s.heap [] _ hH va_S.rf ⟨_, hl, fun i v hi => ?_⟩ (fun i v hi => ?_) (fun v h => by cases h)
      · have := lv_args_ty ad As 0 i v (get i v hi)
        rw [Nat.zero_add] at this
        exact this
      · exact hok v (List.mem_of_getElem? (get i v hi))
    obtain ⟨t, a1, o, b1, b2, b3⟩ := key s₁ hh0 (Stand.of_body B)
    exact ⟨t, o, a1, b1, b2, b3⟩
