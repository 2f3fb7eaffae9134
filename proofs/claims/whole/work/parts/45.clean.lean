section TYB
variable {cn : Nat → Nat} {p : Program} {l : Launch} {e : Env} {R : Room} {s : State} {m : MethodId} {args : Array Value} {below : List Frame} {meth : Method} {c : Code} {D : va_G} {ad : Nat → Nat → Nat} {cA : Nat → ClassId} {G : Heap → List Loc → Prop} {nL : Nat} {Q : State → Prop} {own : String} {cc : ByteArray} {σ : ty_St} {loc : List (Option ty_SV)} {pc : Nat} {st : List ty_SV} {B : Nat → Prop}
/-- like ty_Gd, ty_M, with the cells that may change named apart -/
def ty_Gb (B : Nat → Prop) (s : State) : Heap → List Loc → Prop := fun H locs => va_S B s.heap H locs
def ty_MB (B : Nat → Prop) (l : Launch) (y : MethodName) (ws : List Cond) (rm : Room) (cn : Nat → Nat) (D : va_G) (ad : Nat → Nat → Nat) (cA : Nat → ClassId) (As : List ty_SV) (σ : ty_St) (P : Option ty_SV → ty_St → Prop) : Prop :=
  Met l y ws rm (ty_P cn D ad cA σ As) (ty_Q cn D ad cA P B) 0 0 B
theorem ty_V.weak {G1 G2 : Heap → List Loc → Prop} (h : ∀ H locs, G1 H locs → G2 H locs) (k : ty_V cn p l e R s m args below meth c D ad cA G2 nL Q σ loc pc st) : ty_V cn p l e R s m args below meth c D ad cA G1 nL Q σ loc pc st :=
  fun H locs ls hH hG hL hl hs => k H locs ls hH (h H locs hG) hL hl hs
theorem va_S.weakB {A B : Nat → Prop} {H0 H : Heap} {locs : List Loc} (h : va_S A H0 H locs) (hAB : ∀ q, A q → B q) : va_S B H0 H locs := ⟨h.1, fun q h1 h2 => h.2.1 q h1 (fun z => h2 (hAB q z)), fun x hx => hAB _ (h.2.2 x hx)⟩
theorem ty_V.dirty (k : ty_V cn p l e R s m args below meth c D ad cA (ty_Gd cn ad s) nL Q σ loc pc st) : ty_V cn p l e R s m args below meth c D ad cA (ty_Gb (fun _ => False) s) nL Q σ loc pc st :=
  ty_V.weak (fun _ _ h => va_S.weakB h (fun _ z => z.elim)) k
theorem v_ireturnB (C : ty_CX cn p s m args meth c D ad cA own cc nL) {P : Option ty_SV → ty_St → Prop} {r : Int32} (hr : meth.sig.returnType = some .int) (hP : P (some (.inl r)) σ) (d : decode cc pc = .ok (.ireturn, 1)) : ty_V cn p l e R s m args below meth c D ad cA (ty_Gb B s) nL (MQ below (ty_Q cn D ad cA P B) args s 0 0 B) σ loc pc [.inl r] := by
  intro H locs ls hH hS hL hl hs
  exact W.iret C.1 C.2.1 hr (fun t ht _ => ⟨⟨some (.inl r), σ, rfl, (fun v hv => by cases hv; trivial), hP, by rw [ht]; exact hH⟩, hS.F ht⟩) hS.2.2 d C.2.2.2.2.2.2.2.2
theorem v_zreturnB (C : ty_CX cn p s m args meth c D ad cA own cc nL) {P : Option ty_SV → ty_St → Prop} {r : Int32} (hr : meth.sig.returnType = some .boolean) (hn : narrow .boolean (.int r) = .int r) (hP : P (some (.inl r)) σ) (d : decode cc pc = .ok (.ireturn, 1)) : ty_V cn p l e R s m args below meth c D ad cA (ty_Gb B s) nL (MQ below (ty_Q cn D ad cA P B) args s 0 0 B) σ loc pc [.inl r] := by
  intro H locs ls hH hS hL hl hs
  exact W.zret C.1 C.2.1 hr hn (fun t ht _ => ⟨⟨some (.inl r), σ, rfl, (fun v hv => by cases hv; trivial), hP, by rw [ht]; exact hH⟩, hS.F ht⟩) hS.2.2 d C.2.2.2.2.2.2.2.2
theorem ty_runB (C : ty_CX cn p s m args meth c D ad cA own cc nL) {P : Option ty_SV → ty_St → Prop} {a : Array Value} {stk : List ty_SV} (hst : ty_oks cn st)
    (hr : ∀ (H : Heap) (locs : List Loc) (ls : Array Slot), ty_H cn D ad cA σ H → ty_L ad ls nL loc → va_Run p l e R s m args below meth c H locs 0 0 0 0 (F0 m pc ls (stk.map (ty_sv ad))) (st.map (ty_sv ad)) (ty_Q cn D ad cA P B a) B)
    (kk : ∀ r σ', P r σ' → ty_V cn p l e R s m args below meth c D ad cA (ty_Gb B s) nL Q σ' loc (pc + 3) (r.toList ++ st)) : ty_V cn p l e R s m args below meth c D ad cA (ty_Gb B s) nL Q σ loc (pc) (stk) := by
  intro H locs ls hH hS hL hl hs
  intro T hT X
  obtain ⟨v, st₀, t, T', L, h0, X', hLL, e1, e2, ⟨⟨r, σ', hv, hok, hP, hH'⟩, hz, hk⟩, stp⟩ := hr H locs ls hH hL T hT X
  have hv2 : v = r.map (ty_sv ad) := by cases hv; rfl
  subst hv2
  rw [h0] at hz hk
  have hS' : ty_Gb B s T'.heap (locs ++ L) := ⟨Nat.le_trans hS.1 (by rw [e1]; exact hz), fun q h1 h2 => by
      rw [e1, hk q (Nat.lt_of_lt_of_le h1 hS.1) (fun z => h2 z)]; exact hS.2.1 q h1 h2, fun q hq => by
      rcases List.mem_append.mp hq with h | h
      · exact hS.2.2 q h
      · exact hLL q h⟩
  obtain ⟨t2, a1, b1⟩ := kk r σ' hP T'.heap (locs ++ L) ls (by rw [e1]; exact hH') hS' hL hl (fun w hw => by
      rcases List.mem_append.mp hw with h | h
      · cases r with
        | none => simp at h
        | some z => simp at h; subst h; exact hok _ rfl
      · exact hst w h) T' rfl X'
  refine ⟨t2, stp t2 ?_, b1⟩
  have e3 : (r.toList ++ st).map (ty_sv ad) = (r.map (ty_sv ad)).toList ++ st.map (ty_sv ad) := by cases r <;> simp
  rw [e3] at a1
  exact a1
theorem v_callVB (C : ty_CX cn p s m args meth c D ad cA own cc nL) {P : Option ty_SV → ty_St → Prop} {y : MethodName} {bytes : ByteArray} {maxL idx n ci : Nat} {ret : Option FieldType} {rm : Room} {a i : Nat} {As stk : List ty_SV} {fl : List (Option (Nat × Option Nat))} {q : vw_C}
    (hM : ty_MB B l y (Cond.code y bytes maxL ret :: ty_w) rm cn D ad cA (.inr (a, i) :: As) σ P) (hki : ty_ki a i = .inl (ci, fl)) (hcl : classes[ci]? = some q) (hy : y.cls = q.1)
    (hrc : rm.cells = 0) (hrs : rm.slots = 0) (hRf : rm.frames + 1 ≤ R.frames) (hRl : 8 + (maxL + 11) + rm.locals ≤ R.locals)
    (hw : Cond.methodLink own idx y ∈ ty_w ∧ Cond.instanceMethod y ∈ ty_w ∧ Cond.selects y.cls y y ∈ ty_w ∧ Cond.initialized y.cls ∈ ty_w ∧ Cond.code y bytes maxL ret ∈ ty_w)
    (hd : y.cls ≠ "java/lang/invoke/MethodHandle" ∧ y.cls ≠ "java/lang/invoke/VarHandle" ∧ (parseMethodDescriptor y.desc).map (fun d => d.parameters.length) = some n) (hn : As.length = n) (hstk : stk = As.reverse ++ .inr (a, i) :: st) (hst8 : st.length ≤ 8)
    (d : decode cc pc = .ok (.invokevirtual idx, 3)) (kk : ∀ r σ', P r σ' → ty_V cn p l e R s m args below meth c D ad cA (ty_Gb B s) nL Q σ' loc (pc + 3) (r.toList ++ st)) : ty_V cn p l e R s m args below meth c D ad cA (ty_Gb B s) nL Q σ loc (pc) (stk) := by
  intro H locs ls hH hS hL hl hs
  have hi : i < cn a := hs (.inr (a, i)) (by rw [hstk]; simp)
  have hst : ty_oks cn st := fun w hw => hs w (by rw [hstk]; simp [hw])
  refine ty_runB (P := P) (a := (Value.ref (ad a i) :: As.map (ty_sv ad)).toArray) C hst (fun H locs ls hH hL => ?_) kk H locs ls hH hS hL hl hs
  obtain ⟨hx, hb, hml, hown, hts, hK, -⟩ := id C
  have cw := cwV (R := R) (own := own) (index := idx) (C := y.cls) (rm := rm) n hts (GoodIn.ty (y := y) (bytes := bytes) (maxL := maxL) (ret := ret) (ws := [.methodLink own idx y, .instanceMethod y, .selects y.cls y y, .initialized y.cls]) (by
      intro w hw'
      simp only [List.mem_cons, List.not_mem_nil, or_false] at hw'
      rcases hw' with rfl | rfl | rfl | rfl
      · exact hw.1
      · exact hw.2.1
      · exact hw.2.2.1
      · exact hw.2.2.2.1) hw.2.2.2.2) rfl hrc hrs ⟨rfl, hd⟩ ⟨hRf, hRl⟩
  refine va_runV (As := As.map (ty_sv ad)) (b := ad a i) (rest := st.map (ty_sv ad)) ⟨hx, hb, hml, hown, hts⟩ hM cw ⟨ty_P.blind, ?_, fun U hU hW => ⟨rfl, by rw [hU]; exact hH, va_K.moved hW.alike hK⟩⟩ rfl (by simpa using hn) hL.size (by rw [hstk]; simp [ty_sv]) (ty_room hst8) d ⟨Nat.zero_le _, Nat.zero_le _⟩
  have he : ty_en ad cA (σ a i) a i = .inr (ci, ty_fs ad (σ a i) i 0 fl) := by unfold ty_en; rw [hki]
  have hP1 : va_P D classes [(ad a i, .inr (ci, ty_fs ad (σ a i) i 0 fl))] H := ty_one (by rw [← he]; exact hH a i hi)
  rw [hy]
  exact va_recv hK hP1 hcl (q0 := 0) rfl
theorem v_callSB (C : ty_CX cn p s m args meth c D ad cA own cc nL) {P : Option ty_SV → ty_St → Prop} {y : MethodName} {bytes : ByteArray} {maxL idx n : Nat} {ret : Option FieldType} {rm : Room} {As stk : List ty_SV}
    (hM : ty_MB B l y (Cond.code y bytes maxL ret :: ty_w) rm cn D ad cA As σ P)
    (hrc : rm.cells = 0) (hrs : rm.slots = 0) (hRf : rm.frames + 1 ≤ R.frames) (hRl : 8 + (maxL + 11) + rm.locals ≤ R.locals)
    (hw : Cond.methodLink own idx y ∈ ty_w ∧ Cond.static y ∈ ty_w ∧ Cond.initialized y.cls ∈ ty_w ∧ Cond.code y bytes maxL ret ∈ ty_w)
    (hd : y.cls ≠ "java/lang/invoke/MethodHandle" ∧ y.cls ≠ "java/lang/invoke/VarHandle" ∧ (parseMethodDescriptor y.desc).map (fun d => d.parameters.length) = some n) (hn : As.length = n) (hstk : stk = As.reverse ++ st) (hst8 : st.length ≤ 8)
    (d : decode cc pc = .ok (.invokestatic idx, 3)) (kk : ∀ r σ', P r σ' → ty_V cn p l e R s m args below meth c D ad cA (ty_Gb B s) nL Q σ' loc (pc + 3) (r.toList ++ st)) : ty_V cn p l e R s m args below meth c D ad cA (ty_Gb B s) nL Q σ loc (pc) (stk) := by
  intro H locs ls hH hS hL hl hs
  have hst : ty_oks cn st := fun w hw => hs w (by rw [hstk]; simp [hw])
  refine ty_runB (P := P) (a := (As.map (ty_sv ad)).toArray) C hst (fun H locs ls hH hL => ?_) kk H locs ls hH hS hL hl hs
  obtain ⟨hx, hb, hml, hown, hts, hK, -⟩ := id C
  have cw := va_cwS (R := R) (own := own) (index := idx) (rm := rm) n hts (GoodIn.ty (y := y) (bytes := bytes) (maxL := maxL) (ret := ret) (ws := [.methodLink own idx y, .static y, .initialized y.cls]) (by
      intro w hw'
      simp only [List.mem_cons, List.not_mem_nil, or_false] at hw'
      rcases hw' with rfl | rfl | rfl
      · exact hw.1
      · exact hw.2.1
      · exact hw.2.2.1) hw.2.2.2) rfl hrc hrs hd ⟨hRf, hRl⟩
  exact va_runS (As := As.map (ty_sv ad)) (rest := st.map (ty_sv ad)) ⟨hx, hb, hml, hown, hts⟩ hM cw ⟨ty_P.blind, fun U hU hW => ⟨rfl, by rw [hU]; exact hH, va_K.moved hW.alike hK⟩⟩ rfl (by simpa using hn) hL.size (by rw [hstk]; simp) (ty_room hst8) d ⟨Nat.zero_le _, Nat.zero_le _⟩
end TYB
theorem ty_MB.of {B0 : Nat → Prop} {l : Launch} {y : MethodName} {rm : Room} {cn : Nat → Nat} {D : va_G} {ad : Nat → Nat → Nat} {cA : Nat → ClassId} {As : List ty_SV} {σ : ty_St} {P : Option ty_SV → ty_St → Prop} {cc : ByteArray} {maxL : Nat} {ret : Option FieldType}
    (hy : plainName y.cls = true) (hJ : ty_J cn ad) (hlay : ∀ a i ci fl, ty_ki a i = .inl (ci, fl) → ∀ b z, some (b, z) ∈ fl → i < cn a → z.getD i < cn b) (hok : ty_oks cn As) (hlen : As.length ≤ maxL)
    (body : ∀ (p : Program) (e : Env) (s : State) (m : MethodId) (args : Array Value) (below : List Frame) (meth : Method) (c : Code), ty_CX cn p s m args meth c D ad cA y.cls cc maxL → meth.sig.returnType = ret → meth.name = y.name →
      ty_V cn p l e rm s m args below meth c D ad cA (ty_Gb B0 s) maxL (MQ below (ty_Q cn D ad cA P B0) args s 0 0 B0) σ (As.map some ++ List.replicate (maxL - As.length) none) 0 []) :
    ty_MB B0 l y (Cond.code y cc maxL ret :: ty_w) rm cn D ad cA As σ P := by
  refine Met.ofW (cc := cc) (maxL := maxL) (ret := ret) hy rfl ?_
  intro p e s m args below meth c s₁ B hml hv
  obtain ⟨rfl, hH, hK⟩ := hv
  have hts := atoms_spec (ws := Cond.code y cc maxL ret :: ty_w) B.pre
  have hown : s.vm.findClass y.cls = some m.cls := findClass_of_methodNamed B.named
  have C : ty_CX cn p s m (As.map (ty_sv ad)).toArray meth c D ad cA y.cls cc maxL := ⟨B.exec, B.bytes, hml, hown, fun w hw => hts w (List.mem_cons_of_mem _ hw), hK, hJ, hlay, B.notSynchronized⟩
  have hl := lv_entry (As.map (ty_sv ad)) (n := maxL) (by rw [lg_sl_ty]; exact hlen)
  rw [lg_entry_eq]
  refine body p e s m _ below meth c C B.returns (name_of_methodNamed B.named B.method).1 s.heap [] _ hH va_S.rf ⟨_, hl, fun i v hi => ?_⟩ (fun i v hi => ?_) (fun v h => by cases h)
  · have h1 : As[i]? = some v := by
      by_cases hlt : i < As.length
      · rw [List.getElem?_append_left (by simpa using hlt), List.getElem?_map] at hi
        cases hq : As[i]? with
        | none => rw [hq] at hi; cases hi
        | some z => rw [hq] at hi; cases hi; rfl
      · rw [List.getElem?_append_right (by simpa using hlt)] at hi
        have := List.eq_of_mem_replicate (List.mem_of_getElem? hi)
        cases this
    have := lv_args_ty ad As 0 i v h1
    rw [Nat.zero_add] at this
    exact this
  · have h1 : As[i]? = some v := by
      by_cases hlt : i < As.length
      · rw [List.getElem?_append_left (by simpa using hlt), List.getElem?_map] at hi
        cases hq : As[i]? with
        | none => rw [hq] at hi; cases hi
        | some z => rw [hq] at hi; cases hi; rfl
      · rw [List.getElem?_append_right (by simpa using hlt)] at hi
        have := List.eq_of_mem_replicate (List.mem_of_getElem? hi)
        cases this
    exact hok v (List.mem_of_getElem? h1)


section TYKB
variable {cn : Nat → Nat} {p : Program} {l : Launch} {e : Env} {R : Room} {s : State} {m : MethodId} {args : Array Value} {below : List Frame} {meth : Method} {c : Code} {D : va_G} {ad : Nat → Nat → Nat} {cA : Nat → ClassId} {G : Heap → List Loc → Prop} {nL : Nat} {Q : State → Prop} {cc : ByteArray} {σ : ty_St} {loc : List (Option ty_SV)} {pc : Nat} {st stk : List ty_SV} {i : Nat} {rm : Room} {P : Option ty_SV → ty_St → Prop} {As : List ty_SV} {B : Nat → Prop}
theorem cb_Yard_23 (C : ty_CX cn p s m args meth c D ad cA R_Yard cc nL) (hM : ty_MB B l y_Yard_isWithin (Cond.code y_Yard_isWithin b_Yard_isWithin 3 (some .boolean) :: ty_w) rm cn D ad cA As σ P) (hR : rm.cells = 0 ∧ rm.slots = 0 ∧ rm.frames + 1 ≤ R.frames ∧ 8 + (3 + 11) + rm.locals ≤ R.locals) (hn : As.length = 3) (hstk : stk = As.reverse ++ st) (h8 : st.length ≤ 8) (d : decode cc pc = .ok (.invokestatic 23, 3)) (kk : ∀ r σ', P r σ' → ty_V cn p l e R s m args below meth c D ad cA (ty_Gb B s) nL Q σ' loc (pc + 3) (r.toList ++ st)) : ty_V cn p l e R s m args below meth c D ad cA (ty_Gb B s) nL Q σ loc (pc) (stk) := v_callSB C hM hR.1 hR.2.1 hR.2.2.1 hR.2.2.2 ⟨ml_Yard_23, wt_Yard_isWithin, wn_Yard, wc_Yard_isWithin⟩ ⟨by decide +kernel, by decide +kernel, by decide +kernel⟩ hn hstk h8 d kk
theorem cb_Yard_27 (C : ty_CX cn p s m args meth c D ad cA R_Yard cc nL) (hM : ty_MB B l y_Yard_isAction (Cond.code y_Yard_isAction b_Yard_isAction 2 (some .boolean) :: ty_w) rm cn D ad cA As σ P) (hR : rm.cells = 0 ∧ rm.slots = 0 ∧ rm.frames + 1 ≤ R.frames ∧ 8 + (2 + 11) + rm.locals ≤ R.locals) (hn : As.length = 2) (hstk : stk = As.reverse ++ st) (h8 : st.length ≤ 8) (d : decode cc pc = .ok (.invokestatic 27, 3)) (kk : ∀ r σ', P r σ' → ty_V cn p l e R s m args below meth c D ad cA (ty_Gb B s) nL Q σ' loc (pc + 3) (r.toList ++ st)) : ty_V cn p l e R s m args below meth c D ad cA (ty_Gb B s) nL Q σ loc (pc) (stk) := v_callSB C hM hR.1 hR.2.1 hR.2.2.1 hR.2.2.2 ⟨ml_Yard_27, wt_Yard_isAction, wn_Yard, wc_Yard_isAction⟩ ⟨by decide +kernel, by decide +kernel, by decide +kernel⟩ hn hstk h8 d kk
theorem cb_Yard_90 (C : ty_CX cn p s m args meth c D ad cA R_Yard cc nL) (hM : ty_MB B l y_Log_keeps (Cond.code y_Log_keeps b_Log_keeps 2 (some .boolean) :: ty_w) rm cn D ad cA (.inr (5, i) :: As) σ P) (hR : rm.cells = 0 ∧ rm.slots = 0 ∧ rm.frames + 1 ≤ R.frames ∧ 8 + (2 + 11) + rm.locals ≤ R.locals) (hn : As.length = 1) (hstk : stk = As.reverse ++ .inr (5, i) :: st) (h8 : st.length ≤ 8) (d : decode cc pc = .ok (.invokevirtual 90, 3)) (kk : ∀ r σ', P r σ' → ty_V cn p l e R s m args below meth c D ad cA (ty_Gb B s) nL Q σ' loc (pc + 3) (r.toList ++ st)) : ty_V cn p l e R s m args below meth c D ad cA (ty_Gb B s) nL Q σ loc (pc) (stk) := v_callVB C hM rfl rfl rfl hR.1 hR.2.1 hR.2.2.1 hR.2.2.2 ⟨ml_Yard_90, wi_Log_keeps, ws_Log_keeps, wn_Log, wc_Log_keeps⟩ ⟨by decide +kernel, by decide +kernel, by decide +kernel⟩ hn hstk h8 d kk
end TYKB
