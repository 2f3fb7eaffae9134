set_option maxRecDepth 100000 in
theorem wn_law : Cond.initialized "TimeoutYardLaw" ∈ ty_w := ty_any (by decide +kernel)
set_option maxRecDepth 100000 in
theorem ml_law_38 : Cond.methodLink "TimeoutYardLaw" 38 y_Yard_init ∈ ty_w := ty_any (by decide +kernel)
set_option maxRecDepth 100000 in
theorem ml_law_41 : Cond.methodLink "TimeoutYardLaw" 41 y_Model_init ∈ ty_w := ty_any (by decide +kernel)
set_option maxRecDepth 100000 in
theorem ml_law_42 : Cond.methodLink "TimeoutYardLaw" 42 y_law_action ∈ ty_w := ty_any (by decide +kernel)
set_option maxRecDepth 100000 in
theorem wt_law_action : Cond.static y_law_action ∈ ty_w := ty_any (by decide +kernel)
set_option maxRecDepth 100000 in
theorem ml_law_47 : Cond.methodLink "TimeoutYardLaw" 47 y_Model_action ∈ ty_w := ty_any (by decide +kernel)
set_option maxRecDepth 100000 in
theorem ml_law_48 : Cond.methodLink "TimeoutYardLaw" 48 y_Model_thrown ∈ ty_w := ty_any (by decide +kernel)
set_option maxRecDepth 100000 in
theorem ml_law_52 : Cond.methodLink "TimeoutYardLaw" 52 y_law_test ∈ ty_w := ty_any (by decide +kernel)
set_option maxRecDepth 100000 in
theorem wt_law_test : Cond.static y_law_test ∈ ty_w := ty_any (by decide +kernel)
set_option maxRecDepth 100000 in
theorem ml_law_55 : Cond.methodLink "TimeoutYardLaw" 55 y_Model_test ∈ ty_w := ty_any (by decide +kernel)
set_option maxRecDepth 100000 in
theorem ml_law_56 : Cond.methodLink "TimeoutYardLaw" 56 y_law_workers ∈ ty_w := ty_any (by decide +kernel)
set_option maxRecDepth 100000 in
theorem wt_law_workers : Cond.static y_law_workers ∈ ty_w := ty_any (by decide +kernel)
set_option maxRecDepth 100000 in
theorem ml_law_59 : Cond.methodLink "TimeoutYardLaw" 59 y_Model_workers ∈ ty_w := ty_any (by decide +kernel)
set_option maxRecDepth 100000 in
theorem ml_law_60 : Cond.methodLink "TimeoutYardLaw" 60 y_Yard_run ∈ ty_w := ty_any (by decide +kernel)
set_option maxRecDepth 100000 in
theorem ml_law_63 : Cond.methodLink "TimeoutYardLaw" 63 y_Model_run ∈ ty_w := ty_any (by decide +kernel)
set_option maxRecDepth 100000 in
theorem ml_law_64 : Cond.methodLink "TimeoutYardLaw" 64 y_law_look ∈ ty_w := ty_any (by decide +kernel)
set_option maxRecDepth 100000 in
theorem wt_law_look : Cond.static y_law_look ∈ ty_w := ty_any (by decide +kernel)
set_option maxRecDepth 100000 in
theorem ml_law_67 : Cond.methodLink "TimeoutYardLaw" 67 y_Model_look ∈ ty_w := ty_any (by decide +kernel)
set_option maxRecDepth 100000 in
theorem ml_law_68 : Cond.methodLink "TimeoutYardLaw" 68 y_law_note ∈ ty_w := ty_any (by decide +kernel)
set_option maxRecDepth 100000 in
theorem wt_law_note : Cond.static y_law_note ∈ ty_w := ty_any (by decide +kernel)
set_option maxRecDepth 100000 in
theorem ml_law_70 : Cond.methodLink "TimeoutYardLaw" 70 y_Model_note ∈ ty_w := ty_any (by decide +kernel)
set_option maxRecDepth 100000 in
theorem ml_law_71 : Cond.methodLink "TimeoutYardLaw" 71 y_law_warning ∈ ty_w := ty_any (by decide +kernel)
set_option maxRecDepth 100000 in
theorem wt_law_warning : Cond.static y_law_warning ∈ ty_w := ty_any (by decide +kernel)
set_option maxRecDepth 100000 in
theorem ml_law_73 : Cond.methodLink "TimeoutYardLaw" 73 y_Model_warning ∈ ty_w := ty_any (by decide +kernel)
set_option maxRecDepth 100000 in
theorem ml_law_74 : Cond.methodLink "TimeoutYardLaw" 74 y_law_count ∈ ty_w := ty_any (by decide +kernel)
set_option maxRecDepth 100000 in
theorem wt_law_count : Cond.static y_law_count ∈ ty_w := ty_any (by decide +kernel)
set_option maxRecDepth 100000 in
theorem ml_law_76 : Cond.methodLink "TimeoutYardLaw" 76 y_Model_count ∈ ty_w := ty_any (by decide +kernel)
set_option maxRecDepth 100000 in
theorem kl_law_8 : Cond.classLink "TimeoutYardLaw" 8 R_Yard ∈ ty_w := ty_any (by decide +kernel)
set_option maxRecDepth 100000 in
theorem kl_law_39 : Cond.classLink "TimeoutYardLaw" 39 R_Model ∈ ty_w := ty_any (by decide +kernel)
/-! THE LAW -/
def LX (p : Program) (l : Launch) (s : State) (m : MethodId) (args : Array Value) (c : Code) (D : va_G) (cA : Nat → ClassId) (cL : ClassId) (n b L : Nat) (xs : Nat → Int32) : Prop :=
  p.tables.exec = Jvm.exec ∧ c.code = code ∧ c.maxLocals = 7 ∧ s.vm.findClass "TimeoutYardLaw" = some m.cls ∧ (∀ w ∈ ty_w, w.before args s = true) ∧ va_K D classes (wr_tys cA cL) s ∧ (th_W s s.heap ∧ th_NC s) ∧ va_X b L xs s s.heap ∧ b < s.heap.size ∧ s.heap.size = n ∧ L ≤ 2560 ∧ l.stackTraces = false
def lw_A (n : Nat) : Nat → Prop := fun q => n ≤ q
/-- the two worlds, the law's own array, nothing old changed -/
def lw_W (D : va_G) (cA : Nat → ClassId) (cL : ClassId) (n : Nat) (s : State) (σ τ : ty_St) (f : Nat → Int64) (H : Heap) (locs : List Loc) : Prop :=
  ty_H cnC D (adX n) cA σ H ∧ ty_H cnM D (adX n) cA τ H ∧ va_at D classes (wr_o (n + 143) cL f) H ∧ va_S (lw_A n) s.heap H locs
theorem lw_oC {n : Nat} : ¬ ty_A cnC (adX n) (n + 143) := by
  rintro ⟨a, i, hi, e⟩
  have := adX_hi (n := n) hi
  omega
theorem lw_MC {n q : Nat} (h : ty_A cnM (adX n) q) : ¬ wr_A (adX n) (n + 143) q := by
  obtain ⟨a, i, hi, rfl⟩ := h
  obtain ⟨e1, e2, e3, e4⟩ := adX_M (n := n) hi
  rintro (⟨a', i', hi', e⟩ | e)
  · have := adX_hi (n := n) hi'
    omega
  · omega
theorem lw_CM {n q : Nat} (h : ty_A cnC (adX n) q) : ¬ ty_A cnM (adX n) q := by
  obtain ⟨a, i, hi, rfl⟩ := h
  have h1 := adX_hi (n := n) hi
  rintro ⟨a', i', hi', e⟩
  obtain ⟨e1, e2, e3, e4⟩ := adX_M (n := n) hi'
  omega
theorem lw_oM {n : Nat} : ¬ ty_A cnM (adX n) (n + 143) := by
  rintro ⟨a', i', hi', e⟩
  obtain ⟨e1, e2, e3, e4⟩ := adX_M (n := n) hi'
  omega
section LAW
variable {p : Program} {l : Launch} {e : Env} {R : Room} {s : State} {m : MethodId} {args : Array Value} {below : List Frame} {meth : Method} {c : Code} {H : Heap} {locs : List Loc} {cells slots : Nat} {Q : State → Prop} {pc : Nat} {ls : Array Slot} {rest : List Value} {D : va_G} {cA : Nat → ClassId} {cL : ClassId} {n b L : Nat} {xs : Nat → Int32} {lv : List (Nat × Value)} {σ τ : ty_St} {f : Nat → Int64}
/-- one number of the script -/
theorem lw_arg (C : LX p l s m args c D cA cL n b L xs) (hl : lv_has ls 7 lv) {j k0 k4 : Nat} (h0 : lv[k0]? = some (0, .ref b)) (h4 : lv[k4]? = some (4, .int (nI j))) (hS : va_S (lw_A n) s.heap H locs) (kk : Nat) (hj : j + kk < L) {q : Int} (hq : Int32.ofInt q = nI kk) (d0 : decode code pc = .ok (.aload_n 0, 1)) (d1 : decode code (pc + 1) = .ok (.iload 4, 2)) (d2 : decode code (pc + 3) = .ok (.iconst q, 1)) (d3 : decode code (pc + 4) = .ok (.iadd, 1)) (d4 : decode code (pc + 5) = .ok (.iaload, 1))
    (k : W p l e R s m args below meth c H locs cells slots Q (F0 m (pc + 6) ls (.int (xs (j + kk)) :: rest))) : W p l e R s m args below meth c H locs cells slots Q (F0 m pc ls rest) := by
  obtain ⟨hx, hb, -, -, -, -, -, hX, hbl, hn, hL, -⟩ := C
  refine lv_aload_n hx hb d0 rfl (lv_at hl k0 h0) ?_
  refine lv_iload hx hb d1 (lv_at hl k4 h4) ?_
  refine lv_iconst hx hb d2 hq ?_
  refine lv_iadd hx hb d3 ?_
  rw [nI_add]
  refine va_sld hx hb hX hbl (by show ¬ n ≤ b; omega) hS (vp_in_nI hj (by omega)) d4 ?_
  rw [nI_clamp (by omega)]
  exact k
/-- a static call of a method with an exception table -/
theorem w_runSW {cc : ByteArray} {nL : Nat} (hx : p.tables.exec = Jvm.exec) (hb : c.code = cc) (hml : c.maxLocals = nL) (hsz : ls.size = nL) {own : String} (hown : s.vm.findClass own = some m.cls) (hts : ∀ w ∈ ty_w, w.before args s = true) {y : MethodName} {bytes : ByteArray} {maxL idx n mc ms : Nat} {ret : Option FieldType} {hh : List (Nat × Nat × Nat × Nat)} {rm : Room} {Pc : Array Value → State → Prop} {Qc : Array Value → State → Outcome → State → Prop} {free : Addr → Prop} {As stk : List Value}
    (hM : Met l y (Cond.codeWith y bytes maxL ret hh :: ty_w) rm Pc Qc mc ms free) (hblind : FrameBlind Pc) (hPc : ∀ U : State, U.heap = H → s.WarmedH U.vm → Pc As.toArray U) (hrm : rm.cells = mc ∧ rm.slots = ms ∧ rm.frames + 1 ≤ R.frames ∧ 8 + (maxL + 11) + rm.locals ≤ R.locals)
    (hw : Cond.methodLink own idx y ∈ ty_w ∧ Cond.static y ∈ ty_w ∧ Cond.initialized y.cls ∈ ty_w ∧ Cond.codeWith y bytes maxL ret hh ∈ ty_w)
    (hd : y.cls ≠ "java/lang/invoke/MethodHandle" ∧ y.cls ≠ "java/lang/invoke/VarHandle" ∧ (parseMethodDescriptor y.desc).map (fun d => d.parameters.length) = some n) (hn : As.length = n) (hstk : stk = As.reverse ++ rest) (h8 : (rest.map fun v => v.category).sum ≤ 8) (hcs : cells + mc ≤ R.cells ∧ slots + ms ≤ R.slots) (d : decode cc pc = .ok (.invokestatic idx, 3)) :
    va_Run p l e R s m args below meth c H locs cells slots mc ms (F0 m pc ls stk) rest (Qc As.toArray) free := by
  have hwd : ∀ w ∈ ty_w, ∀ (a' : Array Value) (U : State), s.WarmedH U.vm → w.before a' U = true := fun w hw a' U hW => word_at hW (ty_good w hw) (hts w hw)
  have hK : Back l R p e below s args y 3 8 (PreOf R mc ms Pc) (PostOf Qc mc ms free) := va_backW (hh := hh) (bytes := bytes) (maxL := maxL) (ret := ret) hM hblind hrm.1 hrm.2.1 hrm.2.2.1 hrm.2.2.2 (fun w hw' a' U hW => by
      rcases List.mem_cons.mp hw' with h | h
      · rw [h]; exact hwd _ hw.2.2.2 a' U hW
      · exact hwd w h a' U hW) List.mem_cons_self (fun a' U hW => hwd _ hw.2.2.1 a' U hW)
  intro T hT X
  obtain ⟨mk, methM, cM, hnamed, hmethM, -, -, -, -, -, -, hsigM⟩ := Cond.codeWith_spec (hts _ hw.2.2.2)
  have hstatic : methM.isStatic = true := Cond.static_spec hnamed hmethM (hts _ hw.2.1)
  obtain ⟨kP, hkP, -⟩ := className_of_methodNamed hnamed
  have hinitP : kP.init = .initialized := Cond.initialized_spec (findClass_of_methodNamed hnamed) hkP (hts _ hw.2.2.1)
  have hlen : As.length = methM.sig.parameters.length := by
    have := hd.2.2
    rw [hsigM] at this
    simp at this
    rw [hn, ← this]
  obtain ⟨vm₁, X₁, hstep₁⟩ := X.invokestatic hx hown (hts _ hw.1) hnamed hmethM hstatic hkP hinitP ⟨hd.1, hd.2.1⟩ (g := F0 m pc ls stk) rfl (argsL := As) (rest := rest) hlen hstk (by rw [hb]; exact d)
  obtain ⟨v, B, X', hpost, hsteps⟩ := hK m meth c ⟨T.setVm vm₁, locs, cells, slots⟩ (F0 m pc ls rest) (.invokestatic idx) mk As.toArray X₁ rfl (by rw [hml]; exact hsz) (by rw [hb]; exact d) (by
    show 2 * (F0 m pc ls rest).monitorRoom + (rest.map fun v => v.category).sum ≤ 8
    have : JFrame.monitorRoom (F0 m pc ls rest) = 0 := rfl
    rw [this]; omega) (X₁.named hnamed) ⟨hcs.1, hcs.2, hPc (T.setVm vm₁) hT X₁.warmed⟩
  obtain ⟨U', l2, c2, s2⟩ := B
  obtain ⟨g', mk', t, L, e1, e2, hq, h1, hL, h2, h3⟩ := hpost
  dsimp only [Pt.U, Pt.locs, Pt.cells, Pt.slots] at X' hsteps e1 e2 h1 h2 h3
  subst h1; subst h2; subst h3
  exact ⟨v, (T.setVm vm₁).calling g' mk' As.toArray, t, U', L, hT, X', hL, e1, e2, hq, fun target h => hstep₁ _ fun acts => by rw [doInvoke_state]; exact hsteps.trans h⟩
/-- a wrapper is called -/
theorem lw_wrap (C : LX p l s m args c D cA cL n b L xs) (hsz : ls.size = 7) (hw : lw_W D cA cL n s σ τ f H locs) {y : MethodName} {bytes : ByteArray} {maxL idx k : Nat} {hh : List (Nat × Nat × Nat × Nat)} {As stk : List Value} {yy : Int32 × Int32 × ty_St}
    (hM : Met l y (Cond.codeWith y bytes maxL (some .int) hh :: ty_w) rmW (wr_P D (adX n) cA cL (n + 143) f σ As) (wr_Q D (adX n) cA cL (n + 143) yy) 1 6 (wr_A (adX n) (n + 143))) (hml : maxL ≤ 7)
    (hws : Cond.methodLink "TimeoutYardLaw" idx y ∈ ty_w ∧ Cond.static y ∈ ty_w ∧ Cond.initialized y.cls ∈ ty_w ∧ Cond.codeWith y bytes maxL (some .int) hh ∈ ty_w)
    (hd : y.cls ≠ "java/lang/invoke/MethodHandle" ∧ y.cls ≠ "java/lang/invoke/VarHandle" ∧ (parseMethodDescriptor y.desc).map (fun d => d.parameters.length) = some k) (hn : As.length = k) (hstk : stk = As.reverse ++ []) (hcs : cells + 1 ≤ 605891 ∧ slots + 6 ≤ 7278430) (d : decode code pc = .ok (.invokestatic idx, 3))
    (kk : ∀ (H1 : Heap) (locs1 : List Loc) (f1 : Nat → Int64), (yy.1 = 0 → f1 0 = yy.2.1.toInt64) → lw_W D cA cL n s yy.2.2 τ f1 H1 locs1 → W p l e room_1 s m args below meth c H1 locs1 (cells + 1) (slots + 6) Q (F0 m (pc + 3) ls [.int yy.1])) : W p l e room_1 s m args below meth c H locs cells slots Q (F0 m pc ls stk) := by
  obtain ⟨hx, hb, hml7, hown, hts, hK, ⟨hth, hnc⟩, hX, hbl, hn0, hL, hl0⟩ := C
  obtain ⟨hC, hMo, hO, hS⟩ := hw
  have old : ∀ q : Nat, q < s.heap.size → H[q]? = s.heap[q]? := fun q hq => hS.2.1 q hq (by show ¬ n ≤ q; omega)
  have run := w_runSW (e := e) (below := below) (meth := meth) (H := H) (locs := locs) (cells := cells) (slots := slots) (R := room_1) (As := As) (rest := []) hx hb hml7 hsz hown hts hM wr_P.blind (fun U hU hW => ⟨rfl, by rw [hU]; exact hC, va_K.moved hW.alike hK, by rw [hU]; exact hO, by rw [hU]; exact (hth.kept old).warm hW, hnc.moved hW.alike⟩) ⟨rfl, rfl, by decide, by show 8 + (maxL + 11) + 220 ≤ 366; omega⟩ hws hd hn hstk (Nat.zero_le _) ⟨hcs.1, hcs.2⟩ d
  intro T hT X
  obtain ⟨v, st₀, t, T', L', h0, X', hLL, e1, e2, ⟨⟨f1, hv, hf1, hC1, hO1⟩, hz, hk⟩, stp⟩ := run T hT X
  cases hv
  rw [h0] at hz hk
  have keep : ∀ q : Nat, q < H.size → ¬ wr_A (adX n) (n + 143) q → T'.heap[q]? = H[q]? := fun q h1 h2 => by rw [e1]; exact hk q h1 h2
  obtain ⟨t2, a1, b1⟩ := kk T'.heap (locs ++ L') f1 hf1 ⟨by rw [e1]; exact hC1, hMo.kept (fun q h1 h2 => keep q h1 (lw_MC h2)), by rw [e1]; exact hO1,
    ⟨Nat.le_trans hS.1 (by rw [e1]; exact hz), fun q h1 h2 => (keep q (Nat.lt_of_lt_of_le h1 hS.1) (fun z => h2 (by
        show n ≤ q
        rcases z with ⟨a, i, hi, rfl⟩ | z
        · exact (adX_hi hi).1
        · omega))).trans (hS.2.1 q h1 h2), fun q hq => by
      rcases List.mem_append.mp hq with h | h
      · exact hS.2.2 q h
      · show n ≤ q.base
        rcases hLL q h with ⟨a, i, hi, z⟩ | z
        · rw [z]; exact (adX_hi hi).1
        · omega⟩⟩ T' rfl X'
  exact ⟨t2, stp t2 a1, b1⟩
/-- a method of the reference is called -/
theorem lw_mod (C : LX p l s m args c D cA cL n b L xs) (hsz : ls.size = 7) (hw : lw_W D cA cL n s σ τ f H locs) {y : MethodName} {bytes : ByteArray} {maxL idx k : Nat} {As : List Int32} {stk : List Value} {P : Option ty_SV → ty_St → Prop} {rm : Room}
    (hM : ty_M l y (Cond.code y bytes maxL (some .int) :: ty_w) rm cnM D (adX n) cA (.inr (20, 0) :: As.map .inl) τ P) (hy : y.cls = R_Model) (hR : rm.cells = 0 ∧ rm.slots = 0 ∧ rm.frames + 1 ≤ 10 ∧ 8 + (maxL + 11) + rm.locals ≤ 366)
    (hws : Cond.methodLink "TimeoutYardLaw" idx y ∈ ty_w ∧ Cond.instanceMethod y ∈ ty_w ∧ Cond.selects y.cls y y ∈ ty_w ∧ Cond.initialized y.cls ∈ ty_w ∧ Cond.code y bytes maxL (some .int) ∈ ty_w)
    (hd : y.cls ≠ "java/lang/invoke/MethodHandle" ∧ y.cls ≠ "java/lang/invoke/VarHandle" ∧ (parseMethodDescriptor y.desc).map (fun d => d.parameters.length) = some k) (hn : As.length = k) (hstk : stk = (As.map Value.int).reverse ++ .ref (n + 114) :: rest) (h8 : (rest.map fun v => v.category).sum ≤ 8) (hcs : cells ≤ 605891 ∧ slots ≤ 7278430) (d : decode code pc = .ok (.invokevirtual idx, 3))
    (kk : ∀ (r : Option ty_SV) (τ' : ty_St) (H1 : Heap) (locs1 : List Loc), P r τ' → lw_W D cA cL n s σ τ' f H1 locs1 → W p l e room_1 s m args below meth c H1 locs1 cells slots Q (F0 m (pc + 3) ls ((r.map (ty_sv (adX n))).toList ++ rest))) : W p l e room_1 s m args below meth c H locs cells slots Q (F0 m pc ls stk) := by
  obtain ⟨hx, hb, hml7, hown, hts, hK, ⟨hth, hnc⟩, hX, hbl, hn0, hL, hl0⟩ := C
  obtain ⟨hC, hMo, hO, hS⟩ := hw
  have e1 : (As.map (Sum.inl (β := Nat × Nat))).map (ty_sv (adX n)) = As.map Value.int := by
    rw [List.map_map]; rfl
  have run := w_runV (e := e) (below := below) (meth := meth) (locs := locs) (cells := cells) (slots := slots) (R := room_1) (ad := adX n) (a := 20) (i := 0) (ci := 6) (rest := rest) (stk := stk) hx hb hml7 hsz hown hts (wr_K hK) hM rfl rfl hy hMo (by decide) hR hws hd (by simpa using hn) (by rw [e1]; exact hstk) h8 hcs d
  refine w_call run hS (fun q _ h => ?_) (fun q h => ?_) (fun r τ' H1 locs1 hP hH1 hk1 hz1 hS1 => ?_)
  · obtain ⟨a, i, hi, rfl⟩ := h
    obtain ⟨q1, q2, q3, q4⟩ := adX_M (n := n) hi
    show n ≤ _
    omega
  · obtain ⟨a, i, hi, rfl⟩ := h
    obtain ⟨q1, q2, q3, q4⟩ := adX_M (n := n) hi
    show n ≤ _
    omega
  exact kk r τ' H1 locs1 hP ⟨hC.kept (fun q h1 h2 => hk1 q h1 (lw_CM h2)), hH1, hO.kept (hk1 _ hO.lt lw_oM), hS1⟩
/-- the class's own run -/
theorem lw_run (C : LX p l s m args c D cA cL n b L xs) (hsz : ls.size = 7) (hw : lw_W D cA cL n s σ τ f H locs) {stk : List Value} {P : Option ty_SV → ty_St → Prop} {idx : Nat}
    (hM : ty_M l y_Yard_run (Cond.code y_Yard_run b_Yard_run 1 (some .int) :: ty_w) (rmL 7) cnC D (adX n) cA [.inr (0, 0)] σ P)
    (hws : Cond.methodLink "TimeoutYardLaw" idx y_Yard_run ∈ ty_w) (hstk : stk = .ref n :: rest) (h8 : (rest.map fun v => v.category).sum ≤ 8) (hcs : cells ≤ 605891 ∧ slots ≤ 7278430) (d : decode code pc = .ok (.invokevirtual idx, 3))
    (kk : ∀ (r : Option ty_SV) (σ' : ty_St) (H1 : Heap) (locs1 : List Loc), P r σ' → lw_W D cA cL n s σ' τ f H1 locs1 → W p l e room_1 s m args below meth c H1 locs1 cells slots Q (F0 m (pc + 3) ls ((r.map (ty_sv (adX n))).toList ++ rest))) : W p l e room_1 s m args below meth c H locs cells slots Q (F0 m pc ls stk) := by
  obtain ⟨hx, hb, hml7, hown, hts, hK, ⟨hth, hnc⟩, hX, hbl, hn0, hL, hl0⟩ := C
  obtain ⟨hC, hMo, hO, hS⟩ := hw
  have run := w_runV (n := 0) (e := e) (below := below) (meth := meth) (locs := locs) (cells := cells) (slots := slots) (R := room_1) (ad := adX n) (a := 0) (i := 0) (As := []) (ci := 0) (rest := rest) (stk := stk) hx hb hml7 hsz hown hts (wr_K hK) hM rfl rfl rfl hC (by decide) ⟨rfl, rfl, by decide, by decide⟩ ⟨hws, wi_Yard_run, ws_Yard_run, wn_Yard, wc_Yard_run⟩ ⟨by decide +kernel, by decide +kernel, by decide +kernel⟩ rfl hstk h8 hcs d
  refine w_call run hS (fun q _ h => ?_) (fun q h => ?_) (fun r σ' H1 locs1 hP hH1 hk1 hz1 hS1 => ?_)
  · obtain ⟨a, i, hi, rfl⟩ := h
    exact (adX_hi hi).1
  · obtain ⟨a, i, hi, rfl⟩ := h
    exact (adX_hi hi).1
  exact kk r σ' H1 locs1 hP ⟨hH1, hMo.kept (fun q h1 h2 => hk1 q h1 (fun z => lw_CM z h2)), hO.kept (hk1 _ hO.lt lw_oC), hS1⟩
theorem lg_cmp_self {x y : Int64} (h : x = y) : lg_cmp x y = 0 := by
  subst h
  simp [lg_cmp]
/-- behind the two calls: what they answered is compared -/
theorem lw_tail (C : LX p l s m args c D cA cL n b L xs) (hw : lw_W D cA cL n s σ τ f H locs) {k v : Int32} {i : Int32} (hl : lv_has ls 7 [(6, .int v), (5, .int k), (4, .int i), (3, .ref (n + 143)), (2, .ref (n + 114)), (1, .ref n), (0, .ref b)]) (h0 : τ 20 0 0 = k) (h1 : k = 0 → f 0 = v.toInt64) (hcs : cells ≤ 605891 ∧ slots ≤ 7278430)
    {off : Int} (d0 : decode code pc = .ok (.aload_n 2, 1)) (d1 : decode code (pc + 1) = .ok (.invokevirtual 48, 3)) (d2 : decode code (pc + 4) = .ok (.iload 5, 2)) (d3 : decode code (pc + 6) = .ok (.if_icmp .eq 5, 3)) (d4 : decode code (pc + 11) = .ok (.iload 5, 2)) (d5 : decode code (pc + 13) = .ok (.ifCond .ne 15, 3)) (d6 : decode code (pc + 16) = .ok (.aload_n 3, 1)) (d7 : decode code (pc + 17) = .ok (.iconst 0, 1)) (d8 : decode code (pc + 18) = .ok (.laload, 1)) (d9 : decode code (pc + 19) = .ok (.iload 6, 2)) (d10 : decode code (pc + 21) = .ok (.i2l, 1)) (d11 : decode code (pc + 22) = .ok (.lcmp, 1)) (d12 : decode code (pc + 23) = .ok (.ifCond .eq 5, 3)) (d13 : decode code (pc + 28) = .ok (.goto off, 3)) (ho : ((pc + 28 : Nat) : Int) + off = ((561 : Nat) : Int))
    (kk : ∀ (H1 : Heap) (locs1 : List Loc), lw_W D cA cL n s σ τ f H1 locs1 → W p l e room_1 s m args below meth c H1 locs1 cells slots Q (F0 m 561 ls [])) : W p l e room_1 s m args below meth c H locs cells slots Q (F0 m pc ls []) := by
  have hx := C.1
  have hb := C.2.1
  refine lv_aload_n hx hb d0 rfl (lv_at hl 4 rfl) ?_
  refine lw_mod (k := 0) (As := []) (rest := []) C hl.1 hw (m_thrown l adX_JM τ) rfl ⟨rfl, rfl, by decide, by decide⟩ ⟨ml_law_48, wi_Model_thrown, ws_Model_thrown, wn_Model, wc_Model_thrown⟩ ⟨by decide +kernel, by decide +kernel, by decide +kernel⟩ rfl rfl (Nat.zero_le _) hcs d1 (fun r τ' H1 locs1 hP hw1 => ?_)
  obtain ⟨rfl, rfl⟩ := hP
  show W p l e room_1 s m args below meth c H1 locs1 cells slots Q (F0 m (pc + 1 + 3) ls [.int (τ' 20 0 0)])
  refine lv_iload hx hb d2 (lv_at hl 1 rfl) ?_
  refine lv_icmp_eq (tgt := pc + 11) hx hb d3 (by omega) (fun _ => ?_) (fun h => absurd h0 h)
  refine lv_iload hx hb d4 (lv_at hl 1 rfl) ?_
  have last : W p l e room_1 s m args below meth c H1 locs1 cells slots Q (F0 m (pc + 28) ls []) := lv_goto (tgt := 561) hx hb d13 ho (kk H1 locs1 hw1)
  refine lv_if_ne (tgt := pc + 28) hx hb d5 (by omega) (fun _ => last) (fun hk => ?_)
  refine lv_aload_n hx hb d6 rfl (lv_at hl 3 rfl) ?_
  refine lv_iconst (v := 0) hx hb d7 (by decide) ?_
  refine va_lald (ws := [wr_o (n + 143) cL f]) hx hb C.2.2.2.2.2.1 (ty_one hw1.2.2.1) 0 5 rfl rfl (by unfold vp_in; decide) d8 ?_
  refine lv_iload hx hb d9 (lv_at hl 0 rfl) ?_
  refine lv_i2l hx hb d10 rfl ?_
  refine W.lcmp hx hb d11 ?_
  rw [lg_cmp_self (show f (0 : Int32).toNatClampNeg = v.toInt64 from h1 hk)]
  exact lv_if_eq (tgt := pc + 28) hx hb d12 (by omega) (fun _ => last) (fun h => absurd rfl h)
end LAW
