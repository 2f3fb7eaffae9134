/-! THE CLAIM OUT OF ONE WALK OF THE LAW'S BODY. Your part is whole_start (and what it stands on); all else here is the same for every law, but numbers. -/
def R_law : String := "TimeoutYardLaw"
def lw_P (b : Addr) (xs : List Int32) (args : Array Value) (s : State) : Prop := args = #[.ref b] ∧ s.IntsAt b xs ∧ xs.length ≤ 2560 ∧ (Jvm.Cond.and given_1 narrow_1).before args s = true
def lw_Q (_ : Array Value) (s : State) (o : Outcome) (t : State) : Prop := o = .returned (some (.int 1)) ∧ Framed s o t [] 605891 7278430
def lw_Z (below : List Frame) (a : Array Value) (s : State) : State → Prop := fun t => ∃ o, t.status = .running ∧ Ended t below o ∧ lw_Q a s o t
/-- the law's own end, with 1 on the stack, nothing written that was there before, its room as the claim has it -/
theorem lw_ret {p : Program} {l : Launch} {e : Env} {s : State} {m : MethodId} {below : List Frame} {meth : Method} {c : Code} {b : Nat} (hx : p.tables.exec = Jvm.exec) (hb : c.code = code) (hr : meth.sig.returnType = ret) (hlocks : meth.locks = false) {pc : Nat} {H : Heap} {ls : Array Slot} (hdg : decode code pc = .ok (.ireturn, 1)) : W p l e room_1 s m #[Value.ref b] below meth c H [] 605891 7278430 (lw_Z below #[Value.ref b] s) (F0 m pc ls [.int 1]) := by
  intro T hT X
  obtain ⟨fs, hret, hrun, hended, hW, hframe⟩ := X.leave (v := some (.int 1)) (hlocks := hlocks) (fun h => by rw [hr] at h; cases h)
  have hmeth' : T.vm.method? m = some meth := X.method'
  refine ⟨T.setFrames fs, ?_, .returned (some (.int 1)), hrun, hended, rfl, ⟨_, rfl⟩, hW, hframe⟩
  jvm_step X.here [X.here.top, hx, hb, hdg, hmeth', hr, ret, narrow_b1]
  (try refine ⟨rfl, ?_⟩); (try refine ⟨rfl, ?_⟩)
  first | (intro acts; rw [hret _ acts rfl rfl rfl]) | rw [hret _ _ rfl rfl rfl]
  exact Steps.refl _
/-- what holds at the law's entry: the machine, the code, the tables' words (any of lw_tbl by 'hts w (by decide +kernel)'), the script of L ints xs at the cell b, what the Statement gives of the start (any of its parts by flat_of_before) -/
def lw_At (p : Program) (s : State) (m : MethodId) (meth : Method) (c : Code) (b L : Nat) (xs : Nat → Int32) : Prop :=
  p.tables.exec = Jvm.exec ∧ c.code = code ∧ meth.sig.returnType = ret ∧ c.maxLocals = 7 ∧ s.vm.findClass R_law = some m.cls ∧ (∀ w ∈ lw_tbl, w.before #[Value.ref b] s = true) ∧ va_X b L xs s s.heap ∧ b < s.heap.size ∧ meth.locks = false ∧ (Jvm.Cond.and given_1 narrow_1).before #[Value.ref b] s = true

theorem and7 (x : Int32) : 0 ≤ (x &&& 7).toInt ∧ (x &&& 7).toInt ≤ 7 := by
  have h : (x &&& 7).toBitVec.toNat ≤ 7 := by
    rw [Int32.toBitVec_and, BitVec.toNat_and]
    exact Nat.and_le_right
  have e : (x &&& 7).toInt = (x &&& 7).toBitVec.toInt := rfl
  rw [e, BitVec.toInt_eq_toNat_cond]
  split <;> omega
theorem law_more {L j : Nat} (hL : L ≤ 2560) (hj : j ≤ 2560) (h : ¬ Int32.ofNat L - nI 5 < nI j) : j + 5 ≤ L := by
  have h1 : (nI j).toInt = j := nI_toInt (by omega)
  have h2 : (Int32.ofNat L).toInt = L := nI_toInt (n := L) (by omega)
  have h5 : (nI 5).toInt = 5 := by decide
  have h3 : (Int32.ofNat L - nI 5).toInt = (L : Int) - 5 := by
    rw [Int32.toInt_sub, h2, h5]
    exact Int.bmod_eq_of_le (by omega) (by omega)
  have h4 : ¬ (Int32.ofNat L - nI 5).toInt < (nI j).toInt := fun z => h (Int32.lt_iff_toInt_lt.mpr z)
  rw [h3, h1] at h4
  omega
set_option maxHeartbeats 4000000 in
set_option maxRecDepth 100000 in
theorem law_loop {p : Program} {l : Launch} {e : Env} {s : State} {m : MethodId} {below : List Frame} {meth : Method} {c : Code} {D : va_G} {cA : Nat → ClassId} {cL : ClassId} {n b L : Nat} {xs : Nat → Int32} (C : LX p l s m #[Value.ref b] c D cA cL n b L xs) (hr : meth.sig.returnType = ret) (hlocks : meth.locks = false) :
    ∀ (r j : Nat), L ≤ j + r → j ≤ L → ∀ (H : Heap) (locs : List Loc) (ls : Array Slot), lw_J D cA cL n s H locs → lv_has ls 7 [(4, .int (nI j)), (3, .ref (n + 143)), (2, .ref (n + 114)), (1, .ref n), (0, .ref b)] → W p l e room_1 s m #[Value.ref b] below meth c H locs (144 + j) (2244 + 6 * j) (lw_Z below #[Value.ref b] s) (F0 m 23 ls []) := by
  obtain ⟨hx, hb, -, -, -, -, -, hX, hbl, hn, hL, -⟩ := id C
  have hbA : ¬ lw_A n b := by show ¬ n ≤ b; omega
  intro r
  induction r with
  | zero =>
    intro j h1 h2 H locs ls hJ hl
    have hS := hJ.choose_spec.choose_spec.choose_spec.choose_spec.choose_spec.2.2.2.2
    refine lv_iload hx hb d_law_law_23 (lv_at hl 0 rfl) ?_
    refine lv_aload_n hx hb d_law_law_25 rfl (lv_at hl 4 rfl) ?_
    refine va_slen hx hb hX hbl hbA hS d_law_law_26 ?_
    refine lv_iconst (v := nI 5) hx hb d_law_law_27 (by decide) ?_
    refine lv_isub hx hb d_law_law_28 ?_
    refine lv_icmp_gt (tgt := 567) hx hb d_law_law_29 (by decide) (fun _ => ?_) (fun h => absurd (law_more hL (by omega) h) (by omega))
    refine va_forget (fun q hq => by have := hS.2.2 q hq; have h9 : n ≤ q.base := this; omega) ?_
    refine W.widen (k := 605891) (n := 7278430) (by omega) (by omega) ?_
    refine lv_iconst (v := 1) hx hb d_law_law_567 (by decide) ?_
    exact lw_ret hx hb hr hlocks d_law_law_568
  | succ r ih =>
    intro j h1 h2 H locs ls hJ hl
    have hS := hJ.choose_spec.choose_spec.choose_spec.choose_spec.choose_spec.2.2.2.2
    refine lv_iload hx hb d_law_law_23 (lv_at hl 0 rfl) ?_
    refine lv_aload_n hx hb d_law_law_25 rfl (lv_at hl 4 rfl) ?_
    refine va_slen hx hb hX hbl hbA hS d_law_law_26 ?_
    refine lv_iconst (v := nI 5) hx hb d_law_law_27 (by decide) ?_
    refine lv_isub hx hb d_law_law_28 ?_
    refine lv_icmp_gt (tgt := 567) hx hb d_law_law_29 (by decide) (fun _ => ?_) (fun h => ?_)
    · refine va_forget (fun q hq => by have := hS.2.2 q hq; have h9 : n ≤ q.base := this; omega) ?_
      refine W.widen (k := 605891) (n := 7278430) (by omega) (by omega) ?_
      refine lv_iconst (v := 1) hx hb d_law_law_567 (by decide) ?_
      exact lw_ret hx hb hr hlocks d_law_law_568
    · have hj := law_more hL (by omega) h
      have next : ∀ (H : Heap) (locs : List Loc) (ls : Array Slot), lw_J D cA cL n s H locs → lv_has ls 7 [(4, .int (nI j)), (3, .ref (n + 143)), (2, .ref (n + 114)), (1, .ref n), (0, .ref b)] → W p l e room_1 s m #[Value.ref b] below meth c H locs (144 + j + 1) (2244 + 6 * j + 6) (lw_Z below #[Value.ref b] s) (F0 m 561 ls []) := by
        intro H locs ls hJ hl
        refine lv_iinc (v := nI (j + 5)) hx hb d_law_law_561 hl (k := 0) rfl (nI_add j 5) (by decide) rfl (fun ls' hl' => ?_)
        refine lv_goto (tgt := 23) hx hb d_law_law_564 (by decide) ?_
        refine W.widen (k := 144 + (j + 5)) (n := 2244 + 6 * (j + 5)) (by omega) (by omega) ?_
        exact ih (j + 5) (by omega) hj H locs ls' hJ hl'
      have hcs : 144 + j + 1 ≤ 605891 ∧ 2244 + 6 * j + 6 ≤ 7278430 := by omega
      refine lv_aload_n hx hb d_law_law_32 rfl (lv_at hl 4 rfl) ?_
      refine lv_iload hx hb d_law_law_33 (lv_at hl 0 rfl) ?_
      refine va_sld hx hb hX hbl hbA hS (vp_in_nI (by omega) (by omega)) d_law_law_35 ?_
      refine lv_bipush (v := 7) hx hb d_law_law_36 (by decide) ?_
      refine lv_iand hx hb d_law_law_38 ?_
      have ha := and7 (xs (nI j).toNatClampNeg)
      generalize xs (nI j).toNatClampNeg &&& 7 = v at ha ⊢
      by_cases e0 : v = 0
      · subst e0
        refine lv_tableIn (off := 45) (tgt := 84) hx hb d_law_law_39 (by decide) (by decide) (by decide) (by decide) ?_
        exact la_action C hcs j hj next H locs ls hJ hl
      by_cases e1 : v = 1
      · subst e1
        refine lv_tableIn (off := 125) (tgt := 164) hx hb d_law_law_39 (by decide) (by decide) (by decide) (by decide) ?_
        exact la_test C hcs j hj next H locs ls hJ hl
      by_cases e2 : v = 2
      · subst e2
        refine lv_tableIn (off := 217) (tgt := 256) hx hb d_law_law_39 (by decide) (by decide) (by decide) (by decide) ?_
        exact la_workers C hcs j hj next H locs ls hJ hl
      by_cases e3 : v = 3
      · subst e3
        refine lv_tableIn (off := 273) (tgt := 312) hx hb d_law_law_39 (by decide) (by decide) (by decide) (by decide) ?_
        exact la_run C hcs j hj next H locs ls hJ hl
      by_cases e4 : v = 4
      · subst e4
        refine lv_tableIn (off := 286) (tgt := 325) hx hb d_law_law_39 (by decide) (by decide) (by decide) (by decide) ?_
        exact la_look C hcs j hj next H locs ls hJ hl
      by_cases e5 : v = 5
      · subst e5
        refine lv_tableIn (off := 354) (tgt := 393) hx hb d_law_law_39 (by decide) (by decide) (by decide) (by decide) ?_
        exact la_note C hcs j hj next H locs ls hJ hl
      by_cases e6 : v = 6
      · subst e6
        refine lv_tableIn (off := 410) (tgt := 449) hx hb d_law_law_39 (by decide) (by decide) (by decide) (by decide) ?_
        exact la_warning C hcs j hj next H locs ls hJ hl
      by_cases e7 : v = 7
      · subst e7
        refine lv_tableIn (off := 466) (tgt := 505) hx hb d_law_law_39 (by decide) (by decide) (by decide) (by decide) ?_
        exact la_count C hcs j hj next H locs ls hJ hl
      have f0 : ¬ v.toInt = 0 := lv_neT e0 (by decide)
      have f1 : ¬ v.toInt = 1 := lv_neT e1 (by decide)
      have f2 : ¬ v.toInt = 2 := lv_neT e2 (by decide)
      have f3 : ¬ v.toInt = 3 := lv_neT e3 (by decide)
      have f4 : ¬ v.toInt = 4 := lv_neT e4 (by decide)
      have f5 : ¬ v.toInt = 5 := lv_neT e5 (by decide)
      have f6 : ¬ v.toInt = 6 := lv_neT e6 (by decide)
      have f7 : ¬ v.toInt = 7 := lv_neT e7 (by decide)
      exact absurd ha (by omega)
