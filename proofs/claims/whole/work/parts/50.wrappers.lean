theorem d_law_action_0 : decode b_law_action 0 = .ok (.aload 4, 2) := by decide +kernel
theorem d_law_action_2 : decode b_law_action 2 = .ok (.iconst 0, 1) := by decide +kernel
theorem d_law_action_3 : decode b_law_action 3 = .ok (.aload_n 0, 1) := by decide +kernel
theorem d_law_action_4 : decode b_law_action 4 = .ok (.iload_n 1, 1) := by decide +kernel
theorem d_law_action_5 : decode b_law_action 5 = .ok (.iload_n 2, 1) := by decide +kernel
theorem d_law_action_6 : decode b_law_action 6 = .ok (.iload_n 3, 1) := by decide +kernel
theorem d_law_action_7 : decode b_law_action 7 = .ok (.invokevirtual 7, 3) := by decide +kernel
theorem d_law_action_10 : decode b_law_action 10 = .ok (.i2l, 1) := by decide +kernel
theorem d_law_action_11 : decode b_law_action 11 = .ok (.lastore, 1) := by decide +kernel
theorem d_law_action_12 : decode b_law_action 12 = .ok (.goto 11, 3) := by decide +kernel
theorem d_law_action_15 : decode b_law_action 15 = .ok (.astore 5, 2) := by decide +kernel
theorem d_law_action_17 : decode b_law_action 17 = .ok (.iconst 1, 1) := by decide +kernel
theorem d_law_action_18 : decode b_law_action 18 = .ok (.ireturn, 1) := by decide +kernel
theorem d_law_action_19 : decode b_law_action 19 = .ok (.astore 5, 2) := by decide +kernel
theorem d_law_action_21 : decode b_law_action 21 = .ok (.iconst 2, 1) := by decide +kernel
theorem d_law_action_22 : decode b_law_action 22 = .ok (.ireturn, 1) := by decide +kernel
theorem d_law_action_23 : decode b_law_action 23 = .ok (.iconst 0, 1) := by decide +kernel
theorem d_law_action_24 : decode b_law_action 24 = .ok (.ireturn, 1) := by decide +kernel
theorem d_law_test_0 : decode b_law_test 0 = .ok (.aload 5, 2) := by decide +kernel
theorem d_law_test_2 : decode b_law_test 2 = .ok (.iconst 0, 1) := by decide +kernel
theorem d_law_test_3 : decode b_law_test 3 = .ok (.aload_n 0, 1) := by decide +kernel
theorem d_law_test_4 : decode b_law_test 4 = .ok (.iload_n 1, 1) := by decide +kernel
theorem d_law_test_5 : decode b_law_test 5 = .ok (.iload_n 2, 1) := by decide +kernel
theorem d_law_test_6 : decode b_law_test 6 = .ok (.iload_n 3, 1) := by decide +kernel
theorem d_law_test_7 : decode b_law_test 7 = .ok (.iload 4, 2) := by decide +kernel
theorem d_law_test_9 : decode b_law_test 9 = .ok (.invokevirtual 17, 3) := by decide +kernel
theorem d_law_test_12 : decode b_law_test 12 = .ok (.i2l, 1) := by decide +kernel
theorem d_law_test_13 : decode b_law_test 13 = .ok (.lastore, 1) := by decide +kernel
theorem d_law_test_14 : decode b_law_test 14 = .ok (.goto 11, 3) := by decide +kernel
theorem d_law_test_17 : decode b_law_test 17 = .ok (.astore 6, 2) := by decide +kernel
theorem d_law_test_19 : decode b_law_test 19 = .ok (.iconst 1, 1) := by decide +kernel
theorem d_law_test_20 : decode b_law_test 20 = .ok (.ireturn, 1) := by decide +kernel
theorem d_law_test_21 : decode b_law_test 21 = .ok (.astore 6, 2) := by decide +kernel
theorem d_law_test_23 : decode b_law_test 23 = .ok (.iconst 2, 1) := by decide +kernel
theorem d_law_test_24 : decode b_law_test 24 = .ok (.ireturn, 1) := by decide +kernel
theorem d_law_test_25 : decode b_law_test 25 = .ok (.iconst 0, 1) := by decide +kernel
theorem d_law_test_26 : decode b_law_test 26 = .ok (.ireturn, 1) := by decide +kernel
theorem d_law_workers_0 : decode b_law_workers 0 = .ok (.aload_n 2, 1) := by decide +kernel
theorem d_law_workers_1 : decode b_law_workers 1 = .ok (.iconst 0, 1) := by decide +kernel
theorem d_law_workers_2 : decode b_law_workers 2 = .ok (.aload_n 0, 1) := by decide +kernel
theorem d_law_workers_3 : decode b_law_workers 3 = .ok (.iload_n 1, 1) := by decide +kernel
theorem d_law_workers_4 : decode b_law_workers 4 = .ok (.invokevirtual 21, 3) := by decide +kernel
theorem d_law_workers_7 : decode b_law_workers 7 = .ok (.i2l, 1) := by decide +kernel
theorem d_law_workers_8 : decode b_law_workers 8 = .ok (.lastore, 1) := by decide +kernel
theorem d_law_workers_9 : decode b_law_workers 9 = .ok (.goto 6, 3) := by decide +kernel
theorem d_law_workers_12 : decode b_law_workers 12 = .ok (.astore_n 3, 1) := by decide +kernel
theorem d_law_workers_13 : decode b_law_workers 13 = .ok (.iconst 1, 1) := by decide +kernel
theorem d_law_workers_14 : decode b_law_workers 14 = .ok (.ireturn, 1) := by decide +kernel
theorem d_law_workers_15 : decode b_law_workers 15 = .ok (.iconst 0, 1) := by decide +kernel
theorem d_law_workers_16 : decode b_law_workers 16 = .ok (.ireturn, 1) := by decide +kernel
theorem d_law_look_0 : decode b_law_look 0 = .ok (.aload_n 3, 1) := by decide +kernel
theorem d_law_look_1 : decode b_law_look 1 = .ok (.iconst 0, 1) := by decide +kernel
theorem d_law_look_2 : decode b_law_look 2 = .ok (.aload_n 0, 1) := by decide +kernel
theorem d_law_look_3 : decode b_law_look 3 = .ok (.iload_n 1, 1) := by decide +kernel
theorem d_law_look_4 : decode b_law_look 4 = .ok (.iload_n 2, 1) := by decide +kernel
theorem d_law_look_5 : decode b_law_look 5 = .ok (.invokevirtual 25, 3) := by decide +kernel
theorem d_law_look_8 : decode b_law_look 8 = .ok (.i2l, 1) := by decide +kernel
theorem d_law_look_9 : decode b_law_look 9 = .ok (.lastore, 1) := by decide +kernel
theorem d_law_look_10 : decode b_law_look 10 = .ok (.goto 7, 3) := by decide +kernel
theorem d_law_look_13 : decode b_law_look 13 = .ok (.astore 4, 2) := by decide +kernel
theorem d_law_look_15 : decode b_law_look 15 = .ok (.iconst 1, 1) := by decide +kernel
theorem d_law_look_16 : decode b_law_look 16 = .ok (.ireturn, 1) := by decide +kernel
theorem d_law_look_17 : decode b_law_look 17 = .ok (.iconst 0, 1) := by decide +kernel
theorem d_law_look_18 : decode b_law_look 18 = .ok (.ireturn, 1) := by decide +kernel
theorem d_law_note_0 : decode b_law_note 0 = .ok (.aload_n 2, 1) := by decide +kernel
theorem d_law_note_1 : decode b_law_note 1 = .ok (.iconst 0, 1) := by decide +kernel
theorem d_law_note_2 : decode b_law_note 2 = .ok (.aload_n 0, 1) := by decide +kernel
theorem d_law_note_3 : decode b_law_note 3 = .ok (.iload_n 1, 1) := by decide +kernel
theorem d_law_note_4 : decode b_law_note 4 = .ok (.invokevirtual 29, 3) := by decide +kernel
theorem d_law_note_7 : decode b_law_note 7 = .ok (.i2l, 1) := by decide +kernel
theorem d_law_note_8 : decode b_law_note 8 = .ok (.lastore, 1) := by decide +kernel
theorem d_law_note_9 : decode b_law_note 9 = .ok (.goto 6, 3) := by decide +kernel
theorem d_law_note_12 : decode b_law_note 12 = .ok (.astore_n 3, 1) := by decide +kernel
theorem d_law_note_13 : decode b_law_note 13 = .ok (.iconst 1, 1) := by decide +kernel
theorem d_law_note_14 : decode b_law_note 14 = .ok (.ireturn, 1) := by decide +kernel
theorem d_law_note_15 : decode b_law_note 15 = .ok (.iconst 0, 1) := by decide +kernel
theorem d_law_note_16 : decode b_law_note 16 = .ok (.ireturn, 1) := by decide +kernel
theorem d_law_warning_0 : decode b_law_warning 0 = .ok (.aload_n 2, 1) := by decide +kernel
theorem d_law_warning_1 : decode b_law_warning 1 = .ok (.iconst 0, 1) := by decide +kernel
theorem d_law_warning_2 : decode b_law_warning 2 = .ok (.aload_n 0, 1) := by decide +kernel
theorem d_law_warning_3 : decode b_law_warning 3 = .ok (.iload_n 1, 1) := by decide +kernel
theorem d_law_warning_4 : decode b_law_warning 4 = .ok (.invokevirtual 32, 3) := by decide +kernel
theorem d_law_warning_7 : decode b_law_warning 7 = .ok (.i2l, 1) := by decide +kernel
theorem d_law_warning_8 : decode b_law_warning 8 = .ok (.lastore, 1) := by decide +kernel
theorem d_law_warning_9 : decode b_law_warning 9 = .ok (.goto 6, 3) := by decide +kernel
theorem d_law_warning_12 : decode b_law_warning 12 = .ok (.astore_n 3, 1) := by decide +kernel
theorem d_law_warning_13 : decode b_law_warning 13 = .ok (.iconst 1, 1) := by decide +kernel
theorem d_law_warning_14 : decode b_law_warning 14 = .ok (.ireturn, 1) := by decide +kernel
theorem d_law_warning_15 : decode b_law_warning 15 = .ok (.iconst 0, 1) := by decide +kernel
theorem d_law_warning_16 : decode b_law_warning 16 = .ok (.ireturn, 1) := by decide +kernel
theorem d_law_count_0 : decode b_law_count 0 = .ok (.aload_n 2, 1) := by decide +kernel
theorem d_law_count_1 : decode b_law_count 1 = .ok (.iconst 0, 1) := by decide +kernel
theorem d_law_count_2 : decode b_law_count 2 = .ok (.aload_n 0, 1) := by decide +kernel
theorem d_law_count_3 : decode b_law_count 3 = .ok (.iload_n 1, 1) := by decide +kernel
theorem d_law_count_4 : decode b_law_count 4 = .ok (.invokevirtual 35, 3) := by decide +kernel
theorem d_law_count_7 : decode b_law_count 7 = .ok (.i2l, 1) := by decide +kernel
theorem d_law_count_8 : decode b_law_count 8 = .ok (.lastore, 1) := by decide +kernel
theorem d_law_count_9 : decode b_law_count 9 = .ok (.goto 6, 3) := by decide +kernel
theorem d_law_count_12 : decode b_law_count 12 = .ok (.astore_n 3, 1) := by decide +kernel
theorem d_law_count_13 : decode b_law_count 13 = .ok (.iconst 1, 1) := by decide +kernel
theorem d_law_count_14 : decode b_law_count 14 = .ok (.ireturn, 1) := by decide +kernel
theorem d_law_count_15 : decode b_law_count 15 = .ok (.iconst 0, 1) := by decide +kernel
theorem d_law_count_16 : decode b_law_count 16 = .ok (.ireturn, 1) := by decide +kernel
set_option maxRecDepth 100000 in
theorem wr_l13 : Cond.classLink "TimeoutYardLaw" 13 th_IA ∈ ty_w := ty_any (by decide +kernel)
set_option maxRecDepth 100000 in
theorem wr_l15 : Cond.classLink "TimeoutYardLaw" 15 th_IB ∈ ty_w := ty_any (by decide +kernel)
theorem wr_cA {U : State} {H : Heap} (h : th_W U H) : va_Nw (.castable th_IA th_IA) U := h.1 _ (by simp [th_D])
theorem wr_cB {U : State} {H : Heap} (h : th_W U H) : va_Nw (.castable th_IB th_IB) U := h.1 _ (by simp [th_D])
theorem yAction_s (σ : ty_St) (x op a : Int32) : (yAction σ x op a).1 = 0 ∨ ((yAction σ x op a).1 = 1 ∨ (yAction σ x op a).1 = 2) ∧ (yAction σ x op a).2.2 = σ := by
  unfold yAction
  split
  · exact Or.inr ⟨Or.inl rfl, rfl⟩
  · split
    · exact Or.inr ⟨Or.inr rfl, rfl⟩
    · exact Or.inl rfl
theorem yTest_s (σ : ty_St) (x to rd wr : Int32) : (yTest σ x to rd wr).1 = 0 ∨ ((yTest σ x to rd wr).1 = 1 ∨ (yTest σ x to rd wr).1 = 2) ∧ (yTest σ x to rd wr).2.2 = σ := by
  unfold yTest
  split
  · exact Or.inr ⟨Or.inl rfl, rfl⟩
  · split
    · exact Or.inr ⟨Or.inr rfl, rfl⟩
    · exact Or.inl rfl
theorem yWorkers_s (σ : ty_St) (n : Int32) : (yWorkers σ n).1 = 0 ∨ (yWorkers σ n).1 = 1 ∧ (yWorkers σ n).2.2 = σ := by
  unfold yWorkers
  split
  · exact Or.inl rfl
  · exact Or.inr ⟨rfl, rfl⟩
theorem yLook_s (σ : ty_St) (t w : Int32) : (yLook σ t w).1 = 0 ∨ (yLook σ t w).1 = 1 ∧ (yLook σ t w).2.2 = σ := by
  unfold yLook
  split
  · exact Or.inl rfl
  · exact Or.inr ⟨rfl, rfl⟩
theorem yKept_s (σ : ty_St) (i : Nat) (k : Int32) : (yKept σ i k).1 = 0 ∨ (yKept σ i k).1 = 1 ∧ (yKept σ i k).2.2 = σ := by
  unfold yKept
  split
  · exact Or.inl rfl
  · exact Or.inr ⟨rfl, rfl⟩
theorem yCount_s (σ : ty_St) (w : Int32) : (yCount σ w).1 = 0 ∨ (yCount σ w).1 = 1 ∧ (yCount σ w).2.2 = σ := by
  unfold yCount
  split
  · exact Or.inl rfl
  · exact Or.inr ⟨rfl, rfl⟩
set_option maxRecDepth 100000 in
theorem wc_law_action : Cond.codeWith y_law_action b_law_action 6 (some .int) [(0, 12, 15, 13), (0, 12, 19, 15)] ∈ ty_w := ty_any (by decide +kernel)
set_option maxRecDepth 100000 in
set_option maxHeartbeats 4000000 in
theorem wr_action (l : Launch) (hl0 : l.stackTraces = false) {D : va_G} {ad : Nat → Nat → Nat} {cA : Nat → ClassId} (hJ : ty_J cnC ad) (cL : ClassId) (o : Nat) (hoA : ¬ ty_A cnC ad o) (f : Nat → Int64) (σ : ty_St) (hs : ∀ q, q < 10 → ∃ k, k ≤ 10 ∧ σ 2 q 3 = nI k) (p0 p1 p2 : Int32) : Met l y_law_action (Cond.codeWith y_law_action b_law_action 6 (some .int) [(0, 12, 15, 13), (0, 12, 19, 15)] :: ty_w) rmW (wr_P D ad cA cL o f σ [.ref (ad 0 0), .int p0, .int p1, .int p2, .ref o]) (wr_Q D ad cA cL o (yAction σ p0 p1 p2)) 1 6 (wr_A ad o) := by
  refine va_MetW (cc := b_law_action) (maxL := 6) (ret := some .int) (hh := [(0, 12, 15, 13), (0, 12, 19, 15)]) rfl rfl ?_
  intro p e s m args below meth c s₁ B hml hv
  obtain ⟨rfl, hH, hK, hO, hth, hnc⟩ := hv
  have hts0 := atoms_spec (ws := Cond.codeWith y_law_action b_law_action 6 (some .int) [(0, 12, 15, 13), (0, 12, 19, 15)] :: ty_w) B.pre
  have hts : ∀ w ∈ ty_w, w.before _ s = true := fun w hw => hts0 w (List.mem_cons_of_mem _ hw)
  have hown : s.vm.findClass "TimeoutYardLaw" = some m.cls := findClass_of_methodNamed B.named
  have hx := B.exec
  have hb := B.bytes
  have hr := B.returns
  have hlk := B.notSynchronized
  have htab : c.exceptionTable.toList.map (fun h => (h.startPc, h.endPc, h.handlerPc, h.catchType)) = [(0, 12, 15, 13), (0, 12, 19, 15)] := by
    obtain ⟨m9, meth9, c9, q1, q2, q3, q4, q5, q6, -⟩ := Cond.codeWith_spec (hts0 _ List.mem_cons_self)
    cases Option.some.inj (q1.symm.trans B.named)
    cases Option.some.inj (q2.symm.trans B.method)
    cases Option.some.inj (q3.symm.trans (Stand.of_body B).code)
    exact q6
  have hl := lv_entry ([.ref (ad 0 0), .int p0, .int p1, .int p2, .ref o]) (n := 6) (Nat.le_of_ble_eq_true rfl)
  rw [lg_entry_eq]
  generalize (lg_sl ([.ref (ad 0 0), .int p0, .int p1, .int p2, .ref o]) ++ List.replicate (6 - (lg_sl ([.ref (ad 0 0), .int p0, .int p1, .int p2, .ref o])).length) Slot.unset).toArray = ls at hl ⊢
  have hl : lv_has ls 6 [(0, .ref (ad 0 0)), (1, .int p0), (2, .int p1), (3, .int p2), (4, .ref o)] := hl
  refine lv_aload hx hb d_law_action_0 (lv_at hl 4 rfl) ?_
  refine lv_iconst (v := 0) hx hb d_law_action_2 (by decide) ?_
  refine lv_aload_n hx hb d_law_action_3 rfl (lv_at hl 0 rfl) ?_
  refine lv_iload_n hx hb d_law_action_4 rfl (lv_at hl 1 rfl) ?_
  refine lv_iload_n hx hb d_law_action_5 rfl (lv_at hl 2 rfl) ?_
  refine lv_iload_n hx hb d_law_action_6 rfl (lv_at hl 3 rfl) ?_
  have hM := c_Yard_action l hl0 (D := D) (cA := cA) hJ σ hs p0 p1 p2
  have hsp := yAction_s σ p0 p1 p2
  have hyk : ¬ (yAction σ p0 p1 p2).1 = 0 → (yAction σ p0 p1 p2).2.2 = σ := fun z => (hsp.resolve_left z).2
  by_cases c0 : (yAction σ p0 p1 p2).1 = 0
  · exact wr_call (n := 3) (off := 11) (tgt := 23) (As := [p0, p1, p2]) hx hb hml hl.1 hown hts hr hlk hH hK hO hoA hth hM c0 (by decide) (by decide) ⟨ml_law_7, wi_Yard_action, ws_Yard_action, wn_Yard, wc_Yard_action⟩ rfl ⟨by decide +kernel, by decide +kernel, by decide +kernel⟩ rfl ⟨by decide, by decide, by decide, by decide⟩ rfl d_law_action_7 d_law_action_10 d_law_action_11 d_law_action_12 (by decide) d_law_action_23 d_law_action_24
  obtain ⟨cell0, g1, g2, g3⟩ := va_recv (wr_K hK) (show va_P D classes [(ad 0 0, .inr (0, ty_fs ad (σ 0 0) 0 0 [some (1, some 0), none, none]))] s.heap from ty_one (hH 0 0 (by decide))) (ci := 0) (q0 := 0) rfl rfl
  have hPc : ∀ U : State, U.heap = s.heap → s.WarmedH U.vm → ty_PT cnC D ad cA σ (.inr (0, 0) :: [.inl p0, .inl p1, .inl p2]) (Value.ref (ad 0 0) :: [.int p0, .int p1, .int p2]).toArray U := fun U hU hW => ⟨⟨rfl, by rw [hU]; exact hH, va_K.moved hW.alike (wr_K hK)⟩, by rw [hU]; exact th_W.warm hW hth⟩
  obtain ⟨x, x', hsp2, ⟨x1, x2, x3, x4⟩, x'1, x'2, x'3, x'4⟩ := tab2 htab
  rcases (hsp.resolve_left c0).1 with c1 | c1
  · refine w_throws (n := 3) (C := "TimeoutYard") (As := [.int p0, .int p1, .int p2]) (rest := [.int 0, .ref o]) (x := x) hx hb hml hl.1 hown hts (hM.thrA c1 (by decide) (by decide)) ty_PT.blind hPc g1 g2 g3 ⟨ml_law_7, wi_Yard_action, ws_Yard_action, wn_Yard, wc_Yard_action⟩ ⟨by decide +kernel, by decide +kernel, by decide +kernel⟩ rfl ⟨by decide, by decide, by decide, by decide⟩ (Nat.le_of_ble_eq_true rfl) rfl d_law_action_7 (Or.inl ⟨_, hsp2⟩) (by simp [covers, x1, x2]) (by rw [x4]; decide) (by rw [x4]; exact wr_l13) (wr_cA hth) (fun H1 a q1 q2 => ?_)
    rw [x3]
    refine lv_astore hx hb d_law_action_15 hl (by decide) rfl (fun ls' hl' => ?_)
    refine lv_iconst (v := 1) hx hb d_law_action_17 (by decide) ?_
    exact wr_thrown hx hb hr hlk hH hO c1 (by decide) hyk q1 q2 d_law_action_18
  · refine w_throws (n := 3) (C := "TimeoutYard") (As := [.int p0, .int p1, .int p2]) (rest := [.int 0, .ref o]) (x := x') hx hb hml hl.1 hown hts (hM.thrB c1 (by decide) (by decide)) ty_PT.blind hPc g1 g2 g3 ⟨ml_law_7, wi_Yard_action, ws_Yard_action, wn_Yard, wc_Yard_action⟩ ⟨by decide +kernel, by decide +kernel, by decide +kernel⟩ rfl ⟨by decide, by decide, by decide, by decide⟩ (Nat.le_of_ble_eq_true rfl) rfl d_law_action_7 (by
      obtain ⟨cB, cI, n1, n2, n3⟩ := hnc
      exact Or.inr ⟨x, [], th_IA, cB, cI, hsp2, by simp [covers, x1, x2], by rw [x4]; decide, by rw [x4]; exact wr_l13, n1, n2, n3⟩) (by simp [covers, x'1, x'2]) (by rw [x'4]; decide) (by rw [x'4]; exact wr_l15) (wr_cB hth) (fun H1 a q1 q2 => ?_)
    rw [x'3]
    refine lv_astore hx hb d_law_action_19 hl (by decide) rfl (fun ls' hl' => ?_)
    refine lv_iconst (v := 2) hx hb d_law_action_21 (by decide) ?_
    exact wr_thrown hx hb hr hlk hH hO c1 (by decide) hyk q1 q2 d_law_action_22
set_option maxRecDepth 100000 in
theorem wc_law_test : Cond.codeWith y_law_test b_law_test 7 (some .int) [(0, 14, 17, 13), (0, 14, 21, 15)] ∈ ty_w := ty_any (by decide +kernel)
set_option maxRecDepth 100000 in
set_option maxHeartbeats 4000000 in
theorem wr_test (l : Launch) (hl0 : l.stackTraces = false) {D : va_G} {ad : Nat → Nat → Nat} {cA : Nat → ClassId} (hJ : ty_J cnC ad) (cL : ClassId) (o : Nat) (hoA : ¬ ty_A cnC ad o) (f : Nat → Int64) (σ : ty_St) (tc : Nat) (htc : tc ≤ 12) (e1 : σ 0 0 1 = nI tc) (p0 p1 p2 p3 : Int32) : Met l y_law_test (Cond.codeWith y_law_test b_law_test 7 (some .int) [(0, 14, 17, 13), (0, 14, 21, 15)] :: ty_w) rmW (wr_P D ad cA cL o f σ [.ref (ad 0 0), .int p0, .int p1, .int p2, .int p3, .ref o]) (wr_Q D ad cA cL o (yTest σ p0 p1 p2 p3)) 1 6 (wr_A ad o) := by
  refine va_MetW (cc := b_law_test) (maxL := 7) (ret := some .int) (hh := [(0, 14, 17, 13), (0, 14, 21, 15)]) rfl rfl ?_
  intro p e s m args below meth c s₁ B hml hv
  obtain ⟨rfl, hH, hK, hO, hth, hnc⟩ := hv
  have hts0 := atoms_spec (ws := Cond.codeWith y_law_test b_law_test 7 (some .int) [(0, 14, 17, 13), (0, 14, 21, 15)] :: ty_w) B.pre
  have hts : ∀ w ∈ ty_w, w.before _ s = true := fun w hw => hts0 w (List.mem_cons_of_mem _ hw)
  have hown : s.vm.findClass "TimeoutYardLaw" = some m.cls := findClass_of_methodNamed B.named
  have hx := B.exec
  have hb := B.bytes
  have hr := B.returns
  have hlk := B.notSynchronized
  have htab : c.exceptionTable.toList.map (fun h => (h.startPc, h.endPc, h.handlerPc, h.catchType)) = [(0, 14, 17, 13), (0, 14, 21, 15)] := by
    obtain ⟨m9, meth9, c9, q1, q2, q3, q4, q5, q6, -⟩ := Cond.codeWith_spec (hts0 _ List.mem_cons_self)
    cases Option.some.inj (q1.symm.trans B.named)
    cases Option.some.inj (q2.symm.trans B.method)
    cases Option.some.inj (q3.symm.trans (Stand.of_body B).code)
    exact q6
  have hl := lv_entry ([.ref (ad 0 0), .int p0, .int p1, .int p2, .int p3, .ref o]) (n := 7) (Nat.le_of_ble_eq_true rfl)
  rw [lg_entry_eq]
  generalize (lg_sl ([.ref (ad 0 0), .int p0, .int p1, .int p2, .int p3, .ref o]) ++ List.replicate (7 - (lg_sl ([.ref (ad 0 0), .int p0, .int p1, .int p2, .int p3, .ref o])).length) Slot.unset).toArray = ls at hl ⊢
  have hl : lv_has ls 7 [(0, .ref (ad 0 0)), (1, .int p0), (2, .int p1), (3, .int p2), (4, .int p3), (5, .ref o)] := hl
  refine lv_aload hx hb d_law_test_0 (lv_at hl 5 rfl) ?_
  refine lv_iconst (v := 0) hx hb d_law_test_2 (by decide) ?_
  refine lv_aload_n hx hb d_law_test_3 rfl (lv_at hl 0 rfl) ?_
  refine lv_iload_n hx hb d_law_test_4 rfl (lv_at hl 1 rfl) ?_
  refine lv_iload_n hx hb d_law_test_5 rfl (lv_at hl 2 rfl) ?_
  refine lv_iload_n hx hb d_law_test_6 rfl (lv_at hl 3 rfl) ?_
  refine lv_iload hx hb d_law_test_7 (lv_at hl 4 rfl) ?_
  have hM := c_Yard_test l hl0 (D := D) (cA := cA) hJ σ tc htc e1 p0 p1 p2 p3
  have hsp := yTest_s σ p0 p1 p2 p3
  have hyk : ¬ (yTest σ p0 p1 p2 p3).1 = 0 → (yTest σ p0 p1 p2 p3).2.2 = σ := fun z => (hsp.resolve_left z).2
  by_cases c0 : (yTest σ p0 p1 p2 p3).1 = 0
  · exact wr_call (n := 4) (off := 11) (tgt := 25) (As := [p0, p1, p2, p3]) hx hb hml hl.1 hown hts hr hlk hH hK hO hoA hth hM c0 (by decide) (by decide) ⟨ml_law_17, wi_Yard_test, ws_Yard_test, wn_Yard, wc_Yard_test⟩ rfl ⟨by decide +kernel, by decide +kernel, by decide +kernel⟩ rfl ⟨by decide, by decide, by decide, by decide⟩ rfl d_law_test_9 d_law_test_12 d_law_test_13 d_law_test_14 (by decide) d_law_test_25 d_law_test_26
  obtain ⟨cell0, g1, g2, g3⟩ := va_recv (wr_K hK) (show va_P D classes [(ad 0 0, .inr (0, ty_fs ad (σ 0 0) 0 0 [some (1, some 0), none, none]))] s.heap from ty_one (hH 0 0 (by decide))) (ci := 0) (q0 := 0) rfl rfl
  have hPc : ∀ U : State, U.heap = s.heap → s.WarmedH U.vm → ty_PT cnC D ad cA σ (.inr (0, 0) :: [.inl p0, .inl p1, .inl p2, .inl p3]) (Value.ref (ad 0 0) :: [.int p0, .int p1, .int p2, .int p3]).toArray U := fun U hU hW => ⟨⟨rfl, by rw [hU]; exact hH, va_K.moved hW.alike (wr_K hK)⟩, by rw [hU]; exact th_W.warm hW hth⟩
  obtain ⟨x, x', hsp2, ⟨x1, x2, x3, x4⟩, x'1, x'2, x'3, x'4⟩ := tab2 htab
  rcases (hsp.resolve_left c0).1 with c1 | c1
  · refine w_throws (n := 4) (C := "TimeoutYard") (As := [.int p0, .int p1, .int p2, .int p3]) (rest := [.int 0, .ref o]) (x := x) hx hb hml hl.1 hown hts (hM.thrA c1 (by decide) (by decide)) ty_PT.blind hPc g1 g2 g3 ⟨ml_law_17, wi_Yard_test, ws_Yard_test, wn_Yard, wc_Yard_test⟩ ⟨by decide +kernel, by decide +kernel, by decide +kernel⟩ rfl ⟨by decide, by decide, by decide, by decide⟩ (Nat.le_of_ble_eq_true rfl) rfl d_law_test_9 (Or.inl ⟨_, hsp2⟩) (by simp [covers, x1, x2]) (by rw [x4]; decide) (by rw [x4]; exact wr_l13) (wr_cA hth) (fun H1 a q1 q2 => ?_)
    rw [x3]
    refine lv_astore hx hb d_law_test_17 hl (by decide) rfl (fun ls' hl' => ?_)
    refine lv_iconst (v := 1) hx hb d_law_test_19 (by decide) ?_
    exact wr_thrown hx hb hr hlk hH hO c1 (by decide) hyk q1 q2 d_law_test_20
  · refine w_throws (n := 4) (C := "TimeoutYard") (As := [.int p0, .int p1, .int p2, .int p3]) (rest := [.int 0, .ref o]) (x := x') hx hb hml hl.1 hown hts (hM.thrB c1 (by decide) (by decide)) ty_PT.blind hPc g1 g2 g3 ⟨ml_law_17, wi_Yard_test, ws_Yard_test, wn_Yard, wc_Yard_test⟩ ⟨by decide +kernel, by decide +kernel, by decide +kernel⟩ rfl ⟨by decide, by decide, by decide, by decide⟩ (Nat.le_of_ble_eq_true rfl) rfl d_law_test_9 (by
      obtain ⟨cB, cI, n1, n2, n3⟩ := hnc
      exact Or.inr ⟨x, [], th_IA, cB, cI, hsp2, by simp [covers, x1, x2], by rw [x4]; decide, by rw [x4]; exact wr_l13, n1, n2, n3⟩) (by simp [covers, x'1, x'2]) (by rw [x'4]; decide) (by rw [x'4]; exact wr_l15) (wr_cB hth) (fun H1 a q1 q2 => ?_)
    rw [x'3]
    refine lv_astore hx hb d_law_test_21 hl (by decide) rfl (fun ls' hl' => ?_)
    refine lv_iconst (v := 2) hx hb d_law_test_23 (by decide) ?_
    exact wr_thrown hx hb hr hlk hH hO c1 (by decide) hyk q1 q2 d_law_test_24
set_option maxRecDepth 100000 in
theorem wc_law_workers : Cond.codeWith y_law_workers b_law_workers 4 (some .int) [(0, 9, 12, 13)] ∈ ty_w := ty_any (by decide +kernel)
set_option maxRecDepth 100000 in
set_option maxHeartbeats 4000000 in
theorem wr_workers (l : Launch) (hl0 : l.stackTraces = false) {D : va_G} {ad : Nat → Nat → Nat} {cA : Nat → ClassId} (hJ : ty_J cnC ad) (cL : ClassId) (o : Nat) (hoA : ¬ ty_A cnC ad o) (f : Nat → Int64) (σ : ty_St)  (p0 : Int32) : Met l y_law_workers (Cond.codeWith y_law_workers b_law_workers 4 (some .int) [(0, 9, 12, 13)] :: ty_w) rmW (wr_P D ad cA cL o f σ [.ref (ad 0 0), .int p0, .ref o]) (wr_Q D ad cA cL o (yWorkers σ p0)) 1 6 (wr_A ad o) := by
  refine va_MetW (cc := b_law_workers) (maxL := 4) (ret := some .int) (hh := [(0, 9, 12, 13)]) rfl rfl ?_
  intro p e s m args below meth c s₁ B hml hv
  obtain ⟨rfl, hH, hK, hO, hth, hnc⟩ := hv
  have hts0 := atoms_spec (ws := Cond.codeWith y_law_workers b_law_workers 4 (some .int) [(0, 9, 12, 13)] :: ty_w) B.pre
  have hts : ∀ w ∈ ty_w, w.before _ s = true := fun w hw => hts0 w (List.mem_cons_of_mem _ hw)
  have hown : s.vm.findClass "TimeoutYardLaw" = some m.cls := findClass_of_methodNamed B.named
  have hx := B.exec
  have hb := B.bytes
  have hr := B.returns
  have hlk := B.notSynchronized
  have htab : c.exceptionTable.toList.map (fun h => (h.startPc, h.endPc, h.handlerPc, h.catchType)) = [(0, 9, 12, 13)] := by
    obtain ⟨m9, meth9, c9, q1, q2, q3, q4, q5, q6, -⟩ := Cond.codeWith_spec (hts0 _ List.mem_cons_self)
    cases Option.some.inj (q1.symm.trans B.named)
    cases Option.some.inj (q2.symm.trans B.method)
    cases Option.some.inj (q3.symm.trans (Stand.of_body B).code)
    exact q6
  have hl := lv_entry ([.ref (ad 0 0), .int p0, .ref o]) (n := 4) (Nat.le_of_ble_eq_true rfl)
  rw [lg_entry_eq]
  generalize (lg_sl ([.ref (ad 0 0), .int p0, .ref o]) ++ List.replicate (4 - (lg_sl ([.ref (ad 0 0), .int p0, .ref o])).length) Slot.unset).toArray = ls at hl ⊢
  have hl : lv_has ls 4 [(0, .ref (ad 0 0)), (1, .int p0), (2, .ref o)] := hl
  refine lv_aload_n hx hb d_law_workers_0 rfl (lv_at hl 2 rfl) ?_
  refine lv_iconst (v := 0) hx hb d_law_workers_1 (by decide) ?_
  refine lv_aload_n hx hb d_law_workers_2 rfl (lv_at hl 0 rfl) ?_
  refine lv_iload_n hx hb d_law_workers_3 rfl (lv_at hl 1 rfl) ?_
  have hM := c_Yard_workers l hl0 (D := D) (cA := cA) hJ σ  p0
  have hsp := yWorkers_s σ p0
  have hyk : ¬ (yWorkers σ p0).1 = 0 → (yWorkers σ p0).2.2 = σ := fun z => (hsp.resolve_left z).2
  by_cases c0 : (yWorkers σ p0).1 = 0
  · exact wr_call (n := 1) (off := 6) (tgt := 15) (As := [p0]) hx hb hml hl.1 hown hts hr hlk hH hK hO hoA hth hM c0 (by decide) (by decide) ⟨ml_law_21, wi_Yard_workers, ws_Yard_workers, wn_Yard, wc_Yard_workers⟩ rfl ⟨by decide +kernel, by decide +kernel, by decide +kernel⟩ rfl ⟨by decide, by decide, by decide, by decide⟩ rfl d_law_workers_4 d_law_workers_7 d_law_workers_8 d_law_workers_9 (by decide) d_law_workers_15 d_law_workers_16
  obtain ⟨cell0, g1, g2, g3⟩ := va_recv (wr_K hK) (show va_P D classes [(ad 0 0, .inr (0, ty_fs ad (σ 0 0) 0 0 [some (1, some 0), none, none]))] s.heap from ty_one (hH 0 0 (by decide))) (ci := 0) (q0 := 0) rfl rfl
  have hPc : ∀ U : State, U.heap = s.heap → s.WarmedH U.vm → ty_PT cnC D ad cA σ (.inr (0, 0) :: [.inl p0]) (Value.ref (ad 0 0) :: [.int p0]).toArray U := fun U hU hW => ⟨⟨rfl, by rw [hU]; exact hH, va_K.moved hW.alike (wr_K hK)⟩, by rw [hU]; exact th_W.warm hW hth⟩
  obtain ⟨x, hsp2, x1, x2, x3, x4⟩ := tab1 htab
  have c1 := (hsp.resolve_left c0).1
  refine w_throws (n := 1) (C := "TimeoutYard") (As := [.int p0]) (rest := [.int 0, .ref o]) (x := x) hx hb hml hl.1 hown hts (hM.thrA c1 (by decide) (by decide)) ty_PT.blind hPc g1 g2 g3 ⟨ml_law_21, wi_Yard_workers, ws_Yard_workers, wn_Yard, wc_Yard_workers⟩ ⟨by decide +kernel, by decide +kernel, by decide +kernel⟩ rfl ⟨by decide, by decide, by decide, by decide⟩ (Nat.le_of_ble_eq_true rfl) rfl d_law_workers_4 (Or.inl ⟨_, hsp2⟩) (by simp [covers, x1, x2]) (by rw [x4]; decide) (by rw [x4]; exact wr_l13) (wr_cA hth) (fun H1 a q1 q2 => ?_)
  rw [x3]
  refine lv_astore_n hx hb d_law_workers_12 rfl hl (by decide) rfl (fun ls' hl' => ?_)
  refine lv_iconst (v := 1) hx hb d_law_workers_13 (by decide) ?_
  exact wr_thrown hx hb hr hlk hH hO c1 (by decide) hyk q1 q2 d_law_workers_14
set_option maxRecDepth 100000 in
theorem wc_law_look : Cond.codeWith y_law_look b_law_look 5 (some .int) [(0, 10, 13, 13)] ∈ ty_w := ty_any (by decide +kernel)
set_option maxRecDepth 100000 in
set_option maxHeartbeats 4000000 in
theorem wr_look (l : Launch) (hl0 : l.stackTraces = false) {D : va_G} {ad : Nat → Nat → Nat} {cA : Nat → ClassId} (hJ : ty_J cnC ad) (cL : ClassId) (o : Nat) (hoA : ¬ ty_A cnC ad o) (f : Nat → Int64) (σ : ty_St) (tc : Nat) (htc : tc ≤ 12) (e1 : σ 0 0 1 = nI tc) (p0 p1 : Int32) : Met l y_law_look (Cond.codeWith y_law_look b_law_look 5 (some .int) [(0, 10, 13, 13)] :: ty_w) rmW (wr_P D ad cA cL o f σ [.ref (ad 0 0), .int p0, .int p1, .ref o]) (wr_Q D ad cA cL o (yLook σ p0 p1)) 1 6 (wr_A ad o) := by
  refine va_MetW (cc := b_law_look) (maxL := 5) (ret := some .int) (hh := [(0, 10, 13, 13)]) rfl rfl ?_
  intro p e s m args below meth c s₁ B hml hv
  obtain ⟨rfl, hH, hK, hO, hth, hnc⟩ := hv
  have hts0 := atoms_spec (ws := Cond.codeWith y_law_look b_law_look 5 (some .int) [(0, 10, 13, 13)] :: ty_w) B.pre
  have hts : ∀ w ∈ ty_w, w.before _ s = true := fun w hw => hts0 w (List.mem_cons_of_mem _ hw)
  have hown : s.vm.findClass "TimeoutYardLaw" = some m.cls := findClass_of_methodNamed B.named
  have hx := B.exec
  have hb := B.bytes
  have hr := B.returns
  have hlk := B.notSynchronized
  have htab : c.exceptionTable.toList.map (fun h => (h.startPc, h.endPc, h.handlerPc, h.catchType)) = [(0, 10, 13, 13)] := by
    obtain ⟨m9, meth9, c9, q1, q2, q3, q4, q5, q6, -⟩ := Cond.codeWith_spec (hts0 _ List.mem_cons_self)
    cases Option.some.inj (q1.symm.trans B.named)
    cases Option.some.inj (q2.symm.trans B.method)
    cases Option.some.inj (q3.symm.trans (Stand.of_body B).code)
    exact q6
  have hl := lv_entry ([.ref (ad 0 0), .int p0, .int p1, .ref o]) (n := 5) (Nat.le_of_ble_eq_true rfl)
  rw [lg_entry_eq]
  generalize (lg_sl ([.ref (ad 0 0), .int p0, .int p1, .ref o]) ++ List.replicate (5 - (lg_sl ([.ref (ad 0 0), .int p0, .int p1, .ref o])).length) Slot.unset).toArray = ls at hl ⊢
  have hl : lv_has ls 5 [(0, .ref (ad 0 0)), (1, .int p0), (2, .int p1), (3, .ref o)] := hl
  refine lv_aload_n hx hb d_law_look_0 rfl (lv_at hl 3 rfl) ?_
  refine lv_iconst (v := 0) hx hb d_law_look_1 (by decide) ?_
  refine lv_aload_n hx hb d_law_look_2 rfl (lv_at hl 0 rfl) ?_
  refine lv_iload_n hx hb d_law_look_3 rfl (lv_at hl 1 rfl) ?_
  refine lv_iload_n hx hb d_law_look_4 rfl (lv_at hl 2 rfl) ?_
  have hM := c_Yard_look l hl0 (D := D) (cA := cA) hJ σ tc htc e1 p0 p1
  have hsp := yLook_s σ p0 p1
  have hyk : ¬ (yLook σ p0 p1).1 = 0 → (yLook σ p0 p1).2.2 = σ := fun z => (hsp.resolve_left z).2
  by_cases c0 : (yLook σ p0 p1).1 = 0
  · exact wr_call (n := 2) (off := 7) (tgt := 17) (As := [p0, p1]) hx hb hml hl.1 hown hts hr hlk hH hK hO hoA hth hM c0 (by decide) (by decide) ⟨ml_law_25, wi_Yard_look, ws_Yard_look, wn_Yard, wc_Yard_look⟩ rfl ⟨by decide +kernel, by decide +kernel, by decide +kernel⟩ rfl ⟨by decide, by decide, by decide, by decide⟩ rfl d_law_look_5 d_law_look_8 d_law_look_9 d_law_look_10 (by decide) d_law_look_17 d_law_look_18
  obtain ⟨cell0, g1, g2, g3⟩ := va_recv (wr_K hK) (show va_P D classes [(ad 0 0, .inr (0, ty_fs ad (σ 0 0) 0 0 [some (1, some 0), none, none]))] s.heap from ty_one (hH 0 0 (by decide))) (ci := 0) (q0 := 0) rfl rfl
  have hPc : ∀ U : State, U.heap = s.heap → s.WarmedH U.vm → ty_PT cnC D ad cA σ (.inr (0, 0) :: [.inl p0, .inl p1]) (Value.ref (ad 0 0) :: [.int p0, .int p1]).toArray U := fun U hU hW => ⟨⟨rfl, by rw [hU]; exact hH, va_K.moved hW.alike (wr_K hK)⟩, by rw [hU]; exact th_W.warm hW hth⟩
  obtain ⟨x, hsp2, x1, x2, x3, x4⟩ := tab1 htab
  have c1 := (hsp.resolve_left c0).1
  refine w_throws (n := 2) (C := "TimeoutYard") (As := [.int p0, .int p1]) (rest := [.int 0, .ref o]) (x := x) hx hb hml hl.1 hown hts (hM.thrA c1 (by decide) (by decide)) ty_PT.blind hPc g1 g2 g3 ⟨ml_law_25, wi_Yard_look, ws_Yard_look, wn_Yard, wc_Yard_look⟩ ⟨by decide +kernel, by decide +kernel, by decide +kernel⟩ rfl ⟨by decide, by decide, by decide, by decide⟩ (Nat.le_of_ble_eq_true rfl) rfl d_law_look_5 (Or.inl ⟨_, hsp2⟩) (by simp [covers, x1, x2]) (by rw [x4]; decide) (by rw [x4]; exact wr_l13) (wr_cA hth) (fun H1 a q1 q2 => ?_)
  rw [x3]
  refine lv_astore hx hb d_law_look_13 hl (by decide) rfl (fun ls' hl' => ?_)
  refine lv_iconst (v := 1) hx hb d_law_look_15 (by decide) ?_
  exact wr_thrown hx hb hr hlk hH hO c1 (by decide) hyk q1 q2 d_law_look_16
set_option maxRecDepth 100000 in
theorem wc_law_note : Cond.codeWith y_law_note b_law_note 4 (some .int) [(0, 9, 12, 15)] ∈ ty_w := ty_any (by decide +kernel)
set_option maxRecDepth 100000 in
set_option maxHeartbeats 4000000 in
theorem wr_note (l : Launch) (hl0 : l.stackTraces = false) {D : va_G} {ad : Nat → Nat → Nat} {cA : Nat → ClassId} (hJ : ty_J cnC ad) (cL : ClassId) (o : Nat) (hoA : ¬ ty_A cnC ad o) (f : Nat → Int64) (σ : ty_St)  (p0 : Int32) : Met l y_law_note (Cond.codeWith y_law_note b_law_note 4 (some .int) [(0, 9, 12, 15)] :: ty_w) rmW (wr_P D ad cA cL o f σ [.ref (ad 0 0), .int p0, .ref o]) (wr_Q D ad cA cL o (yKept σ 0 p0)) 1 6 (wr_A ad o) := by
  refine va_MetW (cc := b_law_note) (maxL := 4) (ret := some .int) (hh := [(0, 9, 12, 15)]) rfl rfl ?_
  intro p e s m args below meth c s₁ B hml hv
  obtain ⟨rfl, hH, hK, hO, hth, hnc⟩ := hv
  have hts0 := atoms_spec (ws := Cond.codeWith y_law_note b_law_note 4 (some .int) [(0, 9, 12, 15)] :: ty_w) B.pre
  have hts : ∀ w ∈ ty_w, w.before _ s = true := fun w hw => hts0 w (List.mem_cons_of_mem _ hw)
  have hown : s.vm.findClass "TimeoutYardLaw" = some m.cls := findClass_of_methodNamed B.named
  have hx := B.exec
  have hb := B.bytes
  have hr := B.returns
  have hlk := B.notSynchronized
  have htab : c.exceptionTable.toList.map (fun h => (h.startPc, h.endPc, h.handlerPc, h.catchType)) = [(0, 9, 12, 15)] := by
    obtain ⟨m9, meth9, c9, q1, q2, q3, q4, q5, q6, -⟩ := Cond.codeWith_spec (hts0 _ List.mem_cons_self)
    cases Option.some.inj (q1.symm.trans B.named)
    cases Option.some.inj (q2.symm.trans B.method)
    cases Option.some.inj (q3.symm.trans (Stand.of_body B).code)
    exact q6
  have hl := lv_entry ([.ref (ad 0 0), .int p0, .ref o]) (n := 4) (Nat.le_of_ble_eq_true rfl)
  rw [lg_entry_eq]
  generalize (lg_sl ([.ref (ad 0 0), .int p0, .ref o]) ++ List.replicate (4 - (lg_sl ([.ref (ad 0 0), .int p0, .ref o])).length) Slot.unset).toArray = ls at hl ⊢
  have hl : lv_has ls 4 [(0, .ref (ad 0 0)), (1, .int p0), (2, .ref o)] := hl
  refine lv_aload_n hx hb d_law_note_0 rfl (lv_at hl 2 rfl) ?_
  refine lv_iconst (v := 0) hx hb d_law_note_1 (by decide) ?_
  refine lv_aload_n hx hb d_law_note_2 rfl (lv_at hl 0 rfl) ?_
  refine lv_iload_n hx hb d_law_note_3 rfl (lv_at hl 1 rfl) ?_
  have hM := c_Yard_note l hl0 (D := D) (cA := cA) hJ σ  p0
  have hsp := yKept_s σ 0 p0
  have hyk : ¬ (yKept σ 0 p0).1 = 0 → (yKept σ 0 p0).2.2 = σ := fun z => (hsp.resolve_left z).2
  by_cases c0 : (yKept σ 0 p0).1 = 0
  · exact wr_call (n := 1) (off := 6) (tgt := 15) (As := [p0]) hx hb hml hl.1 hown hts hr hlk hH hK hO hoA hth hM c0 (by decide) (by decide) ⟨ml_law_29, wi_Yard_note, ws_Yard_note, wn_Yard, wc_Yard_note⟩ rfl ⟨by decide +kernel, by decide +kernel, by decide +kernel⟩ rfl ⟨by decide, by decide, by decide, by decide⟩ rfl d_law_note_4 d_law_note_7 d_law_note_8 d_law_note_9 (by decide) d_law_note_15 d_law_note_16
  obtain ⟨cell0, g1, g2, g3⟩ := va_recv (wr_K hK) (show va_P D classes [(ad 0 0, .inr (0, ty_fs ad (σ 0 0) 0 0 [some (1, some 0), none, none]))] s.heap from ty_one (hH 0 0 (by decide))) (ci := 0) (q0 := 0) rfl rfl
  have hPc : ∀ U : State, U.heap = s.heap → s.WarmedH U.vm → ty_PT cnC D ad cA σ (.inr (0, 0) :: [.inl p0]) (Value.ref (ad 0 0) :: [.int p0]).toArray U := fun U hU hW => ⟨⟨rfl, by rw [hU]; exact hH, va_K.moved hW.alike (wr_K hK)⟩, by rw [hU]; exact th_W.warm hW hth⟩
  obtain ⟨x, hsp2, x1, x2, x3, x4⟩ := tab1 htab
  have c1 := (hsp.resolve_left c0).1
  refine w_throws (n := 1) (C := "TimeoutYard") (As := [.int p0]) (rest := [.int 0, .ref o]) (x := x) hx hb hml hl.1 hown hts (hM.thrB c1 (by decide) (by decide)) ty_PT.blind hPc g1 g2 g3 ⟨ml_law_29, wi_Yard_note, ws_Yard_note, wn_Yard, wc_Yard_note⟩ ⟨by decide +kernel, by decide +kernel, by decide +kernel⟩ rfl ⟨by decide, by decide, by decide, by decide⟩ (Nat.le_of_ble_eq_true rfl) rfl d_law_note_4 (Or.inl ⟨_, hsp2⟩) (by simp [covers, x1, x2]) (by rw [x4]; decide) (by rw [x4]; exact wr_l15) (wr_cB hth) (fun H1 a q1 q2 => ?_)
  rw [x3]
  refine lv_astore_n hx hb d_law_note_12 rfl hl (by decide) rfl (fun ls' hl' => ?_)
  refine lv_iconst (v := 1) hx hb d_law_note_13 (by decide) ?_
  exact wr_thrown hx hb hr hlk hH hO c1 (by decide) hyk q1 q2 d_law_note_14
set_option maxRecDepth 100000 in
theorem wc_law_warning : Cond.codeWith y_law_warning b_law_warning 4 (some .int) [(0, 9, 12, 15)] ∈ ty_w := ty_any (by decide +kernel)
set_option maxRecDepth 100000 in
set_option maxHeartbeats 4000000 in
theorem wr_warning (l : Launch) (hl0 : l.stackTraces = false) {D : va_G} {ad : Nat → Nat → Nat} {cA : Nat → ClassId} (hJ : ty_J cnC ad) (cL : ClassId) (o : Nat) (hoA : ¬ ty_A cnC ad o) (f : Nat → Int64) (σ : ty_St)  (p0 : Int32) : Met l y_law_warning (Cond.codeWith y_law_warning b_law_warning 4 (some .int) [(0, 9, 12, 15)] :: ty_w) rmW (wr_P D ad cA cL o f σ [.ref (ad 0 0), .int p0, .ref o]) (wr_Q D ad cA cL o (yKept σ 1 p0)) 1 6 (wr_A ad o) := by
  refine va_MetW (cc := b_law_warning) (maxL := 4) (ret := some .int) (hh := [(0, 9, 12, 15)]) rfl rfl ?_
  intro p e s m args below meth c s₁ B hml hv
  obtain ⟨rfl, hH, hK, hO, hth, hnc⟩ := hv
  have hts0 := atoms_spec (ws := Cond.codeWith y_law_warning b_law_warning 4 (some .int) [(0, 9, 12, 15)] :: ty_w) B.pre
  have hts : ∀ w ∈ ty_w, w.before _ s = true := fun w hw => hts0 w (List.mem_cons_of_mem _ hw)
  have hown : s.vm.findClass "TimeoutYardLaw" = some m.cls := findClass_of_methodNamed B.named
  have hx := B.exec
  have hb := B.bytes
  have hr := B.returns
  have hlk := B.notSynchronized
  have htab : c.exceptionTable.toList.map (fun h => (h.startPc, h.endPc, h.handlerPc, h.catchType)) = [(0, 9, 12, 15)] := by
    obtain ⟨m9, meth9, c9, q1, q2, q3, q4, q5, q6, -⟩ := Cond.codeWith_spec (hts0 _ List.mem_cons_self)
    cases Option.some.inj (q1.symm.trans B.named)
    cases Option.some.inj (q2.symm.trans B.method)
    cases Option.some.inj (q3.symm.trans (Stand.of_body B).code)
    exact q6
  have hl := lv_entry ([.ref (ad 0 0), .int p0, .ref o]) (n := 4) (Nat.le_of_ble_eq_true rfl)
  rw [lg_entry_eq]
  generalize (lg_sl ([.ref (ad 0 0), .int p0, .ref o]) ++ List.replicate (4 - (lg_sl ([.ref (ad 0 0), .int p0, .ref o])).length) Slot.unset).toArray = ls at hl ⊢
  have hl : lv_has ls 4 [(0, .ref (ad 0 0)), (1, .int p0), (2, .ref o)] := hl
  refine lv_aload_n hx hb d_law_warning_0 rfl (lv_at hl 2 rfl) ?_
  refine lv_iconst (v := 0) hx hb d_law_warning_1 (by decide) ?_
  refine lv_aload_n hx hb d_law_warning_2 rfl (lv_at hl 0 rfl) ?_
  refine lv_iload_n hx hb d_law_warning_3 rfl (lv_at hl 1 rfl) ?_
  have hM := c_Yard_warning l hl0 (D := D) (cA := cA) hJ σ  p0
  have hsp := yKept_s σ 1 p0
  have hyk : ¬ (yKept σ 1 p0).1 = 0 → (yKept σ 1 p0).2.2 = σ := fun z => (hsp.resolve_left z).2
  by_cases c0 : (yKept σ 1 p0).1 = 0
  · exact wr_call (n := 1) (off := 6) (tgt := 15) (As := [p0]) hx hb hml hl.1 hown hts hr hlk hH hK hO hoA hth hM c0 (by decide) (by decide) ⟨ml_law_32, wi_Yard_warning, ws_Yard_warning, wn_Yard, wc_Yard_warning⟩ rfl ⟨by decide +kernel, by decide +kernel, by decide +kernel⟩ rfl ⟨by decide, by decide, by decide, by decide⟩ rfl d_law_warning_4 d_law_warning_7 d_law_warning_8 d_law_warning_9 (by decide) d_law_warning_15 d_law_warning_16
  obtain ⟨cell0, g1, g2, g3⟩ := va_recv (wr_K hK) (show va_P D classes [(ad 0 0, .inr (0, ty_fs ad (σ 0 0) 0 0 [some (1, some 0), none, none]))] s.heap from ty_one (hH 0 0 (by decide))) (ci := 0) (q0 := 0) rfl rfl
  have hPc : ∀ U : State, U.heap = s.heap → s.WarmedH U.vm → ty_PT cnC D ad cA σ (.inr (0, 0) :: [.inl p0]) (Value.ref (ad 0 0) :: [.int p0]).toArray U := fun U hU hW => ⟨⟨rfl, by rw [hU]; exact hH, va_K.moved hW.alike (wr_K hK)⟩, by rw [hU]; exact th_W.warm hW hth⟩
  obtain ⟨x, hsp2, x1, x2, x3, x4⟩ := tab1 htab
  have c1 := (hsp.resolve_left c0).1
  refine w_throws (n := 1) (C := "TimeoutYard") (As := [.int p0]) (rest := [.int 0, .ref o]) (x := x) hx hb hml hl.1 hown hts (hM.thrB c1 (by decide) (by decide)) ty_PT.blind hPc g1 g2 g3 ⟨ml_law_32, wi_Yard_warning, ws_Yard_warning, wn_Yard, wc_Yard_warning⟩ ⟨by decide +kernel, by decide +kernel, by decide +kernel⟩ rfl ⟨by decide, by decide, by decide, by decide⟩ (Nat.le_of_ble_eq_true rfl) rfl d_law_warning_4 (Or.inl ⟨_, hsp2⟩) (by simp [covers, x1, x2]) (by rw [x4]; decide) (by rw [x4]; exact wr_l15) (wr_cB hth) (fun H1 a q1 q2 => ?_)
  rw [x3]
  refine lv_astore_n hx hb d_law_warning_12 rfl hl (by decide) rfl (fun ls' hl' => ?_)
  refine lv_iconst (v := 1) hx hb d_law_warning_13 (by decide) ?_
  exact wr_thrown hx hb hr hlk hH hO c1 (by decide) hyk q1 q2 d_law_warning_14
set_option maxRecDepth 100000 in
theorem wc_law_count : Cond.codeWith y_law_count b_law_count 4 (some .int) [(0, 9, 12, 13)] ∈ ty_w := ty_any (by decide +kernel)
set_option maxRecDepth 100000 in
set_option maxHeartbeats 4000000 in
theorem wr_count (l : Launch) (hl0 : l.stackTraces = false) {D : va_G} {ad : Nat → Nat → Nat} {cA : Nat → ClassId} (hJ : ty_J cnC ad) (cL : ClassId) (o : Nat) (hoA : ¬ ty_A cnC ad o) (f : Nat → Int64) (σ : ty_St) (rc : Nat) (hrc : rc ≤ 12) (e6 : σ 1 0 6 = nI rc) (p0 : Int32) : Met l y_law_count (Cond.codeWith y_law_count b_law_count 4 (some .int) [(0, 9, 12, 13)] :: ty_w) rmW (wr_P D ad cA cL o f σ [.ref (ad 0 0), .int p0, .ref o]) (wr_Q D ad cA cL o (yCount σ p0)) 1 6 (wr_A ad o) := by
  refine va_MetW (cc := b_law_count) (maxL := 4) (ret := some .int) (hh := [(0, 9, 12, 13)]) rfl rfl ?_
  intro p e s m args below meth c s₁ B hml hv
  obtain ⟨rfl, hH, hK, hO, hth, hnc⟩ := hv
  have hts0 := atoms_spec (ws := Cond.codeWith y_law_count b_law_count 4 (some .int) [(0, 9, 12, 13)] :: ty_w) B.pre
  have hts : ∀ w ∈ ty_w, w.before _ s = true := fun w hw => hts0 w (List.mem_cons_of_mem _ hw)
  have hown : s.vm.findClass "TimeoutYardLaw" = some m.cls := findClass_of_methodNamed B.named
  have hx := B.exec
  have hb := B.bytes
  have hr := B.returns
  have hlk := B.notSynchronized
  have htab : c.exceptionTable.toList.map (fun h => (h.startPc, h.endPc, h.handlerPc, h.catchType)) = [(0, 9, 12, 13)] := by
    obtain ⟨m9, meth9, c9, q1, q2, q3, q4, q5, q6, -⟩ := Cond.codeWith_spec (hts0 _ List.mem_cons_self)
    cases Option.some.inj (q1.symm.trans B.named)
    cases Option.some.inj (q2.symm.trans B.method)
    cases Option.some.inj (q3.symm.trans (Stand.of_body B).code)
    exact q6
  have hl := lv_entry ([.ref (ad 0 0), .int p0, .ref o]) (n := 4) (Nat.le_of_ble_eq_true rfl)
  rw [lg_entry_eq]
  generalize (lg_sl ([.ref (ad 0 0), .int p0, .ref o]) ++ List.replicate (4 - (lg_sl ([.ref (ad 0 0), .int p0, .ref o])).length) Slot.unset).toArray = ls at hl ⊢
  have hl : lv_has ls 4 [(0, .ref (ad 0 0)), (1, .int p0), (2, .ref o)] := hl
  refine lv_aload_n hx hb d_law_count_0 rfl (lv_at hl 2 rfl) ?_
  refine lv_iconst (v := 0) hx hb d_law_count_1 (by decide) ?_
  refine lv_aload_n hx hb d_law_count_2 rfl (lv_at hl 0 rfl) ?_
  refine lv_iload_n hx hb d_law_count_3 rfl (lv_at hl 1 rfl) ?_
  have hM := c_Yard_count l hl0 (D := D) (cA := cA) hJ σ rc hrc e6 p0
  have hsp := yCount_s σ p0
  have hyk : ¬ (yCount σ p0).1 = 0 → (yCount σ p0).2.2 = σ := fun z => (hsp.resolve_left z).2
  by_cases c0 : (yCount σ p0).1 = 0
  · exact wr_call (n := 1) (off := 6) (tgt := 15) (As := [p0]) hx hb hml hl.1 hown hts hr hlk hH hK hO hoA hth hM c0 (by decide) (by decide) ⟨ml_law_35, wi_Yard_count, ws_Yard_count, wn_Yard, wc_Yard_count⟩ rfl ⟨by decide +kernel, by decide +kernel, by decide +kernel⟩ rfl ⟨by decide, by decide, by decide, by decide⟩ rfl d_law_count_4 d_law_count_7 d_law_count_8 d_law_count_9 (by decide) d_law_count_15 d_law_count_16
  obtain ⟨cell0, g1, g2, g3⟩ := va_recv (wr_K hK) (show va_P D classes [(ad 0 0, .inr (0, ty_fs ad (σ 0 0) 0 0 [some (1, some 0), none, none]))] s.heap from ty_one (hH 0 0 (by decide))) (ci := 0) (q0 := 0) rfl rfl
  have hPc : ∀ U : State, U.heap = s.heap → s.WarmedH U.vm → ty_PT cnC D ad cA σ (.inr (0, 0) :: [.inl p0]) (Value.ref (ad 0 0) :: [.int p0]).toArray U := fun U hU hW => ⟨⟨rfl, by rw [hU]; exact hH, va_K.moved hW.alike (wr_K hK)⟩, by rw [hU]; exact th_W.warm hW hth⟩
  obtain ⟨x, hsp2, x1, x2, x3, x4⟩ := tab1 htab
  have c1 := (hsp.resolve_left c0).1
  refine w_throws (n := 1) (C := "TimeoutYard") (As := [.int p0]) (rest := [.int 0, .ref o]) (x := x) hx hb hml hl.1 hown hts (hM.thrA c1 (by decide) (by decide)) ty_PT.blind hPc g1 g2 g3 ⟨ml_law_35, wi_Yard_count, ws_Yard_count, wn_Yard, wc_Yard_count⟩ ⟨by decide +kernel, by decide +kernel, by decide +kernel⟩ rfl ⟨by decide, by decide, by decide, by decide⟩ (Nat.le_of_ble_eq_true rfl) rfl d_law_count_4 (Or.inl ⟨_, hsp2⟩) (by simp [covers, x1, x2]) (by rw [x4]; decide) (by rw [x4]; exact wr_l13) (wr_cA hth) (fun H1 a q1 q2 => ?_)
  rw [x3]
  refine lv_astore_n hx hb d_law_count_12 rfl hl (by decide) rfl (fun ls' hl' => ?_)
  refine lv_iconst (v := 1) hx hb d_law_count_13 (by decide) ?_
  exact wr_thrown hx hb hr hlk hH hO c1 (by decide) hyk q1 q2 d_law_count_14
