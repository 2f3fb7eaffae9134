theorem lw_any {w : Cond} (h : (lw_tbl.any (fun v => decide (v = w))) = true) : w ∈ lw_tbl := by
  simp only [List.any_eq_true, decide_eq_true_eq] at h
  obtain ⟨v, hv, rfl⟩ := h
  exact hv
set_option maxRecDepth 100000 in
set_option maxHeartbeats 4000000 in
theorem th_start {b : Nat} {s : State} (hts : ∀ w ∈ lw_tbl, w.before #[Value.ref b] s = true) (hgv : (Jvm.Cond.and given_1 narrow_1).before #[Value.ref b] s = true) : th_W s s.heap ∧ th_NC s ∧ cn_M s := by
  have hq := flat_of_before _ hgv
  have cB := hts (.castable th_IB th_IB) (lw_any (by decide +kernel))
  have cA := hts (.castable th_IA th_IA) (lw_any (by decide +kernel))
  refine ⟨⟨fun w hw => ?_, fun q hq' => ?_⟩, ?_, ?_⟩
  · simp only [th_D, List.cons_append, List.nil_append, List.mem_cons, List.not_mem_nil, or_false] at hw
    rcases hw with rfl | rfl | rfl | rfl | rfl | rfl | rfl | rfl
    · exact va_Nw.of rfl (hts _ (lw_any (by decide +kernel)))
    · exact va_Nw.of rfl (hts _ (lw_any (by decide +kernel)))
    · exact va_Nw.of rfl (hts _ (lw_any (by decide +kernel)))
    · exact va_Nw.of rfl cA
    · exact va_Nw.of rfl (hts _ (lw_any (by decide +kernel)))
    · exact va_Nw.of rfl (hts _ (lw_any (by decide +kernel)))
    · exact va_Nw.of rfl (hts _ (lw_any (by decide +kernel)))
    · exact va_Nw.of rfl cB
  · simp only [th_S, List.mem_cons, List.not_mem_nil, or_false] at hq'
    rcases hq' with rfl | rfl
    · exact th_Z.of (args := #[Value.ref b]) (hts _ (lw_any (by decide +kernel))) (hq _ (by decide +kernel))
    · exact th_Z.of (args := #[Value.ref b]) (hts _ (lw_any (by decide +kernel))) (hq _ (by decide +kernel))
  · obtain ⟨c3, c4, hc3, hc4, -⟩ := Cond.castable_spec cB
    obtain ⟨c5, c6, hc5, hc6, -⟩ := Cond.castable_spec cA
    have hno := hq (Cond.not (.castable th_IB th_IA)) (by decide +kernel)
    have hv := Cond.holds_not_iff.mp hno
    simp only [Cond.value, hc3, hc5] at hv
    exact ⟨c3, c5, hc3, hc5, Option.some.inj hv⟩
  · exact ⟨va_Nw.of rfl (hts _ (lw_any (by decide +kernel))), va_Nw.of rfl (hts _ (lw_any (by decide +kernel))), va_AO.of (hts _ (lw_any (by decide +kernel))), va_AO.of (hts _ (lw_any (by decide +kernel))), va_AO.of (hts _ (lw_any (by decide +kernel)))⟩
theorem ar_num {s : State} {args : Array Value} {ty : FieldType} (h : (Cond.arrayClass ty).before args s = true) (hp : ∀ cT, s.vm.findClass ("[" ++ ty.toString) = some cT → va_RA s cT ty) : ∃ cT, ArrOfT s cT ty ∧ va_RA s cT ty := by
  obtain ⟨c, k, comp, h1, h2, h3⟩ := Cond.arrayClass_spec h
  exact ⟨c, fun n z => ⟨(fun k h => by cases h), k, h2, comp, h3⟩, hp c h1⟩
theorem ar_obj {s : State} {C : String} (h : va_AO C s) : ∃ cT, ArrOfT s cT (.object C) ∧ va_RA s cT (.object C) := by
  obtain ⟨comp, c, k, h1, h2, h3, h4, h5⟩ := Cond.arrayOver_spec h
  exact ⟨c, fun n z => ⟨(fun k h => by cases h), k, h3, comp, h4⟩, k, comp, h3, h4, h1, h5⟩
set_option maxHeartbeats 4000000 in
set_option maxRecDepth 100000 in
theorem ls_K {b : Nat} {s : State} (hts : ∀ w ∈ lw_tbl, w.before #[Value.ref b] s = true) (hM : cn_M s) : ∃ (D : va_G) (cA : Nat → ClassId) (cL : ClassId), va_K D classes (wr_tys cA cL) s := by
  have hty : ∀ w ∈ ty_w, w.before #[Value.ref b] s = true := fun w hw => hts w (List.mem_filter.mp hw).1
  obtain ⟨c0, iS0, hKn0⟩ := u_known (C := R_Yard) (T := F_Yard) (N := 3) (n := 3) hty i_Yard (hty _ ki_Yard)
  obtain ⟨c1, iS1, hKn1⟩ := u_known (C := R_Course) (T := F_Course) (N := 12) (n := 12) hty i_Course (hty _ ki_Course)
  obtain ⟨c2, iS2, hKn2⟩ := u_known (C := R_Program) (T := F_Program) (N := 4) (n := 4) hty i_Program (hty _ ki_Program)
  obtain ⟨c3, iS3, hKn3⟩ := u_known (C := R_Trial) (T := F_Trial) (N := 13) (n := 13) hty i_Trial (hty _ ki_Trial)
  obtain ⟨c4, iS4, hKn4⟩ := u_known (C := R_Strand) (T := F_Strand) (N := 10) (n := 10) hty i_Strand (hty _ ki_Strand)
  obtain ⟨c5, iS5, hKn5⟩ := u_known (C := R_Log) (T := F_Log) (N := 2) (n := 2) hty i_Log (hty _ ki_Log)
  obtain ⟨c6, iS6, hKn6⟩ := u_known (C := R_Model) (T := F_Model) (N := 38) (n := 38) hty i_Model (hty _ ki_Model)
  obtain ⟨a0, x0, y0⟩ := ar_num (hty _ ac_int) (fun _ q => q)
  obtain ⟨a1, x1, y1⟩ := ar_obj hM.2.2.1
  obtain ⟨a2, x2, y2⟩ := ar_obj hM.2.2.2.1
  obtain ⟨a3, x3, y3⟩ := ar_obj hM.2.2.2.2
  obtain ⟨a4, x4, y4⟩ := ar_num (hty _ ac_bool) (fun _ q => q)
  obtain ⟨a5, x5, y5⟩ := ar_num (hty _ ac_long) (fun _ q => q)
  refine ⟨(fun k => match k with | 0 => c0 | 1 => c1 | 2 => c2 | 3 => c3 | 4 => c4 | 5 => c5 | _ => c6, fun k => match k with | 0 => iS0 | 1 => iS1 | 2 => iS2 | 3 => iS3 | 4 => iS4 | 5 => iS5 | _ => iS6), fun k => match k with | 0 => a0 | 1 => a1 | 2 => a2 | 3 => a3 | _ => a4, a5, fun k q hq => ?_, fun k q hq => ?_⟩
  · match k, hq with
    | 0, hq => cases hq; exact hKn0
    | 1, hq => cases hq; exact hKn1
    | 2, hq => cases hq; exact hKn2
    | 3, hq => cases hq; exact hKn3
    | 4, hq => cases hq; exact hKn4
    | 5, hq => cases hq; exact hKn5
    | 6, hq => cases hq; exact hKn6
    | k + 7, hq => simp [classes] at hq
  · match k, hq with
    | 0, hq => cases hq; exact ⟨x0, y0⟩
    | 1, hq => cases hq; exact ⟨x1, y1⟩
    | 2, hq => cases hq; exact ⟨x2, y2⟩
    | 3, hq => cases hq; exact ⟨x3, y3⟩
    | 4, hq => cases hq; exact ⟨x4, y4⟩
    | 5, hq => cases hq; exact ⟨x5, y5⟩
    | k + 6, hq => simp [wr_tys, ty_tys] at hq
set_option maxHeartbeats 4000000 in
set_option maxRecDepth 100000 in
/-- THE LAW, from its entry -/
theorem whole_start {p : Program} {e : Env} {s : State} {m : MethodId} {below : List Frame} {meth : Method} {c : Code} (l : Launch) (hl0 : l.stackTraces = false) {b L : Nat} {xs : Nat → Int32} (hL : L ≤ 2560) (C0 : lw_At p s m meth c b L xs) : W p l e room_1 s m #[Value.ref b] below meth c s.heap [] 0 0 (lw_Z below #[Value.ref b] s) (entryFrame m ([Value.ref b] : List Value).toArray 7) := by
  obtain ⟨hx, hb, hr, hml, hown, hts0, hX, hbl, hlocks, hgv⟩ := C0
  obtain ⟨hth, hnc, hM⟩ := th_start hts0 hgv
  obtain ⟨D, cA, cL, hK⟩ := ls_K hts0 hM
  have hts : ∀ w ∈ ty_w, w.before #[Value.ref b] s = true := fun w hw => hts0 w (List.mem_filter.mp hw).1
  obtain ⟨n, hn⟩ : ∃ n, s.heap.size = n := ⟨_, rfl⟩
  have C : LX p l s m #[Value.ref b] c D cA cL n b L xs := ⟨hx, hb, hml, hown, hts, hK, ⟨hth, hnc⟩, hX, hbl, hn, hL, hl0⟩
  have hS : va_S (lw_A n) s.heap s.heap [] := va_S.rf
  have hl := lv_entry ([.ref b]) (n := 7) (Nat.le_of_ble_eq_true rfl)
  rw [lg_entry_eq]
  generalize (lg_sl ([.ref b]) ++ List.replicate (7 - (lg_sl ([.ref b])).length) Slot.unset).toArray = ls at hl ⊢
  have hl : lv_has ls 7 [(0, .ref b)] := hl
  refine dn_new (ci := 0) (C := R_Yard) (T := F_Yard) (N := 3) (fs := [.null, .int 0, .int 0]) (h := n) hx hb hts hown i_Yard t_Yard t_Yard_ok ⟨kl_law_8, ki_Yard, wn_Yard⟩ hK hS rfl (by decide) ⟨by decide, by decide⟩ hn d_law_law_0 (fun H1 a1 z1 k1 hS1 => ?_)
  refine lv_dup hx hb d_law_law_3 rfl ?_
  refine w_ctor (n := 0) (b := n) (h := n + 1) (As := []) (rest := [.ref n]) hx hb hml hl.1 hown hts hK hM (n_Yard_init l n) z1 a1 hS1 (fun q hq => by
      show n ≤ q
      rcases hq with hq | hq <;> omega) ⟨ml_law_38, wi_Yard_init, wn_Yard, wc_Yard_init⟩ rfl ⟨by decide +kernel, by decide +kernel, by decide +kernel⟩ rfl ⟨by decide, by decide, by decide, by decide⟩ rfl (Nat.le_of_ble_eq_true rfl) d_law_law_4 (fun H2 L2 hC2 z2 k2 hS2 => ?_)
  refine lv_astore_n (lv' := [(1, .ref n), (0, .ref b)]) hx hb d_law_law_7 rfl hl (by decide) rfl (fun ls1 hl1 => ?_)
  refine dn_new (ci := 6) (C := R_Model) (T := F_Model) (N := 38) (fs := [.int 0, .int 0, .int 0, .int 0, .int 0, .int 0, .int 0, .int 0, .int 0, .int 0, .null, .null, .null, .null, .null, .null, .null, .null, .null, .null, .null, .null, .null, .null, .null, .null, .null, .null, .null, .null, .null, .null, .null, .null, .null, .null, .null, .null]) (h := n + 114) hx hb hts hown i_Model t_Model t_Model_ok ⟨kl_law_39, ki_Model, wn_Model⟩ hK hS2 rfl (by decide) ⟨by decide, by decide⟩ (z2.trans (by omega)) d_law_law_8 (fun H3 a3 z3 k3 hS3 => ?_)
  refine lv_dup hx hb d_law_law_11 rfl ?_
  refine w_ctor (n := 0) (b := n + 114) (h := n + 115) (As := []) (rest := [.ref (n + 114)]) hx hb hml hl1.1 hown hts hK hM (n_Model_init l _ _ (Nat.lt_succ_self _)) z3 a3 hS3 (fun q hq => by
      show n ≤ q
      rcases hq with hq | hq <;> omega) ⟨ml_law_41, wi_Model_init, wn_Model, wc_Model_init⟩ rfl ⟨by decide +kernel, by decide +kernel, by decide +kernel⟩ rfl ⟨by decide, by decide, by decide, by decide⟩ rfl (Nat.le_of_ble_eq_true rfl) d_law_law_12 (fun H4 L4 hp4 z4 k4 hS4 => ?_)
  refine lv_astore_n (lv' := [(2, .ref (n + 114)), (1, .ref n), (0, .ref b)]) hx hb d_law_law_15 rfl hl1 (by decide) rfl (fun ls2 hl2 => ?_)
  refine lv_iconst (v := 1) hx hb d_law_law_16 (by decide) ?_
  refine dn_newa (t := 5) (N' := 1) (ty := .long) (h := n + 143) hx hb hts rfl ac_long (fun _ q => q) hK rfl hS4 (by decide) rfl (by decide) ⟨by decide, by decide⟩ (z4.trans (by omega)) d_law_law_17 (fun H5 a5 z5 k5 hS5 => ?_)
  refine lv_astore_n (lv' := [(3, .ref (n + 143)), (2, .ref (n + 114)), (1, .ref n), (0, .ref b)]) hx hb d_law_law_19 rfl hl2 (by decide) rfl (fun ls3 hl3 => ?_)
  refine lv_iconst (v := nI 0) hx hb d_law_law_20 (by decide) ?_
  refine lv_istore hx hb d_law_law_21 hl3 (by decide) rfl (fun ls4 hl4 => ?_)
  have keep : ∀ q : Nat, q < n + 114 → H5[q]? = H2[q]? := fun q hq => (k5 q (by omega)).trans ((k4 q (by omega) (by omega)).trans (k3 q hq))
  have hC5 : ty_H cnC D (adX n) cA s0 H5 := fun a i hi => (hC2 a i hi).kept (keep _ (adX_hi hi).2)
  have hM5 : ty_H cnM D (adX n) cA s0 H5 := md_H (hp4.1.kept (k5 _ (by show n + 114 < _; omega))) (fun j hj => (hp4.2 j hj).kept (k5 _ (by show n + 115 + j < _; omega)))
  have hO5 : va_at D classes (wr_o (n + 143) cL (fun _ => 0)) H5 := a5
  refine W.widen (k := 144 + 0) (n := 2244 + 6 * 0) (by decide) (by decide) ?_
  exact law_loop C hr hlocks L 0 (by omega) (Nat.zero_le _) H5 L4 ls4 ⟨0, 1, s0, s0, fun _ => 0, eI0, hC5, hM5, hO5, hS5⟩ hl4
