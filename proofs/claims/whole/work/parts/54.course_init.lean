theorem arrV_congr {c : ClassId} {N : Nat} {f g : Nat → Value} (h : ∀ j, j < N → f j = g j) : arrV c N f = arrV c N g := by
  unfold arrV
  congr 1
  refine Array.ext (by simp) (fun i h1 h2 => ?_)
  simp only [Array.getElem_ofFn]
  exact h i (by simpa using h1)
theorem cs_full {D : va_G} {cl : List vw_C} {n a N x : Nat} {c : ClassId} {H : Heap} (h : va_at D cl (x, .inl (c, N, .inr (.inr (.inr (.inr (cs_f n a N)))))) H) : va_at D cl (x, .inl (c, N, .inr (.inr (.inr (.inr (fun j => some (adX n a j))))))) H := by
  show H[x]? = some (vp_cell _ _)
  have h' : H[x]? = some (vp_cell c (N, .inr (.inr (.inr (.inr (cs_f n a N)))))) := h
  rw [h', vp_cell_q, vp_cell_q]
  congr 1
  refine arrV_congr (fun j hj => ?_)
  show va_rf (if j < N then some (adX n a j) else none) = _
  rw [if_pos hj]
def cs_Post (D : va_G) (cA : Nat → ClassId) (n : Nat) (H : Heap) : Prop := ∀ a i, ¬ a = 0 → i < cnC a → va_at D classes (adX n a i, ty_en (adX n) cA (s0 a i) a i) H
theorem cs_end {D : va_G} {cA : Nat → ClassId} {n : Nat} {s : State} {H : Heap} {locs : List Loc} (h : cs_I D cA n 10 12 52 s H locs) : cs_Post D cA n H := by
  obtain ⟨-, -, -, hF, gP, gT, gS⟩ := h
  intro a i ha hi
  match a, ha, hi with
  | 0, ha, _ => exact absurd rfl ha
  | 1, _, hi => exact hF 1 i hi
  | 2, _, hi => exact hF 2 i hi
  | 3, _, hi => exact hF 3 i hi
  | 4, _, hi => exact hF 4 i hi
  | 5, _, hi => exact hF 5 i hi
  | 6, _, hi => exact hF 6 i hi
  | 7, _, hi => exact hF 7 i hi
  | 8, _, hi => exact hF 8 i hi
  | 9, _, hi => exact hF 9 i hi
  | 10, _, hi => exact hF 10 i hi
  | 11, _, hi => exact cs_full gP
  | 12, _, hi => exact cs_full gT
  | 13, _, hi => exact cs_full gS
  | a + 14, _, hi => exact absurd hi (Nat.not_lt_zero _)
set_option maxRecDepth 100000 in
set_option maxHeartbeats 4000000 in
theorem n_Course_init (l : Launch) {D : va_G} {cA : Nat → ClassId} {cL : ClassId} (n : Nat) : Met l y_Course_init (Cond.code y_Course_init b_Course_init 2 none :: ty_w) (rmN 2 112 1118) (cn_P D cA cL (n + 1) (n + 2) [] (fun H => va_at D classes (n + 1, .inr (1, [.null, .null, .null, .null, .null, .null, .int 0, .int 0, .int 0, .int 0, .int 0, .int 0])) H)) (cn_Q (n + 1) (n + 2) 112 (cs_Post D cA n)) 112 1118 (cn_F (n + 1) (n + 2)) := by
  refine Met.ofW (cc := b_Course_init) (maxL := 2) (ret := none) rfl rfl ?_
  intro p e s m args below meth c s₁ B hml hv
  obtain ⟨rfl, hz, hO, hK, hM⟩ := hv
  have hts0 := atoms_spec (ws := Cond.code y_Course_init b_Course_init 2 none :: ty_w) B.pre
  have hts : ∀ w ∈ ty_w, w.before _ s = true := fun w hw => hts0 w (List.mem_cons_of_mem _ hw)
  have hown : s.vm.findClass R_Course = some m.cls := findClass_of_methodNamed B.named
  have hx := B.exec
  have hb := B.bytes
  have hr := B.returns
  have hlk := B.notSynchronized
  have hnm : meth.name = "<init>" := (name_of_methodNamed B.named B.method).1
  have hS : va_S (cn_F (n + 1) (n + 2)) s.heap s.heap [] := va_S.rf
  have hk : ∀ q : Nat, q < n + 2 → q ≠ n + 1 → s.heap[q]? = s.heap[q]? := fun _ _ _ => rfl
  have hl := lv_entry (.ref (n + 1) :: []) (n := 2) (Nat.le_of_ble_eq_true rfl)
  rw [lg_entry_eq]
  generalize (lg_sl (.ref (n + 1) :: []) ++ List.replicate (2 - (lg_sl (.ref (n + 1) :: [])).length) Slot.unset).toArray = ls at hl ⊢
  have hl : lv_has ls 2 [(0, .ref (n + 1))] := hl
  refine lv_aload_n hx hb d_Course_init_0 rfl (lv_at hl 0 rfl) ?_
  refine dn_obj hx hb hml hl.1 hts hown ⟨ml_Course_3, ob_i, ob_c⟩ ⟨Nat.le_of_ble_eq_true rfl, Nat.le_of_ble_eq_true rfl⟩ d_Course_init_1 ?_
  refine lv_aload_n hx hb d_Course_init_4 rfl (lv_at hl 0 rfl) ?_
  refine lv_bipush (v := 10) hx hb d_Course_init_5 (by decide) ?_
  refine dn_anew (t := 1) (N' := 10) (h := n + 2) hx hb hts hown kl_Course_9 hM.2.2.1 hK rfl hS (by decide) rfl (by decide) ⟨Nat.le_of_ble_eq_true rfl, Nat.le_of_ble_eq_true rfl⟩ hz d_Course_init_7 (fun H2 gP z1 k1 hS => ?_)
  have hk : ∀ q : Nat, q < n + 2 → q ≠ n + 1 → H2[q]? = s.heap[q]? := fun q h1 h2 => (k1 q (by omega)).trans (hk q h1 h2)
  have hO := hO.kept (k1 (n + 1) (by omega))
  have hz : H2.size = n + 3 := z1
  clear z1 k1
  refine dn_putF (ci := 1) (C := R_Course) (T := F_Course) (N := 12) hx hb hts i_Course t_Course t_Course_ok n_Course hown hK hO hS (Or.inl rfl) rfl 0 (by decide) fl_Course_11 rfl rfl hnm rfl (ty := .array (.object "TimeoutYard$Program")) (v := .ref (n + 2)) (by decide +kernel) rfl rfl (Nat.le_of_ble_eq_true rfl) d_Course_init_10 (fun G1 M1 hO zp kp hS => ?_)
  have hO : va_at D classes (n + 1, .inr (1, [.ref (n + 2), .null, .null, .null, .null, .null, .int 0, .int 0, .int 0, .int 0, .int 0, .int 0])) G1 := hO
  have hz : G1.size = n + 3 := zp.trans hz
  have hk : ∀ q : Nat, q < n + 2 → q ≠ n + 1 → G1[q]? = s.heap[q]? := fun q h1 h2 => (kp q h2).trans (hk q h1 h2)
  have gP := gP.kept (kp (n + 2) (by omega))
  clear zp kp
  refine lv_aload_n hx hb d_Course_init_13 rfl (lv_at hl 0 rfl) ?_
  refine lv_bipush (v := 12) hx hb d_Course_init_14 (by decide) ?_
  refine dn_anew (t := 2) (N' := 12) (h := n + 3) hx hb hts hown kl_Course_17 hM.2.2.2.1 hK rfl hS (by decide) rfl (by decide) ⟨Nat.le_of_ble_eq_true rfl, Nat.le_of_ble_eq_true rfl⟩ hz d_Course_init_16 (fun H3 gT z1 k1 hS => ?_)
  have hk : ∀ q : Nat, q < n + 2 → q ≠ n + 1 → H3[q]? = s.heap[q]? := fun q h1 h2 => (k1 q (by omega)).trans (hk q h1 h2)
  have hO := hO.kept (k1 (n + 1) (by omega))
  have gP := gP.kept (k1 (n + 2) (by omega))
  have hz : H3.size = n + 4 := z1
  clear z1 k1
  refine dn_putF (ci := 1) (C := R_Course) (T := F_Course) (N := 12) hx hb hts i_Course t_Course t_Course_ok n_Course hown hK hO hS (Or.inl rfl) rfl 1 (by decide) fl_Course_19 rfl rfl hnm rfl (ty := .array (.object "TimeoutYard$Trial")) (v := .ref (n + 3)) (by decide +kernel) rfl rfl (Nat.le_of_ble_eq_true rfl) d_Course_init_19 (fun G2 M2 hO zp kp hS => ?_)
  have hO : va_at D classes (n + 1, .inr (1, [.ref (n + 2), .ref (n + 3), .null, .null, .null, .null, .int 0, .int 0, .int 0, .int 0, .int 0, .int 0])) G2 := hO
  have hz : G2.size = n + 4 := zp.trans hz
  have hk : ∀ q : Nat, q < n + 2 → q ≠ n + 1 → G2[q]? = s.heap[q]? := fun q h1 h2 => (kp q h2).trans (hk q h1 h2)
  have gP := gP.kept (kp (n + 2) (by omega))
  have gT := gT.kept (kp (n + 3) (by omega))
  clear zp kp
  refine lv_aload_n hx hb d_Course_init_22 rfl (lv_at hl 0 rfl) ?_
  refine lv_bipush (v := 52) hx hb d_Course_init_23 (by decide) ?_
  refine dn_anew (t := 3) (N' := 52) (h := n + 4) hx hb hts hown kl_Course_23 hM.2.2.2.2 hK rfl hS (by decide) rfl (by decide) ⟨Nat.le_of_ble_eq_true rfl, Nat.le_of_ble_eq_true rfl⟩ hz d_Course_init_25 (fun H4 gS z1 k1 hS => ?_)
  have hk : ∀ q : Nat, q < n + 2 → q ≠ n + 1 → H4[q]? = s.heap[q]? := fun q h1 h2 => (k1 q (by omega)).trans (hk q h1 h2)
  have hO := hO.kept (k1 (n + 1) (by omega))
  have gP := gP.kept (k1 (n + 2) (by omega))
  have gT := gT.kept (k1 (n + 3) (by omega))
  have hz : H4.size = n + 5 := z1
  clear z1 k1
  refine dn_putF (ci := 1) (C := R_Course) (T := F_Course) (N := 12) hx hb hts i_Course t_Course t_Course_ok n_Course hown hK hO hS (Or.inl rfl) rfl 2 (by decide) fl_Course_25 rfl rfl hnm rfl (ty := .array (.object "TimeoutYard$Strand")) (v := .ref (n + 4)) (by decide +kernel) rfl rfl (Nat.le_of_ble_eq_true rfl) d_Course_init_28 (fun G3 M3 hO zp kp hS => ?_)
  have hO : va_at D classes (n + 1, .inr (1, [.ref (n + 2), .ref (n + 3), .ref (n + 4), .null, .null, .null, .int 0, .int 0, .int 0, .int 0, .int 0, .int 0])) G3 := hO
  have hz : G3.size = n + 5 := zp.trans hz
  have hk : ∀ q : Nat, q < n + 2 → q ≠ n + 1 → G3[q]? = s.heap[q]? := fun q h1 h2 => (kp q h2).trans (hk q h1 h2)
  have gP := gP.kept (kp (n + 2) (by omega))
  have gT := gT.kept (kp (n + 3) (by omega))
  have gS := gS.kept (kp (n + 4) (by omega))
  clear zp kp
  refine lv_aload_n hx hb d_Course_init_31 rfl (lv_at hl 0 rfl) ?_
  refine lv_iconst (v := 4) hx hb d_Course_init_32 (by decide) ?_
  refine dn_newa (t := 0) (N' := 4) (ty := .int) (h := n + 5) hx hb hts rfl ac_int (fun _ q => q) hK rfl hS (by decide) rfl (by decide) ⟨Nat.le_of_ble_eq_true rfl, Nat.le_of_ble_eq_true rfl⟩ hz d_Course_init_33 (fun H5 a1 z1 k1 hS => ?_)
  have hk : ∀ q : Nat, q < n + 2 → q ≠ n + 1 → H5[q]? = s.heap[q]? := fun q h1 h2 => (k1 q (by omega)).trans (hk q h1 h2)
  have hO := hO.kept (k1 (n + 1) (by omega))
  have gP := gP.kept (k1 (n + 2) (by omega))
  have gT := gT.kept (k1 (n + 3) (by omega))
  have gS := gS.kept (k1 (n + 4) (by omega))
  have hz : H5.size = n + 6 := z1
  have gW : va_at D classes (n + 5, .inl (cA 0, 4, .inl (fun _ => 0))) H5 := a1
  clear z1 k1 a1
  refine dn_putF (ci := 1) (C := R_Course) (T := F_Course) (N := 12) hx hb hts i_Course t_Course t_Course_ok n_Course hown hK hO hS (Or.inl rfl) rfl 3 (by decide) fl_Course_29 rfl rfl hnm rfl (ty := .array .int) (v := .ref (n + 5)) (by decide +kernel) rfl rfl (Nat.le_of_ble_eq_true rfl) d_Course_init_35 (fun G4 M4 hO zp kp hS => ?_)
  have hO : va_at D classes (n + 1, .inr (1, [.ref (n + 2), .ref (n + 3), .ref (n + 4), .ref (n + 5), .null, .null, .int 0, .int 0, .int 0, .int 0, .int 0, .int 0])) G4 := hO
  have hz : G4.size = n + 6 := zp.trans hz
  have hk : ∀ q : Nat, q < n + 2 → q ≠ n + 1 → G4[q]? = s.heap[q]? := fun q h1 h2 => (kp q h2).trans (hk q h1 h2)
  have gP := gP.kept (kp (n + 2) (by omega))
  have gT := gT.kept (kp (n + 3) (by omega))
  have gS := gS.kept (kp (n + 4) (by omega))
  have gW := gW.kept (kp (n + 5) (by omega))
  clear zp kp
  refine lv_aload_n hx hb d_Course_init_38 rfl (lv_at hl 0 rfl) ?_
  refine dn_new (ci := 5) (C := R_Log) (T := F_Log) (N := 2) (fs := [.null, .int 0]) (h := n + 6) hx hb hts hown i_Log t_Log t_Log_ok ⟨kl_Course_33, ki_Log, wn_Log⟩ hK hS rfl (by decide) ⟨Nat.le_of_ble_eq_true rfl, Nat.le_of_ble_eq_true rfl⟩ hz d_Course_init_39 (fun H6 a1 z1 k1 hS => ?_)
  have hk : ∀ q : Nat, q < n + 2 → q ≠ n + 1 → H6[q]? = s.heap[q]? := fun q h1 h2 => (k1 q (by omega)).trans (hk q h1 h2)
  have hO := hO.kept (k1 (n + 1) (by omega))
  have gP := gP.kept (k1 (n + 2) (by omega))
  have gT := gT.kept (k1 (n + 3) (by omega))
  have gS := gS.kept (k1 (n + 4) (by omega))
  have gW := gW.kept (k1 (n + 5) (by omega))
  have hz : H6.size = n + 7 := z1
  clear z1 k1
  refine lv_dup hx hb d_Course_init_42 rfl ?_
  refine lv_bipush (v := nI 12) hx hb d_Course_init_43 (by decide) ?_
  refine w_ctor (n := 1) (b := n + 6) (h := n + 7) (As := [.int (nI 12)]) (rest := [.ref (n + 6), .ref (n + 1)]) hx hb hml hl.1 hown hts hK hM (n_Log_init l 12 (by decide) (by decide) (by decide) _ _ (by omega)) hz a1 hS (fun q hq => by rcases hq with hq | hq <;> (right; omega)) ⟨ml_Course_35, wi_Log_init, wn_Log, wc_Log_init⟩ rfl ⟨by decide +kernel, by decide +kernel, by decide +kernel⟩ rfl ⟨Nat.le_of_ble_eq_true rfl, Nat.le_of_ble_eq_true rfl, Nat.le_of_ble_eq_true rfl, Nat.le_of_ble_eq_true rfl⟩ rfl (Nat.le_of_ble_eq_true rfl) d_Course_init_45 (fun K7 L7 hp z2 k2 hS => ?_)
  clear a1
  obtain ⟨gN, gNk⟩ := hp
  have hk : ∀ q : Nat, q < n + 2 → q ≠ n + 1 → K7[q]? = s.heap[q]? := fun q h1 h2 => (k2 q (by omega) (by omega)).trans (hk q h1 h2)
  have hO := hO.kept (k2 (n + 1) (by omega) (by omega))
  have gP := gP.kept (k2 (n + 2) (by omega) (by omega))
  have gT := gT.kept (k2 (n + 3) (by omega) (by omega))
  have gS := gS.kept (k2 (n + 4) (by omega) (by omega))
  have gW := gW.kept (k2 (n + 5) (by omega) (by omega))
  have hz : K7.size = n + 8 := z2
  clear z2 k2
  refine dn_putF (ci := 1) (C := R_Course) (T := F_Course) (N := 12) hx hb hts i_Course t_Course t_Course_ok n_Course hown hK hO hS (Or.inl rfl) rfl 4 (by decide) fl_Course_38 rfl rfl hnm rfl (ty := .object "TimeoutYard$Log") (v := .ref (n + 6)) (by decide +kernel) rfl rfl (Nat.le_of_ble_eq_true rfl) d_Course_init_48 (fun G5 M5 hO zp kp hS => ?_)
  have hO : va_at D classes (n + 1, .inr (1, [.ref (n + 2), .ref (n + 3), .ref (n + 4), .ref (n + 5), .ref (n + 6), .null, .int 0, .int 0, .int 0, .int 0, .int 0, .int 0])) G5 := hO
  have hz : G5.size = n + 8 := zp.trans hz
  have hk : ∀ q : Nat, q < n + 2 → q ≠ n + 1 → G5[q]? = s.heap[q]? := fun q h1 h2 => (kp q h2).trans (hk q h1 h2)
  have gP := gP.kept (kp (n + 2) (by omega))
  have gT := gT.kept (kp (n + 3) (by omega))
  have gS := gS.kept (kp (n + 4) (by omega))
  have gW := gW.kept (kp (n + 5) (by omega))
  have gN := gN.kept (kp (n + 6) (by omega))
  have gNk := gNk.kept (kp (n + 7) (by omega))
  clear zp kp
  refine lv_aload_n hx hb d_Course_init_51 rfl (lv_at hl 0 rfl) ?_
  refine dn_new (ci := 5) (C := R_Log) (T := F_Log) (N := 2) (fs := [.null, .int 0]) (h := n + 8) hx hb hts hown i_Log t_Log t_Log_ok ⟨kl_Course_33, ki_Log, wn_Log⟩ hK hS rfl (by decide) ⟨Nat.le_of_ble_eq_true rfl, Nat.le_of_ble_eq_true rfl⟩ hz d_Course_init_52 (fun H8 a1 z1 k1 hS => ?_)
  have hk : ∀ q : Nat, q < n + 2 → q ≠ n + 1 → H8[q]? = s.heap[q]? := fun q h1 h2 => (k1 q (by omega)).trans (hk q h1 h2)
  have hO := hO.kept (k1 (n + 1) (by omega))
  have gP := gP.kept (k1 (n + 2) (by omega))
  have gT := gT.kept (k1 (n + 3) (by omega))
  have gS := gS.kept (k1 (n + 4) (by omega))
  have gW := gW.kept (k1 (n + 5) (by omega))
  have gN := gN.kept (k1 (n + 6) (by omega))
  have gNk := gNk.kept (k1 (n + 7) (by omega))
  have hz : H8.size = n + 9 := z1
  clear z1 k1
  refine lv_dup hx hb d_Course_init_55 rfl ?_
  refine lv_bipush (v := nI 8) hx hb d_Course_init_56 (by decide) ?_
  refine w_ctor (n := 1) (b := n + 8) (h := n + 9) (As := [.int (nI 8)]) (rest := [.ref (n + 8), .ref (n + 1)]) hx hb hml hl.1 hown hts hK hM (n_Log_init l 8 (by decide) (by decide) (by decide) _ _ (by omega)) hz a1 hS (fun q hq => by rcases hq with hq | hq <;> (right; omega)) ⟨ml_Course_35, wi_Log_init, wn_Log, wc_Log_init⟩ rfl ⟨by decide +kernel, by decide +kernel, by decide +kernel⟩ rfl ⟨Nat.le_of_ble_eq_true rfl, Nat.le_of_ble_eq_true rfl, Nat.le_of_ble_eq_true rfl, Nat.le_of_ble_eq_true rfl⟩ rfl (Nat.le_of_ble_eq_true rfl) d_Course_init_58 (fun K9 L9 hp z2 k2 hS => ?_)
  clear a1
  obtain ⟨gA, gAk⟩ := hp
  have hk : ∀ q : Nat, q < n + 2 → q ≠ n + 1 → K9[q]? = s.heap[q]? := fun q h1 h2 => (k2 q (by omega) (by omega)).trans (hk q h1 h2)
  have hO := hO.kept (k2 (n + 1) (by omega) (by omega))
  have gP := gP.kept (k2 (n + 2) (by omega) (by omega))
  have gT := gT.kept (k2 (n + 3) (by omega) (by omega))
  have gS := gS.kept (k2 (n + 4) (by omega) (by omega))
  have gW := gW.kept (k2 (n + 5) (by omega) (by omega))
  have gN := gN.kept (k2 (n + 6) (by omega) (by omega))
  have gNk := gNk.kept (k2 (n + 7) (by omega) (by omega))
  have hz : K9.size = n + 10 := z2
  clear z2 k2
  refine dn_putF (ci := 1) (C := R_Course) (T := F_Course) (N := 12) hx hb hts i_Course t_Course t_Course_ok n_Course hown hK hO hS (Or.inl rfl) rfl 5 (by decide) fl_Course_42 rfl rfl hnm rfl (ty := .object "TimeoutYard$Log") (v := .ref (n + 8)) (by decide +kernel) rfl rfl (Nat.le_of_ble_eq_true rfl) d_Course_init_61 (fun G6 M6 hO zp kp hS => ?_)
  have hO : va_at D classes (n + 1, .inr (1, [.ref (n + 2), .ref (n + 3), .ref (n + 4), .ref (n + 5), .ref (n + 6), .ref (n + 8), .int 0, .int 0, .int 0, .int 0, .int 0, .int 0])) G6 := hO
  have hz : G6.size = n + 10 := zp.trans hz
  have hk : ∀ q : Nat, q < n + 2 → q ≠ n + 1 → G6[q]? = s.heap[q]? := fun q h1 h2 => (kp q h2).trans (hk q h1 h2)
  have gP := gP.kept (kp (n + 2) (by omega))
  have gT := gT.kept (kp (n + 3) (by omega))
  have gS := gS.kept (kp (n + 4) (by omega))
  have gW := gW.kept (kp (n + 5) (by omega))
  have gN := gN.kept (kp (n + 6) (by omega))
  have gNk := gNk.kept (kp (n + 7) (by omega))
  have gA := gA.kept (kp (n + 8) (by omega))
  have gAk := gAk.kept (kp (n + 9) (by omega))
  clear zp kp
  refine lv_iconst (v := nI 0) hx hb d_Course_init_64 (by decide) ?_
  refine lv_istore_n hx hb d_Course_init_65 rfl hl (by decide) rfl (fun ls' hl' => ?_)
  have hF : ∀ a i, cs_S 0 0 0 a i → va_at D classes (adX n a i, ty_en (adX n) cA (s0 a i) a i) G6 := by
    intro a i h
    match a, h with
    | 1, h => have e : i = 0 := Nat.lt_one_iff.mp h; subst e; exact hO
    | 10, h => have e : i = 0 := Nat.lt_one_iff.mp h; subst e; exact gW
    | 5, h =>
      match i, h with
      | 0, _ => exact gN
      | 1, _ => exact gA
      | i + 2, h => exact absurd h (by show ¬ (i + 2 < 2); omega)
    | 9, h =>
      match i, h with
      | 0, _ => exact gNk
      | 1, _ => exact gAk
      | i + 2, h => exact absurd h (by show ¬ (i + 2 < 2); omega)
    | 2, h => exact absurd h (Nat.not_lt_zero _)
    | 6, h => exact absurd h (Nat.not_lt_zero _)
    | 7, h => exact absurd h (Nat.not_lt_zero _)
    | 8, h => exact absurd h (Nat.not_lt_zero _)
    | 3, h => exact absurd h (Nat.not_lt_zero _)
    | 4, h => exact absurd h (Nat.not_lt_zero _)
    | 0, h => exact False.elim h
    | 11, h => exact False.elim h
    | 12, h => exact False.elim h
    | 13, h => exact False.elim h
    | a + 14, h => exact False.elim h
  have hI : cs_I D cA n 0 0 0 s G6 M6 := ⟨hz, hk, hS, hF, by rw [show cs_f n 2 0 = fun _ => none from funext fun j => if_neg (Nat.not_lt_zero j)]; exact gP, by rw [show cs_f n 3 0 = fun _ => none from funext fun j => if_neg (Nat.not_lt_zero j)]; exact gT, by rw [show cs_f n 4 0 = fun _ => none from funext fun j => if_neg (Nat.not_lt_zero j)]; exact gS⟩
  have hRR : (rmN 2 112 1118).cells = 112 ∧ (rmN 2 112 1118).slots = 1118 ∧ (rmN 2 112 1118).frames = 2 ∧ (rmN 2 112 1118).locals = 60 := ⟨rfl, rfl, rfl, rfl⟩
  refine cs_loopProgram (R := rmN 2 112 1118) hx hb hml hown hts hK hM hRR (fun HA LA lsA hIA hlA => ?_) 10 0 rfl G6 M6 ls' hI hl'
  refine lv_iconst (v := nI 0) hx hb d_Course_init_91 (by decide) ?_
  refine lv_istore_n hx hb d_Course_init_92 rfl hlA (by decide) rfl (fun lsB hlB => ?_)
  refine cs_loopTrial (R := rmN 2 112 1118) hx hb hml hown hts hK hM hRR (fun HC LC lsC hIC hlC => ?_) 12 0 rfl HA LA lsB hIA hlB
  refine lv_iconst (v := nI 0) hx hb d_Course_init_118 (by decide) ?_
  refine lv_istore_n hx hb d_Course_init_119 rfl hlC (by decide) rfl (fun lsD hlD => ?_)
  refine cs_loopStrand (R := rmN 2 112 1118) hx hb hml hown hts hK hM hRR (fun HE LE lsE hIE hlE => ?_) 52 0 rfl HC LC lsD hIC hlD
  have hEnd := cs_end hIE
  obtain ⟨zE, kE, SE, -⟩ := hIE
  exact W.vret hx hb hr (fun t ht _ => ⟨rfl, ht.symm ▸ hEnd, (congrArg Array.size ht).trans zE, fun q h1 h2 => (congrArg (fun z : Heap => z[q]?) ht).trans (kE q h1 h2)⟩) SE.2.2 d_Course_init_145 hlk
