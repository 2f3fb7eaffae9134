theorem adX_pos {n : Nat} : ∀ {a i : Nat}, ¬ a = 0 → i < cnC a → adX n a i ≠ n
  | 0, _, h, _ => absurd rfl h
  | 1, i, _, _ => by show n + 1 ≠ n; omega
  | 2, i, _, _ => by show n + 10 + 4 * i ≠ n; omega
  | 3, i, _, _ => by show n + 50 + i ≠ n; omega
  | 4, i, _, _ => by show n + 62 + i ≠ n; omega
  | 5, i, _, _ => by show n + 6 + 2 * i ≠ n; omega
  | 6, i, _, _ => by show n + 11 + 4 * i ≠ n; omega
  | 7, i, _, _ => by show n + 12 + 4 * i ≠ n; omega
  | 8, i, _, _ => by show n + 13 + 4 * i ≠ n; omega
  | 9, i, _, _ => by show n + 7 + 2 * i ≠ n; omega
  | 10, i, _, _ => by show n + 5 ≠ n; omega
  | 11, i, _, _ => by show n + 2 ≠ n; omega
  | 12, i, _, _ => by show n + 3 ≠ n; omega
  | 13, i, _, _ => by show n + 4 ≠ n; omega
  | a + 14, _, _, h => absurd h (Nat.not_lt_zero _)
theorem adX_hi {n : Nat} : ∀ {a i : Nat}, i < cnC a → n ≤ adX n a i ∧ adX n a i < n + 114
  | 0, i, h => by
    have h' : i < 1 := h
    show n ≤ n ∧ n < n + 114; omega
  | 1, i, h => by
    have h' : i < 1 := h
    show n ≤ n + 1 ∧ n + 1 < n + 114; omega
  | 2, i, h => by
    have h' : i < 10 := h
    show n ≤ n + 10 + 4 * i ∧ n + 10 + 4 * i < n + 114; omega
  | 3, i, h => by
    have h' : i < 12 := h
    show n ≤ n + 50 + i ∧ n + 50 + i < n + 114; omega
  | 4, i, h => by
    have h' : i < 52 := h
    show n ≤ n + 62 + i ∧ n + 62 + i < n + 114; omega
  | 5, i, h => by
    have h' : i < 2 := h
    show n ≤ n + 6 + 2 * i ∧ n + 6 + 2 * i < n + 114; omega
  | 6, i, h => by
    have h' : i < 10 := h
    show n ≤ n + 11 + 4 * i ∧ n + 11 + 4 * i < n + 114; omega
  | 7, i, h => by
    have h' : i < 10 := h
    show n ≤ n + 12 + 4 * i ∧ n + 12 + 4 * i < n + 114; omega
  | 8, i, h => by
    have h' : i < 10 := h
    show n ≤ n + 13 + 4 * i ∧ n + 13 + 4 * i < n + 114; omega
  | 9, i, h => by
    have h' : i < 2 := h
    show n ≤ n + 7 + 2 * i ∧ n + 7 + 2 * i < n + 114; omega
  | 10, i, h => by
    have h' : i < 1 := h
    show n ≤ n + 5 ∧ n + 5 < n + 114; omega
  | 11, i, h => by
    have h' : i < 1 := h
    show n ≤ n + 2 ∧ n + 2 < n + 114; omega
  | 12, i, h => by
    have h' : i < 1 := h
    show n ≤ n + 3 ∧ n + 3 < n + 114; omega
  | 13, i, h => by
    have h' : i < 1 := h
    show n ≤ n + 4 ∧ n + 4 < n + 114; omega
  | a + 14, _, h => absurd h (Nat.not_lt_zero _)
/-- which cell lies d behind the first -/
def adI (d : Nat) : Nat × Nat :=
  if d = 0 then (0, 0) else if d = 1 then (1, 0) else if d = 2 then (11, 0) else if d = 3 then (12, 0) else if d = 4 then (13, 0) else if d = 5 then (10, 0) else if d = 6 then (5, 0) else if d = 7 then (9, 0) else if d = 8 then (5, 1) else if d = 9 then (9, 1)
  else if d < 50 then (if (d - 10) % 4 = 0 then (2, (d - 10) / 4) else (5 + (d - 10) % 4, (d - 10) / 4)) else if d < 62 then (3, d - 50) else (4, d - 62)
theorem adI_ok {n : Nat} : ∀ {a i : Nat}, i < cnC a → adI (adX n a i - n) = (a, i)
  | 0, i, h => by
    have h' : i < 1 := h
    have e : i = 0 := by omega
    subst e
    show adI (n - n) = _
    rw [show n - n = 0 by omega]; rfl
  | 1, i, h => by
    have h' : i < 1 := h
    have e : i = 0 := by omega
    subst e
    show adI (n + 1 - n) = _
    rw [show n + 1 - n = 1 by omega]; rfl
  | 2, i, h => by
    have h' : i < 10 := h
    show adI (n + 10 + 4 * i - n) = _
    rw [show n + 10 + 4 * i - n = 10 + 4 * i by omega]
    unfold adI
    rw [if_neg (by omega), if_neg (by omega), if_neg (by omega), if_neg (by omega), if_neg (by omega), if_neg (by omega), if_neg (by omega), if_neg (by omega), if_neg (by omega), if_neg (by omega), if_pos (by omega)]
    rw [if_pos (by omega), show (10 + 4 * i - 10) / 4 = i by omega]
  | 3, i, h => by
    have h' : i < 12 := h
    show adI (n + 50 + i - n) = _
    rw [show n + 50 + i - n = 50 + i by omega]
    unfold adI
    rw [if_neg (by omega), if_neg (by omega), if_neg (by omega), if_neg (by omega), if_neg (by omega), if_neg (by omega), if_neg (by omega), if_neg (by omega), if_neg (by omega), if_neg (by omega), if_neg (by omega), if_pos (by omega), show 50 + i - 50 = i by omega]
  | 4, i, h => by
    have h' : i < 52 := h
    show adI (n + 62 + i - n) = _
    rw [show n + 62 + i - n = 62 + i by omega]
    unfold adI
    rw [if_neg (by omega), if_neg (by omega), if_neg (by omega), if_neg (by omega), if_neg (by omega), if_neg (by omega), if_neg (by omega), if_neg (by omega), if_neg (by omega), if_neg (by omega), if_neg (by omega), if_neg (by omega), show 62 + i - 62 = i by omega]
  | 5, i, h => by
    have h' : i < 2 := h
    show adI (n + 6 + 2 * i - n) = _
    rcases (show i = 0 ∨ i = 1 by omega) with e | e <;> subst e
    · rw [show n + 6 + 2 * 0 - n = 6 by omega]; rfl
    · rw [show n + 6 + 2 * 1 - n = 8 by omega]; rfl
  | 6, i, h => by
    have h' : i < 10 := h
    show adI (n + 11 + 4 * i - n) = _
    rw [show n + 11 + 4 * i - n = 11 + 4 * i by omega]
    unfold adI
    rw [if_neg (by omega), if_neg (by omega), if_neg (by omega), if_neg (by omega), if_neg (by omega), if_neg (by omega), if_neg (by omega), if_neg (by omega), if_neg (by omega), if_neg (by omega), if_pos (by omega)]
    rw [if_neg (by omega), show (11 + 4 * i - 10) / 4 = i by omega, show (11 + 4 * i - 10) % 4 = 1 by omega]
  | 7, i, h => by
    have h' : i < 10 := h
    show adI (n + 12 + 4 * i - n) = _
    rw [show n + 12 + 4 * i - n = 12 + 4 * i by omega]
    unfold adI
    rw [if_neg (by omega), if_neg (by omega), if_neg (by omega), if_neg (by omega), if_neg (by omega), if_neg (by omega), if_neg (by omega), if_neg (by omega), if_neg (by omega), if_neg (by omega), if_pos (by omega)]
    rw [if_neg (by omega), show (12 + 4 * i - 10) / 4 = i by omega, show (12 + 4 * i - 10) % 4 = 2 by omega]
  | 8, i, h => by
    have h' : i < 10 := h
    show adI (n + 13 + 4 * i - n) = _
    rw [show n + 13 + 4 * i - n = 13 + 4 * i by omega]
    unfold adI
    rw [if_neg (by omega), if_neg (by omega), if_neg (by omega), if_neg (by omega), if_neg (by omega), if_neg (by omega), if_neg (by omega), if_neg (by omega), if_neg (by omega), if_neg (by omega), if_pos (by omega)]
    rw [if_neg (by omega), show (13 + 4 * i - 10) / 4 = i by omega, show (13 + 4 * i - 10) % 4 = 3 by omega]
  | 9, i, h => by
    have h' : i < 2 := h
    show adI (n + 7 + 2 * i - n) = _
    rcases (show i = 0 ∨ i = 1 by omega) with e | e <;> subst e
    · rw [show n + 7 + 2 * 0 - n = 7 by omega]; rfl
    · rw [show n + 7 + 2 * 1 - n = 9 by omega]; rfl
  | 10, i, h => by
    have h' : i < 1 := h
    have e : i = 0 := by omega
    subst e
    show adI (n + 5 - n) = _
    rw [show n + 5 - n = 5 by omega]; rfl
  | 11, i, h => by
    have h' : i < 1 := h
    have e : i = 0 := by omega
    subst e
    show adI (n + 2 - n) = _
    rw [show n + 2 - n = 2 by omega]; rfl
  | 12, i, h => by
    have h' : i < 1 := h
    have e : i = 0 := by omega
    subst e
    show adI (n + 3 - n) = _
    rw [show n + 3 - n = 3 by omega]; rfl
  | 13, i, h => by
    have h' : i < 1 := h
    have e : i = 0 := by omega
    subst e
    show adI (n + 4 - n) = _
    rw [show n + 4 - n = 4 by omega]; rfl
  | a + 14, _, h => absurd h (Nat.not_lt_zero _)
theorem adX_J {n : Nat} : ty_J cnC (adX n) := by
  intro a i a' i' h h' e
  have h1 := adI_ok (n := n) h
  have h2 := adI_ok (n := n) h'
  rw [e] at h1
  have := h1.symm.trans h2
  cases this
  exact ⟨rfl, rfl⟩
set_option maxRecDepth 100000 in
theorem kl_Yard_9 : Cond.classLink R_Yard 9 R_Course ∈ ty_w := ty_any (by decide +kernel)
set_option maxRecDepth 100000 in
set_option maxHeartbeats 4000000 in
theorem n_Yard_init (l : Launch) {D : va_G} {cA : Nat → ClassId} {cL : ClassId} (n : Nat) : Met l y_Yard_init (Cond.code y_Yard_init b_Yard_init 1 none :: ty_w) (rmN 3 113 1130) (cn_P D cA cL n (n + 1) [] (fun H => va_at D classes (n, .inr (0, [.null, .int 0, .int 0])) H)) (cn_Q n (n + 1) 113 (fun H => ty_H cnC D (adX n) cA s0 H)) 113 1130 (cn_F n (n + 1)) := by
  refine Met.ofW (cc := b_Yard_init) (maxL := 1) (ret := none) rfl rfl ?_
  intro p e s m args below meth c s₁ B hml hv
  obtain ⟨rfl, hz, hO, hK, hM⟩ := hv
  have hts0 := atoms_spec (ws := Cond.code y_Yard_init b_Yard_init 1 none :: ty_w) B.pre
  have hts : ∀ w ∈ ty_w, w.before _ s = true := fun w hw => hts0 w (List.mem_cons_of_mem _ hw)
  have hown : s.vm.findClass R_Yard = some m.cls := findClass_of_methodNamed B.named
  have hx := B.exec
  have hb := B.bytes
  have hr := B.returns
  have hlk := B.notSynchronized
  have hnm : meth.name = "<init>" := (name_of_methodNamed B.named B.method).1
  have hS : va_S (cn_F n (n + 1)) s.heap s.heap [] := va_S.rf
  have hl := lv_entry (.ref n :: []) (n := 1) (Nat.le_of_ble_eq_true rfl)
  rw [lg_entry_eq]
  generalize (lg_sl (.ref n :: []) ++ List.replicate (1 - (lg_sl (.ref n :: [])).length) Slot.unset).toArray = ls at hl ⊢
  have hl : lv_has ls 1 [(0, .ref n)] := hl
  refine lv_aload_n hx hb d_Yard_init_0 rfl (lv_at hl 0 rfl) ?_
  refine dn_obj hx hb hml hl.1 hts hown ⟨ml_Yard_3, ob_i, ob_c⟩ ⟨Nat.le_of_ble_eq_true rfl, Nat.le_of_ble_eq_true rfl⟩ d_Yard_init_1 ?_
  refine lv_aload_n hx hb d_Yard_init_4 rfl (lv_at hl 0 rfl) ?_
  refine dn_new (ci := 1) (C := R_Course) (T := F_Course) (N := 12) (fs := [.null, .null, .null, .null, .null, .null, .int 0, .int 0, .int 0, .int 0, .int 0, .int 0]) (h := n + 1) hx hb hts hown i_Course t_Course t_Course_ok ⟨kl_Yard_9, ki_Course, wn_Course⟩ hK hS rfl (by decide) ⟨Nat.le_of_ble_eq_true rfl, Nat.le_of_ble_eq_true rfl⟩ hz d_Yard_init_5 (fun H1 a1 z1 k1 hS1 => ?_)
  refine lv_dup hx hb d_Yard_init_8 rfl ?_
  refine w_ctor (n := 0) (b := n + 1) (h := n + 2) (As := []) (rest := [.ref (n + 1), .ref n]) hx hb hml hl.1 hown hts hK hM (n_Course_init l n) z1 a1 hS1 (fun q hq => by rcases hq with hq | hq <;> (right; omega)) ⟨ml_Yard_11, wi_Course_init, wn_Course, wc_Course_init⟩ rfl ⟨by decide +kernel, by decide +kernel, by decide +kernel⟩ rfl ⟨Nat.le_of_ble_eq_true rfl, Nat.le_of_ble_eq_true rfl, Nat.le_of_ble_eq_true rfl, Nat.le_of_ble_eq_true rfl⟩ rfl (Nat.le_of_ble_eq_true rfl) d_Yard_init_9 (fun H2 L2 hp z2 k2 hS2 => ?_)
  have hO2 := hO.kept ((k2 n (by omega) (by omega)).trans (k1 n (by omega)))
  refine dn_putF (ci := 0) (C := R_Yard) (T := F_Yard) (N := 3) hx hb hts i_Yard t_Yard t_Yard_ok n_Yard hown hK hO2 hS2 (Or.inl rfl) rfl 0 (by decide) fl_Yard_12 rfl rfl hnm rfl (ty := .object "TimeoutYard$Course") (v := .ref (n + 1)) (by decide +kernel) rfl rfl (Nat.le_of_ble_eq_true rfl) d_Yard_init_12 (fun H3 L3 hO3 z3 k3 hS3 => ?_)
  refine lv_aload_n hx hb d_Yard_init_15 rfl (lv_at hl 0 rfl) ?_
  refine lv_iconst (v := 0) hx hb d_Yard_init_16 (by decide) ?_
  refine dn_put (ci := 0) (C := R_Yard) (T := F_Yard) (N := 3) hx hb hts i_Yard t_Yard t_Yard_ok n_Yard hown hK hO3 hS3 (Or.inl rfl) rfl 1 (by decide) fl_Yard_16 rfl rfl (ty := .int) (v := .int 0) (by decide +kernel) rfl rfl (Nat.le_of_ble_eq_true rfl) d_Yard_init_17 (fun H4 L4 hO4 z4 k4 hS4 => ?_)
  refine lv_aload_n hx hb d_Yard_init_20 rfl (lv_at hl 0 rfl) ?_
  refine lv_iconst (v := 1) hx hb d_Yard_init_21 (by decide) ?_
  refine dn_put (ci := 0) (C := R_Yard) (T := F_Yard) (N := 3) hx hb hts i_Yard t_Yard t_Yard_ok n_Yard hown hK hO4 hS4 (Or.inl rfl) rfl 2 (by decide) fl_Yard_20 rfl rfl (ty := .int) (v := .int 1) (by decide +kernel) rfl rfl (Nat.le_of_ble_eq_true rfl) d_Yard_init_22 (fun H5 L5 hO5 z5 k5 hS5 => ?_)
  have hend : ty_H cnC D (adX n) cA s0 H5 := by
    intro a i hi
    by_cases ha : a = 0
    · subst ha
      have e : i = 0 := Nat.lt_one_iff.mp hi
      subst e
      exact hO5
    · have h2 := hp a i ha hi
      have hne : adX n a i ≠ n := adX_pos ha hi
      exact ((h2.kept (k3 _ hne)).kept (k4 _ hne)).kept (k5 _ hne)
  exact W.vret hx hb hr (fun t ht _ => ⟨rfl, ht.symm ▸ hend, by rw [ht, z5, z4, z3, z2], fun q h1 h2 => by rw [ht, k5 q h2, k4 q h2, k3 q h2, k2 q (by omega) (by omega), k1 q (by omega)]⟩) hS5.2.2 d_Yard_init_25 hlk
theorem adX_M {n : Nat} : ∀ {a i : Nat}, i < cnM a → i = 0 ∧ 20 ≤ a ∧ a < 49 ∧ adX n a i = n + 114 + (a - 20) := by
  intro a i h
  unfold cnM at h
  split at h
  · rename_i q
    refine ⟨by omega, q.1, q.2, ?_⟩
    match a, q with
    | 0, q => exact absurd q.1 (by decide)
    | 1, q => exact absurd q.1 (by decide)
    | 2, q => exact absurd q.1 (by decide)
    | 3, q => exact absurd q.1 (by decide)
    | 4, q => exact absurd q.1 (by decide)
    | 5, q => exact absurd q.1 (by decide)
    | 6, q => exact absurd q.1 (by decide)
    | 7, q => exact absurd q.1 (by decide)
    | 8, q => exact absurd q.1 (by decide)
    | 9, q => exact absurd q.1 (by decide)
    | 10, q => exact absurd q.1 (by decide)
    | 11, q => exact absurd q.1 (by decide)
    | 12, q => exact absurd q.1 (by decide)
    | 13, q => exact absurd q.1 (by decide)
    | 14, q => exact absurd q.1 (by decide)
    | 15, q => exact absurd q.1 (by decide)
    | 16, q => exact absurd q.1 (by decide)
    | 17, q => exact absurd q.1 (by decide)
    | 18, q => exact absurd q.1 (by decide)
    | 19, q => exact absurd q.1 (by decide)
    | a + 20, _ => rfl
  · omega
theorem adX_JM {n : Nat} : ty_J cnM (adX n) := by
  intro a i a' i' h h' e
  obtain ⟨e1, e2, e3, e4⟩ := adX_M (n := n) h
  obtain ⟨f1, f2, f3, f4⟩ := adX_M (n := n) h'
  rw [e4, f4] at e
  omega
theorem md_H {D : va_G} {cA : Nat → ClassId} {n : Nat} {H : Heap} (hO : va_at D classes (n + 114, .inr (6, md_F (n + 115) 28)) H) (hF : ∀ j, j < 28 → va_at D classes (n + 115 + j, ty_en (fun _ _ => 0) cA (fun _ => 0) (21 + j) 0) H) : ty_H cnM D (adX n) cA s0 H := by
  intro a i hi
  obtain ⟨e1, e2, e3, e4⟩ := adX_M (n := n) hi
  subst e1
  match a, e2, e3 with
  | 0, e2, _ => exact absurd e2 (by decide)
  | 1, e2, _ => exact absurd e2 (by decide)
  | 2, e2, _ => exact absurd e2 (by decide)
  | 3, e2, _ => exact absurd e2 (by decide)
  | 4, e2, _ => exact absurd e2 (by decide)
  | 5, e2, _ => exact absurd e2 (by decide)
  | 6, e2, _ => exact absurd e2 (by decide)
  | 7, e2, _ => exact absurd e2 (by decide)
  | 8, e2, _ => exact absurd e2 (by decide)
  | 9, e2, _ => exact absurd e2 (by decide)
  | 10, e2, _ => exact absurd e2 (by decide)
  | 11, e2, _ => exact absurd e2 (by decide)
  | 12, e2, _ => exact absurd e2 (by decide)
  | 13, e2, _ => exact absurd e2 (by decide)
  | 14, e2, _ => exact absurd e2 (by decide)
  | 15, e2, _ => exact absurd e2 (by decide)
  | 16, e2, _ => exact absurd e2 (by decide)
  | 17, e2, _ => exact absurd e2 (by decide)
  | 18, e2, _ => exact absurd e2 (by decide)
  | 19, e2, _ => exact absurd e2 (by decide)
  | 20, _, _ => exact hO
  | 21, _, _ => exact hF 0 (by decide)
  | 22, _, _ => exact hF 1 (by decide)
  | 23, _, _ => exact hF 2 (by decide)
  | 24, _, _ => exact hF 3 (by decide)
  | 25, _, _ => exact hF 4 (by decide)
  | 26, _, _ => exact hF 5 (by decide)
  | 27, _, _ => exact hF 6 (by decide)
  | 28, _, _ => exact hF 7 (by decide)
  | 29, _, _ => exact hF 8 (by decide)
  | 30, _, _ => exact hF 9 (by decide)
  | 31, _, _ => exact hF 10 (by decide)
  | 32, _, _ => exact hF 11 (by decide)
  | 33, _, _ => exact hF 12 (by decide)
  | 34, _, _ => exact hF 13 (by decide)
  | 35, _, _ => exact hF 14 (by decide)
  | 36, _, _ => exact hF 15 (by decide)
  | 37, _, _ => exact hF 16 (by decide)
  | 38, _, _ => exact hF 17 (by decide)
  | 39, _, _ => exact hF 18 (by decide)
  | 40, _, _ => exact hF 19 (by decide)
  | 41, _, _ => exact hF 20 (by decide)
  | 42, _, _ => exact hF 21 (by decide)
  | 43, _, _ => exact hF 22 (by decide)
  | 44, _, _ => exact hF 23 (by decide)
  | 45, _, _ => exact hF 24 (by decide)
  | 46, _, _ => exact hF 25 (by decide)
  | 47, _, _ => exact hF 26 (by decide)
  | 48, _, _ => exact hF 27 (by decide)
  | a + 49, _, e3 => exact absurd e3 (by omega)
