def rmT : Room := { frames := 6, cells := 1, slots := 6, locals := 180 }
theorem kIn_nz {x lo hi : Int32} (h : ¬ kIn x lo hi = 0) : kIn x lo hi = 1 := by
  unfold kIn at h ⊢
  split
  · rfl
  · rename_i q; rw [if_neg q] at h; exact absurd rfl h
theorem kIn_no1 {x lo hi : Int32} (h : kIn x lo hi = 0) : ¬ kIn x lo hi = 1 := by rw [h]; decide
theorem kAct_01 (op a : Int32) : kAct op a = 0 ∨ kAct op a = 1 := by
  have h : ∀ x lo hi : Int32, kIn x lo hi = 0 ∨ kIn x lo hi = 1 := fun x lo hi => by unfold kIn; split <;> simp
  unfold kAct
  split
  · exact h _ _ _
  · split
    · exact h _ _ _
    · split
      · exact h _ _ _
      · exact h _ _ _
theorem kKeeps_01 (σ : ty_St) (i : Nat) (k : Int32) : kKeeps σ i k = 0 ∨ kKeeps σ i k = 1 := by unfold kKeeps; split <;> simp
theorem kKeeps_vp {σ : ty_St} {i : Nat} {k : Int32} (h : kKeeps σ i k = 1) : vp_in k (if i = 0 then 12 else 8) := by
  unfold kKeeps at h
  split at h
  · rename_i q
    have hcap : kCap i = nI (if i = 0 then 12 else 8) := by unfold kCap; split <;> rfl
    exact i32_ge0 (Int32.not_lt.mpr q.1) (by rw [← hcap]; exact q.2.2) (by split <;> decide)
  · exact absurd h (by decide)
theorem kIn_06 {w : Int32} (h : w.toInt < 0 ∨ 6 < w.toInt) : ¬ kIn w 0 6 = 1 := by
  unfold kIn
  rw [if_neg]
  · decide
  · intro q
    have q1 := Int32.le_iff_toInt_le.mp q.1
    have q2 := Int32.le_iff_toInt_le.mp q.2
    have e0 : (0 : Int32).toInt = 0 := by decide
    have e6 : (6 : Int32).toInt = 6 := by decide
    omega
set_option maxRecDepth 100000 in
set_option maxHeartbeats 4000000 in
theorem k0_isWithin (l : Launch) {D : va_G} {ad : Nat → Nat → Nat} {cA : Nat → ClassId} (hJ : ty_J cnC ad) (σ : ty_St) (x lo hi : Int32) : ty_MB (fun _ => False) l y_Yard_isWithin (Cond.code y_Yard_isWithin b_Yard_isWithin 3 (some .boolean) :: ty_w) (rmL 0) cnC D ad cA [.inl x, .inl lo, .inl hi] σ (fun r σ' => r = some (.inl (kIn x lo hi)) ∧ σ' = σ) := by
  refine ty_MB.of rfl hJ layC (ty_oks.cons trivial (ty_oks.cons trivial (ty_oks.cons trivial ty_oks.nil))) (Nat.le_of_ble_eq_true rfl) ?_
  intro p e s m args below meth c C hr hnm
  refine v_iload_n (pc := 0) C d_Yard_isWithin_0 rfl rfl ?_
  refine v_iload_n (pc := 1) C d_Yard_isWithin_1 rfl rfl ?_
  refine v_icmp_gt (pc := 2) (tgt := 14) C d_Yard_isWithin_2 (by decide) (fun h2 => ?_) (fun h2 => ?_)
  · refine v_iconst (pc := 14) (v := 0) C d_Yard_isWithin_14 (by decide) ?_
    exact v_zreturnB (pc := 15) C hr rfl ⟨by first | rw [kIn_1 h2] | rw [kIn_2 h7] | rw [kIn_3 h2 h7], rfl⟩ d_Yard_isWithin_15
  · refine v_iload_n (pc := 5) C d_Yard_isWithin_5 rfl rfl ?_
    refine v_iload_n (pc := 6) C d_Yard_isWithin_6 rfl rfl ?_
    refine v_icmp_gt (pc := 7) (tgt := 14) C d_Yard_isWithin_7 (by decide) (fun h7 => ?_) (fun h7 => ?_)
    · refine v_iconst (pc := 14) (v := 0) C d_Yard_isWithin_14 (by decide) ?_
      exact v_zreturnB (pc := 15) C hr rfl ⟨by first | rw [kIn_1 h2] | rw [kIn_2 h7] | rw [kIn_3 h2 h7], rfl⟩ d_Yard_isWithin_15
    · refine v_iconst (pc := 10) (v := 1) C d_Yard_isWithin_10 (by decide) ?_
      refine v_goto (pc := 11) (tgt := 15) C d_Yard_isWithin_11 (by decide) ?_
      exact v_zreturnB (pc := 15) C hr rfl ⟨by first | rw [kIn_1 h2] | rw [kIn_2 h7] | rw [kIn_3 h2 h7], rfl⟩ d_Yard_isWithin_15
set_option maxRecDepth 100000 in
set_option maxHeartbeats 4000000 in
theorem k0_isAction (l : Launch) {D : va_G} {ad : Nat → Nat → Nat} {cA : Nat → ClassId} (hJ : ty_J cnC ad) (σ : ty_St) (op a : Int32) : ty_MB (fun _ => False) l y_Yard_isAction (Cond.code y_Yard_isAction b_Yard_isAction 2 (some .boolean) :: ty_w) (rmL 1) cnC D ad cA [.inl op, .inl a] σ (fun r σ' => r = some (.inl (kAct op a)) ∧ σ' = σ) := by
  refine ty_MB.of rfl hJ layC (ty_oks.cons trivial (ty_oks.cons trivial ty_oks.nil)) (Nat.le_of_ble_eq_true rfl) ?_
  intro p e s m args below meth c C hr hnm
  have dfl : ¬ (op = 0 ∨ op = 1) → ¬ (op = 3 ∨ op = 6) → ¬ (op = 4 ∨ op = 5) → ty_V cnC p l e (rmL 1) s m args below meth c D ad cA (ty_Gb (fun _ => False) s) 2 (MQ below (ty_Q cnC D ad cA (fun r σ' => r = some (.inl (kAct op a)) ∧ σ' = σ) (fun _ => False)) args s 0 0 (fun _ => False)) σ [some (.inl op), some (.inl a)] 76 [] := by
    intro g1 g2 g3
    refine v_iload_n (pc := 76) C d_Yard_isAction_76 rfl rfl ?_
    refine v_iconst (pc := 77) (v := 0) C d_Yard_isAction_77 (by decide) ?_
    refine v_bipush (pc := 78) (v := 11) C d_Yard_isAction_78 (by decide) ?_
    refine cb_Yard_23 (pc := 80) C (k0_isWithin l hJ _ _ _ _) ⟨rfl, rfl, by decide, by decide⟩ rfl rfl (Nat.le_of_ble_eq_true rfl) d_Yard_isAction_80 (fun r σ' hq => ?_)
    rw [hq.1, hq.2]
    exact v_zreturnB (pc := 83) C hr (kIn_z _ _ _) ⟨by unfold kAct; rw [if_neg g1, if_neg g2, if_neg g3], rfl⟩ d_Yard_isAction_83
  refine v_iload_n (pc := 0) C d_Yard_isAction_0 rfl rfl ?_
  by_cases e0 : op = 0
  · subst e0
    refine v_tabIn (pc := 1) (off := 43) (tgt := 44) C d_Yard_isAction_1 (by decide) (by decide) (by decide) (by decide) ?_
    refine v_iload_n (pc := 44) C d_Yard_isAction_44 rfl rfl ?_
    refine v_iconst (pc := 45) (v := 1) C d_Yard_isAction_45 (by decide) ?_
    refine v_bipush (pc := 46) (v := 20) C d_Yard_isAction_46 (by decide) ?_
    refine cb_Yard_23 (pc := 48) C (k0_isWithin l hJ _ _ _ _) ⟨rfl, rfl, by decide, by decide⟩ rfl rfl (Nat.le_of_ble_eq_true rfl) d_Yard_isAction_48 (fun r σ' hq => ?_)
    rw [hq.1, hq.2]
    exact v_zreturnB (pc := 51) C hr (kIn_z _ _ _) ⟨by unfold kAct; rw [if_pos (by decide)], rfl⟩ d_Yard_isAction_51
  by_cases e1 : op = 1
  · subst e1
    refine v_tabIn (pc := 1) (off := 43) (tgt := 44) C d_Yard_isAction_1 (by decide) (by decide) (by decide) (by decide) ?_
    refine v_iload_n (pc := 44) C d_Yard_isAction_44 rfl rfl ?_
    refine v_iconst (pc := 45) (v := 1) C d_Yard_isAction_45 (by decide) ?_
    refine v_bipush (pc := 46) (v := 20) C d_Yard_isAction_46 (by decide) ?_
    refine cb_Yard_23 (pc := 48) C (k0_isWithin l hJ _ _ _ _) ⟨rfl, rfl, by decide, by decide⟩ rfl rfl (Nat.le_of_ble_eq_true rfl) d_Yard_isAction_48 (fun r σ' hq => ?_)
    rw [hq.1, hq.2]
    exact v_zreturnB (pc := 51) C hr (kIn_z _ _ _) ⟨by unfold kAct; rw [if_pos (by decide)], rfl⟩ d_Yard_isAction_51
  by_cases e3 : op = 3
  · subst e3
    refine v_tabIn (pc := 1) (off := 51) (tgt := 52) C d_Yard_isAction_1 (by decide) (by decide) (by decide) (by decide) ?_
    refine v_iload_n (pc := 52) C d_Yard_isAction_52 rfl rfl ?_
    refine v_iconst (pc := 53) (v := 0) C d_Yard_isAction_53 (by decide) ?_
    refine v_bipush (pc := 54) (v := 99) C d_Yard_isAction_54 (by decide) ?_
    refine cb_Yard_23 (pc := 56) C (k0_isWithin l hJ _ _ _ _) ⟨rfl, rfl, by decide, by decide⟩ rfl rfl (Nat.le_of_ble_eq_true rfl) d_Yard_isAction_56 (fun r σ' hq => ?_)
    rw [hq.1, hq.2]
    exact v_zreturnB (pc := 59) C hr (kIn_z _ _ _) ⟨by unfold kAct; rw [if_neg (by decide), if_pos (by decide)], rfl⟩ d_Yard_isAction_59
  by_cases e6 : op = 6
  · subst e6
    refine v_tabIn (pc := 1) (off := 51) (tgt := 52) C d_Yard_isAction_1 (by decide) (by decide) (by decide) (by decide) ?_
    refine v_iload_n (pc := 52) C d_Yard_isAction_52 rfl rfl ?_
    refine v_iconst (pc := 53) (v := 0) C d_Yard_isAction_53 (by decide) ?_
    refine v_bipush (pc := 54) (v := 99) C d_Yard_isAction_54 (by decide) ?_
    refine cb_Yard_23 (pc := 56) C (k0_isWithin l hJ _ _ _ _) ⟨rfl, rfl, by decide, by decide⟩ rfl rfl (Nat.le_of_ble_eq_true rfl) d_Yard_isAction_56 (fun r σ' hq => ?_)
    rw [hq.1, hq.2]
    exact v_zreturnB (pc := 59) C hr (kIn_z _ _ _) ⟨by unfold kAct; rw [if_neg (by decide), if_pos (by decide)], rfl⟩ d_Yard_isAction_59
  by_cases e4 : op = 4
  · subst e4
    refine v_tabIn (pc := 1) (off := 59) (tgt := 60) C d_Yard_isAction_1 (by decide) (by decide) (by decide) (by decide) ?_
    refine v_iload_n (pc := 60) C d_Yard_isAction_60 rfl rfl ?_
    refine v_iconst (pc := 61) (v := 0) C d_Yard_isAction_61 (by decide) ?_
    refine v_bipush (pc := 62) (v := 9) C d_Yard_isAction_62 (by decide) ?_
    refine cb_Yard_23 (pc := 64) C (k0_isWithin l hJ _ _ _ _) ⟨rfl, rfl, by decide, by decide⟩ rfl rfl (Nat.le_of_ble_eq_true rfl) d_Yard_isAction_64 (fun r σ' hq => ?_)
    rw [hq.1, hq.2]
    exact v_zreturnB (pc := 67) C hr (kIn_z _ _ _) ⟨by unfold kAct; rw [if_neg (by decide), if_neg (by decide), if_pos (by decide)], rfl⟩ d_Yard_isAction_67
  by_cases e5 : op = 5
  · subst e5
    refine v_tabIn (pc := 1) (off := 67) (tgt := 68) C d_Yard_isAction_1 (by decide) (by decide) (by decide) (by decide) ?_
    refine v_iload_n (pc := 68) C d_Yard_isAction_68 rfl rfl ?_
    refine v_iconst (pc := 69) (v := 0) C d_Yard_isAction_69 (by decide) ?_
    refine v_bipush (pc := 70) (v := 9) C d_Yard_isAction_70 (by decide) ?_
    refine cb_Yard_23 (pc := 72) C (k0_isWithin l hJ _ _ _ _) ⟨rfl, rfl, by decide, by decide⟩ rfl rfl (Nat.le_of_ble_eq_true rfl) d_Yard_isAction_72 (fun r σ' hq => ?_)
    rw [hq.1, hq.2]
    exact v_zreturnB (pc := 75) C hr (kIn_z _ _ _) ⟨by unfold kAct; rw [if_neg (by decide), if_neg (by decide), if_pos (by decide)], rfl⟩ d_Yard_isAction_75
  have f0 : ¬ op.toInt = 0 := lv_neT e0 (by decide)
  have f1 : ¬ op.toInt = 1 := lv_neT e1 (by decide)
  have f3 : ¬ op.toInt = 3 := lv_neT e3 (by decide)
  have f6 : ¬ op.toInt = 6 := lv_neT e6 (by decide)
  have f4 : ¬ op.toInt = 4 := lv_neT e4 (by decide)
  have f5 : ¬ op.toInt = 5 := lv_neT e5 (by decide)
  rcases (show op.toInt < 0 ∨ 6 < op.toInt ∨ op.toInt = 2 by omega) with h | h | h
  · exact v_tabOut (pc := 1) (tgt := 76) C d_Yard_isAction_1 (Or.inl h) (by decide) (dfl (fun z => z.elim e0 e1) (fun z => z.elim e3 e6) (fun z => z.elim e4 e5))
  · exact v_tabOut (pc := 1) (tgt := 76) C d_Yard_isAction_1 (Or.inr h) (by decide) (dfl (fun z => z.elim e0 e1) (fun z => z.elim e3 e6) (fun z => z.elim e4 e5))
  · exact v_tabIn (pc := 1) (off := 75) (tgt := 76) C d_Yard_isAction_1 (by omega) (by omega) (by rw [h]; decide) (by decide) (dfl (fun z => z.elim e0 e1) (fun z => z.elim e3 e6) (fun z => z.elim e4 e5))
set_option maxRecDepth 100000 in
set_option maxHeartbeats 4000000 in
theorem k0_keeps (l : Launch) {D : va_G} {ad : Nat → Nat → Nat} {cA : Nat → ClassId} (hJ : ty_J cnC ad) (σ : ty_St) (i : Nat) (hi : i < 2) (x : Int32) : ty_MB (fun _ => False) l y_Log_keeps (Cond.code y_Log_keeps b_Log_keeps 2 (some .boolean) :: ty_w) (rmL 0) cnC D ad cA [.inr (5, i), .inl x] σ (fun r σ' => r = some (.inl (kKeeps σ i x)) ∧ σ' = σ) := by
  refine ty_MB.of rfl hJ layC (ty_oks.cons hi (ty_oks.cons trivial ty_oks.nil)) (Nat.le_of_ble_eq_true rfl) ?_
  intro p e s m args below meth c C hr hnm
  have hcap : Int32.ofNat (if i = 0 then 12 else 8) = kCap i := by unfold kCap; split <;> rfl
  refine v_iload_n (pc := 0) C d_Log_keeps_0 rfl rfl ?_
  refine v_if_lt (pc := 1) (tgt := 25) C d_Log_keeps_1 (by decide) (fun h1 => ?_) (fun h1 => ?_)
  · refine v_iconst (pc := 25) (v := 0) C d_Log_keeps_25 (by decide) ?_
    exact v_zreturnB (pc := 26) C hr rfl ⟨by unfold kKeeps; rw [← hcap]; first | rw [if_neg (fun q => absurd q.1 (Int32.not_le.mpr h1))] | rw [if_neg (fun q => absurd q.2.1 (Int32.not_lt.mpr h9))] | rw [if_neg (fun q => absurd q.2.2 (Int32.not_lt.mpr h18))] | rw [if_pos ⟨Int32.not_lt.mp h1, Int32.not_le.mp h9, Int32.not_le.mp h18⟩], rfl⟩ d_Log_keeps_26
  · refine v_iload_n (pc := 4) C d_Log_keeps_4 rfl rfl ?_
    refine v_aload_n (pc := 5) C d_Log_keeps_5 rfl rfl ?_
    refine gf_Log_13 (pc := 6) C d_Log_keeps_6 ?_
    refine v_icmp_ge (pc := 9) (tgt := 25) C d_Log_keeps_9 (by decide) (fun h9 => ?_) (fun h9 => ?_)
    · refine v_iconst (pc := 25) (v := 0) C d_Log_keeps_25 (by decide) ?_
      exact v_zreturnB (pc := 26) C hr rfl ⟨by unfold kKeeps; rw [← hcap]; first | rw [if_neg (fun q => absurd q.1 (Int32.not_le.mpr h1))] | rw [if_neg (fun q => absurd q.2.1 (Int32.not_lt.mpr h9))] | rw [if_neg (fun q => absurd q.2.2 (Int32.not_lt.mpr h18))] | rw [if_pos ⟨Int32.not_lt.mp h1, Int32.not_le.mp h9, Int32.not_le.mp h18⟩], rfl⟩ d_Log_keeps_26
    · refine v_iload_n (pc := 12) C d_Log_keeps_12 rfl rfl ?_
      refine v_aload_n (pc := 13) C d_Log_keeps_13 rfl rfl ?_
      refine gf_Log_7 (pc := 14) C d_Log_keeps_14 ?_
      refine v_alen (pc := 17) C rfl rfl rfl d_Log_keeps_17 ?_
      refine v_icmp_ge (pc := 18) (tgt := 25) C d_Log_keeps_18 (by decide) (fun h18 => ?_) (fun h18 => ?_)
      · refine v_iconst (pc := 25) (v := 0) C d_Log_keeps_25 (by decide) ?_
        exact v_zreturnB (pc := 26) C hr rfl ⟨by unfold kKeeps; rw [← hcap]; first | rw [if_neg (fun q => absurd q.1 (Int32.not_le.mpr h1))] | rw [if_neg (fun q => absurd q.2.1 (Int32.not_lt.mpr h9))] | rw [if_neg (fun q => absurd q.2.2 (Int32.not_lt.mpr h18))] | rw [if_pos ⟨Int32.not_lt.mp h1, Int32.not_le.mp h9, Int32.not_le.mp h18⟩], rfl⟩ d_Log_keeps_26
      · refine v_iconst (pc := 21) (v := 1) C d_Log_keeps_21 (by decide) ?_
        refine v_goto (pc := 22) (tgt := 26) C d_Log_keeps_22 (by decide) ?_
        exact v_zreturnB (pc := 26) C hr rfl ⟨by unfold kKeeps; rw [← hcap]; first | rw [if_neg (fun q => absurd q.1 (Int32.not_le.mpr h1))] | rw [if_neg (fun q => absurd q.2.1 (Int32.not_lt.mpr h9))] | rw [if_neg (fun q => absurd q.2.2 (Int32.not_lt.mpr h18))] | rw [if_pos ⟨Int32.not_lt.mp h1, Int32.not_le.mp h9, Int32.not_le.mp h18⟩], rfl⟩ d_Log_keeps_26
set_option maxRecDepth 100000 in
set_option maxHeartbeats 4000000 in
theorem c_Yard_run (l : Launch) {D : va_G} {ad : Nat → Nat → Nat} {cA : Nat → ClassId} (hJ : ty_J cnC ad) (σ : ty_St) (hI : kInv0 σ) (tc : Nat) (htc : tc ≤ 12) (wc : Nat) (hwc : wc ≤ 4) (e1 : σ 0 0 1 = nI tc) (e2 : σ 0 0 2 = nI wc) : ty_M l y_Yard_run (Cond.code y_Yard_run b_Yard_run 1 (some .int) :: ty_w) (rmL 7) cnC D ad cA [.inr (0, 0)] σ (fun r σ' => r = some (.inl ((kPerform σ (nI tc) (nI wc)) 1 0 11)) ∧ σ' = kPerform σ (nI tc) (nI wc)) := by
  refine ty_M.of rfl hJ layC (ty_oks.cons (show (0 : Nat) < cnC 0 by decide) ty_oks.nil) (Nat.le_of_ble_eq_true rfl) ?_
  intro p e s m args below meth c C hr hnm
  refine v_aload_n (pc := 0) C d_Yard_run_0 rfl rfl ?_
  refine gf_Yard_12 (pc := 1) C d_Yard_run_1 ?_
  refine v_aload_n (pc := 4) C d_Yard_run_4 rfl rfl ?_
  refine gf_Yard_16 (pc := 5) C d_Yard_run_5 ?_
  refine v_aload_n (pc := 8) C d_Yard_run_8 rfl rfl ?_
  refine gf_Yard_20 (pc := 9) C d_Yard_run_9 ?_
  rw [e1, e2]
  refine cl_Yard_60 (pc := 12) C (c_Course_perform l hJ σ hI tc htc wc hwc) ⟨rfl, rfl, by decide, by decide⟩ rfl rfl (Nat.le_of_ble_eq_true rfl) d_Yard_run_12 (fun r σ' hq => ?_)
  rw [hq.1, hq.2]
  exact v_ireturn (pc := 15) C hr ⟨rfl, rfl⟩ d_Yard_run_15
set_option maxRecDepth 100000 in
set_option maxHeartbeats 4000000 in
theorem c_Yard_action (l : Launch) (hl : l.stackTraces = false) {D : va_G} {ad : Nat → Nat → Nat} {cA : Nat → ClassId} (hJ : ty_J cnC ad) (σ : ty_St) (hs : ∀ q, q < 10 → ∃ k, k ≤ 10 ∧ σ 2 q 3 = nI k) (x op a : Int32) : ty_MT l y_Yard_action (Cond.code y_Yard_action b_Yard_action 5 (some .int) :: ty_w) rmT cnC D ad cA [.inr (0, 0), .inl x, .inl op, .inl a] σ (yAction σ x op a) 1 2 := by
  refine ty_MT.of hl rfl hJ layC (ty_oks.cons (show (0 : Nat) < cnC 0 by decide) (ty_oks.cons trivial (ty_oks.cons trivial (ty_oks.cons trivial ty_oks.nil)))) (Nat.le_of_ble_eq_true rfl) ?_
  intro p e s m args below meth c C hr hx
  refine v_iload_n (pc := 0) C d_Yard_action_0 rfl rfl ?_
  refine v_iconst (pc := 1) (v := 0) C d_Yard_action_1 (by decide) ?_
  refine v_bipush (pc := 2) (v := 9) C d_Yard_action_2 (by decide) ?_
  refine cb_Yard_23 (pc := 4) C (k0_isWithin l hJ _ _ _ _) ⟨rfl, rfl, by decide, by decide⟩ rfl rfl (Nat.le_of_ble_eq_true rfl) d_Yard_action_4 (fun r σ' hq => ?_)
  rw [hq.1, hq.2]
  refine v_if_eq (pc := 7) (tgt := 18) C d_Yard_action_7 (by decide) (fun h7 => ?_) (fun h7 => ?_)
  · exact v_throwA (pc := 18) C hx ⟨by decide, Nat.le_of_ble_eq_true rfl, by decide, by decide⟩ (by unfold yAction; rw [if_pos (fun q => kIn_no1 h7 q.1)]) d_Yard_action_18 d_Yard_action_21 d_Yard_action_22 d_Yard_action_25
  · refine v_iload_n (pc := 10) C d_Yard_action_10 rfl rfl ?_
    refine v_iload_n (pc := 11) C d_Yard_action_11 rfl rfl ?_
    refine cb_Yard_27 (pc := 12) C (k0_isAction l hJ _ _ _) ⟨rfl, rfl, by decide, by decide⟩ rfl rfl (Nat.le_of_ble_eq_true rfl) d_Yard_action_12 (fun r σ' hq => ?_)
    rw [hq.1, hq.2]
    refine v_if_ne (pc := 15) (tgt := 26) C d_Yard_action_15 (by decide) (fun h15 => ?_) (fun h15 => ?_)
    · have hx1 := kIn_nz h7
      have hx2 : kAct op a = 1 := (kAct_01 op a).resolve_left h15
      obtain ⟨q, hq9, rfl⟩ := kIn_of (n := 9) (by decide) hx1
      obtain ⟨k, hk, hk2⟩ := hs q (by omega)
      refine v_aload_n (pc := 26) C d_Yard_action_26 rfl rfl ?_
      refine gf_Yard_12 (pc := 27) C d_Yard_action_27 ?_
      refine gf_Yard_34 (pc := 30) C d_Yard_action_30 ?_
      refine v_iload_n (pc := 33) C d_Yard_action_33 rfl rfl ?_
      refine v_aaloadK (pc := 34) C rfl rfl (by decide) (rfl) (by omega) (by decide) d_Yard_action_34 ?_
      refine v_astore (pc := 35) C d_Yard_action_35 (by decide) ?_
      refine v_aload (pc := 37) C d_Yard_action_37 rfl ?_
      refine gf_Yard_38 (pc := 39) C d_Yard_action_39 ?_
      refine v_bipush (pc := 42) (v := 10) C d_Yard_action_42 (by decide) ?_
      refine v_icmp_lt (pc := 44) (tgt := 55) C d_Yard_action_44 (by decide) (fun h44 => ?_) (fun h44 => ?_)
      · refine ty_V.dirty ?_
        refine v_aload (pc := 55) C d_Yard_action_55 rfl ?_
        refine v_iload_n (pc := 57) C d_Yard_action_57 rfl rfl ?_
        refine v_iload_n (pc := 58) C d_Yard_action_58 rfl rfl ?_
        refine cl_Yard_46 (pc := 59) C (c_Program_add l hJ σ q (by omega) k ((nI_ltI (by omega) (by decide)).mp (by rw [← hk2]; exact h44)) hk2 op a) ⟨rfl, rfl, by decide, by decide⟩ rfl rfl (Nat.le_of_ble_eq_true rfl) d_Yard_action_59 (fun r σ' hq => ?_)
        rw [hq.1, hq.2]
        refine v_aload (pc := 62) C d_Yard_action_62 rfl ?_
        refine gf_Yard_38 (pc := 64) C d_Yard_action_64 ?_
        exact v_iretT (pc := 67) C hr (by unfold yAction; rw [if_neg (fun z => z ⟨hx1, hx2⟩), nnI (by omega), if_neg (Int32.not_le.mpr h44)]; rw [show (kAdd σ q op a) 2 q 3 = σ 2 q 3 + 1 from up_ss]) d_Yard_action_67
      · exact v_throwB (pc := 47) C hx ⟨by decide, Nat.le_of_ble_eq_true rfl, by decide, by decide⟩ (by unfold yAction; rw [if_neg (fun z => z ⟨hx1, hx2⟩), nnI (by omega), if_pos (Int32.not_lt.mp h44)]) d_Yard_action_47 d_Yard_action_50 d_Yard_action_51 d_Yard_action_54
    · exact v_throwA (pc := 18) C hx ⟨by decide, Nat.le_of_ble_eq_true rfl, by decide, by decide⟩ (by unfold yAction; rw [if_pos (fun q => absurd (h15.symm.trans q.2) (by decide))]) d_Yard_action_18 d_Yard_action_21 d_Yard_action_22 d_Yard_action_25
set_option maxRecDepth 100000 in
set_option maxHeartbeats 4000000 in
theorem c_Yard_test (l : Launch) (hl : l.stackTraces = false) {D : va_G} {ad : Nat → Nat → Nat} {cA : Nat → ClassId} (hJ : ty_J cnC ad) (σ : ty_St) (tc : Nat) (htc : tc ≤ 12) (e1 : σ 0 0 1 = nI tc) (x to rd wr : Int32) : ty_MT l y_Yard_test (Cond.code y_Yard_test b_Yard_test 5 (some .int) :: ty_w) rmT cnC D ad cA [.inr (0, 0), .inl x, .inl to, .inl rd, .inl wr] σ (yTest σ x to rd wr) 1 2 := by
  refine ty_MT.of hl rfl hJ layC (ty_oks.cons (show (0 : Nat) < cnC 0 by decide) (ty_oks.cons trivial (ty_oks.cons trivial (ty_oks.cons trivial (ty_oks.cons trivial ty_oks.nil))))) (Nat.le_of_ble_eq_true rfl) ?_
  intro p e s m args below meth c C hr hx
  refine v_iload_n (pc := 0) C d_Yard_test_0 rfl rfl ?_
  refine v_iconst (pc := 1) (v := 0) C d_Yard_test_1 (by decide) ?_
  refine v_bipush (pc := 2) (v := 9) C d_Yard_test_2 (by decide) ?_
  refine cb_Yard_23 (pc := 4) C (k0_isWithin l hJ _ _ _ _) ⟨rfl, rfl, by decide, by decide⟩ rfl rfl (Nat.le_of_ble_eq_true rfl) d_Yard_test_4 (fun r σ' hq => ?_)
  rw [hq.1, hq.2]
  refine v_if_eq (pc := 7) (tgt := 41) C d_Yard_test_7 (by decide) (fun h7 => ?_) (fun h7 => ?_)
  · exact v_throwA (pc := 41) C hx ⟨by decide, Nat.le_of_ble_eq_true rfl, by decide, by decide⟩ (by unfold yTest; rw [if_pos (fun q => kIn_no1 h7 q.1)]) d_Yard_test_41 d_Yard_test_44 d_Yard_test_45 d_Yard_test_48
  · refine v_iload_n (pc := 10) C d_Yard_test_10 rfl rfl ?_
    refine v_iconst (pc := 11) (v := 0) C d_Yard_test_11 (by decide) ?_
    refine v_bipush (pc := 12) (v := 50) C d_Yard_test_12 (by decide) ?_
    refine cb_Yard_23 (pc := 14) C (k0_isWithin l hJ _ _ _ _) ⟨rfl, rfl, by decide, by decide⟩ rfl rfl (Nat.le_of_ble_eq_true rfl) d_Yard_test_14 (fun r σ' hq => ?_)
    rw [hq.1, hq.2]
    refine v_if_eq (pc := 17) (tgt := 41) C d_Yard_test_17 (by decide) (fun h17 => ?_) (fun h17 => ?_)
    · exact v_throwA (pc := 41) C hx ⟨by decide, Nat.le_of_ble_eq_true rfl, by decide, by decide⟩ (by unfold yTest; rw [if_pos (fun q => kIn_no1 h17 q.2.1)]) d_Yard_test_41 d_Yard_test_44 d_Yard_test_45 d_Yard_test_48
    · refine v_iload_n (pc := 20) C d_Yard_test_20 rfl rfl ?_
      refine v_iconst (pc := 21) (v := 0) C d_Yard_test_21 (by decide) ?_
      refine v_bipush (pc := 22) (v := 15) C d_Yard_test_22 (by decide) ?_
      refine cb_Yard_23 (pc := 24) C (k0_isWithin l hJ _ _ _ _) ⟨rfl, rfl, by decide, by decide⟩ rfl rfl (Nat.le_of_ble_eq_true rfl) d_Yard_test_24 (fun r σ' hq => ?_)
      rw [hq.1, hq.2]
      refine v_if_eq (pc := 27) (tgt := 41) C d_Yard_test_27 (by decide) (fun h27 => ?_) (fun h27 => ?_)
      · exact v_throwA (pc := 41) C hx ⟨by decide, Nat.le_of_ble_eq_true rfl, by decide, by decide⟩ (by unfold yTest; rw [if_pos (fun q => kIn_no1 h27 q.2.2.1)]) d_Yard_test_41 d_Yard_test_44 d_Yard_test_45 d_Yard_test_48
      · refine v_iload (pc := 30) C d_Yard_test_30 rfl ?_
        refine v_iconst (pc := 32) (v := 0) C d_Yard_test_32 (by decide) ?_
        refine v_bipush (pc := 33) (v := 15) C d_Yard_test_33 (by decide) ?_
        refine cb_Yard_23 (pc := 35) C (k0_isWithin l hJ _ _ _ _) ⟨rfl, rfl, by decide, by decide⟩ rfl rfl (Nat.le_of_ble_eq_true rfl) d_Yard_test_35 (fun r σ' hq => ?_)
        rw [hq.1, hq.2]
        refine v_if_ne (pc := 38) (tgt := 49) C d_Yard_test_38 (by decide) (fun h38 => ?_) (fun h38 => ?_)
        · refine v_aload_n (pc := 49) C d_Yard_test_49 rfl rfl ?_
          refine gf_Yard_16 (pc := 50) C d_Yard_test_50 ?_
          refine v_bipush (pc := 53) (v := 12) C d_Yard_test_53 (by decide) ?_
          refine v_icmp_lt (pc := 55) (tgt := 66) C d_Yard_test_55 (by decide) (fun h55 => ?_) (fun h55 => ?_)
          · have ht : tc < 12 := (nI_ltI (by omega) (by decide)).mp (by rw [← e1]; exact h55)
            refine ty_V.dirty ?_
            refine v_aload_n (pc := 66) C d_Yard_test_66 rfl rfl ?_
            refine gf_Yard_12 (pc := 67) C d_Yard_test_67 ?_
            refine gf_Yard_50 (pc := 70) C d_Yard_test_70 ?_
            refine v_aload_n (pc := 73) C d_Yard_test_73 rfl rfl ?_
            refine gf_Yard_16 (pc := 74) C d_Yard_test_74 ?_
            refine v_aaloadK (pc := 77) C rfl rfl (by decide) (e1) (ht) (by decide) d_Yard_test_77 ?_
            refine v_iload_n (pc := 78) C d_Yard_test_78 rfl rfl ?_
            refine v_iload_n (pc := 79) C d_Yard_test_79 rfl rfl ?_
            refine v_iload_n (pc := 80) C d_Yard_test_80 rfl rfl ?_
            refine v_iload (pc := 81) C d_Yard_test_81 rfl ?_
            refine cl_Yard_54 (pc := 83) C (c_Trial_define l hJ σ tc ht x to rd wr) ⟨rfl, rfl, by decide, by decide⟩ rfl rfl (Nat.le_of_ble_eq_true rfl) d_Yard_test_83 (fun r σ' hq => ?_)
            rw [hq.1, hq.2]
            refine v_aload_n (pc := 86) C d_Yard_test_86 rfl rfl ?_
            refine v_dup (pc := 87) C d_Yard_test_87 ?_
            refine gf_Yard_16 (pc := 88) C d_Yard_test_88 ?_
            refine v_iconst (pc := 91) (v := 1) C d_Yard_test_91 (by decide) ?_
            refine v_iadd (pc := 92) C d_Yard_test_92 ?_
            refine pf_Yard_16 (pc := 93) C d_Yard_test_93 ?_
            refine v_aload_n (pc := 96) C d_Yard_test_96 rfl rfl ?_
            refine gf_Yard_16 (pc := 97) C d_Yard_test_97 ?_
            refine v_iconst (pc := 100) (v := 1) C d_Yard_test_100 (by decide) ?_
            refine v_isub (pc := 101) C d_Yard_test_101 ?_
            exact v_iretT (pc := 102) C hr (by unfold yTest; rw [if_neg (fun z => z ⟨kIn_nz h7, kIn_nz h17, kIn_nz h27, kIn_nz h38⟩), if_neg (Int32.not_le.mpr h55), e1, nnI (by omega)]; rw [show (kDef σ tc x to rd wr) 0 0 1 = nI tc by unfold kDef; rw [up_a (by decide), up_a (by decide), up_a (by decide), up_a (by decide)]; exact e1, up_ss, Int32.add_sub_cancel]) d_Yard_test_102
          · exact v_throwB (pc := 58) C hx ⟨by decide, Nat.le_of_ble_eq_true rfl, by decide, by decide⟩ (by unfold yTest; rw [if_neg (fun z => z ⟨kIn_nz h7, kIn_nz h17, kIn_nz h27, kIn_nz h38⟩), if_pos (Int32.not_lt.mp h55)]) d_Yard_test_58 d_Yard_test_61 d_Yard_test_62 d_Yard_test_65
        · exact v_throwA (pc := 41) C hx ⟨by decide, Nat.le_of_ble_eq_true rfl, by decide, by decide⟩ (by unfold yTest; rw [if_pos (fun q => absurd (h38.symm.trans q.2.2.2) (by decide))]) d_Yard_test_41 d_Yard_test_44 d_Yard_test_45 d_Yard_test_48
set_option maxRecDepth 100000 in
set_option maxHeartbeats 4000000 in
theorem c_Yard_workers (l : Launch) (hl : l.stackTraces = false) {D : va_G} {ad : Nat → Nat → Nat} {cA : Nat → ClassId} (hJ : ty_J cnC ad) (σ : ty_St) (n : Int32) : ty_MT l y_Yard_workers (Cond.code y_Yard_workers b_Yard_workers 3 (some .int) :: ty_w) rmT cnC D ad cA [.inr (0, 0), .inl n] σ (yWorkers σ n) 1 9 := by
  refine ty_MT.of hl rfl hJ layC (ty_oks.cons (show (0 : Nat) < cnC 0 by decide) (ty_oks.cons trivial ty_oks.nil)) (Nat.le_of_ble_eq_true rfl) ?_
  intro p e s m args below meth c C hr hx
  refine v_iload_n (pc := 0) C d_Yard_workers_0 rfl rfl ?_
  refine v_iconst (pc := 1) (v := 1) C d_Yard_workers_1 (by decide) ?_
  refine v_iconst (pc := 2) (v := 4) C d_Yard_workers_2 (by decide) ?_
  refine cb_Yard_23 (pc := 3) C (k0_isWithin l hJ _ _ _ _) ⟨rfl, rfl, by decide, by decide⟩ rfl rfl (Nat.le_of_ble_eq_true rfl) d_Yard_workers_3 (fun r σ' hq => ?_)
  rw [hq.1, hq.2]
  refine v_if_ne (pc := 6) (tgt := 17) C d_Yard_workers_6 (by decide) (fun h6 => ?_) (fun h6 => ?_)
  · refine ty_V.dirty ?_
    refine v_aload_n (pc := 17) C d_Yard_workers_17 rfl rfl ?_
    refine gf_Yard_20 (pc := 18) C d_Yard_workers_18 ?_
    refine v_istore_n (pc := 21) C d_Yard_workers_21 rfl (by decide) ?_
    refine v_aload_n (pc := 22) C d_Yard_workers_22 rfl rfl ?_
    refine v_iload_n (pc := 23) C d_Yard_workers_23 rfl rfl ?_
    refine pf_Yard_20 (pc := 24) C d_Yard_workers_24 ?_
    refine v_iload_n (pc := 27) C d_Yard_workers_27 rfl rfl ?_
    exact v_iretT (pc := 28) C hr (by unfold yWorkers; rw [if_pos (kIn_nz h6)]) d_Yard_workers_28
  · exact v_throwA (pc := 9) C hx ⟨by decide, Nat.le_of_ble_eq_true rfl, by decide, by decide⟩ (by unfold yWorkers; rw [if_neg (fun q => absurd (h6.symm.trans q) (by decide))]) d_Yard_workers_9 d_Yard_workers_12 d_Yard_workers_13 d_Yard_workers_16
set_option maxRecDepth 100000 in
set_option maxHeartbeats 4000000 in
theorem c_Yard_look (l : Launch) (hl : l.stackTraces = false) {D : va_G} {ad : Nat → Nat → Nat} {cA : Nat → ClassId} (hJ : ty_J cnC ad) (σ : ty_St) (tc : Nat) (htc : tc ≤ 12) (e1 : σ 0 0 1 = nI tc) (x w : Int32) : ty_MT l y_Yard_look (Cond.code y_Yard_look b_Yard_look 4 (some .int) :: ty_w) rmT cnC D ad cA [.inr (0, 0), .inl x, .inl w] σ (yLook σ x w) 1 9 := by
  refine ty_MT.of hl rfl hJ layC (ty_oks.cons (show (0 : Nat) < cnC 0 by decide) (ty_oks.cons trivial (ty_oks.cons trivial ty_oks.nil))) (Nat.le_of_ble_eq_true rfl) ?_
  intro p e s m args below meth c C hr hx
  refine v_iload_n (pc := 0) C d_Yard_look_0 rfl rfl ?_
  refine v_iconst (pc := 1) (v := 0) C d_Yard_look_1 (by decide) ?_
  refine v_aload_n (pc := 2) C d_Yard_look_2 rfl rfl ?_
  refine gf_Yard_16 (pc := 3) C d_Yard_look_3 ?_
  refine v_iconst (pc := 6) (v := 1) C d_Yard_look_6 (by decide) ?_
  refine v_isub (pc := 7) C d_Yard_look_7 ?_
  refine cb_Yard_23 (pc := 8) C (k0_isWithin l hJ _ _ _ _) ⟨rfl, rfl, by decide, by decide⟩ rfl rfl (Nat.le_of_ble_eq_true rfl) d_Yard_look_8 (fun r σ' hq => ?_)
  rw [hq.1, hq.2]
  refine v_if_ne (pc := 11) (tgt := 22) C d_Yard_look_11 (by decide) (fun h11 => ?_) (fun h11 => ?_)
  · have hx1 := kIn_nz h11
    have hx2 := h11
    rw [e1] at hx2
    obtain ⟨t, ht, rfl⟩ := kIn_vpm (n := tc) (by omega) hx2
    refine v_aload_n (pc := 22) C d_Yard_look_22 rfl rfl ?_
    refine gf_Yard_12 (pc := 23) C d_Yard_look_23 ?_
    refine gf_Yard_50 (pc := 26) C d_Yard_look_26 ?_
    refine v_iload_n (pc := 29) C d_Yard_look_29 rfl rfl ?_
    refine v_aaloadK (pc := 30) C rfl rfl (by decide) (rfl) (by omega) (by decide) d_Yard_look_30 ?_
    refine v_astore_n (pc := 31) C d_Yard_look_31 rfl (by decide) ?_
    refine v_iload_n (pc := 32) C d_Yard_look_32 rfl rfl ?_
    have dfl : ¬ kIn w 0 6 = 1 → ty_V cnC p l e rmT s m args below meth c D ad cA (ty_Gb (fun _ => False) s) 4 (ty_E below cnC D ad cA (yLook σ (nI t) w) 1 9 args s) σ [some (.inr (0, 0)), some (.inl (nI t)), some (.inl w), some (.inr (3, t))] 119 [] := by
      intro hw
      exact v_throwA (pc := 119) C hx ⟨by decide, Nat.le_of_ble_eq_true rfl, by decide, by decide⟩ (by unfold yLook; rw [if_neg (fun q => hw q.2)]) d_Yard_look_119 d_Yard_look_122 d_Yard_look_123 d_Yard_look_126
    by_cases e0 : w = 0
    · subst e0
      refine v_tabIn (pc := 33) (off := 43) (tgt := 76) C d_Yard_look_33 (by decide) (by decide) (by decide) (by decide) ?_
      refine ty_V.dirty ?_
      refine v_aload_n (pc := 76) C d_Yard_look_76 rfl rfl ?_
      refine gf_Yard_64 (pc := 77) C d_Yard_look_77 ?_
      exact v_iretT (pc := 80) C hr (by unfold yLook; rw [if_pos ⟨hx1, by decide⟩, nnI (by omega)]; rfl) d_Yard_look_80
    by_cases e1 : w = 1
    · subst e1
      refine v_tabIn (pc := 33) (off := 48) (tgt := 81) C d_Yard_look_33 (by decide) (by decide) (by decide) (by decide) ?_
      refine ty_V.dirty ?_
      refine v_aload_n (pc := 81) C d_Yard_look_81 rfl rfl ?_
      refine gf_Yard_67 (pc := 82) C d_Yard_look_82 ?_
      exact v_iretT (pc := 85) C hr (by unfold yLook; rw [if_pos ⟨hx1, by decide⟩, nnI (by omega)]; rfl) d_Yard_look_85
    by_cases e2 : w = 2
    · subst e2
      refine v_tabIn (pc := 33) (off := 53) (tgt := 86) C d_Yard_look_33 (by decide) (by decide) (by decide) (by decide) ?_
      refine ty_V.dirty ?_
      refine v_aload_n (pc := 86) C d_Yard_look_86 rfl rfl ?_
      refine gf_Yard_70 (pc := 87) C d_Yard_look_87 ?_
      exact v_iretT (pc := 90) C hr (by unfold yLook; rw [if_pos ⟨hx1, by decide⟩, nnI (by omega)]; rfl) d_Yard_look_90
    by_cases e3 : w = 3
    · subst e3
      refine v_tabIn (pc := 33) (off := 58) (tgt := 91) C d_Yard_look_33 (by decide) (by decide) (by decide) (by decide) ?_
      refine ty_V.dirty ?_
      refine v_aload_n (pc := 91) C d_Yard_look_91 rfl rfl ?_
      refine gf_Yard_73 (pc := 92) C d_Yard_look_92 ?_
      exact v_iretT (pc := 95) C hr (by unfold yLook; rw [if_pos ⟨hx1, by decide⟩, nnI (by omega)]; rfl) d_Yard_look_95
    by_cases e4 : w = 4
    · subst e4
      refine v_tabIn (pc := 33) (off := 63) (tgt := 96) C d_Yard_look_33 (by decide) (by decide) (by decide) (by decide) ?_
      refine ty_V.dirty ?_
      refine v_aload_n (pc := 96) C d_Yard_look_96 rfl rfl ?_
      refine gf_Yard_76 (pc := 97) C d_Yard_look_97 ?_
      exact v_iretT (pc := 100) C hr (by unfold yLook; rw [if_pos ⟨hx1, by decide⟩, nnI (by omega)]; rfl) d_Yard_look_100
    by_cases e5 : w = 5
    · subst e5
      refine v_tabIn (pc := 33) (off := 68) (tgt := 101) C d_Yard_look_33 (by decide) (by decide) (by decide) (by decide) ?_
      refine ty_V.dirty ?_
      refine v_aload_n (pc := 101) C d_Yard_look_101 rfl rfl ?_
      refine gf_Yard_79 (pc := 102) C d_Yard_look_102 ?_
      refine v_if_eq (pc := 105) (tgt := 112) C d_Yard_look_105 (by decide) (fun h105 => ?_) (fun h105 => ?_)
      · refine v_iconst (pc := 112) (v := 0) C d_Yard_look_112 (by decide) ?_
        exact v_iretT (pc := 113) C hr (by unfold yLook; rw [if_pos ⟨hx1, by decide⟩, nnI (by omega)]; show ((0 : Int32), (if σ 3 t 9 = 0 then (0 : Int32) else 1), σ) = _; first | rw [if_pos h105] | rw [if_neg h105]) d_Yard_look_113
      · refine v_iconst (pc := 108) (v := 1) C d_Yard_look_108 (by decide) ?_
        refine v_goto (pc := 109) (tgt := 113) C d_Yard_look_109 (by decide) ?_
        exact v_iretT (pc := 113) C hr (by unfold yLook; rw [if_pos ⟨hx1, by decide⟩, nnI (by omega)]; show ((0 : Int32), (if σ 3 t 9 = 0 then (0 : Int32) else 1), σ) = _; first | rw [if_pos h105] | rw [if_neg h105]) d_Yard_look_113
    by_cases e6 : w = 6
    · subst e6
      refine v_tabIn (pc := 33) (off := 81) (tgt := 114) C d_Yard_look_33 (by decide) (by decide) (by decide) (by decide) ?_
      refine ty_V.dirty ?_
      refine v_aload_n (pc := 114) C d_Yard_look_114 rfl rfl ?_
      refine gf_Yard_83 (pc := 115) C d_Yard_look_115 ?_
      exact v_iretT (pc := 118) C hr (by unfold yLook; rw [if_pos ⟨hx1, by decide⟩, nnI (by omega)]; rfl) d_Yard_look_118
    have f0 : ¬ w.toInt = 0 := lv_neT e0 (by decide)
    have f1 : ¬ w.toInt = 1 := lv_neT e1 (by decide)
    have f2 : ¬ w.toInt = 2 := lv_neT e2 (by decide)
    have f3 : ¬ w.toInt = 3 := lv_neT e3 (by decide)
    have f4 : ¬ w.toInt = 4 := lv_neT e4 (by decide)
    have f5 : ¬ w.toInt = 5 := lv_neT e5 (by decide)
    have f6 : ¬ w.toInt = 6 := lv_neT e6 (by decide)
    rcases (show w.toInt < 0 ∨ 6 < w.toInt by omega) with h | h
    · exact v_tabOut (pc := 33) (tgt := 119) C d_Yard_look_33 (Or.inl h) (by decide) (by exact dfl (kIn_06 (Or.inl h)))
    · exact v_tabOut (pc := 33) (tgt := 119) C d_Yard_look_33 (Or.inr h) (by decide) (by exact dfl (kIn_06 (Or.inr h)))
  · exact v_throwA (pc := 14) C hx ⟨by decide, Nat.le_of_ble_eq_true rfl, by decide, by decide⟩ (by unfold yLook; rw [if_neg (fun q => absurd (h11.symm.trans q.1) (by decide))]) d_Yard_look_14 d_Yard_look_17 d_Yard_look_18 d_Yard_look_21
set_option maxRecDepth 100000 in
set_option maxHeartbeats 4000000 in
theorem c_Yard_note (l : Launch) (hl : l.stackTraces = false) {D : va_G} {ad : Nat → Nat → Nat} {cA : Nat → ClassId} (hJ : ty_J cnC ad) (σ : ty_St) (k : Int32) : ty_MT l y_Yard_note (Cond.code y_Yard_note b_Yard_note 2 (some .int) :: ty_w) rmT cnC D ad cA [.inr (0, 0), .inl k] σ (yKept σ 0 k) 9 1 := by
  refine ty_MT.of hl rfl hJ layC (ty_oks.cons (show (0 : Nat) < cnC 0 by decide) (ty_oks.cons trivial ty_oks.nil)) (Nat.le_of_ble_eq_true rfl) ?_
  intro p e s m args below meth c C hr hx
  refine v_aload_n (pc := 0) C d_Yard_note_0 rfl rfl ?_
  refine gf_Yard_12 (pc := 1) C d_Yard_note_1 ?_
  refine gf_Yard_86 (pc := 4) C d_Yard_note_4 ?_
  refine v_iload_n (pc := 7) C d_Yard_note_7 rfl rfl ?_
  refine cb_Yard_90 (pc := 8) C (k0_keeps l hJ σ 0 (by decide) k) ⟨rfl, rfl, by decide, by decide⟩ rfl rfl (Nat.le_of_ble_eq_true rfl) d_Yard_note_8 (fun r σ' hq => ?_)
  rw [hq.1, hq.2]
  refine v_if_ne (pc := 11) (tgt := 22) C d_Yard_note_11 (by decide) (fun h11 => ?_) (fun h11 => ?_)
  · have hk1 : kKeeps σ 0 k = 1 := (kKeeps_01 σ 0 k).resolve_left h11
    have hv := kKeeps_vp hk1
    refine v_aload_n (pc := 22) C d_Yard_note_22 rfl rfl ?_
    refine gf_Yard_12 (pc := 23) C d_Yard_note_23 ?_
    refine gf_Yard_86 (pc := 26) C d_Yard_note_26 ?_
    refine gf_Yard_96 (pc := 29) C d_Yard_note_29 ?_
    refine v_iload_n (pc := 32) C d_Yard_note_32 rfl rfl ?_
    refine v_iaload (pc := 33) C rfl rfl hv d_Yard_note_33 ?_
    refine ty_V.dirty ?_
    exact v_iretT (pc := 34) C hr (by unfold yKept; rw [if_pos hk1]) d_Yard_note_34
  · exact v_throwB (pc := 14) C hx ⟨by decide, Nat.le_of_ble_eq_true rfl, by decide, by decide⟩ (by unfold yKept; rw [if_neg (fun q => absurd (h11.symm.trans q) (by decide))]) d_Yard_note_14 d_Yard_note_17 d_Yard_note_18 d_Yard_note_21
set_option maxRecDepth 100000 in
set_option maxHeartbeats 4000000 in
theorem c_Yard_warning (l : Launch) (hl : l.stackTraces = false) {D : va_G} {ad : Nat → Nat → Nat} {cA : Nat → ClassId} (hJ : ty_J cnC ad) (σ : ty_St) (k : Int32) : ty_MT l y_Yard_warning (Cond.code y_Yard_warning b_Yard_warning 2 (some .int) :: ty_w) rmT cnC D ad cA [.inr (0, 0), .inl k] σ (yKept σ 1 k) 9 1 := by
  refine ty_MT.of hl rfl hJ layC (ty_oks.cons (show (0 : Nat) < cnC 0 by decide) (ty_oks.cons trivial ty_oks.nil)) (Nat.le_of_ble_eq_true rfl) ?_
  intro p e s m args below meth c C hr hx
  refine v_aload_n (pc := 0) C d_Yard_warning_0 rfl rfl ?_
  refine gf_Yard_12 (pc := 1) C d_Yard_warning_1 ?_
  refine gf_Yard_100 (pc := 4) C d_Yard_warning_4 ?_
  refine v_iload_n (pc := 7) C d_Yard_warning_7 rfl rfl ?_
  refine cb_Yard_90 (pc := 8) C (k0_keeps l hJ σ 1 (by decide) k) ⟨rfl, rfl, by decide, by decide⟩ rfl rfl (Nat.le_of_ble_eq_true rfl) d_Yard_warning_8 (fun r σ' hq => ?_)
  rw [hq.1, hq.2]
  refine v_if_ne (pc := 11) (tgt := 22) C d_Yard_warning_11 (by decide) (fun h11 => ?_) (fun h11 => ?_)
  · have hk1 : kKeeps σ 1 k = 1 := (kKeeps_01 σ 1 k).resolve_left h11
    have hv := kKeeps_vp hk1
    refine v_aload_n (pc := 22) C d_Yard_warning_22 rfl rfl ?_
    refine gf_Yard_12 (pc := 23) C d_Yard_warning_23 ?_
    refine gf_Yard_100 (pc := 26) C d_Yard_warning_26 ?_
    refine gf_Yard_96 (pc := 29) C d_Yard_warning_29 ?_
    refine v_iload_n (pc := 32) C d_Yard_warning_32 rfl rfl ?_
    refine v_iaload (pc := 33) C rfl rfl hv d_Yard_warning_33 ?_
    refine ty_V.dirty ?_
    exact v_iretT (pc := 34) C hr (by unfold yKept; rw [if_pos hk1]) d_Yard_warning_34
  · exact v_throwB (pc := 14) C hx ⟨by decide, Nat.le_of_ble_eq_true rfl, by decide, by decide⟩ (by unfold yKept; rw [if_neg (fun q => absurd (h11.symm.trans q) (by decide))]) d_Yard_warning_14 d_Yard_warning_17 d_Yard_warning_18 d_Yard_warning_21
set_option maxRecDepth 100000 in
set_option maxHeartbeats 4000000 in
theorem c_Yard_count (l : Launch) (hl : l.stackTraces = false) {D : va_G} {ad : Nat → Nat → Nat} {cA : Nat → ClassId} (hJ : ty_J cnC ad) (σ : ty_St) (rc : Nat) (hrc : rc ≤ 12) (e6 : σ 1 0 6 = nI rc) (w : Int32) : ty_MT l y_Yard_count (Cond.code y_Yard_count b_Yard_count 2 (some .int) :: ty_w) rmT cnC D ad cA [.inr (0, 0), .inl w] σ (yCount σ w) 1 9 := by
  refine ty_MT.of hl rfl hJ layC (ty_oks.cons (show (0 : Nat) < cnC 0 by decide) (ty_oks.cons trivial ty_oks.nil)) (Nat.le_of_ble_eq_true rfl) ?_
  intro p e s m args below meth c C hr hx
  have dfl : ¬ kIn w 0 6 = 1 → ty_V cnC p l e rmT s m args below meth c D ad cA (ty_Gb (fun _ => False) s) 2 (ty_E below cnC D ad cA (yCount σ w) 1 9 args s) σ [some (.inr (0, 0)), some (.inl w)] 111 [] := by
    intro hw
    exact v_throwA (pc := 111) C hx ⟨by decide, Nat.le_of_ble_eq_true rfl, by decide, by decide⟩ (by unfold yCount; rw [if_neg hw]) d_Yard_count_111 d_Yard_count_114 d_Yard_count_115 d_Yard_count_118
  refine v_iload_n (pc := 0) C d_Yard_count_0 rfl rfl ?_
  by_cases e0 : w = 0
  · subst e0
    refine v_tabIn (pc := 1) (off := 43) (tgt := 44) C d_Yard_count_1 (by decide) (by decide) (by decide) (by decide) ?_
    refine ty_V.dirty ?_
    refine v_aload_n (pc := 44) C d_Yard_count_44 rfl rfl ?_
    refine gf_Yard_16 (pc := 45) C d_Yard_count_45 ?_
    exact v_iretT (pc := 48) C hr (by unfold yCount; rw [if_pos (by decide)]; rfl) d_Yard_count_48
  by_cases e1 : w = 1
  · subst e1
    refine v_tabIn (pc := 1) (off := 48) (tgt := 49) C d_Yard_count_1 (by decide) (by decide) (by decide) (by decide) ?_
    refine ty_V.dirty ?_
    refine v_aload_n (pc := 49) C d_Yard_count_49 rfl rfl ?_
    refine gf_Yard_12 (pc := 50) C d_Yard_count_50 ?_
    refine gf_Yard_86 (pc := 53) C d_Yard_count_53 ?_
    refine gf_Yard_103 (pc := 56) C d_Yard_count_56 ?_
    exact v_iretT (pc := 59) C hr (by unfold yCount; rw [if_pos (by decide)]; rfl) d_Yard_count_59
  by_cases e2 : w = 2
  · subst e2
    refine v_tabIn (pc := 1) (off := 59) (tgt := 60) C d_Yard_count_1 (by decide) (by decide) (by decide) (by decide) ?_
    refine ty_V.dirty ?_
    refine v_aload_n (pc := 60) C d_Yard_count_60 rfl rfl ?_
    refine gf_Yard_12 (pc := 61) C d_Yard_count_61 ?_
    refine gf_Yard_100 (pc := 64) C d_Yard_count_64 ?_
    refine gf_Yard_103 (pc := 67) C d_Yard_count_67 ?_
    exact v_iretT (pc := 70) C hr (by unfold yCount; rw [if_pos (by decide)]; rfl) d_Yard_count_70
  by_cases e3 : w = 3
  · subst e3
    refine v_tabIn (pc := 1) (off := 70) (tgt := 71) C d_Yard_count_1 (by decide) (by decide) (by decide) (by decide) ?_
    refine ty_V.dirty ?_
    refine v_aload_n (pc := 71) C d_Yard_count_71 rfl rfl ?_
    refine gf_Yard_12 (pc := 72) C d_Yard_count_72 ?_
    refine gf_Yard_104 (pc := 75) C d_Yard_count_75 ?_
    exact v_iretT (pc := 78) C hr (by unfold yCount; rw [if_pos (by decide)]; rfl) d_Yard_count_78
  by_cases e4 : w = 4
  · subst e4
    refine v_tabIn (pc := 1) (off := 78) (tgt := 79) C d_Yard_count_1 (by decide) (by decide) (by decide) (by decide) ?_
    refine ty_V.dirty ?_
    refine v_aload_n (pc := 79) C d_Yard_count_79 rfl rfl ?_
    refine gf_Yard_12 (pc := 80) C d_Yard_count_80 ?_
    refine gf_Yard_107 (pc := 83) C d_Yard_count_83 ?_
    exact v_iretT (pc := 86) C hr (by unfold yCount; rw [if_pos (by decide)]; rfl) d_Yard_count_86
  by_cases e5 : w = 5
  · subst e5
    refine v_tabIn (pc := 1) (off := 86) (tgt := 87) C d_Yard_count_1 (by decide) (by decide) (by decide) (by decide) ?_
    refine ty_V.dirty ?_
    refine v_aload_n (pc := 87) C d_Yard_count_87 rfl rfl ?_
    refine gf_Yard_12 (pc := 88) C d_Yard_count_88 ?_
    refine gf_Yard_108 (pc := 91) C d_Yard_count_91 ?_
    exact v_iretT (pc := 94) C hr (by unfold yCount; rw [if_pos (by decide)]; rfl) d_Yard_count_94
  by_cases e6x : w = 6
  · subst e6x
    refine v_tabIn (pc := 1) (off := 94) (tgt := 95) C d_Yard_count_1 (by decide) (by decide) (by decide) (by decide) ?_
    refine ty_V.dirty ?_
    refine v_aload_n (pc := 95) C d_Yard_count_95 rfl rfl ?_
    refine gf_Yard_12 (pc := 96) C d_Yard_count_96 ?_
    refine cl_Yard_111 (pc := 99) C (c_Course_allPassed l hJ σ rc hrc e6) ⟨rfl, rfl, by decide, by decide⟩ rfl rfl (Nat.le_of_ble_eq_true rfl) d_Yard_count_99 (fun r σ' hq => ?_)
    rw [hq.1, hq.2]
    refine v_if_eq (pc := 102) (tgt := 109) C d_Yard_count_102 (by decide) (fun h102 => ?_) (fun h102 => ?_)
    · refine v_iconst (pc := 109) (v := 1) C d_Yard_count_109 (by decide) ?_
      exact v_iretT (pc := 110) C hr (by unfold yCount; rw [if_pos (by decide)]; show ((0 : Int32), (if kAllPassed σ (nn (σ 1 0 6)) = true then (0 : Int32) else 1), σ) = _; rw [e6, nnI (by omega)]; cases hp : kAllPassed σ rc <;> simp [hp] at h102 ⊢) d_Yard_count_110
    · refine v_iconst (pc := 105) (v := 0) C d_Yard_count_105 (by decide) ?_
      refine v_goto (pc := 106) (tgt := 110) C d_Yard_count_106 (by decide) ?_
      exact v_iretT (pc := 110) C hr (by unfold yCount; rw [if_pos (by decide)]; show ((0 : Int32), (if kAllPassed σ (nn (σ 1 0 6)) = true then (0 : Int32) else 1), σ) = _; rw [e6, nnI (by omega)]; cases hp : kAllPassed σ rc <;> simp [hp] at h102 ⊢) d_Yard_count_110
  have f0 : ¬ w.toInt = 0 := lv_neT e0 (by decide)
  have f1 : ¬ w.toInt = 1 := lv_neT e1 (by decide)
  have f2 : ¬ w.toInt = 2 := lv_neT e2 (by decide)
  have f3 : ¬ w.toInt = 3 := lv_neT e3 (by decide)
  have f4 : ¬ w.toInt = 4 := lv_neT e4 (by decide)
  have f5 : ¬ w.toInt = 5 := lv_neT e5 (by decide)
  have f6 : ¬ w.toInt = 6 := lv_neT e6x (by decide)
  rcases (show w.toInt < 0 ∨ 6 < w.toInt by omega) with h | h
  · exact v_tabOut (pc := 1) (tgt := 111) C d_Yard_count_1 (Or.inl h) (by decide) (by exact dfl (kIn_06 (Or.inl h)))
  · exact v_tabOut (pc := 1) (tgt := 111) C d_Yard_count_1 (Or.inr h) (by decide) (by exact dfl (kIn_06 (Or.inr h)))
