theorem layC : ∀ a i ci fl, ty_ki a i = .inl (ci, fl) → ∀ b z, some (b, z) ∈ fl → i < cnC a → z.getD i < cnC b := by
  intro a i ci fl h b z hm hi
  unfold ty_ki at h
  split at h <;> cases h
  · simp at hm; obtain ⟨rfl, rfl⟩ := hm; simp [cnC]
  · simp at hm; rcases hm with ⟨rfl, rfl⟩ | ⟨rfl, rfl⟩ | ⟨rfl, rfl⟩ | ⟨rfl, rfl⟩ | ⟨rfl, rfl⟩ | ⟨rfl, rfl⟩ <;> simp [cnC]
  · simp at hm; rcases hm with ⟨rfl, rfl⟩ | ⟨rfl, rfl⟩ | ⟨rfl, rfl⟩ <;> (simp [cnC] at hi ⊢; exact hi)
  · simp at hm
  · simp at hm
  · simp at hm; obtain ⟨rfl, rfl⟩ := hm; simp [cnC] at hi ⊢; exact hi
  · simp [cnC] at hi
theorem kIn_1 {x lo hi : Int32} (h : x < lo) : kIn x lo hi = 0 := if_neg (fun q => absurd q.1 (Int32.not_le.mpr h))
theorem kIn_2 {x lo hi : Int32} (h : hi < x) : kIn x lo hi = 0 := if_neg (fun q => absurd q.2 (Int32.not_le.mpr h))
theorem kIn_3 {x lo hi : Int32} (h : ¬ x < lo) (h2 : ¬ hi < x) : kIn x lo hi = 1 := if_pos ⟨Int32.not_lt.mp h, Int32.not_lt.mp h2⟩
set_option maxRecDepth 100000 in
theorem c_Yard_isWithin (l : Launch) {D : va_G} {ad : Nat → Nat → Nat} {cA : Nat → ClassId} (hJ : ty_J cnC ad) (σ : ty_St) (x lo hi : Int32) : ty_M l y_Yard_isWithin (Cond.code y_Yard_isWithin b_Yard_isWithin 3 (some .boolean) :: ty_w) (rmL 0) cnC D ad cA [.inl x, .inl lo, .inl hi] σ (fun r σ' => r = some (.inl (kIn x lo hi)) ∧ σ' = σ) := by
  refine ty_M.of rfl hJ layC (ty_oks.cons trivial (ty_oks.cons trivial (ty_oks.cons trivial ty_oks.nil))) (Nat.le_of_ble_eq_true rfl) ?_
  intro p e s m args below meth c C hr hnm
  refine v_iload_n (pc := 0) C d_Yard_isWithin_0 rfl rfl ?_
  refine v_iload_n (pc := 1) C d_Yard_isWithin_1 rfl rfl ?_
  refine v_icmp_gt (pc := 2) (tgt := 14) C d_Yard_isWithin_2 (by decide) (fun h2 => ?_) (fun h2 => ?_)
  · refine v_iconst (pc := 14) (v := 0) C d_Yard_isWithin_14 (by decide) ?_
    exact v_zreturn (pc := 15) C hr rfl ⟨by first | rw [kIn_1 h2] | rw [kIn_2 h7] | rw [kIn_3 h2 h7], rfl⟩ d_Yard_isWithin_15
  · refine v_iload_n (pc := 5) C d_Yard_isWithin_5 rfl rfl ?_
    refine v_iload_n (pc := 6) C d_Yard_isWithin_6 rfl rfl ?_
    refine v_icmp_gt (pc := 7) (tgt := 14) C d_Yard_isWithin_7 (by decide) (fun h7 => ?_) (fun h7 => ?_)
    · refine v_iconst (pc := 14) (v := 0) C d_Yard_isWithin_14 (by decide) ?_
      exact v_zreturn (pc := 15) C hr rfl ⟨by first | rw [kIn_1 h2] | rw [kIn_2 h7] | rw [kIn_3 h2 h7], rfl⟩ d_Yard_isWithin_15
    · refine v_iconst (pc := 10) (v := 1) C d_Yard_isWithin_10 (by decide) ?_
      refine v_goto (pc := 11) (tgt := 15) C d_Yard_isWithin_11 (by decide) ?_
      exact v_zreturn (pc := 15) C hr rfl ⟨by first | rw [kIn_1 h2] | rw [kIn_2 h7] | rw [kIn_3 h2 h7], rfl⟩ d_Yard_isWithin_15
set_option maxRecDepth 100000 in
theorem c_Trial_isRunning (l : Launch) {D : va_G} {ad : Nat → Nat → Nat} {cA : Nat → ClassId} (hJ : ty_J cnC ad) (σ : ty_St) (t : Nat) (ht : t < 12) : ty_M l y_Trial_isRunning (Cond.code y_Trial_isRunning b_Trial_isRunning 1 (some .boolean) :: ty_w) (rmL 0) cnC D ad cA [.inr (3, t)] σ (fun r σ' => r = some (.inl (kRunning σ t)) ∧ σ' = σ) := by
  refine ty_M.of rfl hJ layC (ty_oks.cons ht ty_oks.nil) (Nat.le_of_ble_eq_true rfl) ?_
  intro p e s m args below meth c C hr hnm
  refine v_aload_n (pc := 0) C d_Trial_isRunning_0 rfl rfl ?_
  refine gf_Trial_33 (pc := 1) C d_Trial_isRunning_1 ?_
  refine v_iconst (pc := 4) (v := (-1)) C d_Trial_isRunning_4 (by decide) ?_
  refine v_icmp_eq (pc := 5) (tgt := 19) C d_Trial_isRunning_5 (by decide) (fun h5 => ?_) (fun h5 => ?_)
  · refine v_iconst (pc := 19) (v := 0) C d_Trial_isRunning_19 (by decide) ?_
    exact v_zreturn (pc := 20) C hr rfl ⟨by simp_all [kRunning], rfl⟩ d_Trial_isRunning_20
  · refine v_aload_n (pc := 8) C d_Trial_isRunning_8 rfl rfl ?_
    refine gf_Trial_27 (pc := 9) C d_Trial_isRunning_9 ?_
    refine v_if_ne (pc := 12) (tgt := 19) C d_Trial_isRunning_12 (by decide) (fun h12 => ?_) (fun h12 => ?_)
    · refine v_iconst (pc := 19) (v := 0) C d_Trial_isRunning_19 (by decide) ?_
      exact v_zreturn (pc := 20) C hr rfl ⟨by simp_all [kRunning], rfl⟩ d_Trial_isRunning_20
    · refine v_iconst (pc := 15) (v := 1) C d_Trial_isRunning_15 (by decide) ?_
      refine v_goto (pc := 16) (tgt := 20) C d_Trial_isRunning_16 (by decide) ?_
      exact v_zreturn (pc := 20) C hr rfl ⟨by simp_all [kRunning], rfl⟩ d_Trial_isRunning_20
set_option maxRecDepth 100000 in
theorem c_Trial_decide (l : Launch) {D : va_G} {ad : Nat → Nat → Nat} {cA : Nat → ClassId} (hJ : ty_J cnC ad) (σ : ty_St) (t : Nat) (ht : t < 12) (v time : Int32) : ty_M l y_Trial_decide (Cond.code y_Trial_decide b_Trial_decide 3 none :: ty_w) (rmL 0) cnC D ad cA [.inr (3, t), .inl v, .inl time] σ (fun r σ' => r = none ∧ σ' = kDecide σ t v time) := by
  refine ty_M.of rfl hJ layC (ty_oks.cons ht (ty_oks.cons trivial (ty_oks.cons trivial ty_oks.nil))) (Nat.le_of_ble_eq_true rfl) ?_
  intro p e s m args below meth c C hr hnm
  refine v_aload_n (pc := 0) C d_Trial_decide_0 rfl rfl ?_
  refine v_iload_n (pc := 1) C d_Trial_decide_1 rfl rfl ?_
  refine pf_Trial_27 (pc := 2) C d_Trial_decide_2 ?_
  refine v_aload_n (pc := 5) C d_Trial_decide_5 rfl rfl ?_
  refine v_iload_n (pc := 6) C d_Trial_decide_6 rfl rfl ?_
  refine pf_Trial_36 (pc := 7) C d_Trial_decide_7 ?_
  exact v_return (pc := 10) C hr ⟨rfl, rfl⟩ d_Trial_decide_10
set_option maxRecDepth 100000 in
theorem c_Trial_define (l : Launch) {D : va_G} {ad : Nat → Nat → Nat} {cA : Nat → ClassId} (hJ : ty_J cnC ad) (σ : ty_St) (t : Nat) (ht : t < 12) (q to rd wr : Int32) : ty_M l y_Trial_define (Cond.code y_Trial_define b_Trial_define 5 none :: ty_w) (rmL 0) cnC D ad cA [.inr (3, t), .inl q, .inl to, .inl rd, .inl wr] σ (fun r σ' => r = none ∧ σ' = kDef σ t q to rd wr) := by
  refine ty_M.of rfl hJ layC (ty_oks.cons ht (ty_oks.cons trivial (ty_oks.cons trivial (ty_oks.cons trivial (ty_oks.cons trivial ty_oks.nil))))) (Nat.le_of_ble_eq_true rfl) ?_
  intro p e s m args below meth c C hr hnm
  refine v_aload_n (pc := 0) C d_Trial_define_0 rfl rfl ?_
  refine v_iload_n (pc := 1) C d_Trial_define_1 rfl rfl ?_
  refine pf_Trial_14 (pc := 2) C d_Trial_define_2 ?_
  refine v_aload_n (pc := 5) C d_Trial_define_5 rfl rfl ?_
  refine v_iload_n (pc := 6) C d_Trial_define_6 rfl rfl ?_
  refine pf_Trial_18 (pc := 7) C d_Trial_define_7 ?_
  refine v_aload_n (pc := 10) C d_Trial_define_10 rfl rfl ?_
  refine v_iload_n (pc := 11) C d_Trial_define_11 rfl rfl ?_
  refine pf_Trial_21 (pc := 12) C d_Trial_define_12 ?_
  refine v_aload_n (pc := 15) C d_Trial_define_15 rfl rfl ?_
  refine v_iload (pc := 16) C d_Trial_define_16 rfl ?_
  refine pf_Trial_24 (pc := 18) C d_Trial_define_18 ?_
  exact v_return (pc := 21) C hr ⟨rfl, rfl⟩ d_Trial_define_21
set_option maxRecDepth 100000 in
theorem c_Trial_forgetRun (l : Launch) {D : va_G} {ad : Nat → Nat → Nat} {cA : Nat → ClassId} (hJ : ty_J cnC ad) (σ : ty_St) (t : Nat) (ht : t < 12) : ty_M l y_Trial_forgetRun (Cond.code y_Trial_forgetRun b_Trial_forgetRun 1 none :: ty_w) (rmL 0) cnC D ad cA [.inr (3, t)] σ (fun r σ' => r = none ∧ σ' = kForgetT σ t) := by
  refine ty_M.of rfl hJ layC (ty_oks.cons ht ty_oks.nil) (Nat.le_of_ble_eq_true rfl) ?_
  intro p e s m args below meth c C hr hnm
  refine v_aload_n (pc := 0) C d_Trial_forgetRun_0 rfl rfl ?_
  refine v_iconst (pc := 1) (v := 0) C d_Trial_forgetRun_1 (by decide) ?_
  refine pf_Trial_27 (pc := 2) C d_Trial_forgetRun_2 ?_
  refine v_aload_n (pc := 5) C d_Trial_forgetRun_5 rfl rfl ?_
  refine v_iconst (pc := 6) (v := (-1)) C d_Trial_forgetRun_6 (by decide) ?_
  refine pf_Trial_30 (pc := 7) C d_Trial_forgetRun_7 ?_
  refine v_aload_n (pc := 10) C d_Trial_forgetRun_10 rfl rfl ?_
  refine v_iconst (pc := 11) (v := (-1)) C d_Trial_forgetRun_11 (by decide) ?_
  refine pf_Trial_33 (pc := 12) C d_Trial_forgetRun_12 ?_
  refine v_aload_n (pc := 15) C d_Trial_forgetRun_15 rfl rfl ?_
  refine v_iconst (pc := 16) (v := (-1)) C d_Trial_forgetRun_16 (by decide) ?_
  refine pf_Trial_36 (pc := 17) C d_Trial_forgetRun_17 ?_
  refine v_aload_n (pc := 20) C d_Trial_forgetRun_20 rfl rfl ?_
  refine v_iconst (pc := 21) (v := (-1)) C d_Trial_forgetRun_21 (by decide) ?_
  refine pf_Trial_39 (pc := 22) C d_Trial_forgetRun_22 ?_
  refine v_aload_n (pc := 25) C d_Trial_forgetRun_25 rfl rfl ?_
  refine v_iconst (pc := 26) (v := 0) C d_Trial_forgetRun_26 (by decide) ?_
  refine pf_Trial_42 (pc := 27) C rfl rfl d_Trial_forgetRun_27 ?_
  refine v_aload_n (pc := 30) C d_Trial_forgetRun_30 rfl rfl ?_
  refine v_iconst (pc := 31) (v := 0) C d_Trial_forgetRun_31 (by decide) ?_
  refine pf_Trial_46 (pc := 32) C d_Trial_forgetRun_32 ?_
  refine v_aload_n (pc := 35) C d_Trial_forgetRun_35 rfl rfl ?_
  refine v_iconst (pc := 36) (v := (-1)) C d_Trial_forgetRun_36 (by decide) ?_
  refine pf_Trial_49 (pc := 37) C d_Trial_forgetRun_37 ?_
  refine v_aload_n (pc := 40) C d_Trial_forgetRun_40 rfl rfl ?_
  refine v_iconst (pc := 41) (v := (-1)) C d_Trial_forgetRun_41 (by decide) ?_
  refine pf_Trial_52 (pc := 42) C d_Trial_forgetRun_42 ?_
  exact v_return (pc := 45) C hr ⟨rfl, rfl⟩ d_Trial_forgetRun_45
set_option maxRecDepth 100000 in
theorem c_Strand_start (l : Launch) {D : va_G} {ad : Nat → Nat → Nat} {cA : Nat → ClassId} (hJ : ty_J cnC ad) (σ : ty_St) (n : Nat) (hn : n < 52) (q t w : Int32) : ty_M l y_Strand_start (Cond.code y_Strand_start b_Strand_start 4 none :: ty_w) (rmL 0) cnC D ad cA [.inr (4, n), .inl q, .inl t, .inl w] σ (fun r σ' => r = none ∧ σ' = kStart σ n q t w) := by
  refine ty_M.of rfl hJ layC (ty_oks.cons hn (ty_oks.cons trivial (ty_oks.cons trivial (ty_oks.cons trivial ty_oks.nil)))) (Nat.le_of_ble_eq_true rfl) ?_
  intro p e s m args below meth c C hr hnm
  refine v_aload_n (pc := 0) C d_Strand_start_0 rfl rfl ?_
  refine v_iload_n (pc := 1) C d_Strand_start_1 rfl rfl ?_
  refine pf_Strand_9 (pc := 2) C d_Strand_start_2 ?_
  refine v_aload_n (pc := 5) C d_Strand_start_5 rfl rfl ?_
  refine v_iload_n (pc := 6) C d_Strand_start_6 rfl rfl ?_
  refine pf_Strand_15 (pc := 7) C d_Strand_start_7 ?_
  refine v_aload_n (pc := 10) C d_Strand_start_10 rfl rfl ?_
  refine v_iload_n (pc := 11) C d_Strand_start_11 rfl rfl ?_
  refine pf_Strand_18 (pc := 12) C d_Strand_start_12 ?_
  refine v_aload_n (pc := 15) C d_Strand_start_15 rfl rfl ?_
  refine v_iconst (pc := 16) (v := 0) C d_Strand_start_16 (by decide) ?_
  refine pf_Strand_21 (pc := 17) C d_Strand_start_17 ?_
  refine v_aload_n (pc := 20) C d_Strand_start_20 rfl rfl ?_
  refine v_iconst (pc := 21) (v := 0) C d_Strand_start_21 (by decide) ?_
  refine pf_Strand_24 (pc := 22) C rfl rfl d_Strand_start_22 ?_
  refine v_aload_n (pc := 25) C d_Strand_start_25 rfl rfl ?_
  refine v_iconst (pc := 26) (v := 0) C d_Strand_start_26 (by decide) ?_
  refine pf_Strand_28 (pc := 27) C d_Strand_start_27 ?_
  refine v_aload_n (pc := 30) C d_Strand_start_30 rfl rfl ?_
  refine v_iconst (pc := 31) (v := 0) C d_Strand_start_31 (by decide) ?_
  refine pf_Strand_31 (pc := 32) C rfl rfl d_Strand_start_32 ?_
  refine v_aload_n (pc := 35) C d_Strand_start_35 rfl rfl ?_
  refine v_iconst (pc := 36) (v := 0) C d_Strand_start_36 (by decide) ?_
  refine pf_Strand_34 (pc := 37) C rfl rfl d_Strand_start_37 ?_
  refine v_aload_n (pc := 40) C d_Strand_start_40 rfl rfl ?_
  refine v_iconst (pc := 41) (v := 0) C d_Strand_start_41 (by decide) ?_
  refine pf_Strand_37 (pc := 42) C rfl rfl d_Strand_start_42 ?_
  refine v_aload_n (pc := 45) C d_Strand_start_45 rfl rfl ?_
  refine v_iconst (pc := 46) (v := (-1)) C d_Strand_start_46 (by decide) ?_
  refine pf_Strand_40 (pc := 47) C d_Strand_start_47 ?_
  exact v_return (pc := 50) C hr ⟨rfl, rfl⟩ d_Strand_start_50
set_option maxRecDepth 100000 in
theorem c_Strand_end (l : Launch) {D : va_G} {ad : Nat → Nat → Nat} {cA : Nat → ClassId} (hJ : ty_J cnC ad) (σ : ty_St) (n : Nat) (hn : n < 52) (x : Int32) : ty_M l y_Strand_end (Cond.code y_Strand_end b_Strand_end 2 none :: ty_w) (rmL 0) cnC D ad cA [.inr (4, n), .inl x] σ (fun r σ' => r = none ∧ σ' = kEnd σ n x) := by
  refine ty_M.of rfl hJ layC (ty_oks.cons hn (ty_oks.cons trivial ty_oks.nil)) (Nat.le_of_ble_eq_true rfl) ?_
  intro p e s m args below meth c C hr hnm
  refine v_aload_n (pc := 0) C d_Strand_end_0 rfl rfl ?_
  refine v_iconst (pc := 1) (v := 1) C d_Strand_end_1 (by decide) ?_
  refine pf_Strand_37 (pc := 2) C rfl rfl d_Strand_end_2 ?_
  refine v_aload_n (pc := 5) C d_Strand_end_5 rfl rfl ?_
  refine v_iload_n (pc := 6) C d_Strand_end_6 rfl rfl ?_
  refine pf_Strand_40 (pc := 7) C d_Strand_end_7 ?_
  exact v_return (pc := 10) C hr ⟨rfl, rfl⟩ d_Strand_end_10
