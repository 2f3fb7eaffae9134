theorem up_ss {σ : ty_St} {a i j : Nat} {x : Int32} : ty_up σ a i j x a i j = x := by simp [ty_up, upd]
theorem up_sj {σ : ty_St} {a i j j' : Nat} {x : Int32} (h : ¬ j' = j) : ty_up σ a i j x a i j' = σ a i j' := by simp [ty_up, upd, h]
theorem up_i {σ : ty_St} {a i j i' : Nat} {x : Int32} (h : ¬ i' = i) : ty_up σ a i j x a i' = σ a i' := by funext k; simp [ty_up, h]
theorem up_a {σ : ty_St} {a i j a' : Nat} {x : Int32} (h : ¬ a' = a) : ty_up σ a i j x a' = σ a' := by funext i' k; simp [ty_up, h]
theorem i32_ge0 {x : Int32} {N : Nat} (h : ¬ x < 0) (h2 : x < nI N) (hN : N < 2 ^ 31) : vp_in x N := by
  obtain ⟨j, hj, rfl⟩ := nI_of h
  exact vp_in_nI ((nI_ltI hj hN).mp h2) hN
set_option maxRecDepth 100000 in
set_option maxHeartbeats 4000000 in
theorem c_Trial_overrunsAt (l : Launch) {D : va_G} {ad : Nat → Nat → Nat} {cA : Nat → ClassId} (hJ : ty_J cnC ad) (σ : ty_St) (t : Nat) (ht : t < 12) (x : Int32) : ty_M l y_Trial_overrunsAt (Cond.code y_Trial_overrunsAt b_Trial_overrunsAt 2 (some .boolean) :: ty_w) (rmL 1) cnC D ad cA [.inr (3, t), .inl x] σ (fun r σ' => r = some (.inl (kOverruns σ t x)) ∧ σ' = σ) := by
  refine ty_M.of rfl hJ layC (ty_oks.cons ht (ty_oks.cons trivial ty_oks.nil)) (Nat.le_of_ble_eq_true rfl) ?_
  intro p e s m args below meth c C hr hnm
  refine v_aload_n (pc := 0) C d_Trial_overrunsAt_0 rfl rfl ?_
  refine cl_Trial_55 (pc := 1) C (c_Trial_isRunning l hJ σ t ht) ⟨rfl, rfl, by decide, by decide⟩ rfl rfl (Nat.le_of_ble_eq_true rfl) d_Trial_overrunsAt_1 (fun r σ' hq => ?_)
  rw [hq.1, hq.2]
  refine v_if_eq (pc := 4) (tgt := 31) C d_Trial_overrunsAt_4 (by decide) (fun h4 => ?_) (fun h4 => ?_)
  · refine v_iconst (pc := 31) (v := 0) C d_Trial_overrunsAt_31 (by decide) ?_
    exact v_zreturn (pc := 32) C hr rfl ⟨by unfold kRunning at h4; simp_all [kOverruns, Int32.not_lt, Int32.not_le], rfl⟩ d_Trial_overrunsAt_32
  · refine v_aload_n (pc := 7) C d_Trial_overrunsAt_7 rfl rfl ?_
    refine gf_Trial_18 (pc := 8) C d_Trial_overrunsAt_8 ?_
    refine v_if_eq (pc := 11) (tgt := 31) C d_Trial_overrunsAt_11 (by decide) (fun h11 => ?_) (fun h11 => ?_)
    · refine v_iconst (pc := 31) (v := 0) C d_Trial_overrunsAt_31 (by decide) ?_
      exact v_zreturn (pc := 32) C hr rfl ⟨by unfold kRunning at h4; simp_all [kOverruns, Int32.not_lt, Int32.not_le], rfl⟩ d_Trial_overrunsAt_32
    · refine v_iload_n (pc := 14) C d_Trial_overrunsAt_14 rfl rfl ?_
      refine v_aload_n (pc := 15) C d_Trial_overrunsAt_15 rfl rfl ?_
      refine gf_Trial_33 (pc := 16) C d_Trial_overrunsAt_16 ?_
      refine v_aload_n (pc := 19) C d_Trial_overrunsAt_19 rfl rfl ?_
      refine gf_Trial_18 (pc := 20) C d_Trial_overrunsAt_20 ?_
      refine v_iadd (pc := 23) C d_Trial_overrunsAt_23 ?_
      refine v_icmp_lt (pc := 24) (tgt := 31) C d_Trial_overrunsAt_24 (by decide) (fun h24 => ?_) (fun h24 => ?_)
      · refine v_iconst (pc := 31) (v := 0) C d_Trial_overrunsAt_31 (by decide) ?_
        exact v_zreturn (pc := 32) C hr rfl ⟨by unfold kRunning at h4; simp_all [kOverruns, Int32.not_lt, Int32.not_le], rfl⟩ d_Trial_overrunsAt_32
      · refine v_iconst (pc := 27) (v := 1) C d_Trial_overrunsAt_27 (by decide) ?_
        refine v_goto (pc := 28) (tgt := 32) C d_Trial_overrunsAt_28 (by decide) ?_
        exact v_zreturn (pc := 32) C hr rfl ⟨by unfold kRunning at h4; simp_all [kOverruns, Int32.not_lt, Int32.not_le], rfl⟩ d_Trial_overrunsAt_32
set_option maxRecDepth 100000 in
set_option maxHeartbeats 4000000 in
theorem c_Trial_hinders (l : Launch) {D : va_G} {ad : Nat → Nat → Nat} {cA : Nat → ClassId} (hJ : ty_J cnC ad) (σ : ty_St) (t : Nat) (ht : t < 12) (u : Nat) (hu : u < 12) : ty_M l y_Trial_hindersLocksOf (Cond.code y_Trial_hindersLocksOf b_Trial_hindersLocksOf 2 (some .boolean) :: ty_w) (rmL 0) cnC D ad cA [.inr (3, t), .inr (3, u)] σ (fun r σ' => r = some (.inl (kHinders σ t u)) ∧ σ' = σ) := by
  refine ty_M.of rfl hJ layC (ty_oks.cons ht (ty_oks.cons hu ty_oks.nil)) (Nat.le_of_ble_eq_true rfl) ?_
  intro p e s m args below meth c C hr hnm
  refine v_aload_n (pc := 0) C d_Trial_hindersLocksOf_0 rfl rfl ?_
  refine gf_Trial_24 (pc := 1) C d_Trial_hindersLocksOf_1 ?_
  refine v_aload_n (pc := 4) C d_Trial_hindersLocksOf_4 rfl rfl ?_
  refine gf_Trial_21 (pc := 5) C d_Trial_hindersLocksOf_5 ?_
  refine v_aload_n (pc := 8) C d_Trial_hindersLocksOf_8 rfl rfl ?_
  refine gf_Trial_24 (pc := 9) C d_Trial_hindersLocksOf_9 ?_
  refine v_ior (pc := 12) C d_Trial_hindersLocksOf_12 ?_
  refine v_iand (pc := 13) C d_Trial_hindersLocksOf_13 ?_
  refine v_if_ne (pc := 14) (tgt := 29) C d_Trial_hindersLocksOf_14 (by decide) (fun h14 => ?_) (fun h14 => ?_)
  · refine v_iconst (pc := 29) (v := 1) C d_Trial_hindersLocksOf_29 (by decide) ?_
    refine v_goto (pc := 30) (tgt := 34) C d_Trial_hindersLocksOf_30 (by decide) ?_
    exact v_zreturn (pc := 34) C hr rfl ⟨by simp_all [kHinders], rfl⟩ d_Trial_hindersLocksOf_34
  · refine v_aload_n (pc := 17) C d_Trial_hindersLocksOf_17 rfl rfl ?_
    refine gf_Trial_21 (pc := 18) C d_Trial_hindersLocksOf_18 ?_
    refine v_aload_n (pc := 21) C d_Trial_hindersLocksOf_21 rfl rfl ?_
    refine gf_Trial_24 (pc := 22) C d_Trial_hindersLocksOf_22 ?_
    refine v_iand (pc := 25) C d_Trial_hindersLocksOf_25 ?_
    refine v_if_eq (pc := 26) (tgt := 33) C d_Trial_hindersLocksOf_26 (by decide) (fun h26 => ?_) (fun h26 => ?_)
    · refine v_iconst (pc := 33) (v := 0) C d_Trial_hindersLocksOf_33 (by decide) ?_
      exact v_zreturn (pc := 34) C hr rfl ⟨by simp_all [kHinders], rfl⟩ d_Trial_hindersLocksOf_34
    · refine v_iconst (pc := 29) (v := 1) C d_Trial_hindersLocksOf_29 (by decide) ?_
      refine v_goto (pc := 30) (tgt := 34) C d_Trial_hindersLocksOf_30 (by decide) ?_
      exact v_zreturn (pc := 34) C hr rfl ⟨by simp_all [kHinders], rfl⟩ d_Trial_hindersLocksOf_34
set_option maxRecDepth 100000 in
set_option maxHeartbeats 4000000 in
theorem c_Trial_byDeath (l : Launch) {D : va_G} {ad : Nat → Nat → Nat} {cA : Nat → ClassId} (hJ : ty_J cnC ad) (σ : ty_St) (t : Nat) (ht : t < 12) (x time : Int32) : ty_M l y_Trial_decideByDeath (Cond.code y_Trial_decideByDeath b_Trial_decideByDeath 3 none :: ty_w) (rmL 1) cnC D ad cA [.inr (3, t), .inl x, .inl time] σ (fun r σ' => r = none ∧ σ' = kByDeath σ t x time) := by
  refine ty_M.of rfl hJ layC (ty_oks.cons ht (ty_oks.cons trivial (ty_oks.cons trivial ty_oks.nil))) (Nat.le_of_ble_eq_true rfl) ?_
  intro p e s m args below meth c C hr hnm
  refine v_aload_n (pc := 0) C d_Trial_decideByDeath_0 rfl rfl ?_
  refine v_iload_n (pc := 1) C d_Trial_decideByDeath_1 rfl rfl ?_
  refine v_iconst (pc := 2) (v := (-1)) C d_Trial_decideByDeath_2 (by decide) ?_
  refine v_icmp_eq (pc := 3) (tgt := 10) C d_Trial_decideByDeath_3 (by decide) (fun h3 => ?_) (fun h3 => ?_)
  · refine v_aload_n (pc := 10) C d_Trial_decideByDeath_10 rfl rfl ?_
    refine gf_Trial_52 (pc := 11) C d_Trial_decideByDeath_11 ?_
    refine pf_Trial_30 (pc := 14) C d_Trial_decideByDeath_14 ?_
    refine v_aload_n (pc := 17) C d_Trial_decideByDeath_17 rfl rfl ?_
    refine v_aload_n (pc := 18) C d_Trial_decideByDeath_18 rfl rfl ?_
    refine gf_Trial_30 (pc := 19) C d_Trial_decideByDeath_19 ?_
    refine v_iconst (pc := 22) (v := (-1)) C d_Trial_decideByDeath_22 (by decide) ?_
    refine v_icmp_eq (pc := 23) (tgt := 30) C d_Trial_decideByDeath_23 (by decide) (fun h23 => ?_) (fun h23 => ?_)
    · refine v_iconst (pc := 30) (v := 1) C d_Trial_decideByDeath_30 (by decide) ?_
      refine v_iload_n (pc := 31) C d_Trial_decideByDeath_31 rfl rfl ?_
      refine cl_Trial_59 (pc := 32) C (c_Trial_decide l hJ _ t ht _ _) ⟨rfl, rfl, by decide, by decide⟩ rfl rfl (Nat.le_of_ble_eq_true rfl) d_Trial_decideByDeath_32 (fun r σ' hq => ?_)
      rw [hq.1, hq.2]
      exact v_return (pc := 35) C hr ⟨rfl, by simp_all [kByDeath, up_ss]⟩ d_Trial_decideByDeath_35
    · refine v_iconst (pc := 26) (v := 2) C d_Trial_decideByDeath_26 (by decide) ?_
      refine v_goto (pc := 27) (tgt := 31) C d_Trial_decideByDeath_27 (by decide) ?_
      refine v_iload_n (pc := 31) C d_Trial_decideByDeath_31 rfl rfl ?_
      refine cl_Trial_59 (pc := 32) C (c_Trial_decide l hJ _ t ht _ _) ⟨rfl, rfl, by decide, by decide⟩ rfl rfl (Nat.le_of_ble_eq_true rfl) d_Trial_decideByDeath_32 (fun r σ' hq => ?_)
      rw [hq.1, hq.2]
      exact v_return (pc := 35) C hr ⟨rfl, by simp_all [kByDeath, up_ss]⟩ d_Trial_decideByDeath_35
  · refine v_iload_n (pc := 6) C d_Trial_decideByDeath_6 rfl rfl ?_
    refine v_goto (pc := 7) (tgt := 14) C d_Trial_decideByDeath_7 (by decide) ?_
    refine pf_Trial_30 (pc := 14) C d_Trial_decideByDeath_14 ?_
    refine v_aload_n (pc := 17) C d_Trial_decideByDeath_17 rfl rfl ?_
    refine v_aload_n (pc := 18) C d_Trial_decideByDeath_18 rfl rfl ?_
    refine gf_Trial_30 (pc := 19) C d_Trial_decideByDeath_19 ?_
    refine v_iconst (pc := 22) (v := (-1)) C d_Trial_decideByDeath_22 (by decide) ?_
    refine v_icmp_eq (pc := 23) (tgt := 30) C d_Trial_decideByDeath_23 (by decide) (fun h23 => ?_) (fun h23 => ?_)
    · refine v_iconst (pc := 30) (v := 1) C d_Trial_decideByDeath_30 (by decide) ?_
      refine v_iload_n (pc := 31) C d_Trial_decideByDeath_31 rfl rfl ?_
      refine cl_Trial_59 (pc := 32) C (c_Trial_decide l hJ _ t ht _ _) ⟨rfl, rfl, by decide, by decide⟩ rfl rfl (Nat.le_of_ble_eq_true rfl) d_Trial_decideByDeath_32 (fun r σ' hq => ?_)
      rw [hq.1, hq.2]
      exact v_return (pc := 35) C hr ⟨rfl, by simp_all [kByDeath, up_ss]⟩ d_Trial_decideByDeath_35
    · refine v_iconst (pc := 26) (v := 2) C d_Trial_decideByDeath_26 (by decide) ?_
      refine v_goto (pc := 27) (tgt := 31) C d_Trial_decideByDeath_27 (by decide) ?_
      refine v_iload_n (pc := 31) C d_Trial_decideByDeath_31 rfl rfl ?_
      refine cl_Trial_59 (pc := 32) C (c_Trial_decide l hJ _ t ht _ _) ⟨rfl, rfl, by decide, by decide⟩ rfl rfl (Nat.le_of_ble_eq_true rfl) d_Trial_decideByDeath_32 (fun r σ' hq => ?_)
      rw [hq.1, hq.2]
      exact v_return (pc := 35) C hr ⟨rfl, by simp_all [kByDeath, up_ss]⟩ d_Trial_decideByDeath_35
set_option maxRecDepth 100000 in
set_option maxHeartbeats 4000000 in
theorem c_Strand_takeMark (l : Launch) {D : va_G} {ad : Nat → Nat → Nat} {cA : Nat → ClassId} (hJ : ty_J cnC ad) (σ : ty_St) (n : Nat) (hn : n < 52) (hb : σ 4 n 6 = 0 ∨ σ 4 n 6 = 1) : ty_M l y_Strand_takeMark (Cond.code y_Strand_takeMark b_Strand_takeMark 2 (some .boolean) :: ty_w) (rmL 0) cnC D ad cA [.inr (4, n)] σ (fun r σ' => r = some (.inl (σ 4 n 6)) ∧ σ' = kTake σ n) := by
  refine ty_M.of rfl hJ layC (ty_oks.cons hn ty_oks.nil) (Nat.le_of_ble_eq_true rfl) ?_
  intro p e s m args below meth c C hr hnm
  refine v_aload_n (pc := 0) C d_Strand_takeMark_0 rfl rfl ?_
  refine gf_Strand_31 (pc := 1) C d_Strand_takeMark_1 ?_
  refine v_istore_n (pc := 4) C d_Strand_takeMark_4 rfl (by decide) ?_
  refine v_aload_n (pc := 5) C d_Strand_takeMark_5 rfl rfl ?_
  refine v_iconst (pc := 6) (v := 0) C d_Strand_takeMark_6 (by decide) ?_
  refine pf_Strand_31 (pc := 7) C rfl rfl d_Strand_takeMark_7 ?_
  refine v_iload_n (pc := 10) C d_Strand_takeMark_10 rfl rfl ?_
  exact v_zreturn (pc := 11) C hr (by rcases hb with h | h <;> rw [h] <;> rfl) ⟨rfl, rfl⟩ d_Strand_takeMark_11
set_option maxRecDepth 100000 in
set_option maxHeartbeats 4000000 in
theorem c_Log_add (l : Launch) {D : va_G} {ad : Nat → Nat → Nat} {cA : Nat → ClassId} (hJ : ty_J cnC ad) (σ : ty_St) (i : Nat) (hi : i < 2) (hs : ¬ σ 5 i 1 < 0) (x : Int32) : ty_M l y_Log_add (Cond.code y_Log_add b_Log_add 2 none :: ty_w) (rmL 0) cnC D ad cA [.inr (5, i), .inl x] σ (fun r σ' => r = none ∧ σ' = kLog σ i x) := by
  refine ty_M.of rfl hJ layC (ty_oks.cons hi (ty_oks.cons trivial ty_oks.nil)) (Nat.le_of_ble_eq_true rfl) ?_
  intro p e s m args below meth c C hr hnm
  have hcap : Int32.ofNat (if i = 0 then 12 else 8) = kCap i := by unfold kCap; split <;> rfl
  refine v_aload_n (pc := 0) C d_Log_add_0 rfl rfl ?_
  refine gf_Log_13 (pc := 1) C d_Log_add_1 ?_
  refine v_aload_n (pc := 4) C d_Log_add_4 rfl rfl ?_
  refine gf_Log_7 (pc := 5) C d_Log_add_5 ?_
  refine v_alen (pc := 8) C rfl rfl rfl d_Log_add_8 ?_
  refine v_icmp_ge (pc := 9) (tgt := 22) C d_Log_add_9 (by decide) (fun h9 => ?_) (fun h9 => ?_)
  · refine v_aload_n (pc := 22) C d_Log_add_22 rfl rfl ?_
    refine v_dup (pc := 23) C d_Log_add_23 ?_
    refine gf_Log_13 (pc := 24) C d_Log_add_24 ?_
    refine v_iconst (pc := 27) (v := 1) C d_Log_add_27 (by decide) ?_
    refine v_iadd (pc := 28) C d_Log_add_28 ?_
    refine pf_Log_13 (pc := 29) C d_Log_add_29 ?_
    exact v_return (pc := 32) C hr ⟨rfl, by unfold kLog; rw [← hcap]; first | simp only [if_pos (Int32.not_le.mp h9)] | simp only [if_neg (Int32.not_lt.mpr h9)]⟩ d_Log_add_32
  · refine v_aload_n (pc := 12) C d_Log_add_12 rfl rfl ?_
    refine gf_Log_7 (pc := 13) C d_Log_add_13 ?_
    refine v_aload_n (pc := 16) C d_Log_add_16 rfl rfl ?_
    refine gf_Log_13 (pc := 17) C d_Log_add_17 ?_
    refine v_iload_n (pc := 20) C d_Log_add_20 rfl rfl ?_
    refine v_iastore (pc := 21) C rfl rfl (by refine i32_ge0 hs (N := if i = 0 then 12 else 8) ?_ (by split <;> decide); have h9b := Int32.not_le.mp h9; exact h9b) d_Log_add_21 ?_
    refine v_aload_n (pc := 22) C d_Log_add_22 rfl rfl ?_
    refine v_dup (pc := 23) C d_Log_add_23 ?_
    refine gf_Log_13 (pc := 24) C d_Log_add_24 ?_
    refine v_iconst (pc := 27) (v := 1) C d_Log_add_27 (by decide) ?_
    refine v_iadd (pc := 28) C d_Log_add_28 ?_
    refine pf_Log_13 (pc := 29) C d_Log_add_29 ?_
    exact v_return (pc := 32) C hr ⟨rfl, by unfold kLog; rw [← hcap]; first | simp only [if_pos (Int32.not_le.mp h9)] | simp only [if_neg (Int32.not_lt.mpr h9)]⟩ d_Log_add_32
set_option maxRecDepth 100000 in
set_option maxHeartbeats 4000000 in
theorem c_Log_keeps (l : Launch) {D : va_G} {ad : Nat → Nat → Nat} {cA : Nat → ClassId} (hJ : ty_J cnC ad) (σ : ty_St) (i : Nat) (hi : i < 2) (x : Int32) : ty_M l y_Log_keeps (Cond.code y_Log_keeps b_Log_keeps 2 (some .boolean) :: ty_w) (rmL 0) cnC D ad cA [.inr (5, i), .inl x] σ (fun r σ' => r = some (.inl (kKeeps σ i x)) ∧ σ' = σ) := by
  refine ty_M.of rfl hJ layC (ty_oks.cons hi (ty_oks.cons trivial ty_oks.nil)) (Nat.le_of_ble_eq_true rfl) ?_
  intro p e s m args below meth c C hr hnm
  have hcap : Int32.ofNat (if i = 0 then 12 else 8) = kCap i := by unfold kCap; split <;> rfl
  refine v_iload_n (pc := 0) C d_Log_keeps_0 rfl rfl ?_
  refine v_if_lt (pc := 1) (tgt := 25) C d_Log_keeps_1 (by decide) (fun h1 => ?_) (fun h1 => ?_)
  · refine v_iconst (pc := 25) (v := 0) C d_Log_keeps_25 (by decide) ?_
    exact v_zreturn (pc := 26) C hr rfl ⟨by unfold kKeeps; rw [← hcap]; first | rw [if_neg (fun q => absurd q.1 (Int32.not_le.mpr h1))] | rw [if_neg (fun q => absurd q.2.1 (Int32.not_lt.mpr h9))] | rw [if_neg (fun q => absurd q.2.2 (Int32.not_lt.mpr h18))] | rw [if_pos ⟨Int32.not_lt.mp h1, Int32.not_le.mp h9, Int32.not_le.mp h18⟩], rfl⟩ d_Log_keeps_26
  · refine v_iload_n (pc := 4) C d_Log_keeps_4 rfl rfl ?_
    refine v_aload_n (pc := 5) C d_Log_keeps_5 rfl rfl ?_
    refine gf_Log_13 (pc := 6) C d_Log_keeps_6 ?_
    refine v_icmp_ge (pc := 9) (tgt := 25) C d_Log_keeps_9 (by decide) (fun h9 => ?_) (fun h9 => ?_)
    · refine v_iconst (pc := 25) (v := 0) C d_Log_keeps_25 (by decide) ?_
      exact v_zreturn (pc := 26) C hr rfl ⟨by unfold kKeeps; rw [← hcap]; first | rw [if_neg (fun q => absurd q.1 (Int32.not_le.mpr h1))] | rw [if_neg (fun q => absurd q.2.1 (Int32.not_lt.mpr h9))] | rw [if_neg (fun q => absurd q.2.2 (Int32.not_lt.mpr h18))] | rw [if_pos ⟨Int32.not_lt.mp h1, Int32.not_le.mp h9, Int32.not_le.mp h18⟩], rfl⟩ d_Log_keeps_26
    · refine v_iload_n (pc := 12) C d_Log_keeps_12 rfl rfl ?_
      refine v_aload_n (pc := 13) C d_Log_keeps_13 rfl rfl ?_
      refine gf_Log_7 (pc := 14) C d_Log_keeps_14 ?_
      refine v_alen (pc := 17) C rfl rfl rfl d_Log_keeps_17 ?_
      refine v_icmp_ge (pc := 18) (tgt := 25) C d_Log_keeps_18 (by decide) (fun h18 => ?_) (fun h18 => ?_)
      · refine v_iconst (pc := 25) (v := 0) C d_Log_keeps_25 (by decide) ?_
        exact v_zreturn (pc := 26) C hr rfl ⟨by unfold kKeeps; rw [← hcap]; first | rw [if_neg (fun q => absurd q.1 (Int32.not_le.mpr h1))] | rw [if_neg (fun q => absurd q.2.1 (Int32.not_lt.mpr h9))] | rw [if_neg (fun q => absurd q.2.2 (Int32.not_lt.mpr h18))] | rw [if_pos ⟨Int32.not_lt.mp h1, Int32.not_le.mp h9, Int32.not_le.mp h18⟩], rfl⟩ d_Log_keeps_26
      · refine v_iconst (pc := 21) (v := 1) C d_Log_keeps_21 (by decide) ?_
        refine v_goto (pc := 22) (tgt := 26) C d_Log_keeps_22 (by decide) ?_
        exact v_zreturn (pc := 26) C hr rfl ⟨by unfold kKeeps; rw [← hcap]; first | rw [if_neg (fun q => absurd q.1 (Int32.not_le.mpr h1))] | rw [if_neg (fun q => absurd q.2.1 (Int32.not_lt.mpr h9))] | rw [if_neg (fun q => absurd q.2.2 (Int32.not_lt.mpr h18))] | rw [if_pos ⟨Int32.not_lt.mp h1, Int32.not_le.mp h9, Int32.not_le.mp h18⟩], rfl⟩ d_Log_keeps_26
set_option maxRecDepth 100000 in
set_option maxHeartbeats 4000000 in
theorem c_Program_ega (l : Launch) {D : va_G} {ad : Nat → Nat → Nat} {cA : Nat → ClassId} (hJ : ty_J cnC ad) (σ : ty_St) (q : Nat) (hq : q < 10) (y : Int32) (z : Nat) (hz : z ≤ 10) (hy : y = nI z) : ty_M l y_Program_endOfGuardAround (Cond.code y_Program_endOfGuardAround b_Program_endOfGuardAround 3 (some .int) :: ty_w) (rmL 0) cnC D ad cA [.inr (2, q), .inl y] σ (fun r σ' => r = some (.inl (kEga (σ 8 q) y z)) ∧ σ' = σ) := by
  refine ty_M.of rfl hJ layC (ty_oks.cons hq (ty_oks.cons trivial ty_oks.nil)) (Nat.le_of_ble_eq_true rfl) ?_
  intro p e s m args below meth c C hr hnm
  subst hy
  have loop : ∀ k, k ≤ z → ∀ x, x = nI k - 1 → kEga (σ 8 q) (nI z) k = kEga (σ 8 q) (nI z) z → ty_V cnC p l e (rmL 0) s m args below meth c D ad cA (ty_Gd cnC ad s) 3 (MQ below (ty_Q cnC D ad cA (fun r σ' => r = some (.inl (kEga (σ 8 q) (nI z) z)) ∧ σ' = σ) (ty_A cnC ad)) args s 0 0 (ty_A cnC ad)) σ [some (.inr (2, q)), some (.inl (nI z)), some (.inl x)] 4 [] := by
    intro k
    induction k with
    | zero =>
      intro hk x hx hE
      refine v_iload_n (pc := 4) C d_Program_endOfGuardAround_4 rfl rfl ?_
      refine v_if_lt (pc := 5) (tgt := 31) C d_Program_endOfGuardAround_5 (by decide) (fun h5 => ?_) (fun h5 => ?_)
      · refine v_iconst (pc := 31) (v := (-1)) C d_Program_endOfGuardAround_31 (by decide) ?_
        exact v_ireturn (pc := 32) C hr ⟨by rw [← hE]; rfl, rfl⟩ d_Program_endOfGuardAround_32
      · exact absurd (by rw [hx]; decide) h5
    | succ k ih =>
      intro hk x hx hE
      rw [nI_pred] at hx
      subst hx
      have hE2 : (if nI z < σ 8 q k then σ 8 q k else kEga (σ 8 q) (nI z) k) = kEga (σ 8 q) (nI z) z := hE
      have hkc : (nI k).toNatClampNeg = k := nI_clamp (by omega)
      have hin : vp_in (nI k) 10 := vp_in_nI (by omega) (by decide)
      refine v_iload_n (pc := 4) C d_Program_endOfGuardAround_4 rfl rfl ?_
      refine v_if_lt (pc := 5) (tgt := 31) C d_Program_endOfGuardAround_5 (by decide) (fun h5 => ?_) (fun h5 => ?_)
      · exact absurd h5 (nI_pos (by omega))
      · refine v_aload_n (pc := 8) C d_Program_endOfGuardAround_8 rfl rfl ?_
        refine gf_Program_18 (pc := 9) C d_Program_endOfGuardAround_9 ?_
        refine v_iload_n (pc := 12) C d_Program_endOfGuardAround_12 rfl rfl ?_
        refine v_iaload (pc := 13) C rfl rfl hin d_Program_endOfGuardAround_13 ?_
        refine v_iload_n (pc := 14) C d_Program_endOfGuardAround_14 rfl rfl ?_
        refine v_icmp_le (pc := 15) (tgt := 25) C d_Program_endOfGuardAround_15 (by decide) (fun h15 => ?_) (fun h15 => ?_)
        · refine v_iinc (pc := 25) C d_Program_endOfGuardAround_25 rfl (show _ + Int32.ofInt (-1) = _ + (-1) from rfl) (by decide) ?_
          refine v_goto (pc := 28) (tgt := 4) C d_Program_endOfGuardAround_28 (by decide) ?_
          refine ih (by omega) _ (Int32.sub_eq_add_neg _ _).symm ?_
          rw [← hE2, if_neg (Int32.not_lt.mpr (by rw [hkc] at h15; exact h15))]
        · refine v_aload_n (pc := 18) C d_Program_endOfGuardAround_18 rfl rfl ?_
          refine gf_Program_18 (pc := 19) C d_Program_endOfGuardAround_19 ?_
          refine v_iload_n (pc := 22) C d_Program_endOfGuardAround_22 rfl rfl ?_
          refine v_iaload (pc := 23) C rfl rfl hin d_Program_endOfGuardAround_23 ?_
          exact v_ireturn (pc := 24) C hr ⟨by rw [← hE2, hkc, if_pos (Int32.not_le.mp (by rw [hkc] at h15; exact h15))], rfl⟩ d_Program_endOfGuardAround_24
  refine v_iload_n (pc := 0) C d_Program_endOfGuardAround_0 rfl rfl ?_
  refine v_iconst (pc := 1) (v := 1) C d_Program_endOfGuardAround_1 (by decide) ?_
  refine v_isub (pc := 2) C d_Program_endOfGuardAround_2 ?_
  refine v_istore_n (pc := 3) C d_Program_endOfGuardAround_3 rfl (by decide) ?_
  exact loop z (Nat.le_refl _) _ rfl rfl
set_option maxRecDepth 100000 in
set_option maxHeartbeats 4000000 in
theorem c_Program_eog (l : Launch) {D : va_G} {ad : Nat → Nat → Nat} {cA : Nat → ClassId} (hJ : ty_J cnC ad) (σ : ty_St) (q : Nat) (hq : q < 10) (y : Int32) (z : Nat) (hz : z ≤ 10) (hy : y = nI z) (a : Int32) : ty_M l y_Program_endOfGuard (Cond.code y_Program_endOfGuard b_Program_endOfGuard 5 (some .int) :: ty_w) (rmL 1) cnC D ad cA [.inr (2, q), .inl y, .inl a] σ (fun r σ' => r = some (.inl (kGuard (σ 8 q) y a)) ∧ σ' = σ) := by
  refine ty_M.of rfl hJ layC (ty_oks.cons hq (ty_oks.cons trivial (ty_oks.cons trivial ty_oks.nil))) (Nat.le_of_ble_eq_true rfl) ?_
  intro p e s m args below meth c C hr hnm
  subst hy
  have hzc : nn (nI z) = z := nI_clamp (by omega)
  refine v_iload_n (pc := 0) C d_Program_endOfGuard_0 rfl rfl ?_
  refine v_iconst (pc := 1) (v := 1) C d_Program_endOfGuard_1 (by decide) ?_
  refine v_iadd (pc := 2) C d_Program_endOfGuard_2 ?_
  refine v_iload_n (pc := 3) C d_Program_endOfGuard_3 rfl rfl ?_
  refine v_iadd (pc := 4) C d_Program_endOfGuard_4 ?_
  refine v_istore_n (pc := 5) C d_Program_endOfGuard_5 rfl (by decide) ?_
  refine v_aload_n (pc := 6) C d_Program_endOfGuard_6 rfl rfl ?_
  refine v_iload_n (pc := 7) C d_Program_endOfGuard_7 rfl rfl ?_
  refine cl_Program_29 (pc := 8) C (c_Program_ega l hJ σ q hq _ z hz rfl) ⟨rfl, rfl, by decide, by decide⟩ rfl rfl (Nat.le_of_ble_eq_true rfl) d_Program_endOfGuard_8 (fun r σ' hq => ?_)
  rw [hq.1, hq.2]
  refine v_istore (pc := 11) C d_Program_endOfGuard_11 (by decide) ?_
  refine v_iload (pc := 13) C d_Program_endOfGuard_13 rfl ?_
  refine v_iconst (pc := 15) (v := (-1)) C d_Program_endOfGuard_15 (by decide) ?_
  refine v_icmp_ne (pc := 16) (tgt := 23) C d_Program_endOfGuard_16 (by decide) (fun h16 => ?_) (fun h16 => ?_)
  · refine v_iload_n (pc := 23) C d_Program_endOfGuard_23 rfl rfl ?_
    refine v_iload (pc := 24) C d_Program_endOfGuard_24 rfl ?_
    refine cl_Program_33 (pc := 26) C (by decide) (by decide) d_Program_endOfGuard_26 ?_
    skip
    exact v_ireturn (pc := 29) C hr ⟨by unfold kGuard; rw [hzc]; first | rw [if_pos h16] | (rw [if_neg h16]), rfl⟩ d_Program_endOfGuard_29
  · refine v_iload_n (pc := 19) C d_Program_endOfGuard_19 rfl rfl ?_
    refine v_goto (pc := 20) (tgt := 29) C d_Program_endOfGuard_20 (by decide) ?_
    exact v_ireturn (pc := 29) C hr ⟨by unfold kGuard; rw [hzc]; first | rw [if_pos h16] | (rw [if_neg h16]), rfl⟩ d_Program_endOfGuard_29
set_option maxRecDepth 100000 in
set_option maxHeartbeats 4000000 in
theorem c_Program_add (l : Launch) {D : va_G} {ad : Nat → Nat → Nat} {cA : Nat → ClassId} (hJ : ty_J cnC ad) (σ : ty_St) (q : Nat) (hq : q < 10) (z : Nat) (hz : z < 10) (hz2 : σ 2 q 3 = nI z) (op a : Int32) : ty_M l y_Program_add (Cond.code y_Program_add b_Program_add 3 none :: ty_w) (rmL 2) cnC D ad cA [.inr (2, q), .inl op, .inl a] σ (fun r σ' => r = none ∧ σ' = kAdd σ q op a) := by
  refine ty_M.of rfl hJ layC (ty_oks.cons hq (ty_oks.cons trivial (ty_oks.cons trivial ty_oks.nil))) (Nat.le_of_ble_eq_true rfl) ?_
  intro p e s m args below meth c C hr hnm
  have hzc : nn (nI z) = z := nI_clamp (by omega)
  have hin : vp_in (σ 2 q 3) 10 := by rw [hz2]; exact vp_in_nI (by omega) (by decide)
  refine v_aload_n (pc := 0) C d_Program_add_0 rfl rfl ?_
  refine gf_Program_9 (pc := 1) C d_Program_add_1 ?_
  refine v_aload_n (pc := 4) C d_Program_add_4 rfl rfl ?_
  refine gf_Program_21 (pc := 5) C d_Program_add_5 ?_
  refine v_iload_n (pc := 8) C d_Program_add_8 rfl rfl ?_
  refine v_iastore (pc := 9) C rfl rfl hin d_Program_add_9 ?_
  refine v_aload_n (pc := 10) C d_Program_add_10 rfl rfl ?_
  refine gf_Program_15 (pc := 11) C d_Program_add_11 ?_
  refine v_aload_n (pc := 14) C d_Program_add_14 rfl rfl ?_
  refine gf_Program_21 (pc := 15) C d_Program_add_15 ?_
  refine v_iload_n (pc := 18) C d_Program_add_18 rfl rfl ?_
  refine v_iastore (pc := 19) C rfl rfl hin d_Program_add_19 ?_
  refine v_aload_n (pc := 20) C d_Program_add_20 rfl rfl ?_
  refine gf_Program_18 (pc := 21) C d_Program_add_21 ?_
  refine v_aload_n (pc := 24) C d_Program_add_24 rfl rfl ?_
  refine gf_Program_21 (pc := 25) C d_Program_add_25 ?_
  refine v_iload_n (pc := 28) C d_Program_add_28 rfl rfl ?_
  refine v_iconst (pc := 29) (v := 4) C d_Program_add_29 (by decide) ?_
  refine v_icmp_ne (pc := 30) (tgt := 45) C d_Program_add_30 (by decide) (fun h30 => ?_) (fun h30 => ?_)
  · refine v_iconst (pc := 45) (v := 0) C d_Program_add_45 (by decide) ?_
    refine v_iastore (pc := 46) C rfl rfl hin d_Program_add_46 ?_
    refine v_aload_n (pc := 47) C d_Program_add_47 rfl rfl ?_
    refine v_dup (pc := 48) C d_Program_add_48 ?_
    refine gf_Program_21 (pc := 49) C d_Program_add_49 ?_
    refine v_iconst (pc := 52) (v := 1) C d_Program_add_52 (by decide) ?_
    refine v_iadd (pc := 53) C d_Program_add_53 ?_
    refine pf_Program_21 (pc := 54) C d_Program_add_54 ?_
    exact v_return (pc := 57) C hr ⟨rfl, by simp [kAdd, up_a, h30]⟩ d_Program_add_57
  · refine v_aload_n (pc := 33) C d_Program_add_33 rfl rfl ?_
    refine v_aload_n (pc := 34) C d_Program_add_34 rfl rfl ?_
    refine gf_Program_21 (pc := 35) C d_Program_add_35 ?_
    refine v_iload_n (pc := 38) C d_Program_add_38 rfl rfl ?_
    refine cl_Program_25 (pc := 39) C (c_Program_eog l hJ _ q hq _ z (by omega) hz2 a) ⟨rfl, rfl, by decide, by decide⟩ rfl rfl (Nat.le_of_ble_eq_true rfl) d_Program_add_39 (fun r σ' hq => ?_)
    rw [hq.1, hq.2]
    refine v_goto (pc := 42) (tgt := 46) C d_Program_add_42 (by decide) ?_
    refine v_iastore (pc := 46) C rfl rfl hin d_Program_add_46 ?_
    refine v_aload_n (pc := 47) C d_Program_add_47 rfl rfl ?_
    refine v_dup (pc := 48) C d_Program_add_48 ?_
    refine gf_Program_21 (pc := 49) C d_Program_add_49 ?_
    refine v_iconst (pc := 52) (v := 1) C d_Program_add_52 (by decide) ?_
    refine v_iadd (pc := 53) C d_Program_add_53 ?_
    refine pf_Program_21 (pc := 54) C d_Program_add_54 ?_
    exact v_return (pc := 57) C hr ⟨rfl, by simp [kAdd, up_a, h30]⟩ d_Program_add_57
