theorem kAllPassed_mono {σ : ty_St} : ∀ {n k : Nat}, n ≤ k → kAllPassed σ k = true → kAllPassed σ n = true := by
  intro n k h
  induction k with
  | zero => intro q; rw [show n = 0 by omega]; exact q
  | succ k ih =>
    intro q
    by_cases e : n = k + 1
    · rw [e]; exact q
    · simp only [kAllPassed, Bool.and_eq_true] at q
      exact ih (by omega) q.1
set_option maxRecDepth 100000 in
set_option maxHeartbeats 4000000 in
theorem c_Course_allPassed (l : Launch) {D : va_G} {ad : Nat → Nat → Nat} {cA : Nat → ClassId} (hJ : ty_J cnC ad) (σ : ty_St) (tc : Nat) (htc : tc ≤ 12) (hc : σ 1 0 6 = nI tc) : ty_M l y_Course_allPassed (Cond.code y_Course_allPassed b_Course_allPassed 2 (some .boolean) :: ty_w) (rmL 0) cnC D ad cA [.inr (1, 0)] σ (fun r σ' => r = some (.inl (if kAllPassed σ tc = true then 1 else 0)) ∧ σ' = σ) := by
  refine ty_M.of rfl hJ layC (ty_oks.cons (show (0 : Nat) < cnC 1 by decide) ty_oks.nil) (Nat.le_of_ble_eq_true rfl) ?_
  intro p e s m args below meth c C hr hnm
  have loop : ∀ k i, i + k = tc → kAllPassed σ i = true → ty_V cnC p l e (rmL 0) s m args below meth c D ad cA (ty_Gd cnC ad s) 2 (MQ below (ty_Q cnC D ad cA (fun r σ' => r = some (.inl (if kAllPassed σ tc = true then 1 else 0)) ∧ σ' = σ) (ty_A cnC ad)) args s 0 0 (ty_A cnC ad)) σ [some (.inr (1, 0)), some (.inl (nI i))] 2 [] := by
    intro k
    induction k with
    | zero =>
      intro i hi hi0
      have hb := hc
      refine v_iload_n (pc := 2) C d_Course_allPassed_2 rfl rfl ?_
      refine v_aload_n (pc := 3) C d_Course_allPassed_3 rfl rfl ?_
      refine gf_Course_48 (pc := 4) C d_Course_allPassed_4 ?_
      refine v_icmp_ge (pc := 7) (tgt := 31) C d_Course_allPassed_7 (by decide) (fun h7 => ?_) (fun h7 => ?_)
      · refine v_iconst (pc := 31) (v := 1) C d_Course_allPassed_31 (by decide) ?_
        exact v_zreturn (pc := 32) C hr rfl ⟨by rw [show tc = i by omega, if_pos hi0], rfl⟩ d_Course_allPassed_32
      · exact absurd (by rw [hb]; exact nI_le (by omega) (by omega)) h7
    | succ k ih =>
      intro i hi hi0
      have hb := hc
      refine v_iload_n (pc := 2) C d_Course_allPassed_2 rfl rfl ?_
      refine v_aload_n (pc := 3) C d_Course_allPassed_3 rfl rfl ?_
      refine gf_Course_48 (pc := 4) C d_Course_allPassed_4 ?_
      refine v_icmp_ge (pc := 7) (tgt := 31) C d_Course_allPassed_7 (by decide) (fun h7 => ?_) (fun h7 => ?_)
      · exact absurd h7 (by rw [hb]; exact nI_ge (by omega) (by omega))
      · refine v_aload_n (pc := 10) C d_Course_allPassed_10 rfl rfl ?_
        refine gf_Course_19 (pc := 11) C d_Course_allPassed_11 ?_
        refine v_iload_n (pc := 14) C d_Course_allPassed_14 rfl rfl ?_
        refine v_aaloadK (pc := 15) C rfl rfl (by decide) (rfl) (by omega) (by decide) d_Course_allPassed_15 ?_
        refine gf_Course_93 (pc := 16) C d_Course_allPassed_16 ?_
        refine v_iconst (pc := 19) (v := 1) C d_Course_allPassed_19 (by decide) ?_
        refine v_icmp_eq (pc := 20) (tgt := 25) C d_Course_allPassed_20 (by decide) (fun h20 => ?_) (fun h20 => ?_)
        · refine v_iinc (pc := 25) C d_Course_allPassed_25 rfl (show _ + Int32.ofInt 1 = _ + 1 from rfl) (by decide) ?_
          refine v_goto (pc := 28) (tgt := 2) C d_Course_allPassed_28 (by decide) ?_
          rw [nI_1 i]
          exact ih (i + 1) (by omega) (by simp [kAllPassed, hi0, h20])
        · refine v_iconst (pc := 23) (v := 0) C d_Course_allPassed_23 (by decide) ?_
          exact v_zreturn (pc := 24) C hr rfl ⟨by
            have : ¬ kAllPassed σ tc = true := fun q => h20 (by have := kAllPassed_mono (show i + 1 ≤ tc by omega) q; simp [kAllPassed] at this; exact this.2)
            rw [if_neg this], rfl⟩ d_Course_allPassed_24
  refine v_iconst (pc := 0) (v := 0) C d_Course_allPassed_0 (by decide) ?_
  refine v_istore_n (pc := 1) C d_Course_allPassed_1 rfl (by decide) ?_
  exact loop tc 0 (by omega) rfl
set_option maxRecDepth 100000 in
set_option maxHeartbeats 4000000 in
theorem c_Course_count (l : Launch) {D : va_G} {ad : Nat → Nat → Nat} {cA : Nat → ClassId} (hJ : ty_J cnC ad) (σ : ty_St) (tc : Nat) (htc : tc ≤ 12) (hc : σ 1 0 6 = nI tc) : ty_M l y_Course_countRunning (Cond.code y_Course_countRunning b_Course_countRunning 3 (some .int) :: ty_w) (rmL 1) cnC D ad cA [.inr (1, 0)] σ (fun r σ' => r = some (.inl (kCount σ tc)) ∧ σ' = σ) := by
  refine ty_M.of rfl hJ layC (ty_oks.cons (show (0 : Nat) < cnC 1 by decide) ty_oks.nil) (Nat.le_of_ble_eq_true rfl) ?_
  intro p e s m args below meth c C hr hnm
  have loop : ∀ k i, i + k = tc → ty_V cnC p l e (rmL 1) s m args below meth c D ad cA (ty_Gd cnC ad s) 3 (MQ below (ty_Q cnC D ad cA (fun r σ' => r = some (.inl (kCount σ tc)) ∧ σ' = σ) (ty_A cnC ad)) args s 0 0 (ty_A cnC ad)) σ [some (.inr (1, 0)), some (.inl (kCount σ i)), some (.inl (nI i))] 4 [] := by
    intro k
    induction k with
    | zero =>
      intro i hi 
      have hb := hc
      refine v_iload_n (pc := 4) C d_Course_countRunning_4 rfl rfl ?_
      refine v_aload_n (pc := 5) C d_Course_countRunning_5 rfl rfl ?_
      refine gf_Course_48 (pc := 6) C d_Course_countRunning_6 ?_
      refine v_icmp_ge (pc := 9) (tgt := 33) C d_Course_countRunning_9 (by decide) (fun h9 => ?_) (fun h9 => ?_)
      · refine v_iload_n (pc := 33) C d_Course_countRunning_33 rfl rfl ?_
        exact v_ireturn (pc := 34) C hr ⟨by rw [show tc = i by omega], rfl⟩ d_Course_countRunning_34
      · exact absurd (by rw [hb]; exact nI_le (by omega) (by omega)) h9
    | succ k ih =>
      intro i hi 
      have hb := hc
      refine v_iload_n (pc := 4) C d_Course_countRunning_4 rfl rfl ?_
      refine v_aload_n (pc := 5) C d_Course_countRunning_5 rfl rfl ?_
      refine gf_Course_48 (pc := 6) C d_Course_countRunning_6 ?_
      refine v_icmp_ge (pc := 9) (tgt := 33) C d_Course_countRunning_9 (by decide) (fun h9 => ?_) (fun h9 => ?_)
      · exact absurd h9 (by rw [hb]; exact nI_ge (by omega) (by omega))
      · refine v_aload_n (pc := 12) C d_Course_countRunning_12 rfl rfl ?_
        refine gf_Course_19 (pc := 13) C d_Course_countRunning_13 ?_
        refine v_iload_n (pc := 16) C d_Course_countRunning_16 rfl rfl ?_
        refine v_aaloadK (pc := 17) C rfl rfl (by decide) (rfl) (by omega) (by decide) d_Course_countRunning_17 ?_
        refine cl_Course_147 (pc := 18) C (c_Trial_isRunning l hJ σ i (by omega)) ⟨rfl, rfl, by decide, by decide⟩ rfl rfl (Nat.le_of_ble_eq_true rfl) d_Course_countRunning_18 (fun r σ' hq => ?_)
        rw [hq.1, hq.2]
        refine v_if_eq (pc := 21) (tgt := 27) C d_Course_countRunning_21 (by decide) (fun h21 => ?_) (fun h21 => ?_)
        · refine v_iinc (pc := 27) C d_Course_countRunning_27 rfl (show _ + Int32.ofInt 1 = _ + 1 from rfl) (by decide) ?_
          refine v_goto (pc := 30) (tgt := 4) C d_Course_countRunning_30 (by decide) ?_
          rw [nI_1 i]
          have e1 : kCount σ (i + 1) = _ := rfl
          unfold kRunning at h21
          first | (rw [show kCount σ i = kCount σ (i + 1) by simp_all [kCount, kRunning]]; exact ih (i + 1) (by omega)) | (rw [show kCount σ i + 1 = kCount σ (i + 1) by simp_all [kCount, kRunning]]; exact ih (i + 1) (by omega))
        · refine v_iinc (pc := 24) C d_Course_countRunning_24 rfl (show _ + Int32.ofInt 1 = _ + 1 from rfl) (by decide) ?_
          refine v_iinc (pc := 27) C d_Course_countRunning_27 rfl (show _ + Int32.ofInt 1 = _ + 1 from rfl) (by decide) ?_
          refine v_goto (pc := 30) (tgt := 4) C d_Course_countRunning_30 (by decide) ?_
          rw [nI_1 i]
          have e1 : kCount σ (i + 1) = _ := rfl
          unfold kRunning at h21
          first | (rw [show kCount σ i = kCount σ (i + 1) by simp_all [kCount, kRunning]]; exact ih (i + 1) (by omega)) | (rw [show kCount σ i + 1 = kCount σ (i + 1) by simp_all [kCount, kRunning]]; exact ih (i + 1) (by omega))
  refine v_iconst (pc := 0) (v := 0) C d_Course_countRunning_0 (by decide) ?_
  refine v_istore_n (pc := 1) C d_Course_countRunning_1 rfl (by decide) ?_
  refine v_iconst (pc := 2) (v := 0) C d_Course_countRunning_2 (by decide) ?_
  refine v_istore_n (pc := 3) C d_Course_countRunning_3 rfl (by decide) ?_
  exact loop tc 0 (by omega)
