theorem kRelease1_a {σ : ty_St} {a w : Nat} (h : ¬ a = 3) (h4 : ¬ a = 10) : (kRelease1 σ w) a = σ a := by
  unfold kRelease1 kReleaseIf
  repeat' split
  all_goals first | rw [up_a h4, up_a h] | rw [up_a h4] | rfl
theorem kRelease_a {σ : ty_St} {a : Nat} (h : ¬ a = 3) (h4 : ¬ a = 10) : ∀ n, (kRelease σ n) a = σ a
  | 0 => rfl
  | n + 1 => (kRelease1_a h h4).trans (kRelease_a h h4 n)
theorem kRelease1_3 {σ : ty_St} {w u j : Nat} (h9 : ¬ j = 9) : (kRelease1 σ w) 3 u j = σ 3 u j := by
  unfold kRelease1 kReleaseIf
  repeat' split
  all_goals first | rfl | (rw [up_a (by decide)]; first | rfl | skip)
  by_cases e : u = nn (σ 10 0 w)
  · subst e; rw [up_sj h9]
  · rw [up_i e]
theorem kRelease_3 {σ : ty_St} {u j : Nat} (h9 : ¬ j = 9) : ∀ n, (kRelease σ n) 3 u j = σ 3 u j
  | 0 => rfl
  | n + 1 => (kRelease1_3 h9).trans (kRelease_3 h9 n)
theorem kRelease1_10 {σ : ty_St} {w u : Nat} (h : ¬ u = w) : (kRelease1 σ w) 10 0 u = σ 10 0 u := by
  unfold kRelease1 kReleaseIf
  repeat' split
  all_goals first | rfl | (rw [up_sj h]; try (rw [up_a (by decide)]))
theorem kRelease_10 {σ : ty_St} {u : Nat} : ∀ n, n ≤ u → (kRelease σ n) 10 0 u = σ 10 0 u
  | 0, _ => rfl
  | n + 1, h => (kRelease1_10 (by omega)).trans (kRelease_10 n (by omega))
theorem kLowest_in {σ : ty_St} : ∀ k i, kLowest σ k i = -1 ∨ ∃ w, i ≤ w ∧ w < i + k ∧ kLowest σ k i = nI w ∧ σ 10 0 w = -1
  | 0, i => Or.inl rfl
  | k + 1, i => by
    unfold kLowest
    split
    · rename_i h; exact Or.inr ⟨i, by omega, by omega, rfl, h⟩
    · rcases kLowest_in (σ := σ) k (i + 1) with h | ⟨w, h1, h2, h3, h4⟩
      · exact Or.inl h
      · exact Or.inr ⟨w, by omega, by omega, h3, h4⟩
theorem kCan_mono {σ : ty_St} {t : Nat} : ∀ {n k : Nat}, n ≤ k → kCan σ t k = true → kCan σ t n = true := by
  intro n k h
  induction k with
  | zero => intro q; rw [show n = 0 by omega]; exact q
  | succ k ih =>
    intro q
    by_cases e : n = k + 1
    · rw [e]; exact q
    · simp only [kCan, Bool.and_eq_true] at q
      exact ih (by omega) q.1
theorem kDone_mono {σ : ty_St} : ∀ {n k : Nat}, n ≤ k → kDone σ k = true → kDone σ n = true := by
  intro n k h
  induction k with
  | zero => intro q; rw [show n = 0 by omega]; exact q
  | succ k ih =>
    intro q
    by_cases e : n = k + 1
    · rw [e]; exact q
    · simp only [kDone, Bool.and_eq_true] at q
      exact ih (by omega) q.1
theorem kIdle_mono {σ : ty_St} : ∀ {n k : Nat}, n ≤ k → kIdle σ k = true → kIdle σ n = true := by
  intro n k h
  induction k with
  | zero => intro q; rw [show n = 0 by omega]; exact q
  | succ k ih =>
    intro q
    by_cases e : n = k + 1
    · rw [e]; exact q
    · simp only [kIdle, Bool.and_eq_true] at q
      exact ih (by omega) q.1
theorem kRunning_01 (σ : ty_St) (t : Nat) : kRunning σ t = 0 ∨ kRunning σ t = 1 := by unfold kRunning; split <;> simp
theorem kHinders_01 (σ : ty_St) (t u : Nat) : kHinders σ t u = 0 ∨ kHinders σ t u = 1 := by unfold kHinders; split <;> simp
set_option maxRecDepth 100000 in
set_option maxHeartbeats 4000000 in
theorem c_Course_release (l : Launch) {D : va_G} {ad : Nat → Nat → Nat} {cA : Nat → ClassId} (hJ : ty_J cnC ad) (σ : ty_St) (wc : Nat) (hwc : wc ≤ 4) (hw : σ 1 0 7 = nI wc) (hto : ∀ w, w < 4 → ¬ σ 10 0 w = -1 → vp_in (σ 10 0 w) 12 ∧ vp_in (σ 3 (nn (σ 10 0 w)) 11) 52) : ty_M l y_Course_releaseWorkers (Cond.code y_Course_releaseWorkers b_Course_releaseWorkers 2 none :: ty_w) (rmL 1) cnC D ad cA [.inr (1, 0)] σ (fun r σ' => r = none ∧ σ' = kRelease σ wc) := by
  refine ty_M.of rfl hJ layC (ty_oks.cons (show (0 : Nat) < cnC 1 by decide) ty_oks.nil) (Nat.le_of_ble_eq_true rfl) ?_
  intro p e s m args below meth c C hr hnm
  have loop : ∀ k i, i + k = wc → ∀ τ : ty_St, τ = kRelease σ i → ty_V cnC p l e (rmL 1) s m args below meth c D ad cA (ty_Gd cnC ad s) 2 (MQ below (ty_Q cnC D ad cA (fun r σ' => r = none ∧ σ' = kRelease σ wc) (ty_A cnC ad)) args s 0 0 (ty_A cnC ad)) τ [some (.inr (1, 0)), some (.inl (nI i))] 2 [] := by
    intro k
    induction k with
    | zero =>
      intro i hi τ hτ
      have hb := (show τ 1 0 7 = nI wc by rw [hτ, kRelease_a (by decide) (by decide)]; exact hw)
      refine v_iload_n (pc := 2) C d_Course_releaseWorkers_2 rfl rfl ?_
      refine v_aload_n (pc := 3) C d_Course_releaseWorkers_3 rfl rfl ?_
      refine gf_Course_52 (pc := 4) C d_Course_releaseWorkers_4 ?_
      refine v_icmp_ge (pc := 7) (tgt := 42) C d_Course_releaseWorkers_7 (by decide) (fun h7 => ?_) (fun h7 => ?_)
      · exact v_return (pc := 42) C hr ⟨rfl, by rw [hτ, show i = wc by omega]⟩ d_Course_releaseWorkers_42
      · exact absurd (by rw [hb]; exact nI_le (by omega) (by omega)) h7
    | succ k ih =>
      intro i hi τ hτ
      have hb := (show τ 1 0 7 = nI wc by rw [hτ, kRelease_a (by decide) (by decide)]; exact hw)
      have hti : ¬ τ 10 0 i = -1 → vp_in (τ 10 0 i) 12 ∧ nn (τ 10 0 i) < 12 ∧ vp_in (τ 3 (nn (τ 10 0 i)) 11) 52 := fun q => by
        rw [hτ, kRelease_10 i (Nat.le_refl _)] at q
        rw [hτ, kRelease_10 i (Nat.le_refl _), kRelease_3 (by decide)]
        have h1 := hto i (by omega) q
        exact ⟨h1.1, Nat.not_le.mp fun z => h1.1 (Or.inr z), h1.2⟩
      refine v_iload_n (pc := 2) C d_Course_releaseWorkers_2 rfl rfl ?_
      refine v_aload_n (pc := 3) C d_Course_releaseWorkers_3 rfl rfl ?_
      refine gf_Course_52 (pc := 4) C d_Course_releaseWorkers_4 ?_
      refine v_icmp_ge (pc := 7) (tgt := 42) C d_Course_releaseWorkers_7 (by decide) (fun h7 => ?_) (fun h7 => ?_)
      · exact absurd h7 (by rw [hb]; exact nI_ge (by omega) (by omega))
      · refine v_aload_n (pc := 10) C d_Course_releaseWorkers_10 rfl rfl ?_
        refine gf_Course_29 (pc := 11) C d_Course_releaseWorkers_11 ?_
        refine v_iload_n (pc := 14) C d_Course_releaseWorkers_14 rfl rfl ?_
        refine v_ialoadK (pc := 15) C rfl rfl (rfl) (by omega) (by decide) d_Course_releaseWorkers_15 ?_
        refine v_iconst (pc := 16) (v := (-1)) C d_Course_releaseWorkers_16 (by decide) ?_
        refine v_icmp_eq (pc := 17) (tgt := 36) C d_Course_releaseWorkers_17 (by decide) (fun h17 => ?_) (fun h17 => ?_)
        · refine v_iinc (pc := 36) C d_Course_releaseWorkers_36 rfl (show _ + Int32.ofInt 1 = _ + 1 from rfl) (by decide) ?_
          refine v_goto (pc := 39) (tgt := 2) C d_Course_releaseWorkers_39 (by decide) ?_
          rw [nI_1 i]
          refine ih (i + 1) (by omega) _ ?_
          rw [kRelease, ← hτ]
          unfold kRelease1
          first | (rw [if_pos h17]) | (rw [if_neg (fun q => q h17)])
        · refine v_aload_n (pc := 20) C d_Course_releaseWorkers_20 rfl rfl ?_
          refine v_iload_n (pc := 21) C d_Course_releaseWorkers_21 rfl rfl ?_
          refine v_aload_n (pc := 22) C d_Course_releaseWorkers_22 rfl rfl ?_
          refine gf_Course_19 (pc := 23) C d_Course_releaseWorkers_23 ?_
          refine v_aload_n (pc := 26) C d_Course_releaseWorkers_26 rfl rfl ?_
          refine gf_Course_29 (pc := 27) C d_Course_releaseWorkers_27 ?_
          refine v_iload_n (pc := 30) C d_Course_releaseWorkers_30 rfl rfl ?_
          refine v_ialoadK (pc := 31) C rfl rfl (rfl) (by omega) (by decide) d_Course_releaseWorkers_31 ?_
          refine v_aaload (pc := 32) C rfl rfl (by decide) (hti h17).1 d_Course_releaseWorkers_32 ?_
          refine cl_Course_121 (pc := 33) C (c_Course_releaseIf l hJ τ i (by omega) (nn (τ 10 0 i)) (hti h17).2.1 (hti h17).2.2) ⟨rfl, rfl, by decide, by decide⟩ rfl rfl (Nat.le_of_ble_eq_true rfl) d_Course_releaseWorkers_33 (fun r σ' hq => ?_)
          rw [hq.1, hq.2]
          refine v_iinc (pc := 36) C d_Course_releaseWorkers_36 rfl (show _ + Int32.ofInt 1 = _ + 1 from rfl) (by decide) ?_
          refine v_goto (pc := 39) (tgt := 2) C d_Course_releaseWorkers_39 (by decide) ?_
          rw [nI_1 i]
          refine ih (i + 1) (by omega) _ ?_
          rw [kRelease, ← hτ]
          unfold kRelease1
          first | (rw [if_pos h17]) | (rw [if_neg (fun q => q h17)])
  refine v_iconst (pc := 0) (v := 0) C d_Course_releaseWorkers_0 (by decide) ?_
  refine v_istore_n (pc := 1) C d_Course_releaseWorkers_1 rfl (by decide) ?_
  exact loop wc 0 (by omega) _ rfl
set_option maxRecDepth 100000 in
set_option maxHeartbeats 4000000 in
theorem c_Course_lowest (l : Launch) {D : va_G} {ad : Nat → Nat → Nat} {cA : Nat → ClassId} (hJ : ty_J cnC ad) (σ : ty_St) (wc : Nat) (hwc : wc ≤ 4) (hw : σ 1 0 7 = nI wc) : ty_M l y_Course_lowestFreeWorker (Cond.code y_Course_lowestFreeWorker b_Course_lowestFreeWorker 2 (some .int) :: ty_w) (rmL 0) cnC D ad cA [.inr (1, 0)] σ (fun r σ' => r = some (.inl (kLowest σ wc 0)) ∧ σ' = σ) := by
  refine ty_M.of rfl hJ layC (ty_oks.cons (show (0 : Nat) < cnC 1 by decide) ty_oks.nil) (Nat.le_of_ble_eq_true rfl) ?_
  intro p e s m args below meth c C hr hnm
  have loop : ∀ k i, i + k = wc → kLowest σ k i = kLowest σ wc 0 → ty_V cnC p l e (rmL 0) s m args below meth c D ad cA (ty_Gd cnC ad s) 2 (MQ below (ty_Q cnC D ad cA (fun r σ' => r = some (.inl (kLowest σ wc 0)) ∧ σ' = σ) (ty_A cnC ad)) args s 0 0 (ty_A cnC ad)) σ [some (.inr (1, 0)), some (.inl (nI i))] 2 [] := by
    intro k
    induction k with
    | zero =>
      intro i hi hL
      have hb := hw
      refine v_iload_n (pc := 2) C d_Course_lowestFreeWorker_2 rfl rfl ?_
      refine v_aload_n (pc := 3) C d_Course_lowestFreeWorker_3 rfl rfl ?_
      refine gf_Course_52 (pc := 4) C d_Course_lowestFreeWorker_4 ?_
      refine v_icmp_ge (pc := 7) (tgt := 28) C d_Course_lowestFreeWorker_7 (by decide) (fun h7 => ?_) (fun h7 => ?_)
      · refine v_iconst (pc := 28) (v := (-1)) C d_Course_lowestFreeWorker_28 (by decide) ?_
        exact v_ireturn (pc := 29) C hr ⟨by rw [← hL]; rfl, rfl⟩ d_Course_lowestFreeWorker_29
      · exact absurd (by rw [hb]; exact nI_le (by omega) (by omega)) h7
    | succ k ih =>
      intro i hi hL
      have hb := hw
      refine v_iload_n (pc := 2) C d_Course_lowestFreeWorker_2 rfl rfl ?_
      refine v_aload_n (pc := 3) C d_Course_lowestFreeWorker_3 rfl rfl ?_
      refine gf_Course_52 (pc := 4) C d_Course_lowestFreeWorker_4 ?_
      refine v_icmp_ge (pc := 7) (tgt := 28) C d_Course_lowestFreeWorker_7 (by decide) (fun h7 => ?_) (fun h7 => ?_)
      · exact absurd h7 (by rw [hb]; exact nI_ge (by omega) (by omega))
      · refine v_aload_n (pc := 10) C d_Course_lowestFreeWorker_10 rfl rfl ?_
        refine gf_Course_29 (pc := 11) C d_Course_lowestFreeWorker_11 ?_
        refine v_iload_n (pc := 14) C d_Course_lowestFreeWorker_14 rfl rfl ?_
        refine v_ialoadK (pc := 15) C rfl rfl (rfl) (by omega) (by decide) d_Course_lowestFreeWorker_15 ?_
        refine v_iconst (pc := 16) (v := (-1)) C d_Course_lowestFreeWorker_16 (by decide) ?_
        refine v_icmp_ne (pc := 17) (tgt := 22) C d_Course_lowestFreeWorker_17 (by decide) (fun h17 => ?_) (fun h17 => ?_)
        · refine v_iinc (pc := 22) C d_Course_lowestFreeWorker_22 rfl (show _ + Int32.ofInt 1 = _ + 1 from rfl) (by decide) ?_
          refine v_goto (pc := 25) (tgt := 2) C d_Course_lowestFreeWorker_25 (by decide) ?_
          rw [nI_1 i]
          refine ih (i + 1) (by omega) ?_
          have hL2 : (if σ 10 0 i = -1 then nI i else kLowest σ k (i + 1)) = kLowest σ wc 0 := hL
          rw [← hL2, if_neg h17]
        · refine v_iload_n (pc := 20) C d_Course_lowestFreeWorker_20 rfl rfl ?_
          exact v_ireturn (pc := 21) C hr ⟨by rw [← hL]; unfold kLowest; rw [if_pos h17], rfl⟩ d_Course_lowestFreeWorker_21
  refine v_iconst (pc := 0) (v := 0) C d_Course_lowestFreeWorker_0 (by decide) ?_
  refine v_istore_n (pc := 1) C d_Course_lowestFreeWorker_1 rfl (by decide) ?_
  exact loop wc 0 (by omega) rfl
set_option maxRecDepth 100000 in
set_option maxHeartbeats 4000000 in
theorem c_Course_can (l : Launch) {D : va_G} {ad : Nat → Nat → Nat} {cA : Nat → ClassId} (hJ : ty_J cnC ad) (σ : ty_St) (tc : Nat) (htc : tc ≤ 12) (hc : σ 1 0 6 = nI tc) (u : Nat) (hu : u < 12) : ty_M l y_Course_canHaveLocks (Cond.code y_Course_canHaveLocks b_Course_canHaveLocks 3 (some .boolean) :: ty_w) (rmL 1) cnC D ad cA [.inr (1, 0), .inr (3, u)] σ (fun r σ' => r = some (.inl (if kCan σ u tc = true then 1 else 0)) ∧ σ' = σ) := by
  refine ty_M.of rfl hJ layC (ty_oks.cons (show (0 : Nat) < cnC 1 by decide) (ty_oks.cons hu ty_oks.nil)) (Nat.le_of_ble_eq_true rfl) ?_
  intro p e s m args below meth c C hr hnm
  have loop : ∀ k i, i + k = tc → kCan σ u i = true → ty_V cnC p l e (rmL 1) s m args below meth c D ad cA (ty_Gd cnC ad s) 3 (MQ below (ty_Q cnC D ad cA (fun r σ' => r = some (.inl (if kCan σ u tc = true then 1 else 0)) ∧ σ' = σ) (ty_A cnC ad)) args s 0 0 (ty_A cnC ad)) σ [some (.inr (1, 0)), some (.inr (3, u)), some (.inl (nI i))] 2 [] := by
    intro k
    induction k with
    | zero =>
      intro i hi hi0
      have hb := hc
      refine v_iload_n (pc := 2) C d_Course_canHaveLocks_2 rfl rfl ?_
      refine v_aload_n (pc := 3) C d_Course_canHaveLocks_3 rfl rfl ?_
      refine gf_Course_48 (pc := 4) C d_Course_canHaveLocks_4 ?_
      refine v_icmp_ge (pc := 7) (tgt := 43) C d_Course_canHaveLocks_7 (by decide) (fun h7 => ?_) (fun h7 => ?_)
      · refine v_iconst (pc := 43) (v := 1) C d_Course_canHaveLocks_43 (by decide) ?_
        exact v_zreturn (pc := 44) C hr rfl ⟨by rw [show tc = i by omega, if_pos hi0], rfl⟩ d_Course_canHaveLocks_44
      · exact absurd (by rw [hb]; exact nI_le (by omega) (by omega)) h7
    | succ k ih =>
      intro i hi hi0
      have hb := hc
      refine v_iload_n (pc := 2) C d_Course_canHaveLocks_2 rfl rfl ?_
      refine v_aload_n (pc := 3) C d_Course_canHaveLocks_3 rfl rfl ?_
      refine gf_Course_48 (pc := 4) C d_Course_canHaveLocks_4 ?_
      refine v_icmp_ge (pc := 7) (tgt := 43) C d_Course_canHaveLocks_7 (by decide) (fun h7 => ?_) (fun h7 => ?_)
      · exact absurd h7 (by rw [hb]; exact nI_ge (by omega) (by omega))
      · refine v_aload_n (pc := 10) C d_Course_canHaveLocks_10 rfl rfl ?_
        refine gf_Course_19 (pc := 11) C d_Course_canHaveLocks_11 ?_
        refine v_iload_n (pc := 14) C d_Course_canHaveLocks_14 rfl rfl ?_
        refine v_aaloadK (pc := 15) C rfl rfl (by decide) (rfl) (by omega) (by decide) d_Course_canHaveLocks_15 ?_
        refine cl_Course_147 (pc := 16) C (c_Trial_isRunning l hJ σ i (by omega)) ⟨rfl, rfl, by decide, by decide⟩ rfl rfl (Nat.le_of_ble_eq_true rfl) d_Course_canHaveLocks_16 (fun r σ' hq => ?_)
        rw [hq.1, hq.2]
        refine v_if_eq (pc := 19) (tgt := 37) C d_Course_canHaveLocks_19 (by decide) (fun h19 => ?_) (fun h19 => ?_)
        · refine v_iinc (pc := 37) C d_Course_canHaveLocks_37 rfl (show _ + Int32.ofInt 1 = _ + 1 from rfl) (by decide) ?_
          refine v_goto (pc := 40) (tgt := 2) C d_Course_canHaveLocks_40 (by decide) ?_
          rw [nI_1 i]
          refine ih (i + 1) (by omega) ?_
          first | (simp [kCan, hi0, h19]; done) | (simp [kCan, hi0, h32]; done)
        · refine v_aload_n (pc := 22) C d_Course_canHaveLocks_22 rfl rfl ?_
          refine gf_Course_19 (pc := 23) C d_Course_canHaveLocks_23 ?_
          refine v_iload_n (pc := 26) C d_Course_canHaveLocks_26 rfl rfl ?_
          refine v_aaloadK (pc := 27) C rfl rfl (by decide) (rfl) (by omega) (by decide) d_Course_canHaveLocks_27 ?_
          refine v_aload_n (pc := 28) C d_Course_canHaveLocks_28 rfl rfl ?_
          refine cl_Course_150 (pc := 29) C (c_Trial_hinders l hJ σ i (by omega) u hu) ⟨rfl, rfl, by decide, by decide⟩ rfl rfl (Nat.le_of_ble_eq_true rfl) d_Course_canHaveLocks_29 (fun r σ' hq => ?_)
          rw [hq.1, hq.2]
          refine v_if_eq (pc := 32) (tgt := 37) C d_Course_canHaveLocks_32 (by decide) (fun h32 => ?_) (fun h32 => ?_)
          · refine v_iinc (pc := 37) C d_Course_canHaveLocks_37 rfl (show _ + Int32.ofInt 1 = _ + 1 from rfl) (by decide) ?_
            refine v_goto (pc := 40) (tgt := 2) C d_Course_canHaveLocks_40 (by decide) ?_
            rw [nI_1 i]
            refine ih (i + 1) (by omega) ?_
            first | (simp [kCan, hi0, h19]; done) | (simp [kCan, hi0, h32]; done)
          · refine v_iconst (pc := 35) (v := 0) C d_Course_canHaveLocks_35 (by decide) ?_
            exact v_zreturn (pc := 36) C hr rfl ⟨by
              have : ¬ kCan σ u tc = true := fun q => by
                have := kCan_mono (show i + 1 ≤ tc by omega) q
                have r1 := (kRunning_01 σ i).resolve_left h19
                have r2 := (kHinders_01 σ i u).resolve_left h32
                simp [kCan, r1, r2] at this
              rw [if_neg this], rfl⟩ d_Course_canHaveLocks_36
  refine v_iconst (pc := 0) (v := 0) C d_Course_canHaveLocks_0 (by decide) ?_
  refine v_istore_n (pc := 1) C d_Course_canHaveLocks_1 rfl (by decide) ?_
  exact loop tc 0 (by omega) rfl
set_option maxRecDepth 100000 in
set_option maxHeartbeats 4000000 in
theorem c_Course_finished (l : Launch) {D : va_G} {ad : Nat → Nat → Nat} {cA : Nat → ClassId} (hJ : ty_J cnC ad) (σ : ty_St) (tc : Nat) (htc : tc ≤ 12) (hc : σ 1 0 6 = nI tc) (wc : Nat) (hwc : wc ≤ 4) (hw : σ 1 0 7 = nI wc) : ty_M l y_Course_isFinished (Cond.code y_Course_isFinished b_Course_isFinished 2 (some .boolean) :: ty_w) (rmL 0) cnC D ad cA [.inr (1, 0)] σ (fun r σ' => r = some (.inl (if kDone σ tc = true ∧ kIdle σ wc = true then 1 else 0)) ∧ σ' = σ) := by
  refine ty_M.of rfl hJ layC (ty_oks.cons (show (0 : Nat) < cnC 1 by decide) ty_oks.nil) (Nat.le_of_ble_eq_true rfl) ?_
  intro p e s m args below meth c C hr hnm
  have loop2 : ∀ k i, i + k = wc → kDone σ tc = true → kIdle σ i = true → ty_V cnC p l e (rmL 0) s m args below meth c D ad cA (ty_Gd cnC ad s) 2 (MQ below (ty_Q cnC D ad cA (fun r σ' => r = some (.inl (if kDone σ tc = true ∧ kIdle σ wc = true then 1 else 0)) ∧ σ' = σ) (ty_A cnC ad)) args s 0 0 (ty_A cnC ad)) σ [some (.inr (1, 0)), some (.inl (nI i))] 32 [] := by
    intro k
    induction k with
    | zero =>
      intro i hi hD hi0
      have hb := hw
      refine v_iload_n (pc := 32) C d_Course_isFinished_32 rfl rfl ?_
      refine v_aload_n (pc := 33) C d_Course_isFinished_33 rfl rfl ?_
      refine gf_Course_52 (pc := 34) C d_Course_isFinished_34 ?_
      refine v_icmp_ge (pc := 37) (tgt := 58) C d_Course_isFinished_37 (by decide) (fun h37 => ?_) (fun h37 => ?_)
      · refine v_iconst (pc := 58) (v := 1) C d_Course_isFinished_58 (by decide) ?_
        exact v_zreturn (pc := 59) C hr rfl ⟨by rw [if_pos ⟨hD, by rw [show wc = i by omega]; exact hi0⟩], rfl⟩ d_Course_isFinished_59
      · exact absurd (by rw [hb]; exact nI_le (by omega) (by omega)) h37
    | succ k ih =>
      intro i hi hD hi0
      have hb := hw
      refine v_iload_n (pc := 32) C d_Course_isFinished_32 rfl rfl ?_
      refine v_aload_n (pc := 33) C d_Course_isFinished_33 rfl rfl ?_
      refine gf_Course_52 (pc := 34) C d_Course_isFinished_34 ?_
      refine v_icmp_ge (pc := 37) (tgt := 58) C d_Course_isFinished_37 (by decide) (fun h37 => ?_) (fun h37 => ?_)
      · exact absurd h37 (by rw [hb]; exact nI_ge (by omega) (by omega))
      · refine v_aload_n (pc := 40) C d_Course_isFinished_40 rfl rfl ?_
        refine gf_Course_29 (pc := 41) C d_Course_isFinished_41 ?_
        refine v_iload_n (pc := 44) C d_Course_isFinished_44 rfl rfl ?_
        refine v_ialoadK (pc := 45) C rfl rfl (rfl) (by omega) (by decide) d_Course_isFinished_45 ?_
        refine v_iconst (pc := 46) (v := (-1)) C d_Course_isFinished_46 (by decide) ?_
        refine v_icmp_eq (pc := 47) (tgt := 52) C d_Course_isFinished_47 (by decide) (fun h47 => ?_) (fun h47 => ?_)
        · refine v_iinc (pc := 52) C d_Course_isFinished_52 rfl (show _ + Int32.ofInt 1 = _ + 1 from rfl) (by decide) ?_
          refine v_goto (pc := 55) (tgt := 32) C d_Course_isFinished_55 (by decide) ?_
          rw [nI_1 i]
          exact ih (i + 1) (by omega) hD (by simp [kIdle, hi0, h47])
        · refine v_iconst (pc := 50) (v := 0) C d_Course_isFinished_50 (by decide) ?_
          exact v_zreturn (pc := 51) C hr rfl ⟨by
            have : ¬ kIdle σ wc = true := fun q => h47 (by have := kIdle_mono (show i + 1 ≤ wc by omega) q; simp [kIdle] at this; exact this.2)
            rw [if_neg (fun q => this q.2)], rfl⟩ d_Course_isFinished_51
  have loop1 : ∀ k i, i + k = tc → kDone σ i = true → ty_V cnC p l e (rmL 0) s m args below meth c D ad cA (ty_Gd cnC ad s) 2 (MQ below (ty_Q cnC D ad cA (fun r σ' => r = some (.inl (if kDone σ tc = true ∧ kIdle σ wc = true then 1 else 0)) ∧ σ' = σ) (ty_A cnC ad)) args s 0 0 (ty_A cnC ad)) σ [some (.inr (1, 0)), some (.inl (nI i))] 2 [] := by
    intro k
    induction k with
    | zero =>
      intro i hi hi0
      have hb := hc
      refine v_iload_n (pc := 2) C d_Course_isFinished_2 rfl rfl ?_
      refine v_aload_n (pc := 3) C d_Course_isFinished_3 rfl rfl ?_
      refine gf_Course_48 (pc := 4) C d_Course_isFinished_4 ?_
      refine v_icmp_ge (pc := 7) (tgt := 30) C d_Course_isFinished_7 (by decide) (fun h7 => ?_) (fun h7 => ?_)
      · refine v_iconst (pc := 30) (v := 0) C d_Course_isFinished_30 (by decide) ?_
        refine v_istore_n (pc := 31) C d_Course_isFinished_31 rfl (by decide) ?_
        exact loop2 wc 0 (by omega) (by rw [show tc = i by omega]; exact hi0) rfl
      · exact absurd (by rw [hb]; exact nI_le (by omega) (by omega)) h7
    | succ k ih =>
      intro i hi hi0
      have hb := hc
      refine v_iload_n (pc := 2) C d_Course_isFinished_2 rfl rfl ?_
      refine v_aload_n (pc := 3) C d_Course_isFinished_3 rfl rfl ?_
      refine gf_Course_48 (pc := 4) C d_Course_isFinished_4 ?_
      refine v_icmp_ge (pc := 7) (tgt := 30) C d_Course_isFinished_7 (by decide) (fun h7 => ?_) (fun h7 => ?_)
      · exact absurd h7 (by rw [hb]; exact nI_ge (by omega) (by omega))
      · refine v_aload_n (pc := 10) C d_Course_isFinished_10 rfl rfl ?_
        refine gf_Course_19 (pc := 11) C d_Course_isFinished_11 ?_
        refine v_iload_n (pc := 14) C d_Course_isFinished_14 rfl rfl ?_
        refine v_aaloadK (pc := 15) C rfl rfl (by decide) (rfl) (by omega) (by decide) d_Course_isFinished_15 ?_
        refine gf_Course_93 (pc := 16) C d_Course_isFinished_16 ?_
        refine v_if_ne (pc := 19) (tgt := 24) C d_Course_isFinished_19 (by decide) (fun h19 => ?_) (fun h19 => ?_)
        · refine v_iinc (pc := 24) C d_Course_isFinished_24 rfl (show _ + Int32.ofInt 1 = _ + 1 from rfl) (by decide) ?_
          refine v_goto (pc := 27) (tgt := 2) C d_Course_isFinished_27 (by decide) ?_
          rw [nI_1 i]
          exact ih (i + 1) (by omega) (by simp [kDone, hi0, h19])
        · refine v_iconst (pc := 22) (v := 0) C d_Course_isFinished_22 (by decide) ?_
          exact v_zreturn (pc := 23) C hr rfl ⟨by
            have : ¬ kDone σ tc = true := fun q => by have := kDone_mono (show i + 1 ≤ tc by omega) q; simp [kDone, h19] at this
            rw [if_neg (fun q => this q.1)], rfl⟩ d_Course_isFinished_23
  refine v_iconst (pc := 0) (v := 0) C d_Course_isFinished_0 (by decide) ?_
  refine v_istore_n (pc := 1) C d_Course_isFinished_1 rfl (by decide) ?_
  exact loop1 tc 0 (by omega) rfl
