theorem kForgets_a {σ : ty_St} {a : Nat} (h : ¬ a = 3) : ∀ n, (kForgets σ n) a = σ a
  | 0 => rfl
  | n + 1 => by
    show (kForgetT (kForgets σ n) n) a = σ a
    unfold kForgetT
    simp only [up_a h]
    exact kForgets_a h n
theorem kFreeW_a {σ : ty_St} {a : Nat} (h : ¬ a = 10) : ∀ n, (kFreeW σ n) a = σ a
  | 0 => rfl
  | n + 1 => by
    show (ty_up (kFreeW σ n) 10 0 n (-1)) a = σ a
    rw [up_a h]
    exact kFreeW_a h n
theorem kStop1_a {σ : ty_St} {a t : Nat} (h : ¬ a = 3) (h4 : ¬ a = 4) : (kStop1 σ t) a = σ a := by
  unfold kStop1 kDecide
  split
  · rw [up_a h4, up_a h, up_a h]
  · rfl
theorem kStop_a {σ : ty_St} {a : Nat} (h : ¬ a = 3) (h4 : ¬ a = 4) : ∀ n, (kStop σ n) a = σ a
  | 0 => rfl
  | n + 1 => (kStop1_a h h4).trans (kStop_a h h4 n)
theorem kStop1_3 {σ : ty_St} {t u j : Nat} (h4 : ¬ j = 4) (h7 : ¬ j = 7) : (kStop1 σ t) 3 u j = σ 3 u j := by
  unfold kStop1 kDecide
  split
  · rw [up_a (by decide)]
    by_cases e : u = t
    · subst e
      rw [up_sj h7, up_sj h4]
    · rw [up_i e, up_i e]
  · rfl
theorem kStop_3 {σ : ty_St} {u j : Nat} (h4 : ¬ j = 4) (h7 : ¬ j = 7) : ∀ n, (kStop σ n) 3 u j = σ 3 u j
  | 0 => rfl
  | n + 1 => (kStop1_3 h4 h7).trans (kStop_3 h4 h7 n)
set_option maxRecDepth 100000 in
set_option maxHeartbeats 4000000 in
theorem c_Course_forgetRun (l : Launch) {D : va_G} {ad : Nat → Nat → Nat} {cA : Nat → ClassId} (hJ : ty_J cnC ad) (σ : ty_St) (tc : Nat) (htc : tc ≤ 12) (hc : σ 1 0 6 = nI tc) : ty_M l y_Course_forgetRun (Cond.code y_Course_forgetRun b_Course_forgetRun 2 none :: ty_w) (rmL 1) cnC D ad cA [.inr (1, 0)] σ (fun r σ' => r = none ∧ σ' = kForgetRun σ) := by
  refine ty_M.of rfl hJ layC (ty_oks.cons (show (0 : Nat) < cnC 1 by decide) ty_oks.nil) (Nat.le_of_ble_eq_true rfl) ?_
  intro p e s m args below meth c C hr hnm
  have hn : nn (σ 1 0 6) = tc := by rw [hc]; exact nI_clamp (by omega)
  have loop2 : ∀ k i, i + k = 4 → ∀ τ : ty_St, τ = kFreeW (kForgets σ tc) i → ty_V cnC p l e (rmL 1) s m args below meth c D ad cA (ty_Gd cnC ad s) 2 (MQ below (ty_Q cnC D ad cA (fun r σ' => r = none ∧ σ' = kForgetRun σ) (ty_A cnC ad)) args s 0 0 (ty_A cnC ad)) τ [some (.inr (1, 0)), some (.inl (nI i))] 27 [] := by
    intro k
    induction k with
    | zero =>
      intro i hi τ hτ
      have hb := (show (4 : Int32) = nI 4 from rfl)
      refine v_iload_n (pc := 27) C d_Course_forgetRun_27 rfl rfl ?_
      refine v_iconst (pc := 28) (v := 4) C d_Course_forgetRun_28 (by decide) ?_
      refine v_icmp_ge (pc := 29) (tgt := 45) C d_Course_forgetRun_29 (by decide) (fun h29 => ?_) (fun h29 => ?_)
      · refine v_aload_n (pc := 45) C d_Course_forgetRun_45 rfl rfl ?_
        refine gf_Course_38 (pc := 46) C d_Course_forgetRun_46 ?_
        refine v_iconst (pc := 49) (v := 0) C d_Course_forgetRun_49 (by decide) ?_
        refine pf_Course_97 (pc := 50) C d_Course_forgetRun_50 ?_
        refine v_aload_n (pc := 53) C d_Course_forgetRun_53 rfl rfl ?_
        refine gf_Course_42 (pc := 54) C d_Course_forgetRun_54 ?_
        refine v_iconst (pc := 57) (v := 0) C d_Course_forgetRun_57 (by decide) ?_
        refine pf_Course_97 (pc := 58) C d_Course_forgetRun_58 ?_
        refine v_aload_n (pc := 61) C d_Course_forgetRun_61 rfl rfl ?_
        refine v_iconst (pc := 62) (v := 0) C d_Course_forgetRun_62 (by decide) ?_
        refine pf_Course_100 (pc := 63) C d_Course_forgetRun_63 ?_
        refine v_aload_n (pc := 66) C d_Course_forgetRun_66 rfl rfl ?_
        refine v_iconst (pc := 67) (v := 0) C d_Course_forgetRun_67 (by decide) ?_
        refine pf_Course_103 (pc := 68) C d_Course_forgetRun_68 ?_
        refine v_aload_n (pc := 71) C d_Course_forgetRun_71 rfl rfl ?_
        refine v_iconst (pc := 72) (v := 0) C d_Course_forgetRun_72 (by decide) ?_
        refine pf_Course_67 (pc := 73) C d_Course_forgetRun_73 ?_
        refine v_aload_n (pc := 76) C d_Course_forgetRun_76 rfl rfl ?_
        refine v_iconst (pc := 77) (v := 0) C d_Course_forgetRun_77 (by decide) ?_
        refine pf_Course_87 (pc := 78) C d_Course_forgetRun_78 ?_
        exact v_return (pc := 81) C hr ⟨rfl, by unfold kForgetRun; rw [hn, hτ, show i = 4 by omega]⟩ d_Course_forgetRun_81
      · exact absurd (by rw [hb]; exact nI_le (by omega) (by omega)) h29
    | succ k ih =>
      intro i hi τ hτ
      have hb := (show (4 : Int32) = nI 4 from rfl)
      refine v_iload_n (pc := 27) C d_Course_forgetRun_27 rfl rfl ?_
      refine v_iconst (pc := 28) (v := 4) C d_Course_forgetRun_28 (by decide) ?_
      refine v_icmp_ge (pc := 29) (tgt := 45) C d_Course_forgetRun_29 (by decide) (fun h29 => ?_) (fun h29 => ?_)
      · exact absurd h29 (by rw [hb]; exact nI_ge (by omega) (by omega))
      · refine v_aload_n (pc := 32) C d_Course_forgetRun_32 rfl rfl ?_
        refine gf_Course_29 (pc := 33) C d_Course_forgetRun_33 ?_
        refine v_iload_n (pc := 36) C d_Course_forgetRun_36 rfl rfl ?_
        refine v_iconst (pc := 37) (v := (-1)) C d_Course_forgetRun_37 (by decide) ?_
        refine v_iastoreK (pc := 38) C rfl rfl (rfl) (by omega) (by decide) d_Course_forgetRun_38 ?_
        refine v_iinc (pc := 39) C d_Course_forgetRun_39 rfl (show _ + Int32.ofInt 1 = _ + 1 from rfl) (by decide) ?_
        refine v_goto (pc := 42) (tgt := 27) C d_Course_forgetRun_42 (by decide) ?_
        rw [nI_1 i]
        exact ih (i + 1) (by omega) _ (by rw [hτ]; rfl)
  have loop1 : ∀ k i, i + k = tc → ∀ τ : ty_St, τ = kForgets σ i → ty_V cnC p l e (rmL 1) s m args below meth c D ad cA (ty_Gd cnC ad s) 2 (MQ below (ty_Q cnC D ad cA (fun r σ' => r = none ∧ σ' = kForgetRun σ) (ty_A cnC ad)) args s 0 0 (ty_A cnC ad)) τ [some (.inr (1, 0)), some (.inl (nI i))] 2 [] := by
    intro k
    induction k with
    | zero =>
      intro i hi τ hτ
      have hb := (show τ 1 0 6 = nI tc by rw [hτ, kForgets_a (by decide)]; exact hc)
      refine v_iload_n (pc := 2) C d_Course_forgetRun_2 rfl rfl ?_
      refine v_aload_n (pc := 3) C d_Course_forgetRun_3 rfl rfl ?_
      refine gf_Course_48 (pc := 4) C d_Course_forgetRun_4 ?_
      refine v_icmp_ge (pc := 7) (tgt := 25) C d_Course_forgetRun_7 (by decide) (fun h7 => ?_) (fun h7 => ?_)
      · refine v_iconst (pc := 25) (v := 0) C d_Course_forgetRun_25 (by decide) ?_
        refine v_istore_n (pc := 26) C d_Course_forgetRun_26 rfl (by decide) ?_
        exact loop2 4 0 (by omega) _ (by rw [hτ, show i = tc by omega]; rfl)
      · exact absurd (by rw [hb]; exact nI_le (by omega) (by omega)) h7
    | succ k ih =>
      intro i hi τ hτ
      have hb := (show τ 1 0 6 = nI tc by rw [hτ, kForgets_a (by decide)]; exact hc)
      refine v_iload_n (pc := 2) C d_Course_forgetRun_2 rfl rfl ?_
      refine v_aload_n (pc := 3) C d_Course_forgetRun_3 rfl rfl ?_
      refine gf_Course_48 (pc := 4) C d_Course_forgetRun_4 ?_
      refine v_icmp_ge (pc := 7) (tgt := 25) C d_Course_forgetRun_7 (by decide) (fun h7 => ?_) (fun h7 => ?_)
      · exact absurd h7 (by rw [hb]; exact nI_ge (by omega) (by omega))
      · refine v_aload_n (pc := 10) C d_Course_forgetRun_10 rfl rfl ?_
        refine gf_Course_19 (pc := 11) C d_Course_forgetRun_11 ?_
        refine v_iload_n (pc := 14) C d_Course_forgetRun_14 rfl rfl ?_
        refine v_aaloadK (pc := 15) C rfl rfl (by decide) (rfl) (by omega) (by decide) d_Course_forgetRun_15 ?_
        refine cl_Course_96 (pc := 16) C (c_Trial_forgetRun l hJ τ i (by omega)) ⟨rfl, rfl, by decide, by decide⟩ rfl rfl (Nat.le_of_ble_eq_true rfl) d_Course_forgetRun_16 (fun r σ' hq => ?_)
        rw [hq.1, hq.2]
        refine v_iinc (pc := 19) C d_Course_forgetRun_19 rfl (show _ + Int32.ofInt 1 = _ + 1 from rfl) (by decide) ?_
        refine v_goto (pc := 22) (tgt := 2) C d_Course_forgetRun_22 (by decide) ?_
        rw [nI_1 i]
        exact ih (i + 1) (by omega) _ (by rw [hτ]; rfl)
  refine v_iconst (pc := 0) (v := 0) C d_Course_forgetRun_0 (by decide) ?_
  refine v_istore_n (pc := 1) C d_Course_forgetRun_1 rfl (by decide) ?_
  exact loop1 tc 0 (by omega) _ rfl
theorem kOv_1 {σ : ty_St} {t : Nat} {x : Int32} (h : ¬ kOverruns σ t x = 0) : kOverruns σ t x = 1 := by
  unfold kOverruns at h ⊢
  split
  · rfl
  · rename_i q; rw [if_neg q] at h; exact absurd rfl h
theorem kOv_run {σ : ty_St} {t : Nat} {x : Int32} (h : ¬ kOverruns σ t x = 0) : ¬ σ 3 t 6 = -1 := by
  unfold kOverruns at h
  split at h
  · rename_i q; exact q.1.1
  · exact absurd rfl h
set_option maxRecDepth 100000 in
set_option maxHeartbeats 4000000 in
theorem c_Course_stop (l : Launch) {D : va_G} {ad : Nat → Nat → Nat} {cA : Nat → ClassId} (hJ : ty_J cnC ad) (σ : ty_St) (tc : Nat) (htc : tc ≤ 12) (hc : σ 1 0 6 = nI tc) (hfs : ∀ t, t < 12 → ¬ σ 3 t 6 = -1 → vp_in (σ 3 t 11) 52) : ty_M l y_Course_stopOverruns (Cond.code y_Course_stopOverruns b_Course_stopOverruns 3 none :: ty_w) (rmL 2) cnC D ad cA [.inr (1, 0)] σ (fun r σ' => r = none ∧ σ' = kStop σ tc) := by
  refine ty_M.of rfl hJ layC (ty_oks.cons (show (0 : Nat) < cnC 1 by decide) ty_oks.nil) (Nat.le_of_ble_eq_true rfl) ?_
  intro p e s m args below meth c C hr hnm
  have loop : ∀ k i, i + k = tc → ∀ τ : ty_St, τ = kStop σ i → ty_V cnC p l e (rmL 2) s m args below meth c D ad cA (ty_Gd cnC ad s) 3 (MQ below (ty_Q cnC D ad cA (fun r σ' => r = none ∧ σ' = kStop σ tc) (ty_A cnC ad)) args s 0 0 (ty_A cnC ad)) τ [some (.inr (1, 0)), some (.inl (nI i)), none] 2 [] := by
    intro k
    induction k with
    | zero =>
      intro i hi τ hτ
      have hb := (show τ 1 0 6 = nI tc by rw [hτ, kStop_a (by decide) (by decide)]; exact hc)
      refine v_iload_n (pc := 2) C d_Course_stopOverruns_2 rfl rfl ?_
      refine v_aload_n (pc := 3) C d_Course_stopOverruns_3 rfl rfl ?_
      refine gf_Course_48 (pc := 4) C d_Course_stopOverruns_4 ?_
      refine v_icmp_ge (pc := 7) (tgt := 56) C d_Course_stopOverruns_7 (by decide) (fun h7 => ?_) (fun h7 => ?_)
      · exact v_return (pc := 56) C hr ⟨rfl, by rw [hτ, show i = tc by omega]⟩ d_Course_stopOverruns_56
      · exact absurd (by rw [hb]; exact nI_le (by omega) (by omega)) h7
    | succ k ih =>
      intro i hi τ hτ
      have hb := (show τ 1 0 6 = nI tc by rw [hτ, kStop_a (by decide) (by decide)]; exact hc)
      have hfi : ¬ τ 3 i 6 = -1 → vp_in ((kDecide τ i 3 (τ 1 0 11)) 3 i 11) 52 := fun q => by
        have e1 : (kDecide τ i 3 (τ 1 0 11)) 3 i 11 = τ 3 i 11 := by simp [kDecide, up_sj]
        rw [e1, hτ, kStop_3 (by decide) (by decide)]
        rw [hτ, kStop_3 (by decide) (by decide)] at q
        exact hfs i (by omega) q
      refine v_iload_n (pc := 2) C d_Course_stopOverruns_2 rfl rfl ?_
      refine v_aload_n (pc := 3) C d_Course_stopOverruns_3 rfl rfl ?_
      refine gf_Course_48 (pc := 4) C d_Course_stopOverruns_4 ?_
      refine v_icmp_ge (pc := 7) (tgt := 56) C d_Course_stopOverruns_7 (by decide) (fun h7 => ?_) (fun h7 => ?_)
      · exact absurd h7 (by rw [hb]; exact nI_ge (by omega) (by omega))
      · refine v_aload_n (pc := 10) C d_Course_stopOverruns_10 rfl rfl ?_
        refine gf_Course_19 (pc := 11) C d_Course_stopOverruns_11 ?_
        refine v_iload_n (pc := 14) C d_Course_stopOverruns_14 rfl rfl ?_
        refine v_aaloadK (pc := 15) C rfl rfl (by decide) (rfl) (by omega) (by decide) d_Course_stopOverruns_15 ?_
        refine v_astore_n (pc := 16) C d_Course_stopOverruns_16 rfl (by decide) ?_
        refine v_aload_n (pc := 17) C d_Course_stopOverruns_17 rfl rfl ?_
        refine v_aload_n (pc := 18) C d_Course_stopOverruns_18 rfl rfl ?_
        refine gf_Course_87 (pc := 19) C d_Course_stopOverruns_19 ?_
        refine cl_Course_106 (pc := 22) C (c_Trial_overrunsAt l hJ τ i (by omega) _) ⟨rfl, rfl, by decide, by decide⟩ rfl rfl (Nat.le_of_ble_eq_true rfl) d_Course_stopOverruns_22 (fun r σ' hq => ?_)
        rw [hq.1, hq.2]
        refine v_if_eq (pc := 25) (tgt := 50) C d_Course_stopOverruns_25 (by decide) (fun h25 => ?_) (fun h25 => ?_)
        · refine v_iinc (pc := 50) C d_Course_stopOverruns_50 rfl (show _ + Int32.ofInt 1 = _ + 1 from rfl) (by decide) ?_
          refine v_goto (pc := 53) (tgt := 2) C d_Course_stopOverruns_53 (by decide) ?_
          refine v_forget C 2 ?_
          rw [nI_1 i]
          refine ih (i + 1) (by omega) _ ?_
          rw [kStop, ← hτ]
          unfold kStop1
          first | (rw [if_neg (by rw [h25]; decide)]) | (rw [if_pos (kOv_1 h25)]; simp [kDecide, up_sj, nn])
        · refine v_aload_n (pc := 28) C d_Course_stopOverruns_28 rfl rfl ?_
          refine v_iconst (pc := 29) (v := 3) C d_Course_stopOverruns_29 (by decide) ?_
          refine v_aload_n (pc := 30) C d_Course_stopOverruns_30 rfl rfl ?_
          refine gf_Course_87 (pc := 31) C d_Course_stopOverruns_31 ?_
          refine cl_Course_110 (pc := 34) C (c_Trial_decide l hJ τ i (by omega) _ _) ⟨rfl, rfl, by decide, by decide⟩ rfl rfl (Nat.le_of_ble_eq_true rfl) d_Course_stopOverruns_34 (fun r σ' hq => ?_)
          rw [hq.1, hq.2]
          refine v_aload_n (pc := 37) C d_Course_stopOverruns_37 rfl rfl ?_
          refine gf_Course_25 (pc := 38) C d_Course_stopOverruns_38 ?_
          refine v_aload_n (pc := 41) C d_Course_stopOverruns_41 rfl rfl ?_
          refine gf_Course_114 (pc := 42) C d_Course_stopOverruns_42 ?_
          refine v_aaload (pc := 45) C rfl rfl (by decide) (hfi (fun q => by have := kOv_run h25; exact this q)) d_Course_stopOverruns_45 ?_
          refine v_iconst (pc := 46) (v := 1) C d_Course_stopOverruns_46 (by decide) ?_
          refine pf_Course_117 (pc := 47) C rfl rfl d_Course_stopOverruns_47 ?_
          refine v_iinc (pc := 50) C d_Course_stopOverruns_50 rfl (show _ + Int32.ofInt 1 = _ + 1 from rfl) (by decide) ?_
          refine v_goto (pc := 53) (tgt := 2) C d_Course_stopOverruns_53 (by decide) ?_
          refine v_forget C 2 ?_
          rw [nI_1 i]
          refine ih (i + 1) (by omega) _ ?_
          rw [kStop, ← hτ]
          unfold kStop1
          first | (rw [if_neg (by rw [h25]; decide)]) | (rw [if_pos (kOv_1 h25)]; simp [kDecide, up_sj, nn])
  refine v_iconst (pc := 0) (v := 0) C d_Course_stopOverruns_0 (by decide) ?_
  refine v_istore_n (pc := 1) C d_Course_stopOverruns_1 rfl (by decide) ?_
  exact loop tc 0 (by omega) _ rfl
set_option maxRecDepth 100000 in
set_option maxHeartbeats 4000000 in
theorem c_Course_releaseIf (l : Launch) {D : va_G} {ad : Nat → Nat → Nat} {cA : Nat → ClassId} (hJ : ty_J cnC ad) (σ : ty_St) (w : Nat) (hw : w < 4) (t : Nat) (ht : t < 12) (hf : vp_in (σ 3 t 11) 52) : ty_M l y_Course_releaseIfDone (Cond.code y_Course_releaseIfDone b_Course_releaseIfDone 3 none :: ty_w) (rmL 0) cnC D ad cA [.inr (1, 0), .inl (nI w), .inr (3, t)] σ (fun r σ' => r = none ∧ σ' = kReleaseIf σ w t) := by
  refine ty_M.of rfl hJ layC (ty_oks.cons (show (0 : Nat) < cnC 1 by decide) (ty_oks.cons trivial (ty_oks.cons ht ty_oks.nil))) (Nat.le_of_ble_eq_true rfl) ?_
  intro p e s m args below meth c C hr hnm
  refine v_aload_n (pc := 0) C d_Course_releaseIfDone_0 rfl rfl ?_
  refine gf_Course_25 (pc := 1) C d_Course_releaseIfDone_1 ?_
  refine v_aload_n (pc := 4) C d_Course_releaseIfDone_4 rfl rfl ?_
  refine gf_Course_114 (pc := 5) C d_Course_releaseIfDone_5 ?_
  refine v_aaload (pc := 8) C rfl rfl (by decide) hf d_Course_releaseIfDone_8 ?_
  refine gf_Course_125 (pc := 9) C d_Course_releaseIfDone_9 ?_
  refine v_if_eq (pc := 12) (tgt := 25) C d_Course_releaseIfDone_12 (by decide) (fun h12 => ?_) (fun h12 => ?_)
  · refine v_aload_n (pc := 25) C d_Course_releaseIfDone_25 rfl rfl ?_
    refine gf_Course_93 (pc := 26) C d_Course_releaseIfDone_26 ?_
    refine v_iconst (pc := 29) (v := 3) C d_Course_releaseIfDone_29 (by decide) ?_
    refine v_icmp_ne (pc := 30) (tgt := 58) C d_Course_releaseIfDone_30 (by decide) (fun h30 => ?_) (fun h30 => ?_)
    · exact v_return (pc := 58) C hr ⟨rfl, by unfold kReleaseIf; first | rw [if_pos h12] | (rw [if_neg (fun q => q h12), if_neg (fun q => h30 q.1)]) | (rw [if_neg (fun q => q h12), if_neg (fun q => absurd q.2 (Int32.not_le.mpr h43))]) | (rw [if_neg (fun q => q h12), if_pos ⟨h30, Int32.not_lt.mp h43⟩])⟩ d_Course_releaseIfDone_58
    · refine v_aload_n (pc := 33) C d_Course_releaseIfDone_33 rfl rfl ?_
      refine gf_Course_87 (pc := 34) C d_Course_releaseIfDone_34 ?_
      refine v_aload_n (pc := 37) C d_Course_releaseIfDone_37 rfl rfl ?_
      refine gf_Course_128 (pc := 38) C d_Course_releaseIfDone_38 ?_
      refine v_isub (pc := 41) C d_Course_releaseIfDone_41 ?_
      refine v_iconst (pc := 42) (v := 3) C d_Course_releaseIfDone_42 (by decide) ?_
      refine v_icmp_lt (pc := 43) (tgt := 58) C d_Course_releaseIfDone_43 (by decide) (fun h43 => ?_) (fun h43 => ?_)
      · exact v_return (pc := 58) C hr ⟨rfl, by unfold kReleaseIf; first | rw [if_pos h12] | (rw [if_neg (fun q => q h12), if_neg (fun q => h30 q.1)]) | (rw [if_neg (fun q => q h12), if_neg (fun q => absurd q.2 (Int32.not_le.mpr h43))]) | (rw [if_neg (fun q => q h12), if_pos ⟨h30, Int32.not_lt.mp h43⟩])⟩ d_Course_releaseIfDone_58
      · refine v_aload_n (pc := 46) C d_Course_releaseIfDone_46 rfl rfl ?_
        refine v_iconst (pc := 47) (v := 1) C d_Course_releaseIfDone_47 (by decide) ?_
        refine pf_Course_131 (pc := 48) C rfl rfl d_Course_releaseIfDone_48 ?_
        refine v_aload_n (pc := 51) C d_Course_releaseIfDone_51 rfl rfl ?_
        refine gf_Course_29 (pc := 52) C d_Course_releaseIfDone_52 ?_
        refine v_iload_n (pc := 55) C d_Course_releaseIfDone_55 rfl rfl ?_
        refine v_iconst (pc := 56) (v := (-1)) C d_Course_releaseIfDone_56 (by decide) ?_
        refine v_iastoreK (pc := 57) C rfl rfl (rfl) (hw) (by decide) d_Course_releaseIfDone_57 ?_
        exact v_return (pc := 58) C hr ⟨rfl, by unfold kReleaseIf; first | rw [if_pos h12] | (rw [if_neg (fun q => q h12), if_neg (fun q => h30 q.1)]) | (rw [if_neg (fun q => q h12), if_neg (fun q => absurd q.2 (Int32.not_le.mpr h43))]) | (rw [if_neg (fun q => q h12), if_pos ⟨h30, Int32.not_lt.mp h43⟩])⟩ d_Course_releaseIfDone_58
  · refine v_aload_n (pc := 15) C d_Course_releaseIfDone_15 rfl rfl ?_
    refine gf_Course_29 (pc := 16) C d_Course_releaseIfDone_16 ?_
    refine v_iload_n (pc := 19) C d_Course_releaseIfDone_19 rfl rfl ?_
    refine v_iconst (pc := 20) (v := (-1)) C d_Course_releaseIfDone_20 (by decide) ?_
    refine v_iastoreK (pc := 21) C rfl rfl (rfl) (hw) (by decide) d_Course_releaseIfDone_21 ?_
    refine v_goto (pc := 22) (tgt := 58) C d_Course_releaseIfDone_22 (by decide) ?_
    exact v_return (pc := 58) C hr ⟨rfl, by unfold kReleaseIf; first | rw [if_pos h12] | (rw [if_neg (fun q => q h12), if_neg (fun q => h30 q.1)]) | (rw [if_neg (fun q => q h12), if_neg (fun q => absurd q.2 (Int32.not_le.mpr h43))]) | (rw [if_neg (fun q => q h12), if_pos ⟨h30, Int32.not_lt.mp h43⟩])⟩ d_Course_releaseIfDone_58
