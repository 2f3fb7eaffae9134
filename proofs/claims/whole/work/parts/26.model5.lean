theorem gCan_mono {σ : ty_St} {t : Nat} : ∀ {n k : Nat}, n ≤ k → gCan σ t k = true → gCan σ t n = true := by
  intro n k h
  induction k with
  | zero => intro q; rw [show n = 0 by omega]; exact q
  | succ k ih =>
    intro q
    by_cases e : n = k + 1
    · rw [e]; exact q
    · simp only [gCan, Bool.and_eq_true] at q
      exact ih (by omega) q.1
def gDone (σ : ty_St) : Nat → Bool
  | 0 => true
  | n + 1 => gDone σ n && !decide (σ 29 0 n = 0)
def gIdle (σ : ty_St) : Nat → Bool
  | 0 => true
  | n + 1 => gIdle σ n && gFree σ n
theorem gDone_mono {σ : ty_St} : ∀ {n k : Nat}, n ≤ k → gDone σ k = true → gDone σ n = true := by
  intro n k h
  induction k with
  | zero => intro q; rw [show n = 0 by omega]; exact q
  | succ k ih =>
    intro q
    by_cases e : n = k + 1
    · rw [e]; exact q
    · simp only [gDone, Bool.and_eq_true] at q
      exact ih (by omega) q.1
theorem gIdle_mono {σ : ty_St} : ∀ {n k : Nat}, n ≤ k → gIdle σ k = true → gIdle σ n = true := by
  intro n k h
  induction k with
  | zero => intro q; rw [show n = 0 by omega]; exact q
  | succ k ih =>
    intro q
    by_cases e : n = k + 1
    · rw [e]; exact q
    · simp only [gIdle, Bool.and_eq_true] at q
      exact ih (by omega) q.1
theorem gLook1_a {σ : ty_St} {t a : Nat} (h1 : ¬ a = 29) (h2 : ¬ a = 30) (h3 : ¬ a = 32) (h4 : ¬ a = 45) : (gLook1 σ t) a = σ a := by
  unfold gLook1 gJudged
  split
  · rw [up_a h4, up_a h3, up_a h2, up_a h1]
  · rfl
theorem gLooks_a {σ : ty_St} {a : Nat} (h1 : ¬ a = 29) (h2 : ¬ a = 30) (h3 : ¬ a = 32) (h4 : ¬ a = 45) : ∀ n, (gLooks σ n) a = σ a
  | 0 => rfl
  | n + 1 => (gLook1_a h1 h2 h3 h4).trans (gLooks_a h1 h2 h3 h4 n)
set_option maxRecDepth 100000 in
set_option maxHeartbeats 4000000 in
theorem m_can (l : Launch) {D : va_G} {ad : Nat → Nat → Nat} {cA : Nat → ClassId} (hJ : ty_J cnM ad) (σ : ty_St) (tc : Nat) (htc : tc ≤ 12) (hc : σ 20 0 1 = nI tc) (x : Int32) (u : Nat) (hu : u < 12) (hx : x = nI u) : ty_M l y_Model_canHave (Cond.code y_Model_canHave b_Model_canHave 3 (some .boolean) :: ty_w) (rmL 0) cnM D ad cA [.inr (20, 0), .inl x] σ (fun r σ' => r = some (.inl (if gCan σ u tc = true then 1 else 0)) ∧ σ' = σ) := by
  refine ty_M.of rfl hJ layM (ty_oks.cons (show (0 : Nat) < cnM 20 by decide) (ty_oks.cons trivial ty_oks.nil)) (Nat.le_of_ble_eq_true rfl) ?_
  intro p e s m args below meth c C hr hnm
  subst hx
  have loop : ∀ k i, i + k = tc → gCan σ u i = true → ty_V cnM p l e (rmL 0) s m args below meth c D ad cA (ty_Gd cnM ad s) 3 (MQ below (ty_Q cnM D ad cA (fun r σ' => r = some (.inl (if gCan σ u tc = true then 1 else 0)) ∧ σ' = σ) (ty_A cnM ad)) args s 0 0 (ty_A cnM ad)) σ [some (.inr (20, 0)), some (.inl (nI u)), some (.inl (nI i))] 2 [] := by
    intro  k
    induction k with
    | zero =>
      intro i hi hi0
      have hb := hc
      refine v_iload_n (pc := 2) C d_Model_canHave_2 rfl rfl ?_
      refine v_aload_n (pc := 3) C d_Model_canHave_3 rfl rfl ?_
      refine gf_Model_114 (pc := 4) C d_Model_canHave_4 ?_
      refine v_icmp_ge (pc := 7) (tgt := 78) C d_Model_canHave_7 (by decide) (fun h7 => ?_) (fun h7 => ?_)
      · refine v_iconst (pc := 78) (v := 1) C d_Model_canHave_78 (by decide) ?_
        exact v_zreturn (pc := 79) C hr rfl ⟨by rw [show tc = i by omega, if_pos hi0], rfl⟩ d_Model_canHave_79
      · exact absurd (by rw [hb]; exact nI_le (by omega) (by omega)) h7
    | succ k ih =>
      intro i hi hi0
      have hb := hc
      refine v_iload_n (pc := 2) C d_Model_canHave_2 rfl rfl ?_
      refine v_aload_n (pc := 3) C d_Model_canHave_3 rfl rfl ?_
      refine gf_Model_114 (pc := 4) C d_Model_canHave_4 ?_
      refine v_icmp_ge (pc := 7) (tgt := 78) C d_Model_canHave_7 (by decide) (fun h7 => ?_) (fun h7 => ?_)
      · exact absurd h7 (by rw [hb]; exact nI_ge (by omega) (by omega))
      · refine v_aload_n (pc := 10) C d_Model_canHave_10 rfl rfl ?_
        refine gf_Model_44 (pc := 11) C d_Model_canHave_11 ?_
        refine v_iload_n (pc := 14) C d_Model_canHave_14 rfl rfl ?_
        refine v_ialoadK (pc := 15) C rfl rfl (rfl) (by omega) (by decide) d_Model_canHave_15 ?_
        refine v_if_lt (pc := 16) (tgt := 72) C d_Model_canHave_16 (by decide) (fun h16 => ?_) (fun h16 => ?_)
        · refine v_iinc (pc := 72) C d_Model_canHave_72 rfl (show _ + Int32.ofInt 1 = _ + 1 from rfl) (by decide) ?_
          refine v_goto (pc := 75) (tgt := 2) C d_Model_canHave_75 (by decide) ?_
          rw [nI_1 i]
          refine ih (i + 1) (by omega) ?_
          simp [gCan, hi0, h16]
        · refine v_aload_n (pc := 19) C d_Model_canHave_19 rfl rfl ?_
          refine gf_Model_38 (pc := 20) C d_Model_canHave_20 ?_
          refine v_iload_n (pc := 23) C d_Model_canHave_23 rfl rfl ?_
          refine v_ialoadK (pc := 24) C rfl rfl (rfl) (by omega) (by decide) d_Model_canHave_24 ?_
          refine v_if_eq (pc := 25) (tgt := 31) C d_Model_canHave_25 (by decide) (fun h25 => ?_) (fun h25 => ?_)
          · refine v_aload_n (pc := 31) C d_Model_canHave_31 rfl rfl ?_
            refine gf_Model_35 (pc := 32) C d_Model_canHave_32 ?_
            refine v_iload_n (pc := 35) C d_Model_canHave_35 rfl rfl ?_
            refine v_ialoadK (pc := 36) C rfl rfl (rfl) (hu) (by decide) d_Model_canHave_36 ?_
            refine v_aload_n (pc := 37) C d_Model_canHave_37 rfl rfl ?_
            refine gf_Model_32 (pc := 38) C d_Model_canHave_38 ?_
            refine v_iload_n (pc := 41) C d_Model_canHave_41 rfl rfl ?_
            refine v_ialoadK (pc := 42) C rfl rfl (rfl) (by omega) (by decide) d_Model_canHave_42 ?_
            refine v_aload_n (pc := 43) C d_Model_canHave_43 rfl rfl ?_
            refine gf_Model_35 (pc := 44) C d_Model_canHave_44 ?_
            refine v_iload_n (pc := 47) C d_Model_canHave_47 rfl rfl ?_
            refine v_ialoadK (pc := 48) C rfl rfl (rfl) (by omega) (by decide) d_Model_canHave_48 ?_
            refine v_ior (pc := 49) C d_Model_canHave_49 ?_
            refine v_iand (pc := 50) C d_Model_canHave_50 ?_
            refine v_if_ne (pc := 51) (tgt := 70) C d_Model_canHave_51 (by decide) (fun h51 => ?_) (fun h51 => ?_)
            · refine v_iconst (pc := 70) (v := 0) C d_Model_canHave_70 (by decide) ?_
              exact v_zreturn (pc := 71) C hr rfl ⟨by
                have : ¬ gCan σ u tc = true := fun q => by
                  have := gCan_mono (show i + 1 ≤ tc by omega) q
                  simp [gCan, Int32.not_lt.mp h16, h25, h51] at this
                rw [if_neg this], rfl⟩ d_Model_canHave_71
            · refine v_aload_n (pc := 54) C d_Model_canHave_54 rfl rfl ?_
              refine gf_Model_32 (pc := 55) C d_Model_canHave_55 ?_
              refine v_iload_n (pc := 58) C d_Model_canHave_58 rfl rfl ?_
              refine v_ialoadK (pc := 59) C rfl rfl (rfl) (hu) (by decide) d_Model_canHave_59 ?_
              refine v_aload_n (pc := 60) C d_Model_canHave_60 rfl rfl ?_
              refine gf_Model_35 (pc := 61) C d_Model_canHave_61 ?_
              refine v_iload_n (pc := 64) C d_Model_canHave_64 rfl rfl ?_
              refine v_ialoadK (pc := 65) C rfl rfl (rfl) (by omega) (by decide) d_Model_canHave_65 ?_
              refine v_iand (pc := 66) C d_Model_canHave_66 ?_
              refine v_if_eq (pc := 67) (tgt := 72) C d_Model_canHave_67 (by decide) (fun h67 => ?_) (fun h67 => ?_)
              · refine v_iinc (pc := 72) C d_Model_canHave_72 rfl (show _ + Int32.ofInt 1 = _ + 1 from rfl) (by decide) ?_
                refine v_goto (pc := 75) (tgt := 2) C d_Model_canHave_75 (by decide) ?_
                rw [nI_1 i]
                refine ih (i + 1) (by omega) ?_
                simp [gCan, hi0, h51, h67]
              · refine v_iconst (pc := 70) (v := 0) C d_Model_canHave_70 (by decide) ?_
                exact v_zreturn (pc := 71) C hr rfl ⟨by
                  have : ¬ gCan σ u tc = true := fun q => by
                    have := gCan_mono (show i + 1 ≤ tc by omega) q
                    simp [gCan, Int32.not_lt.mp h16, h25, h51, h67] at this
                  rw [if_neg this], rfl⟩ d_Model_canHave_71
          · refine v_goto (pc := 28) (tgt := 72) C d_Model_canHave_28 (by decide) ?_
            refine v_iinc (pc := 72) C d_Model_canHave_72 rfl (show _ + Int32.ofInt 1 = _ + 1 from rfl) (by decide) ?_
            refine v_goto (pc := 75) (tgt := 2) C d_Model_canHave_75 (by decide) ?_
            rw [nI_1 i]
            refine ih (i + 1) (by omega) ?_
            simp [gCan, hi0, h25]
  refine v_iconst (pc := 0) (v := 0) C d_Model_canHave_0 (by decide) ?_
  refine v_istore_n (pc := 1) C d_Model_canHave_1 rfl (by decide) ?_
  exact loop tc 0 (by omega) rfl
set_option maxRecDepth 100000 in
set_option maxHeartbeats 4000000 in
theorem m_next (l : Launch) {D : va_G} {ad : Nat → Nat → Nat} {cA : Nat → ClassId} (hJ : ty_J cnM ad) (σ : ty_St) (tc : Nat) (htc : tc ≤ 12) (hc : σ 20 0 1 = nI tc) : ty_M l y_Model_nextTest (Cond.code y_Model_nextTest b_Model_nextTest 2 (some .int) :: ty_w) (rmL 1) cnM D ad cA [.inr (20, 0)] σ (fun r σ' => r = some (.inl (gNext σ tc tc 0)) ∧ σ' = σ) := by
  refine ty_M.of rfl hJ layM (ty_oks.cons (show (0 : Nat) < cnM 20 by decide) ty_oks.nil) (Nat.le_of_ble_eq_true rfl) ?_
  intro p e s m args below meth c C hr hnm
  have loop : ∀ k i, i + k = tc → gNext σ tc k i = gNext σ tc tc 0 → ty_V cnM p l e (rmL 1) s m args below meth c D ad cA (ty_Gd cnM ad s) 2 (MQ below (ty_Q cnM D ad cA (fun r σ' => r = some (.inl (gNext σ tc tc 0)) ∧ σ' = σ) (ty_A cnM ad)) args s 0 0 (ty_A cnM ad)) σ [some (.inr (20, 0)), some (.inl (nI i))] 2 [] := by
    intro  k
    induction k with
    | zero =>
      intro i hi hL
      have hb := hc
      refine v_iload_n (pc := 2) C d_Model_nextTest_2 rfl rfl ?_
      refine v_aload_n (pc := 3) C d_Model_nextTest_3 rfl rfl ?_
      refine gf_Model_114 (pc := 4) C d_Model_nextTest_4 ?_
      refine v_icmp_ge (pc := 7) (tgt := 35) C d_Model_nextTest_7 (by decide) (fun h7 => ?_) (fun h7 => ?_)
      · refine v_iconst (pc := 35) (v := (-1)) C d_Model_nextTest_35 (by decide) ?_
        exact v_ireturn (pc := 36) C hr ⟨by rw [← hL]; rfl, rfl⟩ d_Model_nextTest_36
      · exact absurd (by rw [hb]; exact nI_le (by omega) (by omega)) h7
    | succ k ih =>
      intro i hi hL
      have hb := hc
      refine v_iload_n (pc := 2) C d_Model_nextTest_2 rfl rfl ?_
      refine v_aload_n (pc := 3) C d_Model_nextTest_3 rfl rfl ?_
      refine gf_Model_114 (pc := 4) C d_Model_nextTest_4 ?_
      refine v_icmp_ge (pc := 7) (tgt := 35) C d_Model_nextTest_7 (by decide) (fun h7 => ?_) (fun h7 => ?_)
      · exact absurd h7 (by rw [hb]; exact nI_ge (by omega) (by omega))
      · refine v_aload_n (pc := 10) C d_Model_nextTest_10 rfl rfl ?_
        refine gf_Model_44 (pc := 11) C d_Model_nextTest_11 ?_
        refine v_iload_n (pc := 14) C d_Model_nextTest_14 rfl rfl ?_
        refine v_ialoadK (pc := 15) C rfl rfl (rfl) (by omega) (by decide) d_Model_nextTest_15 ?_
        refine v_if_ge (pc := 16) (tgt := 29) C d_Model_nextTest_16 (by decide) (fun h16 => ?_) (fun h16 => ?_)
        · refine v_iinc (pc := 29) C d_Model_nextTest_29 rfl (show _ + Int32.ofInt 1 = _ + 1 from rfl) (by decide) ?_
          refine v_goto (pc := 32) (tgt := 2) C d_Model_nextTest_32 (by decide) ?_
          rw [nI_1 i]
          refine ih (i + 1) (by omega) ?_
          have hL2 : (if σ 31 0 i < 0 ∧ gCan σ i tc = true then nI i else gNext σ tc k (i + 1)) = gNext σ tc tc 0 := hL
          rw [← hL2, if_neg (fun q => absurd q.1 (Int32.not_lt.mpr h16))]
        · refine v_aload_n (pc := 19) C d_Model_nextTest_19 rfl rfl ?_
          refine v_iload_n (pc := 20) C d_Model_nextTest_20 rfl rfl ?_
          refine cl_Model_163 (pc := 21) C (m_can l hJ σ tc htc hc _ i (by omega) rfl) ⟨rfl, rfl, by decide, by decide⟩ rfl rfl (Nat.le_of_ble_eq_true rfl) d_Model_nextTest_21 (fun r σ' hq => ?_)
          rw [hq.1, hq.2]
          refine v_if_eq (pc := 24) (tgt := 29) C d_Model_nextTest_24 (by decide) (fun h24 => ?_) (fun h24 => ?_)
          · refine v_iinc (pc := 29) C d_Model_nextTest_29 rfl (show _ + Int32.ofInt 1 = _ + 1 from rfl) (by decide) ?_
            refine v_goto (pc := 32) (tgt := 2) C d_Model_nextTest_32 (by decide) ?_
            rw [nI_1 i]
            refine ih (i + 1) (by omega) ?_
            have hL2 : (if σ 31 0 i < 0 ∧ gCan σ i tc = true then nI i else gNext σ tc k (i + 1)) = gNext σ tc tc 0 := hL
            rw [← hL2, if_neg (fun q => by rw [if_pos q.2] at h24; exact absurd h24 (by decide))]
          · refine v_iload_n (pc := 27) C d_Model_nextTest_27 rfl rfl ?_
            exact v_ireturn (pc := 28) C hr ⟨by
              have hL2 : (if σ 31 0 i < 0 ∧ gCan σ i tc = true then nI i else gNext σ tc k (i + 1)) = gNext σ tc tc 0 := hL
              rw [← hL2, if_pos ⟨Int32.not_le.mp h16, by by_cases e : gCan σ i tc = true; exact e; exact absurd (if_neg e) h24⟩], rfl⟩ d_Model_nextTest_28
  refine v_iconst (pc := 0) (v := 0) C d_Model_nextTest_0 (by decide) ?_
  refine v_istore_n (pc := 1) C d_Model_nextTest_1 rfl (by decide) ?_
  exact loop tc 0 (by omega) rfl
set_option maxRecDepth 100000 in
set_option maxHeartbeats 4000000 in
theorem m_looks (l : Launch) {D : va_G} {ad : Nat → Nat → Nat} {cA : Nat → ClassId} (hJ : ty_J cnM ad) (σ : ty_St) (tc : Nat) (htc : tc ≤ 12) (hc : σ 20 0 1 = nI tc) (hfs : ∀ t, t < 12 → 0 ≤ σ 31 0 t → vp_in (σ 34 0 t) 64) : ty_M l y_Model_looksAtTimes (Cond.code y_Model_looksAtTimes b_Model_looksAtTimes 2 none :: ty_w) (rmL 1) cnM D ad cA [.inr (20, 0)] σ (fun r σ' => r = none ∧ σ' = gLooks σ tc) := by
  refine ty_M.of rfl hJ layM (ty_oks.cons (show (0 : Nat) < cnM 20 by decide) ty_oks.nil) (Nat.le_of_ble_eq_true rfl) ?_
  intro p e s m args below meth c C hr hnm
  have loop : ∀ k i, i + k = tc → ∀ τ : ty_St, τ = gLooks σ i → ty_V cnM p l e (rmL 1) s m args below meth c D ad cA (ty_Gd cnM ad s) 2 (MQ below (ty_Q cnM D ad cA (fun r σ' => r = none ∧ σ' = gLooks σ tc) (ty_A cnM ad)) args s 0 0 (ty_A cnM ad)) τ [some (.inr (20, 0)), some (.inl (nI i))] 2 [] := by
    intro  k
    induction k with
    | zero =>
      intro i hi τ hτ
      have hb := (show τ 20 0 1 = nI tc by rw [hτ, gLooks_a (by decide) (by decide) (by decide) (by decide)]; exact hc)
      refine v_iload_n (pc := 2) C d_Model_looksAtTimes_2 rfl rfl ?_
      refine v_aload_n (pc := 3) C d_Model_looksAtTimes_3 rfl rfl ?_
      refine gf_Model_114 (pc := 4) C d_Model_looksAtTimes_4 ?_
      refine v_icmp_ge (pc := 7) (tgt := 82) C d_Model_looksAtTimes_7 (by decide) (fun h7 => ?_) (fun h7 => ?_)
      · exact v_return (pc := 82) C hr ⟨rfl, by rw [hτ, show i = tc by omega]⟩ d_Model_looksAtTimes_82
      · exact absurd (by rw [hb]; exact nI_le (by omega) (by omega)) h7
    | succ k ih =>
      intro i hi τ hτ
      have hb := (show τ 20 0 1 = nI tc by rw [hτ, gLooks_a (by decide) (by decide) (by decide) (by decide)]; exact hc)
      refine v_iload_n (pc := 2) C d_Model_looksAtTimes_2 rfl rfl ?_
      refine v_aload_n (pc := 3) C d_Model_looksAtTimes_3 rfl rfl ?_
      refine gf_Model_114 (pc := 4) C d_Model_looksAtTimes_4 ?_
      refine v_icmp_ge (pc := 7) (tgt := 82) C d_Model_looksAtTimes_7 (by decide) (fun h7 => ?_) (fun h7 => ?_)
      · exact absurd h7 (by rw [hb]; exact nI_ge (by omega) (by omega))
      · refine v_aload_n (pc := 10) C d_Model_looksAtTimes_10 rfl rfl ?_
        refine gf_Model_44 (pc := 11) C d_Model_looksAtTimes_11 ?_
        refine v_iload_n (pc := 14) C d_Model_looksAtTimes_14 rfl rfl ?_
        refine v_ialoadK (pc := 15) C rfl rfl (rfl) (by omega) (by decide) d_Model_looksAtTimes_15 ?_
        refine v_if_lt (pc := 16) (tgt := 76) C d_Model_looksAtTimes_16 (by decide) (fun h16 => ?_) (fun h16 => ?_)
        · refine v_iinc (pc := 76) C d_Model_looksAtTimes_76 rfl (show _ + Int32.ofInt 1 = _ + 1 from rfl) (by decide) ?_
          refine v_goto (pc := 79) (tgt := 2) C d_Model_looksAtTimes_79 (by decide) ?_
          rw [nI_1 i]
          refine ih (i + 1) (by omega) _ ?_
          show _ = gLook1 (gLooks σ i) i
          rw [← hτ]
          unfold gLook1
          rw [if_neg (fun q => absurd q.1 (Int32.not_le.mpr h16))]
        · refine v_aload_n (pc := 19) C d_Model_looksAtTimes_19 rfl rfl ?_
          refine gf_Model_38 (pc := 20) C d_Model_looksAtTimes_20 ?_
          refine v_iload_n (pc := 23) C d_Model_looksAtTimes_23 rfl rfl ?_
          refine v_ialoadK (pc := 24) C rfl rfl (rfl) (by omega) (by decide) d_Model_looksAtTimes_24 ?_
          refine v_if_ne (pc := 25) (tgt := 76) C d_Model_looksAtTimes_25 (by decide) (fun h25 => ?_) (fun h25 => ?_)
          · refine v_iinc (pc := 76) C d_Model_looksAtTimes_76 rfl (show _ + Int32.ofInt 1 = _ + 1 from rfl) (by decide) ?_
            refine v_goto (pc := 79) (tgt := 2) C d_Model_looksAtTimes_79 (by decide) ?_
            rw [nI_1 i]
            refine ih (i + 1) (by omega) _ ?_
            show _ = gLook1 (gLooks σ i) i
            rw [← hτ]
            unfold gLook1
            rw [if_neg (fun q => h25 q.2.1)]
          · refine v_aload_n (pc := 28) C d_Model_looksAtTimes_28 rfl rfl ?_
            refine gf_Model_29 (pc := 29) C d_Model_looksAtTimes_29 ?_
            refine v_iload_n (pc := 32) C d_Model_looksAtTimes_32 rfl rfl ?_
            refine v_ialoadK (pc := 33) C rfl rfl (rfl) (by omega) (by decide) d_Model_looksAtTimes_33 ?_
            refine v_if_le (pc := 34) (tgt := 76) C d_Model_looksAtTimes_34 (by decide) (fun h34 => ?_) (fun h34 => ?_)
            · refine v_iinc (pc := 76) C d_Model_looksAtTimes_76 rfl (show _ + Int32.ofInt 1 = _ + 1 from rfl) (by decide) ?_
              refine v_goto (pc := 79) (tgt := 2) C d_Model_looksAtTimes_79 (by decide) ?_
              rw [nI_1 i]
              refine ih (i + 1) (by omega) _ ?_
              show _ = gLook1 (gLooks σ i) i
              rw [← hτ]
              unfold gLook1
              rw [if_neg (fun q => absurd q.2.2.1 (Int32.not_lt.mpr h34))]
            · refine v_aload_n (pc := 37) C d_Model_looksAtTimes_37 rfl rfl ?_
              refine gf_Model_117 (pc := 38) C d_Model_looksAtTimes_38 ?_
              refine v_aload_n (pc := 41) C d_Model_looksAtTimes_41 rfl rfl ?_
              refine gf_Model_44 (pc := 42) C d_Model_looksAtTimes_42 ?_
              refine v_iload_n (pc := 45) C d_Model_looksAtTimes_45 rfl rfl ?_
              refine v_ialoadK (pc := 46) C rfl rfl (rfl) (by omega) (by decide) d_Model_looksAtTimes_46 ?_
              refine v_aload_n (pc := 47) C d_Model_looksAtTimes_47 rfl rfl ?_
              refine gf_Model_29 (pc := 48) C d_Model_looksAtTimes_48 ?_
              refine v_iload_n (pc := 51) C d_Model_looksAtTimes_51 rfl rfl ?_
              refine v_ialoadK (pc := 52) C rfl rfl (rfl) (by omega) (by decide) d_Model_looksAtTimes_52 ?_
              refine v_iadd (pc := 53) C d_Model_looksAtTimes_53 ?_
              refine v_icmp_lt (pc := 54) (tgt := 76) C d_Model_looksAtTimes_54 (by decide) (fun h54 => ?_) (fun h54 => ?_)
              · refine v_iinc (pc := 76) C d_Model_looksAtTimes_76 rfl (show _ + Int32.ofInt 1 = _ + 1 from rfl) (by decide) ?_
                refine v_goto (pc := 79) (tgt := 2) C d_Model_looksAtTimes_79 (by decide) ?_
                rw [nI_1 i]
                refine ih (i + 1) (by omega) _ ?_
                show _ = gLook1 (gLooks σ i) i
                rw [← hτ]
                unfold gLook1
                rw [if_neg (fun q => absurd q.2.2.2 (Int32.not_le.mpr h54))]
              · refine v_aload_n (pc := 57) C d_Model_looksAtTimes_57 rfl rfl ?_
                refine v_iload_n (pc := 58) C d_Model_looksAtTimes_58 rfl rfl ?_
                refine v_iconst (pc := 59) (v := 3) C d_Model_looksAtTimes_59 (by decide) ?_
                refine v_iconst (pc := 60) (v := (-1)) C d_Model_looksAtTimes_60 (by decide) ?_
                refine cl_Model_127 (pc := 61) C (m_judged l hJ τ _ i (by omega) rfl _ _) ⟨rfl, rfl, by decide, by decide⟩ rfl rfl (Nat.le_of_ble_eq_true rfl) d_Model_looksAtTimes_61 (fun r σ' hq => ?_)
                rw [hq.1, hq.2]
                refine v_aload_n (pc := 64) C d_Model_looksAtTimes_64 rfl rfl ?_
                refine gf_Model_87 (pc := 65) C d_Model_looksAtTimes_65 ?_
                refine v_aload_n (pc := 68) C d_Model_looksAtTimes_68 rfl rfl ?_
                refine gf_Model_53 (pc := 69) C d_Model_looksAtTimes_69 ?_
                refine v_iload_n (pc := 72) C d_Model_looksAtTimes_72 rfl rfl ?_
                refine v_ialoadK (pc := 73) C rfl rfl (rfl) (by omega) (by decide) d_Model_looksAtTimes_73 ?_
                refine v_iconst (pc := 74) (v := 1) C d_Model_looksAtTimes_74 (by decide) ?_
                refine v_bastore (pc := 75) C rfl rfl (by have := hfs i (by omega); rw [hτ] at h16 ⊢; rw [gLooks_a (by decide) (by decide) (by decide) (by decide)] at h16; exact (show vp_in ((gLooks σ i) 34 0 i) 64 from by rw [gLooks_a (by decide) (by decide) (by decide) (by decide)]; exact this (Int32.not_lt.mp h16))) rfl d_Model_looksAtTimes_75 ?_
                refine v_iinc (pc := 76) C d_Model_looksAtTimes_76 rfl (show _ + Int32.ofInt 1 = _ + 1 from rfl) (by decide) ?_
                refine v_goto (pc := 79) (tgt := 2) C d_Model_looksAtTimes_79 (by decide) ?_
                rw [nI_1 i]
                refine ih (i + 1) (by omega) _ ?_
                show _ = gLook1 (gLooks σ i) i
                rw [← hτ]
                unfold gLook1
                rw [if_pos ⟨Int32.not_lt.mp h16, h25, Int32.not_le.mp h34, Int32.not_lt.mp h54⟩]
                rfl
  refine v_iconst (pc := 0) (v := 0) C d_Model_looksAtTimes_0 (by decide) ?_
  refine v_istore_n (pc := 1) C d_Model_looksAtTimes_1 rfl (by decide) ?_
  exact loop tc 0 (by omega) σ rfl
set_option maxRecDepth 100000 in
set_option maxHeartbeats 4000000 in
theorem m_done (l : Launch) {D : va_G} {ad : Nat → Nat → Nat} {cA : Nat → ClassId} (hJ : ty_J cnM ad) (σ : ty_St) (tc : Nat) (htc : tc ≤ 12) (hc : σ 20 0 1 = nI tc) (wc : Nat) (hwc : wc ≤ 4) (hw : σ 20 0 2 = nI wc) (hto : ∀ w, w < 4 → 0 ≤ σ 38 0 w → vp_in (σ 38 0 w) 12 ∧ vp_in (σ 34 0 (nn (σ 38 0 w))) 64) : ty_M l y_Model_isDone (Cond.code y_Model_isDone b_Model_isDone 2 (some .boolean) :: ty_w) (rmL 1) cnM D ad cA [.inr (20, 0)] σ (fun r σ' => r = some (.inl (if gDone σ tc = true ∧ gIdle σ wc = true then 1 else 0)) ∧ σ' = σ) := by
  refine ty_M.of rfl hJ layM (ty_oks.cons (show (0 : Nat) < cnM 20 by decide) ty_oks.nil) (Nat.le_of_ble_eq_true rfl) ?_
  intro p e s m args below meth c C hr hnm
  have loop2 : ∀ k i, i + k = wc → gDone σ tc = true → gIdle σ i = true → ty_V cnM p l e (rmL 1) s m args below meth c D ad cA (ty_Gd cnM ad s) 2 (MQ below (ty_Q cnM D ad cA (fun r σ' => r = some (.inl (if gDone σ tc = true ∧ gIdle σ wc = true then 1 else 0)) ∧ σ' = σ) (ty_A cnM ad)) args s 0 0 (ty_A cnM ad)) σ [some (.inr (20, 0)), some (.inl (nI i))] 29 [] := by
    intro  k
    induction k with
    | zero =>
      intro i hi hD hi0
      have hb := hw
      refine v_iload_n (pc := 29) C d_Model_isDone_29 rfl rfl ?_
      refine v_aload_n (pc := 30) C d_Model_isDone_30 rfl rfl ?_
      refine gf_Model_7 (pc := 31) C d_Model_isDone_31 ?_
      refine v_icmp_ge (pc := 34) (tgt := 53) C d_Model_isDone_34 (by decide) (fun h34 => ?_) (fun h34 => ?_)
      · refine v_iconst (pc := 53) (v := 1) C d_Model_isDone_53 (by decide) ?_
        exact v_zreturn (pc := 54) C hr rfl ⟨by rw [if_pos ⟨hD, by rw [show wc = i by omega]; exact hi0⟩], rfl⟩ d_Model_isDone_54
      · exact absurd (by rw [hb]; exact nI_le (by omega) (by omega)) h34
    | succ k ih =>
      intro i hi hD hi0
      have hb := hw
      refine v_iload_n (pc := 29) C d_Model_isDone_29 rfl rfl ?_
      refine v_aload_n (pc := 30) C d_Model_isDone_30 rfl rfl ?_
      refine gf_Model_7 (pc := 31) C d_Model_isDone_31 ?_
      refine v_icmp_ge (pc := 34) (tgt := 53) C d_Model_isDone_34 (by decide) (fun h34 => ?_) (fun h34 => ?_)
      · exact absurd h34 (by rw [hb]; exact nI_ge (by omega) (by omega))
      · refine v_aload_n (pc := 37) C d_Model_isDone_37 rfl rfl ?_
        refine v_iload_n (pc := 38) C d_Model_isDone_38 rfl rfl ?_
        refine cl_Model_166 (pc := 39) C (m_isFree l hJ σ i (by omega) (hto i (by omega))) ⟨rfl, rfl, by decide, by decide⟩ rfl rfl (Nat.le_of_ble_eq_true rfl) d_Model_isDone_39 (fun r σ' hq => ?_)
        rw [hq.1, hq.2]
        refine v_if_ne (pc := 42) (tgt := 47) C d_Model_isDone_42 (by decide) (fun h42 => ?_) (fun h42 => ?_)
        · refine v_iinc (pc := 47) C d_Model_isDone_47 rfl (show _ + Int32.ofInt 1 = _ + 1 from rfl) (by decide) ?_
          refine v_goto (pc := 50) (tgt := 29) C d_Model_isDone_50 (by decide) ?_
          rw [nI_1 i]
          exact ih (i + 1) (by omega) hD (by rw [gIdle, hi0, Bool.true_and]; by_cases e : gFree σ i = true; exact e; exact absurd (if_neg e) h42)
        · refine v_iconst (pc := 45) (v := 0) C d_Model_isDone_45 (by decide) ?_
          exact v_zreturn (pc := 46) C hr rfl ⟨by
            have : ¬ gIdle σ wc = true := fun q => by have := gIdle_mono (show i + 1 ≤ wc by omega) q; simp [gIdle] at this; rw [if_pos this.2] at h42; exact absurd h42 (by decide)
            rw [if_neg (fun q => this q.2)], rfl⟩ d_Model_isDone_46
  have loop1 : ∀ k i, i + k = tc → gDone σ i = true → ty_V cnM p l e (rmL 1) s m args below meth c D ad cA (ty_Gd cnM ad s) 2 (MQ below (ty_Q cnM D ad cA (fun r σ' => r = some (.inl (if gDone σ tc = true ∧ gIdle σ wc = true then 1 else 0)) ∧ σ' = σ) (ty_A cnM ad)) args s 0 0 (ty_A cnM ad)) σ [some (.inr (20, 0)), some (.inl (nI i))] 2 [] := by
    intro  k
    induction k with
    | zero =>
      intro i hi hi0
      have hb := hc
      refine v_iload_n (pc := 2) C d_Model_isDone_2 rfl rfl ?_
      refine v_aload_n (pc := 3) C d_Model_isDone_3 rfl rfl ?_
      refine gf_Model_114 (pc := 4) C d_Model_isDone_4 ?_
      refine v_icmp_ge (pc := 7) (tgt := 27) C d_Model_isDone_7 (by decide) (fun h7 => ?_) (fun h7 => ?_)
      · refine v_iconst (pc := 27) (v := 0) C d_Model_isDone_27 (by decide) ?_
        refine v_istore_n (pc := 28) C d_Model_isDone_28 rfl (by decide) ?_
        exact loop2 wc 0 (by omega) (by rw [show tc = i by omega]; exact hi0) rfl
      · exact absurd (by rw [hb]; exact nI_le (by omega) (by omega)) h7
    | succ k ih =>
      intro i hi hi0
      have hb := hc
      refine v_iload_n (pc := 2) C d_Model_isDone_2 rfl rfl ?_
      refine v_aload_n (pc := 3) C d_Model_isDone_3 rfl rfl ?_
      refine gf_Model_114 (pc := 4) C d_Model_isDone_4 ?_
      refine v_icmp_ge (pc := 7) (tgt := 27) C d_Model_isDone_7 (by decide) (fun h7 => ?_) (fun h7 => ?_)
      · exact absurd h7 (by rw [hb]; exact nI_ge (by omega) (by omega))
      · refine v_aload_n (pc := 10) C d_Model_isDone_10 rfl rfl ?_
        refine gf_Model_38 (pc := 11) C d_Model_isDone_11 ?_
        refine v_iload_n (pc := 14) C d_Model_isDone_14 rfl rfl ?_
        refine v_ialoadK (pc := 15) C rfl rfl (rfl) (by omega) (by decide) d_Model_isDone_15 ?_
        refine v_if_ne (pc := 16) (tgt := 21) C d_Model_isDone_16 (by decide) (fun h16 => ?_) (fun h16 => ?_)
        · refine v_iinc (pc := 21) C d_Model_isDone_21 rfl (show _ + Int32.ofInt 1 = _ + 1 from rfl) (by decide) ?_
          refine v_goto (pc := 24) (tgt := 2) C d_Model_isDone_24 (by decide) ?_
          rw [nI_1 i]
          exact ih (i + 1) (by omega) (by simp [gDone, hi0, h16])
        · refine v_iconst (pc := 19) (v := 0) C d_Model_isDone_19 (by decide) ?_
          exact v_zreturn (pc := 20) C hr rfl ⟨by
            have : ¬ gDone σ tc = true := fun q => by have := gDone_mono (show i + 1 ≤ tc by omega) q; simp [gDone, h16] at this
            rw [if_neg (fun q => this q.1)], rfl⟩ d_Model_isDone_20
  refine v_iconst (pc := 0) (v := 0) C d_Model_isDone_0 (by decide) ?_
  refine v_istore_n (pc := 1) C d_Model_isDone_1 rfl (by decide) ?_
  exact loop1 tc 0 (by omega) rfl
