theorem vp_mono {x : Int32} {n m : Nat} (h : vp_in x n) (hm : n ≤ m) : vp_in x m := fun q => h (q.elim Or.inl (fun z => Or.inr (Nat.le_trans hm z)))
theorem gJoined_mono {σ : ty_St} {t : Nat} : ∀ {n k : Nat}, n ≤ k → gJoined σ t k = true → gJoined σ t n = true := by
  intro n k h
  induction k with
  | zero => intro q; rw [show n = 0 by omega]; exact q
  | succ k ih =>
    intro q
    by_cases e : n = k + 1
    · rw [e]; exact q
    · simp only [gJoined, Bool.and_eq_true] at q
      exact ih (by omega) q.1
set_option maxRecDepth 100000 in
set_option maxHeartbeats 4000000 in
theorem m_thrown (l : Launch) {D : va_G} {ad : Nat → Nat → Nat} {cA : Nat → ClassId} (hJ : ty_J cnM ad) (σ : ty_St) : ty_M l y_Model_thrown (Cond.code y_Model_thrown b_Model_thrown 1 (some .int) :: ty_w) (rmL 0) cnM D ad cA [.inr (20, 0)] σ (fun r σ' => r = some (.inl (σ 20 0 0)) ∧ σ' = σ) := by
  refine ty_M.of rfl hJ layM (ty_oks.cons (show (0 : Nat) < cnM 20 by decide) ty_oks.nil) (Nat.le_of_ble_eq_true rfl) ?_
  intro p e s m args below meth c C hr hnm
  refine v_aload_n (pc := 0) C d_Model_thrown_0 rfl rfl ?_
  refine gf_Model_99 (pc := 1) C d_Model_thrown_1 ?_
  exact v_ireturn (pc := 4) C hr ⟨rfl, rfl⟩ d_Model_thrown_4
set_option maxRecDepth 100000 in
set_option maxHeartbeats 4000000 in
theorem m_in (l : Launch) {D : va_G} {ad : Nat → Nat → Nat} {cA : Nat → ClassId} (hJ : ty_J cnM ad) (σ : ty_St) (x lo hi : Int32) : ty_M l y_Model_in (Cond.code y_Model_in b_Model_in 3 (some .boolean) :: ty_w) (rmL 0) cnM D ad cA [.inl x, .inl lo, .inl hi] σ (fun r σ' => r = some (.inl (kIn x lo hi)) ∧ σ' = σ) := by
  refine ty_M.of rfl hJ layM (ty_oks.cons trivial (ty_oks.cons trivial (ty_oks.cons trivial ty_oks.nil))) (Nat.le_of_ble_eq_true rfl) ?_
  intro p e s m args below meth c C hr hnm
  refine v_iload_n (pc := 0) C d_Model_in_0 rfl rfl ?_
  refine v_iload_n (pc := 1) C d_Model_in_1 rfl rfl ?_
  refine v_icmp_lt (pc := 2) (tgt := 14) C d_Model_in_2 (by decide) (fun h2 => ?_) (fun h2 => ?_)
  · refine v_iconst (pc := 14) (v := 0) C d_Model_in_14 (by decide) ?_
    exact v_zreturn (pc := 15) C hr rfl ⟨by rw [kIn_1 h2], rfl⟩ d_Model_in_15
  · refine v_iload_n (pc := 5) C d_Model_in_5 rfl rfl ?_
    refine v_iload_n (pc := 6) C d_Model_in_6 rfl rfl ?_
    refine v_icmp_gt (pc := 7) (tgt := 14) C d_Model_in_7 (by decide) (fun h7 => ?_) (fun h7 => ?_)
    · refine v_iconst (pc := 14) (v := 0) C d_Model_in_14 (by decide) ?_
      exact v_zreturn (pc := 15) C hr rfl ⟨by rw [kIn_2 h7], rfl⟩ d_Model_in_15
    · refine v_iconst (pc := 10) (v := 1) C d_Model_in_10 (by decide) ?_
      refine v_goto (pc := 11) (tgt := 15) C d_Model_in_11 (by decide) ?_
      exact v_zreturn (pc := 15) C hr rfl ⟨by rw [kIn_3 h2 h7], rfl⟩ d_Model_in_15
set_option maxRecDepth 100000 in
set_option maxHeartbeats 4000000 in
theorem m_least (l : Launch) {D : va_G} {ad : Nat → Nat → Nat} {cA : Nat → ClassId} (hJ : ty_J cnM ad) (σ : ty_St) (a b : Int32) : ty_M l y_Model_least (Cond.code y_Model_least b_Model_least 2 (some .int) :: ty_w) (rmL 0) cnM D ad cA [.inl a, .inl b] σ (fun r σ' => r = some (.inl (gLeast a b)) ∧ σ' = σ) := by
  refine ty_M.of rfl hJ layM (ty_oks.cons trivial (ty_oks.cons trivial ty_oks.nil)) (Nat.le_of_ble_eq_true rfl) ?_
  intro p e s m args below meth c C hr hnm
  refine v_iload_n (pc := 0) C d_Model_least_0 rfl rfl ?_
  refine v_iload_n (pc := 1) C d_Model_least_1 rfl rfl ?_
  refine v_icmp_ge (pc := 2) (tgt := 9) C d_Model_least_2 (by decide) (fun h2 => ?_) (fun h2 => ?_)
  · refine v_iload_n (pc := 9) C d_Model_least_9 rfl rfl ?_
    exact v_ireturn (pc := 10) C hr ⟨by unfold gLeast; rw [if_neg (Int32.not_lt.mpr h2)], rfl⟩ d_Model_least_10
  · refine v_iload_n (pc := 5) C d_Model_least_5 rfl rfl ?_
    refine v_goto (pc := 6) (tgt := 10) C d_Model_least_6 (by decide) ?_
    exact v_ireturn (pc := 10) C hr ⟨by unfold gLeast; rw [if_pos (Int32.not_le.mp h2)], rfl⟩ d_Model_least_10
set_option maxRecDepth 100000 in
set_option maxHeartbeats 4000000 in
theorem m_judged (l : Launch) {D : va_G} {ad : Nat → Nat → Nat} {cA : Nat → ClassId} (hJ : ty_J cnM ad) (σ : ty_St) (x : Int32) (t : Nat) (ht : t < 12) (hx : x = nI t) (v why : Int32) : ty_M l y_Model_judged (Cond.code y_Model_judged b_Model_judged 4 none :: ty_w) (rmL 0) cnM D ad cA [.inr (20, 0), .inl x, .inl v, .inl why] σ (fun r σ' => r = none ∧ σ' = gJudged σ t v why) := by
  refine ty_M.of rfl hJ layM (ty_oks.cons (show (0 : Nat) < cnM 20 by decide) (ty_oks.cons trivial (ty_oks.cons trivial (ty_oks.cons trivial ty_oks.nil)))) (Nat.le_of_ble_eq_true rfl) ?_
  intro p e s m args below meth c C hr hnm
  refine v_aload_n (pc := 0) C d_Model_judged_0 rfl rfl ?_
  refine gf_Model_38 (pc := 1) C d_Model_judged_1 ?_
  refine v_iload_n (pc := 4) C d_Model_judged_4 rfl rfl ?_
  refine v_iload_n (pc := 5) C d_Model_judged_5 rfl rfl ?_
  refine v_iastoreK (pc := 6) C rfl rfl (hx) (ht) (by decide) d_Model_judged_6 ?_
  refine v_aload_n (pc := 7) C d_Model_judged_7 rfl rfl ?_
  refine gf_Model_41 (pc := 8) C d_Model_judged_8 ?_
  refine v_iload_n (pc := 11) C d_Model_judged_11 rfl rfl ?_
  refine v_iload_n (pc := 12) C d_Model_judged_12 rfl rfl ?_
  refine v_iastoreK (pc := 13) C rfl rfl (hx) (ht) (by decide) d_Model_judged_13 ?_
  refine v_aload_n (pc := 14) C d_Model_judged_14 rfl rfl ?_
  refine gf_Model_47 (pc := 15) C d_Model_judged_15 ?_
  refine v_iload_n (pc := 18) C d_Model_judged_18 rfl rfl ?_
  refine v_aload_n (pc := 19) C d_Model_judged_19 rfl rfl ?_
  refine gf_Model_117 (pc := 20) C d_Model_judged_20 ?_
  refine v_iastoreK (pc := 23) C rfl rfl (hx) (ht) (by decide) d_Model_judged_23 ?_
  exact v_return (pc := 24) C hr ⟨rfl, rfl⟩ d_Model_judged_24
set_option maxRecDepth 100000 in
set_option maxHeartbeats 4000000 in
theorem m_warns (l : Launch) {D : va_G} {ad : Nat → Nat → Nat} {cA : Nat → ClassId} (hJ : ty_J cnM ad) (σ : ty_St) (hs : ¬ σ 20 0 5 < 0) (t why : Int32) : ty_M l y_Model_warns (Cond.code y_Model_warns b_Model_warns 3 none :: ty_w) (rmL 0) cnM D ad cA [.inr (20, 0), .inl t, .inl why] σ (fun r σ' => r = none ∧ σ' = gWarns σ t why) := by
  refine ty_M.of rfl hJ layM (ty_oks.cons (show (0 : Nat) < cnM 20 by decide) (ty_oks.cons trivial (ty_oks.cons trivial ty_oks.nil))) (Nat.le_of_ble_eq_true rfl) ?_
  intro p e s m args below meth c C hr hnm
  refine v_aload_n (pc := 0) C d_Model_warns_0 rfl rfl ?_
  refine gf_Model_120 (pc := 1) C d_Model_warns_1 ?_
  refine v_bipush (pc := 4) (v := 8) C d_Model_warns_4 (by decide) ?_
  refine v_icmp_ge (pc := 6) (tgt := 25) C d_Model_warns_6 (by decide) (fun h6 => ?_) (fun h6 => ?_)
  · refine v_aload_n (pc := 25) C d_Model_warns_25 rfl rfl ?_
    refine v_dup (pc := 26) C d_Model_warns_26 ?_
    refine gf_Model_120 (pc := 27) C d_Model_warns_27 ?_
    refine v_iconst (pc := 30) (v := 1) C d_Model_warns_30 (by decide) ?_
    refine v_iadd (pc := 31) C d_Model_warns_31 ?_
    refine pf_Model_120 (pc := 32) C d_Model_warns_32 ?_
    exact v_return (pc := 35) C hr ⟨rfl, by unfold gWarns; simp only [if_neg (Int32.not_lt.mpr h6)]⟩ d_Model_warns_35
  · refine v_aload_n (pc := 9) C d_Model_warns_9 rfl rfl ?_
    refine gf_Model_96 (pc := 10) C d_Model_warns_10 ?_
    refine v_aload_n (pc := 13) C d_Model_warns_13 rfl rfl ?_
    refine gf_Model_120 (pc := 14) C d_Model_warns_14 ?_
    refine v_sipush (pc := 17) (v := 1000) C d_Model_warns_17 (by decide) ?_
    refine v_iload_n (pc := 20) C d_Model_warns_20 rfl rfl ?_
    refine v_imul (pc := 21) C d_Model_warns_21 ?_
    refine v_iload_n (pc := 22) C d_Model_warns_22 rfl rfl ?_
    refine v_iadd (pc := 23) C d_Model_warns_23 ?_
    refine v_iastore (pc := 24) C rfl rfl (vp_mono (i32_ge0 hs (N := 8) (Int32.not_le.mp h6) (by decide)) (by decide)) d_Model_warns_24 ?_
    refine v_aload_n (pc := 25) C d_Model_warns_25 rfl rfl ?_
    refine v_dup (pc := 26) C d_Model_warns_26 ?_
    refine gf_Model_120 (pc := 27) C d_Model_warns_27 ?_
    refine v_iconst (pc := 30) (v := 1) C d_Model_warns_30 (by decide) ?_
    refine v_iadd (pc := 31) C d_Model_warns_31 ?_
    refine pf_Model_120 (pc := 32) C d_Model_warns_32 ?_
    exact v_return (pc := 35) C hr ⟨rfl, by unfold gWarns; simp only [if_pos (Int32.not_le.mp h6)]⟩ d_Model_warns_35
set_option maxRecDepth 100000 in
set_option maxHeartbeats 4000000 in
theorem m_says (l : Launch) {D : va_G} {ad : Nat → Nat → Nat} {cA : Nat → ClassId} (hJ : ty_J cnM ad) (σ : ty_St) (hs : ¬ σ 20 0 4 < 0) (h : Nat) (hh : h < 64) (n : Int32) : ty_M l y_Model_says (Cond.code y_Model_says b_Model_says 3 none :: ty_w) (rmL 0) cnM D ad cA [.inr (20, 0), .inl (nI h), .inl n] σ (fun r σ' => r = none ∧ σ' = gSays σ h n) := by
  refine ty_M.of rfl hJ layM (ty_oks.cons (show (0 : Nat) < cnM 20 by decide) (ty_oks.cons trivial (ty_oks.cons trivial ty_oks.nil))) (Nat.le_of_ble_eq_true rfl) ?_
  intro p e s m args below meth c C hr hnm
  refine v_aload_n (pc := 0) C d_Model_says_0 rfl rfl ?_
  refine gf_Model_150 (pc := 1) C d_Model_says_1 ?_
  refine v_bipush (pc := 4) (v := 12) C d_Model_says_4 (by decide) ?_
  refine v_icmp_ge (pc := 6) (tgt := 29) C d_Model_says_6 (by decide) (fun h6 => ?_) (fun h6 => ?_)
  · refine v_aload_n (pc := 29) C d_Model_says_29 rfl rfl ?_
    refine v_dup (pc := 30) C d_Model_says_30 ?_
    refine gf_Model_150 (pc := 31) C d_Model_says_31 ?_
    refine v_iconst (pc := 34) (v := 1) C d_Model_says_34 (by decide) ?_
    refine v_iadd (pc := 35) C d_Model_says_35 ?_
    refine pf_Model_150 (pc := 36) C d_Model_says_36 ?_
    exact v_return (pc := 39) C hr ⟨rfl, by unfold gSays; simp only [if_neg (Int32.not_lt.mpr h6)]⟩ d_Model_says_39
  · refine v_aload_n (pc := 9) C d_Model_says_9 rfl rfl ?_
    refine gf_Model_93 (pc := 10) C d_Model_says_10 ?_
    refine v_aload_n (pc := 13) C d_Model_says_13 rfl rfl ?_
    refine gf_Model_150 (pc := 14) C d_Model_says_14 ?_
    refine v_bipush (pc := 17) (v := 100) C d_Model_says_17 (by decide) ?_
    refine v_aload_n (pc := 19) C d_Model_says_19 rfl rfl ?_
    refine gf_Model_69 (pc := 20) C d_Model_says_20 ?_
    refine v_iload_n (pc := 23) C d_Model_says_23 rfl rfl ?_
    refine v_ialoadK (pc := 24) C rfl rfl (rfl) (hh) (by decide) d_Model_says_24 ?_
    refine v_imul (pc := 25) C d_Model_says_25 ?_
    refine v_iload_n (pc := 26) C d_Model_says_26 rfl rfl ?_
    refine v_iadd (pc := 27) C d_Model_says_27 ?_
    refine v_iastore (pc := 28) C rfl rfl (vp_mono (i32_ge0 hs (N := 12) (Int32.not_le.mp h6) (by decide)) (by decide)) d_Model_says_28 ?_
    refine v_aload_n (pc := 29) C d_Model_says_29 rfl rfl ?_
    refine v_dup (pc := 30) C d_Model_says_30 ?_
    refine gf_Model_150 (pc := 31) C d_Model_says_31 ?_
    refine v_iconst (pc := 34) (v := 1) C d_Model_says_34 (by decide) ?_
    refine v_iadd (pc := 35) C d_Model_says_35 ?_
    refine pf_Model_150 (pc := 36) C d_Model_says_36 ?_
    exact v_return (pc := 39) C hr ⟨rfl, by unfold gSays; simp only [if_pos (Int32.not_le.mp h6)]⟩ d_Model_says_39
set_option maxRecDepth 100000 in
set_option maxHeartbeats 4000000 in
theorem m_starts (l : Launch) {D : va_G} {ad : Nat → Nat → Nat} {cA : Nat → ClassId} (hJ : ty_J cnM ad) (σ : ty_St) (hv : vp_in (σ 20 0 8) 64) (x : Int32) (t : Nat) (ht : t < 12) (hx : x = nI t) (q b : Int32) : ty_M l y_Model_starts (Cond.code y_Model_starts b_Model_starts 5 (some .int) :: ty_w) (rmL 0) cnM D ad cA [.inr (20, 0), .inl x, .inl q, .inl b] σ (fun r σ' => r = some (.inl (σ 20 0 8)) ∧ σ' = gStarts σ t q b) := by
  refine ty_M.of rfl hJ layM (ty_oks.cons (show (0 : Nat) < cnM 20 by decide) (ty_oks.cons trivial (ty_oks.cons trivial (ty_oks.cons trivial ty_oks.nil)))) (Nat.le_of_ble_eq_true rfl) ?_
  intro p e s m args below meth c C hr hnm
  subst hx
  refine v_aload_n (pc := 0) C d_Model_starts_0 rfl rfl ?_
  refine gf_Model_131 (pc := 1) C d_Model_starts_1 ?_
  refine v_istore (pc := 4) C d_Model_starts_4 (by decide) ?_
  refine v_aload_n (pc := 6) C d_Model_starts_6 rfl rfl ?_
  refine v_dup (pc := 7) C d_Model_starts_7 ?_
  refine gf_Model_131 (pc := 8) C d_Model_starts_8 ?_
  refine v_iconst (pc := 11) (v := 1) C d_Model_starts_11 (by decide) ?_
  refine v_iadd (pc := 12) C d_Model_starts_12 ?_
  refine pf_Model_131 (pc := 13) C d_Model_starts_13 ?_
  refine v_aload_n (pc := 16) C d_Model_starts_16 rfl rfl ?_
  refine gf_Model_69 (pc := 17) C d_Model_starts_17 ?_
  refine v_iload (pc := 20) C d_Model_starts_20 rfl ?_
  refine v_iload_n (pc := 22) C d_Model_starts_22 rfl rfl ?_
  refine v_iastore (pc := 23) C rfl rfl hv d_Model_starts_23 ?_
  refine v_aload_n (pc := 24) C d_Model_starts_24 rfl rfl ?_
  refine gf_Model_72 (pc := 25) C d_Model_starts_25 ?_
  refine v_iload (pc := 28) C d_Model_starts_28 rfl ?_
  refine v_iload_n (pc := 30) C d_Model_starts_30 rfl rfl ?_
  refine v_iastore (pc := 31) C rfl rfl hv d_Model_starts_31 ?_
  refine v_aload_n (pc := 32) C d_Model_starts_32 rfl rfl ?_
  refine gf_Model_75 (pc := 33) C d_Model_starts_33 ?_
  refine v_iload (pc := 36) C d_Model_starts_36 rfl ?_
  refine v_iload_n (pc := 38) C d_Model_starts_38 rfl rfl ?_
  refine v_iastore (pc := 39) C rfl rfl hv d_Model_starts_39 ?_
  refine v_aload_n (pc := 40) C d_Model_starts_40 rfl rfl ?_
  refine gf_Model_78 (pc := 41) C d_Model_starts_41 ?_
  refine v_iload (pc := 44) C d_Model_starts_44 rfl ?_
  refine v_iconst (pc := 46) (v := 0) C d_Model_starts_46 (by decide) ?_
  refine v_iastore (pc := 47) C rfl rfl hv d_Model_starts_47 ?_
  refine v_aload_n (pc := 48) C d_Model_starts_48 rfl rfl ?_
  refine gf_Model_81 (pc := 49) C d_Model_starts_49 ?_
  refine v_iload (pc := 52) C d_Model_starts_52 rfl ?_
  refine v_iconst (pc := 54) (v := 0) C d_Model_starts_54 (by decide) ?_
  refine v_iastore (pc := 55) C rfl rfl hv d_Model_starts_55 ?_
  refine v_aload_n (pc := 56) C d_Model_starts_56 rfl rfl ?_
  refine gf_Model_87 (pc := 57) C d_Model_starts_57 ?_
  refine v_iload (pc := 60) C d_Model_starts_60 rfl ?_
  refine v_iconst (pc := 62) (v := 0) C d_Model_starts_62 (by decide) ?_
  refine v_bastore (pc := 63) C rfl rfl hv rfl d_Model_starts_63 ?_
  refine v_aload_n (pc := 64) C d_Model_starts_64 rfl rfl ?_
  refine gf_Model_90 (pc := 65) C d_Model_starts_65 ?_
  refine v_iload (pc := 68) C d_Model_starts_68 rfl ?_
  refine v_iconst (pc := 70) (v := 0) C d_Model_starts_70 (by decide) ?_
  refine v_bastore (pc := 71) C rfl rfl hv rfl d_Model_starts_71 ?_
  refine v_aload_n (pc := 72) C d_Model_starts_72 rfl rfl ?_
  refine gf_Model_59 (pc := 73) C d_Model_starts_73 ?_
  refine v_iload_n (pc := 76) C d_Model_starts_76 rfl rfl ?_
  refine v_dup2 (pc := 77) C d_Model_starts_77 ?_
  refine v_ialoadK (pc := 78) C rfl rfl (rfl) (ht) (by decide) d_Model_starts_78 ?_
  refine v_iconst (pc := 79) (v := 1) C d_Model_starts_79 (by decide) ?_
  refine v_iadd (pc := 80) C d_Model_starts_80 ?_
  refine v_iastoreK (pc := 81) C rfl rfl (rfl) (ht) (by decide) d_Model_starts_81 ?_
  refine v_iload (pc := 82) C d_Model_starts_82 rfl ?_
  exact v_ireturn (pc := 84) C hr ⟨rfl, rfl⟩ d_Model_starts_84
set_option maxRecDepth 100000 in
set_option maxHeartbeats 4000000 in
theorem m_joined (l : Launch) {D : va_G} {ad : Nat → Nat → Nat} {cA : Nat → ClassId} (hJ : ty_J cnM ad) (σ : ty_St) (sc : Nat) (hsc : sc ≤ 64) (hc : σ 20 0 8 = nI sc) (n : Nat) : ty_M l y_Model_joined (Cond.code y_Model_joined b_Model_joined 3 (some .boolean) :: ty_w) (rmL 0) cnM D ad cA [.inr (20, 0), .inl (nI n)] σ (fun r σ' => r = some (.inl (if gJoined σ n sc = true then 1 else 0)) ∧ σ' = σ) := by
  refine ty_M.of rfl hJ layM (ty_oks.cons (show (0 : Nat) < cnM 20 by decide) (ty_oks.cons trivial ty_oks.nil)) (Nat.le_of_ble_eq_true rfl) ?_
  intro p e s m args below meth c C hr hnm
  have loop : ∀ k i, i + k = sc → gJoined σ n i = true → ty_V cnM p l e (rmL 0) s m args below meth c D ad cA (ty_Gd cnM ad s) 3 (MQ below (ty_Q cnM D ad cA (fun r σ' => r = some (.inl (if gJoined σ n sc = true then 1 else 0)) ∧ σ' = σ) (ty_A cnM ad)) args s 0 0 (ty_A cnM ad)) σ [some (.inr (20, 0)), some (.inl (nI n)), some (.inl (nI i))] 2 [] := by
    intro k
    induction k with
    | zero =>
      intro i hi hi0
      have hb := hc
      refine v_iload_n (pc := 2) C d_Model_joined_2 rfl rfl ?_
      refine v_aload_n (pc := 3) C d_Model_joined_3 rfl rfl ?_
      refine gf_Model_131 (pc := 4) C d_Model_joined_4 ?_
      refine v_icmp_ge (pc := 7) (tgt := 38) C d_Model_joined_7 (by decide) (fun h7 => ?_) (fun h7 => ?_)
      · refine v_iconst (pc := 38) (v := 1) C d_Model_joined_38 (by decide) ?_
        exact v_zreturn (pc := 39) C hr rfl ⟨by rw [show sc = i by omega, if_pos hi0], rfl⟩ d_Model_joined_39
      · exact absurd (by rw [hb]; exact nI_le (by omega) (by omega)) h7
    | succ k ih =>
      intro i hi hi0
      have hb := hc
      refine v_iload_n (pc := 2) C d_Model_joined_2 rfl rfl ?_
      refine v_aload_n (pc := 3) C d_Model_joined_3 rfl rfl ?_
      refine gf_Model_131 (pc := 4) C d_Model_joined_4 ?_
      refine v_icmp_ge (pc := 7) (tgt := 38) C d_Model_joined_7 (by decide) (fun h7 => ?_) (fun h7 => ?_)
      · exact absurd h7 (by rw [hb]; exact nI_ge (by omega) (by omega))
      · refine v_aload_n (pc := 10) C d_Model_joined_10 rfl rfl ?_
        refine gf_Model_72 (pc := 11) C d_Model_joined_11 ?_
        refine v_iload_n (pc := 14) C d_Model_joined_14 rfl rfl ?_
        refine v_ialoadK (pc := 15) C rfl rfl (rfl) (by omega) (by decide) d_Model_joined_15 ?_
        refine v_iload_n (pc := 16) C d_Model_joined_16 rfl rfl ?_
        refine v_icmp_ne (pc := 17) (tgt := 32) C d_Model_joined_17 (by decide) (fun h17 => ?_) (fun h17 => ?_)
        · refine v_iinc (pc := 32) C d_Model_joined_32 rfl (show _ + Int32.ofInt 1 = _ + 1 from rfl) (by decide) ?_
          refine v_goto (pc := 35) (tgt := 2) C d_Model_joined_35 (by decide) ?_
          rw [nI_1 i]
          refine ih (i + 1) (by omega) ?_
          simp [gJoined, hi0, h17]
        · refine v_aload_n (pc := 20) C d_Model_joined_20 rfl rfl ?_
          refine gf_Model_81 (pc := 21) C d_Model_joined_21 ?_
          refine v_iload_n (pc := 24) C d_Model_joined_24 rfl rfl ?_
          refine v_ialoadK (pc := 25) C rfl rfl (rfl) (by omega) (by decide) d_Model_joined_25 ?_
          refine v_iconst (pc := 26) (v := 5) C d_Model_joined_26 (by decide) ?_
          refine v_icmp_eq (pc := 27) (tgt := 32) C d_Model_joined_27 (by decide) (fun h27 => ?_) (fun h27 => ?_)
          · refine v_iinc (pc := 32) C d_Model_joined_32 rfl (show _ + Int32.ofInt 1 = _ + 1 from rfl) (by decide) ?_
            refine v_goto (pc := 35) (tgt := 2) C d_Model_joined_35 (by decide) ?_
            rw [nI_1 i]
            refine ih (i + 1) (by omega) ?_
            simp [gJoined, hi0, h27]
          · refine v_iconst (pc := 30) (v := 0) C d_Model_joined_30 (by decide) ?_
            exact v_zreturn (pc := 31) C hr rfl ⟨by
              have : ¬ gJoined σ n sc = true := fun q => by
                have := gJoined_mono (show i + 1 ≤ sc by omega) q
                simp [gJoined, h17, h27] at this
              rw [if_neg this], rfl⟩ d_Model_joined_31
  refine v_iconst (pc := 0) (v := 0) C d_Model_joined_0 (by decide) ?_
  refine v_istore_n (pc := 1) C d_Model_joined_1 rfl (by decide) ?_
  exact loop sc 0 (by omega) rfl
set_option maxRecDepth 100000 in
set_option maxHeartbeats 4000000 in
theorem m_ends (l : Launch) {D : va_G} {ad : Nat → Nat → Nat} {cA : Nat → ClassId} (hJ : ty_J cnM ad) (σ : ty_St) (hs : ¬ σ 20 0 5 < 0) (h : Nat) (hh : h < 64) (ht : vp_in (σ 39 0 h) 12) (why : Int32) : ty_M l y_Model_ends (Cond.code y_Model_ends b_Model_ends 5 none :: ty_w) (rmL 1) cnM D ad cA [.inr (20, 0), .inl (nI h), .inl why] σ (fun r σ' => r = none ∧ σ' = gEnds σ h why) := by
  refine ty_M.of rfl hJ layM (ty_oks.cons (show (0 : Nat) < cnM 20 by decide) (ty_oks.cons trivial (ty_oks.cons trivial ty_oks.nil))) (Nat.le_of_ble_eq_true rfl) ?_
  intro p e s m args below meth c C hr hnm
  have hx : σ 39 0 h = nI (nn (σ 39 0 h)) := by obtain ⟨j, hj, e⟩ := vp_in_of ht (by decide); rw [e, show nn (nI j) = j from nI_clamp (by omega)]
  refine v_aload_n (pc := 0) C d_Model_ends_0 rfl rfl ?_
  refine gf_Model_69 (pc := 1) C d_Model_ends_1 ?_
  refine v_iload_n (pc := 4) C d_Model_ends_4 rfl rfl ?_
  refine v_ialoadK (pc := 5) C rfl rfl (rfl) (hh) (by decide) d_Model_ends_5 ?_
  refine v_istore_n (pc := 6) C d_Model_ends_6 rfl (by decide) ?_
  refine v_aload_n (pc := 7) C d_Model_ends_7 rfl rfl ?_
  refine gf_Model_81 (pc := 8) C d_Model_ends_8 ?_
  refine v_iload_n (pc := 11) C d_Model_ends_11 rfl rfl ?_
  refine v_iconst (pc := 12) (v := 5) C d_Model_ends_12 (by decide) ?_
  refine v_iastoreK (pc := 13) C rfl rfl (rfl) (hh) (by decide) d_Model_ends_13 ?_
  refine v_aload_n (pc := 14) C d_Model_ends_14 rfl rfl ?_
  refine gf_Model_38 (pc := 15) C d_Model_ends_15 ?_
  refine v_iload_n (pc := 18) C d_Model_ends_18 rfl rfl ?_
  refine v_iaload (pc := 19) C rfl rfl ht d_Model_ends_19 ?_
  refine v_if_eq (pc := 20) (tgt := 43) C d_Model_ends_20 (by decide) (fun h20 => ?_) (fun h20 => ?_)
  · refine v_aload_n (pc := 43) C d_Model_ends_43 rfl rfl ?_
    refine gf_Model_53 (pc := 44) C d_Model_ends_44 ?_
    refine v_iload_n (pc := 47) C d_Model_ends_47 rfl rfl ?_
    refine v_iaload (pc := 48) C rfl rfl ht d_Model_ends_48 ?_
    refine v_iload_n (pc := 49) C d_Model_ends_49 rfl rfl ?_
    refine v_icmp_ne (pc := 50) (tgt := 89) C d_Model_ends_50 (by decide) (fun h50 => ?_) (fun h50 => ?_)
    · refine v_iload_n (pc := 89) C d_Model_ends_89 rfl rfl ?_
      refine v_if_lt (pc := 90) (tgt := 118) C d_Model_ends_90 (by decide) (fun h90 => ?_) (fun h90 => ?_)
      · exact v_return (pc := 118) C hr ⟨rfl, by unfold gEnds; rw [if_neg (fun q => q h20)]; rw [if_neg (show ¬ σ 34 0 (nn (σ 39 0 h)) = nI h from h50)]; rw [if_neg (fun q => absurd q.1 (Int32.not_le.mpr h90))]⟩ d_Model_ends_118
      · refine v_aload_n (pc := 93) C d_Model_ends_93 rfl rfl ?_
        refine gf_Model_90 (pc := 94) C d_Model_ends_94 ?_
        refine v_iload_n (pc := 97) C d_Model_ends_97 rfl rfl ?_
        refine v_baloadK (pc := 98) C rfl rfl (rfl) (hh) (by decide) d_Model_ends_98 ?_
        refine v_if_ne (pc := 99) (tgt := 118) C d_Model_ends_99 (by decide) (fun h99 => ?_) (fun h99 => ?_)
        · exact v_return (pc := 118) C hr ⟨rfl, by unfold gEnds; rw [if_neg (fun q => q h20)]; rw [if_neg (show ¬ σ 34 0 (nn (σ 39 0 h)) = nI h from h50)]; rw [if_neg (fun q => h99 q.2.1)]⟩ d_Model_ends_118
        · refine v_aload_n (pc := 102) C d_Model_ends_102 rfl rfl ?_
          refine gf_Model_56 (pc := 103) C d_Model_ends_103 ?_
          refine v_iload_n (pc := 106) C d_Model_ends_106 rfl rfl ?_
          refine v_iaload (pc := 107) C rfl rfl ht d_Model_ends_107 ?_
          refine v_if_ge (pc := 108) (tgt := 118) C d_Model_ends_108 (by decide) (fun h108 => ?_) (fun h108 => ?_)
          · exact v_return (pc := 118) C hr ⟨rfl, by unfold gEnds; rw [if_neg (fun q => q h20)]; rw [if_neg (show ¬ σ 34 0 (nn (σ 39 0 h)) = nI h from h50)]; rw [if_neg (fun q => absurd q.2.2 (Int32.not_lt.mpr h108))]⟩ d_Model_ends_118
          · refine v_aload_n (pc := 111) C d_Model_ends_111 rfl rfl ?_
            refine gf_Model_56 (pc := 112) C d_Model_ends_112 ?_
            refine v_iload_n (pc := 115) C d_Model_ends_115 rfl rfl ?_
            refine v_iload_n (pc := 116) C d_Model_ends_116 rfl rfl ?_
            refine v_iastore (pc := 117) C rfl rfl ht d_Model_ends_117 ?_
            exact v_return (pc := 118) C hr ⟨rfl, by unfold gEnds; rw [if_neg (fun q => q h20)]; rw [if_neg (show ¬ σ 34 0 (nn (σ 39 0 h)) = nI h from h50)]; rw [if_pos (show 0 ≤ why ∧ σ 46 0 h = 0 ∧ σ 35 0 (nn (σ 39 0 h)) < 0 from ⟨Int32.not_lt.mp h90, h99, Int32.not_le.mp h108⟩)]⟩ d_Model_ends_118
    · refine v_iload_n (pc := 53) C d_Model_ends_53 rfl rfl ?_
      refine v_if_lt (pc := 54) (tgt := 61) C d_Model_ends_54 (by decide) (fun h54 => ?_) (fun h54 => ?_)
      · refine v_aload_n (pc := 61) C d_Model_ends_61 rfl rfl ?_
        refine gf_Model_56 (pc := 62) C d_Model_ends_62 ?_
        refine v_iload_n (pc := 65) C d_Model_ends_65 rfl rfl ?_
        refine v_iaload (pc := 66) C rfl rfl ht d_Model_ends_66 ?_
        refine v_istore (pc := 67) C d_Model_ends_67 (by decide) ?_
        refine v_aload_n (pc := 69) C d_Model_ends_69 rfl rfl ?_
        refine v_iload_n (pc := 70) C d_Model_ends_70 rfl rfl ?_
        refine v_iload (pc := 71) C d_Model_ends_71 rfl ?_
        refine v_if_lt (pc := 73) (tgt := 80) C d_Model_ends_73 (by decide) (fun h73 => ?_) (fun h73 => ?_)
        · refine v_iconst (pc := 80) (v := 1) C d_Model_ends_80 (by decide) ?_
          refine v_iload (pc := 81) C d_Model_ends_81 rfl ?_
          refine cl_Model_127 (pc := 83) C (m_judged l hJ (ty_up σ 43 0 h 5) _ (nn (σ 39 0 h)) (vp_lt ht) hx _ _) ⟨rfl, rfl, by decide, by decide⟩ rfl rfl (Nat.le_of_ble_eq_true rfl) d_Model_ends_83 (fun r σ' hq => ?_)
          rw [hq.1, hq.2]
          refine v_goto (pc := 86) (tgt := 118) C d_Model_ends_86 (by decide) ?_
          exact v_return (pc := 118) C hr ⟨rfl, by unfold gEnds; rw [if_neg (fun q => q h20)]; rw [if_pos (show σ 34 0 (nn (σ 39 0 h)) = nI h from h50)]; rw [if_neg (Int32.not_le.mpr h54)]; rw [if_neg (show ¬ 0 ≤ σ 35 0 (nn (σ 39 0 h)) from Int32.not_le.mpr h73)]; try rfl⟩ d_Model_ends_118
        · refine v_iconst (pc := 76) (v := 2) C d_Model_ends_76 (by decide) ?_
          refine v_goto (pc := 77) (tgt := 81) C d_Model_ends_77 (by decide) ?_
          refine v_iload (pc := 81) C d_Model_ends_81 rfl ?_
          refine cl_Model_127 (pc := 83) C (m_judged l hJ (ty_up σ 43 0 h 5) _ (nn (σ 39 0 h)) (vp_lt ht) hx _ _) ⟨rfl, rfl, by decide, by decide⟩ rfl rfl (Nat.le_of_ble_eq_true rfl) d_Model_ends_83 (fun r σ' hq => ?_)
          rw [hq.1, hq.2]
          refine v_goto (pc := 86) (tgt := 118) C d_Model_ends_86 (by decide) ?_
          exact v_return (pc := 118) C hr ⟨rfl, by unfold gEnds; rw [if_neg (fun q => q h20)]; rw [if_pos (show σ 34 0 (nn (σ 39 0 h)) = nI h from h50)]; rw [if_neg (Int32.not_le.mpr h54)]; rw [if_pos (show 0 ≤ σ 35 0 (nn (σ 39 0 h)) from Int32.not_lt.mp h73)]; try rfl⟩ d_Model_ends_118
      · refine v_iload_n (pc := 57) C d_Model_ends_57 rfl rfl ?_
        refine v_goto (pc := 58) (tgt := 67) C d_Model_ends_58 (by decide) ?_
        refine v_istore (pc := 67) C d_Model_ends_67 (by decide) ?_
        refine v_aload_n (pc := 69) C d_Model_ends_69 rfl rfl ?_
        refine v_iload_n (pc := 70) C d_Model_ends_70 rfl rfl ?_
        refine v_iload (pc := 71) C d_Model_ends_71 rfl ?_
        refine v_if_lt (pc := 73) (tgt := 80) C d_Model_ends_73 (by decide) (fun h73 => ?_) (fun h73 => ?_)
        · refine v_iconst (pc := 80) (v := 1) C d_Model_ends_80 (by decide) ?_
          refine v_iload (pc := 81) C d_Model_ends_81 rfl ?_
          refine cl_Model_127 (pc := 83) C (m_judged l hJ (ty_up σ 43 0 h 5) _ (nn (σ 39 0 h)) (vp_lt ht) hx _ _) ⟨rfl, rfl, by decide, by decide⟩ rfl rfl (Nat.le_of_ble_eq_true rfl) d_Model_ends_83 (fun r σ' hq => ?_)
          rw [hq.1, hq.2]
          refine v_goto (pc := 86) (tgt := 118) C d_Model_ends_86 (by decide) ?_
          exact v_return (pc := 118) C hr ⟨rfl, by unfold gEnds; rw [if_neg (fun q => q h20)]; rw [if_pos (show σ 34 0 (nn (σ 39 0 h)) = nI h from h50)]; rw [if_pos (Int32.not_lt.mp h54)]; rw [if_neg (show ¬ 0 ≤ why from Int32.not_le.mpr h73)]; try rfl⟩ d_Model_ends_118
        · refine v_iconst (pc := 76) (v := 2) C d_Model_ends_76 (by decide) ?_
          refine v_goto (pc := 77) (tgt := 81) C d_Model_ends_77 (by decide) ?_
          refine v_iload (pc := 81) C d_Model_ends_81 rfl ?_
          refine cl_Model_127 (pc := 83) C (m_judged l hJ (ty_up σ 43 0 h 5) _ (nn (σ 39 0 h)) (vp_lt ht) hx _ _) ⟨rfl, rfl, by decide, by decide⟩ rfl rfl (Nat.le_of_ble_eq_true rfl) d_Model_ends_83 (fun r σ' hq => ?_)
          rw [hq.1, hq.2]
          refine v_goto (pc := 86) (tgt := 118) C d_Model_ends_86 (by decide) ?_
          exact v_return (pc := 118) C hr ⟨rfl, by unfold gEnds; rw [if_neg (fun q => q h20)]; rw [if_pos (show σ 34 0 (nn (σ 39 0 h)) = nI h from h50)]; rw [if_pos (Int32.not_lt.mp h54)]; rw [if_pos (show 0 ≤ why from Int32.not_lt.mp h73)]; try rfl⟩ d_Model_ends_118
  · refine v_iload_n (pc := 23) C d_Model_ends_23 rfl rfl ?_
    refine v_if_lt (pc := 24) (tgt := 42) C d_Model_ends_24 (by decide) (fun h24 => ?_) (fun h24 => ?_)
    · exact v_return (pc := 42) C hr ⟨rfl, by unfold gEnds; rw [if_pos (show ¬ σ 29 0 (nn (σ 39 0 h)) = 0 from h20)]; rw [if_neg (fun q => absurd q.1 (Int32.not_le.mpr h24))]⟩ d_Model_ends_42
    · refine v_aload_n (pc := 27) C d_Model_ends_27 rfl rfl ?_
      refine gf_Model_90 (pc := 28) C d_Model_ends_28 ?_
      refine v_iload_n (pc := 31) C d_Model_ends_31 rfl rfl ?_
      refine v_baloadK (pc := 32) C rfl rfl (rfl) (hh) (by decide) d_Model_ends_32 ?_
      refine v_if_ne (pc := 33) (tgt := 42) C d_Model_ends_33 (by decide) (fun h33 => ?_) (fun h33 => ?_)
      · exact v_return (pc := 42) C hr ⟨rfl, by unfold gEnds; rw [if_pos (show ¬ σ 29 0 (nn (σ 39 0 h)) = 0 from h20)]; rw [if_neg (fun q => h33 q.2)]⟩ d_Model_ends_42
      · refine v_aload_n (pc := 36) C d_Model_ends_36 rfl rfl ?_
        refine v_iload_n (pc := 37) C d_Model_ends_37 rfl rfl ?_
        refine v_iload_n (pc := 38) C d_Model_ends_38 rfl rfl ?_
        refine cl_Model_123 (pc := 39) C (m_warns l hJ (ty_up σ 43 0 h 5) (by exact hs) _ _) ⟨rfl, rfl, by decide, by decide⟩ rfl rfl (Nat.le_of_ble_eq_true rfl) d_Model_ends_39 (fun r σ' hq => ?_)
        rw [hq.1, hq.2]
        exact v_return (pc := 42) C hr ⟨rfl, by unfold gEnds; rw [if_pos (show ¬ σ 29 0 (nn (σ 39 0 h)) = 0 from h20)]; rw [if_pos (show 0 ≤ why ∧ σ 46 0 h = 0 from ⟨Int32.not_lt.mp h24, h33⟩)]⟩ d_Model_ends_42
