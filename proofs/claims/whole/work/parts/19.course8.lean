section KT
variable {σ : ty_St}
theorem kStartS_1 {q t st : Int32} {j : Nat} (h : ¬ j = 8) : (kStartS σ q t st) 1 0 j = σ 1 0 j := by
  unfold kStartS
  split
  · dsimp only
    rw [up_a (by decide), up_sj h]
    rfl
  · rfl
theorem kLog_a {i : Nat} {x : Int32} {a : Nat} (h5 : ¬ a = 5) (h9 : ¬ a = 9) : (kLog σ i x) a = σ a := by
  unfold kLog
  rw [up_a h5]
  split
  · rw [up_a h9]
  · rfl
theorem kInterrupt_a {n a : Nat} (h : ¬ a = 4) : (kInterrupt σ n).2 a = σ a := by
  unfold kInterrupt
  try dsimp only
  split
  · show (kEnd _ n 100) a = σ a
    unfold kEnd
    rw [up_a h, up_a h, up_a h]
  · show (ty_up _ 4 n 3 _) a = σ a
    rw [up_a h, up_a h]
theorem kWait0_a {n a : Nat} {x : Int32} (h : ¬ a = 4) : (kWait0 σ n x) a = σ a := by
  unfold kWait0
  split
  · rw [up_a h, up_a h]
  · rfl
theorem kWait1_a {n a : Nat} {op : Int32} (h : ¬ a = 4) : (kWait1 σ n op).2 a = σ a := by
  unfold kWait1
  split
  · show (kAt _ n) a = σ a
    unfold kAt
    rw [up_a h, up_a h]
  · rfl
theorem kTake_a {n a : Nat} (h : ¬ a = 4) : (kTake σ n) a = σ a := by unfold kTake; rw [up_a h]
theorem kEnd_a {n a : Nat} {x : Int32} (h : ¬ a = 4) : (kEnd σ n x) a = σ a := by unfold kEnd; rw [up_a h, up_a h]
theorem kWait_a {n a : Nat} {op x : Int32} (h : ¬ a = 4) : (kWait σ n op x).2 a = σ a := by
  unfold kWait
  split
  · rw [kWait1_a h, kWait0_a h]
  · split
    · rw [kInterrupt_a h, kTake_a h, kWait0_a h]
    · rw [kWait1_a h, kTake_a h, kWait0_a h]
theorem kAtOnce_1 {n j : Nat} {op a : Int32} (h : ¬ j = 8) : (kAtOnce σ n op a) 1 0 j = σ 1 0 j := by
  unfold kAtOnce
  split
  · split
    · exact kStartS_1 h
    · rfl
  · split
    · rw [kLog_a (by decide) (by decide)]
    · split
      · rw [kLog_a (by decide) (by decide), kTake_a (by decide)]
      · split
        · rfl
        · split
          · rw [kMark_a (by decide)]
          · rfl
theorem kAction_1 {n j : Nat} (h : ¬ j = 8) : (kAction σ n).2 1 0 j = σ 1 0 j := by
  unfold kAction
  try dsimp only
  split
  · rfl
  · split
    · rw [kWait_a (by decide)]
    · split
      · rfl
      · split
        · rfl
        · show (kAt _ n) 1 0 j = _
          unfold kAt
          rw [up_a (by decide)]
          exact kAtOnce_1 h
theorem kSteps_1 {n j : Nat} (h : ¬ j = 8) : ∀ (k : Nat) (σ : ty_St), (kSteps n k σ) 1 0 j = σ 1 0 j
  | 0, _ => rfl
  | k + 1, σ => by
    unfold kSteps
    split
    · exact kAction_1 h
    · rw [kSteps_1 h k]; exact kAction_1 h
theorem kTell_1 {n : Nat} : (kTell σ n) 1 = σ 1 := by
  unfold kTell
  try dsimp only
  split
  · split
    · rw [kLog_a (by decide) (by decide)]
    · rfl
  · split
    · rfl
    · split
      · rfl
      · rfl
theorem kTurn_1 {n j : Nat} (h : ¬ j = 8) : (kTurn σ n) 1 0 j = σ 1 0 j := by
  unfold kTurn
  split
  · rw [kTell_1]; exact kSteps_1 h _ _
  · exact kSteps_1 h _ _
theorem kTurns_1 {j : Nat} (h : ¬ j = 8) : ∀ k, (kTurns σ k) 1 0 j = σ 1 0 j
  | 0 => rfl
  | k + 1 => by
    unfold kTurns
    split
    · rw [kTurn_1 h]; exact kTurns_1 h k
    · exact kTurns_1 h k
theorem kBegin_1 {t j : Nat} {w : Int32} (h : ¬ j = 8) : (kBegin σ t w) 1 0 j = σ 1 0 j := by
  unfold kBegin
  try dsimp only
  rw [kStartS_1 h]
  rfl
theorem kBegins_1 {j : Nat} (h : ¬ j = 8) : ∀ k, (kBegins σ k) 1 0 j = σ 1 0 j
  | 0 => rfl
  | k + 1 => by
    show (kBegin1 (kBegins σ k) k) 1 0 j = _
    unfold kBegin1
    split
    · rw [kBegin_1 h]; exact kBegins_1 h k
    · exact kBegins_1 h k
variable {tc wc B : Nat}
/-- what a tick's first half is, by the numbers of trials and workers -/
theorem kTick0_eq (h : kInv tc wc B σ) (htc : tc ≤ 12) (hwc : wc ≤ 4) : kTick0 σ = ty_up (kBegins (kRelease (kStop σ tc) wc) tc) 1 0 10 (if (kBegins (kRelease (kStop σ tc) wc) tc) 1 0 10 < kCount (kBegins (kRelease (kStop σ tc) wc) tc) tc then kCount (kBegins (kRelease (kStop σ tc) wc) tc) tc else (kBegins (kRelease (kStop σ tc) wc) tc) 1 0 10) := by
  have g1 := h.stop tc
  have g2 := g1.release wc
  have g3 := g2.begins hwc tc htc
  have e1 : nn (σ 1 0 6) = tc := by rw [h.1.1]; exact nI_clamp (by omega)
  have e2 : nn ((kStop σ tc) 1 0 7) = wc := by rw [g1.1.2.1]; exact nI_clamp (by omega)
  have e3 : nn ((kRelease (kStop σ tc) wc) 1 0 6) = tc := by rw [g2.1.1]; exact nI_clamp (by omega)
  have e4 : nn ((kBegins (kRelease (kStop σ tc) wc) tc) 1 0 6) = tc := by rw [g3.1.1]; exact nI_clamp (by omega)
  unfold kTick0
  try dsimp only
  rw [e1, e2, e3, e4]
theorem kInv.tick0 (h : kInv tc wc B σ) (htc : tc ≤ 12) (hwc : wc ≤ 4) : kInv tc wc B (kTick0 σ) := by
  rw [kTick0_eq h htc hwc]
  exact (((h.stop tc).release wc).begins hwc tc htc).up1 (by decide) (by decide) (by decide) (by decide)
theorem kTick0_11 : (kTick0 σ) 1 0 11 = σ 1 0 11 := by
  unfold kTick0
  try dsimp only
  rw [up_sj (by decide), kBegins_1 (by decide), kRelease_a (by decide) (by decide), kStop_a (by decide) (by decide)]
theorem kTick1_11 : (kTick1 σ) 1 0 11 = σ 1 0 11 + 1 := by
  unfold kTick1
  try dsimp only
  rw [up_ss, kTurns_1 (by decide)]
theorem kInv.tick1 (h : kInv tc wc B σ) (hB : B + 700 < 2000000000) {i : Nat} (hi : i < 150) (ht : σ 1 0 11 = nI i) : kInv tc wc (B + 624) (kTick1 σ) := by
  obtain ⟨sc, hsc, _, e⟩ := id h.2.1
  have en : nn (σ 1 0 8) = sc := by rw [e]; exact nI_clamp (by omega)
  have g := (kInv.turns sc hsc h (by omega)).mono (show B + 12 * sc ≤ B + 624 by omega)
  unfold kTick1
  try dsimp only
  rw [en]
  have et : (kTurns σ sc) 1 0 11 = nI i := (kTurns_1 (by decide) sc).trans ht
  obtain ⟨h1, h2, h3, h4, h5, h6, h7, h8⟩ := g
  refine ⟨?_, ?_, h3, h4, h5, h6, h7, h8⟩
  · rw [up_sj (by decide), up_sj (by decide), up_ss]
    exact ⟨h1.1, h1.2.1, i + 1, by omega, by rw [et, nI_1]⟩
  · rw [up_sj (by decide)]; exact h2
/-- the class between two calls -/
def kInv0 (σ : ty_St) : Prop :=
  (∀ q, q < 10 → ∃ k, k ≤ 10 ∧ σ 2 q 3 = nI k) ∧
  (∀ q j, q < 10 → j < 10 → (σ 6 q j = 5 → vp_in (σ 7 q j) 10) ∧ ∃ k, k ≤ 20 ∧ σ 8 q j = nI k) ∧
  (∀ t, t < 12 → vp_in (σ 3 t 0) 10 ∧ (¬ σ 3 t 6 = -1 → vp_in (σ 3 t 11) 52)) ∧
  (∀ n, n < 52 → vp_in (σ 4 n 0) 10 ∧ vp_in (σ 4 n 1) 12 ∧ (∃ z, z ≤ 20 ∧ σ 4 n 3 = nI z) ∧ (σ 4 n 6 = 0 ∨ σ 4 n 6 = 1))
theorem kForgets_3 {t j : Nat} : ∀ n, (kForgets σ n) 3 t j = if t < n then (kForgetT σ t) 3 t j else σ 3 t j
  | 0 => by rw [if_neg (by omega)]; rfl
  | n + 1 => by
    show (kForgetT (kForgets σ n) n) 3 t j = _
    by_cases e : t = n
    · subst e
      rw [if_pos (by omega)]
      have : ∀ τ : ty_St, τ 3 t j = σ 3 t j → (kForgetT τ t) 3 t j = (kForgetT σ t) 3 t j := by
        intro τ hτ
        unfold kForgetT
        simp only [ty_up, upd, and_self, if_true]
        repeat' split
        all_goals first | rfl | exact hτ
      exact this _ (by rw [kForgets_3 t, if_neg (by omega)])
    · have : (kForgetT (kForgets σ n) n) 3 t = (kForgets σ n) 3 t := by
        unfold kForgetT
        simp only [up_i e]
      rw [this, kForgets_3 n]
      by_cases q : t < n
      · rw [if_pos q, if_pos (by omega)]
      · rw [if_neg q, if_neg (by omega)]
theorem kFreeW_10 {w : Nat} : ∀ n, w < n → (kFreeW σ n) 10 0 w = -1
  | 0, h => absurd h (by omega)
  | n + 1, h => by
    show (ty_up (kFreeW σ n) 10 0 n (-1)) 10 0 w = -1
    by_cases e : w = n
    · rw [e, up_ss]
    · rw [up_sj e]; exact kFreeW_10 n (by omega)
theorem kInv.forget (h : kInv0 σ) (htc : tc ≤ 12) (h6 : σ 1 0 6 = nI tc) (h7 : σ 1 0 7 = nI wc) : kInv tc wc 0 (kForgetRun σ) := by
  have hn : nn (σ 1 0 6) = tc := by rw [h6]; exact nI_clamp (by omega)
  obtain ⟨a3, a4, a5, a6⟩ := h
  unfold kForgetRun
  rw [hn]
  generalize hτ : kFreeW (kForgets σ tc) 4 = τ
  have ea : ∀ a, ¬ a = 3 → ¬ a = 10 → τ a = σ a := fun a q3 q10 => by rw [← hτ, kFreeW_a q10, kForgets_a q3]
  have e3 : ∀ t j, τ 3 t j = if t < tc then (kForgetT σ t) 3 t j else σ 3 t j := fun t j => by rw [← hτ, kFreeW_a (by decide), kForgets_3]
  have e10 : ∀ w, w < 4 → τ 10 0 w = -1 := fun w hw => by rw [← hτ]; exact kFreeW_10 4 hw
  refine ⟨⟨?_, ?_, 0, by omega, ?_⟩, ⟨0, by omega, by omega, ?_⟩, ?_, ?_, ?_, ?_, ?_, ?_⟩
  · rw [up_sj (by decide), up_sj (by decide), up_sj (by decide), up_sj (by decide), up_a (by decide), up_a (by decide), ea 1 (by decide) (by decide)]; exact h6
  · rw [up_sj (by decide), up_sj (by decide), up_sj (by decide), up_sj (by decide), up_a (by decide), up_a (by decide), ea 1 (by decide) (by decide)]; exact h7
  · rw [up_ss]; rfl
  · rw [up_sj (by decide), up_sj (by decide), up_sj (by decide), up_ss]; rfl
  · intro q hq
    show ∃ k, k ≤ 10 ∧ τ 2 q 3 = nI k
    rw [ea 2 (by decide) (by decide)]; exact a3 q hq
  · intro q j hq hj
    show (τ 6 q j = 5 → vp_in (τ 7 q j) 10) ∧ ∃ k, k ≤ 20 ∧ τ 8 q j = nI k
    rw [ea 6 (by decide) (by decide), ea 7 (by decide) (by decide), ea 8 (by decide) (by decide)]; exact a4 q j hq hj
  · intro t ht
    show vp_in (τ 3 t 0) 10 ∧ (¬ τ 3 t 6 = -1 → vp_in (τ 3 t 11) 52)
    rw [e3, e3, e3]
    by_cases q : t < tc
    · rw [if_pos q, if_pos q, if_pos q]
      have f0 : (kForgetT σ t) 3 t 0 = σ 3 t 0 := by simp [kForgetT, ty_up, upd]
      have f6 : (kForgetT σ t) 3 t 6 = -1 := by simp [kForgetT, ty_up, upd]
      rw [f0, f6]
      exact ⟨(a5 t ht).1, fun z => absurd rfl z⟩
    · rw [if_neg q, if_neg q, if_neg q]; exact a5 t ht
  · intro n hn'
    show vp_in (τ 4 n 0) 10 ∧ vp_in (τ 4 n 1) 12 ∧ (∃ z, z ≤ 20 ∧ τ 4 n 3 = nI z) ∧ (τ 4 n 6 = 0 ∨ τ 4 n 6 = 1)
    rw [ea 4 (by decide) (by decide)]; exact a6 n hn'
  · intro w hw hq
    exact absurd (e10 w hw) hq
  · intro i hi
    refine ⟨0, by omega, ?_⟩
    rcases (show i = 0 ∨ i = 1 by omega) with rfl | rfl
    · rw [up_a (by decide), up_a (by decide), up_a (by decide), up_a (by decide), up_i (by decide), up_ss]; rfl
    · rw [up_a (by decide), up_a (by decide), up_a (by decide), up_a (by decide), up_ss]; rfl
end KT
set_option maxRecDepth 100000 in
set_option maxHeartbeats 4000000 in
theorem c_Course_perform (l : Launch) {D : va_G} {ad : Nat → Nat → Nat} {cA : Nat → ClassId} (hJ : ty_J cnC ad) (σ : ty_St) (hI : kInv0 σ) (tc : Nat) (htc : tc ≤ 12) (wc : Nat) (hwc : wc ≤ 4) : ty_M l y_Course_perform (Cond.code y_Course_perform b_Course_perform 4 (some .int) :: ty_w) (rmL 6) cnC D ad cA [.inr (1, 0), .inl (nI tc), .inl (nI wc)] σ (fun r σ' => r = some (.inl ((kPerform σ (nI tc) (nI wc)) 1 0 11)) ∧ σ' = kPerform σ (nI tc) (nI wc)) := by
  refine ty_M.of rfl hJ layC (ty_oks.cons (show (0 : Nat) < cnC 1 by decide) (ty_oks.cons trivial (ty_oks.cons trivial ty_oks.nil))) (Nat.le_of_ble_eq_true rfl) ?_
  intro p e s m args below meth c C hr hnm
  have g0 : kInv tc wc 0 (kForgetRun (ty_up (ty_up σ 1 0 6 (nI tc)) 1 0 7 (nI wc))) := kInv.forget hI htc (by rw [up_sj (by decide), up_ss]) (by rw [up_ss])
  have fin : ∀ (τ : ty_St) (B' : Nat) (x : Int32), kInv tc wc B' τ → τ = kTicks 150 (kForgetRun (ty_up (ty_up σ 1 0 6 (nI tc)) 1 0 7 (nI wc))) → ty_V cnC p l e (rmL 6) s m args below meth c D ad cA (ty_Gd cnC ad s) 4 (MQ below (ty_Q cnC D ad cA (fun r σ' => r = some (.inl ((kPerform σ (nI tc) (nI wc)) 1 0 11)) ∧ σ' = kPerform σ (nI tc) (nI wc)) (ty_A cnC ad)) args s 0 0 (ty_A cnC ad)) τ [some (.inr (1, 0)), some (.inl (nI tc)), some (.inl (nI wc)), some (.inl x)] 80 [] := by
    intro τ B' x hI' hτ
    obtain ⟨sc, hsc, _, e8⟩ := id hI'.2.1
    refine v_aload_n (pc := 80) C d_Course_perform_80 rfl rfl ?_
    refine cl_Course_90 (pc := 81) C (c_Course_leave l hJ τ tc htc hI'.1.1 sc hsc e8) ⟨rfl, rfl, by decide, by decide⟩ rfl rfl (Nat.le_of_ble_eq_true rfl) d_Course_perform_81 (fun r σ' hq => ?_)
    rw [hq.1, hq.2]
    refine v_aload_n (pc := 84) C d_Course_perform_84 rfl rfl ?_
    refine gf_Course_87 (pc := 85) C d_Course_perform_85 ?_
    exact v_ireturn (pc := 88) C hr ⟨by unfold kPerform; rw [← hτ], by unfold kPerform; rw [← hτ]⟩ d_Course_perform_88
  have loop : ∀ k i, i + k = 150 → ∀ τ : ty_St, kInv tc wc (624 * i) τ → τ 1 0 11 = nI i → kTicks 150 (kForgetRun (ty_up (ty_up σ 1 0 6 (nI tc)) 1 0 7 (nI wc))) = kTicks k τ → ty_V cnC p l e (rmL 6) s m args below meth c D ad cA (ty_Gd cnC ad s) 4 (MQ below (ty_Q cnC D ad cA (fun r σ' => r = some (.inl ((kPerform σ (nI tc) (nI wc)) 1 0 11)) ∧ σ' = kPerform σ (nI tc) (nI wc)) (ty_A cnC ad)) args s 0 0 (ty_A cnC ad)) τ [some (.inr (1, 0)), some (.inl (nI tc)), some (.inl (nI wc)), some (.inl (nI i))] 16 [] := by
    intro k
    induction k with
    | zero =>
      intro i hi τ hI' ht hk
      refine v_iload_n (pc := 16) C d_Course_perform_16 rfl rfl ?_
      refine v_sipush (pc := 17) (v := 150) C d_Course_perform_17 (by decide) ?_
      refine v_icmp_ge (pc := 20) (tgt := 80) C d_Course_perform_20 (by decide) (fun h20 => ?_) (fun h20 => ?_)
      · exact fin τ _ _ hI' hk.symm
      · exact absurd (show (150 : Int32) ≤ nI i from nI_le (show 150 ≤ i by omega) (by omega)) h20
    | succ k ih =>
      intro i hi τ hI' ht hk
      have g1 := hI'.stop tc
      have g2 := g1.release wc
      have g3 := g2.begins hwc tc htc
      have g4 := hI'.tick0 htc hwc
      have e4 := kTick0_eq hI' htc hwc
      have hk1 : kTicks (k + 1) τ = if kFinished (kTick0 τ) = true then kTick0 τ else kTicks k (kTick1 (kTick0 τ)) := rfl
      have n6 : nn ((kTick0 τ) 1 0 6) = tc := by rw [g4.1.1]; exact nI_clamp (by omega)
      have n7 : nn ((kTick0 τ) 1 0 7) = wc := by rw [g4.1.2.1]; exact nI_clamp (by omega)
      obtain ⟨sc, hsc, _, e8⟩ := id g4.2.1
      have n8 : nn ((kTick0 τ) 1 0 8) = sc := by rw [e8]; exact nI_clamp (by omega)
      refine v_iload_n (pc := 16) C d_Course_perform_16 rfl rfl ?_
      refine v_sipush (pc := 17) (v := 150) C d_Course_perform_17 (by decide) ?_
      refine v_icmp_ge (pc := 20) (tgt := 80) C d_Course_perform_20 (by decide) (fun h20 => ?_) (fun h20 => ?_)
      · exact absurd h20 (nI_ge (show i < 150 by omega) (by decide))
      · refine v_aload_n (pc := 23) C d_Course_perform_23 rfl rfl ?_
        refine cl_Course_58 (pc := 24) C (c_Course_stop l hJ τ tc htc hI'.1.1 (fun t ht => (hI'.2.2.2.2.1 t ht).2)) ⟨rfl, rfl, by decide, by decide⟩ rfl rfl (Nat.le_of_ble_eq_true rfl) d_Course_perform_24 (fun r σ' hq => ?_)
        rw [hq.1, hq.2]
        refine v_aload_n (pc := 27) C d_Course_perform_27 rfl rfl ?_
        refine cl_Course_61 (pc := 28) C (c_Course_release l hJ (kStop τ tc) wc hwc g1.1.2.1 (fun w hw q => ⟨(g1.2.2.2.2.2.2.1 w hw q).1, (g1.2.2.2.2.1 _ (vp_lt (g1.2.2.2.2.2.2.1 w hw q).1)).2 (g1.2.2.2.2.2.2.1 w hw q).2⟩)) ⟨rfl, rfl, by decide, by decide⟩ rfl rfl (Nat.le_of_ble_eq_true rfl) d_Course_perform_28 (fun r σ' hq => ?_)
        rw [hq.1, hq.2]
        refine v_aload_n (pc := 31) C d_Course_perform_31 rfl rfl ?_
        refine cl_Course_64 (pc := 32) C (c_Course_begins l hJ (kRelease (kStop τ tc) wc) tc wc _ g2 htc hwc) ⟨rfl, rfl, by decide, by decide⟩ rfl rfl (Nat.le_of_ble_eq_true rfl) d_Course_perform_32 (fun r σ' hq => ?_)
        rw [hq.1, hq.2]
        refine v_aload_n (pc := 35) C d_Course_perform_35 rfl rfl ?_
        refine v_aload_n (pc := 36) C d_Course_perform_36 rfl rfl ?_
        refine gf_Course_67 (pc := 37) C d_Course_perform_37 ?_
        refine v_aload_n (pc := 40) C d_Course_perform_40 rfl rfl ?_
        refine cl_Course_70 (pc := 41) C (c_Course_count l hJ _ tc htc g3.1.1) ⟨rfl, rfl, by decide, by decide⟩ rfl rfl (Nat.le_of_ble_eq_true rfl) d_Course_perform_41 (fun r σ' hq => ?_)
        rw [hq.1, hq.2]
        refine cl_Course_74 (pc := 44) C (by decide) (by decide) d_Course_perform_44 ?_
        skip
        refine pf_Course_67 (pc := 47) C d_Course_perform_47 ?_
        rw [← e4]
        refine v_aload_n (pc := 50) C d_Course_perform_50 rfl rfl ?_
        refine cl_Course_80 (pc := 51) C (c_Course_finished l hJ (kTick0 τ) tc htc g4.1.1 wc hwc g4.1.2.1) ⟨rfl, rfl, by decide, by decide⟩ rfl rfl (Nat.le_of_ble_eq_true rfl) d_Course_perform_51 (fun r σ' hq => ?_)
        rw [hq.1, hq.2]
        refine v_if_eq (pc := 54) (tgt := 60) C d_Course_perform_54 (by decide) (fun h54 => ?_) (fun h54 => ?_)
        · refine v_aload_n (pc := 60) C d_Course_perform_60 rfl rfl ?_
          refine cl_Course_84 (pc := 61) C (c_Course_turns l hJ (kTick0 τ) tc wc _ g4 (by omega) sc hsc e8) ⟨rfl, rfl, by decide, by decide⟩ rfl rfl (Nat.le_of_ble_eq_true rfl) d_Course_perform_61 (fun r σ' hq => ?_)
          rw [hq.1, hq.2]
          refine v_aload_n (pc := 64) C d_Course_perform_64 rfl rfl ?_
          refine v_dup (pc := 65) C d_Course_perform_65 ?_
          refine gf_Course_87 (pc := 66) C d_Course_perform_66 ?_
          refine v_iconst (pc := 69) (v := 1) C d_Course_perform_69 (by decide) ?_
          refine v_iadd (pc := 70) C d_Course_perform_70 ?_
          refine pf_Course_87 (pc := 71) C d_Course_perform_71 ?_
          refine v_iinc (pc := 74) C d_Course_perform_74 rfl (show _ + Int32.ofInt 1 = _ + 1 from rfl) (by decide) ?_
          refine v_goto (pc := 77) (tgt := 16) C d_Course_perform_77 (by decide) ?_
          rw [nI_1 i]
          have et : (kTick0 τ) 1 0 11 = nI i := kTick0_11.trans ht
          have e1 : ty_up (kTurns (kTick0 τ) sc) 1 0 11 ((kTurns (kTick0 τ) sc) 1 0 11 + 1) = kTick1 (kTick0 τ) := by unfold kTick1; rw [n8]
          rw [e1]
          refine ih (i + 1) (by omega) _ ((g4.tick1 (by omega) (by omega) et).mono (by omega)) (by rw [kTick1_11, et, nI_1]) ?_
          rw [hk, hk1, if_neg (fun q => ?_)]
          unfold kFinished at q
          rw [n6, n7, Bool.and_eq_true] at q
          rw [if_pos q] at h54
          exact absurd h54 (by decide)
        · refine v_goto (pc := 57) (tgt := 80) C d_Course_perform_57 (by decide) ?_
          exact fin _ _ _ g4 (by rw [hk, hk1, if_pos (by unfold kFinished; rw [n6, n7]; by_cases e : kDone (kTick0 τ) tc = true ∧ kIdle (kTick0 τ) wc = true; simp [e]; exact absurd (if_neg e) h54)])
  refine v_aload_n (pc := 0) C d_Course_perform_0 rfl rfl ?_
  refine v_iload_n (pc := 1) C d_Course_perform_1 rfl rfl ?_
  refine pf_Course_48 (pc := 2) C d_Course_perform_2 ?_
  refine v_aload_n (pc := 5) C d_Course_perform_5 rfl rfl ?_
  refine v_iload_n (pc := 6) C d_Course_perform_6 rfl rfl ?_
  refine pf_Course_52 (pc := 7) C d_Course_perform_7 ?_
  refine v_aload_n (pc := 10) C d_Course_perform_10 rfl rfl ?_
  refine cl_Course_55 (pc := 11) C (c_Course_forgetRun l hJ _ tc htc (by rw [up_sj (by decide), up_ss])) ⟨rfl, rfl, by decide, by decide⟩ rfl rfl (Nat.le_of_ble_eq_true rfl) d_Course_perform_11 (fun r σ' hq => ?_)
  rw [hq.1, hq.2]
  refine v_iconst (pc := 14) (v := 0) C d_Course_perform_14 (by decide) ?_
  refine v_istore_n (pc := 15) C d_Course_perform_15 rfl (by decide) ?_
  exact loop 150 0 (by omega) _ g0 (by unfold kForgetRun; rw [up_ss]; rfl) rfl
