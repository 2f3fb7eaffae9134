section E5
variable {tc wc : Nat} {σ τ : ty_St}
theorem kAt_a {n a : Nat} (h : ¬ a = 4) : (kAt σ n) a = σ a := up_a h
theorem eOf_5 (op : Int32) : ¬ eOf op = 5 ∧ ¬ eOf op = 0 := by
  unfold eOf
  repeat' split
  all_goals decide
theorem kAct_w {op a : Int32} (h : kAct op a = 1) (ho : op = 0 ∨ op = 1) : ∃ k, 1 ≤ k ∧ k ≤ 20 ∧ a = nI k := by
  unfold kAct at h
  rw [if_pos ho] at h
  unfold kIn at h
  split at h
  · rename_i q
    obtain ⟨j, hj, e⟩ := nI_of2 (x := a) (M := 20) (n := 20) (by decide) (Int32.not_lt.mpr (Int32.le_trans (by decide) q.1)) q.2
    refine ⟨j, ?_, hj, e⟩
    by_cases c : j = 0
    · rw [e, c] at q; exact absurd q.1 (by decide)
    · omega
  · exact absurd h (by decide)
theorem kAct_3 {a : Int32} (h : kAct 3 a = 1) : 0 ≤ a := by
  unfold kAct at h
  rw [if_neg (by decide), if_pos (by decide)] at h
  unfold kIn at h
  split at h
  · rename_i q; exact q.1
  · exact absurd h (by decide)
theorem nI_inj {a b : Nat} (h : nI a = nI b) (ha : a < 1000000) (hb : b < 1000000) : a = b := (nI_eq (by omega) (by omega)).mp h
theorem eWaitOn (hx : eX tc wc σ τ) {h : Nat} (hy : eY h σ τ) (h8 : σ 4 h 8 = 0) (h4 : σ 4 h 4 = 1) {k z : Nat} (hk : k ≤ 10) (hz : z < k) (h2 : σ 2 (nn (σ 4 h 0)) 3 = nI k) (h3 : σ 4 h 3 = nI z) (h42 : τ 42 0 h = nI (z + 1)) (h43 : ¬ τ 43 0 h = 5) {op : Int32} (ho : σ 6 (nn (σ 4 h 0)) z = op) (hop : op = 0 ∨ op = 1 ∨ op = 2 ∨ op = 7) {x : Int32} (hx5 : op = 0 ∨ op = 1 → x = σ 4 h 5) : eRes tc wc h σ (ty_up (ty_up τ 43 0 h (eOf op)) 44 0 h x) := by
  refine Or.inr ⟨h8, (hx.r43 h43 (eOf_5 op).1).r44, (hy.r).r, fun _ => Or.inr ⟨h4, k, z, hk, hz, h2, h3, ?_, ?_⟩, ?_⟩
  · simp only [up_all, reduceIte, Nat.reduceEqDiff, and_self, and_true, true_and, and_false, false_and, Nat.one_ne_zero, Nat.zero_ne_one]; exact h42
  · rw [ho]
    simp only [up_all, reduceIte, Nat.reduceEqDiff, and_self, and_true, true_and, and_false, false_and, Nat.one_ne_zero, Nat.zero_ne_one]
    exact ⟨hop, hx5⟩
  · simp only [up_all, reduceIte, Nat.reduceEqDiff, and_self, and_true, true_and, and_false, false_and, Nat.one_ne_zero, Nat.zero_ne_one]; exact (eOf_5 op).2
theorem eGo.of {h z : Nat} {σ0 σ' τ' : ty_St} (g : eGo tc wc h z σ0 σ' τ') (e0 : σ0 4 h 0 = σ 4 h 0) (e1 : σ0 1 = σ 1) (e2 : σ0 2 = σ 2) : eGo tc wc h z σ σ' τ' := by
  obtain ⟨z', a1, a2, a3, a4, a5, a6, a7⟩ := g
  exact ⟨z', a1, a2, a3, a4, a5.trans e0, by rw [← e1]; exact a6, a7.trans e2⟩
/-- a wait that begins -/
theorem eWaitNew (hx : eX tc wc σ τ) (htc : tc ≤ 12) {h : Nat} (hy : eY h σ τ) {sc : Nat} (hsc : sc ≤ 52) (hs : σ 1 0 8 = nI sc) (hh : h < sc) {tm : Nat} (htm : tm ≤ 150) (h11 : σ 1 0 11 = nI tm) (h8 : σ 4 h 8 = 0) (h4 : σ 4 h 4 = 0) {k z : Nat} (hp : ePq σ τ (nn (σ 4 h 0)) k) (hz : z < k) (h3 : σ 4 h 3 = nI z) (h42 : τ 42 0 h = nI (z + 1)) (h43 : τ 43 0 h = 0) {op a : Int32} (ho : σ 6 (nn (σ 4 h 0)) z = op) (hop : op = 0 ∨ op = 1 ∨ op = 2 ∨ op = 7) (hact : kAct op a = 1) :
    ((kWait σ h op a).1 = 0 ∧ eRes tc wc h (kWait σ h op a).2 (gAct τ h op a)) ∨ ((kWait σ h op a).1 = 1 ∧ eGo tc wc h z σ (kWait σ h op a).2 (gAct τ h op a)) := by
  have hk := hp.1
  have n8 : nn (σ 1 0 8) = sc := by rw [hs]; exact nnI (by omega)
  obtain ⟨s1, s2, -⟩ := hx.2.2.2.2 h (by omega)
  have n43 : ¬ τ 43 0 h = 5 := by rw [h43]; decide
  have et : τ 20 0 3 = σ 1 0 11 := hx.1.2.1.1.symm
  have e0 : kWait0 σ h a = ty_up (ty_up σ 4 h 4 1) 4 h 5 (σ 1 0 11 + a) := by unfold kWait0; rw [if_pos h4]
  have hx0 : eX tc wc (kWait0 σ h a) τ := by rw [e0]; exact (hx.up4 (by simp)).up4 (by simp)
  have hy0 : eY h (kWait0 σ h a) τ := by rw [e0]; exact (hy.up4).up4
  have w0 : (kWait0 σ h a) 4 h 0 = σ 4 h 0 := kWait0_3 (by decide) (by decide)
  have w3 : (kWait0 σ h a) 4 h 3 = nI z := (kWait0_3 (by decide) (by decide)).trans h3
  have w6 : (kWait0 σ h a) 4 h 6 = τ 45 0 h := (kWait0_3 (by decide) (by decide)).trans s1.2.2.2.1
  have w8 : (kWait0 σ h a) 4 h 8 = 0 := (kWait0_3 (by decide) (by decide)).trans h8
  have w4 : (kWait0 σ h a) 4 h 4 = 1 := by rw [e0]; simp only [up_all, reduceIte, Nat.reduceEqDiff, and_self, and_true, true_and, and_false, false_and, Nat.one_ne_zero, Nat.zero_ne_one]
  have w5 : (kWait0 σ h a) 4 h 5 = σ 1 0 11 + a := by rw [e0]; simp only [up_all, reduceIte, Nat.reduceEqDiff, and_self, and_true, true_and, and_false, false_and, Nat.one_ne_zero, Nat.zero_ne_one]
  have wa1 : (kWait0 σ h a) 1 = σ 1 := kWait0_a (by decide)
  have wa2 : (kWait0 σ h a) 2 = σ 2 := kWait0_a (by decide)
  have wa6 : (kWait0 σ h a) 6 = σ 6 := kWait0_a (by decide)
  have wa7 : (kWait0 σ h a) 7 = σ 7 := kWait0_a (by decide)
  have wa8 : (kWait0 σ h a) 8 = σ 8 := kWait0_a (by decide)
  have on : ∀ x, (op = 0 ∨ op = 1 → x = σ 1 0 11 + a) → eRes tc wc h (kWait0 σ h a) (ty_up (ty_up τ 43 0 h (eOf op)) 44 0 h x) := fun x hx5 =>
    eWaitOn hx0 hy0 w8 w4 hk hz (by rw [wa2, w0]; exact hp.2.1) w3 h42 n43 (by rw [wa6, w0]; exact ho) hop (fun q => by rw [w5]; exact hx5 q)
  have gw : nn (τ 42 0 h - 1) = z := by rw [h42, nI_pred]; exact nnI (by omega)
  have int : ¬ op = 0 → ¬ τ 45 0 h = 0 → ((kWait σ h op a).1 = 0 ∧ eRes tc wc h (kWait σ h op a).2 (gInterrupts τ h z)) ∨ ((kWait σ h op a).1 = 1 ∧ eGo tc wc h z σ (kWait σ h op a).2 (gInterrupts τ h z)) := by
    intro o0 m
    unfold kWait
    rw [if_neg o0, if_pos (show ¬ (kWait0 σ h a) 4 h 6 = 0 by rw [w6]; exact m)]
    have hp0 : ePq (kWait0 σ h a) τ (nn ((kWait0 σ h a) 4 h 0)) k := by
      rw [w0]
      simp only [ePq] at hp ⊢
      rw [wa2, wa6, wa7, wa8]; exact hp
    rcases hx0.intr htc hy0 (by rw [wa1]; omega) (by rw [wa1]; omega) htm (by rw [wa1]; exact h11) w8 hp0 hz w3 with y | y
    · exact Or.inl y
    · exact Or.inr ⟨y.1, y.2.of w0 wa1 wa2⟩
  have notm : ¬ op = 0 → τ 45 0 h = 0 → kWait σ h op a = kWait1 (kWait0 σ h a) h op := by
    intro o0 m
    unfold kWait
    rw [if_neg o0, if_neg (show ¬ ¬ (kWait0 σ h a) 4 h 6 = 0 by rw [w6]; exact fun y => y m)]
    have : kTake (kWait0 σ h a) h = kWait0 σ h a := up_self (by rw [w6]; exact m)
    rw [this]
  have nr : op = 0 ∨ op = 1 → kWait1 (kWait0 σ h a) h op = (0, kWait0 σ h a) := by
    intro o
    obtain ⟨j, j1, j2, ea⟩ := kAct_w hact o
    have o7 : ¬ op = 7 := by rcases o with o | o <;> rw [o] <;> decide
    unfold kWait1 kReady
    rw [if_neg o7, if_neg]
    rw [w5, wa1, h11, ea, nI_add]
    intro y
    have := (of_decide_eq_true y).2
    have := (nI_leI (by omega) (by omega)).mp this
    omega
  rcases hop with o | o | o | o
  · left
    have o2 : kWait σ h op a = kWait1 (kWait0 σ h a) h op := by unfold kWait; rw [if_pos o]
    rw [o2, nr (Or.inl o)]
    have eg : gAct τ h op a = ty_up (ty_up τ 43 0 h (eOf op)) 44 0 h (τ 20 0 3 + a) := by
      unfold gAct gWaits
      rw [if_pos o, if_neg (show ¬ (¬ (1 : Int32) = 1 ∧ _) from fun y => y.1 rfl), o]
      rfl
    rw [eg, et]
    exact ⟨rfl, on _ (fun _ => rfl)⟩
  · have o0 : ¬ op = 0 := by rw [o]; decide
    by_cases m : τ 45 0 h = 0
    · left
      rw [notm o0 m, nr (Or.inr o)]
      have eg : gAct τ h op a = ty_up (ty_up τ 43 0 h (eOf op)) 44 0 h (τ 20 0 3 + a) := by
        unfold gAct gWaits
        rw [if_neg o0, if_pos o, if_neg (show ¬ (¬ (2 : Int32) = 1 ∧ ¬ τ 45 0 h = 0) from fun y => y.2 m), o]
        rfl
      rw [eg, et]
      exact ⟨rfl, on _ (fun _ => rfl)⟩
    · have eg : gAct τ h op a = gInterrupts τ h z := by
        unfold gAct gWaits
        rw [if_neg o0, if_pos o, if_pos (show (¬ (2 : Int32) = 1 ∧ ¬ τ 45 0 h = 0) from ⟨by decide, m⟩), gw]
      rw [eg]
      exact int o0 m
  · have o0 : ¬ op = 0 := by rw [o]; decide
    have o1 : ¬ op = 1 := by rw [o]; decide
    by_cases m : τ 45 0 h = 0
    · left
      have n2 : kWait1 (kWait0 σ h a) h op = (0, kWait0 σ h a) := by
        unfold kWait1 kReady
        rw [if_neg (show ¬ op = 7 by rw [o]; decide), if_neg]
        intro y
        exact (of_decide_eq_true y).1 o
      rw [notm o0 m, n2]
      have eg : gAct τ h op a = ty_up (ty_up τ 43 0 h (eOf op)) 44 0 h (τ 20 0 3 + 0) := by
        unfold gAct gWaits
        rw [if_neg o0, if_neg o1, if_pos o, if_neg (show ¬ (¬ (3 : Int32) = 1 ∧ ¬ τ 45 0 h = 0) from fun y => y.2 m), o]
        rfl
      rw [eg]
      exact ⟨rfl, on _ (fun y => absurd y (by rw [o]; decide))⟩
    · have eg : gAct τ h op a = gInterrupts τ h z := by
        unfold gAct gWaits
        rw [if_neg o0, if_neg o1, if_pos o, if_pos (show (¬ (3 : Int32) = 1 ∧ ¬ τ 45 0 h = 0) from ⟨by decide, m⟩), gw]
      rw [eg]
      exact int o0 m
  · have o0 : ¬ op = 0 := by rw [o]; decide
    have o1 : ¬ op = 1 := by rw [o]; decide
    have o2 : ¬ op = 2 := by rw [o]; decide
    have o3 : ¬ op = 3 := by rw [o]; decide
    have o5 : ¬ op = 5 := by rw [o]; decide
    have o6 : ¬ op = 6 := by rw [o]; decide
    by_cases m : τ 45 0 h = 0
    · have eov : kOver (kWait0 σ h a) h (nn ((kWait0 σ h a) 1 0 8)) = gJoined τ h (nn (τ 20 0 8)) := by
        rw [wa1, ← hx.1.2.1.2.2.2.2.2]
        exact eOver hx0 _ (by rw [wa1]; exact Nat.le_refl _)
      by_cases j : gJoined τ h (nn (τ 20 0 8)) = true
      · right
        have n2 : kWait1 (kWait0 σ h a) h op = (1, kAt (ty_up (kWait0 σ h a) 4 h 4 0) h) := by
          unfold kWait1 kReady
          rw [if_pos o, eov, if_pos j]
        have eg : gAct τ h op a = τ := by
          unfold gAct
          rw [if_neg o0, if_neg o1, if_neg o2, if_neg o3, if_neg o5, if_neg o6, if_pos o, if_pos ⟨m, j⟩]
        rw [notm o0 m, n2, eg]
        refine ⟨rfl, z + 1, by omega, ?_, ?_, ?_, ?_, ?_, ?_⟩
        · exact (hx0.up4 (by simp)).up4 (by simp)
        · exact (hy0.up4).up4
        · unfold kAt
          simp only [eD, up_all, reduceIte, Nat.reduceEqDiff, and_self, and_true, true_and, and_false, false_and, Nat.one_ne_zero, Nat.zero_ne_one]
          refine ⟨w8, h43, by omega, ?_, k, hk, ?_, ?_⟩
          · rw [w3, nI_1]
          · rw [wa2, w0]; exact hp.2.1
          · rw [h42]; congr 1; split <;> omega
        · unfold kAt; simp only [up_all, reduceIte, Nat.reduceEqDiff, and_self, and_true, true_and, and_false, false_and, Nat.one_ne_zero, Nat.zero_ne_one]; exact w0
        · have : (kAt (ty_up (kWait0 σ h a) 4 h 4 0) h) 1 = σ 1 := by unfold kAt; rw [up_a (by decide), up_a (by decide), wa1]
          show nn (σ 1 0 8) ≤ nn ((kAt (ty_up (kWait0 σ h a) 4 h 4 0) h) 1 0 8)
          rw [this]; exact Nat.le_refl _
        · show (kAt (ty_up (kWait0 σ h a) 4 h 4 0) h) 2 = σ 2
          rw [kAt_a (by decide), up_a (by decide), wa2]
      · left
        have n2 : kWait1 (kWait0 σ h a) h op = (0, kWait0 σ h a) := by
          unfold kWait1 kReady
          rw [if_pos o, eov, if_neg j]
        have eg : gAct τ h op a = ty_up (ty_up τ 43 0 h (eOf op)) 44 0 h (τ 20 0 3 + 0) := by
          unfold gAct gWaits
          rw [if_neg o0, if_neg o1, if_neg o2, if_neg o3, if_neg o5, if_neg o6, if_pos o, if_neg (show ¬ (τ 45 0 h = 0 ∧ gJoined τ h (nn (τ 20 0 8)) = true) from fun y => j y.2), if_neg (show ¬ (¬ (4 : Int32) = 1 ∧ ¬ τ 45 0 h = 0) from fun y => y.2 m), o]
          rfl
        rw [notm o0 m, n2, eg]
        exact ⟨rfl, on _ (fun y => absurd y (by rw [o]; decide))⟩
    · have eg : gAct τ h op a = gInterrupts τ h z := by
        unfold gAct gWaits
        rw [if_neg o0, if_neg o1, if_neg o2, if_neg o3, if_neg o5, if_neg o6, if_pos o, if_neg (show ¬ (τ 45 0 h = 0 ∧ gJoined τ h (nn (τ 20 0 8)) = true) from fun y => m y.1), if_pos (show (¬ (4 : Int32) = 1 ∧ ¬ τ 45 0 h = 0) from ⟨by decide, m⟩), gw]
      rw [eg]
      exact int o0 m
end E5
