section E14
variable {tc wc : Nat} {σ τ : ty_St}
theorem nz1 : ¬ (1 : Int32) = 0 := by decide
theorem nz2 : ¬ (2 : Int32) = 0 := by decide
theorem eAction (h : eI tc wc σ τ) (x op a : Int32) {r : Option ty_SV} {τ' : ty_St} (hm : (¬ (kIn x 0 9 = 1 ∧ kIn op 0 11 = 1 ∧ gFits op a = 1) ∧ r = some (.inl 0) ∧ τ' = gE τ 1) ∨ (¬ ¬ (kIn x 0 9 = 1 ∧ kIn op 0 11 = 1 ∧ gFits op a = 1) ∧ τ 23 0 (nn x) = 10 ∧ r = some (.inl 0) ∧ τ' = gE τ 2) ∨ (¬ ¬ (kIn x 0 9 = 1 ∧ kIn op 0 11 = 1 ∧ gFits op a = 1) ∧ ¬ τ 23 0 (nn x) = 10 ∧ r = some (.inl (τ 23 0 (nn x) + 1)) ∧ τ' = gAddA τ (nn x) op a)) : eA tc wc (yAction σ x op a) r τ' := by
  have hc : (kIn x 0 9 = 1 ∧ kAct op a = 1) ↔ (kIn x 0 9 = 1 ∧ kIn op 0 11 = 1 ∧ gFits op a = 1) := by rw [kAct_fits]
  unfold yAction
  by_cases c : kIn x 0 9 = 1 ∧ kAct op a = 1
  · obtain ⟨q, hq, ex⟩ := kIn_of (n := 9) (by decide) c.1
    have nq : nn x = q := by rw [ex]; exact nnI (by omega)
    obtain ⟨k, p1, p2, p3, -⟩ := h.2.2.2.2.1.2.1 q (by omega)
    rw [if_neg (show ¬ ¬ (kIn x 0 9 = 1 ∧ kAct op a = 1) from fun y => y c), nq, p2]
    rw [nq, p3] at hm
    by_cases c10 : k = 10
    · subst c10
      rw [if_pos (show (10 : Int32) ≤ nI 10 by decide)]
      rcases hm with y | y | y
      · exact absurd (hc.mp c) y.1
      · exact ⟨0, y.2.2.1, by rw [y.2.2.2]; exact gE_0, fun z => absurd z nz2, by rw [y.2.2.2]; exact h.gE⟩
      · exact absurd rfl y.2.1
    · have n10 : ¬ (10 : Int32) ≤ nI k := nI_ge (a := k) (b := 10) (by omega) (by decide)
      rw [if_neg n10]
      rcases hm with y | y | y
      · exact absurd (hc.mp c) y.1
      · exact absurd y.2.1 (fun z => c10 (nI_inj (b := 10) z (by omega) (by omega)))
      · refine ⟨_, y.2.2.1, ?_, fun _ => rfl, ?_⟩
        · rw [y.2.2.2]; unfold gAddA; simp only [up_all, reduceIte, Nat.reduceEqDiff, and_self, and_true, true_and, and_false, false_and, Nat.one_ne_zero, Nat.zero_ne_one]
        · rw [y.2.2.2]; exact eAdd h (by omega) (by omega) p2 c.2
  · rw [if_pos c]
    rcases hm with y | y | y
    · exact ⟨0, y.2.1, by rw [y.2.2]; exact gE_0, fun z => absurd z nz1, by rw [y.2.2]; exact h.gE⟩
    · exact absurd (fun z => c (hc.mpr z)) y.1
    · exact absurd (fun z => c (hc.mpr z)) y.1
theorem eTest (h : eI tc wc σ τ) (x to rd wr : Int32) {r : Option ty_SV} {τ' : ty_St} (hm : (¬ (kIn x 0 9 = 1 ∧ kIn to 0 50 = 1 ∧ kIn rd 0 15 = 1 ∧ kIn wr 0 15 = 1) ∧ r = some (.inl 0) ∧ τ' = gE τ 1) ∨ (¬ ¬ (kIn x 0 9 = 1 ∧ kIn to 0 50 = 1 ∧ kIn rd 0 15 = 1 ∧ kIn wr 0 15 = 1) ∧ tc = 12 ∧ r = some (.inl 0) ∧ τ' = gE τ 2) ∨ (¬ ¬ (kIn x 0 9 = 1 ∧ kIn to 0 50 = 1 ∧ kIn rd 0 15 = 1 ∧ kIn wr 0 15 = 1) ∧ tc < 12 ∧ r = some (.inl (nI tc)) ∧ τ' = gTestS τ tc x to rd wr)) : ∃ tc', eA tc' wc (yTest σ x to rd wr) r τ' := by
  unfold yTest
  have htc := h.1.2.2.1
  have e01 : σ 0 0 1 = nI tc := h.2.2.2.2.1.1.1
  by_cases c : kIn x 0 9 = 1 ∧ kIn to 0 50 = 1 ∧ kIn rd 0 15 = 1 ∧ kIn wr 0 15 = 1
  · rw [if_neg (show ¬ ¬ (kIn x 0 9 = 1 ∧ kIn to 0 50 = 1 ∧ kIn rd 0 15 = 1 ∧ kIn wr 0 15 = 1) from fun y => y c), e01]
    by_cases c12 : tc = 12
    · refine ⟨tc, ?_⟩
      rw [c12, if_pos (show (12 : Int32) ≤ nI 12 by decide)]
      rcases hm with y | y | y
      · exact absurd c y.1
      · exact ⟨0, y.2.2.1, by rw [y.2.2.2]; exact gE_0, fun z => absurd z nz2, by rw [y.2.2.2, ← c12]; exact h.gE⟩
      · omega
    · have n12 : ¬ (12 : Int32) ≤ nI tc := nI_ge (a := tc) (b := 12) (by omega) (by decide)
      rw [if_neg n12, show nn (nI tc) = tc from nnI (by omega)]
      rcases hm with y | y | y
      · exact absurd c y.1
      · exact absurd y.2.1 c12
      · refine ⟨tc + 1, _, y.2.2.1, ?_, fun _ => rfl, ?_⟩
        · rw [y.2.2.2]; unfold gTestS; simp only [up_all, reduceIte, Nat.reduceEqDiff, and_self, and_true, true_and, and_false, false_and, Nat.one_ne_zero, Nat.zero_ne_one]
        · rw [y.2.2.2]
          obtain ⟨q, hq, ex⟩ := kIn_of (n := 9) (by decide) c.1
          obtain ⟨k, hk, ek⟩ := kIn_of (n := 50) (by decide) c.2.1
          have hlt : tc < 12 := y.2.1
          clear y
          obtain ⟨⟨g1, g2, -, g4⟩, i2, i3, ⟨rc, r1, r2, r3⟩, ⟨i5, i6, i7⟩, i8, ⟨z1, z2, z3, z4⟩⟩ := h
          have s3 : ∀ t j, ¬ t = tc → (ty_up (kDef σ tc x to rd wr) 0 0 1 (nI tc + 1)) 3 t j = σ 3 t j := fun t j hne => by
            unfold kDef
            simp only [up_all]; simp [hne]
          have s3' : ∀ j, 3 < j → (ty_up (kDef σ tc x to rd wr) 0 0 1 (nI tc + 1)) 3 tc j = σ 3 tc j := fun j hj => by
            unfold kDef
            rw [up_a (by decide), up_sj (by omega), up_sj (by omega), up_sj (by omega), up_sj (by omega)]
          have s30 : (ty_up (kDef σ tc x to rd wr) 0 0 1 (nI tc + 1)) 3 tc 0 = x := by unfold kDef; simp only [up_all, reduceIte, Nat.reduceEqDiff, and_self, and_true, true_and, and_false, false_and, Nat.one_ne_zero, Nat.zero_ne_one]
          have s31 : (ty_up (kDef σ tc x to rd wr) 0 0 1 (nI tc + 1)) 3 tc 1 = to := by unfold kDef; simp only [up_all, reduceIte, Nat.reduceEqDiff, and_self, and_true, true_and, and_false, false_and, Nat.one_ne_zero, Nat.zero_ne_one]
          have s32 : (ty_up (kDef σ tc x to rd wr) 0 0 1 (nI tc + 1)) 3 tc 2 = rd := by unfold kDef; simp only [up_all, reduceIte, Nat.reduceEqDiff, and_self, and_true, true_and, and_false, false_and, Nat.one_ne_zero, Nat.zero_ne_one]
          have s33 : (ty_up (kDef σ tc x to rd wr) 0 0 1 (nI tc + 1)) 3 tc 3 = wr := by unfold kDef; simp only [up_all, reduceIte, Nat.reduceEqDiff, and_self, and_true, true_and, and_false, false_and, Nat.one_ne_zero, Nat.zero_ne_one]
          have so : ∀ b, ¬ b = 0 → ¬ b = 3 → (ty_up (kDef σ tc x to rd wr) 0 0 1 (nI tc + 1)) b = σ b := fun b q0 q3 => by
            unfold kDef
            rw [up_a q0, up_a q3, up_a q3, up_a q3, up_a q3]
          have s0 : (ty_up (kDef σ tc x to rd wr) 0 0 1 (nI tc + 1)) 0 0 1 = nI (tc + 1) := by rw [up_ss, nI_1]
          have s02 : (ty_up (kDef σ tc x to rd wr) 0 0 1 (nI tc + 1)) 0 0 2 = σ 0 0 2 := by
            unfold kDef
            rw [up_sj (by decide), up_a (by decide), up_a (by decide), up_a (by decide), up_a (by decide)]
          have t20 : ∀ j, ¬ j = 0 → ¬ j = 1 → (gTestS τ tc x to rd wr) 20 0 j = τ 20 0 j := fun j h0 h1 => by
            unfold gTestS
            simp only [up_all]; simp [h0, h1]
          have t201 : (gTestS τ tc x to rd wr) 20 0 1 = nI (tc + 1) := by unfold gTestS; simp only [up_all, reduceIte, Nat.reduceEqDiff, and_self, and_true, true_and, and_false, false_and, Nat.one_ne_zero, Nat.zero_ne_one]; rw [g1, nI_1]
          have ti : ∀ b t, ¬ b = 20 → ¬ t = tc → (gTestS τ tc x to rd wr) b 0 t = τ b 0 t := fun b t h0 hne => by
            unfold gTestS
            simp only [up_all]; simp [h0, hne]
          have ta : ∀ b, ¬ (b = 20 ∨ b = 25 ∨ b = 26 ∨ b = 27 ∨ b = 28 ∨ b = 29 ∨ b = 30 ∨ b = 31 ∨ b = 32 ∨ b = 33 ∨ b = 36 ∨ b = 37) → (gTestS τ tc x to rd wr) b = τ b := fun b hb => by
            unfold gTestS
            rw [up_a (by omega), up_a (by omega), up_a (by omega), up_a (by omega), up_a (by omega), up_a (by omega), up_a (by omega), up_a (by omega), up_a (by omega), up_a (by omega), up_a (by omega), up_a (by omega), up_a (by omega)]
          have tv : (gTestS τ tc x to rd wr) 25 0 tc = x ∧ (gTestS τ tc x to rd wr) 26 0 tc = to ∧ (gTestS τ tc x to rd wr) 27 0 tc = rd &&& (wr ^^^ (-1)) ∧ (gTestS τ tc x to rd wr) 28 0 tc = wr ∧ (gTestS τ tc x to rd wr) 29 0 tc = 0 ∧ (gTestS τ tc x to rd wr) 30 0 tc = -1 ∧ (gTestS τ tc x to rd wr) 31 0 tc = -1 ∧ (gTestS τ tc x to rd wr) 32 0 tc = -1 ∧ (gTestS τ tc x to rd wr) 33 0 tc = -1 ∧ (gTestS τ tc x to rd wr) 37 0 tc = 0 ∧ (gTestS τ tc x to rd wr) 36 0 tc = 0 := by
            unfold gTestS; simp only [up_all, reduceIte, Nat.reduceEqDiff, and_self, and_true, true_and, and_false, false_and, Nat.one_ne_zero, Nat.zero_ne_one]
          show eI (tc + 1) wc (ty_up (kDef σ tc x to rd wr) 0 0 1 (nI tc + 1)) _
          generalize ty_up (kDef σ tc x to rd wr) 0 0 1 (nI tc + 1) = σ' at *
          generalize gTestS τ tc x to rd wr = τ' at *
          refine ⟨⟨t201, ?_, by omega, g4⟩, ?_, ?_, ⟨rc, by omega, ?_, ?_⟩, ⟨⟨s0, by rw [s02]; exact i5.2⟩, fun q' hq' => ?_, fun t h3 h4 => ?_⟩, fun t ht => ?_, ⟨?_, ?_, fun t ht => ?_, ?_⟩⟩
          · rw [t20 2 (by decide) (by decide)]; exact g2
          · rw [so 5 (by decide) (by decide), so 1 (by decide) (by decide), t20 4 (by decide) (by decide), t20 5 (by decide) (by decide), t20 6 (by decide) (by decide), t20 7 (by decide) (by decide), t20 8 (by decide) (by decide)]; exact i2
          · rw [so 9 (by decide) (by decide), ta 47 (by decide), ta 48 (by decide)]; exact i3
          · rw [so 1 (by decide) (by decide)]; exact r2
          · rw [t20 9 (by decide) (by decide), kAllPassed_congr (σ := σ) rc (fun t ht => s3 t 4 (by omega))]; exact r3
          · obtain ⟨m, m1, m2, m3, m4, m5⟩ := i6 q' hq'
            refine ⟨m, m1, by rw [so 2 (by decide) (by decide)]; exact m2, by rw [ta 23 (by decide)]; exact m3, ?_, ?_⟩
            · rw [so 6 (by decide) (by decide), so 7 (by decide) (by decide), ta 21 (by decide), ta 22 (by decide)]; exact m4
            · simp only [eQ] at m5 ⊢
              rw [so 6 (by decide) (by decide), so 7 (by decide) (by decide), so 8 (by decide) (by decide)]; exact m5
          · rw [ta 34 (by decide)]
            refine ⟨(i7 t (by omega) h4).1, ?_⟩
            have := (i7 t (by omega) h4).2
            simp only [eT0] at this ⊢
            rw [s3 t 4 (by omega), s3 t 5 (by omega), s3 t 6 (by omega), s3 t 7 (by omega), s3 t 8 (by omega), s3 t 9 (by omega), s3 t 10 (by omega)]; exact this
          · by_cases e : t = tc
            · subst e
              obtain ⟨v1, v2, v3, v4, v5, v6, v7, v8, v9, v10, v11⟩ := tv
              obtain ⟨-, f4, f5, f6, f7, f8, f9, f10⟩ := i7 t (Nat.le_refl _) hlt
              refine ⟨?_, ?_⟩
              · rw [s30, s31, s32, s33, v1, v2, v3, v4]; exact ⟨rfl, rfl, ⟨k, hk, ek⟩, rfl, rfl⟩
              · rw [s3' 4 (by omega), s3' 5 (by omega), s3' 6 (by omega), s3' 7 (by omega), s3' 8 (by omega), s3' 9 (by omega), s3' 10 (by omega), v5, v6, v7, v8, v9, v10, v11]
                exact ⟨f4, f5, f6, f7, f8, f9, f10⟩
            · exact (i8 t (by omega)).congr (fun j => s3 t j e) (fun b c1 c2 => ti b t (by omega) e)
          · rw [so 2 (by decide) (by decide)]; exact z1
          · rw [so 6 (by decide) (by decide), so 7 (by decide) (by decide), so 8 (by decide) (by decide)]; exact z2
          · by_cases e : t = tc
            · subst e
              rw [s30, s3' 6 (by omega), s3' 11 (by omega)]
              exact ⟨by rw [ex]; exact nI_in (by omega) (by decide), (z3 t ht).2⟩
            · rw [s3 t 0 e, s3 t 6 e, s3 t 11 e]; exact z3 t ht
          · rw [so 4 (by decide) (by decide)]; exact z4
  · refine ⟨tc, ?_⟩
    rw [if_pos c]
    rcases hm with y | y | y
    · exact ⟨0, y.2.1, by rw [y.2.2]; exact gE_0, fun z => absurd z nz1, by rw [y.2.2]; exact h.gE⟩
    · exact absurd c y.1
    · exact absurd c y.1
theorem eWorkers (h : eI tc wc σ τ) (n : Int32) {r : Option ty_SV} {τ' : ty_St} (hm : (¬ kIn n 1 4 = 1 ∧ r = some (.inl 0) ∧ τ' = gE τ 1) ∨ (kIn n 1 4 = 1 ∧ r = some (.inl (τ 20 0 2)) ∧ τ' = ty_up (ty_up τ 20 0 0 0) 20 0 2 n)) : ∃ wc', eA tc wc' (yWorkers σ n) r τ' := by
  unfold yWorkers
  rcases hm with ⟨c, y1, y2⟩ | ⟨c, y1, y2⟩
  · rw [if_neg c]
    exact ⟨wc, 0, y1, by rw [y2]; exact gE_0, fun z => absurd z nz1, by rw [y2]; exact h.gE⟩
  · rw [if_pos c]
    have : ∃ j, j ≤ 4 ∧ n = nI j := by
      unfold kIn at c
      split at c
      · rename_i q
        exact nI_of2 (M := 4) (n := 4) (by decide) (Int32.not_lt.mpr (Int32.le_trans (by decide) q.1)) q.2
      · exact absurd c (by decide)
    obtain ⟨j, hj, en⟩ := this
    obtain ⟨h1, h2, h3, h4, h5, h6, h7⟩ := h
    refine ⟨j, _, y1, ?_, fun _ => ?_, ?_⟩
    · rw [y2]; simp only [up_all, reduceIte, Nat.reduceEqDiff, and_self, and_true, true_and, and_false, false_and, Nat.one_ne_zero, Nat.zero_ne_one]
    · show τ 20 0 2 = σ 0 0 2
      rw [h1.2.1, h5.1.2]
    · rw [y2]
      refine ⟨⟨?_, ?_, h1.2.2.1, hj⟩, ?_, h3, ?_, ⟨⟨?_, ?_⟩, h5.2⟩, h6, h7⟩
      · simp only [up_all, reduceIte, Nat.reduceEqDiff, and_self, and_true, true_and, and_false, false_and, Nat.one_ne_zero, Nat.zero_ne_one]; exact h1.1
      · simp only [up_all, reduceIte, Nat.reduceEqDiff, and_self, and_true, true_and, and_false, false_and, Nat.one_ne_zero, Nat.zero_ne_one]; exact en
      · simp only [up_all, reduceIte, Nat.reduceEqDiff, and_self, and_true, true_and, and_false, false_and, Nat.one_ne_zero, Nat.zero_ne_one]; exact h2
      · obtain ⟨rc, r1, r2, r3⟩ := h4
        refine ⟨rc, r1, r2, ?_⟩
        simp only [up_all, reduceIte, Nat.reduceEqDiff, and_self, and_true, true_and, and_false, false_and, Nat.one_ne_zero, Nat.zero_ne_one]
        exact r3.trans (by rw [kAllPassed_congr (σ' := ty_up σ 0 0 2 n) (σ := σ) rc (fun _ _ => rfl)])
      · simp only [up_all, reduceIte, Nat.reduceEqDiff, and_self, and_true, true_and, and_false, false_and, Nat.one_ne_zero, Nat.zero_ne_one]; exact h5.1.1
      · simp only [up_all, reduceIte, Nat.reduceEqDiff, and_self, and_true, true_and, and_false, false_and, Nat.one_ne_zero, Nat.zero_ne_one]; exact en
theorem eLook (h : eI tc wc σ τ) (x what : Int32) {r : Option ty_SV} {τ' : ty_St} (hm : (¬ (kIn x 0 (τ 20 0 1 - 1) = 1 ∧ kIn what 0 6 = 1) ∧ r = some (.inl 0) ∧ τ' = gE τ 1) ∨ (¬ ¬ (kIn x 0 (τ 20 0 1 - 1) = 1 ∧ kIn what 0 6 = 1) ∧ r = some (.inl (gLookV τ (nn x) what)) ∧ τ' = ty_up τ 20 0 0 0)) : eA tc wc (yLook σ x what) r τ' := by
  unfold yLook
  have e1 : τ 20 0 1 = σ 0 0 1 := by rw [h.1.1, h.2.2.2.2.1.1.1]
  rw [e1] at hm
  rcases hm with ⟨c, y1, y2⟩ | ⟨c, y1, y2⟩
  · rw [if_neg c]
    exact ⟨0, y1, by rw [y2]; exact gE_0, fun z => absurd z nz1, by rw [y2]; exact h.gE⟩
  · have c' := Decidable.byContradiction c
    rw [if_pos c']
    refine ⟨_, y1, by rw [y2]; exact up_ss, fun _ => ?_, by rw [y2]; exact h.err⟩
    have c1 := c'.1
    rw [h.2.2.2.2.1.1.1] at c1
    obtain ⟨t, ht, ex⟩ := kIn_vpm (n := tc) (by have := h.1.2.2.1; omega) (show ¬ kIn x 0 (nI tc - 1) = 0 by rw [c1]; decide)
    have nt : nn x = t := by rw [ex]; exact nnI (by have := h.1.2.2.1; omega)
    obtain ⟨-, q2⟩ := h.2.2.2.2.2.1 t ht
    show gLookV τ (nn x) what = kLookV σ (nn x) what
    unfold gLookV kLookV
    rw [nt, ← q2.1, ← q2.2.1, ← q2.2.2.1, ← q2.2.2.2.1, ← q2.2.2.2.2.1, ← q2.2.2.2.2.2.1, ← q2.2.2.2.2.2.2]
theorem kKeeps_in {i : Nat} {k : Int32} {n m : Nat} (hn : n < 2000000000) (hm : m < 2000000000) (e : σ 5 i 1 = nI n) (hc : kCap i = nI m) : kKeeps σ i k = 1 ↔ kIn k 0 (gLeast (nI n) (nI m) - 1) = 1 := by
  unfold kKeeps
  rw [e, hc, gLeast_nI (by omega) (by omega)]
  constructor
  · intro y
    split at y
    · rename_i q
      obtain ⟨j, hj, ek⟩ := nI_of (Int32.not_lt.mpr q.1)
      rw [ek] at q ⊢
      have a1 := (nI_ltI hj (by omega)).mp q.2.1
      have a2 := (nI_ltI hj (by omega)).mp q.2.2
      obtain ⟨z, hz⟩ : ∃ z, (if n < m then n else m) = z + 1 := ⟨(if n < m then n else m) - 1, by split <;> omega⟩
      rw [hz, nI_pred]
      unfold kIn
      rw [if_pos ⟨nI_pos' hj, nI_le (by revert hz; split <;> omega) (by revert hz; split <;> omega)⟩]
    · exact absurd y (by decide)
  · intro y
    by_cases c0 : (if n < m then n else m) = 0
    · rw [c0] at y
      unfold kIn at y
      split at y
      · rename_i q
        have h1 := Int32.le_trans q.1 q.2
        exact absurd h1 (by decide)
      · exact absurd y (by decide)
    · obtain ⟨z, hz⟩ : ∃ z, (if n < m then n else m) = z + 1 := ⟨(if n < m then n else m) - 1, by omega⟩
      rw [hz, nI_pred] at y
      unfold kIn at y
      split at y
      · rename_i q
        obtain ⟨j, hj, ek⟩ := nI_of (Int32.not_lt.mpr q.1)
        rw [ek] at q ⊢
        have hzl : z < 2000000000 := by revert hz; split <;> omega
        have a1 := (nI_leI hj (by omega)).mp q.2
        rw [if_pos ⟨q.1, nI_lt (by revert hz; split <;> omega) (by omega), nI_lt (by revert hz; split <;> omega) (by omega)⟩]
      · exact absurd y (by decide)
theorem eNote (h : eI tc wc σ τ) (x : Int32) {r : Option ty_SV} {τ' : ty_St} (hm : (¬ kIn x 0 (gLeast (τ 20 0 4) 12 - 1) = 1 ∧ r = some (.inl 0) ∧ τ' = gE τ 1) ∨ (kIn x 0 (gLeast (τ 20 0 4) 12 - 1) = 1 ∧ r = some (.inl (τ 47 0 (nn x))) ∧ τ' = ty_up τ 20 0 0 0)) : eA tc wc (yKept σ 0 x) r τ' := by
  obtain ⟨n, hn, en⟩ := h.2.1.2.2.2.2.2.1
  have ee : kKeeps σ 0 x = 1 ↔ kIn x 0 (gLeast (τ 20 0 4) 12 - 1) = 1 := by
    rw [← h.2.1.1, en]
    exact kKeeps_in (m := 12) hn (by omega) en rfl
  unfold yKept
  rcases hm with ⟨c, y1, y2⟩ | ⟨c, y1, y2⟩
  · rw [if_neg (fun z => c (ee.mp z))]
    exact ⟨0, y1, by rw [y2]; exact gE_0, fun z => absurd z nz1, by rw [y2]; exact h.gE⟩
  · have c' := ee.mpr c
    rw [if_pos c']
    refine ⟨_, y1, by rw [y2]; exact up_ss, fun _ => ?_, by rw [y2]; exact h.err⟩
    unfold kKeeps at c'
    split at c'
    · rename_i q
      obtain ⟨j, hj, ek⟩ := nI_of (Int32.not_lt.mpr q.1)
      have q2 := q.2.2
      rw [ek] at q2
      have a2 : j < 12 := (nI_ltI (b := 12) hj (by decide)).mp q2
      show τ 47 0 (nn x) = σ 9 0 (nn x)
      rw [ek, show nn (nI j) = j from nI_clamp hj]
      exact (h.2.2.1.1 j a2).symm
    · exact absurd c' (by decide)
theorem eWarning (h : eI tc wc σ τ) (x : Int32) {r : Option ty_SV} {τ' : ty_St} (hm : (¬ kIn x 0 (gLeast (τ 20 0 5) 8 - 1) = 1 ∧ r = some (.inl 0) ∧ τ' = gE τ 1) ∨ (kIn x 0 (gLeast (τ 20 0 5) 8 - 1) = 1 ∧ r = some (.inl (τ 48 0 (nn x))) ∧ τ' = ty_up τ 20 0 0 0)) : eA tc wc (yKept σ 1 x) r τ' := by
  obtain ⟨n, hn, en⟩ := h.2.1.2.2.2.2.2.2
  have ee : kKeeps σ 1 x = 1 ↔ kIn x 0 (gLeast (τ 20 0 5) 8 - 1) = 1 := by
    rw [← h.2.1.2.1, en]
    exact kKeeps_in (m := 8) hn (by omega) en rfl
  unfold yKept
  rcases hm with ⟨c, y1, y2⟩ | ⟨c, y1, y2⟩
  · rw [if_neg (fun z => c (ee.mp z))]
    exact ⟨0, y1, by rw [y2]; exact gE_0, fun z => absurd z nz1, by rw [y2]; exact h.gE⟩
  · have c' := ee.mpr c
    rw [if_pos c']
    refine ⟨_, y1, by rw [y2]; exact up_ss, fun _ => ?_, by rw [y2]; exact h.err⟩
    unfold kKeeps at c'
    split at c'
    · rename_i q
      obtain ⟨j, hj, ek⟩ := nI_of (Int32.not_lt.mpr q.1)
      have q2 := q.2.2
      rw [ek] at q2
      have a2 : j < 8 := (nI_ltI (b := 8) hj (by decide)).mp q2
      show τ 48 0 (nn x) = σ 9 1 (nn x)
      rw [ek, show nn (nI j) = j from nI_clamp hj]
      exact (h.2.2.1.2 j a2).symm
    · exact absurd c' (by decide)
theorem eCountC (h : eI tc wc σ τ) (what : Int32) {r : Option ty_SV} {τ' : ty_St} (hm : (¬ kIn what 0 6 = 1 ∧ r = some (.inl 0) ∧ τ' = gE τ 1) ∨ (kIn what 0 6 = 1 ∧ r = some (.inl (gCountV τ what)) ∧ τ' = ty_up τ 20 0 0 0)) : eA tc wc (yCount σ what) r τ' := by
  unfold yCount
  rcases hm with ⟨c, y1, y2⟩ | ⟨c, y1, y2⟩
  · rw [if_neg c]
    exact ⟨0, y1, by rw [y2]; exact gE_0, fun z => absurd z nz1, by rw [y2]; exact h.gE⟩
  · rw [if_pos c]
    refine ⟨_, y1, by rw [y2]; exact up_ss, fun _ => ?_, by rw [y2]; exact h.err⟩
    show gCountV τ what = kCountV σ what
    obtain ⟨h1, h2, h3, ⟨rc, r1, r2, r3⟩, h5, h6, h7⟩ := h
    unfold gCountV kCountV
    have := h1.2.2.1
    rw [h1.1, h5.1.1, ← h2.1, ← h2.2.1, ← h2.2.2.1, ← h2.2.2.2.1, ← h2.2.2.2.2.1, r3, r2, show nn (nI rc) = rc from nnI (by omega)]
end E14
