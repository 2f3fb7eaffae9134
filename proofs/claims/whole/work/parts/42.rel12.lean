section E12
variable {tc wc : Nat} {σ τ : ty_St}
theorem kInv.zero {B : Nat} (h : kInv tc wc B σ) : kInv0 σ := ⟨h.2.2.1, h.2.2.2.1, h.2.2.2.2.1, h.2.2.2.2.2.1⟩
theorem kInv.untried {B : Nat} (h : kInv tc wc B σ) : ∀ n, kInv tc wc B (kUntried σ n)
  | 0 => h
  | n + 1 => by
    unfold kUntried
    split
    · exact (kInv.untried h n).decide _ _ _
    · exact kInv.untried h n
theorem kInv.left {B : Nat} (h : kInv tc wc B σ) : ∀ n, kInv tc wc B (kLeft σ n)
  | 0 => h
  | n + 1 => by
    unfold kLeft
    split
    · exact (kInv.left h n).up1 (by decide) (by decide) (by decide) (by decide)
    · exact kInv.left h n
theorem kUntried_i {t : Nat} : ∀ n, n ≤ t → (kUntried σ n) 3 t = σ 3 t
  | 0, _ => rfl
  | n + 1, h => by
    unfold kUntried
    split
    · unfold kDecide
      rw [up_i (by omega), up_i (by omega)]; exact kUntried_i n (by omega)
    · exact kUntried_i n (by omega)
theorem gUntr_i {t a : Nat} : ∀ n, n ≤ t → (gUntr τ n) a 0 t = τ a 0 t
  | 0, _ => rfl
  | n + 1, h => by
    unfold gUntr
    split
    · unfold gJudged
      rw [up_all, if_neg (by omega), up_all, if_neg (by omega), up_all, if_neg (by omega)]; exact gUntr_i n (by omega)
    · exact gUntr_i n (by omega)
theorem gUntr_a {a : Nat} (h29 : ¬ a = 29) (h30 : ¬ a = 30) (h32 : ¬ a = 32) : ∀ n, (gUntr τ n) a = τ a
  | 0 => rfl
  | n + 1 => by
    unfold gUntr
    split
    · unfold gJudged
      rw [up_a h32, up_a h30, up_a h29]; exact gUntr_a h29 h30 h32 n
    · exact gUntr_a h29 h30 h32 n
theorem kLeft_a {a : Nat} (h : ¬ a = 1) : ∀ n, (kLeft σ n) a = σ a
  | 0 => rfl
  | n + 1 => by
    unfold kLeft
    split
    · rw [up_a h]; exact kLeft_a h n
    · exact kLeft_a h n
theorem kLeft_j {j : Nat} (h : ¬ j = 9) : ∀ n, (kLeft σ n) 1 0 j = σ 1 0 j
  | 0 => rfl
  | n + 1 => by
    unfold kLeft
    split
    · rw [up_sj h]; exact kLeft_j h n
    · exact kLeft_j h n
theorem gLefts_a {a : Nat} (h : ¬ a = 20) : ∀ n, (gLefts τ n) a = τ a
  | 0 => rfl
  | n + 1 => by
    unfold gLefts
    split
    · exact gLefts_a h n
    · rw [up_a h]; exact gLefts_a h n
theorem gPass_a {a : Nat} (h : ¬ a = 20) : ∀ n, (gPass τ n) a = τ a
  | 0 => rfl
  | n + 1 => by
    unfold gPass
    split
    · exact gPass_a h n
    · rw [up_a h]; exact gPass_a h n
theorem eTI.congr {σ' τ' : ty_St} {t : Nat} (h : eTI σ τ t) (e3 : ∀ j, σ' 3 t j = σ 3 t j) (er : ∀ a, 25 ≤ a → a ≤ 37 → τ' a 0 t = τ a 0 t) : eTI σ' τ' t := by
  obtain ⟨h1, h2⟩ := h
  refine ⟨?_, ?_⟩
  · rw [e3, e3, e3, e3, er 25 (by omega) (by omega), er 26 (by omega) (by omega), er 27 (by omega) (by omega), er 28 (by omega) (by omega)]; exact h1
  · rw [e3, e3, e3, e3, e3, e3, e3, er 29 (by omega) (by omega), er 30 (by omega) (by omega), er 31 (by omega) (by omega), er 32 (by omega) (by omega), er 33 (by omega) (by omega), er 37 (by omega) (by omega), er 36 (by omega) (by omega)]; exact h2
theorem eUntr (hx : eX tc wc σ τ) : ∀ n, n ≤ tc → ∀ t, t < tc → eTI (kUntried σ n) (gUntr τ n) t
  | 0, _ => fun t ht => ⟨(hx.2.2.1 t ht).1, (hx.2.2.1 t ht).2.1⟩
  | n + 1, hn => by
    intro t ht
    have ih := eUntr hx n (by omega)
    obtain ⟨q1, q2, q3, q4, q5, q6⟩ := hx.2.2.1 n (by omega)
    have e3 : (kUntried σ n) 3 n = σ 3 n := kUntried_i n (Nat.le_refl _)
    have e29 : (gUntr τ n) 29 0 n = τ 29 0 n := gUntr_i n (Nat.le_refl _)
    have e20 : (gUntr τ n) 20 = τ 20 := gUntr_20 n
    unfold kUntried gUntr
    rw [e3, e29, ← q2.1]
    by_cases c : σ 3 n 4 = 0
    · rw [if_pos c, if_pos c]
      unfold kDecide gJudged
      rw [e20, ← hx.1.2.1.1]
      by_cases e : t = n
      · subst e
        obtain ⟨i1, i2⟩ := ih t ht
        simp only [eTI, up_all, reduceIte, Nat.reduceEqDiff, and_self, and_true, true_and, and_false, false_and, Nat.one_ne_zero, Nat.zero_ne_one]
        refine ⟨i1, ?_, i2.2.2.1, i2.2.2.2.2.1, i2.2.2.2.2.2⟩
        rw [e3]; exact q6 c
      · refine (ih t ht).congr (fun j => ?_) (fun a h1 h2 => ?_)
        · rw [up_i e, up_i e]
        · rw [up_all, if_neg (by omega), up_all, if_neg (by omega), up_all, if_neg (by omega)]
    · rw [if_neg c, if_neg c]
      exact ih t ht
theorem eLeft (h9 : σ 1 0 9 = τ 20 0 6) {m : Nat} (hs : ∀ n, n < m → (σ 4 n 8 = 0 ↔ ¬ τ 43 0 n = 5)) : ∀ n, n ≤ m → (kLeft σ n) 1 0 9 = (gLefts τ n) 20 0 6
  | 0, _ => h9
  | n + 1, hn => by
    have ih := eLeft h9 hs n (by omega)
    have e4 : (kLeft σ n) 4 = σ 4 := kLeft_a (by decide) n
    have e43 : (gLefts τ n) 43 = τ 43 := gLefts_a (by decide) n
    unfold kLeft gLefts
    rw [e4, e43]
    by_cases c : τ 43 0 n = 5
    · rw [if_neg (show ¬ σ 4 n 8 = 0 from fun y => (hs n (by omega)).mp y c), if_pos c]; exact ih
    · rw [if_pos ((hs n (by omega)).mpr c), if_neg c, up_ss, up_ss, ih]
theorem ePass : ∀ n, (∀ t, t < n → σ 3 t 4 = τ 29 0 t) → (gPass τ n) 20 0 9 = if kAllPassed σ n = true then τ 20 0 9 else 1
  | 0, _ => rfl
  | n + 1, h => by
    have ih := ePass n (fun t ht => h t (by omega))
    have e29 : (gPass τ n) 29 = τ 29 := gPass_a (by decide) n
    unfold gPass kAllPassed
    rw [e29, ← h n (by omega)]
    by_cases c : σ 3 n 4 = 1
    · rw [if_pos c, ih, decide_eq_true c, Bool.and_true]
    · rw [if_neg c, up_ss, decide_eq_false c, Bool.and_false, if_neg (by decide)]
set_option maxRecDepth 100000 in
theorem eRun (h : eI tc wc σ τ) : ∃ sc, sc ≤ 63 ∧ (gTicks tc wc 150 (gBoot τ tc)) 20 0 8 = nI sc ∧ (gTicks tc wc 150 (gBoot τ tc)) 20 0 1 = nI tc ∧ gGoodR tc wc 150 0 (gBoot τ tc) ∧ (∀ q, q < 10 → ∃ k, k ≤ 10 ∧ τ 23 0 q = nI k) ∧
    eI tc wc (kPerform σ (nI tc) (nI wc)) (gFinish (gTicks tc wc 150 (gBoot τ tc)) tc sc) ∧ (kPerform σ (nI tc) (nI wc)) 1 0 11 = (gFinish (gTicks tc wc 150 (gBoot τ tc)) tc sc) 20 0 3 := by
  obtain ⟨b1, b2⟩ := eBoot h
  obtain ⟨⟨g1, g2, htc, hwc⟩, i2, i3, i4, ⟨i5, i6, i7⟩, i8, i9⟩ := h
  have hI0 : kInv0 (ty_up (ty_up σ 1 0 6 (nI tc)) 1 0 7 (nI wc)) := i9
  have hI := kInv.forget (tc := tc) (wc := wc) hI0 htc (by simp only [up_all, reduceIte, Nat.reduceEqDiff, and_self, and_true, true_and, and_false, false_and, Nat.one_ne_zero, Nat.zero_ne_one]) (by simp only [up_all, reduceIte, Nat.reduceEqDiff, and_self, and_true, true_and, and_false, false_and, Nat.one_ne_zero, Nat.zero_ne_one])
  unfold kPerform
  have t0 : (kForgetRun (ty_up (ty_up σ 1 0 6 (nI tc)) 1 0 7 (nI wc))) 1 0 11 = nI 0 := by unfold kForgetRun; simp only [up_all, reduceIte, Nat.reduceEqDiff, and_self, and_true, true_and, and_false, false_and, Nat.one_ne_zero, Nat.zero_ne_one]; rfl
  obtain ⟨c1, c2, B, c3, c4⟩ := eTicks htc hwc 150 0 0 _ _ hI (by omega) b1 b2 (by omega) t0
  generalize kTicks 150 (kForgetRun (ty_up (ty_up σ 1 0 6 (nI tc)) 1 0 7 (nI wc))) = ρ at *
  generalize hυ : gTicks tc wc 150 (gBoot τ tc) = υ at *
  clear hυ b1 b2 hI t0
  obtain ⟨⟨j1, j2, tm, j3, j4⟩, ⟨sc, s1, s2, s3⟩, -⟩ := id c4
  have r8 : υ 20 0 8 = nI sc := by rw [← c1.1.2.1.2.2.2.2.2]; exact s3
  have n6 : nn (ρ 1 0 6) = tc := by rw [j1]; exact nnI (by omega)
  have n8 : nn (ρ 1 0 8) = sc := by rw [s3]; exact nnI (by omega)
  have u8 : (kUntried ρ tc) 1 = ρ 1 := kUntried_a (by decide) tc
  have hT := eUntr c1 tc (Nat.le_refl _)
  have hL : ∀ n, n < sc → ((kUntried ρ tc) 4 n 8 = 0 ↔ ¬ (gUntr υ tc) 43 0 n = 5) := fun n hn => by
    rw [kUntried_a (by decide), gUntr_a (by decide) (by decide) (by decide)]
    obtain ⟨-, y, -⟩ := c1.2.2.2.2 n (by omega)
    rcases y with y | y
    · exact ⟨fun _ => y.2, fun _ => y.1⟩
    · exact ⟨fun z => by rw [y.1] at z; exact absurd z (by decide), fun z => absurd y.2 z⟩
  have e9 := eLeft (σ := kUntried ρ tc) (τ := gUntr υ tc) (by rw [u8, gUntr_20]; exact c1.1.2.1.2.2.2.1) hL sc (Nat.le_refl _)
  unfold kLeave gFinish
  rw [n6, n8]
  have hIf := (c4.untried tc).left sc
  have k3 : ∀ a, ¬ a = 1 → (kLeft (kUntried ρ tc) sc) a = (kUntried ρ tc) a := fun a ha => kLeft_a ha sc
  have kz : ∀ a, ¬ a = 1 → ¬ a = 3 → (kLeft (kUntried ρ tc) sc) a = ρ a := fun a ha h3 => (kLeft_a ha sc).trans (kUntried_a h3 tc)
  have k1 : ∀ j, ¬ j = 9 → (kLeft (kUntried ρ tc) sc) 1 0 j = ρ 1 0 j := fun j hj => by rw [kLeft_j hj, u8]
  have gz : ∀ a, ¬ a = 20 → (gPass (ty_up (gLefts (gUntr υ tc) sc) 20 0 9 0) tc) a = (gUntr υ tc) a := fun a ha => by rw [gPass_a ha, up_a ha, gLefts_a ha]
  have g20 : ∀ j, ¬ j = 9 → (gPass (ty_up (gLefts (gUntr υ tc) sc) 20 0 9 0) tc) 20 0 j = (gLefts (gUntr υ tc) sc) 20 0 j := fun j hj => by rw [gPass_20 hj, up_sj hj]
  have g20' : ∀ j, ¬ j = 9 → ¬ j = 6 → (gPass (ty_up (gLefts (gUntr υ tc) sc) 20 0 9 0) tc) 20 0 j = υ 20 0 j := fun j hj h6 => by rw [g20 j hj, gLefts_20 h6, gUntr_20]
  have ep := ePass (σ := kLeft (kUntried ρ tc) sc) (τ := ty_up (gLefts (gUntr υ tc) sc) 20 0 9 0) tc (fun t ht => by
    rw [k3 3 (by decide), up_a (by decide), gLefts_a (by decide)]; exact (hT t ht).2.1)
  rw [up_ss] at ep
  refine ⟨sc, by omega, r8, c1.1.1.2.1, c2, fun q hq => (by
    obtain ⟨k, y⟩ := i6 q hq
    exact ⟨k, y.1, y.2.2.1⟩), ?_⟩
  generalize kLeft (kUntried ρ tc) sc = σF at *
  generalize gPass (ty_up (gLefts (gUntr υ tc) sc) 20 0 9 0) tc = τF at *
  refine ⟨⟨⟨?_, ?_, htc, hwc⟩, ⟨?_, ?_, ?_, ?_, ?_, ?_, ?_⟩, ⟨fun j hj => ?_, fun j hj => ?_⟩, ⟨tc, Nat.le_refl _, ?_, ep⟩, ⟨?_, fun q hq => ?_, fun t h1 h2 => ?_⟩, fun t ht => ?_, hIf.zero⟩, ?_⟩
  · rw [g20' 1 (by decide) (by decide)]; exact c1.1.1.2.1
  · rw [g20' 2 (by decide) (by decide)]; exact c1.1.1.2.2.2
  · rw [kz 5 (by decide) (by decide), g20' 4 (by decide) (by decide)]; exact c1.1.2.1.2.1
  · rw [kz 5 (by decide) (by decide), g20' 5 (by decide) (by decide)]; exact c1.1.2.1.2.2.1
  · rw [g20 6 (by decide)]; exact e9
  · rw [k1 10 (by decide), g20' 7 (by decide) (by decide)]; exact c1.1.2.1.2.2.2.2.1
  · rw [k1 8 (by decide), g20' 8 (by decide) (by decide)]; exact c1.1.2.1.2.2.2.2.2
  · obtain ⟨k, y1, y2⟩ := hIf.2.2.2.2.2.2.2 0 (by decide)
    exact ⟨k, by omega, y2⟩
  · obtain ⟨k, y1, y2⟩ := hIf.2.2.2.2.2.2.2 1 (by decide)
    exact ⟨k, by omega, y2⟩
  · rw [kz 9 (by decide) (by decide), gz 47 (by decide), gUntr_a (by decide) (by decide) (by decide)]; exact c1.1.2.2.1 j hj
  · rw [kz 9 (by decide) (by decide), gz 48 (by decide), gUntr_a (by decide) (by decide) (by decide)]; exact c1.1.2.2.2 j hj
  · rw [k1 6 (by decide)]; exact j1
  · rw [kz 0 (by decide) (by decide)]; exact c1.2.1.1
  · obtain ⟨k, y1, y2⟩ := c1.2.1.2.1 q hq
    refine ⟨k, y1.1, ?_, ?_, fun j hj => ?_, ?_⟩
    · rw [kz 2 (by decide) (by decide)]; exact y1.2.1
    · rw [gz 23 (by decide), gUntr_a (by decide) (by decide) (by decide)]; exact y1.2.2.1
    · rw [kz 6 (by decide) (by decide), kz 7 (by decide) (by decide), gz 21 (by decide), gz 22 (by decide), gUntr_a (by decide) (by decide) (by decide), gUntr_a (by decide) (by decide) (by decide)]
      obtain ⟨z1, z2, z3, -⟩ := y1.2.2.2 j hj
      exact ⟨z1, z2, z3⟩
    · simp only [eQ] at y2 ⊢
      rw [kz 6 (by decide) (by decide), kz 7 (by decide) (by decide), kz 8 (by decide) (by decide)]
      exact y2
  · rw [gz 34 (by decide), gUntr_a (by decide) (by decide) (by decide)]
    obtain ⟨y1, y2⟩ := c1.2.1.2.2 t h1 h2
    refine ⟨y1, ?_⟩
    simp only [eT0] at y2 ⊢
    rw [k3 3 (by decide), kUntried_i tc h1]
    exact y2
  · refine (hT t ht).congr (fun j => by rw [k3 3 (by decide)]) (fun a h1 h2 => by rw [gz a (by omega)])
  · rw [k1 11 (by decide), g20' 3 (by decide) (by decide)]; exact c1.1.2.1.1
end E12
