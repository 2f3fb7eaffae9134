section E11
variable {tc wc : Nat} {σ τ : ty_St}
theorem kAct_4 {a : Int32} (h : kAct 4 a = 1) : ∃ k, k ≤ 9 ∧ a = nI k := by
  unfold kAct at h
  rw [if_neg (by decide), if_neg (by decide), if_pos (by decide)] at h
  unfold kIn at h
  split at h
  · rename_i q
    exact nI_of2 (M := 9) (n := 9) (by decide) (Int32.not_lt.mpr q.1) q.2
  · exact absurd h (by decide)
/-- a program as the two keep it, its guards not yet laid out in the reference -/
def ePI (σ τ : ty_St) (q k : Nat) : Prop := k ≤ 10 ∧ σ 2 q 3 = nI k ∧ τ 23 0 q = nI k ∧ (∀ j, j < k → kAct (σ 6 q j) (σ 7 q j) = 1 ∧ σ 6 q j = τ 21 0 (10 * q + j) ∧ σ 7 q j = τ 22 0 (10 * q + j)) ∧ eQ σ q k
/-- the guards of the first n places are laid out -/
def eGd (σ τ : ty_St) (q k n : Nat) : Prop := ∀ o, o < n → σ 6 q o = 4 → ∃ g, σ 8 q o = nI g ∧ o < g ∧ g ≤ 20 ∧ τ 24 0 (10 * q + o) = nI ((if g < k then g else k) - 1)
theorem eGin {q k j e0 : Nat} (hk : k ≤ 10) (hj : j < k) (he : e0 ≤ 100) (h6 : ∀ o, o < k → σ 6 q o = τ 21 0 (10 * q + o)) : ∀ n, n ≤ j → eGd σ τ q k n → ∃ m, gGin τ q j (nI e0) n = nI m ∧ m ≤ e0 ∧
    (∀ o g, o < n → σ 6 q o = 4 → σ 8 q o = nI g → g ≤ 20 → j < g → m ≤ (if g < k then g else k) - 1) ∧ (m = e0 ∨ ∃ o g, o < n ∧ σ 6 q o = 4 ∧ σ 8 q o = nI g ∧ g ≤ 20 ∧ j < g ∧ m = (if g < k then g else k) - 1)
  | 0, _, _ => ⟨e0, rfl, Nat.le_refl _, fun o g ho => absurd ho (by omega), Or.inl rfl⟩
  | n + 1, hn, hd => by
    obtain ⟨m, a1, a2, a3, a4⟩ := eGin hk hj he h6 n (by omega) (fun o ho => hd o (by omega))
    unfold gGin
    rw [← h6 n (by omega), a1]
    by_cases c4 : σ 6 q n = 4
    · obtain ⟨g, g1, g2, g3, g4⟩ := hd n (by omega) c4
      rw [g4]
      by_cases c : j < g
      · have hle : nI j ≤ nI ((if g < k then g else k) - 1) := nI_le (by split <;> omega) (by split <;> omega)
        rw [if_pos ⟨c4, hle⟩, gLeast_nI (by omega) (by split <;> omega)]
        refine ⟨_, rfl, (by repeat' split
                            all_goals omega), fun o g' ho o4 og hg hjg => ?_, ?_⟩
        · by_cases e : o = n
          · subst e
            have : g' = g := nI_inj (og.symm.trans g1) (by omega) (by omega)
            subst this
            repeat' split
            all_goals omega
          · have := a3 o g' (by omega) o4 og hg hjg
            refine Nat.le_trans ?_ this
            repeat' split
            all_goals omega
        · by_cases c2 : m < (if g < k then g else k) - 1
          · rw [if_pos c2]
            rcases a4 with y | ⟨o, g', y1, y2⟩
            · exact Or.inl y
            · exact Or.inr ⟨o, g', by omega, y2⟩
          · rw [if_neg c2]
            exact Or.inr ⟨n, g, by omega, c4, g1, g3, c, rfl⟩
      · have hnle : ¬ (σ 6 q n = 4 ∧ nI j ≤ nI ((if g < k then g else k) - 1)) := fun y => by
          have := (nI_leI (by omega) (by split <;> omega)).mp y.2
          revert this
          split <;> omega
        rw [if_neg hnle]
        refine ⟨m, rfl, a2, fun o g' ho o4 og hg hjg => ?_, ?_⟩
        · by_cases e : o = n
          · subst e
            have : g' = g := nI_inj (og.symm.trans g1) (by omega) (by omega)
            subst this
            exact absurd hjg c
          · exact a3 o g' (by omega) o4 og hg hjg
        · rcases a4 with y | ⟨o, g', y1, y2⟩
          · exact Or.inl y
          · exact Or.inr ⟨o, g', by omega, y2⟩
    · rw [if_neg (show ¬ (σ 6 q n = 4 ∧ nI j ≤ τ 24 0 (10 * q + n)) from fun y => c4 y.1)]
      refine ⟨m, rfl, a2, fun o g' ho o4 og hg hjg => ?_, ?_⟩
      · by_cases e : o = n
        · subst e; exact absurd o4 c4
        · exact a3 o g' (by omega) o4 og hg hjg
      · rcases a4 with y | ⟨o, g', y1, y2⟩
        · exact Or.inl y
        · exact Or.inr ⟨o, g', by omega, y2⟩
theorem gGp_out {p i : Nat} : ∀ k, (i < 10 * p ∨ 10 * p + k ≤ i) → (gGp τ p k) 24 0 i = τ 24 0 i
  | 0, _ => rfl
  | k + 1, h => by
    show (gG1 (gGp τ p k) p k) 24 0 i = _
    unfold gG1
    split
    · rw [up_all, if_neg (by omega)]; exact gGp_out k (by omega)
    · exact gGp_out k (by omega)
theorem eGp {q k : Nat} (hp : ePI σ τ q k) : ∀ n, n ≤ k → eGd σ (gGp τ q n) q k n
  | 0, _ => fun o ho => absurd ho (by omega)
  | n + 1, hn => by
    have ih := eGp hp n (by omega)
    obtain ⟨hk, h2, h23, hj, hQ⟩ := hp
    obtain ⟨p1, p2, p3⟩ := hj n (by omega)
    have e21 : (gGp τ q n) 21 = τ 21 := gGp_a (by decide) n
    have e22 : (gGp τ q n) 22 = τ 22 := gGp_a (by decide) n
    have e23 : (gGp τ q n) 23 = τ 23 := gGp_a (by decide) n
    show eGd σ (gG1 (gGp τ q n) q n) q k (n + 1)
    intro o ho o4
    unfold gG1
    by_cases c4 : σ 6 q n = 4
    · rw [e21, ← p2, if_pos c4, e22, ← p3, e23, h23]
      obtain ⟨a, a1, a2⟩ := kAct_4 (by rw [← c4]; exact p1)
      have na : nn (σ 7 q n) = a := by rw [a2]; exact nnI (by omega)
      by_cases e : o = n
      · subst e
        obtain ⟨g, g1, g2, g3, g4, g5, g6⟩ := (hQ o (by omega)).1 c4
        rw [na] at g4 g6
        refine ⟨g, g1, g2, g3, ?_⟩
        rw [up_ss, a2, nI_add, show nI k - 1 = nI (k - 1) by rw [show k = (k - 1) + 1 by omega]; exact nI_pred _, gLeast_nI (by omega) (by omega)]
        obtain ⟨m, m1, m2, m3, m4⟩ := eGin (σ := σ) (τ := gGp τ q o) (q := q) (k := k) (j := o) (e0 := if o + a < k - 1 then o + a else k - 1) hk (by omega) (by split <;> omega) (fun o' ho' => by rw [e21]; exact (hj o' ho').2.1) o (Nat.le_refl _) ih
        rw [m1]
        congr 1
        have up : (if g < k then g else k) - 1 ≤ m := by
          rcases m4 with y | ⟨o', g', y1, y2, y3, y4, y5, y6⟩
          · rw [y]; repeat' split
            all_goals omega
          · have := g5 o' g' y1 y2 y3 y4 y5
            rw [y6]; repeat' split
            all_goals omega
        have dn : m ≤ (if g < k then g else k) - 1 := by
          rcases g6 with y | ⟨o', y1, y2, y3⟩
          · revert m2
            repeat' split
            all_goals omega
          · exact m3 o' g y1 y2 y3 g3 g2
        omega
      · obtain ⟨g, g1, g2, g3, g4⟩ := ih o (by omega) o4
        exact ⟨g, g1, g2, g3, by rw [up_all, if_neg (by omega)]; exact g4⟩
    · rw [e21, ← p2, if_neg c4]
      have e : ¬ o = n := fun y => c4 (by rw [← y]; exact o4)
      exact ih o (by omega) o4
theorem eGs (hp : ∀ q, q < 10 → ∃ k, ePI σ τ q k) : ∀ n, n ≤ 10 → ∀ q, q < n → ∃ k, ePI σ (gGs τ n) q k ∧ eGd σ (gGs τ n) q k k
  | 0, _ => fun q hq => absurd hq (by omega)
  | n + 1, hn => by
    have ih := eGs hp n (by omega)
    have ea : ∀ a, ¬ a = 24 → (gGs τ (n + 1)) a = τ a := fun a h => gGs_a h _
    have eb : ∀ a, ¬ a = 24 → (gGs τ n) a = τ a := fun a h => gGs_a h _
    intro q hq
    by_cases e : q = n
    · subst e
      obtain ⟨k, h⟩ := hp q (by omega)
      obtain ⟨hk, h2, h23, hj, hQ⟩ := h
      have h' : ePI σ (gGs τ q) q k := ⟨hk, h2, by rw [eb 23 (by decide)]; exact h23, by rw [eb 21 (by decide), eb 22 (by decide)]; exact hj, hQ⟩
      refine ⟨k, ⟨hk, h2, by rw [ea 23 (by decide)]; exact h23, by rw [ea 21 (by decide), ea 22 (by decide)]; exact hj, hQ⟩, ?_⟩
      have := eGp h' k (Nat.le_refl _)
      have e2 : gGs τ (q + 1) = gGp (gGs τ q) q k := by
        show gGp (gGs τ q) q (nn (τ 23 0 q)) = _
        rw [h23, show nn (nI k) = k from nnI (by omega)]
      rw [e2]; exact this
    · obtain ⟨k, ⟨hk, h2, h23, hj, hQ⟩, hd⟩ := ih q (by omega)
      rw [eb 23 (by decide)] at h23
      rw [eb 21 (by decide), eb 22 (by decide)] at hj
      refine ⟨k, ⟨hk, h2, by rw [ea 23 (by decide)]; exact h23, by rw [ea 21 (by decide), ea 22 (by decide)]; exact hj, hQ⟩, fun o ho o4 => ?_⟩
      obtain ⟨g, g1, g2, g3, g4⟩ := hd o ho o4
      refine ⟨g, g1, g2, g3, ?_⟩
      show (gGp (gGs τ n) n (nn (τ 23 0 n))) 24 0 (10 * q + o) = _
      rw [gGp_out _ (by omega)]; exact g4
/-- the two between two calls -/
def eTI (σ τ : ty_St) (t : Nat) : Prop :=
  (σ 3 t 0 = τ 25 0 t ∧ σ 3 t 1 = τ 26 0 t ∧ (∃ k, k ≤ 50 ∧ σ 3 t 1 = nI k) ∧ τ 27 0 t = σ 3 t 2 &&& (σ 3 t 3 ^^^ (-1)) ∧ σ 3 t 3 = τ 28 0 t) ∧
  (σ 3 t 4 = τ 29 0 t ∧ σ 3 t 5 = τ 30 0 t ∧ σ 3 t 6 = τ 31 0 t ∧ σ 3 t 7 = τ 32 0 t ∧ σ 3 t 8 = τ 33 0 t ∧ σ 3 t 9 = τ 37 0 t ∧ σ 3 t 10 = τ 36 0 t)
def eI (tc wc : Nat) (σ τ : ty_St) : Prop :=
  (τ 20 0 1 = nI tc ∧ τ 20 0 2 = nI wc ∧ tc ≤ 12 ∧ wc ≤ 4) ∧
  (σ 5 0 1 = τ 20 0 4 ∧ σ 5 1 1 = τ 20 0 5 ∧ σ 1 0 9 = τ 20 0 6 ∧ σ 1 0 10 = τ 20 0 7 ∧ σ 1 0 8 = τ 20 0 8 ∧ (∃ n, n < 2000000000 ∧ σ 5 0 1 = nI n) ∧ (∃ n, n < 2000000000 ∧ σ 5 1 1 = nI n)) ∧
  ((∀ j, j < 12 → σ 9 0 j = τ 47 0 j) ∧ (∀ j, j < 8 → σ 9 1 j = τ 48 0 j)) ∧
  (∃ rc, rc ≤ tc ∧ σ 1 0 6 = nI rc ∧ τ 20 0 9 = if kAllPassed σ rc = true then 0 else 1) ∧
  ((σ 0 0 1 = nI tc ∧ σ 0 0 2 = nI wc) ∧ (∀ q, q < 10 → ∃ k, ePI σ τ q k) ∧ ∀ t, tc ≤ t → t < 12 → τ 34 0 t = 0 ∧ eT0 σ t) ∧
  (∀ t, t < tc → eTI σ τ t) ∧ kInv0 σ
theorem gInit1_ne {t u a : Nat} (h : ¬ u = t) : (gInit1 τ t) a 0 u = τ a 0 u := by
  unfold gInit1
  simp only [up_all]
  simp [h]
theorem gInits_i {t : Nat} : ∀ n a, n ≤ t → (gInits τ n) a 0 t = τ a 0 t
  | 0, _, _ => rfl
  | n + 1, a, h => by
    show (gInit1 (gInits τ n) n) a 0 t = _
    rw [gInit1_ne (by omega)]; exact gInits_i n a (by omega)
theorem gInits_v {t : Nat} : ∀ n, t < n → (gInits τ n) 29 0 t = 0 ∧ (gInits τ n) 30 0 t = -1 ∧ (gInits τ n) 31 0 t = -1 ∧ (gInits τ n) 32 0 t = -1 ∧ (gInits τ n) 33 0 t = -1 ∧ (gInits τ n) 37 0 t = 0 ∧ (gInits τ n) 36 0 t = 0
  | 0, h => absurd h (by omega)
  | n + 1, h => by
    show (gInit1 (gInits τ n) n) 29 0 t = 0 ∧ (gInit1 (gInits τ n) n) 30 0 t = -1 ∧ (gInit1 (gInits τ n) n) 31 0 t = -1 ∧ (gInit1 (gInits τ n) n) 32 0 t = -1 ∧ (gInit1 (gInits τ n) n) 33 0 t = -1 ∧ (gInit1 (gInits τ n) n) 37 0 t = 0 ∧ (gInit1 (gInits τ n) n) 36 0 t = 0
    by_cases e : t = n
    · subst e
      unfold gInit1
      simp only [up_all, reduceIte, Nat.reduceEqDiff, and_self, and_true, true_and, and_false, false_and, Nat.one_ne_zero, Nat.zero_ne_one]
    · rw [gInit1_ne e, gInit1_ne e, gInit1_ne e, gInit1_ne e, gInit1_ne e, gInit1_ne e, gInit1_ne e]
      exact gInits_v n (by omega)
theorem gInits_o {a : Nat} (h : ¬ (a = 29 ∨ a = 30 ∨ a = 31 ∨ a = 32 ∨ a = 33 ∨ a = 36 ∨ a = 37)) : ∀ n, (gInits τ n) a = τ a
  | 0 => rfl
  | n + 1 => by
    show (gInit1 (gInits τ n) n) a = _
    unfold gInit1
    rw [up_a (by omega), up_a (by omega), up_a (by omega), up_a (by omega), up_a (by omega), up_a (by omega), up_a (by omega)]
    exact gInits_o h n
theorem gTakesF_a {a : Nat} (h : ¬ a = 38) : ∀ n, (gTakesF τ n) a = τ a
  | 0 => rfl
  | n + 1 => by
    show (ty_up (gTakesF τ n) 38 0 n (-1)) a = _
    rw [up_a h]; exact gTakesF_a h n
theorem gTakesF_v {w : Nat} : ∀ n, w < n → (gTakesF τ n) 38 0 w = -1
  | 0, h => absurd h (by omega)
  | n + 1, h => by
    show (ty_up (gTakesF τ n) 38 0 n (-1)) 38 0 w = _
    by_cases e : w = n
    · rw [e, up_ss]
    · rw [up_sj e]; exact gTakesF_v n (by omega)
theorem gReset_a {a : Nat} (h : ¬ a = 20) : (gReset τ) a = τ a := by
  unfold gReset
  rw [up_a h, up_a h, up_a h, up_a h, up_a h, up_a h, up_a h]
theorem gBoot_a {a : Nat} (h : a < 29) (h20 : ¬ a = 20) (h24 : ¬ a = 24) : (gBoot τ tc) a = τ a := by
  unfold gBoot
  rw [gTakesF_a (by omega), gInits_a h, gGs_a h24, gReset_a h20]
theorem gBoot_20 : (gBoot τ tc) 20 = (gReset τ) 20 := by
  unfold gBoot
  rw [gTakesF_a (by decide), gInits_a (by decide), gGs_a (by decide)]
theorem eBoot (h : eI tc wc σ τ) : eX tc wc (kForgetRun (ty_up (ty_up σ 1 0 6 (nI tc)) 1 0 7 (nI wc))) (gBoot τ tc) ∧ eV (kForgetRun (ty_up (ty_up σ 1 0 6 (nI tc)) 1 0 7 (nI wc))) (gBoot τ tc) := by
  obtain ⟨⟨g1, g2, htc, hwc⟩, i2, i3, i4, ⟨i5, i6, i7⟩, i8, i9⟩ := h
  unfold kForgetRun
  have e6 : (ty_up (ty_up σ 1 0 6 (nI tc)) 1 0 7 (nI wc)) 1 0 6 = nI tc := by simp only [up_all, reduceIte, Nat.reduceEqDiff, and_self, and_true, true_and, and_false, false_and, Nat.one_ne_zero, Nat.zero_ne_one]
  rw [e6, show nn (nI tc) = tc from nnI (by omega)]
  generalize hρ : kFreeW (kForgets (ty_up (ty_up σ 1 0 6 (nI tc)) 1 0 7 (nI wc)) tc) 4 = ρ
  have ea : ∀ a, ¬ a = 1 → ¬ a = 3 → ¬ a = 10 → ρ a = σ a := fun a q1 q3 q10 => by rw [← hρ, kFreeW_a q10, kForgets_a q3, up_a q1, up_a q1]
  have e1 : ρ 1 = (ty_up (ty_up σ 1 0 6 (nI tc)) 1 0 7 (nI wc)) 1 := by rw [← hρ, kFreeW_a (by decide), kForgets_a (by decide)]
  have e3 : ∀ t j, ρ 3 t j = if t < tc then (kForgetT σ t) 3 t j else σ 3 t j := fun t j => by
    rw [← hρ, kFreeW_a (by decide), kForgets_3]
    rfl
  have e10 : ∀ w, w < 4 → ρ 10 0 w = -1 := fun w hw => by rw [← hρ]; exact kFreeW_10 4 hw
  have r20 := gBoot_20 (τ := τ) (tc := tc)
  have sa : ∀ a, ¬ a = 5 → ¬ a = 1 → (ty_up (ty_up (ty_up (ty_up (ty_up (ty_up ρ 5 0 1 0) 5 1 1 0) 1 0 8 0) 1 0 9 0) 1 0 10 0) 1 0 11 0) a = ρ a := fun a h5 h1 => by
    rw [up_a h1, up_a h1, up_a h1, up_a h1, up_a h5, up_a h5]
  have n0 : nn ((ty_up (ty_up (ty_up (ty_up (ty_up (ty_up ρ 5 0 1 0) 5 1 1 0) 1 0 8 0) 1 0 9 0) 1 0 10 0) 1 0 11 0) 1 0 8) = 0 := by simp only [up_all, reduceIte, Nat.reduceEqDiff, and_self, and_true, true_and, and_false, false_and, Nat.one_ne_zero, Nat.zero_ne_one]; rfl
  refine ⟨⟨⟨?_, ?_, ?_, ?_⟩, ?_, fun t ht => ?_, fun w hw => ?_, fun n hn => ?_⟩, fun n hn => ?_⟩
  · rw [r20]
    unfold gReset
    simp only [up_all, reduceIte, Nat.reduceEqDiff, and_self, and_true, true_and, and_false, false_and, Nat.one_ne_zero, Nat.zero_ne_one]
    rw [e1]
    simp only [up_all, reduceIte, Nat.reduceEqDiff, and_self, and_true, true_and, and_false, false_and, Nat.one_ne_zero, Nat.zero_ne_one]
    exact ⟨g1, g2⟩
  · rw [r20]
    unfold gReset
    simp only [up_all, reduceIte, Nat.reduceEqDiff, and_self, and_true, true_and, and_false, false_and, Nat.one_ne_zero, Nat.zero_ne_one]
  · intro j hj
    rw [sa 9 (by decide) (by decide), ea 9 (by decide) (by decide) (by decide)]
    have : (gBoot τ tc) 47 = τ 47 := by unfold gBoot; rw [gTakesF_a (by decide), gInits_o (by decide), gGs_a (by decide), gReset_a (by decide)]
    rw [this]; exact i3.1 j hj
  · intro j hj
    rw [sa 9 (by decide) (by decide), ea 9 (by decide) (by decide) (by decide)]
    have : (gBoot τ tc) 48 = τ 48 := by unfold gBoot; rw [gTakesF_a (by decide), gInits_o (by decide), gGs_a (by decide), gReset_a (by decide)]
    rw [this]; exact i3.2 j hj
  · have b34 : (gBoot τ tc) 34 = τ 34 := by unfold gBoot; rw [gTakesF_a (by decide), gInits_o (by decide), gGs_a (by decide), gReset_a (by decide)]
    have b24 : (gBoot τ tc) 24 = (gGs (gReset τ) 10) 24 := by unfold gBoot; rw [gTakesF_a (by decide), gInits_a (by decide)]
    have b2x : ∀ a, a < 29 → (gBoot τ tc) a = (gGs (gReset τ) 10) a := fun a ha => by unfold gBoot; rw [gTakesF_a (by omega), gInits_a ha]
    refine ⟨?_, fun q hq => ?_, fun t h1 h2 => ?_⟩
    · rw [sa 0 (by decide) (by decide), ea 0 (by decide) (by decide) (by decide)]; exact i5
    · have hp0 : ∀ q, q < 10 → ∃ k, ePI σ (gReset τ) q k := fun q hq => by
        obtain ⟨k, c1, c2, c3, c4, c5⟩ := i6 q hq
        exact ⟨k, c1, c2, by rw [gReset_a (by decide)]; exact c3, by rw [gReset_a (by decide), gReset_a (by decide)]; exact c4, c5⟩
      obtain ⟨k, ⟨c1, c2, c3, c4, c5⟩, hd⟩ := eGs hp0 10 (Nat.le_refl _) q hq
      refine ⟨k, ?_, ?_⟩
      · simp only [ePq]
        rw [sa 2 (by decide) (by decide), ea 2 (by decide) (by decide) (by decide), sa 6 (by decide) (by decide), ea 6 (by decide) (by decide) (by decide), sa 7 (by decide) (by decide), ea 7 (by decide) (by decide) (by decide), sa 8 (by decide) (by decide), ea 8 (by decide) (by decide) (by decide), b2x 21 (by decide), b2x 22 (by decide), b2x 23 (by decide), b2x 24 (by decide)]
        refine ⟨c1, c2, c3, fun j hj => ?_⟩
        obtain ⟨d1, d2, d3⟩ := c4 j hj
        refine ⟨d1, d2, d3, fun o4 => ?_, fun o4 => (c5 j hj).2 o4⟩
        obtain ⟨g, f1, f2, f3, f4⟩ := hd j hj o4
        exact ⟨g, f2, f3, f1, f4⟩
      · simp only [eQ]
        rw [sa 6 (by decide) (by decide), ea 6 (by decide) (by decide) (by decide), sa 7 (by decide) (by decide), ea 7 (by decide) (by decide) (by decide), sa 8 (by decide) (by decide), ea 8 (by decide) (by decide) (by decide)]
        exact c5
    · rw [b34]
      refine ⟨(i7 t h1 h2).1, ?_⟩
      have z := (i7 t h1 h2).2
      simp only [eT0] at z ⊢
      rw [sa 3 (by decide) (by decide), e3, e3, e3, e3, e3, e3, e3, if_neg (by omega), if_neg (by omega), if_neg (by omega), if_neg (by omega), if_neg (by omega), if_neg (by omega), if_neg (by omega)]
      exact z
  · obtain ⟨q1, q2⟩ := i8 t ht
    have b25 : ∀ a, 25 ≤ a → a < 29 → (gBoot τ tc) a = τ a := fun a h1 h2 => gBoot_a h2 (by omega) (by omega)
    have bi : ∀ a, ¬ a = 38 → (gBoot τ tc) a 0 t = (gInits (gGs (gReset τ) 10) tc) a 0 t := fun a ha => by unfold gBoot; rw [gTakesF_a ha]
    obtain ⟨v1, v2, v3, v4, v5, v6, v7⟩ := gInits_v (τ := gGs (gReset τ) 10) tc ht
    simp only [eT]
    rw [sa 3 (by decide) (by decide), b25 25 (by decide) (by decide), b25 26 (by decide) (by decide), b25 27 (by decide) (by decide), b25 28 (by decide) (by decide), bi 29 (by decide), bi 30 (by decide), bi 31 (by decide), bi 32 (by decide), bi 33 (by decide), bi 36 (by decide), bi 37 (by decide), v1, v2, v3, v4, v5, v6, v7]
    have f : ∀ j, ρ 3 t j = (kForgetT σ t) 3 t j := fun j => by rw [e3, if_pos ht]
    rw [f 0, f 1, f 2, f 3, f 4, f 5, f 6, f 7, f 8, f 9, f 10, f 12]
    have z0 : (kForgetT σ t) 3 t 0 = σ 3 t 0 := by unfold kForgetT; simp only [up_all, reduceIte, Nat.reduceEqDiff, and_self, and_true, true_and, and_false, false_and, Nat.one_ne_zero, Nat.zero_ne_one]
    have z1 : (kForgetT σ t) 3 t 1 = σ 3 t 1 := by unfold kForgetT; simp only [up_all, reduceIte, Nat.reduceEqDiff, and_self, and_true, true_and, and_false, false_and, Nat.one_ne_zero, Nat.zero_ne_one]
    have z2 : (kForgetT σ t) 3 t 2 = σ 3 t 2 := by unfold kForgetT; simp only [up_all, reduceIte, Nat.reduceEqDiff, and_self, and_true, true_and, and_false, false_and, Nat.one_ne_zero, Nat.zero_ne_one]
    have z3 : (kForgetT σ t) 3 t 3 = σ 3 t 3 := by unfold kForgetT; simp only [up_all, reduceIte, Nat.reduceEqDiff, and_self, and_true, true_and, and_false, false_and, Nat.one_ne_zero, Nat.zero_ne_one]
    have z4 : (kForgetT σ t) 3 t 4 = 0 := by unfold kForgetT; simp only [up_all, reduceIte, Nat.reduceEqDiff, and_self, and_true, true_and, and_false, false_and, Nat.one_ne_zero, Nat.zero_ne_one]
    have z5 : (kForgetT σ t) 3 t 5 = -1 := by unfold kForgetT; simp only [up_all, reduceIte, Nat.reduceEqDiff, and_self, and_true, true_and, and_false, false_and, Nat.one_ne_zero, Nat.zero_ne_one]
    have z6 : (kForgetT σ t) 3 t 6 = -1 := by unfold kForgetT; simp only [up_all, reduceIte, Nat.reduceEqDiff, and_self, and_true, true_and, and_false, false_and, Nat.one_ne_zero, Nat.zero_ne_one]
    have z7 : (kForgetT σ t) 3 t 7 = -1 := by unfold kForgetT; simp only [up_all, reduceIte, Nat.reduceEqDiff, and_self, and_true, true_and, and_false, false_and, Nat.one_ne_zero, Nat.zero_ne_one]
    have z8 : (kForgetT σ t) 3 t 8 = -1 := by unfold kForgetT; simp only [up_all, reduceIte, Nat.reduceEqDiff, and_self, and_true, true_and, and_false, false_and, Nat.one_ne_zero, Nat.zero_ne_one]
    have z9 : (kForgetT σ t) 3 t 9 = 0 := by unfold kForgetT; simp only [up_all, reduceIte, Nat.reduceEqDiff, and_self, and_true, true_and, and_false, false_and, Nat.one_ne_zero, Nat.zero_ne_one]
    have z10 : (kForgetT σ t) 3 t 10 = 0 := by unfold kForgetT; simp only [up_all, reduceIte, Nat.reduceEqDiff, and_self, and_true, true_and, and_false, false_and, Nat.one_ne_zero, Nat.zero_ne_one]
    have z12 : (kForgetT σ t) 3 t 12 = -1 := by unfold kForgetT; simp only [up_all, reduceIte, Nat.reduceEqDiff, and_self, and_true, true_and, and_false, false_and, Nat.one_ne_zero, Nat.zero_ne_one]
    rw [z0, z1, z2, z3, z4, z5, z6, z7, z8, z9, z10, z12]
    exact ⟨q1, ⟨rfl, rfl, rfl, rfl, rfl, rfl, rfl⟩, Or.inl ⟨rfl, rfl, rfl⟩, Or.inl rfl, fun y => absurd y (by decide), fun _ => rfl⟩
  · left
    rw [sa 10 (by decide) (by decide), e10 w hw]
    refine ⟨?_, rfl⟩
    unfold gBoot
    exact gTakesF_v 4 hw
  · rw [n0] at hn; exact absurd hn (by omega)
  · rw [n0] at hn; exact absurd hn (by omega)
end E11
