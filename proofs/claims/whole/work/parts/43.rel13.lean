section E13
variable {tc wc : Nat} {σ τ : ty_St}
/-! what a call answers: 0 and a number, or 1, 2: it throws -/
def yAction (σ : ty_St) (p op a : Int32) : Int32 × Int32 × ty_St :=
  if ¬ (kIn p 0 9 = 1 ∧ kAct op a = 1) then (1, 0, σ) else if 10 ≤ σ 2 (nn p) 3 then (2, 0, σ) else (0, σ 2 (nn p) 3 + 1, kAdd σ (nn p) op a)
def yTest (σ : ty_St) (p to rd wr : Int32) : Int32 × Int32 × ty_St :=
  if ¬ (kIn p 0 9 = 1 ∧ kIn to 0 50 = 1 ∧ kIn rd 0 15 = 1 ∧ kIn wr 0 15 = 1) then (1, 0, σ) else if 12 ≤ σ 0 0 1 then (2, 0, σ) else (0, σ 0 0 1, ty_up (kDef σ (nn (σ 0 0 1)) p to rd wr) 0 0 1 (σ 0 0 1 + 1))
def yWorkers (σ : ty_St) (n : Int32) : Int32 × Int32 × ty_St := if kIn n 1 4 = 1 then (0, σ 0 0 2, ty_up σ 0 0 2 n) else (1, 0, σ)
def kLookV (σ : ty_St) (t : Nat) (what : Int32) : Int32 :=
  if what = 0 then σ 3 t 4 else if what = 1 then σ 3 t 5 else if what = 2 then σ 3 t 6 else if what = 3 then σ 3 t 7 else if what = 4 then σ 3 t 8 else if what = 5 then (if σ 3 t 9 = 0 then 0 else 1) else σ 3 t 10
def yLook (σ : ty_St) (t what : Int32) : Int32 × Int32 × ty_St := if kIn t 0 (σ 0 0 1 - 1) = 1 ∧ kIn what 0 6 = 1 then (0, kLookV σ (nn t) what, σ) else (1, 0, σ)
def yKept (σ : ty_St) (i : Nat) (k : Int32) : Int32 × Int32 × ty_St := if kKeeps σ i k = 1 then (0, σ 9 i (nn k), σ) else (1, 0, σ)
def kCountV (σ : ty_St) (what : Int32) : Int32 :=
  if what = 0 then σ 0 0 1 else if what = 1 then σ 5 0 1 else if what = 2 then σ 5 1 1 else if what = 3 then σ 1 0 9 else if what = 4 then σ 1 0 8 else if what = 5 then σ 1 0 10 else (if kAllPassed σ (nn (σ 1 0 6)) = true then 0 else 1)
def yCount (σ : ty_St) (what : Int32) : Int32 × Int32 × ty_St := if kIn what 0 6 = 1 then (0, kCountV σ what, σ) else (1, 0, σ)
/-- the two answer alike -/
def eA (tc wc : Nat) (y : Int32 × Int32 × ty_St) (r : Option ty_SV) (τ' : ty_St) : Prop := ∃ v, r = some (.inl v) ∧ τ' 20 0 0 = y.1 ∧ (y.1 = 0 → v = y.2.1) ∧ eI tc wc y.2.2 τ'
theorem eI.err (h : eI tc wc σ τ) {x : Int32} : eI tc wc σ (ty_up τ 20 0 0 x) := by
  obtain ⟨h1, h2, h3, h4, h5, h6, h7⟩ := h
  refine ⟨?_, ?_, h3, ?_, h5, h6, h7⟩
  · simp only [up_all, reduceIte, Nat.reduceEqDiff, and_self, and_true, true_and, and_false, false_and, Nat.one_ne_zero, Nat.zero_ne_one]; exact h1
  · simp only [up_all, reduceIte, Nat.reduceEqDiff, and_self, and_true, true_and, and_false, false_and, Nat.one_ne_zero, Nat.zero_ne_one]; exact h2
  · simp only [up_all, reduceIte, Nat.reduceEqDiff, and_self, and_true, true_and, and_false, false_and, Nat.one_ne_zero, Nat.zero_ne_one]; exact h4
theorem eI.gE (h : eI tc wc σ τ) {x : Int32} : eI tc wc σ (gE τ x) := h.err.err
theorem gE_0 {x : Int32} : (gE τ x) 20 0 0 = x := up_ss
theorem kIn_of {x : Int32} {n : Nat} {M : Int32} (hM : M.toInt = n) (h : kIn x 0 M = 1) : ∃ j, j ≤ n ∧ x = nI j := by
  unfold kIn at h
  split at h
  · rename_i q; exact nI_of2 hM (Int32.not_lt.mpr q.1) q.2
  · exact absurd h (by decide)
theorem kAct_fits (op a : Int32) : kAct op a = 1 ↔ (kIn op 0 11 = 1 ∧ gFits op a = 1) := by
  by_cases c : kIn op 0 11 = 1
  · obtain ⟨j, hj, e⟩ := kIn_of (n := 11) (by decide) c
    have cases12 : j = 0 ∨ j = 1 ∨ j = 2 ∨ j = 3 ∨ j = 4 ∨ j = 5 ∨ j = 6 ∨ j = 7 ∨ j = 8 ∨ j = 9 ∨ j = 10 ∨ j = 11 := by omega
    unfold kAct gFits
    rcases cases12 with rfl | rfl | rfl | rfl | rfl | rfl | rfl | rfl | rfl | rfl | rfl | rfl <;> subst e
    · rw [if_pos (by decide), if_pos (by decide)]; exact ⟨fun y => ⟨c, y⟩, fun y => y.2⟩
    · rw [if_pos (by decide), if_pos (by decide)]; exact ⟨fun y => ⟨c, y⟩, fun y => y.2⟩
    · rw [if_neg (by decide), if_neg (by decide), if_neg (by decide), if_neg (by decide), if_neg (by decide), if_neg (by decide)]; exact ⟨fun y => ⟨c, rfl⟩, fun y => y.1⟩
    · rw [if_neg (by decide), if_pos (by decide), if_neg (by decide), if_pos (by decide)]; exact ⟨fun y => ⟨c, y⟩, fun y => y.2⟩
    · rw [if_neg (by decide), if_neg (by decide), if_pos (by decide), if_neg (by decide), if_neg (by decide), if_pos (by decide)]; exact ⟨fun y => ⟨c, y⟩, fun y => y.2⟩
    · rw [if_neg (by decide), if_neg (by decide), if_pos (by decide), if_neg (by decide), if_neg (by decide), if_pos (by decide)]; exact ⟨fun y => ⟨c, y⟩, fun y => y.2⟩
    · rw [if_neg (by decide), if_pos (by decide), if_neg (by decide), if_pos (by decide)]; exact ⟨fun y => ⟨c, y⟩, fun y => y.2⟩
    all_goals (rw [if_neg (by decide), if_neg (by decide), if_neg (by decide), if_neg (by decide), if_neg (by decide), if_neg (by decide)]; exact ⟨fun y => ⟨c, rfl⟩, fun y => y.1⟩)
  · refine ⟨fun y => ?_, fun y => absurd y.1 c⟩
    have nz : ∀ k : Int32, kIn k 0 11 = 1 → ¬ op = k := fun k hk e => c (by rw [e]; exact hk)
    unfold kAct at y
    rw [if_neg (fun z => z.elim (nz 0 (by decide)) (nz 1 (by decide))), if_neg (fun z => z.elim (nz 3 (by decide)) (nz 6 (by decide))), if_neg (fun z => z.elim (nz 4 (by decide)) (nz 5 (by decide)))] at y
    exact absurd y c
theorem kAllPassed_congr {σ' : ty_St} : ∀ n, (∀ t, t < n → σ' 3 t 4 = σ 3 t 4) → kAllPassed σ' n = kAllPassed σ n
  | 0, _ => rfl
  | n + 1, h => by
    unfold kAllPassed
    rw [kAllPassed_congr n (fun t ht => h t (by omega)), h n (by omega)]
/-- the innermost guard that reaches beyond the place k: it reaches least far -/
theorem eEga {q k : Nat} (hk : k ≤ 10) (hQ : eQ σ q k) : ∀ n, n ≤ k → (kEga (σ 8 q) (nI k) n = -1 ∧ ∀ o g, o < n → σ 6 q o = 4 → σ 8 q o = nI g → g ≤ 20 → ¬ k < g) ∨ ∃ o g, o < n ∧ σ 6 q o = 4 ∧ σ 8 q o = nI g ∧ g ≤ 20 ∧ k < g ∧ kEga (σ 8 q) (nI k) n = nI g ∧ ∀ o' g', o' < n → σ 6 q o' = 4 → σ 8 q o' = nI g' → g' ≤ 20 → k < g' → g ≤ g'
  | 0, _ => Or.inl ⟨rfl, fun o g ho => absurd ho (by omega)⟩
  | n + 1, hn => by
    have ih := eEga hk hQ n (by omega)
    unfold kEga
    by_cases c4 : σ 6 q n = 4
    · obtain ⟨g, g1, g2, g3, g4, g5, g6⟩ := (hQ n (by omega)).1 c4
      rw [g1]
      by_cases c : k < g
      · rw [if_pos (nI_lt c (by omega))]
        refine Or.inr ⟨n, g, by omega, c4, g1, g3, c, rfl, fun o' g' h1 h2 h3 h4 h5 => ?_⟩
        by_cases e : o' = n
        · subst e
          have := nI_inj (h3.symm.trans g1) (by omega) (by omega)
          omega
        · exact g5 o' g' (by omega) h2 h3 h4 (by omega)
      · rw [if_neg (nI_nlt (by omega) (by omega))]
        rcases ih with ⟨a1, a2⟩ | ⟨o, g0, a1, a2, a3, a4, a5, a6, a7⟩
        · refine Or.inl ⟨a1, fun o g' h1 h2 h3 h4 => ?_⟩
          by_cases e : o = n
          · subst e
            have := nI_inj (h3.symm.trans g1) (by omega) (by omega)
            omega
          · exact a2 o g' (by omega) h2 h3 h4
        · refine Or.inr ⟨o, g0, by omega, a2, a3, a4, a5, a6, fun o' g' h1 h2 h3 h4 h5 => ?_⟩
          by_cases e : o' = n
          · subst e
            have := nI_inj (h3.symm.trans g1) (by omega) (by omega)
            omega
          · exact a7 o' g' (by omega) h2 h3 h4 h5
    · rw [(hQ n (by omega)).2 c4, if_neg (show ¬ nI k < 0 from nI_lt0 (by omega))]
      rcases ih with ⟨a1, a2⟩ | ⟨o, g0, a1, a2, a3, a4, a5, a6, a7⟩
      · refine Or.inl ⟨a1, fun o g' h1 h2 h3 h4 => ?_⟩
        by_cases e : o = n
        · subst e; exact absurd h2 c4
        · exact a2 o g' (by omega) h2 h3 h4
      · refine Or.inr ⟨o, g0, by omega, a2, a3, a4, a5, a6, fun o' g' h1 h2 h3 h4 h5 => ?_⟩
        by_cases e : o' = n
        · subst e; exact absurd h2 c4
        · exact a7 o' g' (by omega) h2 h3 h4 h5
/-- a guard that is laid at the place k -/
theorem eGuard {q k a : Nat} (hk : k < 10) (ha : a ≤ 9) (hQ : eQ σ q k) : ∃ g, kGuard (σ 8 q) (nI k) (nI a) = nI g ∧ k < g ∧ g ≤ 20 ∧ g ≤ k + 1 + a ∧ (∀ o g', o < k → σ 6 q o = 4 → σ 8 q o = nI g' → g' ≤ 20 → k < g' → g ≤ g') ∧ (g = k + 1 + a ∨ ∃ o, o < k ∧ σ 6 q o = 4 ∧ σ 8 q o = nI g) := by
  unfold kGuard
  rw [show nn (nI k) = k from nnI (by omega), nI_1, nI_add]
  rcases eEga (by omega) hQ k (Nat.le_refl _) with ⟨a1, a2⟩ | ⟨o, g0, a1, a2, a3, a4, a5, a6, a7⟩
  · rw [a1, if_pos rfl]
    exact ⟨k + 1 + a, rfl, by omega, by omega, Nat.le_refl _, fun o g' h1 h2 h3 h4 h5 => absurd h5 (a2 o g' h1 h2 h3 h4), Or.inl rfl⟩
  · have n1 : ¬ nI g0 = -1 := by
      intro e
      have := nI_toInt (n := g0) (by omega)
      rw [e] at this
      exact absurd this (by simp)
    rw [a6, if_neg n1]
    by_cases c : g0 < k + 1 + a
    · rw [if_pos (nI_lt c (by omega))]
      exact ⟨g0, rfl, a5, a4, by omega, a7, Or.inr ⟨o, a1, a2, a3⟩⟩
    · rw [if_neg (nI_nlt (by omega) (by omega))]
      refine ⟨k + 1 + a, rfl, by omega, by omega, Nat.le_refl _, fun o' g' h1 h2 h3 h4 h5 => ?_, Or.inl rfl⟩
      have := a7 o' g' h1 h2 h3 h4 h5
      omega
theorem kAct_5 {a : Int32} (h : kAct 5 a = 1) : vp_in a 10 := by
  unfold kAct at h
  rw [if_neg (by decide), if_neg (by decide), if_pos (by decide)] at h
  obtain ⟨j, hj, e⟩ := kIn_of (n := 9) (by decide) h
  rw [e]; exact nI_in (by omega) (by decide)
theorem eAdd (h : eI tc wc σ τ) {q k : Nat} (hq : q < 10) (hk : k < 10) (h2 : σ 2 q 3 = nI k) {op a : Int32} (hact : kAct op a = 1) : eI tc wc (kAdd σ q op a) (gAddA τ q op a) := by
  obtain ⟨h1, i2, i3, ⟨rc, r1, r2, r3⟩, ⟨i5, i6, i7⟩, i8, ⟨z1, z2, z3, z4⟩⟩ := h
  obtain ⟨k', p1, p2, p3, p4, p5⟩ := i6 q hq
  have ek : k' = k := nI_inj (p2.symm.trans h2) (by omega) (by omega)
  subst ek
  have nk : nn (nI k') = k' := nnI (by omega)
  have gx : ∃ G, (if op = 4 then kGuard (σ 8 q) (σ 2 q 3) a else 0) = G := ⟨_, rfl⟩
  unfold kAdd gAddA
  dsimp only
  rw [h2, p3, nk]
  obtain ⟨G, hG⟩ : ∃ G, (if op = 4 then kGuard (σ 8 q) (nI k') a else 0) = G := ⟨_, rfl⟩
  rw [hG]
  have hG20 : ∃ g, g ≤ 20 ∧ G = nI g := by
    rw [← hG]
    split
    · rename_i o4
      obtain ⟨b, b1, b2⟩ := kAct_4 (by rw [← o4]; exact hact)
      rw [b2]
      obtain ⟨g, g1, g2, g3, -⟩ := eGuard (σ := σ) (q := q) hk b1 p5
      exact ⟨g, g3, g1⟩
    · exact ⟨0, by omega, rfl⟩
  have s6 : ∀ q' j, ¬ (q' = q ∧ j = k') → (ty_up (ty_up (ty_up (ty_up σ 6 q k' op) 7 q k' a) 8 q k' G) 2 q 3 (nI k' + 1)) 6 q' j = σ 6 q' j := fun q' j hne => by
    rw [up_a (by decide), up_a (by decide), up_a (by decide), up_all, if_neg (by simpa using hne)]
  have s7 : ∀ q' j, ¬ (q' = q ∧ j = k') → (ty_up (ty_up (ty_up (ty_up σ 6 q k' op) 7 q k' a) 8 q k' G) 2 q 3 (nI k' + 1)) 7 q' j = σ 7 q' j := fun q' j hne => by
    rw [up_a (by decide), up_a (by decide), up_all, if_neg (by simpa using hne), up_a (by decide)]
  have s8 : ∀ q' j, ¬ (q' = q ∧ j = k') → (ty_up (ty_up (ty_up (ty_up σ 6 q k' op) 7 q k' a) 8 q k' G) 2 q 3 (nI k' + 1)) 8 q' j = σ 8 q' j := fun q' j hne => by
    rw [up_a (by decide), up_all, if_neg (by simpa using hne), up_a (by decide), up_a (by decide)]
  have s6' : (ty_up (ty_up (ty_up (ty_up σ 6 q k' op) 7 q k' a) 8 q k' G) 2 q 3 (nI k' + 1)) 6 q k' = op := by simp only [up_all, reduceIte, Nat.reduceEqDiff, and_self, and_true, true_and, and_false, false_and, Nat.one_ne_zero, Nat.zero_ne_one]
  have s7' : (ty_up (ty_up (ty_up (ty_up σ 6 q k' op) 7 q k' a) 8 q k' G) 2 q 3 (nI k' + 1)) 7 q k' = a := by simp only [up_all, reduceIte, Nat.reduceEqDiff, and_self, and_true, true_and, and_false, false_and, Nat.one_ne_zero, Nat.zero_ne_one]
  have s8' : (ty_up (ty_up (ty_up (ty_up σ 6 q k' op) 7 q k' a) 8 q k' G) 2 q 3 (nI k' + 1)) 8 q k' = G := by simp only [up_all, reduceIte, Nat.reduceEqDiff, and_self, and_true, true_and, and_false, false_and, Nat.one_ne_zero, Nat.zero_ne_one]
  have s2 : ∀ q', ¬ q' = q → (ty_up (ty_up (ty_up (ty_up σ 6 q k' op) 7 q k' a) 8 q k' G) 2 q 3 (nI k' + 1)) 2 q' 3 = σ 2 q' 3 := fun q' hne => by
    rw [up_all, if_neg (by simp [hne]), up_a (by decide), up_a (by decide), up_a (by decide)]
  have s2' : (ty_up (ty_up (ty_up (ty_up σ 6 q k' op) 7 q k' a) 8 q k' G) 2 q 3 (nI k' + 1)) 2 q 3 = nI (k' + 1) := by simp only [up_all, reduceIte, Nat.reduceEqDiff, and_self, and_true, true_and, and_false, false_and, Nat.one_ne_zero, Nat.zero_ne_one]; exact nI_1 _
  have t21 : ∀ i, ¬ i = 10 * q + k' → (ty_up (ty_up (ty_up (ty_up τ 20 0 0 0) 21 0 (10 * q + k') op) 22 0 (10 * q + k') a) 23 0 q (nI k' + 1)) 21 0 i = τ 21 0 i := fun i hne => by
    rw [up_a (by decide), up_a (by decide), up_sj hne, up_a (by decide)]
  have t22 : ∀ i, ¬ i = 10 * q + k' → (ty_up (ty_up (ty_up (ty_up τ 20 0 0 0) 21 0 (10 * q + k') op) 22 0 (10 * q + k') a) 23 0 q (nI k' + 1)) 22 0 i = τ 22 0 i := fun i hne => by
    rw [up_a (by decide), up_sj hne, up_a (by decide), up_a (by decide)]
  have t21' : (ty_up (ty_up (ty_up (ty_up τ 20 0 0 0) 21 0 (10 * q + k') op) 22 0 (10 * q + k') a) 23 0 q (nI k' + 1)) 21 0 (10 * q + k') = op := by simp only [up_all, reduceIte, Nat.reduceEqDiff, and_self, and_true, true_and, and_false, false_and, Nat.one_ne_zero, Nat.zero_ne_one]
  have t22' : (ty_up (ty_up (ty_up (ty_up τ 20 0 0 0) 21 0 (10 * q + k') op) 22 0 (10 * q + k') a) 23 0 q (nI k' + 1)) 22 0 (10 * q + k') = a := by simp only [up_all, reduceIte, Nat.reduceEqDiff, and_self, and_true, true_and, and_false, false_and, Nat.one_ne_zero, Nat.zero_ne_one]
  have t23 : ∀ q', ¬ q' = q → (ty_up (ty_up (ty_up (ty_up τ 20 0 0 0) 21 0 (10 * q + k') op) 22 0 (10 * q + k') a) 23 0 q (nI k' + 1)) 23 0 q' = τ 23 0 q' := fun q' hne => by
    rw [up_sj hne, up_a (by decide), up_a (by decide), up_a (by decide)]
  have t23' : (ty_up (ty_up (ty_up (ty_up τ 20 0 0 0) 21 0 (10 * q + k') op) 22 0 (10 * q + k') a) 23 0 q (nI k' + 1)) 23 0 q = nI (k' + 1) := by rw [up_ss]; exact nI_1 _
  have e20 : (ty_up (ty_up (ty_up (ty_up τ 20 0 0 0) 21 0 (10 * q + k') op) 22 0 (10 * q + k') a) 23 0 q (nI k' + 1)) 20 = (ty_up τ 20 0 0 0) 20 := by rw [up_a (by decide), up_a (by decide), up_a (by decide)]
  have eo : ∀ b, ¬ b = 20 → ¬ b = 21 → ¬ b = 22 → ¬ b = 23 → (ty_up (ty_up (ty_up (ty_up τ 20 0 0 0) 21 0 (10 * q + k') op) 22 0 (10 * q + k') a) 23 0 q (nI k' + 1)) b = τ b := fun b q0 q1 q2 q3 => by rw [up_a q3, up_a q2, up_a q1, up_a q0]
  have so : ∀ b, ¬ b = 2 → ¬ b = 6 → ¬ b = 7 → ¬ b = 8 → (ty_up (ty_up (ty_up (ty_up σ 6 q k' op) 7 q k' a) 8 q k' G) 2 q 3 (nI k' + 1)) b = σ b := fun b q0 q1 q2 q3 => by rw [up_a q0, up_a q3, up_a q2, up_a q1]
  generalize hσ' : ty_up (ty_up (ty_up (ty_up σ 6 q k' op) 7 q k' a) 8 q k' G) 2 q 3 (nI k' + 1) = σ' at *
  generalize hτ' : ty_up (ty_up (ty_up (ty_up τ 20 0 0 0) 21 0 (10 * q + k') op) 22 0 (10 * q + k') a) 23 0 q (nI k' + 1) = τ' at *
  clear hσ' hτ'
  have r20 : ∀ j, ¬ j = 0 → τ' 20 0 j = τ 20 0 j := fun j hj => by rw [e20, up_sj hj]
  refine ⟨⟨?_, ?_, h1.2.2⟩, ?_, ?_, ⟨rc, r1, ?_, ?_⟩, ⟨?_, fun q' hq' => ?_, fun t h3 h4 => ?_⟩, fun t ht => ?_, ⟨fun q' hq' => ?_, fun q' j hq' hj => ?_, ?_, ?_⟩⟩
  · rw [r20 1 (by decide)]; exact h1.1
  · rw [r20 2 (by decide)]; exact h1.2.1
  · rw [so 5 (by decide) (by decide) (by decide) (by decide), so 1 (by decide) (by decide) (by decide) (by decide), r20 4 (by decide), r20 5 (by decide), r20 6 (by decide), r20 7 (by decide), r20 8 (by decide)]; exact i2
  · rw [so 9 (by decide) (by decide) (by decide) (by decide), eo 47 (by decide) (by decide) (by decide) (by decide), eo 48 (by decide) (by decide) (by decide) (by decide)]; exact i3
  · rw [so 1 (by decide) (by decide) (by decide) (by decide)]; exact r2
  · rw [r20 9 (by decide), kAllPassed_congr (σ := σ) rc (fun t _ => by rw [so 3 (by decide) (by decide) (by decide) (by decide)])]; exact r3
  · rw [so 0 (by decide) (by decide) (by decide) (by decide)]; exact i5
  · by_cases e : q' = q
    · subst e
      refine ⟨k' + 1, by omega, s2', t23', fun j hj => ?_, fun j hj => ?_⟩
      · by_cases ej : j = k'
        · subst ej
          rw [s6', s7', t21', t22']
          exact ⟨hact, rfl, rfl⟩
        · rw [s6 q' j (by omega), s7 q' j (by omega), t21 _ (by omega), t22 _ (by omega)]
          exact p4 j (by omega)
      · by_cases ej : j = k'
        · subst ej
          rw [s6', s7', s8']
          refine ⟨fun o4 => ?_, fun o4 => by rw [← hG, if_neg o4]⟩
          obtain ⟨b, b1, b2⟩ := kAct_4 (by rw [← o4]; exact hact)
          obtain ⟨g, g1, g2, g3, g4, g5, g6⟩ := eGuard (σ := σ) (q := q') hk b1 p5
          rw [b2, show nn (nI b) = b from nnI (by omega)]
          refine ⟨g, ?_, g2, g3, g4, fun o g' f1 f2 f3 => ?_, ?_⟩
          · rw [← hG, if_pos o4, b2]; exact g1
          · rw [s6 q' o (by omega)] at f2
            rw [s8 q' o (by omega)] at f3
            exact g5 o g' f1 f2 f3
          · rcases g6 with y | ⟨o, y1, y2, y3⟩
            · exact Or.inl y
            · exact Or.inr ⟨o, y1, by rw [s6 q' o (by omega)]; exact y2, by rw [s8 q' o (by omega)]; exact y3⟩
        · have pj := p5 j (by omega)
          rw [s6 q' j (by omega), s7 q' j (by omega), s8 q' j (by omega)]
          refine ⟨fun o4 => ?_, pj.2⟩
          obtain ⟨g, g1, g2, g3, g4, g5, g6⟩ := pj.1 o4
          refine ⟨g, g1, g2, g3, g4, fun o g' f1 f2 f3 => ?_, ?_⟩
          · rw [s6 q' o (by omega)] at f2
            rw [s8 q' o (by omega)] at f3
            exact g5 o g' f1 f2 f3
          · rcases g6 with y | ⟨o, y1, y2, y3⟩
            · exact Or.inl y
            · exact Or.inr ⟨o, y1, by rw [s6 q' o (by omega)]; exact y2, by rw [s8 q' o (by omega)]; exact y3⟩
    · obtain ⟨m, m1, m2, m3, m4, m5⟩ := i6 q' hq'
      refine ⟨m, m1, by rw [s2 q' e]; exact m2, by rw [t23 q' e]; exact m3, fun j hj => ?_, fun j hj => ?_⟩
      · rw [s6 q' j (by omega), s7 q' j (by omega), t21 _ (by omega), t22 _ (by omega)]
        exact m4 j hj
      · have pj := m5 j hj
        rw [s6 q' j (by omega), s7 q' j (by omega), s8 q' j (by omega)]
        refine ⟨fun o4 => ?_, pj.2⟩
        obtain ⟨g, g1, g2, g3, g4, g5, g6⟩ := pj.1 o4
        refine ⟨g, g1, g2, g3, g4, fun o g' f1 f2 f3 => ?_, ?_⟩
        · rw [s6 q' o (by omega)] at f2
          rw [s8 q' o (by omega)] at f3
          exact g5 o g' f1 f2 f3
        · rcases g6 with y | ⟨o, y1, y2, y3⟩
          · exact Or.inl y
          · exact Or.inr ⟨o, y1, by rw [s6 q' o (by omega)]; exact y2, by rw [s8 q' o (by omega)]; exact y3⟩
  · rw [eo 34 (by decide) (by decide) (by decide) (by decide)]
    refine ⟨(i7 t h3 h4).1, ?_⟩
    have := (i7 t h3 h4).2
    simp only [eT0] at this ⊢
    rw [so 3 (by decide) (by decide) (by decide) (by decide)]; exact this
  · exact (i8 t ht).congr (fun j => by rw [so 3 (by decide) (by decide) (by decide) (by decide)]) (fun b c1 c2 => by rw [eo b (by omega) (by omega) (by omega) (by omega)])
  · by_cases e : q' = q
    · rw [e]; exact ⟨k' + 1, by omega, s2'⟩
    · rw [s2 q' e]; exact z1 q' hq'
  · by_cases e : q' = q ∧ j = k'
    · rw [e.1, e.2, s6', s7', s8']
      exact ⟨fun o5 => kAct_5 (by rw [← o5]; exact hact), hG20⟩
    · rw [s6 q' j e, s7 q' j e, s8 q' j e]; exact z2 q' j hq' hj
  · rw [so 3 (by decide) (by decide) (by decide) (by decide)]; exact z3
  · rw [so 4 (by decide) (by decide) (by decide) (by decide)]; exact z4
end E13
