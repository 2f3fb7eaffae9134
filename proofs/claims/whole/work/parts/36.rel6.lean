section E6
variable {tc wc : Nat} {σ τ : ty_St}
/-- one action of a strand that is at it -/
theorem eStep (hx : eX tc wc σ τ) (htc : tc ≤ 12) {h : Nat} (hy : eY h σ τ) {sc : Nat} (hsc : sc ≤ 52) (hs : σ 1 0 8 = nI sc) (hh : h < sc) {tm : Nat} (htm : tm ≤ 150) (h11 : σ 1 0 11 = nI tm) (hq : nn (σ 4 h 0) < 10) {z : Nat} (hd : eD h z σ τ) :
    ((kAction σ h).1 = 0 ∧ eRes tc wc h (kAction σ h).2 (gStep τ h)) ∨ ((kAction σ h).1 = 1 ∧ (∃ k, σ 2 (nn (σ 4 h 0)) 3 = nI k ∧ k ≤ 10 ∧ z < k) ∧ eGo tc wc h z σ (kAction σ h).2 (gStep τ h)) := by
  obtain ⟨h8, h4, h43, hz20, h3, k', hk', h2', h42⟩ := hd
  obtain ⟨k, hp, -⟩ := hx.2.1.2.1 _ hq
  have hk := hp.1
  have ek : k' = k := nI_inj (h2'.symm.trans hp.2.1) (by omega) (by omega)
  subst ek
  have n8 : nn (σ 1 0 8) = sc := by rw [hs]; exact nnI (by omega)
  obtain ⟨s1, s2, -⟩ := hx.2.2.2.2 h (by omega)
  unfold kAction gStep
  dsimp only
  rw [← s1.1, hp.2.1, hp.2.2.1, h3, h42]
  by_cases c : z < k'
  · obtain ⟨p1, p2, p3, p4, p5⟩ := hp.2.2.2 z c
    rw [if_pos c, if_neg (nI_ge c (by omega)), if_neg (nI_ge c (by omega)), show nn (nI z) = z from nnI (by omega)]
    unfold gActs
    rw [← p2, ← p3, h42, if_pos c, nI_1]
    have hx1 : eX tc wc σ (ty_up τ 42 0 h (nI (z + 1))) := hx.r42
    have hy1 : eY h σ (ty_up τ 42 0 h (nI (z + 1))) := hy.r
    have e42 : (ty_up τ 42 0 h (nI (z + 1))) 42 0 h = nI (z + 1) := up_ss
    have e43 : (ty_up τ 42 0 h (nI (z + 1))) 43 0 h = 0 := by simp only [up_all, reduceIte, Nat.reduceEqDiff, and_self, and_true, true_and, and_false, false_and, Nat.one_ne_zero, Nat.zero_ne_one]; exact h43
    have hp1 : ePq σ (ty_up τ 42 0 h (nI (z + 1))) (nn (σ 4 h 0)) k' := hp
    have hks : ∃ k, nI k' = nI k ∧ k ≤ 10 ∧ z < k := ⟨k', rfl, hk, c⟩
    generalize ty_up τ 42 0 h (nI (z + 1)) = τ1 at *
    generalize ho : σ 6 (nn (σ 4 h 0)) z = op at *
    generalize ha : σ 7 (nn (σ 4 h 0)) z = a at *
    by_cases w : op = 0 ∨ op = 1 ∨ op = 2 ∨ op = 7
    · rw [if_pos w]
      rcases eWaitNew hx1 htc hy1 hsc hs hh htm h11 h8 h4 hp1 c h3 e42 e43 ho w p1 with y | y
      · exact Or.inl y
      · exact Or.inr ⟨y.1, hks, y.2⟩
    · rw [if_neg w]
      have w0 : ¬ op = 0 := fun y => w (Or.inl y)
      have w1 : ¬ op = 1 := fun y => w (Or.inr (Or.inl y))
      have w2 : ¬ op = 2 := fun y => w (Or.inr (Or.inr (Or.inl y)))
      have w7 : ¬ op = 7 := fun y => w (Or.inr (Or.inr (Or.inr y)))
      by_cases o3 : op = 3
      · rw [if_pos o3]
        have eg : gAct τ1 h op a = gEnds τ1 h a := by unfold gAct; rw [if_neg w0, if_neg w1, if_neg w2, if_pos o3]
        rw [eg]
        obtain ⟨a1, a2, a3, a4, a5, a6⟩ := hx1.ends htc hy1 (d := a) (by omega) (by omega) htm h11 (Or.inr (kAct_3 (by rw [← o3]; exact p1)))
        exact Or.inl ⟨rfl, Or.inl ⟨a4, a1, a2, a5⟩⟩
      rw [if_neg o3]
      by_cases o10 : op = 10
      · rw [if_pos o10]
        have eg : gAct τ1 h op a = gEnds τ1 h (-1) := by
          unfold gAct
          rw [if_neg w0, if_neg w1, if_neg w2, if_neg o3, if_neg (show ¬ op = 5 by rw [o10]; decide), if_neg (show ¬ op = 6 by rw [o10]; decide), if_neg w7, if_neg (show ¬ op = 8 by rw [o10]; decide), if_neg (show ¬ op = 9 by rw [o10]; decide), if_pos o10]
        rw [eg]
        obtain ⟨a1, a2, a3, a4, a5, a6⟩ := hx1.ends htc hy1 (d := -1) (by omega) (by omega) htm h11 (Or.inl rfl)
        exact Or.inl ⟨rfl, Or.inl ⟨a4, a1, a2, a5⟩⟩
      rw [if_neg o10]
      obtain ⟨b1, b2⟩ := hx1.once htc hsc hs hh (op := op) (a := a) ⟨w0, w1, w2, o3, w7, o10⟩
      have f0 := b2.2.2.1 h 0 (by omega) (by simp)
      have f3 := b2.2.2.1 h 3 (by omega) (by simp)
      have f4 := b2.2.2.1 h 4 (by omega) (by simp)
      have f8 := b2.2.2.1 h 8 (by omega) (by simp)
      have r42 := b2.2.2.2.1 42 h (by omega) (by simp)
      have r43 := b2.2.2.2.1 43 h (by omega) (by simp)
      have f2 := b2.1
      have fs := b2.2.2.2.2.1
      have by1 := b2.y hy1
      refine Or.inr ⟨rfl, hks, z + 1, by omega, b1.up4 (by simp), by1.up4, ?_, ?_, ?_, ?_⟩
      · unfold kAt
        simp only [eD, up_all, reduceIte, Nat.reduceEqDiff, and_self, and_true, true_and, and_false, false_and, Nat.one_ne_zero, Nat.zero_ne_one]
        refine ⟨f8.trans h8, f4.trans h4, r43.trans e43, by omega, ?_, k', hk, ?_, ?_⟩
        · rw [f3, h3, nI_1]
        · rw [f2, f0]; exact hp.2.1
        · rw [r42, e42]; congr 1; split <;> omega
      · unfold kAt; simp only [up_all, reduceIte, Nat.reduceEqDiff, and_self, and_true, true_and, and_false, false_and, Nat.one_ne_zero, Nat.zero_ne_one]; exact f0
      · show nn (σ 1 0 8) ≤ nn ((kAt (kAtOnce σ h op a) h) 1 0 8)
        rw [kAt_a (by decide)]; exact fs
      · show (kAt (kAtOnce σ h op a) h) 2 = σ 2
        rw [kAt_a (by decide)]; exact f2
  · rw [if_neg c, if_pos (nI_le (by omega) (by omega)), if_pos (nI_le (Nat.le_refl _) (by omega))]
    obtain ⟨a1, a2, a3, a4, a5, a6⟩ := hx.ends htc hy (d := -1) (by omega) (by omega) htm h11 (Or.inl rfl)
    exact Or.inl ⟨rfl, Or.inl ⟨a4, a1, a2, a5⟩⟩
/-- the first action of a strand that waits -/
theorem eAwake (hx : eX tc wc σ τ) (htc : tc ≤ 12) {h : Nat} (hy : eY h σ τ) {sc : Nat} (hsc : sc ≤ 52) (hs : σ 1 0 8 = nI sc) (hh : h < sc) {tm : Nat} (htm : tm ≤ 150) (h11 : σ 1 0 11 = nI tm) (hq : nn (σ 4 h 0) < 10) (h8 : σ 4 h 8 = 0) (h4 : σ 4 h 4 = 1) (hw : eW σ τ h) :
    ((kAction σ h).1 = 0 ∧ eRes tc wc h (kAction σ h).2 (gTurn0 τ h)) ∨ ((kAction σ h).1 = 1 ∧ ∃ z k, σ 2 (nn (σ 4 h 0)) 3 = nI k ∧ k ≤ 10 ∧ z < k ∧ eGo tc wc h z σ (kAction σ h).2 (gTurn0 τ h)) := by
  have hw0 := hw
  obtain ⟨-, k', z, hk', hz, h2', h3, h42, hop, h43, h44⟩ := (hw h8).resolve_left fun y => by rw [h4] at y; exact absurd y.1 (by decide)
  obtain ⟨k, hp, -⟩ := hx.2.1.2.1 _ hq
  have hk := hp.1
  have ek : k' = k := nI_inj (h2'.symm.trans hp.2.1) (by omega) (by omega)
  subst ek
  have n8 : nn (σ 1 0 8) = sc := by rw [hs]; exact nnI (by omega)
  obtain ⟨s1, s2, -⟩ := hx.2.2.2.2 h (by omega)
  have et : τ 20 0 3 = σ 1 0 11 := hx.1.2.1.1.symm
  have gw : nn (τ 42 0 h - 1) = z := by rw [h42, nI_pred]; exact nnI (by omega)
  obtain ⟨p1, p2, p3, p4, p5⟩ := hp.2.2.2 z hz
  have nle : ¬ nI k' ≤ nI z := nI_ge hz (by omega)
  have e45 : τ 45 0 h = σ 4 h 6 := s1.2.2.2.1.symm
  have n5 : ¬ τ 43 0 h = 5 := by rw [h43]; exact (eOf_5 _).1
  unfold kAction
  dsimp only
  rw [h2', h3, if_neg nle, show nn (nI z) = z from nnI (by omega), if_pos hop]
  generalize ho : σ 6 (nn (σ 4 h 0)) z = op at *
  generalize ha : σ 7 (nn (σ 4 h 0)) z = a at *
  have w0 : kWait0 σ h a = σ := by unfold kWait0; rw [if_neg (by rw [h4]; decide)]
  have stay : eRes tc wc h σ τ := Or.inr ⟨h8, hx, hy, hw0, by rw [h43]; exact (eOf_5 _).2⟩
  have goes : eGo tc wc h z σ (kAt (ty_up σ 4 h 4 0) h) (ty_up τ 43 0 h 0) := by
    refine ⟨z + 1, by omega, ?_, ?_, ?_, ?_, ?_, ?_⟩
    · exact ((hx.r43 n5 (by decide)).up4 (by simp)).up4 (by simp)
    · exact ((hy.r).up4).up4
    · unfold kAt
      simp only [eD, up_all, reduceIte, Nat.reduceEqDiff, and_self, and_true, true_and, and_false, false_and, Nat.one_ne_zero, Nat.zero_ne_one]
      refine ⟨h8, by omega, ?_, k', hk, ?_, ?_⟩
      · rw [h3, nI_1]
      · exact hp.2.1
      · rw [h42]; congr 1; split <;> omega
    · unfold kAt; simp only [up_all, reduceIte, Nat.reduceEqDiff, and_self, and_true, true_and, and_false, false_and, Nat.one_ne_zero, Nat.zero_ne_one]
    · exact Nat.le_refl _
    · rfl
  have w1 : ∀ j : Bool, kReady σ h op = j → kWait1 σ h op = if j = true then (1, kAt (ty_up σ 4 h 4 0) h) else (0, σ) := fun j hj => by unfold kWait1; rw [hj]
  have nm : ¬ op = 0 → σ 4 h 6 = 0 → kWait σ h op a = kWait1 σ h op := by
    intro o0 m
    unfold kWait
    rw [w0, if_neg o0, if_neg (show ¬ ¬ σ 4 h 6 = 0 from fun y => y m)]
    rw [show kTake σ h = σ from up_self m]
  have int : ¬ op = 0 → ¬ σ 4 h 6 = 0 → ((kWait σ h op a).1 = 0 ∧ eRes tc wc h (kWait σ h op a).2 (gTurn0 τ h)) ∨ ((kWait σ h op a).1 = 1 ∧ ∃ z k, nI k' = nI k ∧ k ≤ 10 ∧ z < k ∧ eGo tc wc h z σ (kWait σ h op a).2 (gTurn0 τ h)) := by
    intro o0 m
    have eg : gTurn0 τ h = gInterrupts τ h z := by
      unfold gTurn0
      rw [if_pos, gw]
      refine ⟨by rw [h43]; exact (eOf_5 _).2, ?_, by rw [e45]; exact m⟩
      rw [h43]
      rcases hop with o | o | o | o
      · exact absurd o o0
      · rw [o]; decide
      · rw [o]; decide
      · rw [o]; decide
    rw [eg]
    unfold kWait
    rw [w0, if_neg o0, if_pos m]
    rcases hx.intr htc hy (by omega) (by omega) htm h11 h8 hp hz h3 with y | y
    · exact Or.inl y
    · exact Or.inr ⟨y.1, z, k', rfl, hk, hz, y.2⟩
  have fin : ∀ j : Bool, kReady σ h op = j → kWait σ h op a = kWait1 σ h op → gTurn0 τ h = (if j = true then ty_up τ 43 0 h 0 else τ) → ((kWait σ h op a).1 = 0 ∧ eRes tc wc h (kWait σ h op a).2 (gTurn0 τ h)) ∨ ((kWait σ h op a).1 = 1 ∧ ∃ z k, nI k' = nI k ∧ k ≤ 10 ∧ z < k ∧ eGo tc wc h z σ (kWait σ h op a).2 (gTurn0 τ h)) := by
    intro j hj h1 h2
    rw [h1, w1 j hj, h2]
    cases j
    · exact Or.inl ⟨rfl, stay⟩
    · exact Or.inr ⟨rfl, z, k', rfl, hk, hz, goes⟩
  have t0 : (op = 0 ∨ σ 4 h 6 = 0) → gTurn0 τ h = if ((τ 43 0 h = 1 ∨ τ 43 0 h = 2) ∧ τ 44 0 h ≤ τ 20 0 3) ∨ (τ 43 0 h = 4 ∧ gJoined τ h (nn (τ 20 0 8)) = true) then ty_up τ 43 0 h 0 else τ := by
    intro y
    unfold gTurn0
    rw [if_neg]
    rintro ⟨y1, y2, y3⟩
    rcases y with y | y
    · rw [h43, y] at y2; exact y2 (by decide)
    · rw [e45] at y3; exact y3 y
  rcases hop with o | o | o | o
  · refine fin (decide (¬ op = 2 ∧ σ 4 h 5 ≤ σ 1 0 11)) ?_ ?_ ?_
    · unfold kReady; rw [if_neg (by rw [o]; decide)]
    · unfold kWait; rw [w0, if_pos o]
    · rw [t0 (Or.inl o), h44 (Or.inl o), et, h43, o]
      by_cases c : σ 4 h 5 ≤ σ 1 0 11 <;> simp [c, eOf]
  · by_cases m : σ 4 h 6 = 0
    · have o0 : ¬ op = 0 := by rw [o]; decide
      refine fin (decide (¬ op = 2 ∧ σ 4 h 5 ≤ σ 1 0 11)) ?_ (nm o0 m) ?_
      · unfold kReady; rw [if_neg (by rw [o]; decide)]
      · rw [t0 (Or.inr m), h44 (Or.inr o), et, h43, o]
        by_cases c : σ 4 h 5 ≤ σ 1 0 11 <;> simp [c, eOf]
    · exact int (by rw [o]; decide) m
  · by_cases m : σ 4 h 6 = 0
    · have o0 : ¬ op = 0 := by rw [o]; decide
      refine fin (decide (¬ op = 2 ∧ σ 4 h 5 ≤ σ 1 0 11)) ?_ (nm o0 m) ?_
      · unfold kReady; rw [if_neg (by rw [o]; decide)]
      · rw [t0 (Or.inr m), h43, o]
        simp [eOf]
    · exact int (by rw [o]; decide) m
  · by_cases m : σ 4 h 6 = 0
    · have o0 : ¬ op = 0 := by rw [o]; decide
      have eov : kOver σ h (nn (σ 1 0 8)) = gJoined τ h (nn (τ 20 0 8)) := by
        rw [← hx.1.2.1.2.2.2.2.2]
        exact eOver hx _ (Nat.le_refl _)
      refine fin (gJoined τ h (nn (τ 20 0 8))) ?_ (nm o0 m) ?_
      · unfold kReady; rw [if_pos o, eov]
      · rw [t0 (Or.inr m), h43, o]
        simp [eOf]
    · exact int (by rw [o]; decide) m
end E6
