/-! THE CLASS AND THE REFERENCE SIDE BY SIDE: the relation of their ints in a run -/
theorem up_all {σ : ty_St} {a i j a' i' j' : Nat} {x : Int32} : ty_up σ a i j x a' i' j' = if a' = a ∧ i' = i ∧ j' = j then x else σ a' i' j' := by
  by_cases h : a' = a ∧ i' = i
  · obtain ⟨rfl, rfl⟩ := h
    simp [ty_up, upd]
  · have h2 : ¬ (a' = a ∧ i' = i ∧ j' = j) := fun q => h ⟨q.1, q.2.1⟩
    simp [ty_up, h, h2]
/-- the single ints, the notes, the warnings -/
def eG (tc wc : Nat) (σ τ : ty_St) : Prop :=
  (σ 1 0 6 = nI tc ∧ τ 20 0 1 = nI tc ∧ σ 1 0 7 = nI wc ∧ τ 20 0 2 = nI wc) ∧ (σ 1 0 11 = τ 20 0 3 ∧ σ 5 0 1 = τ 20 0 4 ∧ σ 5 1 1 = τ 20 0 5 ∧ σ 1 0 9 = τ 20 0 6 ∧ σ 1 0 10 = τ 20 0 7 ∧ σ 1 0 8 = τ 20 0 8) ∧ (∀ j, j < 12 → σ 9 0 j = τ 47 0 j) ∧ (∀ j, j < 8 → σ 9 1 j = τ 48 0 j)
/-- a program of k actions, its guards laid out in the reference -/
def ePq (σ τ : ty_St) (q k : Nat) : Prop :=
  k ≤ 10 ∧ σ 2 q 3 = nI k ∧ τ 23 0 q = nI k ∧ ∀ j, j < k → kAct (σ 6 q j) (σ 7 q j) = 1 ∧ σ 6 q j = τ 21 0 (10 * q + j) ∧ σ 7 q j = τ 22 0 (10 * q + j) ∧
    (σ 6 q j = 4 → ∃ g, j < g ∧ g ≤ 20 ∧ σ 8 q j = nI g ∧ τ 24 0 (10 * q + j) = nI ((if g < k then g else k) - 1)) ∧ (¬ σ 6 q j = 4 → σ 8 q j = 0)
/-- how the class's own guards lie: none reaches beyond the one around it -/
def eQ (σ : ty_St) (q k : Nat) : Prop := ∀ j, j < k → (σ 6 q j = 4 → ∃ g, σ 8 q j = nI g ∧ j < g ∧ g ≤ 20 ∧ g ≤ j + 1 + nn (σ 7 q j) ∧ (∀ o g', o < j → σ 6 q o = 4 → σ 8 q o = nI g' → g' ≤ 20 → j < g' → g ≤ g') ∧ (g = j + 1 + nn (σ 7 q j) ∨ ∃ o, o < j ∧ σ 6 q o = 4 ∧ σ 8 q o = nI g)) ∧ (¬ σ 6 q j = 4 → σ 8 q j = 0)
/-- a trial that was not made yet -/
def eT0 (σ : ty_St) (t : Nat) : Prop := σ 3 t 4 = 0 ∧ σ 3 t 5 = -1 ∧ σ 3 t 6 = -1 ∧ σ 3 t 7 = -1 ∧ σ 3 t 8 = -1 ∧ σ 3 t 9 = 0 ∧ σ 3 t 10 = 0
def eP (tc wc : Nat) (σ τ : ty_St) : Prop := (σ 0 0 1 = nI tc ∧ σ 0 0 2 = nI wc) ∧ (∀ q, q < 10 → ∃ k, ePq σ τ q k ∧ eQ σ q k) ∧ ∀ t, tc ≤ t → t < 12 → τ 34 0 t = 0 ∧ eT0 σ t
/-- a trial of the run -/
def eT (σ τ : ty_St) (t : Nat) : Prop :=
  (σ 3 t 0 = τ 25 0 t ∧ σ 3 t 1 = τ 26 0 t ∧ (∃ k, k ≤ 50 ∧ σ 3 t 1 = nI k) ∧ τ 27 0 t = σ 3 t 2 &&& (σ 3 t 3 ^^^ (-1)) ∧ σ 3 t 3 = τ 28 0 t) ∧
  (σ 3 t 4 = τ 29 0 t ∧ σ 3 t 5 = τ 30 0 t ∧ σ 3 t 6 = τ 31 0 t ∧ σ 3 t 7 = τ 32 0 t ∧ σ 3 t 8 = τ 33 0 t ∧ σ 3 t 9 = τ 37 0 t ∧ σ 3 t 10 = τ 36 0 t) ∧
  ((σ 3 t 6 = -1 ∧ σ 3 t 4 = 0 ∧ σ 3 t 12 = -1) ∨ (∃ b l, b ≤ 150 ∧ σ 3 t 6 = nI b ∧ l < nn (σ 1 0 8) ∧ l < 52 ∧ σ 3 t 11 = nI l ∧ τ 34 0 t = nI l ∧ σ 3 t 12 = τ 35 0 t)) ∧
  (σ 3 t 12 = -1 ∨ 0 ≤ σ 3 t 12) ∧ (σ 3 t 4 = 3 → ∃ v, v ≤ 150 ∧ σ 3 t 7 = nI v) ∧ (σ 3 t 4 = 0 → σ 3 t 5 = -1)
/-- a worker: the class lets go of a trial, the reference knows by looking that it may -/
def eK (tc wc : Nat) (σ τ : ty_St) (w : Nat) : Prop :=
  (τ 38 0 w = -1 ∧ σ 10 0 w = -1) ∨ (w < wc ∧ ∃ t, t < tc ∧ τ 38 0 w = nI t ∧ ¬ σ 3 t 6 = -1 ∧ (σ 10 0 w = nI t ∨ (σ 10 0 w = -1 ∧ (σ 4 (nn (σ 3 t 11)) 8 = 1 ∨ (σ 3 t 4 = 3 ∧ σ 3 t 7 + 3 ≤ σ 1 0 11 ∧ σ 3 t 9 = 1)))))
/-- a strand -/
def eS (tc : Nat) (σ τ : ty_St) (n : Nat) : Prop :=
  (σ 4 n 0 = τ 41 0 n ∧ σ 4 n 1 = τ 39 0 n ∧ σ 4 n 2 = τ 40 0 n ∧ σ 4 n 6 = τ 45 0 n ∧ σ 4 n 7 = τ 46 0 n) ∧ ((σ 4 n 8 = 0 ∧ ¬ τ 43 0 n = 5) ∨ (σ 4 n 8 = 1 ∧ τ 43 0 n = 5)) ∧ (∃ t, t < tc ∧ σ 4 n 1 = nI t ∧ ¬ σ 3 t 6 = -1)
def eOf (op : Int32) : Int32 := if op = 0 then 1 else if op = 1 then 2 else if op = 2 then 3 else 4
/-- a strand between two turns: it is over, it is new, or it waits -/
def eW (σ τ : ty_St) (n : Nat) : Prop :=
  σ 4 n 8 = 0 → (σ 4 n 4 = 0 ∧ σ 4 n 3 = 0 ∧ τ 43 0 n = 0 ∧ τ 42 0 n = 0) ∨ (σ 4 n 4 = 1 ∧ ∃ k z, k ≤ 10 ∧ z < k ∧ σ 2 (nn (σ 4 n 0)) 3 = nI k ∧ σ 4 n 3 = nI z ∧ τ 42 0 n = nI (z + 1) ∧
    (σ 6 (nn (σ 4 n 0)) z = 0 ∨ σ 6 (nn (σ 4 n 0)) z = 1 ∨ σ 6 (nn (σ 4 n 0)) z = 2 ∨ σ 6 (nn (σ 4 n 0)) z = 7) ∧ τ 43 0 n = eOf (σ 6 (nn (σ 4 n 0)) z) ∧ ((σ 6 (nn (σ 4 n 0)) z = 0 ∨ σ 6 (nn (σ 4 n 0)) z = 1) → τ 44 0 n = σ 4 n 5))
def eX (tc wc : Nat) (σ τ : ty_St) : Prop := eG tc wc σ τ ∧ eP tc wc σ τ ∧ (∀ t, t < tc → eT σ τ t) ∧ (∀ w, w < 4 → eK tc wc σ τ w) ∧ (∀ n, n < nn (σ 1 0 8) → eS tc σ τ n)
def eY (h : Nat) (σ τ : ty_St) : Prop := ∀ n, n < nn (σ 1 0 8) → ¬ n = h → eW σ τ n
/-- the strand h is at it: its next place is z -/
def eD (h z : Nat) (σ τ : ty_St) : Prop := σ 4 h 8 = 0 ∧ σ 4 h 4 = 0 ∧ τ 43 0 h = 0 ∧ z ≤ 20 ∧ σ 4 h 3 = nI z ∧ ∃ k, k ≤ 10 ∧ σ 2 (nn (σ 4 h 0)) 3 = nI k ∧ τ 42 0 h = nI (if z < k then z else k)
/-- a note, a warning -/
def gNoteX (τ : ty_St) (x : Int32) : ty_St := let τ1 := if τ 20 0 4 < 12 then ty_up τ 47 0 (nn (τ 20 0 4)) x else τ
  ty_up τ1 20 0 4 (τ1 20 0 4 + 1)
def gWarnX (τ : ty_St) (x : Int32) : ty_St := let τ1 := if τ 20 0 5 < 8 then ty_up τ 48 0 (nn (τ 20 0 5)) x else τ
  ty_up τ1 20 0 5 (τ1 20 0 5 + 1)
section EX
variable {tc wc : Nat} {σ τ : ty_St}
theorem eP.up3 (h : eP tc wc σ τ) {t j : Nat} {x : Int32} (ht : t < tc) : eP tc wc (ty_up σ 3 t j x) τ := by
  refine ⟨h.1, h.2.1, fun u h1 h2 => ⟨(h.2.2 u h1 h2).1, ?_⟩⟩
  have := (h.2.2 u h1 h2).2
  unfold eT0 at this ⊢
  rw [up_i (show ¬ u = t by omega)]
  exact this
theorem eX.note (h : eX tc wc σ τ) (x : Int32) : eX tc wc (kLog σ 0 x) (gNoteX τ x) := by
  obtain ⟨⟨g1, g2, g3, g4⟩, hP, hT, hK, hS⟩ := h
  have e : σ 5 0 1 = τ 20 0 4 := g2.2.1
  unfold kLog gNoteX kCap
  rw [e, if_pos (show (0 : Nat) = 0 from rfl)]
  dsimp only
  by_cases q : τ 20 0 4 < 12
  · rw [if_pos q, if_pos q]
    refine ⟨⟨g1, ?_, fun j hj => ?_, g4⟩, hP, hT, hK, hS⟩
    · simp [up_all]; grind
    · simp [up_all]; grind
  · rw [if_neg q, if_neg q]
    refine ⟨⟨g1, ?_, g3, g4⟩, hP, hT, hK, hS⟩
    · simp [up_all]; grind
theorem eX.warn (h : eX tc wc σ τ) (x : Int32) : eX tc wc (kLog σ 1 x) (gWarnX τ x) := by
  obtain ⟨⟨g1, g2, g3, g4⟩, hP, hT, hK, hS⟩ := h
  have e : σ 5 1 1 = τ 20 0 5 := g2.2.2.1
  unfold kLog gWarnX kCap
  rw [e]
  rw [if_neg (show ¬ (1 = 0) by decide)]
  dsimp only
  by_cases q : τ 20 0 5 < 8
  · rw [if_pos q, if_pos q]
    refine ⟨⟨g1, ?_, g3, fun j hj => ?_⟩, hP, hT, hK, hS⟩
    · simp [up_all]; grind
    · simp [up_all]; grind
  · rw [if_neg q, if_neg q]
    refine ⟨⟨g1, ?_, g3, g4⟩, hP, hT, hK, hS⟩
    · simp [up_all]; grind
theorem eX.up4 (h : eX tc wc σ τ) {n j : Nat} {x : Int32} (hj : j = 3 ∨ j = 4 ∨ j = 5 ∨ j = 9) : eX tc wc (ty_up σ 4 n j x) τ := by
  obtain ⟨hG, hP, hT, hK, hS⟩ := h
  refine ⟨hG, hP, hT, fun w hw => ?_, fun m hm => ?_⟩
  · have := hK w hw
    simp only [eK, up_all] at this ⊢
    grind
  · have := hS m hm
    have e : ∀ i, (i = 0 ∨ i = 1 ∨ i = 2 ∨ i = 6 ∨ i = 7 ∨ i = 8) → (ty_up σ 4 n j x) 4 m i = σ 4 m i := fun i hi => by rw [up_all, if_neg (by omega)]
    simp only [eS] at this ⊢
    rw [e 0 (by simp), e 1 (by simp), e 2 (by simp), e 6 (by simp), e 7 (by simp), e 8 (by simp)]
    exact this
theorem eT.congr {σ' τ' : ty_St} {t : Nat} (h : eT σ τ t) (e3 : ∀ j, σ' 3 t j = σ 3 t j) (e8 : nn (σ 1 0 8) ≤ nn (σ' 1 0 8)) (er : ∀ a, 25 ≤ a → a ≤ 37 → τ' a 0 t = τ a 0 t) : eT σ' τ' t := by
  obtain ⟨h1, h2, h3, h4⟩ := h
  refine ⟨?_, ?_, ?_, ?_⟩
  · rw [e3, e3, e3, e3, er 25 (by omega) (by omega), er 26 (by omega) (by omega), er 27 (by omega) (by omega), er 28 (by omega) (by omega)]; exact h1
  · rw [e3, e3, e3, e3, e3, e3, e3, er 29 (by omega) (by omega), er 30 (by omega) (by omega), er 31 (by omega) (by omega), er 32 (by omega) (by omega), er 33 (by omega) (by omega), er 37 (by omega) (by omega), er 36 (by omega) (by omega)]; exact h2
  · rw [e3, e3, e3, e3, er 34 (by omega) (by omega), er 35 (by omega) (by omega)]
    rcases h3 with q | ⟨b, l, q1, q2, q3, q4⟩
    · exact Or.inl q
    · exact Or.inr ⟨b, l, q1, q2, by omega, q4⟩
  · rw [e3, e3, e3, e3]; exact h4
theorem eX.r42 (h : eX tc wc σ τ) {n : Nat} {x : Int32} : eX tc wc σ (ty_up τ 42 0 n x) := h
theorem eX.r44 (h : eX tc wc σ τ) {n : Nat} {x : Int32} : eX tc wc σ (ty_up τ 44 0 n x) := h
theorem eX.r43 (h : eX tc wc σ τ) {n : Nat} {x : Int32} (h1 : ¬ τ 43 0 n = 5) (h2 : ¬ x = 5) : eX tc wc σ (ty_up τ 43 0 n x) := by
  obtain ⟨hG, hP, hT, hK, hS⟩ := h
  refine ⟨hG, hP, hT, hK, fun m hm => ?_⟩
  have := hS m hm
  simp only [eS, up_all] at this ⊢
  grind
theorem eX.mark (h : eX tc wc σ τ) {n : Nat} {x : Int32} : eX tc wc (ty_up σ 4 n 6 x) (ty_up τ 45 0 n x) := by
  obtain ⟨hG, hP, hT, hK, hS⟩ := h
  refine ⟨hG, hP, hT, fun w hw => ?_, fun m hm => ?_⟩
  · have := hK w hw
    simp only [eK, up_all] at this ⊢
    grind
  · have := hS m hm
    simp only [eS, up_all] at this ⊢
    grind
theorem eX.silent (h : eX tc wc σ τ) {n : Nat} {x : Int32} : eX tc wc (ty_up σ 4 n 7 x) (ty_up τ 46 0 n x) := by
  obtain ⟨hG, hP, hT, hK, hS⟩ := h
  refine ⟨hG, hP, hT, fun w hw => ?_, fun m hm => ?_⟩
  · have := hK w hw
    simp only [eK, up_all] at this ⊢
    grind
  · have := hS m hm
    simp only [eS, up_all] at this ⊢
    grind
theorem eX.over (h : eX tc wc σ τ) {n : Nat} : eX tc wc (ty_up σ 4 n 8 1) (ty_up τ 43 0 n 5) := by
  obtain ⟨hG, hP, hT, hK, hS⟩ := h
  refine ⟨hG, hP, hT, fun w hw => ?_, fun m hm => ?_⟩
  · have := hK w hw
    simp only [eK, up_all] at this ⊢
    grind
  · have := hS m hm
    simp only [eS, up_all] at this ⊢
    grind
theorem eX.judge (h : eX tc wc σ τ) {t tm : Nat} {v f : Int32} (ht : t < tc) (h0 : σ 3 t 4 = 0) (h6 : ¬ σ 3 t 6 = -1) (htm : tm ≤ 150) (h11 : σ 1 0 11 = nI tm) (hv : ¬ v = 0) : eX tc wc (ty_up (ty_up (ty_up σ 3 t 5 f) 3 t 4 v) 3 t 7 (σ 1 0 11)) (gJudged τ t v f) := by
  obtain ⟨hG, hP, hT, hK, hS⟩ := h
  have e11 : σ 1 0 11 = τ 20 0 3 := hG.2.1.1
  unfold gJudged
  rw [← e11]
  refine ⟨hG, ((hP.up3 ht).up3 ht).up3 ht, fun u hu => ?_, fun w hw => ?_, fun m hm => ?_⟩
  · by_cases e : u = t
    · subst e
      obtain ⟨q1, q2, q3, q4, q5, q6⟩ := hT u hu
      simp only [eT, up_all, reduceIte, Nat.reduceEqDiff, and_self, and_true, true_and, and_false, false_and, Nat.one_ne_zero, Nat.zero_ne_one]
      exact ⟨q1, ⟨q2.2.2.1, q2.2.2.2.2.1, q2.2.2.2.2.2⟩, Or.inr (q3.resolve_left fun z => h6 z.1), q4, fun _ => ⟨tm, htm, h11⟩, fun z => absurd z hv⟩
    · refine (hT u hu).congr (fun j => ?_) (Nat.le_refl _) (fun a h1 h2 => ?_)
      · rw [up_all, if_neg (by simp [e]), up_all, if_neg (by simp [e]), up_all, if_neg (by simp [e])]
      · rw [up_all, if_neg (by simp [e]), up_all, if_neg (by simp [e]), up_all, if_neg (by simp [e])]
  · have := hK w hw
    simp only [eK, up_all] at this ⊢
    grind
  · have := hS m hm
    simp only [eS, up_all] at this ⊢
    grind
theorem eX.died (h : eX tc wc σ τ) {t : Nat} {d : Int32} (ht : t < tc) (h6 : ¬ σ 3 t 6 = -1) (hd : 0 ≤ d) : eX tc wc (ty_up σ 3 t 12 d) (ty_up τ 35 0 t d) := by
  obtain ⟨hG, hP, hT, hK, hS⟩ := h
  refine ⟨hG, hP.up3 ht, fun u hu => ?_, fun w hw => ?_, fun m hm => ?_⟩
  · by_cases e : u = t
    · subst e
      obtain ⟨q1, q2, q3, q4, q5, q6⟩ := hT u hu
      obtain ⟨b, l, z1, z2, z3, z4, z5, z6, z7⟩ := q3.resolve_left fun z => h6 z.1
      simp only [eT, up_all, reduceIte, Nat.reduceEqDiff, and_self, and_true, true_and, and_false, false_and, Nat.one_ne_zero, Nat.zero_ne_one]
      exact ⟨q1, q2, Or.inr ⟨b, l, z1, z2, z3, z4, z5, z6⟩, Or.inr hd, q5, q6⟩
    · refine (hT u hu).congr (fun j => ?_) (Nat.le_refl _) (fun a h1 h2 => ?_)
      · rw [up_all, if_neg (by simp [e])]
      · rw [up_all, if_neg (by simp [e])]
  · have := hK w hw
    simp only [eK, up_all] at this ⊢
    grind
  · have := hS m hm
    simp only [eS, up_all] at this ⊢
    grind
theorem eY.w {h : Nat} {σ' τ' : ty_St} (hy : eY h σ τ) (e8 : σ' 1 0 8 = σ 1 0 8) (e : ∀ n, n < nn (σ 1 0 8) → ¬ n = h → eW σ τ n → eW σ' τ' n) : eY h σ' τ' := fun n hn hne => by
  rw [e8] at hn
  exact e n hn hne (hy n hn hne)
/-- a strand that nothing has touched -/
theorem eW.congr {n : Nat} {σ' τ' : ty_St} (hw : eW σ τ n) (e2 : σ' 2 = σ 2) (e6 : σ' 6 = σ 6) (e4 : ∀ j, (j = 0 ∨ j = 3 ∨ j = 4 ∨ j = 5 ∨ j = 8) → σ' 4 n j = σ 4 n j) (er : ∀ a, (a = 42 ∨ a = 43 ∨ a = 44) → τ' a 0 n = τ a 0 n) : eW σ' τ' n := by
  simp only [eW] at hw ⊢
  rw [e2, e6, e4 0 (by simp), e4 3 (by simp), e4 4 (by simp), e4 5 (by simp), e4 8 (by simp), er 42 (by simp), er 43 (by simp), er 44 (by simp)]
  exact hw
end EX
