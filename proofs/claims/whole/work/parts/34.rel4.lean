section E4
variable {tc wc : Nat} {σ τ : ty_St}
theorem up_self {a i j : Nat} {x : Int32} (h : σ a i j = x) : ty_up σ a i j x = σ := by
  funext b k l
  simp only [up_all]
  split
  · rename_i q; rw [q.1, q.2.1, q.2.2]; exact h.symm
  · rfl
theorem nI_lt0 {n : Nat} (h : n < 1000000) : ¬ nI n < 0 := nI_pos (by omega)
/-- the innermost guard, for both -/
theorem eInner {q k z : Nat} (hp : ePq σ τ q k) (hz : z < k) : ∀ n, n ≤ z → (gInner τ (10 * q) (nI z) n = -1 ∧ kEga (σ 8 q) (nI z) n = -1) ∨ ∃ i g, i < n ∧ gInner τ (10 * q) (nI z) n = nI i ∧ kEga (σ 8 q) (nI z) n = nI g ∧ z < g ∧ g ≤ 20 ∧ τ 24 0 (10 * q + i) = nI ((if g < k then g else k) - 1)
  | 0, _ => Or.inl ⟨rfl, rfl⟩
  | n + 1, hn => by
    have hp0 := hp
    obtain ⟨hk, -, -, hj⟩ := hp
    obtain ⟨-, j2, -, j4, j5⟩ := hj n (by omega)
    have ih := eInner hp0 hz n (by omega)
    unfold gInner kEga
    by_cases c4 : σ 6 q n = 4
    · obtain ⟨g, g1, g2, g3, g4⟩ := j4 c4
      rw [g3, g4, ← j2]
      by_cases c : z < g
      · rw [if_pos (show nI z < nI g from nI_lt c (by omega)), if_pos ⟨c4, nI_le (by split <;> omega) (by split <;> omega)⟩]
        exact Or.inr ⟨n, g, by omega, rfl, rfl, c, g2, g4⟩
      · rw [if_neg (show ¬ nI z < nI g from nI_nlt (by omega) (by omega)), if_neg (show ¬ (σ 6 q n = 4 ∧ nI z ≤ nI ((if g < k then g else k) - 1)) from fun y => by
          have := (nI_leI (by omega) (by split <;> omega)).mp y.2
          revert this
          split <;> omega)]
        rcases ih with y | ⟨i, g', y1, y2⟩
        · exact Or.inl y
        · exact Or.inr ⟨i, g', by omega, y2⟩
    · rw [j5 c4, ← j2, if_neg (show ¬ nI z < 0 from nI_lt0 (by omega)), if_neg (show ¬ (σ 6 q n = 4 ∧ _) from fun y => c4 y.1)]
      rcases ih with y | ⟨i, g', y1, y2⟩
      · exact Or.inl y
      · exact Or.inr ⟨i, g', by omega, y2⟩
theorem eOver (hx : eX tc wc σ τ) {h : Nat} : ∀ n, n ≤ nn (σ 1 0 8) → kOver σ h n = gJoined τ h n
  | 0, _ => rfl
  | n + 1, hn => by
    obtain ⟨s1, s2, -⟩ := hx.2.2.2.2 n (by omega)
    unfold kOver gJoined
    rw [eOver hx n (by omega), ← s1.2.2.1]
    congr 2
    rcases s2 with z | z
    · rw [z.1]; simp [z.2]
    · rw [z.1, z.2]; simp
/-- how a strand's turn ends: it is over and has told so, or it waits -/
def eRes (tc wc h : Nat) (σ τ : ty_St) : Prop :=
  (σ 4 h 8 = 1 ∧ eX tc wc (kTell σ h) τ ∧ eY h (kTell σ h) τ ∧ τ 43 0 h = 5) ∨ (σ 4 h 8 = 0 ∧ eX tc wc σ τ ∧ eY h σ τ ∧ eW σ τ h ∧ ¬ τ 43 0 h = 0)
/-- how it goes on -/
def eGo (tc wc h z : Nat) (σ σ' τ' : ty_St) : Prop :=
  ∃ z', z < z' ∧ eX tc wc σ' τ' ∧ eY h σ' τ' ∧ eD h z' σ' τ' ∧ σ' 4 h 0 = σ 4 h 0 ∧ nn (σ 1 0 8) ≤ nn (σ' 1 0 8) ∧ σ' 2 = σ 2
theorem eY.up4 {h j : Nat} {x : Int32} (hy : eY h σ τ) : eY h (ty_up σ 4 h j x) τ := hy.w rfl fun n hn hne hw => hw.congr rfl rfl (fun i _ => by rw [up_all, if_neg (by omega)]) (fun _ _ => rfl)
theorem eY.r {h a : Nat} {x : Int32} (hy : eY h σ τ) : eY h σ (ty_up τ a 0 h x) := hy.w rfl fun n hn hne hw => hw.congr rfl rfl (fun i _ => rfl) (fun b _ => by rw [up_all, if_neg (by omega)])
theorem eX.intr (hx : eX tc wc σ τ) (htc : tc ≤ 12) {h : Nat} (hy : eY h σ τ) (hh : h < nn (σ 1 0 8)) (h52 : nn (σ 1 0 8) ≤ 52) {tm : Nat} (htm : tm ≤ 150) (h11 : σ 1 0 11 = nI tm) (h8 : σ 4 h 8 = 0) {k z : Nat} (hq : ePq σ τ (nn (σ 4 h 0)) k) (hz : z < k) (hat : σ 4 h 3 = nI z) :
    ((kInterrupt (kTake σ h) h).1 = 0 ∧ eRes tc wc h (kInterrupt (kTake σ h) h).2 (gInterrupts τ h z)) ∨ ((kInterrupt (kTake σ h) h).1 = 1 ∧ eGo tc wc h z σ (kInterrupt (kTake σ h) h).2 (gInterrupts τ h z)) := by
  obtain ⟨s1, s2, -⟩ := hx.2.2.2.2 h hh
  have hk := hq.1
  have n5 : ¬ τ 43 0 h = 5 := by
    rcases s2 with y | y
    · exact y.2
    · rw [h8] at y; exact absurd y.1 (by decide)
  have hx1 : eX tc wc (ty_up (kTake σ h) 4 h 4 0) (ty_up τ 45 0 h 0) := hx.mark.up4 (by simp)
  have hy1 : eY h (ty_up (kTake σ h) 4 h 4 0) (ty_up τ 45 0 h 0) := (hy.up4.up4).r
  have e0 : (ty_up (kTake σ h) 4 h 4 0) 4 h 0 = σ 4 h 0 := by unfold kTake; simp only [up_all, reduceIte, Nat.reduceEqDiff, and_self, and_true, true_and, and_false, false_and, Nat.one_ne_zero, Nat.zero_ne_one]
  have e3 : (ty_up (kTake σ h) 4 h 4 0) 4 h 3 = nI z := by unfold kTake; simp only [up_all, reduceIte, Nat.reduceEqDiff, and_self, and_true, true_and, and_false, false_and, Nat.one_ne_zero, Nat.zero_ne_one]; exact hat
  have e8 : (ty_up (kTake σ h) 4 h 4 0) 4 h 8 = 0 := by unfold kTake; simp only [up_all, reduceIte, Nat.reduceEqDiff, and_self, and_true, true_and, and_false, false_and, Nat.one_ne_zero, Nat.zero_ne_one]; exact h8
  have e4 : (ty_up (kTake σ h) 4 h 4 0) 4 h 4 = 0 := by simp only [up_all, reduceIte, Nat.reduceEqDiff, and_self, and_true, true_and, and_false, false_and, Nat.one_ne_zero, Nat.zero_ne_one]
  have eb : (ty_up (kTake σ h) 4 h 4 0) 8 = σ 8 := rfl
  have e2 : (ty_up (kTake σ h) 4 h 4 0) 2 = σ 2 := rfl
  have e1 : (ty_up (kTake σ h) 4 h 4 0) 1 = σ 1 := rfl
  have nz : nn (nI z) = z := nnI (by omega)
  unfold kInterrupt gInterrupts
  dsimp only
  rw [e0, e3, eb, nz, ← s1.1]
  generalize hσ1 : ty_up (kTake σ h) 4 h 4 0 = σ1 at *
  rcases eInner hq hz z (Nat.le_refl _) with ⟨i1, i2⟩ | ⟨i, g, i1, i2, i3, i4, i5, i6⟩
  · rw [i1, i2, if_pos rfl, if_pos (by decide)]
    obtain ⟨a1, a2, a3, a4, a5, a6⟩ := hx1.ends htc hy1 (d := 100) (by rw [e1]; exact hh) (by rw [e1]; exact h52) htm (by rw [e1]; exact h11) (Or.inr (by decide))
    exact Or.inl ⟨rfl, Or.inl ⟨a4, a1, a2, a5⟩⟩
  · have ng : ¬ nI g = -1 := by
      intro y
      have := nI_toInt (n := g) (by omega)
      rw [y] at this
      exact absurd this (by simp)
    rw [i2, i3, if_neg ng, if_neg (nI_lt0 (by omega)), show nn (nI i) = i from nnI (by omega), i6]
    refine Or.inr ⟨rfl, g, i4, ?_, ?_, ?_, ?_, ?_, ?_⟩
    · exact ((hx1.r43 (n := h) (x := 0) n5 (by decide)).r42).up4 (by simp)
    · exact (hy1.r.r).up4
    · simp only [eD, up_all, reduceIte, Nat.reduceEqDiff, and_self, and_true, true_and, and_false, false_and, Nat.one_ne_zero, Nat.zero_ne_one]
      refine ⟨e8, e4, i5, k, hk, ?_, ?_⟩
      · rw [e0, e2]; exact hq.2.1
      · rw [nI_1]
        congr 1
        split <;> omega
    · simp only [up_all, reduceIte, Nat.reduceEqDiff, and_self, and_true, true_and, and_false, false_and, Nat.one_ne_zero, Nat.zero_ne_one]; exact e0
    · have : (ty_up σ1 4 h 3 (nI g)) 1 0 8 = σ 1 0 8 := by rw [up_a (by decide), e1]
      show nn (σ 1 0 8) ≤ nn ((ty_up σ1 4 h 3 (nI g)) 1 0 8)
      rw [this]; exact Nat.le_refl _
    · show (ty_up σ1 4 h 3 (nI g)) 2 = σ 2
      rw [up_a (by decide)]; exact e2
end E4
