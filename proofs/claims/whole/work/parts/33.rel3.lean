section E3
variable {tc wc : Nat} {σ τ : ty_St}
theorem up_comm {a i j b i' j' : Nat} {x y : Int32} (h : ¬ a = b) : ty_up (ty_up σ a i j x) b i' j' y = ty_up (ty_up σ b i' j' y) a i j x := by
  funext c k l
  simp only [up_all]
  grind
/-- what a strand's own action leaves as it was -/
def eF (σ τ σ' τ' : ty_St) : Prop := σ' 2 = σ 2 ∧ σ' 6 = σ 6 ∧ (∀ n j, n < nn (σ 1 0 8) → (j = 0 ∨ j = 3 ∨ j = 4 ∨ j = 5 ∨ j = 8) → σ' 4 n j = σ 4 n j) ∧ (∀ a n, n < nn (σ 1 0 8) → (a = 42 ∨ a = 43 ∨ a = 44) → τ' a 0 n = τ a 0 n) ∧ nn (σ 1 0 8) ≤ nn (σ' 1 0 8) ∧ (∀ n, nn (σ 1 0 8) ≤ n → n < nn (σ' 1 0 8) → eW σ' τ' n)
theorem eF.y {h : Nat} {σ' τ' : ty_St} (f : eF σ τ σ' τ') (hy : eY h σ τ) : eY h σ' τ' := by
  obtain ⟨f2, f6, f4, fr, f8, fn⟩ := f
  intro n hn hne
  by_cases q : n < nn (σ 1 0 8)
  · exact (hy n q hne).congr f2 f6 (fun j hj => f4 n j q hj) (fun a ha => fr a n q ha)
  · exact fn n (by omega) hn
theorem eF.d {h z : Nat} {σ' τ' : ty_St} (f : eF σ τ σ' τ') (hh : h < nn (σ 1 0 8)) (hd : eD h z σ τ) : eD h z σ' τ' := by
  obtain ⟨f2, f6, f4, fr, f8, fn⟩ := f
  simp only [eD] at hd ⊢
  rw [f2, f4 h 8 hh (by simp), f4 h 4 hh (by simp), f4 h 3 hh (by simp), f4 h 0 hh (by simp), fr 42 h hh (by simp), fr 43 h hh (by simp)]
  exact hd
theorem eF.id : eF σ τ σ τ := ⟨rfl, rfl, fun _ _ _ _ => rfl, fun _ _ _ _ => rfl, Nat.le_refl _, fun n h1 h2 => absurd h2 (by omega)⟩
/-- a new strand -/
theorem eX.start (hx : eX tc wc σ τ) {sc t : Nat} (hsc : sc < 52) (h8 : σ 1 0 8 = nI sc) (ht : t < tc) (htc : tc ≤ 12) (h6 : ¬ σ 3 t 6 = -1) (q b : Int32) : eX tc wc (kStartS σ q (nI t) b) (gStarts τ t q b) ∧ eF σ τ (kStartS σ q (nI t) b) (gStarts τ t q b) := by
  obtain ⟨hG, hP, hT, hK, hS⟩ := hx
  have r8 : τ 20 0 8 = nI sc := by rw [← hG.2.1.2.2.2.2.2]; exact h8
  have n8 : nn (σ 1 0 8) = sc := by rw [h8]; exact nnI (by omega)
  have m8 : nn (τ 20 0 8) = sc := by rw [r8]; exact nnI (by omega)
  have nt : nn (nI t) = t := nnI (by omega)
  have lt52 : σ 1 0 8 < 52 := by rw [h8]; exact nI_lt (b := 52) hsc (by decide)
  have p8 : nn (nI sc + 1) = sc + 1 := by rw [nI_1]; exact nnI (by omega)
  rw [n8] at hS
  unfold kStartS gStarts kStart
  rw [if_pos lt52]
  dsimp only
  rw [n8, m8, nt]
  have c8 : ∀ n : Nat, n < nn (nI sc + 1) ↔ n < sc + 1 := fun n => by rw [p8]
  refine ⟨⟨?_, hP.up3 ht, fun u hu => ?_, fun w hw => ?_, fun n hn => ?_⟩, ⟨rfl, rfl, fun n j hn hj => ?_, fun a n hn ha => ?_, ?_, fun n h1 h2 => ?_⟩⟩
  · obtain ⟨g1, g2, g3⟩ := hG
    refine ⟨?_, ?_, g3⟩
    · simp only [up_all, reduceIte, Nat.reduceEqDiff, and_self, and_true, true_and, and_false, false_and, Nat.one_ne_zero, Nat.zero_ne_one]; exact g1
    · simp only [up_all, reduceIte, Nat.reduceEqDiff, and_self, and_true, true_and, and_false, false_and, Nat.one_ne_zero, Nat.zero_ne_one]; rw [h8, r8]; exact ⟨g2.1, g2.2.1, g2.2.2.1, g2.2.2.2.1, g2.2.2.2.2.1, rfl⟩
  · obtain ⟨q1, q2, q3, q4⟩ := hT u hu
    by_cases e : u = t
    · subst e
      simp only [eT, up_all, reduceIte, Nat.reduceEqDiff, and_self, and_true, true_and, and_false, false_and, Nat.one_ne_zero, Nat.zero_ne_one]
      refine ⟨q1, ?_, ?_, q4⟩
      · refine ⟨q2.1, q2.2.1, q2.2.2.1, q2.2.2.2.1, q2.2.2.2.2.1, q2.2.2.2.2.2.1, ?_⟩
        rw [q2.2.2.2.2.2.2]
      · rcases q3 with z | ⟨b', l, z1, z2, z3, z4⟩
        · exact Or.inl z
        · refine Or.inr ⟨b', l, z1, z2, ?_, z4⟩
          rw [h8, p8]; omega
    · refine (hT u hu).congr (fun j => ?_) ?_ (fun a h1 h2 => ?_)
      · simp only [up_all]; simp [e]
      · simp only [up_all, reduceIte, Nat.reduceEqDiff, and_self, and_true, true_and, and_false, false_and, Nat.one_ne_zero, Nat.zero_ne_one]; rw [h8, p8, ← h8, n8]; omega
      · simp only [up_all]
        rw [if_neg (by simp [e]), if_neg (by omega), if_neg (by omega), if_neg (by omega), if_neg (by omega), if_neg (by omega), if_neg (by omega), if_neg (by omega), if_neg (by omega)]
  · have hk := hK w hw
    rcases hk with ⟨k1, k2⟩ | ⟨k0, u, k1, k2, k3, k4⟩
    · exact Or.inl ⟨k1, k2⟩
    · refine Or.inr ⟨k0, u, k1, k2, ?_, ?_⟩
      · simp only [up_all, reduceIte, Nat.reduceEqDiff, and_self, and_true, true_and, and_false, false_and, Nat.one_ne_zero, Nat.zero_ne_one]; exact k3
      · obtain ⟨-, -, q3, -⟩ := hT u k1
        obtain ⟨b', l, z1, z2, z3, z4, z5, -⟩ := q3.resolve_left fun z => k3 z.1
        simp only [up_all, reduceIte, Nat.reduceEqDiff, and_self, and_true, true_and, and_false, false_and, Nat.one_ne_zero, Nat.zero_ne_one]
        rw [z5] at k4 ⊢
        rw [show nn (nI l) = l from nnI (by omega)] at k4 ⊢
        have hl : ¬ l = sc := by omega
        simp only [hl, false_and, if_false]
        exact k4
  · have hn' : n < sc + 1 := by
      have : n < nn (nI sc + 1) := by
        have z := hn
        rw [show (nI sc + 1) = σ 1 0 8 + 1 by rw [h8]]
        revert z
        simp only [up_all, reduceIte, Nat.reduceEqDiff, and_self, and_true, true_and, and_false, false_and, Nat.one_ne_zero, Nat.zero_ne_one]
        exact id
      rw [p8] at this; exact this
    by_cases e : n = sc
    · subst e
      simp only [eS, up_all, reduceIte, Nat.reduceEqDiff, and_self, and_true, true_and, and_false, false_and, Nat.one_ne_zero, Nat.zero_ne_one]
      exact ⟨Or.inl (by decide), t, ht, rfl, h6⟩
    · have := hS n (by omega)
      simp only [eS, up_all] at this ⊢
      simp only [e, false_and, and_false, if_false, true_and, and_true, reduceIte, Nat.reduceEqDiff]
      exact this
  · rw [n8] at hn
    have e : ¬ n = sc := by omega
    simp only [up_all]
    simp [e]
  · rw [n8] at hn
    have e : ¬ n = sc := by omega
    rcases ha with rfl | rfl | rfl <;> simp [up_all, e]
  · simp only [up_all, reduceIte, Nat.reduceEqDiff, and_self, and_true, true_and, and_false, false_and, Nat.one_ne_zero, Nat.zero_ne_one]; rw [h8, p8, ← h8, n8]; omega
  · have hn' : n < sc + 1 := by
      have : n < nn (nI sc + 1) := by
        have z := h2
        rw [show (nI sc + 1) = σ 1 0 8 + 1 by rw [h8]]
        revert z
        simp only [up_all, reduceIte, Nat.reduceEqDiff, and_self, and_true, true_and, and_false, false_and, Nat.one_ne_zero, Nat.zero_ne_one]
        exact id
      rw [p8] at this; exact this
    rw [n8] at h1
    have e : n = sc := by omega
    subst e
    intro _
    left
    simp only [up_all, reduceIte, Nat.reduceEqDiff, and_self, and_true, true_and, and_false, false_and, Nat.one_ne_zero, Nat.zero_ne_one]
/-- those that the strand h has started are marked -/
theorem eX.marks (hx : eX tc wc σ τ) {h : Nat} : ∀ k, k ≤ nn (σ 1 0 8) → eX tc wc (kMark σ h k) (gMarks τ h k)
  | 0, _ => hx
  | k + 1, hk => by
    have ih := eX.marks hx (h := h) k (by omega)
    have e1 : (kMark σ h k) 1 = σ 1 := kMark_a (by decide) k
    obtain ⟨s1, s2, s3⟩ := ih.2.2.2.2 k (by rw [e1]; omega)
    unfold kMark gMarks
    by_cases c : (kMark σ h k) 4 k 2 = nI h ∧ (kMark σ h k) 4 k 8 = 0
    · have c' : (gMarks τ h k) 40 0 k = nI h ∧ ¬ (gMarks τ h k) 43 0 k = 5 := ⟨by rw [← s1.2.2.1]; exact c.1, by
        rcases s2 with z | z
        · exact z.2
        · rw [c.2] at z; exact absurd z.1 (by decide)⟩
      rw [if_pos c, if_pos c']
      exact ih.mark
    · have c' : ¬ ((gMarks τ h k) 40 0 k = nI h ∧ ¬ (gMarks τ h k) 43 0 k = 5) := fun z => c ⟨by rw [s1.2.2.1]; exact z.1, by
        rcases s2 with y | y
        · exact y.1
        · exact absurd y.2 z.2⟩
      rw [if_neg c, if_neg c']
      exact ih
theorem kLog_1 {i : Nat} {x : Int32} : (kLog σ i x) 1 = σ 1 := kLog_a (by decide) (by decide)
theorem gNoteX_a {x : Int32} {a : Nat} (h20 : ¬ a = 20) (h47 : ¬ a = 47) : (gNoteX τ x) a = τ a := by
  unfold gNoteX
  split <;> simp only [up_a h20, up_a h47]
theorem gNoteX_comm {x y : Int32} {n : Nat} : gNoteX (ty_up τ 45 0 n y) x = ty_up (gNoteX τ x) 45 0 n y := by
  unfold gNoteX
  have e : (ty_up τ 45 0 n y) 20 = τ 20 := rfl
  dsimp only
  rw [e]
  split
  · rw [up_comm (by decide : ¬ (45 : Nat) = 47), up_comm (by decide : ¬ (45 : Nat) = 20)]
    rfl
  · rw [up_comm (by decide : ¬ (45 : Nat) = 20)]
    rfl
/-- an action that is done at once -/
theorem eX.once (hx : eX tc wc σ τ) (htc : tc ≤ 12) {sc h : Nat} (hsc : sc ≤ 52) (h8 : σ 1 0 8 = nI sc) (hh : h < sc) {op a : Int32} (ho : ¬ op = 0 ∧ ¬ op = 1 ∧ ¬ op = 2 ∧ ¬ op = 3 ∧ ¬ op = 7 ∧ ¬ op = 10) : eX tc wc (kAtOnce σ h op a) (gAct τ h op a) ∧ eF σ τ (kAtOnce σ h op a) (gAct τ h op a) := by
  obtain ⟨o0, o1, o2, o3, o7, o10⟩ := ho
  have n8 : nn (σ 1 0 8) = sc := by rw [h8]; exact nnI (by omega)
  have r8 : τ 20 0 8 = σ 1 0 8 := hx.1.2.1.2.2.2.2.2.symm
  obtain ⟨s1, s2, t, ht, et, h6⟩ := hx.2.2.2.2 h (by omega)
  have en : nn (σ 4 h 1) = t := by rw [et]; exact nnI (by omega)
  have e39 : τ 39 0 h = σ 4 h 1 := s1.2.1.symm
  have e45 : τ 45 0 h = σ 4 h 6 := s1.2.2.2.1.symm
  unfold kAtOnce gAct
  rw [if_neg o0, if_neg o1, if_neg o2, if_neg o3]
  by_cases o5 : op = 5
  · rw [if_pos o5, if_pos o5, r8]
    by_cases c : σ 1 0 8 < 40
    · rw [if_pos c, if_pos c, e39, en, et]
      have : sc < 40 := by rw [h8] at c; exact (nI_ltI (b := 40) (by omega) (by decide)).mp c
      exact hx.start (by omega) h8 ht htc h6 _ _
    · rw [if_neg c, if_neg c]; exact ⟨hx, eF.id⟩
  rw [if_neg o5, if_neg o5]
  by_cases o6 : op = 6
  · rw [if_pos o6, if_pos o6]
    have e : gSays τ h a = gNoteX τ (100 * σ 4 h 1 + a) := by rw [← e39]; rfl
    rw [e]
    refine ⟨hx.note _, kLog_a (by decide) (by decide), kLog_a (by decide) (by decide), fun n j hn hj => by rw [kLog_4], fun b n hn ha => ?_, by rw [kLog_1]; exact Nat.le_refl _, fun n h1 h2 => by rw [kLog_1] at h2; omega⟩
    rcases ha with rfl | rfl | rfl <;> rw [gNoteX_a (by decide) (by decide)]
  rw [if_neg o6, if_neg o6, if_neg o7]
  by_cases o8 : op = 8
  · rw [if_pos o8, if_pos o8, e45]
    have e : ∀ x, gSays τ h x = gNoteX τ (100 * σ 4 h 1 + x) := fun x => by rw [← e39]; rfl
    rw [e, ← gNoteX_comm]
    have hm : eX tc wc (kTake σ h) (ty_up τ 45 0 h 0) := hx.mark
    refine ⟨hm.note _, (kLog_a (by decide) (by decide)).trans (kTake_a (by decide)), (kLog_a (by decide) (by decide)).trans (kTake_a (by decide)), fun n j hn hj => ?_, fun b n hn ha => ?_, by rw [kLog_1, kTake_a (by decide)]; exact Nat.le_refl _, fun n h1 h2 => by rw [kLog_1, kTake_a (by decide)] at h2; omega⟩
    · rw [kLog_4]; unfold kTake; rw [up_all, if_neg (by omega)]
    · rcases ha with rfl | rfl | rfl <;> rw [gNoteX_a (by decide) (by decide)] <;> rfl
  rw [if_neg o8, if_neg o8]
  by_cases o9 : op = 9
  · rw [if_pos o9, if_pos o9]
    refine ⟨hx.silent, rfl, rfl, fun n j hn hj => by rw [up_all, if_neg (by omega)], fun b n hn ha => ?_, Nat.le_refl _, fun n h1 h2 => absurd (show n < nn (σ 1 0 8) from h2) (by omega)⟩
    rcases ha with rfl | rfl | rfl <;> rfl
  rw [if_neg o9, if_neg o9, if_neg o10]
  by_cases o11 : op = 11
  · rw [if_pos o11, if_pos o11, r8]
    have e1 : (kMark σ h (nn (σ 1 0 8))) 1 = σ 1 := kMark_a (by decide) _
    refine ⟨hx.marks _ (Nat.le_refl _), kMark_a (by decide) _, kMark_a (by decide) _, fun n j hn hj => kMark_43 (by omega) _, fun b n hn ha => ?_, by rw [e1]; exact Nat.le_refl _, fun n h1 h2 => by rw [e1] at h2; omega⟩
    rcases ha with rfl | rfl | rfl <;> rw [gMarks_a (by decide)]
  rw [if_neg o11, if_neg o11]
  exact ⟨hx, eF.id⟩
end E3
