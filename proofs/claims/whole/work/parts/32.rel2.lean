section E2
variable {tc wc : Nat} {σ τ : ty_St}
theorem i32_m1 {d : Int32} (h : d = -1 ∨ 0 ≤ d) : (¬ d = -1) ↔ 0 ≤ d := by
  constructor
  · intro q; exact h.resolve_left q
  · intro q e; rw [e] at q; exact absurd q (by decide)
theorem i32_m1' {d : Int32} (h : d = -1 ∨ 0 ≤ d) : d = -1 ↔ d < 0 := by
  constructor
  · intro q; rw [q]; decide
  · intro q; exact h.resolve_right (Int32.not_le.mpr q)
theorem nnI {n : Nat} (h : n < 1000000) : nn (nI n) = n := nI_clamp (by omega)
theorem kTell_4 {n : Nat} : (kTell σ n) 4 = σ 4 := by
  unfold kTell kByDeath kDecide
  dsimp only
  repeat' split
  all_goals first | rfl | (rw [kLog_a (by decide) (by decide)]) | (simp only [up_a (show ¬ (4 : Nat) = 3 by decide)])
theorem kTell_2 {n a : Nat} (h3 : ¬ a = 3) (h5 : ¬ a = 5) (h9 : ¬ a = 9) : (kTell σ n) a = σ a := by
  unfold kTell kByDeath kDecide
  dsimp only
  repeat' split
  all_goals first | rfl | (rw [kLog_a h5 h9]) | (simp only [up_a h3])
theorem gWarns_a {t why : Int32} {a : Nat} (h20 : ¬ a = 20) (h48 : ¬ a = 48) : (gWarns τ t why) a = τ a := by
  unfold gWarns
  split <;> simp only [up_a h20, up_a h48]
theorem gEnds_a {n a : Nat} {d : Int32} (h43 : ¬ a = 43) (h20 : ¬ a = 20) (h48 : ¬ a = 48) (h29 : ¬ a = 29) (h30 : ¬ a = 30) (h32 : ¬ a = 32) (h35 : ¬ a = 35) : (gEnds τ n d) a = τ a := by
  unfold gEnds gJudged
  repeat' split
  all_goals simp only [gWarns_a h20 h48, up_a h43, up_a h29, up_a h30, up_a h32, up_a h35]
theorem gEnds_43 {n : Nat} {d : Int32} : (gEnds τ n d) 43 = (ty_up τ 43 0 n 5) 43 := by
  unfold gEnds gJudged
  repeat' split
  all_goals simp only [gWarns_a (show ¬ (43 : Nat) = 20 by decide) (show ¬ (43 : Nat) = 48 by decide), up_a (show ¬ (43 : Nat) = 29 by decide), up_a (show ¬ (43 : Nat) = 30 by decide), up_a (show ¬ (43 : Nat) = 32 by decide), up_a (show ¬ (43 : Nat) = 35 by decide)]
theorem eX.ends0 (htc : tc ≤ 12) (hx : eX tc wc σ τ) {h : Nat} {d : Int32} (hh : h < nn (σ 1 0 8)) (h52 : nn (σ 1 0 8) ≤ 52) {tm : Nat} (htm : tm ≤ 150) (h11 : σ 1 0 11 = nI tm) (hd : d = -1 ∨ 0 ≤ d) : eX tc wc (kTell (kEnd σ h d) h) (gEnds τ h d) := by
  obtain ⟨s1, s2, t, ht, et, h6⟩ := hx.2.2.2.2 h hh
  obtain ⟨q1, q2, q3, q4, q5, q6⟩ := hx.2.2.1 t ht
  obtain ⟨b, l, z1, z2, z3, z3', z4, z5, z6⟩ := q3.resolve_left fun z => h6 z.1
  have hx1 : eX tc wc (kEnd σ h d) (ty_up τ 43 0 h 5) := hx.over.up4 (by simp)
  have en : nn (σ 4 h 1) = t := by rw [et]; exact nnI (by omega)
  have en' : nn (τ 39 0 h) = t := by rw [← s1.2.1]; exact en
  have e1 : (kEnd σ h d) 4 h 1 = σ 4 h 1 := by unfold kEnd; simp only [up_all, reduceIte, Nat.reduceEqDiff, and_self, and_true, true_and, and_false, false_and, Nat.one_ne_zero, Nat.zero_ne_one]
  have e7 : (kEnd σ h d) 4 h 7 = σ 4 h 7 := by unfold kEnd; simp only [up_all, reduceIte, Nat.reduceEqDiff, and_self, and_true, true_and, and_false, false_and, Nat.one_ne_zero, Nat.zero_ne_one]
  have e9 : (kEnd σ h d) 4 h 9 = d := by unfold kEnd; simp only [up_all, reduceIte, Nat.reduceEqDiff, and_self, and_true, true_and, and_false, false_and, Nat.one_ne_zero, Nat.zero_ne_one]
  have e3 : (kEnd σ h d) 3 = σ 3 := kEnd_a (by decide)
  have e11 : (kEnd σ h d) 1 = σ 1 := kEnd_a (by decide)
  unfold kTell gEnds
  dsimp only
  rw [e1, en, en', e3, e7, e9, e11, ← q2.1, ← s1.2.2.2.2, ← s1.2.1]
  by_cases c1 : σ 3 t 4 = 0
  · have n1 : ¬ ¬ σ 3 t 4 = 0 := fun q => q c1
    rw [if_neg n1, if_neg n1]
    rw [z4, z5]
    by_cases c2 : nI h = nI l
    · rw [if_pos c2, if_pos c2.symm]
      have ef : (if ¬ d = -1 then d else σ 3 t 12) = (if 0 ≤ d then d else τ 35 0 t) := by
        rw [← z6]
        by_cases c : d = -1
        · have n2 : ¬ ¬ d = -1 := fun q => q c
          rw [if_neg n2, if_neg (show ¬ 0 ≤ d from fun q => (i32_m1 hd).mpr q c)]
        · rw [if_pos c, if_pos ((i32_m1 hd).mp c)]
      have hf : (if 0 ≤ d then d else τ 35 0 t) = -1 ∨ 0 ≤ (if 0 ≤ d then d else τ 35 0 t) := by
        by_cases c : 0 ≤ d
        · rw [if_pos c]; exact Or.inr c
        · rw [if_neg c, ← z6]; exact q4
      unfold kByDeath kDecide
      dsimp only
      rw [e3, ef]
      generalize (if 0 ≤ d then d else τ 35 0 t) = f at hf
      have ev : (if ¬ f = -1 then (2 : Int32) else 1) = if 0 ≤ f then 2 else 1 := by
        by_cases c : 0 ≤ f
        · rw [if_pos c, if_pos ((i32_m1 hf).mpr c)]
        · rw [if_neg c, if_neg (show ¬ ¬ f = -1 from fun q => c ((i32_m1 hf).mp q))]
      rw [ev]
      have := hx1.judge (t := t) (tm := tm) (v := if 0 ≤ f then 2 else 1) (f := f) ht (by rw [e3]; exact c1) (by rw [e3]; exact h6) htm (by rw [e11]; exact h11) (by split <;> decide)
      rw [e11] at this
      exact this
    · rw [if_neg c2, if_neg (show ¬ nI l = nI h from fun q => c2 q.symm)]
      rw [← z6]
      by_cases c3 : (¬ d = -1 ∧ σ 4 h 7 = 0) ∧ σ 3 t 12 = -1
      · rw [if_pos c3, if_pos ⟨(i32_m1 hd).mp c3.1.1, c3.1.2, (i32_m1' q4).mp c3.2⟩]
        exact hx1.died ht (by rw [e3]; exact h6) ((i32_m1 hd).mp c3.1.1)
      · rw [if_neg c3, if_neg (show ¬ (0 ≤ d ∧ σ 4 h 7 = 0 ∧ σ 3 t 12 < 0) from fun q => c3 ⟨⟨(i32_m1 hd).mpr q.1, q.2.1⟩, (i32_m1' q4).mpr q.2.2⟩)]
        exact hx1
  · rw [if_pos c1, if_pos c1]
    by_cases c3 : ¬ d = -1 ∧ σ 4 h 7 = 0
    · rw [if_pos c3, if_pos ⟨(i32_m1 hd).mp c3.1, c3.2⟩]
      exact hx1.warn _
    · rw [if_neg c3, if_neg (show ¬ (0 ≤ d ∧ σ 4 h 7 = 0) from fun q => c3 ⟨(i32_m1 hd).mpr q.1, q.2⟩)]
      exact hx1
theorem eX.ends (htc : tc ≤ 12) (hx : eX tc wc σ τ) {h : Nat} (hy : eY h σ τ) {d : Int32} (hh : h < nn (σ 1 0 8)) (h52 : nn (σ 1 0 8) ≤ 52) {tm : Nat} (htm : tm ≤ 150) (h11 : σ 1 0 11 = nI tm) (hd : d = -1 ∨ 0 ≤ d) :
    eX tc wc (kTell (kEnd σ h d) h) (gEnds τ h d) ∧ eY h (kTell (kEnd σ h d) h) (gEnds τ h d) ∧ (kTell (kEnd σ h d) h) 4 h 8 = 1 ∧ (kEnd σ h d) 4 h 8 = 1 ∧ (gEnds τ h d) 43 0 h = 5 ∧ (kTell (kEnd σ h d) h) 1 0 8 = σ 1 0 8 := by
  have e8 : (kTell (kEnd σ h d) h) 1 0 8 = σ 1 0 8 := by rw [kTell_1, kEnd_a (by decide)]
  have k8 : (kEnd σ h d) 4 h 8 = 1 := by unfold kEnd; simp only [up_all, reduceIte, Nat.reduceEqDiff, and_self, and_true, true_and, and_false, false_and, Nat.one_ne_zero, Nat.zero_ne_one]
  refine ⟨hx.ends0 htc hh h52 htm h11 hd, hy.w e8 (fun n hn hne hw => hw.congr ?_ ?_ ?_ ?_), ?_, k8, ?_, e8⟩
  · rw [kTell_2 (by decide) (by decide) (by decide), kEnd_a (by decide)]
  · rw [kTell_2 (by decide) (by decide) (by decide), kEnd_a (by decide)]
  · intro j _
    rw [kTell_4]
    unfold kEnd
    rw [up_all, if_neg (by simp [hne]), up_all, if_neg (by simp [hne])]
  · intro a ha
    rcases ha with rfl | rfl | rfl
    · rw [gEnds_a (by decide) (by decide) (by decide) (by decide) (by decide) (by decide) (by decide)]
    · rw [gEnds_43, up_all, if_neg (by simp [hne])]
    · rw [gEnds_a (by decide) (by decide) (by decide) (by decide) (by decide) (by decide) (by decide)]
  · rw [kTell_4]; exact k8
  · rw [gEnds_43]; simp only [up_all, reduceIte, Nat.reduceEqDiff, and_self, and_true, true_and, and_false, false_and, Nat.one_ne_zero, Nat.zero_ne_one]
end E2
