section E8
variable {tc wc : Nat} {σ τ : ty_St}
def eV (σ τ : ty_St) : Prop := ∀ n, n < nn (σ 1 0 8) → eW σ τ n
theorem eV.congr {σ' τ' : ty_St} (hv : eV σ τ) (e1 : σ' 1 0 8 = σ 1 0 8) (e2 : σ' 2 = σ 2) (e6 : σ' 6 = σ 6) (e4 : ∀ n j, (j = 0 ∨ j = 3 ∨ j = 4 ∨ j = 5 ∨ j = 8) → σ' 4 n j = σ 4 n j) (er : ∀ a, (a = 42 ∨ a = 43 ∨ a = 44) → τ' a = τ a) : eV σ' τ' := fun n hn => by
  rw [e1] at hn
  exact (hv n hn).congr e2 e6 (fun j hj => e4 n j hj) (fun a ha => by rw [er a ha])
theorem eX.begun (hx : eX tc wc σ τ) {t : Nat} (ht : t < tc) : 0 ≤ τ 31 0 t ↔ ¬ σ 3 t 6 = -1 := by
  obtain ⟨-, q2, q3, -⟩ := hx.2.2.1 t ht
  rw [← q2.2.2.1]
  rcases q3 with z | ⟨b, l, z1, z2, -⟩
  · rw [z.1]; simp
  · rw [z2]
    constructor
    · intro _ e
      have := nI_toInt (n := b) (by omega)
      rw [e] at this
      exact absurd this (by simp)
    · intro _; exact nI_pos' (by omega)
theorem eStop1 (hx : eX tc wc σ τ) {t : Nat} (ht : t < tc) {tm : Nat} (htm : tm ≤ 150) (h11 : σ 1 0 11 = nI tm) (hv : eV σ τ) : eX tc wc (kStop1 σ t) (gLook1 τ t) ∧ eV (kStop1 σ t) (gLook1 τ t) := by
  obtain ⟨q1, q2, q3, q4, q5, q6⟩ := hx.2.2.1 t ht
  have et : τ 20 0 3 = σ 1 0 11 := hx.1.2.1.1.symm
  have hb := hx.begun ht
  unfold kStop1 gLook1
  have ec : (kOverruns σ t (σ 1 0 11) = 1) ↔ (0 ≤ τ 31 0 t ∧ τ 29 0 t = 0 ∧ 0 < τ 26 0 t ∧ τ 31 0 t + τ 26 0 t ≤ τ 20 0 3) := by
    unfold kOverruns
    rw [hb, ← q2.1, ← q1.2.1, ← q2.2.2.1, et]
    obtain ⟨k, k1, k2⟩ := q1.2.2.1
    have c0 : (0 < σ 3 t 1) ↔ ¬ σ 3 t 1 = 0 := by
      rw [k2]
      by_cases c : k = 0
      · rw [c]; decide
      · exact ⟨fun _ => nI_ne0 (by omega) (by omega), fun _ => by
          have := nI_lt (a := 0) (b := k) (by omega) (by omega)
          exact this⟩
    rw [c0]
    constructor
    · intro y
      split at y
      · rename_i z; exact ⟨z.1.1, z.1.2, z.2.1, z.2.2⟩
      · exact absurd y (by decide)
    · intro z
      rw [if_pos ⟨⟨z.1, z.2.1⟩, z.2.2.1, z.2.2.2⟩]
  by_cases c : kOverruns σ t (σ 1 0 11) = 1
  · have c' := ec.mp c
    rw [if_pos c, if_pos c']
    have h6 := hb.mp c'.1
    have h0 : σ 3 t 4 = 0 := by rw [q2.1]; exact c'.2.1
    obtain ⟨b, l, z1, z2, z3, z3', z4, z5, z6⟩ := q3.resolve_left fun z => h6 z.1
    have hj := hx.judge (v := 3) (f := -1) ht h0 h6 htm h11 (by decide)
    rw [up_self (q6 h0)] at hj
    unfold kDecide
    rw [z4, z5]
    refine ⟨hj.mark, hv.congr rfl rfl rfl (fun n j hj => ?_) (fun a ha => ?_)⟩
    · rw [up_all, if_neg (by omega)]; rfl
    · unfold gJudged
      rcases ha with rfl | rfl | rfl <;> rfl
  · rw [if_neg c, if_neg (fun y => c (ec.mpr y))]
    exact ⟨hx, hv⟩
theorem eStop (hx : eX tc wc σ τ) {tm : Nat} (htm : tm ≤ 150) (h11 : σ 1 0 11 = nI tm) (hv : eV σ τ) : ∀ n, n ≤ tc → eX tc wc (kStop σ n) (gLooks τ n) ∧ eV (kStop σ n) (gLooks τ n)
  | 0, _ => ⟨hx, hv⟩
  | n + 1, hn => by
    obtain ⟨a1, a2⟩ := eStop hx htm h11 hv n (by omega)
    exact eStop1 a1 (by omega) htm (by rw [kStop_a (by decide) (by decide)]; exact h11) a2
theorem i32_pat {tm v : Nat} (h1 : tm ≤ 150) (h2 : v ≤ 150) : 3 ≤ nI tm - nI v ↔ nI v + 3 ≤ nI tm := by
  have e1 : (nI tm - nI v).toInt = (tm : Int) - v := by
    rw [Int32.toInt_sub, nI_toInt (by omega), nI_toInt (by omega)]
    exact Int.bmod_eq_of_le (by omega) (by omega)
  have e2 : nI v + 3 = nI (v + 3) := nI_add v 3
  rw [e2, nI_leI (by omega) (by omega), Int32.le_iff_toInt_le, e1, show (3 : Int32).toInt = 3 from rfl]
  omega
/-- what the class has let go of, the reference finds free -/
theorem eX.free (hx : eX tc wc σ τ) (htc : tc ≤ 12) {w : Nat} (hw : w < 4) (h : σ 10 0 w = -1) : gFree τ w = true := by
  unfold gFree
  apply decide_eq_true
  rcases hx.2.2.2.1 w hw with ⟨k1, k2⟩ | ⟨k0, t, k1, k2, k3, k4⟩
  · left; rw [k1]; decide
  · right
    obtain ⟨q1, q2, q3, q4, q5, q6⟩ := hx.2.2.1 t k1
    obtain ⟨b, l, z1, z2, z3, z3', z4, z5, z6⟩ := q3.resolve_left fun z => k3 z.1
    have et : τ 20 0 3 = σ 1 0 11 := hx.1.2.1.1.symm
    rw [k2, show nn (nI t) = t from nnI (by omega), z5, show nn (nI l) = l from nnI (by omega), ← q2.1, ← q2.2.2.2.1, et]
    rw [z4, show nn (nI l) = l from nnI (by omega)] at k4
    obtain ⟨-, s2, -⟩ := hx.2.2.2.2 l z3
    rcases k4 with y | ⟨y1, y2⟩
    · rw [h] at y
      have := nI_toInt (n := t) (by omega)
      rw [← y] at this
      exact absurd this (by simp)
    · rcases y2 with y | y
      · left
        rcases s2 with x | x
        · rw [y] at x; exact absurd x.1 (by decide)
        · exact x.2
      · right; exact ⟨y.1, y.2.1⟩
theorem eRel1 (hx : eX tc wc σ τ) (htc : tc ≤ 12) {w : Nat} (hw : w < 4) {tm : Nat} (htm : tm ≤ 150) (h11 : σ 1 0 11 = nI tm) (hv : eV σ τ) : eX tc wc (kRelease1 σ w) (gAband1 τ w) ∧ eV (kRelease1 σ w) (gAband1 τ w) ∧ (gFree τ w = true → (kRelease1 σ w) 10 0 w = -1) := by
  have et : τ 20 0 3 = σ 1 0 11 := hx.1.2.1.1.symm
  rcases hx.2.2.2.1 w hw with ⟨k1, k2⟩ | ⟨k0, t, k1, k2, k3, k4⟩
  · have e1 : kRelease1 σ w = σ := by unfold kRelease1; rw [if_neg (fun y => y k2)]
    have e2 : gAband1 τ w = τ := by
      unfold gAband1
      rw [if_neg]
      intro y
      rw [k1] at y
      exact absurd y.1 (by decide)
    rw [e1, e2]
    exact ⟨hx, hv, fun _ => k2⟩
  · obtain ⟨q1, q2, q3, q4, q5, q6⟩ := hx.2.2.1 t k1
    obtain ⟨b, l, z1, z2, z3, z3', z4, z5, z6⟩ := q3.resolve_left fun z => k3 z.1
    obtain ⟨-, s2, -⟩ := hx.2.2.2.2 l z3
    have nl : nn (nI l) = l := nnI (by omega)
    have nt : nn (nI t) = t := nnI (by omega)
    have n1 : ¬ nI t = -1 := by
      intro e
      have := nI_toInt (n := t) (by omega)
      rw [e] at this
      exact absurd this (by simp)
    have fr : gFree τ w = decide (τ 43 0 l = 5 ∨ (σ 3 t 4 = 3 ∧ σ 3 t 7 + 3 ≤ σ 1 0 11)) := by
      unfold gFree
      rw [k2, nt, z5, nl, ← q2.1, ← q2.2.2.2.1, et]
      have : ¬ nI t < 0 := nI_lt0 (by omega)
      simp [this]
    have ab : gAband1 τ w = if (gFree τ w = true ∧ ¬ τ 43 0 l = 5) then ty_up τ 37 0 t 1 else τ := by
      unfold gAband1
      rw [k2, nt, z5, nl]
      have : 0 ≤ nI t := nI_pos' (by omega)
      simp [this]
    rw [z4, nl] at k4
    rcases k4 with y | ⟨y1, y2⟩
    · have er : kRelease1 σ w = kReleaseIf σ w t := by unfold kRelease1; rw [y, if_pos n1, nt]
      rw [er]
      unfold kReleaseIf
      rw [z4, nl]
      rcases s2 with s | s
      · rw [if_neg (fun x => x s.1)]
        by_cases c : σ 3 t 4 = 3 ∧ 3 ≤ σ 1 0 11 - σ 3 t 7
        · obtain ⟨v, v1, v2⟩ := q5 c.1
          have c2 : σ 3 t 7 + 3 ≤ σ 1 0 11 := by rw [v2, h11]; exact (i32_pat htm v1).mp (by rw [← h11, ← v2]; exact c.2)
          have f1 : gFree τ w = true := by rw [fr]; exact decide_eq_true (Or.inr ⟨c.1, c2⟩)
          rw [if_pos c, ab, if_pos ⟨f1, s.2⟩]
          refine ⟨?_, hv.congr rfl rfl rfl (fun n j hj => rfl) (fun a ha => by rcases ha with rfl | rfl | rfl <;> rfl), fun _ => by simp only [up_all, reduceIte, Nat.reduceEqDiff, and_self, and_true, true_and, and_false, false_and, Nat.one_ne_zero, Nat.zero_ne_one]⟩
          obtain ⟨hG, hP, hT, hK, hS⟩ := hx
          refine ⟨hG, hP.up3 k1, fun u hu => ?_, fun w' hw' => ?_, fun m hm => ?_⟩
          · by_cases e : u = t
            · subst e
              simp only [eT, up_all, reduceIte, Nat.reduceEqDiff, and_self, and_true, true_and, and_false, false_and, Nat.one_ne_zero, Nat.zero_ne_one]
              exact ⟨q1, ⟨q2.1, q2.2.1, q2.2.2.1, q2.2.2.2.1, q2.2.2.2.2.1, q2.2.2.2.2.2.2⟩, q3, q4, q5, q6⟩
            · refine (hT u hu).congr (fun j => ?_) (Nat.le_refl _) (fun a h1 h2 => ?_)
              · rw [up_a (by decide), up_all, if_neg (by simp [e])]
              · rw [up_all, if_neg (by simp [e])]
          · have hk := hK w' hw'
            by_cases e : w' = w
            · subst e
              right
              refine ⟨k0, t, k1, k2, ?_, ?_⟩
              · simp only [up_all, reduceIte, Nat.reduceEqDiff, and_self, and_true, true_and, and_false, false_and, Nat.one_ne_zero, Nat.zero_ne_one]; exact k3
              · simp only [up_all, reduceIte, Nat.reduceEqDiff, and_self, and_true, true_and, and_false, false_and, Nat.one_ne_zero, Nat.zero_ne_one]; exact Or.inr (Or.inr ⟨c.1, c2⟩)
            · simp only [eK, up_all] at hk ⊢
              grind
          · have := hS m hm
            simp only [eS, up_all] at this ⊢
            grind
        · have c2 : ¬ (σ 3 t 4 = 3 ∧ σ 3 t 7 + 3 ≤ σ 1 0 11) := fun x => c ⟨x.1, by
            obtain ⟨v, v1, v2⟩ := q5 x.1
            rw [v2, h11]; exact (i32_pat htm v1).mpr (by rw [← h11, ← v2]; exact x.2)⟩
          have f1 : ¬ gFree τ w = true := by
            rw [fr]
            intro x
            rcases of_decide_eq_true x with x | x
            · exact s.2 x
            · exact c2 x
          rw [if_neg c, ab, if_neg (fun x => f1 x.1)]
          exact ⟨hx, hv, fun x => absurd x f1⟩
      · rw [if_pos (show ¬ σ 4 l 8 = 0 by rw [s.1]; decide), ab, if_neg (show ¬ (gFree τ w = true ∧ ¬ τ 43 0 l = 5) from fun x => x.2 s.2)]
        refine ⟨?_, hv, fun _ => by simp only [up_all, reduceIte, Nat.reduceEqDiff, and_self, and_true, true_and, and_false, false_and, Nat.one_ne_zero, Nat.zero_ne_one]⟩
        obtain ⟨hG, hP, hT, hK, hS⟩ := hx
        refine ⟨hG, hP, hT, fun w' hw' => ?_, hS⟩
        have hk := hK w' hw'
        by_cases e : w' = w
        · subst e
          right
          refine ⟨k0, t, k1, k2, k3, ?_⟩
          simp only [up_all, reduceIte, Nat.reduceEqDiff, and_self, and_true, true_and, and_false, false_and, Nat.one_ne_zero, Nat.zero_ne_one]
          exact Or.inr (Or.inl (by rw [z4, nl]; exact s.1))
        · simp only [eK, up_all] at hk ⊢
          grind
    · have e1 : kRelease1 σ w = σ := by unfold kRelease1; rw [if_neg (fun y => y y1)]
      have e2 : gAband1 τ w = τ := by
        rw [ab]
        split
        · rename_i x
          apply up_self
          rcases y2 with y | y
          · rcases s2 with s | s
            · rw [y] at s; exact absurd s.1 (by decide)
            · exact absurd s.2 x.2
          · rw [← q2.2.2.2.2.2.1]; exact y.2.2
        · rfl
      rw [e1, e2]
      exact ⟨hx, hv, fun _ => y1⟩
theorem gFree_congr {τ' : ty_St} {w : Nat} (e20 : τ' 20 = τ 20) (e29 : τ' 29 = τ 29) (e32 : τ' 32 = τ 32) (e34 : τ' 34 = τ 34) (e38 : τ' 38 = τ 38) (e43 : τ' 43 = τ 43) : gFree τ' w = gFree τ w := by
  unfold gFree
  rw [e20, e29, e32, e34, e38, e43]
theorem gFree_ab {n w : Nat} : gFree (gAband τ n) w = gFree τ w := gFree_congr (gAband_a (by decide) n) (gAband_a (by decide) n) (gAband_a (by decide) n) (gAband_a (by decide) n) (gAband_a (by decide) n) (gAband_a (by decide) n)
theorem eRel (hx : eX tc wc σ τ) (htc : tc ≤ 12) {tm : Nat} (htm : tm ≤ 150) (h11 : σ 1 0 11 = nI tm) (hv : eV σ τ) : ∀ n, n ≤ 4 → eX tc wc (kRelease σ n) (gAband τ n) ∧ eV (kRelease σ n) (gAband τ n) ∧ (∀ w, w < n → gFree τ w = true → (kRelease σ n) 10 0 w = -1)
  | 0, _ => ⟨hx, hv, fun w hw => absurd hw (by omega)⟩
  | n + 1, hn => by
    obtain ⟨a1, a2, a3⟩ := eRel hx htc htm h11 hv n (by omega)
    obtain ⟨b1, b2, b3⟩ := eRel1 a1 htc (w := n) (by omega) htm (by rw [kRelease_a (by decide) (by decide)]; exact h11) a2
    refine ⟨b1, b2, fun w hw hf => ?_⟩
    show (kRelease1 (kRelease σ n) n) 10 0 w = -1
    by_cases e : w = n
    · subst e; exact b3 (by rw [gFree_ab]; exact hf)
    · rw [kRelease1_10 e]; exact a3 w (by omega) hf
end E8
