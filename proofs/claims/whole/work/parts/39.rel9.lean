section E9
variable {tc wc : Nat} {σ τ : ty_St}
theorem i32_0 {x : Int32} : x = 0 ↔ ∀ i : Nat, x.toBitVec.getLsbD i = false := by
  constructor
  · intro h i; rw [h]; simp
  · intro h
    apply Int32.toBitVec_inj.mp
    apply BitVec.eq_of_getLsbD_eq
    intro i hi
    rw [h i]; simp
theorem eLock (R1 W1 R2 W2 : Int32) : (¬ W1 &&& (R2 ||| W2) = 0 ∨ ¬ R1 &&& W2 = 0) ↔ (¬ W2 &&& ((R1 &&& (W1 ^^^ (-1))) ||| W1) = 0 ∨ ¬ (R2 &&& (W2 ^^^ (-1))) &&& W1 = 0) := by
  have m1 : ∀ i : Nat, (-1 : Int32).toBitVec.getLsbD i = decide (i < 32) := by
    intro i
    have : (-1 : Int32).toBitVec = BitVec.allOnes 32 := by decide
    rw [this, BitVec.getLsbD_allOnes]
  have key : (W1 &&& (R2 ||| W2) = 0 ∧ R1 &&& W2 = 0) ↔ (W2 &&& ((R1 &&& (W1 ^^^ (-1))) ||| W1) = 0 ∧ (R2 &&& (W2 ^^^ (-1))) &&& W1 = 0) := by
    simp only [i32_0, Int32.toBitVec_and, Int32.toBitVec_or, Int32.toBitVec_xor, BitVec.getLsbD_and, BitVec.getLsbD_or, BitVec.getLsbD_xor, m1, ← forall_and]
    apply forall_congr'
    intro i
    by_cases hi : i < 32
    · simp only [hi, decide_true]
      cases W1.toBitVec.getLsbD i <;> cases W2.toBitVec.getLsbD i <;> cases R1.toBitVec.getLsbD i <;> cases R2.toBitVec.getLsbD i <;> decide
    · have z : ∀ x : Int32, x.toBitVec.getLsbD i = false := fun x => BitVec.getLsbD_of_ge _ _ (by omega)
      simp [z]
  rw [← Decidable.not_and_iff_not_or_not, ← Decidable.not_and_iff_not_or_not, key]
theorem eCan (hx : eX tc wc σ τ) {t : Nat} (ht : t < tc) : ∀ n, n ≤ tc → kCan σ t n = gCan τ t n
  | 0, _ => rfl
  | n + 1, hn => by
    obtain ⟨q1, q2, -⟩ := hx.2.2.1 n (by omega)
    obtain ⟨r1, -⟩ := hx.2.2.1 t ht
    unfold kCan gCan
    rw [eCan hx ht n (by omega)]
    congr 2
    apply decide_eq_decide.mpr
    unfold kRunning kHinders
    rw [hx.begun (show n < tc by omega), ← q2.1, q1.2.2.2.1, ← q1.2.2.2.2, r1.2.2.2.1, ← r1.2.2.2.2, ← eLock (σ 3 n 2) (σ 3 n 3) (σ 3 t 2) (σ 3 t 3)]
    constructor
    · intro y
      refine ⟨?_, ?_⟩
      · have := y.1
        split at this
        · rename_i z; exact z
        · exact absurd this (by decide)
      · have := y.2
        split at this
        · rename_i z; exact z
        · exact absurd this (by decide)
    · intro y
      rw [if_pos y.1, if_pos y.2]
      exact ⟨rfl, rfl⟩
/-- all free workers are free for both -/
def eFr (wc : Nat) (σ τ : ty_St) : Prop := ∀ w, w < wc → (σ 10 0 w = -1 ↔ gFree τ w = true)
theorem eLow (hf : eFr wc σ τ) : ∀ k i, i + k = wc → (kLowest σ k i = -1 ∧ gWorker τ k i = i + k) ∨ ∃ w, i ≤ w ∧ w < wc ∧ kLowest σ k i = nI w ∧ gWorker τ k i = w ∧ σ 10 0 w = -1
  | 0, i, _ => Or.inl ⟨rfl, rfl⟩
  | k + 1, i, h => by
    unfold kLowest gWorker
    by_cases c : σ 10 0 i = -1
    · rw [if_pos c, if_pos ((hf i (by omega)).mp c)]
      exact Or.inr ⟨i, Nat.le_refl _, by omega, rfl, rfl, c⟩
    · rw [if_neg c, if_neg (fun y => c ((hf i (by omega)).mpr y))]
      rcases eLow hf k (i + 1) (by omega) with ⟨a, b⟩ | ⟨w, a1, a2, a3, a4, a5⟩
      · exact Or.inl ⟨a, by omega⟩
      · exact Or.inr ⟨w, by omega, a2, a3, a4, a5⟩
/-- a trial that could begin -/
def eCanB (tc : Nat) (τ : ty_St) (u : Nat) : Prop := τ 31 0 u < 0 ∧ gCan τ u tc = true
theorem gNext_none : ∀ k i, (∀ u, i ≤ u → u < i + k → ¬ eCanB tc τ u) → gNext τ tc k i = -1
  | 0, _, _ => rfl
  | k + 1, i, h => by
    unfold gNext
    rw [if_neg (show ¬ (τ 31 0 i < 0 ∧ gCan τ i tc = true) from h i (Nat.le_refl _) (by omega))]
    exact gNext_none k (i + 1) (fun u h1 h2 => h u (by omega) (by omega))
theorem gNext_at {n : Nat} : ∀ k i, i ≤ n → n < i + k → (∀ u, i ≤ u → u < n → ¬ eCanB tc τ u) → eCanB tc τ n → gNext τ tc k i = nI n
  | 0, i, h1, h2, _, _ => absurd h2 (by omega)
  | k + 1, i, h1, h2, h3, h4 => by
    unfold gNext
    by_cases e : i = n
    · subst e; rw [if_pos (show (τ 31 0 i < 0 ∧ gCan τ i tc = true) from h4)]
    · rw [if_neg (show ¬ (τ 31 0 i < 0 ∧ gCan τ i tc = true) from h3 i (Nat.le_refl _) (by omega))]
      exact gNext_at k (i + 1) (by omega) (by omega) (fun u h5 h6 => h3 u (by omega) h6) h4
theorem gCan_less {τ' : ty_St} {t u : Nat} (hne : ¬ u = t) (e27 : τ' 27 = τ 27) (e28 : τ' 28 = τ 28) (e29 : τ' 29 = τ 29) (e31 : ∀ o, ¬ o = t → τ' 31 0 o = τ 31 0 o) (ht : τ 31 0 t < 0) : ∀ n, gCan τ' u n = true → gCan τ u n = true
  | 0, _ => rfl
  | n + 1, h => by
    unfold gCan at h ⊢
    rw [e27, e28, e29] at h
    simp only [Bool.and_eq_true] at h ⊢
    refine ⟨gCan_less hne e27 e28 e29 e31 ht n h.1, ?_⟩
    by_cases e : n = t
    · subst e
      have : ¬ 0 ≤ τ 31 0 n := Int32.not_le.mpr ht
      simp [this]
    · rw [e31 n e] at h; exact h.2
theorem eBegin (hx : eX tc wc σ τ) (htc : tc ≤ 12) (hwc : wc ≤ 4) {t w sc tm : Nat} (ht : t < tc) (hw : w < wc) (h6 : σ 3 t 6 = -1) (hsc : sc < 52) (h8 : σ 1 0 8 = nI sc) (htm : tm ≤ 150) (h11 : σ 1 0 11 = nI tm) (hv : eV σ τ) (hf : eFr wc σ τ) :
    eX tc wc (kBegin σ t (nI w)) (gBegin τ w t) ∧ eV (kBegin σ t (nI w)) (gBegin τ w t) ∧ eFr wc (kBegin σ t (nI w)) (gBegin τ w t) := by
  obtain ⟨hG, hP, hT, hK, hS⟩ := hx
  have r8 : τ 20 0 8 = nI sc := by rw [← hG.2.1.2.2.2.2.2]; exact h8
  have et : τ 20 0 3 = nI tm := by rw [← hG.2.1.1]; exact h11
  have n8 : nn (σ 1 0 8) = sc := by rw [h8]; exact nnI (by omega)
  have m8 : nn (τ 20 0 8) = sc := by rw [r8]; exact nnI (by omega)
  have nt : nn (nI t) = t := nnI (by omega)
  have nw : nn (nI w) = w := nnI (by omega)
  have lt52 : σ 1 0 8 < 52 := by rw [h8]; exact nI_lt (b := 52) hsc (by decide)
  have p8 : nn (nI sc + 1) = sc + 1 := by rw [nI_1]; exact nnI (by omega)
  have nm1 : ∀ k : Nat, k < 1000000 → ¬ nI k = -1 := fun k hk e => by
    have := nI_toInt (n := k) (by omega)
    rw [e] at this
    exact absurd this (by simp)
  rw [n8] at hS
  have tq := hT t ht
  obtain ⟨q1, q2, q3, q4, q5, q6⟩ := tq
  have q3' : σ 3 t 4 = 0 ∧ σ 3 t 12 = -1 := by
    rcases q3 with z | ⟨b, l, z1, z2, -⟩
    · exact z.2
    · rw [h6] at z2; exact absurd z2.symm (nm1 b (by omega))
  unfold kBegin gBegin gStarts kStartS kStart
  dsimp only
  have a8 : ∀ (x y z : Int32) (v : Nat), (ty_up (ty_up (ty_up (ty_up σ 3 t 6 x) 3 t 8 y) 3 t 11 z) 10 0 v (nI t)) 1 = σ 1 := fun x y z v => rfl
  have b8 : ∀ (x y z v : Int32) (k l : Nat), (ty_up (ty_up (ty_up (ty_up τ 38 0 k x) 33 0 t y) 31 0 l z) 35 0 t v) 20 = τ 20 := fun x y z v k l => rfl
  have a0 : ∀ (x y z : Int32) (v : Nat), (ty_up (ty_up (ty_up (ty_up σ 3 t 6 x) 3 t 8 y) 3 t 11 z) 10 0 v (nI t)) 3 t 0 = σ 3 t 0 := fun x y z v => by simp only [up_all, reduceIte, Nat.reduceEqDiff, and_self, and_true, true_and, and_false, false_and, Nat.one_ne_zero, Nat.zero_ne_one]
  rw [a8, a0, if_pos lt52, b8, n8, m8, nt, nw, h8, h11, et, r8]
  have e38 : ∀ v, (hK0 : v < 4) → eK tc wc σ τ v := fun v hv => hK v hv
  refine ⟨⟨?_, ⟨hP.1, hP.2.1, fun u h1 h2 => ⟨by rw [up_all, if_neg (by omega)]; exact (hP.2.2 u h1 h2).1, by have z := (hP.2.2 u h1 h2).2; have hne : ¬ u = t := (by omega); simp only [eT0, up_all] at z ⊢; simp only [hne, false_and, and_false, if_false, reduceIte, Nat.reduceEqDiff]; exact z⟩⟩, fun u hu => ?_, fun v hv => ?_, fun n hn => ?_⟩, fun n hn => ?_, fun v hv => ?_⟩
  · obtain ⟨g1, g2, g3⟩ := hG
    refine ⟨?_, ?_, g3⟩
    · simp only [up_all, reduceIte, Nat.reduceEqDiff, and_self, and_true, true_and, and_false, false_and, Nat.one_ne_zero, Nat.zero_ne_one]; exact g1
    · simp only [up_all, reduceIte, Nat.reduceEqDiff, and_self, and_true, true_and, and_false, false_and, Nat.one_ne_zero, Nat.zero_ne_one]; exact ⟨g2.1, g2.2.1, g2.2.2.1, g2.2.2.2.1, g2.2.2.2.2.1, by rw [h8]⟩
  · by_cases e : u = t
    · subst e
      simp only [eT, up_all, reduceIte, Nat.reduceEqDiff, and_self, and_true, true_and, and_false, false_and, Nat.one_ne_zero, Nat.zero_ne_one]
      refine ⟨q1, ⟨q2.1, q2.2.1, q2.2.2.2.1, q2.2.2.2.2.2.1, ?_⟩, Or.inr ⟨tm, sc, htm, rfl, ?_, hsc, rfl, rfl, q3'.2⟩, q4, q5, q6⟩
      · rw [q2.2.2.2.2.2.2]
      · rw [h8, p8]; omega
    · refine (hT u hu).congr (fun j => ?_) ?_ (fun a h1 h2 => ?_)
      · simp only [up_all]; simp [e]
      · simp only [up_all, reduceIte, Nat.reduceEqDiff, and_self, and_true, true_and, and_false, false_and, Nat.one_ne_zero, Nat.zero_ne_one]; rw [h8, p8, ← h8, n8]; omega
      · simp only [up_all]
        simp only [e, and_false, if_false]
        rw [if_neg (by omega), if_neg (by omega), if_neg (by omega), if_neg (by omega), if_neg (by omega), if_neg (by omega), if_neg (by omega), if_neg (by omega), if_neg (by omega)]
  · by_cases e : v = w
    · subst e
      right
      refine ⟨hw, t, ht, ?_, ?_, ?_⟩
      · simp only [up_all, reduceIte, Nat.reduceEqDiff, and_self, and_true, true_and, and_false, false_and, Nat.one_ne_zero, Nat.zero_ne_one]
      · simp only [up_all, reduceIte, Nat.reduceEqDiff, and_self, and_true, true_and, and_false, false_and, Nat.one_ne_zero, Nat.zero_ne_one]; exact nm1 tm (by omega)
      · simp only [up_all, reduceIte, Nat.reduceEqDiff, and_self, and_true, true_and, and_false, false_and, Nat.one_ne_zero, Nat.zero_ne_one]; exact Or.inl trivial
    · rcases hK v hv with ⟨k1, k2⟩ | ⟨k0, u, k1, k2, k3, k4⟩
      · left
        simp only [up_all]
        simp [e, k1, k2]
      · have hne : ¬ u = t := fun y => k3 (by rw [y]; exact h6)
        obtain ⟨-, -, y3, -⟩ := hT u k1
        obtain ⟨b', l, z1, z2, z3, z4, z5, -⟩ := y3.resolve_left fun z => k3 z.1
        rw [n8] at z3
        have hl : ¬ l = sc := by omega
        right
        refine ⟨k0, u, k1, ?_, ?_, ?_⟩
        · simp only [up_all]; simp [e, k2]
        · simp only [up_all]; simp [hne]; exact k3
        · simp only [up_all]
          simp only [hne, e, false_and, and_false, if_false, reduceIte, Nat.reduceEqDiff]
          rw [z5] at k4 ⊢
          rw [show nn (nI l) = l from nnI (by omega)] at k4 ⊢
          simp only [hl, false_and, and_false, if_false]
          exact k4
  · have hn' : n < sc + 1 := by
      have : n < nn (nI sc + 1) := by
        have z := hn
        revert z
        simp only [up_all, reduceIte, Nat.reduceEqDiff, and_self, and_true, true_and, and_false, false_and, Nat.one_ne_zero, Nat.zero_ne_one]
        rw [h8]
        exact id
      rw [p8] at this; exact this
    by_cases e : n = sc
    · subst e
      simp only [eS, up_all, reduceIte, Nat.reduceEqDiff, and_self, and_true, true_and, and_false, false_and, Nat.one_ne_zero, Nat.zero_ne_one]
      refine ⟨q1.1, Or.inl (by decide), t, ht, rfl, ?_⟩
      simp only [up_all, reduceIte, Nat.reduceEqDiff, and_self, and_true, true_and, and_false, false_and, Nat.one_ne_zero, Nat.zero_ne_one]
      exact nm1 tm (by omega)
    · have := hS n (by omega)
      obtain ⟨s1, s2, u, s3, s4, s5⟩ := this
      simp only [eS, up_all]
      simp only [e, false_and, and_false, if_false, true_and, and_true, reduceIte, Nat.reduceEqDiff]
      refine ⟨s1, s2, u, s3, s4, ?_⟩
      have hne : ¬ u = t := fun y => s5 (by rw [y]; exact h6)
      simp only [hne, false_and, if_false]
      exact s5
  · have hn' : n < sc + 1 := by
      have : n < nn (nI sc + 1) := by
        have z := hn
        revert z
        simp only [up_all, reduceIte, Nat.reduceEqDiff, and_self, and_true, true_and, and_false, false_and, Nat.one_ne_zero, Nat.zero_ne_one]
        rw [h8]
        exact id
      rw [p8] at this; exact this
    by_cases e : n = sc
    · subst e
      intro _
      left
      simp only [up_all, reduceIte, Nat.reduceEqDiff, and_self, and_true, true_and, and_false, false_and, Nat.one_ne_zero, Nat.zero_ne_one]
    · refine (hv n (by omega)).congr rfl rfl (fun j hj => ?_) (fun a ha => ?_)
      · simp only [up_all]; simp [e]
      · rcases ha with rfl | rfl | rfl <;> simp [up_all, e]
  · have hv4 : v < 4 := by omega
    unfold gFree
    by_cases e : v = w
    · subst e
      have c1 : ¬ nI t = -1 := nm1 t (by omega)
      have c2 : ¬ nI t < 0 := nI_lt0 (by omega)
      have c3 : nn (nI sc) = sc := nnI (by omega)
      simp only [nt, c3, up_all, reduceIte, Nat.reduceEqDiff, and_self, and_true, true_and, and_false, false_and, Nat.one_ne_zero, Nat.zero_ne_one]
      rw [← q2.1, q3'.1]
      simp [c1, c2]
    · have hfv := hf v hv
      unfold gFree at hfv
      rcases hK v hv4 with ⟨k1, k2⟩ | ⟨k0, u, k1, k2, k3, k4⟩
      · simp only [up_all]
        simp [e, k1, k2]
      · have hne : ¬ u = t := fun y => k3 (by rw [y]; exact h6)
        obtain ⟨-, -, y3, -⟩ := hT u k1
        obtain ⟨b', l, z1, z2, z3, z4, z5, z6, -⟩ := y3.resolve_left fun z => k3 z.1
        rw [n8] at z3
        have hl : ¬ l = sc := by omega
        have nu : nn (nI u) = u := nnI (by omega)
        have nl : nn (nI l) = l := nnI (by omega)
        rw [k2, nu, z6, nl] at hfv
        simp only [up_all]
        simp only [e, k2, nu, hne, false_and, and_false, if_false, reduceIte, Nat.reduceEqDiff, true_and, and_true]
        rw [z6, nl]
        simp only [hl, and_false, if_false]
        exact hfv
theorem kBegin_11 {t : Nat} {w : Int32} : (kBegin σ t w) 1 0 11 = σ 1 0 11 := kBegin_1 (by decide)
theorem gBegin_a {w t a : Nat} (h : a = 27 ∨ a = 28 ∨ a = 29) : (gBegin τ w t) a = τ a := by
  unfold gBegin gStarts
  rcases h with rfl | rfl | rfl <;> rfl
theorem gBegin_31 {w t o : Nat} (h : ¬ o = t) : (gBegin τ w t) 31 0 o = τ 31 0 o := by
  unfold gBegin gStarts
  simp only [up_all]
  simp [h]
theorem gBegin_31' {w t : Nat} : (gBegin τ w t) 31 0 t = τ 20 0 3 := by
  unfold gBegin gStarts
  simp only [up_all, reduceIte, Nat.reduceEqDiff, and_self, and_true, true_and, and_false, false_and, Nat.one_ne_zero, Nat.zero_ne_one]
theorem eX.okB (hx : eX tc wc σ τ) (htc : tc ≤ 12) {sc : Nat} (hsc : sc ≤ 52) (h8 : σ 1 0 8 = nI sc) : gOKB tc wc τ := by
  refine ⟨hx.1.1.2.1, hx.1.1.2.2.2, fun w hw h0 => ?_, ?_⟩
  · rcases hx.2.2.2.1 w hw with ⟨k1, -⟩ | ⟨-, t, k1, k2, k3, -⟩
    · rw [k1] at h0; exact absurd h0 (by decide)
    · obtain ⟨-, -, q3, -⟩ := hx.2.2.1 t k1
      obtain ⟨b, l, z1, z2, z3, z3', z4, z5, z6⟩ := q3.resolve_left fun z => k3 z.1
      rw [k2, show nn (nI t) = t from nnI (by omega), z5]
      exact ⟨nI_in (by omega) (by decide), nI_in (by omega) (by decide)⟩
  · rw [← hx.1.2.1.2.2.2.2.2, h8]; exact nI_in (by omega) (by decide)
/-- the trials begin: the class goes through them once, the reference asks anew for the first that can -/
theorem eBegins (hx : eX tc wc σ τ) (htc : tc ≤ 12) (hwc : wc ≤ 4) {B : Nat} (hI : kInv tc wc B σ) (hv : eV σ τ) (hf : eFr wc σ τ) : ∀ n, n ≤ tc → ∃ (m : Nat) (υ : ty_St), m ≤ n ∧ eX tc wc (kBegins σ n) υ ∧ eV (kBegins σ n) υ ∧ eFr wc (kBegins σ n) υ ∧ (∀ k, gBegins (m + k) τ = gBegins k υ ∧ (gGoodB tc wc k υ → gGoodB tc wc (m + k) τ)) ∧ (kLowest (kBegins σ n) wc 0 = -1 ∨ ∀ u, u < n → ¬ eCanB tc υ u)
  | 0, _ => ⟨0, τ, Nat.le_refl _, hx, hv, hf, fun k => by rw [Nat.zero_add]; exact ⟨rfl, id⟩, Or.inr fun u hu => absurd hu (by omega)⟩
  | n + 1, hn => by
    obtain ⟨m, υ, m1, a1, a2, a3, a4, a5⟩ := eBegins hx htc hwc hI hv hf n (by omega)
    have hI' := hI.begins hwc n (by omega)
    have eb : kBegins σ (n + 1) = kBegin1 (kBegins σ n) n := rfl
    rw [eb]
    obtain ⟨⟨i1, i2, tm, i3, i4⟩, ⟨sc, j1, j2, j3⟩, -⟩ := id hI'
    have n7 : nn ((kBegins σ n) 1 0 7) = wc := by rw [i2]; exact nnI (by omega)
    have n6 : nn ((kBegins σ n) 1 0 6) = tc := by rw [i1]; exact nnI (by omega)
    have lo := eLow a3 wc 0 (by omega)
    unfold kBegin1
    rw [n7, n6]
    have nb : (kBegins σ n) 3 n 6 = -1 ↔ υ 31 0 n < 0 := by
      have := a1.begun (show n < tc by omega)
      constructor
      · intro y
        exact Int32.not_le.mp fun z => (this.mp z) y
      · intro y
        exact Decidable.byContradiction fun z => absurd (this.mpr z) (Int32.not_le.mpr y)
    have cc := eCan a1 (show n < tc by omega) tc (Nat.le_refl _)
    rw [cc]
    by_cases c : ¬ kLowest (kBegins σ n) wc 0 = -1 ∧ (kBegins σ n) 3 n 6 = -1 ∧ gCan υ n tc = true
    · rw [if_pos c]
      rcases lo with l | ⟨w, l1, l2, l3, l4, l5⟩
      · exact absurd l.1 c.1
      · rw [l3]
        have nos := a5.resolve_left c.1
        have scl : sc < 52 := by
          have := kNb_lt c.2.1 12 (by omega)
          omega
        obtain ⟨b1, b2, b3⟩ := eBegin a1 htc hwc (t := n) (w := w) (by omega) l2 c.2.1 scl j3 i3 i4 a2 a3
        have cn : eCanB tc υ n := ⟨nb.mp c.2.1, c.2.2⟩
        have gn : gNext υ tc tc 0 = nI n := gNext_at tc 0 (by omega) (by omega) (fun u _ hu => nos u hu) cn
        have ok := a1.okB htc j1 j3
        have h1 : nn (υ 20 0 1) = tc := by rw [ok.1]; exact nnI (by omega)
        have h2 : nn (υ 20 0 2) = wc := by rw [ok.2.1]; exact nnI (by omega)
        have nnn : nn (nI n) = n := nnI (by omega)
        have cond : gWorker υ wc 0 < wc ∧ 0 ≤ gNext υ tc tc 0 := by
          rw [l4, gn]; exact ⟨l2, nI_pos' (by omega)⟩
        refine ⟨m + 1, gBegin υ w n, by omega, b1, b2, b3, fun k => ⟨?_, fun g => ?_⟩, Or.inr fun u hu => ?_⟩
        · rw [show m + 1 + k = m + (k + 1) by omega, (a4 (k + 1)).1]
          show (if _ then _ else _) = _
          rw [h1, h2, if_pos cond, l4, gn, nnn]
        · rw [show m + 1 + k = m + (k + 1) by omega]
          apply (a4 (k + 1)).2
          refine ⟨ok, fun _ => ?_⟩
          rw [l4, gn, nnn]; exact g
        · by_cases e : u = n
          · subst e
            intro y
            have := y.1
            rw [gBegin_31', ← a1.1.2.1.1, i4] at this
            exact absurd this (nI_lt0 (by omega))
          · intro y
            refine nos u (by omega) ⟨?_, ?_⟩
            · rw [← gBegin_31 (τ := υ) (w := w) (t := n) e]; exact y.1
            · exact gCan_less e (gBegin_a (by simp)) (gBegin_a (by simp)) (gBegin_a (by simp)) (fun o ho => gBegin_31 ho) cn.1 tc y.2
    · rw [if_neg c]
      refine ⟨m, υ, by omega, a1, a2, a3, a4, ?_⟩
      by_cases c1 : kLowest (kBegins σ n) wc 0 = -1
      · exact Or.inl c1
      · right
        intro u hu
        by_cases e : u = n
        · subst e
          intro y
          exact c ⟨c1, nb.mpr y.1, y.2⟩
        · exact (a5.resolve_left c1) u (by omega)
theorem eBeginsAll (hx : eX tc wc σ τ) (htc : tc ≤ 12) (hwc : wc ≤ 4) {B : Nat} (hI : kInv tc wc B σ) (hv : eV σ τ) (hf : eFr wc σ τ) : eX tc wc (kBegins σ tc) (gBegins 13 τ) ∧ eV (kBegins σ tc) (gBegins 13 τ) ∧ eFr wc (kBegins σ tc) (gBegins 13 τ) ∧ gGoodB tc wc 13 τ := by
  obtain ⟨m, υ, m1, a1, a2, a3, a4, a5⟩ := eBegins hx htc hwc hI hv hf tc (Nat.le_refl _)
  have hI' := hI.begins hwc tc (by omega)
  obtain ⟨⟨i1, i2, tm, i3, i4⟩, ⟨sc, j1, j2, j3⟩, -⟩ := id hI'
  have ok := a1.okB htc j1 j3
  have h1 : nn (υ 20 0 1) = tc := by rw [ok.1]; exact nnI (by omega)
  have h2 : nn (υ 20 0 2) = wc := by rw [ok.2.1]; exact nnI (by omega)
  obtain ⟨k, hk⟩ : ∃ k, 13 = m + (k + 1) := ⟨12 - m, by omega⟩
  have nc : ¬ (gWorker υ wc 0 < wc ∧ 0 ≤ gNext υ tc tc 0) := by
    rcases a5 with y | y
    · rcases eLow a3 wc 0 (by omega) with l | ⟨w, l1, l2, l3, l4, l5⟩
      · intro z; rw [l.2] at z; omega
      · rw [y] at l3
        have := nI_toInt (n := w) (by omega)
        rw [← l3] at this
        exact absurd this (by simp)
    · intro z
      rw [gNext_none tc 0 (fun u _ hu => y u (by omega))] at z
      exact absurd z.2 (by decide)
  have e : gBegins 13 τ = υ := by
    rw [hk, (a4 (k + 1)).1]
    show (if _ then _ else _) = _
    rw [h1, h2, if_neg nc]
  rw [e]
  refine ⟨a1, a2, a3, ?_⟩
  rw [hk]
  exact (a4 (k + 1)).2 ⟨ok, fun z => absurd z nc⟩
end E9
