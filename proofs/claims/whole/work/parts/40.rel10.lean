section E10
variable {tc wc : Nat} {σ τ : ty_St}
theorem eCount (hx : eX tc wc σ τ) : ∀ n, n ≤ tc → kCount σ n = gNow τ n
  | 0, _ => rfl
  | n + 1, hn => by
    obtain ⟨-, q2, -⟩ := hx.2.2.1 n (by omega)
    have hb := hx.begun (show n < tc by omega)
    unfold kCount gNow kRunning
    rw [eCount hx n (by omega), ← q2.1]
    by_cases c : ¬ σ 3 n 6 = -1 ∧ σ 3 n 4 = 0
    · rw [if_pos c, if_pos rfl, if_pos (show 0 ≤ τ 31 0 n ∧ σ 3 n 4 = 0 from ⟨hb.mpr c.1, c.2⟩)]
    · rw [if_neg c, if_neg (by decide), if_neg (show ¬ (0 ≤ τ 31 0 n ∧ σ 3 n 4 = 0) from fun y => c ⟨hb.mp y.1, y.2⟩)]
theorem eDone (hx : eX tc wc σ τ) : ∀ n, n ≤ tc → kDone σ n = gDone τ n
  | 0, _ => rfl
  | n + 1, hn => by
    obtain ⟨-, q2, -⟩ := hx.2.2.1 n (by omega)
    unfold kDone gDone
    rw [eDone hx n (by omega), ← q2.1]
theorem eIdle (hf : eFr wc σ τ) : ∀ n, n ≤ wc → kIdle σ n = gIdle τ n
  | 0, _ => rfl
  | n + 1, hn => by
    unfold kIdle gIdle
    rw [eIdle hf n (by omega)]
    congr 1
    have := hf n (by omega)
    by_cases c : σ 10 0 n = -1
    · rw [this.mp c]; exact decide_eq_true c
    · have d : gFree τ n = false := by
        cases hq : gFree τ n
        · rfl
        · exact absurd (this.mpr hq) c
      rw [d]; exact decide_eq_false c
theorem gFree_7 {x : Int32} {w : Nat} : gFree (ty_up τ 20 0 7 x) w = gFree τ w := rfl
theorem eTick0 (hx : eX tc wc σ τ) (htc : tc ≤ 12) (hwc : wc ≤ 4) {B : Nat} (hI : kInv tc wc B σ) (hv : eV σ τ) :
    eX tc wc (kTick0 σ) (gTick0 tc wc τ) ∧ eV (kTick0 σ) (gTick0 tc wc τ) ∧ eFr wc (kTick0 σ) (gTick0 tc wc τ) ∧ eX tc wc (kStop σ tc) (gLooks τ tc) ∧ gGoodB tc wc 13 (gAband (gLooks τ tc) wc) := by
  obtain ⟨⟨i1, i2, tm, i3, i4⟩, -⟩ := id hI
  obtain ⟨a1, a2⟩ := eStop hx i3 i4 hv tc (Nat.le_refl _)
  have hI1 := hI.stop tc
  obtain ⟨b1, b2, b3⟩ := eRel a1 htc i3 (by rw [kStop_a (by decide) (by decide)]; exact i4) a2 wc hwc
  have hI2 := hI1.release wc
  have hf : eFr wc (kRelease (kStop σ tc) wc) (gAband (gLooks τ tc) wc) := fun w hw => ⟨fun y => b1.free htc (by omega) y, fun y => b3 w hw (by rw [gFree_ab] at y; exact y)⟩
  obtain ⟨c1, c2, c3, c4⟩ := eBeginsAll b1 htc hwc hI2 b2 hf
  have hI3 := hI2.begins hwc tc htc
  rw [kTick0_eq hI htc hwc]
  unfold gTick0 gMost
  have ec := eCount c1 tc (Nat.le_refl _)
  have e7 : (kBegins (kRelease (kStop σ tc) wc) tc) 1 0 10 = (gBegins 13 (gAband (gLooks τ tc) wc)) 20 0 7 := c1.1.2.1.2.2.2.2.1
  rw [ec, e7]
  generalize kBegins (kRelease (kStop σ tc) wc) tc = σ3 at *
  generalize gBegins 13 (gAband (gLooks τ tc) wc) = τ3 at *
  refine ⟨?_, ?_, ?_, a1, c4⟩
  · obtain ⟨hG, hP, hT, hK, hS⟩ := c1
    obtain ⟨g1, g2, g3⟩ := hG
    refine ⟨⟨?_, ?_, g3⟩, hP, hT, hK, hS⟩
    · simp only [up_all, reduceIte, Nat.reduceEqDiff, and_self, and_true, true_and, and_false, false_and, Nat.one_ne_zero, Nat.zero_ne_one]; exact g1
    · simp only [up_all, reduceIte, Nat.reduceEqDiff, and_self, and_true, true_and, and_false, false_and, Nat.one_ne_zero, Nat.zero_ne_one]; exact ⟨g2.1, g2.2.1, g2.2.2.1, g2.2.2.2.1, g2.2.2.2.2.2⟩
  · exact c2
  · exact c3
theorem eX.tick (hx : eX tc wc σ τ) {tm : Nat} (htm : tm < 150) (h11 : σ 1 0 11 = nI tm) : eX tc wc (ty_up σ 1 0 11 (σ 1 0 11 + 1)) (ty_up τ 20 0 3 (τ 20 0 3 + 1)) := by
  obtain ⟨hG, hP, hT, hK, hS⟩ := hx
  obtain ⟨g1, g2, g3⟩ := hG
  refine ⟨⟨g1, ?_, g3⟩, hP, hT, fun w hw => ?_, hS⟩
  · simp only [up_all, reduceIte, Nat.reduceEqDiff, and_self, and_true, true_and, and_false, false_and, Nat.one_ne_zero, Nat.zero_ne_one]; exact ⟨by rw [g2.1], g2.2⟩
  · rcases hK w hw with k | ⟨k0, t, k1, k2, k3, k4⟩
    · exact Or.inl k
    · refine Or.inr ⟨k0, t, k1, k2, k3, ?_⟩
      rcases k4 with k | ⟨y1, y2⟩
      · exact Or.inl k
      · refine Or.inr ⟨y1, ?_⟩
        rcases y2 with y | ⟨y3, y4, y5⟩
        · exact Or.inl y
        · right
          refine ⟨y3, ?_, y5⟩
          obtain ⟨v, v1, v2⟩ := (hT t k1).2.2.2.2.1 y3
          simp only [up_all, reduceIte, Nat.reduceEqDiff, and_self, and_true, true_and, and_false, false_and, Nat.one_ne_zero, Nat.zero_ne_one]
          have y4' : σ 3 t 7 + 3 ≤ σ 1 0 11 := y4
          rw [v2, h11, show nI v + 3 = nI (v + 3) from nI_add v 3] at y4'
          show σ 3 t 7 + 3 ≤ _
          rw [v2, h11, show nI v + 3 = nI (v + 3) from nI_add v 3, nI_1]
          have := (nI_leI (by omega) (by omega)).mp y4'
          exact nI_le (by omega) (by omega)
theorem eTick1 (hx : eX tc wc σ τ) (htc : tc ≤ 12) {B : Nat} (hI : kInv tc wc B σ) (hB : B + 700 < 2000000000) (hv : eV σ τ) {tm : Nat} (htm : tm < 150) (h11 : σ 1 0 11 = nI tm) :
    eX tc wc (kTick1 σ) (gTick1 τ) ∧ eV (kTick1 σ) (gTick1 τ) ∧ (∀ h, h < nn (σ 1 0 8) → ¬ (gTurns τ h) 43 0 h = 5 → gOKT (gTurns τ h) h) := by
  obtain ⟨a1, a2, a3, a4⟩ := eTurns htc hI hB hx hv (nn (σ 1 0 8)) (Nat.le_refl _)
  have e8 : τ 20 0 8 = σ 1 0 8 := hx.1.2.1.2.2.2.2.2.symm
  unfold kTick1 gTick1
  rw [e8]
  exact ⟨a1.tick htm (by rw [kTurns_1 (by decide)]; exact h11), a2, a4⟩
theorem eX.lead (hx : eX tc wc σ τ) : ∀ t, t < 12 → 0 ≤ τ 31 0 t → vp_in (τ 34 0 t) 64 := by
  intro t ht h0
  by_cases c : t < tc
  · obtain ⟨-, -, q3, -⟩ := hx.2.2.1 t c
    obtain ⟨b, l, z1, z2, z3, z3', z4, z5, z6⟩ := q3.resolve_left fun z => (hx.begun c).mp h0 z.1
    rw [z5]; exact nI_in (by omega) (by decide)
  · rw [(hx.2.1.2.2 t (by omega) ht).1]
    exact nI_in (c := 0) (by omega) (by decide)
set_option maxRecDepth 100000 in
theorem eTicks (htc : tc ≤ 12) (hwc : wc ≤ 4) : ∀ (k i B : Nat) (σ τ : ty_St), kInv tc wc B σ → B + 700 * k < 1000000000 → eX tc wc σ τ → eV σ τ → i + k = 150 → σ 1 0 11 = nI i →
    eX tc wc (kTicks k σ) (gTicks tc wc k τ) ∧ gGoodR tc wc k i τ ∧ ∃ B', B' < 1000000000 ∧ kInv tc wc B' (kTicks k σ)
  | 0, i, B, σ, τ, hI, hB, hx, hv, hi, h11 => ⟨hx, (by show τ 20 0 3 = nI i; rw [← h11, ← hx.1.2.1.1]), B, by omega, hI⟩
  | k + 1, i, B, σ, τ, hI, hB, hx, hv, hi, h11 => by
    obtain ⟨a1, a2, a3, a4, a5⟩ := eTick0 hx htc hwc hI hv
    have hi1 : i < 150 := by omega
    have hB1 : B + 700 < 2000000000 := by omega
    have hB2 : B + 624 + 700 * k < 1000000000 := by omega
    have hB3 : B < 1000000000 := by omega
    have hi2 : i + 1 + k = 150 := by omega
    have hI1 := hI.tick0 htc hwc
    obtain ⟨sc, j1, j2, j3⟩ := hI1.2.1
    obtain ⟨sc0, j01, j02, j03⟩ := (hI.stop tc).2.1
    have ok1 := a1.okB htc j1 j3
    have ok0 := a4.okB htc j01 j03
    have n6 : nn ((kTick0 σ) 1 0 6) = tc := by rw [hI1.1.1]; exact nnI (by omega)
    have n7 : nn ((kTick0 σ) 1 0 7) = wc := by rw [hI1.1.2.1]; exact nnI (by omega)
    have n8 : nn ((kTick0 σ) 1 0 8) = sc := by rw [j3]; exact nnI (by omega)
    have ef : kFinished (kTick0 σ) = (gDone (gTick0 tc wc τ) tc && gIdle (gTick0 tc wc τ) wc) := by
      unfold kFinished
      rw [n6, n7, eDone a1 tc (Nat.le_refl _), eIdle a3 wc (Nat.le_refl _)]
    have t11 : (kTick0 σ) 1 0 11 = nI i := kTick0_11.trans h11
    obtain ⟨b1, b2, b3⟩ := eTick1 a1 htc hI1 hB1 a2 hi1 t11
    have hI2 := hI1.tick1 hB1 hi1 t11
    obtain ⟨c1, c2, B', c3, c4⟩ := eTicks htc hwc k (i + 1) (B + 624) (kTick1 (kTick0 σ)) (gTick1 (gTick0 tc wc τ)) hI2 hB2 b1 b2 hi2 (by rw [kTick1_11, t11, nI_1])
    have good : gGoodR tc wc (k + 1) i τ := by
      refine ⟨by rw [← h11, ← hx.1.2.1.1], hx.1.1.2.1, hx.lead, ok0.2.1, ok0.2.2.1, a5, ok1.1, ok1.2.1, ok1.2.2.1, fun _ => ⟨sc, Nat.le_trans j1 (by decide), ?_, ?_, c2⟩⟩
      · rw [← a1.1.2.1.2.2.2.2.2]; exact j3
      · rw [n8] at b3; exact b3
    unfold kTicks gTicks
    by_cases c : gDone (gTick0 tc wc τ) tc = true ∧ gIdle (gTick0 tc wc τ) wc = true
    · rw [if_pos (by rw [ef, c.1, c.2]; rfl), if_pos c]
      exact ⟨a1, good, B, hB3, hI1⟩
    · rw [if_neg (by rw [ef]; intro y; exact c (Bool.and_eq_true_iff.mp y)), if_neg c]
      exact ⟨c1, good, B', c3, c4⟩
end E10
