section E7
variable {tc wc : Nat} {σ τ : ty_St}
/-- the count of the strands only grows -/
def eUp (σ σ' : ty_St) : Prop := σ' 1 0 8 = σ 1 0 8 ∨ (σ 1 0 8 < 52 ∧ σ' 1 0 8 = σ 1 0 8 + 1)
theorem eUp.le {σ' : ty_St} (h : eUp σ σ') {B : Nat} (hI : kInv tc wc B σ) : nn (σ 1 0 8) ≤ nn (σ' 1 0 8) := by
  obtain ⟨sc, h1, -, h2⟩ := hI.2.1
  rcases h with e | ⟨-, e⟩
  · rw [e]; exact Nat.le_refl _
  · rw [e, h2, nI_1, show nn (nI sc) = sc from nnI (by omega), show nn (nI (sc + 1)) = sc + 1 from nnI (by omega)]; omega
theorem kStartS_8 {q t st : Int32} : eUp σ (kStartS σ q t st) := by
  unfold kStartS
  split
  · rename_i c
    right
    refine ⟨c, ?_⟩
    dsimp only
    rw [up_a (by decide), up_ss]
    rfl
  · exact Or.inl rfl
theorem kAtOnce_8 {n : Nat} {op a : Int32} : eUp σ (kAtOnce σ n op a) := by
  unfold kAtOnce
  split
  · split
    · exact kStartS_8
    · exact Or.inl rfl
  · left
    split
    · rw [kLog_a (by decide) (by decide)]
    · split
      · rw [kLog_a (by decide) (by decide), kTake_a (by decide)]
      · split
        · rfl
        · split
          · rw [kMark_a (by decide)]
          · rfl
theorem kAction_8 {n : Nat} : eUp σ (kAction σ n).2 := by
  unfold kAction
  try dsimp only
  split
  · exact Or.inl rfl
  · split
    · left; rw [kWait_a (by decide)]
    · split
      · exact Or.inl rfl
      · split
        · exact Or.inl rfl
        · show eUp σ (kAt _ n)
          rcases kAtOnce_8 (σ := σ) (n := n) (op := σ 6 (nn (σ 4 n 0)) (nn (σ 4 n 3))) (a := σ 7 (nn (σ 4 n 0)) (nn (σ 4 n 3))) with e | ⟨e1, e⟩
          · left; rw [kAt_a (by decide)]; exact e
          · right; refine ⟨e1, ?_⟩; rw [kAt_a (by decide)]; exact e
theorem gLoop_stop {h : Nat} : ∀ (n : Nat) (τ : ty_St), ¬ τ 43 0 h = 0 → gLoop h n τ = τ
  | 0, _, _ => rfl
  | n + 1, τ, c => by unfold gLoop; rw [if_neg c]
theorem gGood_stop {h : Nat} : ∀ (n : Nat) (τ : ty_St), ¬ τ 43 0 h = 0 → gGood h n τ
  | 0, _, c => c
  | n + 1, τ, c => fun q => absurd q c
theorem eRes.n0 {h : Nat} (r : eRes tc wc h σ τ) : ¬ τ 43 0 h = 0 := by
  rcases r with y | y
  · rw [y.2.2.2]; decide
  · exact y.2.2.2.2
theorem eOKd (hx : eX tc wc σ τ) {B : Nat} (hI : kInv tc wc B σ) (hB : B < 2000000000) {h z : Nat} (hh : h < nn (σ 1 0 8)) (hd : eD h z σ τ) : gOK τ h := by
  obtain ⟨sc, c1, -, c2⟩ := id hI.2.1
  have n8 : nn (σ 1 0 8) = sc := by rw [c2]; exact nnI (by omega)
  obtain ⟨s1, s2, -⟩ := hx.2.2.2.2 h hh
  obtain ⟨v0, v1, -, -⟩ := hI.2.2.2.2.2.1 h (by omega)
  obtain ⟨k, hp, -⟩ := hx.2.1.2.1 _ (vp_lt v0)
  obtain ⟨h8, h4, h43, hz20, h3, k', hk', h2', h42⟩ := hd
  refine ⟨⟨sc, by omega, by rw [← hx.1.2.1.2.2.2.2.2]; exact c2⟩, ?_, ?_, ?_, ?_, ⟨_, ?_, h42⟩, k, hp.1, ?_⟩
  · rw [← hx.1.2.1.2.2.1]; exact hI.nlog (by decide) hB
  · rw [← hx.1.2.1.2.1]; exact hI.nlog (by decide) hB
  · rw [← s1.2.1]; exact v1
  · rw [← s1.1]; exact v0
  · split <;> omega
  · rw [← s1.1]; exact hp.2.2.1
theorem eLoop (htc : tc ≤ 12) {h : Nat} : ∀ (f B : Nat) (σ τ : ty_St) (z k f' : Nat), kInv tc wc B σ → B + f < 2000000000 → h < nn (σ 1 0 8) → eX tc wc σ τ → eY h σ τ → eD h z σ τ → σ 2 (nn (σ 4 h 0)) 3 = nI k → k ≤ 10 → k - z + 1 ≤ f → k - z + 1 ≤ f' →
    eRes tc wc h (kSteps h f σ) (gLoop h f' τ) ∧ gGood h f' τ ∧ nn (σ 1 0 8) ≤ nn ((kSteps h f σ) 1 0 8)
  | 0, _, _, _, _, _, _, _, _, _, _, _, _, _, _, hf, _ => absurd hf (by omega)
  | _, _, _, _, _, _, 0, _, _, _, _, _, _, _, _, _, hf => absurd hf (by omega)
  | f + 1, B, σ, τ, z, k, f' + 1, hI, hB, hh, hx, hy, hd, h2, hk, hf, hf' => by
    obtain ⟨sc, c1, -, c2⟩ := id hI.2.1
    obtain ⟨tm, t1, t2⟩ := hI.1.2.2
    have n8 : nn (σ 1 0 8) = sc := by rw [c2]; exact nnI (by omega)
    have ok := eOKd hx hI (by omega) hh hd
    have up := (kAction_8 (σ := σ) (n := h)).le hI
    have h43 := hd.2.2.1
    have v0 := (hI.2.2.2.2.2.1 h (by omega)).1
    unfold kSteps gLoop
    rw [if_pos h43]
    rcases eStep hx htc hy c1 c2 (by omega) t1 t2 (vp_lt v0) hd with ⟨y1, y2⟩ | ⟨y1, ⟨k2, w1, w2, w3⟩, z', g1, g2, g3, g4, g5, g6, g7⟩
    · rw [if_pos y1, gLoop_stop _ _ y2.n0]
      exact ⟨y2, fun _ => ⟨ok, gGood_stop _ _ y2.n0⟩, up⟩
    · rw [if_neg (by rw [y1]; decide)]
      have ek : k2 = k := nI_inj (w1.symm.trans h2) (by omega) (by omega)
      subst ek
      have hI' := hI.action (n := h) (by omega) (by omega)
      obtain ⟨a1, a2, a3⟩ := eLoop htc f (B + 1) (kAction σ h).2 (gStep τ h) z' k2 f' hI' (by omega) (by omega) g2 g3 g4 (by rw [g7, g5]; exact h2) hk (by omega) (by omega)
      exact ⟨a1, fun _ => ⟨ok, a2⟩, by omega⟩
theorem eRes.turn {h : Nat} (r : eRes tc wc h (kSteps h 11 σ) τ) : eX tc wc (kTurn σ h) τ ∧ (∀ n, n < nn ((kTurn σ h) 1 0 8) → eW (kTurn σ h) τ n) ∧ (kTurn σ h) 1 = (kSteps h 11 σ) 1 := by
  unfold kTurn
  rcases r with ⟨y1, y2, y3, y4⟩ | ⟨y1, y2, y3, y4, y5⟩
  · rw [if_pos (by rw [y1]; decide)]
    refine ⟨y2, fun n hn => ?_, kTell_1⟩
    by_cases e : n = h
    · subst e
      intro q
      rw [kTell_4, y1] at q
      exact absurd q (by decide)
    · exact y3 n hn e
  · rw [if_neg (fun q => q y1)]
    refine ⟨y2, fun n hn => ?_, rfl⟩
    by_cases e : n = h
    · subst e; exact y4
    · exact y3 n hn e
theorem eTurn (htc : tc ≤ 12) {B : Nat} (hI : kInv tc wc B σ) (hB : B + 20 < 2000000000) {h : Nat} (hh : h < nn (σ 1 0 8)) (hx : eX tc wc σ τ) (hW : ∀ n, n < nn (σ 1 0 8) → eW σ τ n) (h8 : σ 4 h 8 = 0) :
    eX tc wc (kTurn σ h) (gTurn τ h) ∧ (∀ n, n < nn ((kTurn σ h) 1 0 8) → eW (kTurn σ h) (gTurn τ h) n) ∧ gOKT τ h ∧ nn (σ 1 0 8) ≤ nn ((kTurn σ h) 1 0 8) := by
  obtain ⟨sc, c1, -, c2⟩ := id hI.2.1
  obtain ⟨tm, t1, t2⟩ := hI.1.2.2
  have n8 : nn (σ 1 0 8) = sc := by rw [c2]; exact nnI (by omega)
  have hy : eY h σ τ := fun n hn _ => hW n hn
  obtain ⟨s1, s2, -⟩ := hx.2.2.2.2 h hh
  obtain ⟨v0, v1, -, -⟩ := hI.2.2.2.2.2.1 h (by omega)
  obtain ⟨k, hp, -⟩ := hx.2.1.2.1 _ (vp_lt v0)
  have hk := hp.1
  have key : eRes tc wc h (kSteps h 11 σ) (gTurn τ h) ∧ gGood h 12 (gTurn0 τ h) ∧ nn (σ 1 0 8) ≤ nn ((kSteps h 11 σ) 1 0 8) ∧ (¬ τ 43 0 h = 0 → ¬ τ 43 0 h = 1 → ¬ τ 45 0 h = 0 → ∃ z, z < 10 ∧ τ 42 0 h = nI (z + 1) ∧ ∃ c0, c0 < 10 ∧ τ 41 0 h = nI c0) := by
    unfold gTurn
    rcases hW h hh h8 with ⟨a1, a2, a3, a4⟩ | ⟨a1, k', z, b1, b2, b3, b4, b5, b6⟩
    · have e0 : gTurn0 τ h = τ := by
        unfold gTurn0
        rw [a3, if_neg (fun q => q.1 rfl), if_neg]
        intro q
        rcases q with q | q
        · exact absurd q.1 (by decide)
        · exact absurd q.1 (by decide)
      rw [e0]
      have hd : eD h 0 σ τ := ⟨h8, a1, a3, by omega, a2, k, hk, hp.2.1, by rw [a4]; split; rfl; rw [show k = 0 by omega]; rfl⟩
      obtain ⟨d1, d2, d3⟩ := eLoop htc 11 B σ τ 0 k 12 hI (by omega) hh hx hy hd hp.2.1 hk (by omega) (by omega)
      exact ⟨d1, d2, d3, fun q => absurd a3 q⟩
    · have up := (kAction_8 (σ := σ) (n := h)).le hI
      refine (fun (y : eRes tc wc h (kSteps h 11 σ) (gLoop h 12 (gTurn0 τ h)) ∧ gGood h 12 (gTurn0 τ h) ∧ nn (σ 1 0 8) ≤ nn ((kSteps h 11 σ) 1 0 8)) => ⟨y.1, y.2.1, y.2.2, fun _ _ _ => ⟨z, by omega, b5, nn (σ 4 h 0), vp_lt v0, by rw [← s1.1]; exact vp_nI v0 (by decide)⟩⟩) ?_
      show eRes tc wc h (if (kAction σ h).1 = 0 then (kAction σ h).2 else kSteps h 10 (kAction σ h).2) _ ∧ _ ∧ _ ≤ nn ((if (kAction σ h).1 = 0 then (kAction σ h).2 else kSteps h 10 (kAction σ h).2) 1 0 8)
      rcases eAwake hx htc hy c1 c2 (by omega) t1 t2 (vp_lt v0) h8 a1 (hW h hh) with ⟨y1, y2⟩ | ⟨y1, z0, k2, w1, w2, w3, z', g1, g2, g3, g4, g5, g6, g7⟩
      · rw [if_pos y1, gLoop_stop _ _ y2.n0]
        exact ⟨y2, gGood_stop _ _ y2.n0, up⟩
      · rw [if_neg (by rw [y1]; decide)]
        have hI' := hI.action (n := h) (by omega) (by omega)
        obtain ⟨d1, d2, d3⟩ := eLoop htc 10 (B + 1) (kAction σ h).2 (gTurn0 τ h) z' k2 12 hI' (by omega) (by omega) g2 g3 g4 (by rw [g7, g5]; exact w1) w2 (by omega) (by omega)
        exact ⟨d1, d2, by omega⟩
  obtain ⟨k1, k2, k3, k4⟩ := key
  obtain ⟨r1, r2, r3⟩ := k1.turn
  refine ⟨r1, r2, ⟨?_, ?_, ⟨sc, by omega, by rw [← hx.1.2.1.2.2.2.2.2]; exact c2⟩, k4, k2⟩, by rw [r3]; exact k3⟩
  · rw [← hx.1.2.1.2.2.1]; exact hI.nlog (by decide) (by omega)
  · rw [← s1.2.1]; exact v1
theorem eTurns (htc : tc ≤ 12) {B : Nat} (hI : kInv tc wc B σ) (hB : B + 700 < 2000000000) (hx : eX tc wc σ τ) (hW : ∀ n, n < nn (σ 1 0 8) → eW σ τ n) : ∀ k, k ≤ nn (σ 1 0 8) →
    eX tc wc (kTurns σ k) (gTurns τ k) ∧ (∀ n, n < nn ((kTurns σ k) 1 0 8) → eW (kTurns σ k) (gTurns τ k) n) ∧ nn (σ 1 0 8) ≤ nn ((kTurns σ k) 1 0 8) ∧ (∀ h, h < k → ¬ (gTurns τ h) 43 0 h = 5 → gOKT (gTurns τ h) h)
  | 0, _ => ⟨hx, hW, Nat.le_refl _, fun h hh => absurd hh (by omega)⟩
  | k + 1, hk => by
    obtain ⟨a1, a2, a3, a4⟩ := eTurns htc hI hB hx hW k (by omega)
    obtain ⟨sc, c1, -, c2⟩ := id hI.2.1
    have n8 : nn (σ 1 0 8) = sc := by rw [c2]; exact nnI (by omega)
    have hI' := kInv.turns k (by omega) hI (by omega)
    obtain ⟨-, s2, -⟩ := a1.2.2.2.2 k (by omega)
    have ek : kTurns σ (k + 1) = if (kTurns σ k) 4 k 8 = 0 then kTurn (kTurns σ k) k else kTurns σ k := rfl
    have eg : gTurns τ (k + 1) = if (gTurns τ k) 43 0 k = 5 then gTurns τ k else gTurn (gTurns τ k) k := rfl
    rw [ek, eg]
    rcases s2 with y | y
    · rw [if_pos y.1, if_neg y.2]
      obtain ⟨b1, b2, b3, b4⟩ := eTurn htc hI' (by omega) (by omega) a1 a2 y.1
      refine ⟨b1, b2, by omega, fun h hh hq => ?_⟩
      by_cases e : h = k
      · subst e; exact b3
      · exact a4 h (by omega) hq
    · rw [if_neg (by rw [y.1]; decide), if_pos y.2]
      refine ⟨a1, a2, a3, fun h hh hq => ?_⟩
      by_cases e : h = k
      · subst e; exact absurd y.2 hq
      · exact a4 h (by omega) hq
end E7
