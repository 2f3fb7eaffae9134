/-! THE CLASS'S INVARIANT IN A RUN -/
/-- how many of the first n trials have begun -/
def kNb (σ : ty_St) : Nat → Nat
  | 0 => 0
  | n + 1 => kNb σ n + if σ 3 n 6 = -1 then 0 else 1
theorem kNb_congr {σ τ : ty_St} (h : ∀ t, σ 3 t 6 = τ 3 t 6) : ∀ n, kNb σ n = kNb τ n
  | 0 => rfl
  | n + 1 => by unfold kNb; rw [kNb_congr h n, h n]
theorem kNb_le {σ : ty_St} : ∀ n, kNb σ n ≤ n
  | 0 => Nat.le_refl _
  | n + 1 => by
    have := kNb_le (σ := σ) n
    unfold kNb
    split <;> omega
theorem kNb_lt {σ : ty_St} {t : Nat} (ht : σ 3 t 6 = -1) : ∀ n, t < n → kNb σ n < n
  | 0, h => absurd h (by omega)
  | n + 1, h => by
    unfold kNb
    by_cases e : t = n
    · subst e
      have := kNb_le (σ := σ) t
      rw [if_pos ht]; omega
    · have := kNb_lt ht n (by omega)
      split <;> omega
theorem kNb_up {σ τ : ty_St} {t : Nat} (h : ∀ u, ¬ u = t → τ 3 u 6 = σ 3 u 6) (h0 : σ 3 t 6 = -1) (h1 : ¬ τ 3 t 6 = -1) : ∀ n, (t < n → kNb τ n = kNb σ n + 1) ∧ (n ≤ t → kNb τ n = kNb σ n)
  | 0 => ⟨fun q => absurd q (by omega), fun _ => rfl⟩
  | n + 1 => by
    have ih := kNb_up h h0 h1 n
    unfold kNb
    refine ⟨fun q => ?_, fun q => ?_⟩
    · by_cases e : t = n
      · subst e
        rw [ih.2 (Nat.le_refl _), if_neg h1, if_pos h0]
      · rw [ih.1 (by omega), h n (fun q => e q.symm)]; omega
    · rw [ih.2 (by omega), h n (by omega)]
def kInv (tc wc B : Nat) (σ : ty_St) : Prop :=
  (σ 1 0 6 = nI tc ∧ σ 1 0 7 = nI wc ∧ ∃ tm, tm ≤ 150 ∧ σ 1 0 11 = nI tm) ∧
  (∃ sc, sc ≤ 52 ∧ sc ≤ 40 + kNb σ 12 ∧ σ 1 0 8 = nI sc) ∧
  (∀ q, q < 10 → ∃ k, k ≤ 10 ∧ σ 2 q 3 = nI k) ∧
  (∀ q j, q < 10 → j < 10 → (σ 6 q j = 5 → vp_in (σ 7 q j) 10) ∧ ∃ k, k ≤ 20 ∧ σ 8 q j = nI k) ∧
  (∀ t, t < 12 → vp_in (σ 3 t 0) 10 ∧ (¬ σ 3 t 6 = -1 → vp_in (σ 3 t 11) 52)) ∧
  (∀ n, n < 52 → vp_in (σ 4 n 0) 10 ∧ vp_in (σ 4 n 1) 12 ∧ (∃ z, z ≤ 20 ∧ σ 4 n 3 = nI z) ∧ (σ 4 n 6 = 0 ∨ σ 4 n 6 = 1)) ∧
  (∀ w, w < 4 → ¬ σ 10 0 w = -1 → vp_in (σ 10 0 w) 12 ∧ ¬ σ 3 (nn (σ 10 0 w)) 6 = -1) ∧
  (∀ i, i < 2 → ∃ k, k ≤ B ∧ σ 5 i 1 = nI k)
section KINV
variable {tc wc B : Nat} {σ : ty_St}
theorem kInv.mono {B' : Nat} (h : kInv tc wc B σ) (hB : B ≤ B') : kInv tc wc B' σ := by
  obtain ⟨h1, h2, h3, h4, h5, h6, h7, h8⟩ := h
  exact ⟨h1, h2, h3, h4, h5, h6, h7, fun i hi => by obtain ⟨k, hk, e⟩ := h8 i hi; exact ⟨k, by omega, e⟩⟩
theorem kInv.up4 (h : kInv tc wc B σ) {n j : Nat} {x : Int32} (h0 : j = 0 → vp_in x 10) (hj1 : j = 1 → vp_in x 12) (hj3 : j = 3 → ∃ z, z ≤ 20 ∧ x = nI z) (hj6 : j = 6 → x = 0 ∨ x = 1) : kInv tc wc B (ty_up σ 4 n j x) := by
  obtain ⟨h1, h2, h3, h4, h5, h6, h7, h8⟩ := h
  refine ⟨h1, h2, h3, h4, h5, fun m hm => ?_, h7, h8⟩
  have g := h6 m hm
  by_cases e : m = n
  · subst e
    have key : ∀ k, ty_up σ 4 m j x 4 m k = if k = j then x else σ 4 m k := fun k => by
      by_cases ek : k = j
      · subst ek; rw [up_ss, if_pos rfl]
      · rw [up_sj ek, if_neg ek]
    rw [key 0, key 1, key 3, key 6]
    refine ⟨?_, ?_, ?_, ?_⟩
    · split
      · rename_i q; exact h0 q.symm
      · exact g.1
    · split
      · rename_i q; exact hj1 q.symm
      · exact g.2.1
    · split
      · rename_i q; exact hj3 q.symm
      · exact g.2.2.1
    · split
      · rename_i q; exact hj6 q.symm
      · exact g.2.2.2
  · rw [up_i e]; exact g
theorem kInv.up4' (h : kInv tc wc B σ) {n j : Nat} {x : Int32} (h0 : ¬ j = 0) (hj1 : ¬ j = 1) (hj3 : ¬ j = 3) (hj6 : ¬ j = 6) : kInv tc wc B (ty_up σ 4 n j x) :=
  h.up4 (fun q => absurd q h0) (fun q => absurd q hj1) (fun q => absurd q hj3) (fun q => absurd q hj6)
theorem kInv.up3 (h : kInv tc wc B σ) {t j : Nat} {x : Int32} (h0 : ¬ j = 0) (hj6 : ¬ j = 6) (hj11 : ¬ j = 11) : kInv tc wc B (ty_up σ 3 t j x) := by
  obtain ⟨h1, h2, h3, h4, h5, h6, h7, h8⟩ := h
  have key : ∀ u k, ¬ k = j → ty_up σ 3 t j x 3 u k = σ 3 u k := fun u k hk => by
    by_cases e : u = t
    · subst e; exact up_sj hk
    · rw [up_i e]
  refine ⟨h1, by rw [kNb_congr (fun u => key u 6 (Ne.symm hj6))]; exact h2, h3, h4, fun u hu => ?_, h6, fun w hw hq => ?_, h8⟩
  · rw [key u 0 (Ne.symm h0), key u 6 (Ne.symm hj6), key u 11 (Ne.symm hj11)]; exact h5 u hu
  · have e : (ty_up σ 3 t j x) 10 0 w = σ 10 0 w := rfl
    rw [e] at hq ⊢
    rw [key _ 6 (Ne.symm hj6)]
    exact h7 w hw hq
theorem kInv.up1 (h : kInv tc wc B σ) {j : Nat} {x : Int32} (h0 : ¬ j = 6) (hj6 : ¬ j = 7) (hj8 : ¬ j = 8) (hj11 : ¬ j = 11) : kInv tc wc B (ty_up σ 1 0 j x) := by
  obtain ⟨h1, h2, h3, h4, h5, h6, h7, h8⟩ := h
  have key : ∀ k, ¬ k = j → ty_up σ 1 0 j x 1 0 k = σ 1 0 k := fun k hk => up_sj hk
  exact ⟨by rw [key 6 (Ne.symm h0), key 7 (Ne.symm hj6), key 11 (Ne.symm hj11)]; exact h1, by rw [key 8 (Ne.symm hj8)]; exact h2, h3, h4, h5, h6, h7, h8⟩
theorem kInv.up10 (h : kInv tc wc B σ) {w : Nat} : kInv tc wc B (ty_up σ 10 0 w (-1)) := by
  obtain ⟨h1, h2, h3, h4, h5, h6, h7, h8⟩ := h
  refine ⟨h1, h2, h3, h4, h5, h6, fun v hv hq => ?_, h8⟩
  by_cases e : v = w
  · subst e; rw [up_ss] at hq; exact absurd rfl hq
  · rw [up_sj e] at hq ⊢
    exact h7 v hv hq
theorem kInv.up9 (h : kInv tc wc B σ) {i j : Nat} {x : Int32} : kInv tc wc B (ty_up σ 9 i j x) := h
theorem kInv.log (h : kInv tc wc B σ) {i : Nat} (hi : i < 2) (hB : B < 2000000000) (x : Int32) : kInv tc wc (B + 1) (kLog σ i x) := by
  have aux : ∀ τ : ty_St, kInv tc wc B τ → kInv tc wc (B + 1) (ty_up τ 5 i 1 (τ 5 i 1 + 1)) := by
    intro τ g
    obtain ⟨h1, h2, h3, h4, h5, h6, h7, h8⟩ := g
    refine ⟨h1, h2, h3, h4, h5, h6, h7, fun k hk => ?_⟩
    by_cases e : k = i
    · subst e
      obtain ⟨z, hz, ez⟩ := h8 k hk
      exact ⟨z + 1, by omega, by rw [up_ss, ez, nI_1]⟩
    · rw [up_i e]
      obtain ⟨z, hz, ez⟩ := h8 k hk
      exact ⟨z, by omega, ez⟩
  unfold kLog
  dsimp only
  split
  · exact aux _ h.up9
  · exact aux _ h
theorem kInv.nlog (h : kInv tc wc B σ) {i : Nat} (hi : i < 2) (hB : B < 2000000000) : ¬ σ 5 i 1 < 0 := by
  obtain ⟨k, hk, e⟩ := h.2.2.2.2.2.2.2 i hi
  rw [e]; exact nI_pos (by omega)
theorem kInv.endS (h : kInv tc wc B σ) (n : Nat) (d : Int32) : kInv tc wc B (kEnd σ n d) := (h.up4' (by decide) (by decide) (by decide) (by decide)).up4' (by decide) (by decide) (by decide) (by decide)
theorem kInv.take (h : kInv tc wc B σ) (n : Nat) : kInv tc wc B (kTake σ n) := h.up4 (fun q => absurd q (by decide)) (fun q => absurd q (by decide)) (fun q => absurd q (by decide)) (fun _ => Or.inl rfl)
theorem kInv.startS (h : kInv tc wc B σ) {q t st : Int32} (hq : vp_in q 10) (ht : vp_in t 12) (hb : ∀ sc, sc ≤ 52 → σ 1 0 8 = nI sc → sc + 1 ≤ 40 + kNb σ 12) : kInv tc wc B (kStartS σ q t st) := by
  unfold kStartS
  split
  · rename_i hlt
    dsimp only
    have g : kInv tc wc B (kStart σ (nn (σ 1 0 8)) q t st) := by
      unfold kStart
      refine kInv.up4' ?_ (by decide) (by decide) (by decide) (by decide)
      refine kInv.up4' ?_ (by decide) (by decide) (by decide) (by decide)
      refine kInv.up4' ?_ (by decide) (by decide) (by decide) (by decide)
      refine kInv.up4 ?_ (fun q => absurd q (by decide)) (fun q => absurd q (by decide)) (fun q => absurd q (by decide)) (fun _ => Or.inl rfl)
      refine kInv.up4' ?_ (by decide) (by decide) (by decide) (by decide)
      refine kInv.up4' ?_ (by decide) (by decide) (by decide) (by decide)
      refine kInv.up4 ?_ (fun q => absurd q (by decide)) (fun q => absurd q (by decide)) (fun _ => ⟨0, by omega, rfl⟩) (fun q => absurd q (by decide))
      refine kInv.up4' ?_ (by decide) (by decide) (by decide) (by decide)
      refine kInv.up4 ?_ (fun q => absurd q (by decide)) (fun _ => ht) (fun q => absurd q (by decide)) (fun q => absurd q (by decide))
      exact h.up4 (fun _ => hq) (fun q => absurd q (by decide)) (fun q => absurd q (by decide)) (fun q => absurd q (by decide))
    refine kInv.up3 ?_ (by decide) (by decide) (by decide)
    obtain ⟨h1, ⟨sc, hsc, hsb, e8⟩, h3, h4, h5, h6, h7, h8⟩ := g
    refine ⟨?_, ⟨sc + 1, ?_, hb sc hsc e8, ?_⟩, h3, h4, h5, h6, h7, h8⟩
    · rw [up_sj (by decide), up_sj (by decide), up_sj (by decide)]; exact h1
    · have e9 : σ 1 0 8 = nI sc := e8
      rw [e9] at hlt
      have := (nI_ltI (b := 52) (by omega) (by decide)).mp hlt
      omega
    · rw [up_ss, e8, nI_1]
  · exact h
theorem kInv.mark (h : kInv tc wc B σ) (n : Nat) : ∀ k, kInv tc wc B (kMark σ n k)
  | 0 => h
  | k + 1 => by
    unfold kMark
    split
    · exact (kInv.mark h n k).up4 (fun q => absurd q (by decide)) (fun q => absurd q (by decide)) (fun q => absurd q (by decide)) (fun _ => Or.inr rfl)
    · exact kInv.mark h n k
theorem kEga_in {g : Nat → Int32} {z : Int32} : ∀ n, kEga g z n = -1 ∨ ∃ j, j < n ∧ kEga g z n = g j
  | 0 => Or.inl rfl
  | n + 1 => by
    unfold kEga
    split
    · exact Or.inr ⟨n, by omega, rfl⟩
    · rcases kEga_in (g := g) (z := z) n with q | ⟨j, hj, e⟩
      · exact Or.inl q
      · exact Or.inr ⟨j, by omega, e⟩
theorem kInv.interrupt (h : kInv tc wc B σ) {n z : Nat} (hn : n < 52) (hz : z ≤ 10) (hat : σ 4 n 3 = nI z) : kInv tc wc B (kInterrupt σ n).2 := by
  unfold kInterrupt
  dsimp only
  have g : kInv tc wc B (ty_up σ 4 n 4 0) := h.up4' (by decide) (by decide) (by decide) (by decide)
  have e3 : (ty_up σ 4 n 4 0) 4 n 3 = nI z := (up_sj (by decide)).trans hat
  split
  · exact g.endS n 100
  · rename_i hb
    refine g.up4 (fun q => absurd q (by decide)) (fun q => absurd q (by decide)) (fun _ => ?_) (fun q => absurd q (by decide))
    rcases kEga_in (g := (ty_up σ 4 n 4 0) 8 (nn ((ty_up σ 4 n 4 0) 4 n 0))) (z := (ty_up σ 4 n 4 0) 4 n 3) (nn ((ty_up σ 4 n 4 0) 4 n 3)) with q | ⟨j, hj, e⟩
    · exact absurd q hb
    · rw [e]
      rw [e3, show nn (nI z) = z from nI_clamp (by omega)] at hj
      have hq : nn ((ty_up σ 4 n 4 0) 4 n 0) < 10 := vp_lt (g.2.2.2.2.2.1 n hn).1
      exact (g.2.2.2.1 _ j hq (by omega)).2
theorem kInv.wait0 (h : kInv tc wc B σ) (n : Nat) (a : Int32) : kInv tc wc B (kWait0 σ n a) := by
  unfold kWait0
  split
  · exact (h.up4' (by decide) (by decide) (by decide) (by decide)).up4' (by decide) (by decide) (by decide) (by decide)
  · exact h
theorem kInv.at1 (h : kInv tc wc B σ) {n z : Nat} (hz : z < 20) (hat : σ 4 n 3 = nI z) : kInv tc wc B (kAt σ n) :=
  h.up4 (fun q => absurd q (by decide)) (fun q => absurd q (by decide)) (fun _ => ⟨z + 1, by omega, by rw [hat, nI_1]⟩) (fun q => absurd q (by decide))
theorem kWait0_3 {n : Nat} {a : Int32} {j : Nat} (h4 : ¬ j = 4) (h5 : ¬ j = 5) : (kWait0 σ n a) 4 n j = σ 4 n j := by
  unfold kWait0
  split
  · rw [up_sj h5, up_sj h4]
  · rfl
theorem kInv.wait1 (h : kInv tc wc B σ) {n z : Nat} (hz : z < 20) (hat : σ 4 n 3 = nI z) (op : Int32) : kInv tc wc B (kWait1 σ n op).2 := by
  unfold kWait1
  split
  · exact (h.up4' (by decide) (by decide) (by decide) (by decide)).at1 hz ((up_sj (by decide)).trans hat)
  · exact h
theorem kInv.wait (h : kInv tc wc B σ) {n z : Nat} (hn : n < 52) (hz : z < 10) (hat : σ 4 n 3 = nI z) (op a : Int32) : kInv tc wc B (kWait σ n op a).2 := by
  have g := h.wait0 n a
  have e3 : (kWait0 σ n a) 4 n 3 = nI z := (kWait0_3 (by decide) (by decide)).trans hat
  have e3' : (kTake (kWait0 σ n a) n) 4 n 3 = nI z := (up_sj (by decide)).trans e3
  unfold kWait
  split
  · exact g.wait1 (by omega) e3 op
  · split
    · exact (g.take n).interrupt hn (by omega) e3'
    · exact (g.take n).wait1 (by omega) e3' op
theorem kInv.atOnce (h : kInv tc wc B σ) {n : Nat} (hn : n < 52) (hB : B < 2000000000) (op a : Int32) (ha : op = 5 → vp_in a 10) : kInv tc wc (B + 1) (kAtOnce σ n op a) := by
  unfold kAtOnce
  split
  · rename_i q
    split
    · rename_i q40
      refine (h.startS (ha q) (h.2.2.2.2.2.1 n hn).2.1 (fun sc hsc e => ?_)).mono (by omega)
      rw [e] at q40
      have := (nI_ltI (b := 40) (by omega) (by decide)).mp q40
      omega
    · exact h.mono (by omega)
  · split
    · exact h.log (by decide) hB _
    · split
      · exact (h.take n).log (by decide) hB _
      · split
        · exact (h.up4' (by decide) (by decide) (by decide) (by decide)).mono (by omega)
        · split
          · exact (h.mark n _).mono (by omega)
          · exact h.mono (by omega)
end KINV
