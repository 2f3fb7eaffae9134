theorem s0_z {a i j : Nat} (h0 : ¬ a = 0) (h3 : ¬ a = 3) (h20 : ¬ a = 20) : s0 a i j = 0 := by
  unfold s0
  rw [if_neg (fun q => h0 q.1), if_neg (fun q => h3 q.1), if_neg (fun q => h20 q.1)]
theorem vp_in0 {n : Nat} (h : 0 < n) : vp_in 0 n := by
  intro q
  rcases q with q | q
  · exact absurd q (by decide)
  · have e : (0 : Int32).toNatClampNeg = 0 := by decide
    omega
theorem eI0 : eI 0 1 s0 s0 := by
  refine ⟨⟨rfl, rfl, by decide, by decide⟩, ⟨rfl, rfl, rfl, rfl, rfl, ⟨0, by decide, rfl⟩, ⟨0, by decide, rfl⟩⟩, ⟨fun j _ => rfl, fun j _ => rfl⟩, ⟨0, Nat.le_refl _, rfl, rfl⟩, ⟨⟨rfl, rfl⟩, ?_, ?_⟩, ?_, ?_⟩
  · intro q hq
    exact ⟨0, by decide, rfl, rfl, fun j hj => absurd hj (Nat.not_lt_zero _), fun j hj => absurd hj (Nat.not_lt_zero _)⟩
  · intro t _ ht
    exact ⟨rfl, rfl, rfl, rfl, rfl, rfl, rfl, rfl⟩
  · intro t ht
    exact absurd ht (Nat.not_lt_zero _)
  · refine ⟨fun q _ => ⟨0, by decide, rfl⟩, fun q j _ _ => ⟨fun h => ?_, ⟨0, by decide, rfl⟩⟩, fun t _ => ⟨vp_in0 (by decide), fun h => absurd rfl h⟩, fun n _ => ⟨vp_in0 (by decide), vp_in0 (by decide), ⟨0, by decide, rfl⟩, Or.inl rfl⟩⟩
    rw [s0_z (by decide) (by decide) (by decide)] at h
    exact absurd h (by decide)
