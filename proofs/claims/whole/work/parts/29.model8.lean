def gE (σ : ty_St) (e : Int32) : ty_St := ty_up (ty_up σ 20 0 0 0) 20 0 0 e
def gFits (op a : Int32) : Int32 := if op < 2 then kIn a 1 20 else if op = 3 ∨ op = 6 then kIn a 0 99 else if op = 4 ∨ op = 5 then kIn a 0 9 else 1
theorem kIn_01 (x lo hi : Int32) : kIn x lo hi = 0 ∨ kIn x lo hi = 1 := by unfold kIn; split <;> simp
theorem kIn_z (x lo hi : Int32) : narrow .boolean (.int (kIn x lo hi)) = .int (kIn x lo hi) := by rcases kIn_01 x lo hi with h | h <;> rw [h] <;> rfl
theorem kIn_n1 {x lo hi : Int32} (h : ¬ kIn x lo hi = 0) : kIn x lo hi = 1 := (kIn_01 x lo hi).resolve_left h
theorem kIn_vp {x : Int32} {n : Nat} (hn : n < 1000000) (h : ¬ kIn x 0 (nI n) = 0) : ∃ j, j ≤ n ∧ x = nI j := by
  unfold kIn at h
  split at h
  · rename_i q
    obtain ⟨j, hj, e⟩ := nI_of (Int32.not_lt.mpr q.1)
    refine ⟨j, ?_, e⟩
    have := q.2
    rw [e] at this
    exact (nI_leI hj (by omega)).mp this
  · exact absurd rfl h
def gAddA (σ : ty_St) (q : Nat) (op a : Int32) : ty_St := ty_up (ty_up (ty_up (ty_up σ 20 0 0 0) 21 0 (10 * q + nn (σ 23 0 q)) op) 22 0 (10 * q + nn (σ 23 0 q)) a) 23 0 q (σ 23 0 q + 1)
set_option maxRecDepth 100000 in
set_option maxHeartbeats 4000000 in
theorem m_fails (l : Launch) {D : va_G} {ad : Nat → Nat → Nat} {cA : Nat → ClassId} (hJ : ty_J cnM ad) (σ : ty_St) (he : σ 20 0 0 = 0) (b why : Int32) (hw : ¬ why = 0) : ty_M l y_Model_fails (Cond.code y_Model_fails b_Model_fails 3 (some .boolean) :: ty_w) (rmL 0) cnM D ad cA [.inr (20, 0), .inl b, .inl why] σ (fun r σ' => r = some (.inl (if b = 0 then 0 else 1)) ∧ σ' = if b = 0 then σ else ty_up σ 20 0 0 why) := by
  refine ty_M.of rfl hJ layM (ty_oks.cons (show (0 : Nat) < cnM 20 by decide) (ty_oks.cons trivial (ty_oks.cons trivial ty_oks.nil))) (Nat.le_of_ble_eq_true rfl) ?_
  intro p e s m args below meth c C hr hnm
  refine v_iload_n (pc := 0) C d_Model_fails_0 rfl rfl ?_
  refine v_if_eq (pc := 1) (tgt := 16) C d_Model_fails_1 (by decide) (fun h1 => ?_) (fun h1 => ?_)
  · refine v_aload_n (pc := 16) C d_Model_fails_16 rfl rfl ?_
    refine gf_Model_99 (pc := 17) C d_Model_fails_17 ?_
    refine v_if_eq (pc := 20) (tgt := 27) C d_Model_fails_20 (by decide) (fun h20 => ?_) (fun h20 => ?_)
    · refine v_iconst (pc := 27) (v := 0) C d_Model_fails_27 (by decide) ?_
      exact v_zreturn (pc := 28) C hr rfl ⟨by rw [if_pos h1], by rw [if_pos h1]⟩ d_Model_fails_28
    · exact absurd he h20
  · refine v_aload_n (pc := 4) C d_Model_fails_4 rfl rfl ?_
    refine gf_Model_99 (pc := 5) C d_Model_fails_5 ?_
    refine v_if_ne (pc := 8) (tgt := 16) C d_Model_fails_8 (by decide) (fun h8 => ?_) (fun h8 => ?_)
    · exact absurd he h8
    · refine v_aload_n (pc := 11) C d_Model_fails_11 rfl rfl ?_
      refine v_iload_n (pc := 12) C d_Model_fails_12 rfl rfl ?_
      refine pf_Model_99 (pc := 13) C d_Model_fails_13 ?_
      refine v_aload_n (pc := 16) C d_Model_fails_16 rfl rfl ?_
      refine gf_Model_99 (pc := 17) C d_Model_fails_17 ?_
      refine v_if_eq (pc := 20) (tgt := 27) C d_Model_fails_20 (by decide) (fun h20 => ?_) (fun h20 => ?_)
      · exact absurd (by rw [up_ss] at h20; exact h20) hw
      · refine v_iconst (pc := 23) (v := 1) C d_Model_fails_23 (by decide) ?_
        refine v_goto (pc := 24) (tgt := 28) C d_Model_fails_24 (by decide) ?_
        exact v_zreturn (pc := 28) C hr rfl ⟨by rw [if_neg h1], by rw [if_neg h1]⟩ d_Model_fails_28
set_option maxRecDepth 100000 in
set_option maxHeartbeats 4000000 in
theorem m_fits (l : Launch) {D : va_G} {ad : Nat → Nat → Nat} {cA : Nat → ClassId} (hJ : ty_J cnM ad) (σ : ty_St) (op a : Int32) : ty_M l y_Model_fits (Cond.code y_Model_fits b_Model_fits 2 (some .boolean) :: ty_w) (rmL 1) cnM D ad cA [.inl op, .inl a] σ (fun r σ' => r = some (.inl (gFits op a)) ∧ σ' = σ) := by
  refine ty_M.of rfl hJ layM (ty_oks.cons trivial (ty_oks.cons trivial ty_oks.nil)) (Nat.le_of_ble_eq_true rfl) ?_
  intro p e s m args below meth c C hr hnm
  refine v_iload_n (pc := 0) C d_Model_fits_0 rfl rfl ?_
  refine v_iconst (pc := 1) (v := 2) C d_Model_fits_1 (by decide) ?_
  refine v_icmp_ge (pc := 2) (tgt := 13) C d_Model_fits_2 (by decide) (fun h2 => ?_) (fun h2 => ?_)
  · refine v_iload_n (pc := 13) C d_Model_fits_13 rfl rfl ?_
    refine v_iconst (pc := 14) (v := 3) C d_Model_fits_14 (by decide) ?_
    refine v_icmp_eq (pc := 15) (tgt := 24) C d_Model_fits_15 (by decide) (fun h15 => ?_) (fun h15 => ?_)
    · refine v_iload_n (pc := 24) C d_Model_fits_24 rfl rfl ?_
      refine v_iconst (pc := 25) (v := 0) C d_Model_fits_25 (by decide) ?_
      refine v_bipush (pc := 26) (v := 99) C d_Model_fits_26 (by decide) ?_
      refine cl_Model_102 (pc := 28) C (m_in l hJ σ _ _ _) ⟨rfl, rfl, by decide, by decide⟩ rfl rfl (Nat.le_of_ble_eq_true rfl) d_Model_fits_28 (fun r σ' hq => ?_)
      rw [hq.1, hq.2]
      exact v_zreturn (pc := 31) C hr (kIn_z _ _ _) ⟨by unfold gFits; rw [if_neg (Int32.not_lt.mpr h2), if_pos (Or.inl h15)], rfl⟩ d_Model_fits_31
    · refine v_iload_n (pc := 18) C d_Model_fits_18 rfl rfl ?_
      refine v_bipush (pc := 19) (v := 6) C d_Model_fits_19 (by decide) ?_
      refine v_icmp_ne (pc := 21) (tgt := 32) C d_Model_fits_21 (by decide) (fun h21 => ?_) (fun h21 => ?_)
      · refine v_iload_n (pc := 32) C d_Model_fits_32 rfl rfl ?_
        refine v_iconst (pc := 33) (v := 4) C d_Model_fits_33 (by decide) ?_
        refine v_icmp_eq (pc := 34) (tgt := 42) C d_Model_fits_34 (by decide) (fun h34 => ?_) (fun h34 => ?_)
        · refine v_iload_n (pc := 42) C d_Model_fits_42 rfl rfl ?_
          refine v_iconst (pc := 43) (v := 0) C d_Model_fits_43 (by decide) ?_
          refine v_bipush (pc := 44) (v := 9) C d_Model_fits_44 (by decide) ?_
          refine cl_Model_102 (pc := 46) C (m_in l hJ σ _ _ _) ⟨rfl, rfl, by decide, by decide⟩ rfl rfl (Nat.le_of_ble_eq_true rfl) d_Model_fits_46 (fun r σ' hq => ?_)
          rw [hq.1, hq.2]
          refine v_if_eq (pc := 49) (tgt := 56) C d_Model_fits_49 (by decide) (fun h49 => ?_) (fun h49 => ?_)
          · refine v_iconst (pc := 56) (v := 0) C d_Model_fits_56 (by decide) ?_
            exact v_zreturn (pc := 57) C hr rfl ⟨by unfold gFits; rw [if_neg (Int32.not_lt.mpr h2), if_neg (by intro q; rcases q with q | q; exact h15 q; exact h21 q), if_pos (Or.inl h34), h49], rfl⟩ d_Model_fits_57
          · refine v_iconst (pc := 52) (v := 1) C d_Model_fits_52 (by decide) ?_
            refine v_goto (pc := 53) (tgt := 57) C d_Model_fits_53 (by decide) ?_
            exact v_zreturn (pc := 57) C hr rfl ⟨by unfold gFits; rw [if_neg (Int32.not_lt.mpr h2), if_neg (by intro q; rcases q with q | q; exact h15 q; exact h21 q), if_pos (Or.inl h34), kIn_n1 h49], rfl⟩ d_Model_fits_57
        · refine v_iload_n (pc := 37) C d_Model_fits_37 rfl rfl ?_
          refine v_iconst (pc := 38) (v := 5) C d_Model_fits_38 (by decide) ?_
          refine v_icmp_ne (pc := 39) (tgt := 52) C d_Model_fits_39 (by decide) (fun h39 => ?_) (fun h39 => ?_)
          · refine v_iconst (pc := 52) (v := 1) C d_Model_fits_52 (by decide) ?_
            refine v_goto (pc := 53) (tgt := 57) C d_Model_fits_53 (by decide) ?_
            exact v_zreturn (pc := 57) C hr rfl ⟨by unfold gFits; rw [if_neg (Int32.not_lt.mpr h2), if_neg (by intro q; rcases q with q | q; exact h15 q; exact h21 q), if_neg (by intro q; rcases q with q | q; exact h34 q; exact h39 q)], rfl⟩ d_Model_fits_57
          · refine v_iload_n (pc := 42) C d_Model_fits_42 rfl rfl ?_
            refine v_iconst (pc := 43) (v := 0) C d_Model_fits_43 (by decide) ?_
            refine v_bipush (pc := 44) (v := 9) C d_Model_fits_44 (by decide) ?_
            refine cl_Model_102 (pc := 46) C (m_in l hJ σ _ _ _) ⟨rfl, rfl, by decide, by decide⟩ rfl rfl (Nat.le_of_ble_eq_true rfl) d_Model_fits_46 (fun r σ' hq => ?_)
            rw [hq.1, hq.2]
            refine v_if_eq (pc := 49) (tgt := 56) C d_Model_fits_49 (by decide) (fun h49 => ?_) (fun h49 => ?_)
            · refine v_iconst (pc := 56) (v := 0) C d_Model_fits_56 (by decide) ?_
              exact v_zreturn (pc := 57) C hr rfl ⟨by unfold gFits; rw [if_neg (Int32.not_lt.mpr h2), if_neg (by intro q; rcases q with q | q; exact h15 q; exact h21 q), if_pos (Or.inr h39), h49], rfl⟩ d_Model_fits_57
            · refine v_iconst (pc := 52) (v := 1) C d_Model_fits_52 (by decide) ?_
              refine v_goto (pc := 53) (tgt := 57) C d_Model_fits_53 (by decide) ?_
              exact v_zreturn (pc := 57) C hr rfl ⟨by unfold gFits; rw [if_neg (Int32.not_lt.mpr h2), if_neg (by intro q; rcases q with q | q; exact h15 q; exact h21 q), if_pos (Or.inr h39), kIn_n1 h49], rfl⟩ d_Model_fits_57
      · refine v_iload_n (pc := 24) C d_Model_fits_24 rfl rfl ?_
        refine v_iconst (pc := 25) (v := 0) C d_Model_fits_25 (by decide) ?_
        refine v_bipush (pc := 26) (v := 99) C d_Model_fits_26 (by decide) ?_
        refine cl_Model_102 (pc := 28) C (m_in l hJ σ _ _ _) ⟨rfl, rfl, by decide, by decide⟩ rfl rfl (Nat.le_of_ble_eq_true rfl) d_Model_fits_28 (fun r σ' hq => ?_)
        rw [hq.1, hq.2]
        exact v_zreturn (pc := 31) C hr (kIn_z _ _ _) ⟨by unfold gFits; rw [if_neg (Int32.not_lt.mpr h2), if_pos (Or.inr h21)], rfl⟩ d_Model_fits_31
  · refine v_iload_n (pc := 5) C d_Model_fits_5 rfl rfl ?_
    refine v_iconst (pc := 6) (v := 1) C d_Model_fits_6 (by decide) ?_
    refine v_bipush (pc := 7) (v := 20) C d_Model_fits_7 (by decide) ?_
    refine cl_Model_102 (pc := 9) C (m_in l hJ σ _ _ _) ⟨rfl, rfl, by decide, by decide⟩ rfl rfl (Nat.le_of_ble_eq_true rfl) d_Model_fits_9 (fun r σ' hq => ?_)
    rw [hq.1, hq.2]
    exact v_zreturn (pc := 12) C hr (kIn_z _ _ _) ⟨by unfold gFits; rw [if_pos (Int32.not_le.mp h2)], rfl⟩ d_Model_fits_12
theorem gFits_01 (op a : Int32) : gFits op a = 0 ∨ gFits op a = 1 := by
  unfold gFits
  repeat' split
  all_goals first | exact kIn_01 _ _ _ | exact Or.inr rfl
theorem gFits_n1 {op a : Int32} (h : ¬ gFits op a = 0) : gFits op a = 1 := (gFits_01 op a).resolve_left h
set_option maxRecDepth 100000 in
set_option maxHeartbeats 4000000 in
theorem m_action (l : Launch) {D : va_G} {ad : Nat → Nat → Nat} {cA : Nat → ClassId} (hJ : ty_J cnM ad) (σ : ty_St) (hz : ∀ q, q < 10 → ∃ k, k ≤ 10 ∧ σ 23 0 q = nI k) (x op a : Int32) : ty_M l y_Model_action (Cond.code y_Model_action b_Model_action 4 (some .int) :: ty_w) (rmL 2) cnM D ad cA [.inr (20, 0), .inl x, .inl op, .inl a] σ (fun r σ' => (¬ (kIn x 0 9 = 1 ∧ kIn op 0 11 = 1 ∧ gFits op a = 1) ∧ r = some (.inl 0) ∧ σ' = gE σ 1) ∨ (¬ ¬ (kIn x 0 9 = 1 ∧ kIn op 0 11 = 1 ∧ gFits op a = 1) ∧ σ 23 0 (nn x) = 10 ∧ r = some (.inl 0) ∧ σ' = gE σ 2) ∨ (¬ ¬ (kIn x 0 9 = 1 ∧ kIn op 0 11 = 1 ∧ gFits op a = 1) ∧ ¬ σ 23 0 (nn x) = 10 ∧ r = some (.inl (σ 23 0 (nn x) + 1)) ∧ σ' = gAddA σ (nn x) op a)) := by
  refine ty_M.of rfl hJ layM (ty_oks.cons (show (0 : Nat) < cnM 20 by decide) (ty_oks.cons trivial (ty_oks.cons trivial (ty_oks.cons trivial ty_oks.nil)))) (Nat.le_of_ble_eq_true rfl) ?_
  intro p e s m args below meth c C hr hnm
  refine v_aload_n (pc := 0) C d_Model_action_0 rfl rfl ?_
  refine v_iconst (pc := 1) (v := 0) C d_Model_action_1 (by decide) ?_
  refine pf_Model_99 (pc := 2) C d_Model_action_2 ?_
  refine v_aload_n (pc := 5) C d_Model_action_5 rfl rfl ?_
  refine v_iload_n (pc := 6) C d_Model_action_6 rfl rfl ?_
  refine v_iconst (pc := 7) (v := 0) C d_Model_action_7 (by decide) ?_
  refine v_bipush (pc := 8) (v := 9) C d_Model_action_8 (by decide) ?_
  refine cl_Model_102 (pc := 10) C (m_in l hJ _ _ _ _) ⟨rfl, rfl, by decide, by decide⟩ rfl rfl (Nat.le_of_ble_eq_true rfl) d_Model_action_10 (fun r σ' hq => ?_)
  rw [hq.1, hq.2]
  refine v_if_eq (pc := 13) (tgt := 34) C d_Model_action_13 (by decide) (fun h13 => ?_) (fun h13 => ?_)
  · refine v_iconst (pc := 34) (v := 1) C d_Model_action_34 (by decide) ?_
    refine v_goto (pc := 35) (tgt := 39) C d_Model_action_35 (by decide) ?_
    refine v_iconst (pc := 39) (v := 1) C d_Model_action_39 (by decide) ?_
    refine cl_Model_110 (pc := 40) C (m_fails l hJ (ty_up σ 20 0 0 0) up_ss _ _ (by decide)) ⟨rfl, rfl, by decide, by decide⟩ rfl rfl (Nat.le_of_ble_eq_true rfl) d_Model_action_40 (fun r σ' hq => ?_)
    rw [hq.1, hq.2, if_neg (by decide), if_neg (by decide)]
    refine v_if_eq (pc := 43) (tgt := 48) C d_Model_action_43 (by decide) (fun h43 => ?_) (fun h43 => ?_)
    · exact absurd h43 (by decide)
    · refine v_iconst (pc := 46) (v := 0) C d_Model_action_46 (by decide) ?_
      exact v_ireturn (pc := 47) C hr (Or.inl ⟨fun q => absurd (h13.symm.trans q.1) (by decide), rfl, rfl⟩) d_Model_action_47
  · refine v_iload_n (pc := 16) C d_Model_action_16 rfl rfl ?_
    refine v_iconst (pc := 17) (v := 0) C d_Model_action_17 (by decide) ?_
    refine v_bipush (pc := 18) (v := 11) C d_Model_action_18 (by decide) ?_
    refine cl_Model_102 (pc := 20) C (m_in l hJ _ _ _ _) ⟨rfl, rfl, by decide, by decide⟩ rfl rfl (Nat.le_of_ble_eq_true rfl) d_Model_action_20 (fun r σ' hq => ?_)
    rw [hq.1, hq.2]
    refine v_if_eq (pc := 23) (tgt := 34) C d_Model_action_23 (by decide) (fun h23 => ?_) (fun h23 => ?_)
    · refine v_iconst (pc := 34) (v := 1) C d_Model_action_34 (by decide) ?_
      refine v_goto (pc := 35) (tgt := 39) C d_Model_action_35 (by decide) ?_
      refine v_iconst (pc := 39) (v := 1) C d_Model_action_39 (by decide) ?_
      refine cl_Model_110 (pc := 40) C (m_fails l hJ (ty_up σ 20 0 0 0) up_ss _ _ (by decide)) ⟨rfl, rfl, by decide, by decide⟩ rfl rfl (Nat.le_of_ble_eq_true rfl) d_Model_action_40 (fun r σ' hq => ?_)
      rw [hq.1, hq.2, if_neg (by decide), if_neg (by decide)]
      refine v_if_eq (pc := 43) (tgt := 48) C d_Model_action_43 (by decide) (fun h43 => ?_) (fun h43 => ?_)
      · exact absurd h43 (by decide)
      · refine v_iconst (pc := 46) (v := 0) C d_Model_action_46 (by decide) ?_
        exact v_ireturn (pc := 47) C hr (Or.inl ⟨fun q => absurd (h23.symm.trans q.2.1) (by decide), rfl, rfl⟩) d_Model_action_47
    · refine v_iload_n (pc := 26) C d_Model_action_26 rfl rfl ?_
      refine v_iload_n (pc := 27) C d_Model_action_27 rfl rfl ?_
      refine cl_Model_106 (pc := 28) C (m_fits l hJ _ _ _) ⟨rfl, rfl, by decide, by decide⟩ rfl rfl (Nat.le_of_ble_eq_true rfl) d_Model_action_28 (fun r σ' hq => ?_)
      rw [hq.1, hq.2]
      refine v_if_ne (pc := 31) (tgt := 38) C d_Model_action_31 (by decide) (fun h31 => ?_) (fun h31 => ?_)
      · refine v_iconst (pc := 38) (v := 0) C d_Model_action_38 (by decide) ?_
        refine v_iconst (pc := 39) (v := 1) C d_Model_action_39 (by decide) ?_
        refine cl_Model_110 (pc := 40) C (m_fails l hJ (ty_up σ 20 0 0 0) up_ss _ _ (by decide)) ⟨rfl, rfl, by decide, by decide⟩ rfl rfl (Nat.le_of_ble_eq_true rfl) d_Model_action_40 (fun r σ' hq => ?_)
        rw [hq.1, hq.2, if_pos rfl, if_pos rfl]
        refine v_if_eq (pc := 43) (tgt := 48) C d_Model_action_43 (by decide) (fun h43 => ?_) (fun h43 => ?_)
        · have h13' := kIn_n1 h13
          obtain ⟨q, hq9, hxq⟩ := kIn_vp (n := 9) (by decide) h13
          obtain ⟨z, hz10, hzq⟩ := hz q (by omega)
          have hqn : nn x = q := by rw [hxq]; exact nI_clamp (by omega)
          refine v_aload_n (pc := 48) C d_Model_action_48 rfl rfl ?_
          refine v_aload_n (pc := 49) C d_Model_action_49 rfl rfl ?_
          refine gf_Model_20 (pc := 50) C d_Model_action_50 ?_
          refine v_iload_n (pc := 53) C d_Model_action_53 rfl rfl ?_
          refine v_ialoadK (pc := 54) C rfl rfl (hxq) (by omega) (by decide) d_Model_action_54 ?_
          refine v_bipush (pc := 55) (v := 10) C d_Model_action_55 (by decide) ?_
          refine v_icmp_ne (pc := 57) (tgt := 64) C d_Model_action_57 (by decide) (fun h57 => ?_) (fun h57 => ?_)
          · refine v_iconst (pc := 64) (v := 0) C d_Model_action_64 (by decide) ?_
            refine v_iconst (pc := 65) (v := 2) C d_Model_action_65 (by decide) ?_
            refine cl_Model_110 (pc := 66) C (m_fails l hJ (ty_up σ 20 0 0 0) up_ss _ _ (by decide)) ⟨rfl, rfl, by decide, by decide⟩ rfl rfl (Nat.le_of_ble_eq_true rfl) d_Model_action_66 (fun r σ' hq => ?_)
            rw [hq.1, hq.2, if_pos rfl, if_pos rfl]
            refine v_if_eq (pc := 69) (tgt := 74) C d_Model_action_69 (by decide) (fun h69 => ?_) (fun h69 => ?_)
            · have hz9 : z < 10 := by
                have : ¬ z = 10 := fun e => h57 (by show σ 23 0 q = 10; rw [hzq, e]; rfl)
                omega
              have hzn : nn (σ 23 0 q) = z := by rw [hzq]; exact nI_clamp (by omega)
              refine v_aload_n (pc := 74) C d_Model_action_74 rfl rfl ?_
              refine gf_Model_13 (pc := 75) C d_Model_action_75 ?_
              refine v_bipush (pc := 78) (v := 10) C d_Model_action_78 (by decide) ?_
              refine v_iload_n (pc := 80) C d_Model_action_80 rfl rfl ?_
              refine v_imul (pc := 81) C d_Model_action_81 ?_
              refine v_aload_n (pc := 82) C d_Model_action_82 rfl rfl ?_
              refine gf_Model_20 (pc := 83) C d_Model_action_83 ?_
              refine v_iload_n (pc := 86) C d_Model_action_86 rfl rfl ?_
              refine v_ialoadK (pc := 87) C rfl rfl (hxq) (by omega) (by decide) d_Model_action_87 ?_
              refine v_iadd (pc := 88) C d_Model_action_88 ?_
              refine v_iload_n (pc := 89) C d_Model_action_89 rfl rfl ?_
              refine v_iastoreK (pc := 90) C rfl rfl ((show (10 : Int32) * x + σ 23 0 q = nI (10 * q + z) from by rw [hxq, hzq, i10]; exact nI_add _ _)) (by omega) (by decide) d_Model_action_90 ?_
              refine v_aload_n (pc := 91) C d_Model_action_91 rfl rfl ?_
              refine gf_Model_17 (pc := 92) C d_Model_action_92 ?_
              refine v_bipush (pc := 95) (v := 10) C d_Model_action_95 (by decide) ?_
              refine v_iload_n (pc := 97) C d_Model_action_97 rfl rfl ?_
              refine v_imul (pc := 98) C d_Model_action_98 ?_
              refine v_aload_n (pc := 99) C d_Model_action_99 rfl rfl ?_
              refine gf_Model_20 (pc := 100) C d_Model_action_100 ?_
              refine v_iload_n (pc := 103) C d_Model_action_103 rfl rfl ?_
              refine v_ialoadK (pc := 104) C rfl rfl (hxq) (by omega) (by decide) d_Model_action_104 ?_
              refine v_iadd (pc := 105) C d_Model_action_105 ?_
              refine v_iload_n (pc := 106) C d_Model_action_106 rfl rfl ?_
              refine v_iastoreK (pc := 107) C rfl rfl ((show (10 : Int32) * x + σ 23 0 q = nI (10 * q + z) from by rw [hxq, hzq, i10]; exact nI_add _ _)) (by omega) (by decide) d_Model_action_107 ?_
              refine v_aload_n (pc := 108) C d_Model_action_108 rfl rfl ?_
              refine gf_Model_20 (pc := 109) C d_Model_action_109 ?_
              refine v_iload_n (pc := 112) C d_Model_action_112 rfl rfl ?_
              refine v_dup2 (pc := 113) C d_Model_action_113 ?_
              refine v_ialoadK (pc := 114) C rfl rfl (hxq) (by omega) (by decide) d_Model_action_114 ?_
              refine v_iconst (pc := 115) (v := 1) C d_Model_action_115 (by decide) ?_
              refine v_iadd (pc := 116) C d_Model_action_116 ?_
              refine v_iastoreK (pc := 117) C rfl rfl (hxq) (by omega) (by decide) d_Model_action_117 ?_
              refine v_aload_n (pc := 118) C d_Model_action_118 rfl rfl ?_
              refine gf_Model_20 (pc := 119) C d_Model_action_119 ?_
              refine v_iload_n (pc := 122) C d_Model_action_122 rfl rfl ?_
              refine v_ialoadK (pc := 123) C rfl rfl (hxq) (by omega) (by decide) d_Model_action_123 ?_
              exact v_ireturn (pc := 124) C hr (Or.inr (Or.inr ⟨(fun q => q ⟨kIn_n1 h13, kIn_n1 h23, gFits_n1 h31⟩), by rw [hqn]; exact h57, by rw [hqn, up_ss]; rfl, by rw [hqn]; unfold gAddA; rw [hzn]; rfl⟩)) d_Model_action_124
            · exact absurd rfl h69
          · refine v_iconst (pc := 60) (v := 1) C d_Model_action_60 (by decide) ?_
            refine v_goto (pc := 61) (tgt := 65) C d_Model_action_61 (by decide) ?_
            refine v_iconst (pc := 65) (v := 2) C d_Model_action_65 (by decide) ?_
            refine cl_Model_110 (pc := 66) C (m_fails l hJ (ty_up σ 20 0 0 0) up_ss _ _ (by decide)) ⟨rfl, rfl, by decide, by decide⟩ rfl rfl (Nat.le_of_ble_eq_true rfl) d_Model_action_66 (fun r σ' hq => ?_)
            rw [hq.1, hq.2, if_neg (by decide), if_neg (by decide)]
            refine v_if_eq (pc := 69) (tgt := 74) C d_Model_action_69 (by decide) (fun h69 => ?_) (fun h69 => ?_)
            · exact absurd h69 (by decide)
            · refine v_iconst (pc := 72) (v := 0) C d_Model_action_72 (by decide) ?_
              exact v_ireturn (pc := 73) C hr (Or.inr (Or.inl ⟨(fun q => q ⟨kIn_n1 h13, kIn_n1 h23, gFits_n1 h31⟩), by rw [hqn]; exact h57, rfl, rfl⟩)) d_Model_action_73
        · exact absurd rfl h43
      · refine v_iconst (pc := 34) (v := 1) C d_Model_action_34 (by decide) ?_
        refine v_goto (pc := 35) (tgt := 39) C d_Model_action_35 (by decide) ?_
        refine v_iconst (pc := 39) (v := 1) C d_Model_action_39 (by decide) ?_
        refine cl_Model_110 (pc := 40) C (m_fails l hJ (ty_up σ 20 0 0 0) up_ss _ _ (by decide)) ⟨rfl, rfl, by decide, by decide⟩ rfl rfl (Nat.le_of_ble_eq_true rfl) d_Model_action_40 (fun r σ' hq => ?_)
        rw [hq.1, hq.2, if_neg (by decide), if_neg (by decide)]
        refine v_if_eq (pc := 43) (tgt := 48) C d_Model_action_43 (by decide) (fun h43 => ?_) (fun h43 => ?_)
        · exact absurd h43 (by decide)
        · refine v_iconst (pc := 46) (v := 0) C d_Model_action_46 (by decide) ?_
          exact v_ireturn (pc := 47) C hr (Or.inl ⟨fun q => absurd (h31.symm.trans q.2.2) (by decide), rfl, rfl⟩) d_Model_action_47
