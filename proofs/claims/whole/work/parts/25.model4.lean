/-- what a step of the thread h asks of the reference's ints -/
def gOK (τ : ty_St) (h : Nat) : Prop :=
  (∃ sc, sc ≤ 63 ∧ τ 20 0 8 = nI sc) ∧ ¬ τ 20 0 5 < 0 ∧ ¬ τ 20 0 4 < 0 ∧ vp_in (τ 39 0 h) 12 ∧ vp_in (τ 41 0 h) 10 ∧ (∃ z, z ≤ 10 ∧ τ 42 0 h = nI z) ∧ (∃ w, w ≤ 10 ∧ τ 23 0 (nn (τ 41 0 h)) = nI w)
/-- the thread's turn goes on at most k steps, and each of them is allowed -/
def gGood (h : Nat) : Nat → ty_St → Prop
  | 0, τ => ¬ τ 43 0 h = 0
  | k + 1, τ => τ 43 0 h = 0 → (gOK τ h ∧ gGood h k (gStep τ h))
theorem vp_nI {x : Int32} {n : Nat} (h : vp_in x n) (hn : n < 2 ^ 31) : x = nI (nn x) := by
  obtain ⟨j, hj, e⟩ := vp_in_of h hn
  rw [e, show nn (nI j) = j from nI_clamp (by omega)]
set_option maxRecDepth 100000 in
set_option maxHeartbeats 4000000 in
theorem m_turn (l : Launch) {D : va_G} {ad : Nat → Nat → Nat} {cA : Nat → ClassId} (hJ : ty_J cnM ad) (σ : ty_St) (h : Nat) (hh : h < 64) (hs : ¬ σ 20 0 5 < 0) (ht : vp_in (σ 39 0 h) 12) (sc : Nat) (hsc : sc ≤ 63) (hsc1 : σ 20 0 8 = nI sc) (hzw : ¬ σ 43 0 h = 0 → ¬ σ 43 0 h = 1 → ¬ σ 45 0 h = 0 → ∃ z, z < 10 ∧ σ 42 0 h = nI (z + 1) ∧ ∃ c0, c0 < 10 ∧ σ 41 0 h = nI c0) (hg : gGood h 12 (gTurn0 σ h)) : ty_M l y_Model_turn (Cond.code y_Model_turn b_Model_turn 3 none :: ty_w) (rmL 5) cnM D ad cA [.inr (20, 0), .inl (nI h)] σ (fun r σ' => r = none ∧ σ' = gTurn σ h) := by
  refine ty_M.of rfl hJ layM (ty_oks.cons (show (0 : Nat) < cnM 20 by decide) (ty_oks.cons trivial ty_oks.nil)) (Nat.le_of_ble_eq_true rfl) ?_
  intro p e s m args below meth c C hr hnm
  have hns : nn (σ 20 0 8) = sc := by rw [hsc1]; exact nI_clamp (by omega)
  have loop : ∀ (k : Nat) (τ : ty_St) (x : Int32), gGood h k τ → gTurn σ h = gLoop h k τ → ty_V cnM p l e (rmL 5) s m args below meth c D ad cA (ty_Gd cnM ad s) 3 (MQ below (ty_Q cnM D ad cA (fun r σ' => r = none ∧ σ' = gTurn σ h) (ty_A cnM ad)) args s 0 0 (ty_A cnM ad)) τ [some (.inr (20, 0)), some (.inl (nI h)), some (.inl x)] 84 [] := by
    intro k
    induction k with
    | zero =>
      intro τ x hg hk
      refine v_aload_n (pc := 84) C d_Model_turn_84 rfl rfl ?_
      refine gf_Model_81 (pc := 85) C d_Model_turn_85 ?_
      refine v_iload_n (pc := 88) C d_Model_turn_88 rfl rfl ?_
      refine v_ialoadK (pc := 89) C rfl rfl (rfl) (hh) (by decide) d_Model_turn_89 ?_
      refine v_if_ne (pc := 90) (tgt := 146) C d_Model_turn_90 (by decide) (fun h90 => ?_) (fun h90 => ?_)
      · exact v_return (pc := 146) C hr ⟨rfl, hk.symm⟩ d_Model_turn_146
      · exact absurd h90 hg
    | succ k ih =>
      intro τ x hg hk
      have hk1 : gLoop h (k + 1) τ = if τ 43 0 h = 0 then gLoop h k (gStep τ h) else τ := rfl
      refine v_aload_n (pc := 84) C d_Model_turn_84 rfl rfl ?_
      refine gf_Model_81 (pc := 85) C d_Model_turn_85 ?_
      refine v_iload_n (pc := 88) C d_Model_turn_88 rfl rfl ?_
      refine v_ialoadK (pc := 89) C rfl rfl (rfl) (hh) (by decide) d_Model_turn_89 ?_
      refine v_if_ne (pc := 90) (tgt := 146) C d_Model_turn_90 (by decide) (fun h90 => ?_) (fun h90 => ?_)
      · exact v_return (pc := 146) C hr ⟨rfl, by rw [hk, hk1, if_neg h90]⟩ d_Model_turn_146
      · obtain ⟨ok, gg⟩ := hg h90
        obtain ⟨⟨sc, hsc, hsc1⟩, hs0, hn0, ht0, hc1, ⟨z, hz, hat⟩, w, hw, hsz⟩ := id ok
        obtain ⟨c0, hc0, hcq⟩ := vp_in_of hc1 (by decide)
        have hcn : nn (τ 41 0 h) = c0 := by rw [hcq]; exact nI_clamp (by omega)
        have hzn : nn (τ 42 0 h) = z := by rw [hat]; exact nI_clamp (by omega)
        refine v_aload_n (pc := 93) C d_Model_turn_93 rfl rfl ?_
        refine gf_Model_78 (pc := 94) C d_Model_turn_94 ?_
        refine v_iload_n (pc := 97) C d_Model_turn_97 rfl rfl ?_
        refine v_ialoadK (pc := 98) C rfl rfl (rfl) (hh) (by decide) d_Model_turn_98 ?_
        refine v_aload_n (pc := 99) C d_Model_turn_99 rfl rfl ?_
        refine gf_Model_20 (pc := 100) C d_Model_turn_100 ?_
        refine v_aload_n (pc := 103) C d_Model_turn_103 rfl rfl ?_
        refine gf_Model_75 (pc := 104) C d_Model_turn_104 ?_
        refine v_iload_n (pc := 107) C d_Model_turn_107 rfl rfl ?_
        refine v_ialoadK (pc := 108) C rfl rfl (rfl) (hh) (by decide) d_Model_turn_108 ?_
        refine v_iaload (pc := 109) C rfl rfl ok.2.2.2.2.1 d_Model_turn_109 ?_
        refine v_icmp_lt (pc := 110) (tgt := 122) C d_Model_turn_110 (by decide) (fun h110 => ?_) (fun h110 => ?_)
        · have hzw : z < w := by
            rw [hat, hsz] at h110
            exact (nI_ltI (by omega) (by omega)).mp h110
          refine v_aload_n (pc := 122) C d_Model_turn_122 rfl rfl ?_
          refine v_iload_n (pc := 123) C d_Model_turn_123 rfl rfl ?_
          refine v_bipush (pc := 124) (v := 10) C d_Model_turn_124 (by decide) ?_
          refine v_aload_n (pc := 126) C d_Model_turn_126 rfl rfl ?_
          refine gf_Model_75 (pc := 127) C d_Model_turn_127 ?_
          refine v_iload_n (pc := 130) C d_Model_turn_130 rfl rfl ?_
          refine v_ialoadK (pc := 131) C rfl rfl (rfl) (hh) (by decide) d_Model_turn_131 ?_
          refine v_imul (pc := 132) C d_Model_turn_132 ?_
          refine v_aload_n (pc := 133) C d_Model_turn_133 rfl rfl ?_
          refine gf_Model_78 (pc := 134) C d_Model_turn_134 ?_
          refine v_iload_n (pc := 137) C d_Model_turn_137 rfl rfl ?_
          refine v_ialoadK (pc := 138) C rfl rfl (rfl) (hh) (by decide) d_Model_turn_138 ?_
          refine v_iadd (pc := 139) C d_Model_turn_139 ?_
          refine cl_Model_147 (pc := 140) C (m_acts l hJ τ sc hsc hsc1 hs0 hn0 h hh ht0 c0 hc0 hcq z (by omega) hat _ (10 * c0 + z) (by omega) (by rw [hcq, i10, hat]; exact nI_add _ _)) ⟨rfl, rfl, by decide, by decide⟩ rfl rfl (Nat.le_of_ble_eq_true rfl) d_Model_turn_140 (fun r σ' hq => ?_)
          rw [hq.1, hq.2]
          refine v_goto (pc := 143) (tgt := 84) C d_Model_turn_143 (by decide) ?_
          refine ih _ _ ?_ ?_
          · rw [show gActs τ h (10 * c0 + z) = gStep τ h by unfold gStep; rw [if_neg (Int32.not_le.mpr h110), hzn, hcn]]; exact gg
          · rw [hk, hk1, if_pos h90]; unfold gStep; rw [if_neg (Int32.not_le.mpr h110), hzn, hcn]
        · refine v_aload_n (pc := 113) C d_Model_turn_113 rfl rfl ?_
          refine v_iload_n (pc := 114) C d_Model_turn_114 rfl rfl ?_
          refine v_iconst (pc := 115) (v := (-1)) C d_Model_turn_115 (by decide) ?_
          refine cl_Model_138 (pc := 116) C (m_ends l hJ τ hs0 h hh ht0 (-1)) ⟨rfl, rfl, by decide, by decide⟩ rfl rfl (Nat.le_of_ble_eq_true rfl) d_Model_turn_116 (fun r σ' hq => ?_)
          rw [hq.1, hq.2]
          refine v_goto (pc := 119) (tgt := 84) C d_Model_turn_119 (by decide) ?_
          refine ih _ _ ?_ ?_
          · rw [show gEnds τ h (-1) = gStep τ h by unfold gStep; rw [if_pos (Int32.not_lt.mp h110)]]; exact gg
          · rw [hk, hk1, if_pos h90]; unfold gStep; rw [if_pos (Int32.not_lt.mp h110)]
  refine v_aload_n (pc := 0) C d_Model_turn_0 rfl rfl ?_
  refine gf_Model_81 (pc := 1) C d_Model_turn_1 ?_
  refine v_iload_n (pc := 4) C d_Model_turn_4 rfl rfl ?_
  refine v_ialoadK (pc := 5) C rfl rfl (rfl) (hh) (by decide) d_Model_turn_5 ?_
  refine v_istore_n (pc := 6) C d_Model_turn_6 rfl (by decide) ?_
  refine v_iload_n (pc := 7) C d_Model_turn_7 rfl rfl ?_
  refine v_if_eq (pc := 8) (tgt := 41) C d_Model_turn_8 (by decide) (fun h8 => ?_) (fun h8 => ?_)
  · refine v_iload_n (pc := 41) C d_Model_turn_41 rfl rfl ?_
    refine v_iconst (pc := 42) (v := 1) C d_Model_turn_42 (by decide) ?_
    refine v_icmp_eq (pc := 43) (tgt := 51) C d_Model_turn_43 (by decide) (fun h43 => ?_) (fun h43 => ?_)
    · refine v_aload_n (pc := 51) C d_Model_turn_51 rfl rfl ?_
      refine gf_Model_117 (pc := 52) C d_Model_turn_52 ?_
      refine v_aload_n (pc := 55) C d_Model_turn_55 rfl rfl ?_
      refine gf_Model_84 (pc := 56) C d_Model_turn_56 ?_
      refine v_iload_n (pc := 59) C d_Model_turn_59 rfl rfl ?_
      refine v_ialoadK (pc := 60) C rfl rfl (rfl) (hh) (by decide) d_Model_turn_60 ?_
      refine v_icmp_ge (pc := 61) (tgt := 77) C d_Model_turn_61 (by decide) (fun h61 => ?_) (fun h61 => ?_)
      · refine v_aload_n (pc := 77) C d_Model_turn_77 rfl rfl ?_
        refine gf_Model_81 (pc := 78) C d_Model_turn_78 ?_
        refine v_iload_n (pc := 81) C d_Model_turn_81 rfl rfl ?_
        refine v_iconst (pc := 82) (v := 0) C d_Model_turn_82 (by decide) ?_
        refine v_iastoreK (pc := 83) C rfl rfl (rfl) (hh) (by decide) d_Model_turn_83 ?_
        have E : gTurn0 σ h = (ty_up σ 43 0 h 0) := by unfold gTurn0; rw [if_neg (fun q => q.1 h8)]; rw [if_pos (Or.inl ⟨Or.inl h43, h61⟩)]
        exact loop 12 (ty_up σ 43 0 h 0) _ (by rw [E] at hg; exact hg) (by unfold gTurn; rw [E])
      · refine v_iload_n (pc := 64) C d_Model_turn_64 rfl rfl ?_
        refine v_iconst (pc := 65) (v := 4) C d_Model_turn_65 (by decide) ?_
        refine v_icmp_ne (pc := 66) (tgt := 84) C d_Model_turn_66 (by decide) (fun h66 => ?_) (fun h66 => ?_)
        · have E : gTurn0 σ h = σ := by unfold gTurn0; rw [if_neg (fun q => q.1 h8)]; rw [if_neg (by intro q; rcases q with ⟨q1, q2⟩ | ⟨q1, q2⟩; exact h61 q2; exact h66 q1)]
          exact loop 12 σ _ (by rw [E] at hg; exact hg) (by unfold gTurn; rw [E])
        · refine v_aload_n (pc := 69) C d_Model_turn_69 rfl rfl ?_
          refine v_iload_n (pc := 70) C d_Model_turn_70 rfl rfl ?_
          refine cl_Model_143 (pc := 71) C (m_joined l hJ σ sc (by omega) hsc1 h) ⟨rfl, rfl, by decide, by decide⟩ rfl rfl (Nat.le_of_ble_eq_true rfl) d_Model_turn_71 (fun r σ' hq => ?_)
          rw [hq.1, hq.2]
          refine v_if_eq (pc := 74) (tgt := 84) C d_Model_turn_74 (by decide) (fun h74 => ?_) (fun h74 => ?_)
          · have E : gTurn0 σ h = σ := by unfold gTurn0; rw [if_neg (fun q => q.1 h8)]; rw [if_neg (by intro q; rcases q with ⟨q1, q2⟩ | ⟨q1, q2⟩; exact h61 q2; rw [hns] at q2; rw [if_pos q2] at h74; exact absurd h74 (by decide))]
            exact loop 12 σ _ (by rw [E] at hg; exact hg) (by unfold gTurn; rw [E])
          · refine v_aload_n (pc := 77) C d_Model_turn_77 rfl rfl ?_
            refine gf_Model_81 (pc := 78) C d_Model_turn_78 ?_
            refine v_iload_n (pc := 81) C d_Model_turn_81 rfl rfl ?_
            refine v_iconst (pc := 82) (v := 0) C d_Model_turn_82 (by decide) ?_
            refine v_iastoreK (pc := 83) C rfl rfl (rfl) (hh) (by decide) d_Model_turn_83 ?_
            have E : gTurn0 σ h = (ty_up σ 43 0 h 0) := by unfold gTurn0; rw [if_neg (fun q => q.1 h8)]; rw [if_pos (Or.inr ⟨h66, by rw [hns]; by_cases e : gJoined σ h sc = true; exact e; exact absurd (if_neg e) h74⟩)]
            exact loop 12 (ty_up σ 43 0 h 0) _ (by rw [E] at hg; exact hg) (by unfold gTurn; rw [E])
    · refine v_iload_n (pc := 46) C d_Model_turn_46 rfl rfl ?_
      refine v_iconst (pc := 47) (v := 2) C d_Model_turn_47 (by decide) ?_
      refine v_icmp_ne (pc := 48) (tgt := 64) C d_Model_turn_48 (by decide) (fun h48 => ?_) (fun h48 => ?_)
      · refine v_iload_n (pc := 64) C d_Model_turn_64 rfl rfl ?_
        refine v_iconst (pc := 65) (v := 4) C d_Model_turn_65 (by decide) ?_
        refine v_icmp_ne (pc := 66) (tgt := 84) C d_Model_turn_66 (by decide) (fun h66 => ?_) (fun h66 => ?_)
        · have E : gTurn0 σ h = σ := by unfold gTurn0; rw [if_neg (fun q => q.1 h8)]; rw [if_neg (by intro q; rcases q with ⟨q1, q2⟩ | ⟨q1, q2⟩; rcases q1 with q1 | q1; exact h43 q1; exact h48 q1; exact h66 q1)]
          exact loop 12 σ _ (by rw [E] at hg; exact hg) (by unfold gTurn; rw [E])
        · refine v_aload_n (pc := 69) C d_Model_turn_69 rfl rfl ?_
          refine v_iload_n (pc := 70) C d_Model_turn_70 rfl rfl ?_
          refine cl_Model_143 (pc := 71) C (m_joined l hJ σ sc (by omega) hsc1 h) ⟨rfl, rfl, by decide, by decide⟩ rfl rfl (Nat.le_of_ble_eq_true rfl) d_Model_turn_71 (fun r σ' hq => ?_)
          rw [hq.1, hq.2]
          refine v_if_eq (pc := 74) (tgt := 84) C d_Model_turn_74 (by decide) (fun h74 => ?_) (fun h74 => ?_)
          · have E : gTurn0 σ h = σ := by unfold gTurn0; rw [if_neg (fun q => q.1 h8)]; rw [if_neg (by intro q; rcases q with ⟨q1, q2⟩ | ⟨q1, q2⟩; rcases q1 with q1 | q1; exact h43 q1; exact h48 q1; rw [hns] at q2; rw [if_pos q2] at h74; exact absurd h74 (by decide))]
            exact loop 12 σ _ (by rw [E] at hg; exact hg) (by unfold gTurn; rw [E])
          · refine v_aload_n (pc := 77) C d_Model_turn_77 rfl rfl ?_
            refine gf_Model_81 (pc := 78) C d_Model_turn_78 ?_
            refine v_iload_n (pc := 81) C d_Model_turn_81 rfl rfl ?_
            refine v_iconst (pc := 82) (v := 0) C d_Model_turn_82 (by decide) ?_
            refine v_iastoreK (pc := 83) C rfl rfl (rfl) (hh) (by decide) d_Model_turn_83 ?_
            have E : gTurn0 σ h = (ty_up σ 43 0 h 0) := by unfold gTurn0; rw [if_neg (fun q => q.1 h8)]; rw [if_pos (Or.inr ⟨h66, by rw [hns]; by_cases e : gJoined σ h sc = true; exact e; exact absurd (if_neg e) h74⟩)]
            exact loop 12 (ty_up σ 43 0 h 0) _ (by rw [E] at hg; exact hg) (by unfold gTurn; rw [E])
      · refine v_aload_n (pc := 51) C d_Model_turn_51 rfl rfl ?_
        refine gf_Model_117 (pc := 52) C d_Model_turn_52 ?_
        refine v_aload_n (pc := 55) C d_Model_turn_55 rfl rfl ?_
        refine gf_Model_84 (pc := 56) C d_Model_turn_56 ?_
        refine v_iload_n (pc := 59) C d_Model_turn_59 rfl rfl ?_
        refine v_ialoadK (pc := 60) C rfl rfl (rfl) (hh) (by decide) d_Model_turn_60 ?_
        refine v_icmp_ge (pc := 61) (tgt := 77) C d_Model_turn_61 (by decide) (fun h61 => ?_) (fun h61 => ?_)
        · refine v_aload_n (pc := 77) C d_Model_turn_77 rfl rfl ?_
          refine gf_Model_81 (pc := 78) C d_Model_turn_78 ?_
          refine v_iload_n (pc := 81) C d_Model_turn_81 rfl rfl ?_
          refine v_iconst (pc := 82) (v := 0) C d_Model_turn_82 (by decide) ?_
          refine v_iastoreK (pc := 83) C rfl rfl (rfl) (hh) (by decide) d_Model_turn_83 ?_
          have E : gTurn0 σ h = (ty_up σ 43 0 h 0) := by unfold gTurn0; rw [if_neg (fun q => q.1 h8)]; rw [if_pos (Or.inl ⟨Or.inr h48, h61⟩)]
          exact loop 12 (ty_up σ 43 0 h 0) _ (by rw [E] at hg; exact hg) (by unfold gTurn; rw [E])
        · refine v_iload_n (pc := 64) C d_Model_turn_64 rfl rfl ?_
          refine v_iconst (pc := 65) (v := 4) C d_Model_turn_65 (by decide) ?_
          refine v_icmp_ne (pc := 66) (tgt := 84) C d_Model_turn_66 (by decide) (fun h66 => ?_) (fun h66 => ?_)
          · have E : gTurn0 σ h = σ := by unfold gTurn0; rw [if_neg (fun q => q.1 h8)]; rw [if_neg (by intro q; rcases q with ⟨q1, q2⟩ | ⟨q1, q2⟩; exact h61 q2; exact h66 q1)]
            exact loop 12 σ _ (by rw [E] at hg; exact hg) (by unfold gTurn; rw [E])
          · refine v_aload_n (pc := 69) C d_Model_turn_69 rfl rfl ?_
            refine v_iload_n (pc := 70) C d_Model_turn_70 rfl rfl ?_
            refine cl_Model_143 (pc := 71) C (m_joined l hJ σ sc (by omega) hsc1 h) ⟨rfl, rfl, by decide, by decide⟩ rfl rfl (Nat.le_of_ble_eq_true rfl) d_Model_turn_71 (fun r σ' hq => ?_)
            rw [hq.1, hq.2]
            refine v_if_eq (pc := 74) (tgt := 84) C d_Model_turn_74 (by decide) (fun h74 => ?_) (fun h74 => ?_)
            · have E : gTurn0 σ h = σ := by unfold gTurn0; rw [if_neg (fun q => q.1 h8)]; rw [if_neg (by intro q; rcases q with ⟨q1, q2⟩ | ⟨q1, q2⟩; exact h61 q2; rw [hns] at q2; rw [if_pos q2] at h74; exact absurd h74 (by decide))]
              exact loop 12 σ _ (by rw [E] at hg; exact hg) (by unfold gTurn; rw [E])
            · refine v_aload_n (pc := 77) C d_Model_turn_77 rfl rfl ?_
              refine gf_Model_81 (pc := 78) C d_Model_turn_78 ?_
              refine v_iload_n (pc := 81) C d_Model_turn_81 rfl rfl ?_
              refine v_iconst (pc := 82) (v := 0) C d_Model_turn_82 (by decide) ?_
              refine v_iastoreK (pc := 83) C rfl rfl (rfl) (hh) (by decide) d_Model_turn_83 ?_
              have E : gTurn0 σ h = (ty_up σ 43 0 h 0) := by unfold gTurn0; rw [if_neg (fun q => q.1 h8)]; rw [if_pos (Or.inr ⟨h66, by rw [hns]; by_cases e : gJoined σ h sc = true; exact e; exact absurd (if_neg e) h74⟩)]
              exact loop 12 (ty_up σ 43 0 h 0) _ (by rw [E] at hg; exact hg) (by unfold gTurn; rw [E])
  · refine v_iload_n (pc := 11) C d_Model_turn_11 rfl rfl ?_
    refine v_iconst (pc := 12) (v := 1) C d_Model_turn_12 (by decide) ?_
    refine v_icmp_eq (pc := 13) (tgt := 41) C d_Model_turn_13 (by decide) (fun h13 => ?_) (fun h13 => ?_)
    · refine v_iload_n (pc := 41) C d_Model_turn_41 rfl rfl ?_
      refine v_iconst (pc := 42) (v := 1) C d_Model_turn_42 (by decide) ?_
      refine v_icmp_eq (pc := 43) (tgt := 51) C d_Model_turn_43 (by decide) (fun h43 => ?_) (fun h43 => ?_)
      · refine v_aload_n (pc := 51) C d_Model_turn_51 rfl rfl ?_
        refine gf_Model_117 (pc := 52) C d_Model_turn_52 ?_
        refine v_aload_n (pc := 55) C d_Model_turn_55 rfl rfl ?_
        refine gf_Model_84 (pc := 56) C d_Model_turn_56 ?_
        refine v_iload_n (pc := 59) C d_Model_turn_59 rfl rfl ?_
        refine v_ialoadK (pc := 60) C rfl rfl (rfl) (hh) (by decide) d_Model_turn_60 ?_
        refine v_icmp_ge (pc := 61) (tgt := 77) C d_Model_turn_61 (by decide) (fun h61 => ?_) (fun h61 => ?_)
        · refine v_aload_n (pc := 77) C d_Model_turn_77 rfl rfl ?_
          refine gf_Model_81 (pc := 78) C d_Model_turn_78 ?_
          refine v_iload_n (pc := 81) C d_Model_turn_81 rfl rfl ?_
          refine v_iconst (pc := 82) (v := 0) C d_Model_turn_82 (by decide) ?_
          refine v_iastoreK (pc := 83) C rfl rfl (rfl) (hh) (by decide) d_Model_turn_83 ?_
          have E : gTurn0 σ h = (ty_up σ 43 0 h 0) := by unfold gTurn0; rw [if_neg (fun q => q.2.1 h13)]; rw [if_pos (Or.inl ⟨Or.inl h43, h61⟩)]
          exact loop 12 (ty_up σ 43 0 h 0) _ (by rw [E] at hg; exact hg) (by unfold gTurn; rw [E])
        · refine v_iload_n (pc := 64) C d_Model_turn_64 rfl rfl ?_
          refine v_iconst (pc := 65) (v := 4) C d_Model_turn_65 (by decide) ?_
          refine v_icmp_ne (pc := 66) (tgt := 84) C d_Model_turn_66 (by decide) (fun h66 => ?_) (fun h66 => ?_)
          · have E : gTurn0 σ h = σ := by unfold gTurn0; rw [if_neg (fun q => q.2.1 h13)]; rw [if_neg (by intro q; rcases q with ⟨q1, q2⟩ | ⟨q1, q2⟩; exact h61 q2; exact h66 q1)]
            exact loop 12 σ _ (by rw [E] at hg; exact hg) (by unfold gTurn; rw [E])
          · refine v_aload_n (pc := 69) C d_Model_turn_69 rfl rfl ?_
            refine v_iload_n (pc := 70) C d_Model_turn_70 rfl rfl ?_
            refine cl_Model_143 (pc := 71) C (m_joined l hJ σ sc (by omega) hsc1 h) ⟨rfl, rfl, by decide, by decide⟩ rfl rfl (Nat.le_of_ble_eq_true rfl) d_Model_turn_71 (fun r σ' hq => ?_)
            rw [hq.1, hq.2]
            refine v_if_eq (pc := 74) (tgt := 84) C d_Model_turn_74 (by decide) (fun h74 => ?_) (fun h74 => ?_)
            · have E : gTurn0 σ h = σ := by unfold gTurn0; rw [if_neg (fun q => q.2.1 h13)]; rw [if_neg (by intro q; rcases q with ⟨q1, q2⟩ | ⟨q1, q2⟩; exact h61 q2; rw [hns] at q2; rw [if_pos q2] at h74; exact absurd h74 (by decide))]
              exact loop 12 σ _ (by rw [E] at hg; exact hg) (by unfold gTurn; rw [E])
            · refine v_aload_n (pc := 77) C d_Model_turn_77 rfl rfl ?_
              refine gf_Model_81 (pc := 78) C d_Model_turn_78 ?_
              refine v_iload_n (pc := 81) C d_Model_turn_81 rfl rfl ?_
              refine v_iconst (pc := 82) (v := 0) C d_Model_turn_82 (by decide) ?_
              refine v_iastoreK (pc := 83) C rfl rfl (rfl) (hh) (by decide) d_Model_turn_83 ?_
              have E : gTurn0 σ h = (ty_up σ 43 0 h 0) := by unfold gTurn0; rw [if_neg (fun q => q.2.1 h13)]; rw [if_pos (Or.inr ⟨h66, by rw [hns]; by_cases e : gJoined σ h sc = true; exact e; exact absurd (if_neg e) h74⟩)]
              exact loop 12 (ty_up σ 43 0 h 0) _ (by rw [E] at hg; exact hg) (by unfold gTurn; rw [E])
      · refine v_iload_n (pc := 46) C d_Model_turn_46 rfl rfl ?_
        refine v_iconst (pc := 47) (v := 2) C d_Model_turn_47 (by decide) ?_
        refine v_icmp_ne (pc := 48) (tgt := 64) C d_Model_turn_48 (by decide) (fun h48 => ?_) (fun h48 => ?_)
        · refine v_iload_n (pc := 64) C d_Model_turn_64 rfl rfl ?_
          refine v_iconst (pc := 65) (v := 4) C d_Model_turn_65 (by decide) ?_
          refine v_icmp_ne (pc := 66) (tgt := 84) C d_Model_turn_66 (by decide) (fun h66 => ?_) (fun h66 => ?_)
          · have E : gTurn0 σ h = σ := by unfold gTurn0; rw [if_neg (fun q => q.2.1 h13)]; rw [if_neg (by intro q; rcases q with ⟨q1, q2⟩ | ⟨q1, q2⟩; rcases q1 with q1 | q1; exact h43 q1; exact h48 q1; exact h66 q1)]
            exact loop 12 σ _ (by rw [E] at hg; exact hg) (by unfold gTurn; rw [E])
          · refine v_aload_n (pc := 69) C d_Model_turn_69 rfl rfl ?_
            refine v_iload_n (pc := 70) C d_Model_turn_70 rfl rfl ?_
            refine cl_Model_143 (pc := 71) C (m_joined l hJ σ sc (by omega) hsc1 h) ⟨rfl, rfl, by decide, by decide⟩ rfl rfl (Nat.le_of_ble_eq_true rfl) d_Model_turn_71 (fun r σ' hq => ?_)
            rw [hq.1, hq.2]
            refine v_if_eq (pc := 74) (tgt := 84) C d_Model_turn_74 (by decide) (fun h74 => ?_) (fun h74 => ?_)
            · have E : gTurn0 σ h = σ := by unfold gTurn0; rw [if_neg (fun q => q.2.1 h13)]; rw [if_neg (by intro q; rcases q with ⟨q1, q2⟩ | ⟨q1, q2⟩; rcases q1 with q1 | q1; exact h43 q1; exact h48 q1; rw [hns] at q2; rw [if_pos q2] at h74; exact absurd h74 (by decide))]
              exact loop 12 σ _ (by rw [E] at hg; exact hg) (by unfold gTurn; rw [E])
            · refine v_aload_n (pc := 77) C d_Model_turn_77 rfl rfl ?_
              refine gf_Model_81 (pc := 78) C d_Model_turn_78 ?_
              refine v_iload_n (pc := 81) C d_Model_turn_81 rfl rfl ?_
              refine v_iconst (pc := 82) (v := 0) C d_Model_turn_82 (by decide) ?_
              refine v_iastoreK (pc := 83) C rfl rfl (rfl) (hh) (by decide) d_Model_turn_83 ?_
              have E : gTurn0 σ h = (ty_up σ 43 0 h 0) := by unfold gTurn0; rw [if_neg (fun q => q.2.1 h13)]; rw [if_pos (Or.inr ⟨h66, by rw [hns]; by_cases e : gJoined σ h sc = true; exact e; exact absurd (if_neg e) h74⟩)]
              exact loop 12 (ty_up σ 43 0 h 0) _ (by rw [E] at hg; exact hg) (by unfold gTurn; rw [E])
        · refine v_aload_n (pc := 51) C d_Model_turn_51 rfl rfl ?_
          refine gf_Model_117 (pc := 52) C d_Model_turn_52 ?_
          refine v_aload_n (pc := 55) C d_Model_turn_55 rfl rfl ?_
          refine gf_Model_84 (pc := 56) C d_Model_turn_56 ?_
          refine v_iload_n (pc := 59) C d_Model_turn_59 rfl rfl ?_
          refine v_ialoadK (pc := 60) C rfl rfl (rfl) (hh) (by decide) d_Model_turn_60 ?_
          refine v_icmp_ge (pc := 61) (tgt := 77) C d_Model_turn_61 (by decide) (fun h61 => ?_) (fun h61 => ?_)
          · refine v_aload_n (pc := 77) C d_Model_turn_77 rfl rfl ?_
            refine gf_Model_81 (pc := 78) C d_Model_turn_78 ?_
            refine v_iload_n (pc := 81) C d_Model_turn_81 rfl rfl ?_
            refine v_iconst (pc := 82) (v := 0) C d_Model_turn_82 (by decide) ?_
            refine v_iastoreK (pc := 83) C rfl rfl (rfl) (hh) (by decide) d_Model_turn_83 ?_
            have E : gTurn0 σ h = (ty_up σ 43 0 h 0) := by unfold gTurn0; rw [if_neg (fun q => q.2.1 h13)]; rw [if_pos (Or.inl ⟨Or.inr h48, h61⟩)]
            exact loop 12 (ty_up σ 43 0 h 0) _ (by rw [E] at hg; exact hg) (by unfold gTurn; rw [E])
          · refine v_iload_n (pc := 64) C d_Model_turn_64 rfl rfl ?_
            refine v_iconst (pc := 65) (v := 4) C d_Model_turn_65 (by decide) ?_
            refine v_icmp_ne (pc := 66) (tgt := 84) C d_Model_turn_66 (by decide) (fun h66 => ?_) (fun h66 => ?_)
            · have E : gTurn0 σ h = σ := by unfold gTurn0; rw [if_neg (fun q => q.2.1 h13)]; rw [if_neg (by intro q; rcases q with ⟨q1, q2⟩ | ⟨q1, q2⟩; exact h61 q2; exact h66 q1)]
              exact loop 12 σ _ (by rw [E] at hg; exact hg) (by unfold gTurn; rw [E])
            · refine v_aload_n (pc := 69) C d_Model_turn_69 rfl rfl ?_
              refine v_iload_n (pc := 70) C d_Model_turn_70 rfl rfl ?_
              refine cl_Model_143 (pc := 71) C (m_joined l hJ σ sc (by omega) hsc1 h) ⟨rfl, rfl, by decide, by decide⟩ rfl rfl (Nat.le_of_ble_eq_true rfl) d_Model_turn_71 (fun r σ' hq => ?_)
              rw [hq.1, hq.2]
              refine v_if_eq (pc := 74) (tgt := 84) C d_Model_turn_74 (by decide) (fun h74 => ?_) (fun h74 => ?_)
              · have E : gTurn0 σ h = σ := by unfold gTurn0; rw [if_neg (fun q => q.2.1 h13)]; rw [if_neg (by intro q; rcases q with ⟨q1, q2⟩ | ⟨q1, q2⟩; exact h61 q2; rw [hns] at q2; rw [if_pos q2] at h74; exact absurd h74 (by decide))]
                exact loop 12 σ _ (by rw [E] at hg; exact hg) (by unfold gTurn; rw [E])
              · refine v_aload_n (pc := 77) C d_Model_turn_77 rfl rfl ?_
                refine gf_Model_81 (pc := 78) C d_Model_turn_78 ?_
                refine v_iload_n (pc := 81) C d_Model_turn_81 rfl rfl ?_
                refine v_iconst (pc := 82) (v := 0) C d_Model_turn_82 (by decide) ?_
                refine v_iastoreK (pc := 83) C rfl rfl (rfl) (hh) (by decide) d_Model_turn_83 ?_
                have E : gTurn0 σ h = (ty_up σ 43 0 h 0) := by unfold gTurn0; rw [if_neg (fun q => q.2.1 h13)]; rw [if_pos (Or.inr ⟨h66, by rw [hns]; by_cases e : gJoined σ h sc = true; exact e; exact absurd (if_neg e) h74⟩)]
                exact loop 12 (ty_up σ 43 0 h 0) _ (by rw [E] at hg; exact hg) (by unfold gTurn; rw [E])
    · refine v_aload_n (pc := 16) C d_Model_turn_16 rfl rfl ?_
      refine gf_Model_87 (pc := 17) C d_Model_turn_17 ?_
      refine v_iload_n (pc := 20) C d_Model_turn_20 rfl rfl ?_
      refine v_baloadK (pc := 21) C rfl rfl (rfl) (hh) (by decide) d_Model_turn_21 ?_
      refine v_if_eq (pc := 22) (tgt := 41) C d_Model_turn_22 (by decide) (fun h22 => ?_) (fun h22 => ?_)
      · refine v_iload_n (pc := 41) C d_Model_turn_41 rfl rfl ?_
        refine v_iconst (pc := 42) (v := 1) C d_Model_turn_42 (by decide) ?_
        refine v_icmp_eq (pc := 43) (tgt := 51) C d_Model_turn_43 (by decide) (fun h43 => ?_) (fun h43 => ?_)
        · refine v_aload_n (pc := 51) C d_Model_turn_51 rfl rfl ?_
          refine gf_Model_117 (pc := 52) C d_Model_turn_52 ?_
          refine v_aload_n (pc := 55) C d_Model_turn_55 rfl rfl ?_
          refine gf_Model_84 (pc := 56) C d_Model_turn_56 ?_
          refine v_iload_n (pc := 59) C d_Model_turn_59 rfl rfl ?_
          refine v_ialoadK (pc := 60) C rfl rfl (rfl) (hh) (by decide) d_Model_turn_60 ?_
          refine v_icmp_ge (pc := 61) (tgt := 77) C d_Model_turn_61 (by decide) (fun h61 => ?_) (fun h61 => ?_)
          · refine v_aload_n (pc := 77) C d_Model_turn_77 rfl rfl ?_
            refine gf_Model_81 (pc := 78) C d_Model_turn_78 ?_
            refine v_iload_n (pc := 81) C d_Model_turn_81 rfl rfl ?_
            refine v_iconst (pc := 82) (v := 0) C d_Model_turn_82 (by decide) ?_
            refine v_iastoreK (pc := 83) C rfl rfl (rfl) (hh) (by decide) d_Model_turn_83 ?_
            have E : gTurn0 σ h = (ty_up σ 43 0 h 0) := by unfold gTurn0; rw [if_neg (fun q => q.2.2 h22)]; rw [if_pos (Or.inl ⟨Or.inl h43, h61⟩)]
            exact loop 12 (ty_up σ 43 0 h 0) _ (by rw [E] at hg; exact hg) (by unfold gTurn; rw [E])
          · refine v_iload_n (pc := 64) C d_Model_turn_64 rfl rfl ?_
            refine v_iconst (pc := 65) (v := 4) C d_Model_turn_65 (by decide) ?_
            refine v_icmp_ne (pc := 66) (tgt := 84) C d_Model_turn_66 (by decide) (fun h66 => ?_) (fun h66 => ?_)
            · have E : gTurn0 σ h = σ := by unfold gTurn0; rw [if_neg (fun q => q.2.2 h22)]; rw [if_neg (by intro q; rcases q with ⟨q1, q2⟩ | ⟨q1, q2⟩; exact h61 q2; exact h66 q1)]
              exact loop 12 σ _ (by rw [E] at hg; exact hg) (by unfold gTurn; rw [E])
            · refine v_aload_n (pc := 69) C d_Model_turn_69 rfl rfl ?_
              refine v_iload_n (pc := 70) C d_Model_turn_70 rfl rfl ?_
              refine cl_Model_143 (pc := 71) C (m_joined l hJ σ sc (by omega) hsc1 h) ⟨rfl, rfl, by decide, by decide⟩ rfl rfl (Nat.le_of_ble_eq_true rfl) d_Model_turn_71 (fun r σ' hq => ?_)
              rw [hq.1, hq.2]
              refine v_if_eq (pc := 74) (tgt := 84) C d_Model_turn_74 (by decide) (fun h74 => ?_) (fun h74 => ?_)
              · have E : gTurn0 σ h = σ := by unfold gTurn0; rw [if_neg (fun q => q.2.2 h22)]; rw [if_neg (by intro q; rcases q with ⟨q1, q2⟩ | ⟨q1, q2⟩; exact h61 q2; rw [hns] at q2; rw [if_pos q2] at h74; exact absurd h74 (by decide))]
                exact loop 12 σ _ (by rw [E] at hg; exact hg) (by unfold gTurn; rw [E])
              · refine v_aload_n (pc := 77) C d_Model_turn_77 rfl rfl ?_
                refine gf_Model_81 (pc := 78) C d_Model_turn_78 ?_
                refine v_iload_n (pc := 81) C d_Model_turn_81 rfl rfl ?_
                refine v_iconst (pc := 82) (v := 0) C d_Model_turn_82 (by decide) ?_
                refine v_iastoreK (pc := 83) C rfl rfl (rfl) (hh) (by decide) d_Model_turn_83 ?_
                have E : gTurn0 σ h = (ty_up σ 43 0 h 0) := by unfold gTurn0; rw [if_neg (fun q => q.2.2 h22)]; rw [if_pos (Or.inr ⟨h66, by rw [hns]; by_cases e : gJoined σ h sc = true; exact e; exact absurd (if_neg e) h74⟩)]
                exact loop 12 (ty_up σ 43 0 h 0) _ (by rw [E] at hg; exact hg) (by unfold gTurn; rw [E])
        · refine v_iload_n (pc := 46) C d_Model_turn_46 rfl rfl ?_
          refine v_iconst (pc := 47) (v := 2) C d_Model_turn_47 (by decide) ?_
          refine v_icmp_ne (pc := 48) (tgt := 64) C d_Model_turn_48 (by decide) (fun h48 => ?_) (fun h48 => ?_)
          · refine v_iload_n (pc := 64) C d_Model_turn_64 rfl rfl ?_
            refine v_iconst (pc := 65) (v := 4) C d_Model_turn_65 (by decide) ?_
            refine v_icmp_ne (pc := 66) (tgt := 84) C d_Model_turn_66 (by decide) (fun h66 => ?_) (fun h66 => ?_)
            · have E : gTurn0 σ h = σ := by unfold gTurn0; rw [if_neg (fun q => q.2.2 h22)]; rw [if_neg (by intro q; rcases q with ⟨q1, q2⟩ | ⟨q1, q2⟩; rcases q1 with q1 | q1; exact h43 q1; exact h48 q1; exact h66 q1)]
              exact loop 12 σ _ (by rw [E] at hg; exact hg) (by unfold gTurn; rw [E])
            · refine v_aload_n (pc := 69) C d_Model_turn_69 rfl rfl ?_
              refine v_iload_n (pc := 70) C d_Model_turn_70 rfl rfl ?_
              refine cl_Model_143 (pc := 71) C (m_joined l hJ σ sc (by omega) hsc1 h) ⟨rfl, rfl, by decide, by decide⟩ rfl rfl (Nat.le_of_ble_eq_true rfl) d_Model_turn_71 (fun r σ' hq => ?_)
              rw [hq.1, hq.2]
              refine v_if_eq (pc := 74) (tgt := 84) C d_Model_turn_74 (by decide) (fun h74 => ?_) (fun h74 => ?_)
              · have E : gTurn0 σ h = σ := by unfold gTurn0; rw [if_neg (fun q => q.2.2 h22)]; rw [if_neg (by intro q; rcases q with ⟨q1, q2⟩ | ⟨q1, q2⟩; rcases q1 with q1 | q1; exact h43 q1; exact h48 q1; rw [hns] at q2; rw [if_pos q2] at h74; exact absurd h74 (by decide))]
                exact loop 12 σ _ (by rw [E] at hg; exact hg) (by unfold gTurn; rw [E])
              · refine v_aload_n (pc := 77) C d_Model_turn_77 rfl rfl ?_
                refine gf_Model_81 (pc := 78) C d_Model_turn_78 ?_
                refine v_iload_n (pc := 81) C d_Model_turn_81 rfl rfl ?_
                refine v_iconst (pc := 82) (v := 0) C d_Model_turn_82 (by decide) ?_
                refine v_iastoreK (pc := 83) C rfl rfl (rfl) (hh) (by decide) d_Model_turn_83 ?_
                have E : gTurn0 σ h = (ty_up σ 43 0 h 0) := by unfold gTurn0; rw [if_neg (fun q => q.2.2 h22)]; rw [if_pos (Or.inr ⟨h66, by rw [hns]; by_cases e : gJoined σ h sc = true; exact e; exact absurd (if_neg e) h74⟩)]
                exact loop 12 (ty_up σ 43 0 h 0) _ (by rw [E] at hg; exact hg) (by unfold gTurn; rw [E])
          · refine v_aload_n (pc := 51) C d_Model_turn_51 rfl rfl ?_
            refine gf_Model_117 (pc := 52) C d_Model_turn_52 ?_
            refine v_aload_n (pc := 55) C d_Model_turn_55 rfl rfl ?_
            refine gf_Model_84 (pc := 56) C d_Model_turn_56 ?_
            refine v_iload_n (pc := 59) C d_Model_turn_59 rfl rfl ?_
            refine v_ialoadK (pc := 60) C rfl rfl (rfl) (hh) (by decide) d_Model_turn_60 ?_
            refine v_icmp_ge (pc := 61) (tgt := 77) C d_Model_turn_61 (by decide) (fun h61 => ?_) (fun h61 => ?_)
            · refine v_aload_n (pc := 77) C d_Model_turn_77 rfl rfl ?_
              refine gf_Model_81 (pc := 78) C d_Model_turn_78 ?_
              refine v_iload_n (pc := 81) C d_Model_turn_81 rfl rfl ?_
              refine v_iconst (pc := 82) (v := 0) C d_Model_turn_82 (by decide) ?_
              refine v_iastoreK (pc := 83) C rfl rfl (rfl) (hh) (by decide) d_Model_turn_83 ?_
              have E : gTurn0 σ h = (ty_up σ 43 0 h 0) := by unfold gTurn0; rw [if_neg (fun q => q.2.2 h22)]; rw [if_pos (Or.inl ⟨Or.inr h48, h61⟩)]
              exact loop 12 (ty_up σ 43 0 h 0) _ (by rw [E] at hg; exact hg) (by unfold gTurn; rw [E])
            · refine v_iload_n (pc := 64) C d_Model_turn_64 rfl rfl ?_
              refine v_iconst (pc := 65) (v := 4) C d_Model_turn_65 (by decide) ?_
              refine v_icmp_ne (pc := 66) (tgt := 84) C d_Model_turn_66 (by decide) (fun h66 => ?_) (fun h66 => ?_)
              · have E : gTurn0 σ h = σ := by unfold gTurn0; rw [if_neg (fun q => q.2.2 h22)]; rw [if_neg (by intro q; rcases q with ⟨q1, q2⟩ | ⟨q1, q2⟩; exact h61 q2; exact h66 q1)]
                exact loop 12 σ _ (by rw [E] at hg; exact hg) (by unfold gTurn; rw [E])
              · refine v_aload_n (pc := 69) C d_Model_turn_69 rfl rfl ?_
                refine v_iload_n (pc := 70) C d_Model_turn_70 rfl rfl ?_
                refine cl_Model_143 (pc := 71) C (m_joined l hJ σ sc (by omega) hsc1 h) ⟨rfl, rfl, by decide, by decide⟩ rfl rfl (Nat.le_of_ble_eq_true rfl) d_Model_turn_71 (fun r σ' hq => ?_)
                rw [hq.1, hq.2]
                refine v_if_eq (pc := 74) (tgt := 84) C d_Model_turn_74 (by decide) (fun h74 => ?_) (fun h74 => ?_)
                · have E : gTurn0 σ h = σ := by unfold gTurn0; rw [if_neg (fun q => q.2.2 h22)]; rw [if_neg (by intro q; rcases q with ⟨q1, q2⟩ | ⟨q1, q2⟩; exact h61 q2; rw [hns] at q2; rw [if_pos q2] at h74; exact absurd h74 (by decide))]
                  exact loop 12 σ _ (by rw [E] at hg; exact hg) (by unfold gTurn; rw [E])
                · refine v_aload_n (pc := 77) C d_Model_turn_77 rfl rfl ?_
                  refine gf_Model_81 (pc := 78) C d_Model_turn_78 ?_
                  refine v_iload_n (pc := 81) C d_Model_turn_81 rfl rfl ?_
                  refine v_iconst (pc := 82) (v := 0) C d_Model_turn_82 (by decide) ?_
                  refine v_iastoreK (pc := 83) C rfl rfl (rfl) (hh) (by decide) d_Model_turn_83 ?_
                  have E : gTurn0 σ h = (ty_up σ 43 0 h 0) := by unfold gTurn0; rw [if_neg (fun q => q.2.2 h22)]; rw [if_pos (Or.inr ⟨h66, by rw [hns]; by_cases e : gJoined σ h sc = true; exact e; exact absurd (if_neg e) h74⟩)]
                  exact loop 12 (ty_up σ 43 0 h 0) _ (by rw [E] at hg; exact hg) (by unfold gTurn; rw [E])
      · obtain ⟨z0, hz0, hzq, c0, hc0, hcq⟩ := hzw h8 h13 h22
        have hz1 : σ 42 0 h - 1 = nI z0 := by rw [hzq]; exact nI_pred z0
        have hz1n : nn (σ 42 0 h - 1) = z0 := by rw [hz1]; exact nI_clamp (by omega)
        refine v_aload_n (pc := 25) C d_Model_turn_25 rfl rfl ?_
        refine v_iload_n (pc := 26) C d_Model_turn_26 rfl rfl ?_
        refine v_aload_n (pc := 27) C d_Model_turn_27 rfl rfl ?_
        refine gf_Model_78 (pc := 28) C d_Model_turn_28 ?_
        refine v_iload_n (pc := 31) C d_Model_turn_31 rfl rfl ?_
        refine v_ialoadK (pc := 32) C rfl rfl (rfl) (hh) (by decide) d_Model_turn_32 ?_
        refine v_iconst (pc := 33) (v := 1) C d_Model_turn_33 (by decide) ?_
        refine v_isub (pc := 34) C d_Model_turn_34 ?_
        refine cl_Model_140 (pc := 35) C (m_interrupts l hJ σ hs h hh ht c0 hc0 hcq _ z0 (by omega) hz1) ⟨rfl, rfl, by decide, by decide⟩ rfl rfl (Nat.le_of_ble_eq_true rfl) d_Model_turn_35 (fun r σ' hq => ?_)
        rw [hq.1, hq.2]
        refine v_goto (pc := 38) (tgt := 84) C d_Model_turn_38 (by decide) ?_
        have E : gTurn0 σ h = (gInterrupts σ h z0) := by unfold gTurn0; rw [if_pos ⟨h8, h13, h22⟩, hz1n]
        exact loop 12 (gInterrupts σ h z0) _ (by rw [E] at hg; exact hg) (by unfold gTurn; rw [E])
set_option maxRecDepth 100000 in
set_option maxHeartbeats 4000000 in
theorem m_isFree (l : Launch) {D : va_G} {ad : Nat → Nat → Nat} {cA : Nat → ClassId} (hJ : ty_J cnM ad) (σ : ty_St) (w : Nat) (hw : w < 4) (hto : 0 ≤ σ 38 0 w → vp_in (σ 38 0 w) 12 ∧ vp_in (σ 34 0 (nn (σ 38 0 w))) 64) : ty_M l y_Model_isFree (Cond.code y_Model_isFree b_Model_isFree 3 (some .boolean) :: ty_w) (rmL 0) cnM D ad cA [.inr (20, 0), .inl (nI w)] σ (fun r σ' => r = some (.inl (if gFree σ w = true then 1 else 0)) ∧ σ' = σ) := by
  refine ty_M.of rfl hJ layM (ty_oks.cons (show (0 : Nat) < cnM 20 by decide) (ty_oks.cons trivial ty_oks.nil)) (Nat.le_of_ble_eq_true rfl) ?_
  intro p e s m args below meth c C hr hnm
  refine v_aload_n (pc := 0) C d_Model_isFree_0 rfl rfl ?_
  refine gf_Model_66 (pc := 1) C d_Model_isFree_1 ?_
  refine v_iload_n (pc := 4) C d_Model_isFree_4 rfl rfl ?_
  refine v_ialoadK (pc := 5) C rfl rfl (rfl) (hw) (by decide) d_Model_isFree_5 ?_
  refine v_istore_n (pc := 6) C d_Model_isFree_6 rfl (by decide) ?_
  refine v_iload_n (pc := 7) C d_Model_isFree_7 rfl rfl ?_
  refine v_if_lt (pc := 8) (tgt := 51) C d_Model_isFree_8 (by decide) (fun h8 => ?_) (fun h8 => ?_)
  · refine v_iconst (pc := 51) (v := 1) C d_Model_isFree_51 (by decide) ?_
    refine v_goto (pc := 52) (tgt := 56) C d_Model_isFree_52 (by decide) ?_
    exact v_zreturn (pc := 56) C hr rfl ⟨by unfold gFree; simp [h8], rfl⟩ d_Model_isFree_56
  · refine v_aload_n (pc := 11) C d_Model_isFree_11 rfl rfl ?_
    refine gf_Model_81 (pc := 12) C d_Model_isFree_12 ?_
    refine v_aload_n (pc := 15) C d_Model_isFree_15 rfl rfl ?_
    refine gf_Model_53 (pc := 16) C d_Model_isFree_16 ?_
    refine v_iload_n (pc := 19) C d_Model_isFree_19 rfl rfl ?_
    refine v_iaload (pc := 20) C rfl rfl (hto (Int32.not_lt.mp h8)).1 d_Model_isFree_20 ?_
    refine v_iaload (pc := 21) C rfl rfl (hto (Int32.not_lt.mp h8)).2 d_Model_isFree_21 ?_
    refine v_iconst (pc := 22) (v := 5) C d_Model_isFree_22 (by decide) ?_
    refine v_icmp_eq (pc := 23) (tgt := 51) C d_Model_isFree_23 (by decide) (fun h23 => ?_) (fun h23 => ?_)
    · refine v_iconst (pc := 51) (v := 1) C d_Model_isFree_51 (by decide) ?_
      refine v_goto (pc := 52) (tgt := 56) C d_Model_isFree_52 (by decide) ?_
      exact v_zreturn (pc := 56) C hr rfl ⟨by unfold gFree; simp [h23], rfl⟩ d_Model_isFree_56
    · refine v_aload_n (pc := 26) C d_Model_isFree_26 rfl rfl ?_
      refine gf_Model_38 (pc := 27) C d_Model_isFree_27 ?_
      refine v_iload_n (pc := 30) C d_Model_isFree_30 rfl rfl ?_
      refine v_iaload (pc := 31) C rfl rfl (hto (Int32.not_lt.mp h8)).1 d_Model_isFree_31 ?_
      refine v_iconst (pc := 32) (v := 3) C d_Model_isFree_32 (by decide) ?_
      refine v_icmp_ne (pc := 33) (tgt := 55) C d_Model_isFree_33 (by decide) (fun h33 => ?_) (fun h33 => ?_)
      · refine v_iconst (pc := 55) (v := 0) C d_Model_isFree_55 (by decide) ?_
        exact v_zreturn (pc := 56) C hr rfl ⟨by unfold gFree; simp [h8, h23, h33], rfl⟩ d_Model_isFree_56
      · refine v_aload_n (pc := 36) C d_Model_isFree_36 rfl rfl ?_
        refine gf_Model_117 (pc := 37) C d_Model_isFree_37 ?_
        refine v_aload_n (pc := 40) C d_Model_isFree_40 rfl rfl ?_
        refine gf_Model_47 (pc := 41) C d_Model_isFree_41 ?_
        refine v_iload_n (pc := 44) C d_Model_isFree_44 rfl rfl ?_
        refine v_iaload (pc := 45) C rfl rfl (hto (Int32.not_lt.mp h8)).1 d_Model_isFree_45 ?_
        refine v_iconst (pc := 46) (v := 3) C d_Model_isFree_46 (by decide) ?_
        refine v_iadd (pc := 47) C d_Model_isFree_47 ?_
        refine v_icmp_lt (pc := 48) (tgt := 55) C d_Model_isFree_48 (by decide) (fun h48 => ?_) (fun h48 => ?_)
        · refine v_iconst (pc := 55) (v := 0) C d_Model_isFree_55 (by decide) ?_
          exact v_zreturn (pc := 56) C hr rfl ⟨by unfold gFree; simp [h8, h23, h33, Int32.not_le.mpr h48], rfl⟩ d_Model_isFree_56
        · refine v_iconst (pc := 51) (v := 1) C d_Model_isFree_51 (by decide) ?_
          refine v_goto (pc := 52) (tgt := 56) C d_Model_isFree_52 (by decide) ?_
          exact v_zreturn (pc := 56) C hr rfl ⟨by unfold gFree; simp [h33, Int32.not_lt.mp h48], rfl⟩ d_Model_isFree_56
