theorem gG1_a {τ : ty_St} {q k a : Nat} (h : ¬ a = 24) : (gG1 τ q k) a = τ a := by
  unfold gG1
  split
  · rw [up_a h]
  · rfl
theorem gGp_a {τ : ty_St} {q a : Nat} (h : ¬ a = 24) : ∀ k, (gGp τ q k) a = τ a
  | 0 => rfl
  | k + 1 => (gG1_a h).trans (gGp_a h k)
theorem gGs_a {τ : ty_St} {a : Nat} (h : ¬ a = 24) : ∀ q, (gGs τ q) a = τ a
  | 0 => rfl
  | q + 1 => (gGp_a h _).trans (gGs_a h q)
theorem gInner_in {τ : ty_St} {b : Nat} {pl : Int32} : ∀ n, gInner τ b pl n = -1 ∨ ∃ g, g < n ∧ gInner τ b pl n = nI g ∧ τ 21 0 (b + g) = 4 ∧ pl ≤ τ 24 0 (b + g)
  | 0 => Or.inl rfl
  | n + 1 => by
    unfold gInner
    split
    · rename_i q; exact Or.inr ⟨n, by omega, rfl, q.1, q.2⟩
    · rcases gInner_in (τ := τ) (b := b) (pl := pl) n with e | ⟨g, hg, e, e2⟩
      · exact Or.inl e
      · exact Or.inr ⟨g, by omega, e, e2⟩
theorem i10 (c : Nat) : (10 : Int32) * nI c = nI (10 * c) := pk_mul 10 c
set_option maxRecDepth 100000 in
set_option maxHeartbeats 4000000 in
theorem m_interrupts (l : Launch) {D : va_G} {ad : Nat → Nat → Nat} {cA : Nat → ClassId} (hJ : ty_J cnM ad) (σ : ty_St) (hs : ¬ σ 20 0 5 < 0) (h : Nat) (hh : h < 64) (ht : vp_in (σ 39 0 h) 12) (c0 : Nat) (hc0 : c0 < 10) (hc : σ 41 0 h = nI c0) (y : Int32) (pl : Nat) (hpl : pl ≤ 10) (hy : y = nI pl) : ty_M l y_Model_interrupts (Cond.code y_Model_interrupts b_Model_interrupts 6 none :: ty_w) (rmL 2) cnM D ad cA [.inr (20, 0), .inl (nI h), .inl y] σ (fun r σ' => r = none ∧ σ' = gInterrupts σ h pl) := by
  refine ty_M.of rfl hJ layM (ty_oks.cons (show (0 : Nat) < cnM 20 by decide) (ty_oks.cons trivial (ty_oks.cons trivial ty_oks.nil))) (Nat.le_of_ble_eq_true rfl) ?_
  intro p e s m args below meth c C hr hnm
  subst hy
  have hcn : nn (σ 41 0 h) = c0 := by rw [hc]; exact nI_clamp (by omega)
  have loop : ∀ k i, i + k = pl → ∀ x : Int32, x = gInner σ (10 * c0) (nI pl) i → ty_V cnM p l e (rmL 2) s m args below meth c D ad cA (ty_Gd cnM ad s) 6 (MQ below (ty_Q cnM D ad cA (fun r σ' => r = none ∧ σ' = gInterrupts σ h pl) (ty_A cnM ad)) args s 0 0 (ty_A cnM ad)) (ty_up σ 45 0 h 0) [some (.inr (20, 0)), some (.inl (nI h)), some (.inl (nI pl)), some (.inl (nI (10 * c0))), some (.inl x), some (.inl (nI i))] 23 [] := by
    intro  k
    induction k with
    | zero =>
      intro i hi x hx
      have hb := (rfl : nI pl = nI pl)
      refine v_iload (pc := 23) C d_Model_interrupts_23 rfl ?_
      refine v_iload_n (pc := 25) C d_Model_interrupts_25 rfl rfl ?_
      refine v_icmp_ge (pc := 26) (tgt := 65) C d_Model_interrupts_26 (by decide) (fun h26 => ?_) (fun h26 => ?_)
      · refine v_iload (pc := 65) C d_Model_interrupts_65 rfl ?_
        refine v_if_ge (pc := 67) (tgt := 80) C d_Model_interrupts_67 (by decide) (fun h67 => ?_) (fun h67 => ?_)
        · obtain ⟨g, hg, eg, -⟩ := (gInner_in (τ := σ) (b := 10 * c0) (pl := nI pl) i).resolve_left (fun q => by rw [hx, q] at h67; exact absurd h67 (by decide))
          rw [← hx] at eg
          refine v_aload_n (pc := 80) C d_Model_interrupts_80 rfl rfl ?_
          refine gf_Model_81 (pc := 81) C d_Model_interrupts_81 ?_
          refine v_iload_n (pc := 84) C d_Model_interrupts_84 rfl rfl ?_
          refine v_iconst (pc := 85) (v := 0) C d_Model_interrupts_85 (by decide) ?_
          refine v_iastoreK (pc := 86) C rfl rfl (rfl) (hh) (by decide) d_Model_interrupts_86 ?_
          refine v_aload_n (pc := 87) C d_Model_interrupts_87 rfl rfl ?_
          refine gf_Model_78 (pc := 88) C d_Model_interrupts_88 ?_
          refine v_iload_n (pc := 91) C d_Model_interrupts_91 rfl rfl ?_
          refine v_aload_n (pc := 92) C d_Model_interrupts_92 rfl rfl ?_
          refine gf_Model_23 (pc := 93) C d_Model_interrupts_93 ?_
          refine v_iload_n (pc := 96) C d_Model_interrupts_96 rfl rfl ?_
          refine v_iload (pc := 97) C d_Model_interrupts_97 rfl ?_
          refine v_iadd (pc := 99) C d_Model_interrupts_99 ?_
          refine v_ialoadK (pc := 100) C rfl rfl ((by rw [eg]; exact nI_add _ _)) (by omega) (by decide) d_Model_interrupts_100 ?_
          refine v_iconst (pc := 101) (v := 1) C d_Model_interrupts_101 (by decide) ?_
          refine v_iadd (pc := 102) C d_Model_interrupts_102 ?_
          refine v_iastoreK (pc := 103) C rfl rfl (rfl) (hh) (by decide) d_Model_interrupts_103 ?_
          exact v_return (pc := 104) C hr ⟨rfl, by
            unfold gInterrupts
            have hx2 : gInner σ (10 * c0) (nI pl) pl = x := by rw [hx, show i = pl by omega]
            rw [hcn, hx2]; rw [if_neg (Int32.not_lt.mpr h67), eg, show nn (nI g) = g from nI_clamp (by omega)]; rfl⟩ d_Model_interrupts_104
        · refine v_aload_n (pc := 70) C d_Model_interrupts_70 rfl rfl ?_
          refine v_iload_n (pc := 71) C d_Model_interrupts_71 rfl rfl ?_
          refine v_bipush (pc := 72) (v := 100) C d_Model_interrupts_72 (by decide) ?_
          refine cl_Model_138 (pc := 74) C (m_ends l hJ (ty_up σ 45 0 h 0) (by exact hs) h hh (by exact ht) 100) ⟨rfl, rfl, by decide, by decide⟩ rfl rfl (Nat.le_of_ble_eq_true rfl) d_Model_interrupts_74 (fun r σ' hq => ?_)
          rw [hq.1, hq.2]
          refine v_goto (pc := 77) (tgt := 104) C d_Model_interrupts_77 (by decide) ?_
          exact v_return (pc := 104) C hr ⟨rfl, by
            unfold gInterrupts
            have hx2 : gInner σ (10 * c0) (nI pl) pl = x := by rw [hx, show i = pl by omega]
            rw [hcn, hx2]; rw [if_pos (Int32.not_le.mp h67)]⟩ d_Model_interrupts_104
      · exact absurd (by rw [hb]; exact nI_le (by omega) (by omega)) h26
    | succ k ih =>
      intro i hi x hx
      have hb := (rfl : nI pl = nI pl)
      refine v_iload (pc := 23) C d_Model_interrupts_23 rfl ?_
      refine v_iload_n (pc := 25) C d_Model_interrupts_25 rfl rfl ?_
      refine v_icmp_ge (pc := 26) (tgt := 65) C d_Model_interrupts_26 (by decide) (fun h26 => ?_) (fun h26 => ?_)
      · exact absurd h26 (by rw [hb]; exact nI_ge (by omega) (by omega))
      · refine v_aload_n (pc := 29) C d_Model_interrupts_29 rfl rfl ?_
        refine gf_Model_13 (pc := 30) C d_Model_interrupts_30 ?_
        refine v_iload_n (pc := 33) C d_Model_interrupts_33 rfl rfl ?_
        refine v_iload (pc := 34) C d_Model_interrupts_34 rfl ?_
        refine v_iadd (pc := 36) C d_Model_interrupts_36 ?_
        refine v_ialoadK (pc := 37) C rfl rfl ((nI_add _ _)) (by omega) (by decide) d_Model_interrupts_37 ?_
        refine v_iconst (pc := 38) (v := 4) C d_Model_interrupts_38 (by decide) ?_
        refine v_icmp_ne (pc := 39) (tgt := 59) C d_Model_interrupts_39 (by decide) (fun h39 => ?_) (fun h39 => ?_)
        · refine v_iinc (pc := 59) C d_Model_interrupts_59 rfl (show _ + Int32.ofInt 1 = _ + 1 from rfl) (by decide) ?_
          refine v_goto (pc := 62) (tgt := 23) C d_Model_interrupts_62 (by decide) ?_
          rw [nI_1 i]
          refine ih (i + 1) (by omega) _ ?_
          unfold gInner
          rw [if_neg (fun q => h39 q.1)]; exact hx
        · refine v_aload_n (pc := 42) C d_Model_interrupts_42 rfl rfl ?_
          refine gf_Model_23 (pc := 43) C d_Model_interrupts_43 ?_
          refine v_iload_n (pc := 46) C d_Model_interrupts_46 rfl rfl ?_
          refine v_iload (pc := 47) C d_Model_interrupts_47 rfl ?_
          refine v_iadd (pc := 49) C d_Model_interrupts_49 ?_
          refine v_ialoadK (pc := 50) C rfl rfl ((nI_add _ _)) (by omega) (by decide) d_Model_interrupts_50 ?_
          refine v_iload_n (pc := 51) C d_Model_interrupts_51 rfl rfl ?_
          refine v_icmp_lt (pc := 52) (tgt := 59) C d_Model_interrupts_52 (by decide) (fun h52 => ?_) (fun h52 => ?_)
          · refine v_iinc (pc := 59) C d_Model_interrupts_59 rfl (show _ + Int32.ofInt 1 = _ + 1 from rfl) (by decide) ?_
            refine v_goto (pc := 62) (tgt := 23) C d_Model_interrupts_62 (by decide) ?_
            rw [nI_1 i]
            refine ih (i + 1) (by omega) _ ?_
            unfold gInner
            rw [if_neg (fun q => absurd q.2 (Int32.not_le.mpr h52))]; exact hx
          · refine v_iload (pc := 55) C d_Model_interrupts_55 rfl ?_
            refine v_istore (pc := 57) C d_Model_interrupts_57 (by decide) ?_
            refine v_iinc (pc := 59) C d_Model_interrupts_59 rfl (show _ + Int32.ofInt 1 = _ + 1 from rfl) (by decide) ?_
            refine v_goto (pc := 62) (tgt := 23) C d_Model_interrupts_62 (by decide) ?_
            rw [nI_1 i]
            refine ih (i + 1) (by omega) _ ?_
            unfold gInner
            rw [if_pos (show σ 21 0 (10 * c0 + i) = 4 ∧ nI pl ≤ σ 24 0 (10 * c0 + i) from ⟨h39, Int32.not_lt.mp h52⟩)]
  refine v_aload_n (pc := 0) C d_Model_interrupts_0 rfl rfl ?_
  refine gf_Model_87 (pc := 1) C d_Model_interrupts_1 ?_
  refine v_iload_n (pc := 4) C d_Model_interrupts_4 rfl rfl ?_
  refine v_iconst (pc := 5) (v := 0) C d_Model_interrupts_5 (by decide) ?_
  refine v_bastoreK (pc := 6) C rfl rfl (rfl) (hh) (by decide) rfl d_Model_interrupts_6 ?_
  refine v_bipush (pc := 7) (v := 10) C d_Model_interrupts_7 (by decide) ?_
  refine v_aload_n (pc := 9) C d_Model_interrupts_9 rfl rfl ?_
  refine gf_Model_75 (pc := 10) C d_Model_interrupts_10 ?_
  refine v_iload_n (pc := 13) C d_Model_interrupts_13 rfl rfl ?_
  refine v_ialoadK (pc := 14) C rfl rfl (rfl) (hh) (by decide) d_Model_interrupts_14 ?_
  refine v_imul (pc := 15) C d_Model_interrupts_15 ?_
  rw [show (10 : Int32) * (ty_up σ 45 0 h 0) 41 0 h = nI (10 * c0) from by rw [show (ty_up σ 45 0 h 0) 41 0 h = nI c0 from hc]; exact i10 c0]
  refine v_istore_n (pc := 16) C d_Model_interrupts_16 rfl (by decide) ?_
  refine v_iconst (pc := 17) (v := (-1)) C d_Model_interrupts_17 (by decide) ?_
  refine v_istore (pc := 18) C d_Model_interrupts_18 (by decide) ?_
  refine v_iconst (pc := 20) (v := 0) C d_Model_interrupts_20 (by decide) ?_
  refine v_istore (pc := 21) C d_Model_interrupts_21 (by decide) ?_
  exact loop pl 0 (by omega) _ rfl
set_option maxRecDepth 100000 in
set_option maxHeartbeats 4000000 in
theorem m_waits (l : Launch) {D : va_G} {ad : Nat → Nat → Nat} {cA : Nat → ClassId} (hJ : ty_J cnM ad) (σ : ty_St) (hs : ¬ σ 20 0 5 < 0) (h : Nat) (hh : h < 64) (ht : vp_in (σ 39 0 h) 12) (c0 : Nat) (hc0 : c0 < 10) (hc : σ 41 0 h = nI c0) (z : Nat) (hz : z < 10) (hat : σ 42 0 h = nI (z + 1)) (how ticks : Int32) : ty_M l y_Model_waits (Cond.code y_Model_waits b_Model_waits 4 none :: ty_w) (rmL 3) cnM D ad cA [.inr (20, 0), .inl (nI h), .inl how, .inl ticks] σ (fun r σ' => r = none ∧ σ' = gWaits σ h how ticks) := by
  refine ty_M.of rfl hJ layM (ty_oks.cons (show (0 : Nat) < cnM 20 by decide) (ty_oks.cons trivial (ty_oks.cons trivial (ty_oks.cons trivial ty_oks.nil)))) (Nat.le_of_ble_eq_true rfl) ?_
  intro p e s m args below meth c C hr hnm
  have hz1 : σ 42 0 h - 1 = nI z := by rw [hat]; exact nI_pred z
  have hzn : nn (σ 42 0 h - 1) = z := by rw [hz1]; exact nI_clamp (by omega)
  refine v_iload_n (pc := 0) C d_Model_waits_0 rfl rfl ?_
  refine v_iconst (pc := 1) (v := 1) C d_Model_waits_1 (by decide) ?_
  refine v_icmp_eq (pc := 2) (tgt := 28) C d_Model_waits_2 (by decide) (fun h2 => ?_) (fun h2 => ?_)
  · refine v_aload_n (pc := 28) C d_Model_waits_28 rfl rfl ?_
    refine gf_Model_81 (pc := 29) C d_Model_waits_29 ?_
    refine v_iload_n (pc := 32) C d_Model_waits_32 rfl rfl ?_
    refine v_iload_n (pc := 33) C d_Model_waits_33 rfl rfl ?_
    refine v_iastoreK (pc := 34) C rfl rfl (rfl) (hh) (by decide) d_Model_waits_34 ?_
    refine v_aload_n (pc := 35) C d_Model_waits_35 rfl rfl ?_
    refine gf_Model_84 (pc := 36) C d_Model_waits_36 ?_
    refine v_iload_n (pc := 39) C d_Model_waits_39 rfl rfl ?_
    refine v_aload_n (pc := 40) C d_Model_waits_40 rfl rfl ?_
    refine gf_Model_117 (pc := 41) C d_Model_waits_41 ?_
    refine v_iload_n (pc := 44) C d_Model_waits_44 rfl rfl ?_
    refine v_iadd (pc := 45) C d_Model_waits_45 ?_
    refine v_iastoreK (pc := 46) C rfl rfl (rfl) (hh) (by decide) d_Model_waits_46 ?_
    exact v_return (pc := 47) C hr ⟨rfl, by unfold gWaits; rw [if_neg (fun q => q.1 h2)]; rfl⟩ d_Model_waits_47
  · refine v_aload_n (pc := 5) C d_Model_waits_5 rfl rfl ?_
    refine gf_Model_87 (pc := 6) C d_Model_waits_6 ?_
    refine v_iload_n (pc := 9) C d_Model_waits_9 rfl rfl ?_
    refine v_baloadK (pc := 10) C rfl rfl (rfl) (hh) (by decide) d_Model_waits_10 ?_
    refine v_if_eq (pc := 11) (tgt := 28) C d_Model_waits_11 (by decide) (fun h11 => ?_) (fun h11 => ?_)
    · refine v_aload_n (pc := 28) C d_Model_waits_28 rfl rfl ?_
      refine gf_Model_81 (pc := 29) C d_Model_waits_29 ?_
      refine v_iload_n (pc := 32) C d_Model_waits_32 rfl rfl ?_
      refine v_iload_n (pc := 33) C d_Model_waits_33 rfl rfl ?_
      refine v_iastoreK (pc := 34) C rfl rfl (rfl) (hh) (by decide) d_Model_waits_34 ?_
      refine v_aload_n (pc := 35) C d_Model_waits_35 rfl rfl ?_
      refine gf_Model_84 (pc := 36) C d_Model_waits_36 ?_
      refine v_iload_n (pc := 39) C d_Model_waits_39 rfl rfl ?_
      refine v_aload_n (pc := 40) C d_Model_waits_40 rfl rfl ?_
      refine gf_Model_117 (pc := 41) C d_Model_waits_41 ?_
      refine v_iload_n (pc := 44) C d_Model_waits_44 rfl rfl ?_
      refine v_iadd (pc := 45) C d_Model_waits_45 ?_
      refine v_iastoreK (pc := 46) C rfl rfl (rfl) (hh) (by decide) d_Model_waits_46 ?_
      exact v_return (pc := 47) C hr ⟨rfl, by unfold gWaits; rw [if_neg (fun q => q.2 h11)]; rfl⟩ d_Model_waits_47
    · refine v_aload_n (pc := 14) C d_Model_waits_14 rfl rfl ?_
      refine v_iload_n (pc := 15) C d_Model_waits_15 rfl rfl ?_
      refine v_aload_n (pc := 16) C d_Model_waits_16 rfl rfl ?_
      refine gf_Model_78 (pc := 17) C d_Model_waits_17 ?_
      refine v_iload_n (pc := 20) C d_Model_waits_20 rfl rfl ?_
      refine v_ialoadK (pc := 21) C rfl rfl (rfl) (hh) (by decide) d_Model_waits_21 ?_
      refine v_iconst (pc := 22) (v := 1) C d_Model_waits_22 (by decide) ?_
      refine v_isub (pc := 23) C d_Model_waits_23 ?_
      refine cl_Model_140 (pc := 24) C (m_interrupts l hJ σ hs h hh ht c0 hc0 hc _ z (by omega) hz1) ⟨rfl, rfl, by decide, by decide⟩ rfl rfl (Nat.le_of_ble_eq_true rfl) d_Model_waits_24 (fun r σ' hq => ?_)
      rw [hq.1, hq.2]
      exact v_return (pc := 27) C hr ⟨rfl, by unfold gWaits; rw [if_pos ⟨h2, h11⟩, hzn]⟩ d_Model_waits_27
