set_option maxRecDepth 100000 in
set_option maxHeartbeats 4000000 in
theorem m_guards (l : Launch) {D : va_G} {ad : Nat → Nat → Nat} {cA : Nat → ClassId} (hJ : ty_J cnM ad) (σ : ty_St) (hz : ∀ q, q < 10 → ∃ k, k ≤ 10 ∧ σ 23 0 q = nI k) : ty_M l y_Model_guards (Cond.code y_Model_guards b_Model_guards 5 none :: ty_w) (rmL 1) cnM D ad cA [.inr (20, 0)] σ (fun r σ' => r = none ∧ σ' = gGs σ 10) := by
  refine ty_M.of rfl hJ layM (ty_oks.cons (show (0 : Nat) < cnM 20 by decide) ty_oks.nil) (Nat.le_of_ble_eq_true rfl) ?_
  intro p e s m args below meth c C hr hnm
  have inner : ∀ pp kk : Nat, pp < 10 → kk < 10 → ∀ (τ : ty_St) (e0 : Int32), (∀ x y : Int32, ty_V cnM p l e (rmL 1) s m args below meth c D ad cA (ty_Gd cnM ad s) 5 (MQ below (ty_Q cnM D ad cA (fun r σ' => r = none ∧ σ' = gGs σ 10) (ty_A cnM ad)) args s 0 0 (ty_A cnM ad)) (ty_up τ 24 0 (10 * pp + kk) (gGin τ pp kk e0 kk)) [some (.inr (20, 0)), some (.inl (nI pp)), some (.inl (nI kk)), some (.inl x), some (.inl y)] 139 []) → ∀ k i, i + k = kk → ∀ x : Int32, x = gGin τ pp kk e0 i → ty_V cnM p l e (rmL 1) s m args below meth c D ad cA (ty_Gd cnM ad s) 5 (MQ below (ty_Q cnM D ad cA (fun r σ' => r = none ∧ σ' = gGs σ 10) (ty_A cnM ad)) args s 0 0 (ty_A cnM ad)) τ [some (.inr (20, 0)), some (.inl (nI pp)), some (.inl (nI kk)), some (.inl x), some (.inl (nI i))] 66 [] := by
    intro pp kk hpp hkk τ e0 cont k
    induction k with
    | zero =>
      intro i hi x hx
      have hb := (rfl : nI kk = nI kk)
      refine v_iload (pc := 66) C d_Model_guards_66 rfl ?_
      refine v_iload_n (pc := 68) C d_Model_guards_68 rfl rfl ?_
      refine v_icmp_ge (pc := 69) (tgt := 127) C d_Model_guards_69 (by decide) (fun h69 => ?_) (fun h69 => ?_)
      · refine v_aload_n (pc := 127) C d_Model_guards_127 rfl rfl ?_
        refine gf_Model_23 (pc := 128) C d_Model_guards_128 ?_
        refine v_bipush (pc := 131) (v := 10) C d_Model_guards_131 (by decide) ?_
        refine v_iload_n (pc := 133) C d_Model_guards_133 rfl rfl ?_
        refine v_imul (pc := 134) C d_Model_guards_134 ?_
        refine v_iload_n (pc := 135) C d_Model_guards_135 rfl rfl ?_
        refine v_iadd (pc := 136) C d_Model_guards_136 ?_
        refine v_iload_n (pc := 137) C d_Model_guards_137 rfl rfl ?_
        refine v_iastoreK (pc := 138) C rfl rfl ((by rw [i10]; exact nI_add _ _)) (by omega) (by decide) d_Model_guards_138 ?_
        rw [hx, show i = kk by omega]
        exact cont _ _
      · exact absurd (by rw [hb]; exact nI_le (by omega) (by omega)) h69
    | succ k ih =>
      intro i hi x hx
      have hb := (rfl : nI kk = nI kk)
      refine v_iload (pc := 66) C d_Model_guards_66 rfl ?_
      refine v_iload_n (pc := 68) C d_Model_guards_68 rfl rfl ?_
      refine v_icmp_ge (pc := 69) (tgt := 127) C d_Model_guards_69 (by decide) (fun h69 => ?_) (fun h69 => ?_)
      · exact absurd h69 (by rw [hb]; exact nI_ge (by omega) (by omega))
      · refine v_aload_n (pc := 72) C d_Model_guards_72 rfl rfl ?_
        refine gf_Model_13 (pc := 73) C d_Model_guards_73 ?_
        refine v_bipush (pc := 76) (v := 10) C d_Model_guards_76 (by decide) ?_
        refine v_iload_n (pc := 78) C d_Model_guards_78 rfl rfl ?_
        refine v_imul (pc := 79) C d_Model_guards_79 ?_
        refine v_iload (pc := 80) C d_Model_guards_80 rfl ?_
        refine v_iadd (pc := 82) C d_Model_guards_82 ?_
        refine v_ialoadK (pc := 83) C rfl rfl ((by rw [i10]; exact nI_add _ _)) (by omega) (by decide) d_Model_guards_83 ?_
        refine v_iconst (pc := 84) (v := 4) C d_Model_guards_84 (by decide) ?_
        refine v_icmp_ne (pc := 85) (tgt := 121) C d_Model_guards_85 (by decide) (fun h85 => ?_) (fun h85 => ?_)
        · refine v_iinc (pc := 121) C d_Model_guards_121 rfl (show _ + Int32.ofInt 1 = _ + 1 from rfl) (by decide) ?_
          refine v_goto (pc := 124) (tgt := 66) C d_Model_guards_124 (by decide) ?_
          rw [nI_1 i]
          refine ih (i + 1) (by omega) _ ?_
          unfold gGin
          rw [if_neg (fun q => h85 q.1)]; exact hx
        · refine v_aload_n (pc := 88) C d_Model_guards_88 rfl rfl ?_
          refine gf_Model_23 (pc := 89) C d_Model_guards_89 ?_
          refine v_bipush (pc := 92) (v := 10) C d_Model_guards_92 (by decide) ?_
          refine v_iload_n (pc := 94) C d_Model_guards_94 rfl rfl ?_
          refine v_imul (pc := 95) C d_Model_guards_95 ?_
          refine v_iload (pc := 96) C d_Model_guards_96 rfl ?_
          refine v_iadd (pc := 98) C d_Model_guards_98 ?_
          refine v_ialoadK (pc := 99) C rfl rfl ((by rw [i10]; exact nI_add _ _)) (by omega) (by decide) d_Model_guards_99 ?_
          refine v_iload_n (pc := 100) C d_Model_guards_100 rfl rfl ?_
          refine v_icmp_lt (pc := 101) (tgt := 121) C d_Model_guards_101 (by decide) (fun h101 => ?_) (fun h101 => ?_)
          · refine v_iinc (pc := 121) C d_Model_guards_121 rfl (show _ + Int32.ofInt 1 = _ + 1 from rfl) (by decide) ?_
            refine v_goto (pc := 124) (tgt := 66) C d_Model_guards_124 (by decide) ?_
            rw [nI_1 i]
            refine ih (i + 1) (by omega) _ ?_
            unfold gGin
            rw [if_neg (fun q => absurd q.2 (Int32.not_le.mpr h101))]; exact hx
          · refine v_iload_n (pc := 104) C d_Model_guards_104 rfl rfl ?_
            refine v_aload_n (pc := 105) C d_Model_guards_105 rfl rfl ?_
            refine gf_Model_23 (pc := 106) C d_Model_guards_106 ?_
            refine v_bipush (pc := 109) (v := 10) C d_Model_guards_109 (by decide) ?_
            refine v_iload_n (pc := 111) C d_Model_guards_111 rfl rfl ?_
            refine v_imul (pc := 112) C d_Model_guards_112 ?_
            refine v_iload (pc := 113) C d_Model_guards_113 rfl ?_
            refine v_iadd (pc := 115) C d_Model_guards_115 ?_
            refine v_ialoadK (pc := 116) C rfl rfl ((by rw [i10]; exact nI_add _ _)) (by omega) (by decide) d_Model_guards_116 ?_
            refine cl_Model_134 (pc := 117) C (m_least l hJ τ _ _) ⟨rfl, rfl, by decide, by decide⟩ rfl rfl (Nat.le_of_ble_eq_true rfl) d_Model_guards_117 (fun r σ' hq => ?_)
            rw [hq.1, hq.2]
            refine v_istore_n (pc := 120) C d_Model_guards_120 rfl (by decide) ?_
            refine v_iinc (pc := 121) C d_Model_guards_121 rfl (show _ + Int32.ofInt 1 = _ + 1 from rfl) (by decide) ?_
            refine v_goto (pc := 124) (tgt := 66) C d_Model_guards_124 (by decide) ?_
            rw [nI_1 i]
            refine ih (i + 1) (by omega) _ ?_
            unfold gGin
            rw [if_pos ⟨h85, Int32.not_lt.mp h101⟩, hx]
  have mid : ∀ pp : Nat, pp < 10 → ∀ sz : Nat, sz ≤ 10 → ∀ τ0 : ty_St, τ0 23 0 pp = nI sz → ty_V cnM p l e (rmL 1) s m args below meth c D ad cA (ty_Gd cnM ad s) 5 (MQ below (ty_Q cnM D ad cA (fun r σ' => r = none ∧ σ' = gGs σ 10) (ty_A cnM ad)) args s 0 0 (ty_A cnM ad)) (gGp τ0 pp sz) [some (.inr (20, 0)), some (.inl (nI pp)), some (.inl (nI sz)), none, none] 145 [] → ∀ k i, i + k = sz → ∀ τ : ty_St, τ = gGp τ0 pp i → ty_V cnM p l e (rmL 1) s m args below meth c D ad cA (ty_Gd cnM ad s) 5 (MQ below (ty_Q cnM D ad cA (fun r σ' => r = none ∧ σ' = gGs σ 10) (ty_A cnM ad)) args s 0 0 (ty_A cnM ad)) τ [some (.inr (20, 0)), some (.inl (nI pp)), some (.inl (nI i)), none, none] 10 [] := by
    intro pp hpp sz hsz10 τ0 hsz cont k
    induction k with
    | zero =>
      intro i hi τ hτ
      have hb := (show τ 23 0 pp = nI sz by rw [hτ, gGp_a (by decide)]; exact hsz)
      refine v_iload_n (pc := 10) C d_Model_guards_10 rfl rfl ?_
      refine v_aload_n (pc := 11) C d_Model_guards_11 rfl rfl ?_
      refine gf_Model_20 (pc := 12) C d_Model_guards_12 ?_
      refine v_iload_n (pc := 15) C d_Model_guards_15 rfl rfl ?_
      refine v_ialoadK (pc := 16) C rfl rfl (rfl) (hpp) (by decide) d_Model_guards_16 ?_
      refine v_icmp_ge (pc := 17) (tgt := 145) C d_Model_guards_17 (by decide) (fun h17 => ?_) (fun h17 => ?_)
      · rw [hτ, show i = sz by omega]
        exact cont
      · exact absurd (by rw [hb]; exact nI_le (by omega) (by omega)) h17
    | succ k ih =>
      intro i hi τ hτ
      have hb := (show τ 23 0 pp = nI sz by rw [hτ, gGp_a (by decide)]; exact hsz)
      refine v_iload_n (pc := 10) C d_Model_guards_10 rfl rfl ?_
      refine v_aload_n (pc := 11) C d_Model_guards_11 rfl rfl ?_
      refine gf_Model_20 (pc := 12) C d_Model_guards_12 ?_
      refine v_iload_n (pc := 15) C d_Model_guards_15 rfl rfl ?_
      refine v_ialoadK (pc := 16) C rfl rfl (rfl) (hpp) (by decide) d_Model_guards_16 ?_
      refine v_icmp_ge (pc := 17) (tgt := 145) C d_Model_guards_17 (by decide) (fun h17 => ?_) (fun h17 => ?_)
      · exact absurd h17 (by rw [hb]; exact nI_ge (by omega) (by omega))
      · refine v_iload_n (pc := 20) C d_Model_guards_20 rfl rfl ?_
        refine v_aload_n (pc := 21) C d_Model_guards_21 rfl rfl ?_
        refine gf_Model_17 (pc := 22) C d_Model_guards_22 ?_
        refine v_bipush (pc := 25) (v := 10) C d_Model_guards_25 (by decide) ?_
        refine v_iload_n (pc := 27) C d_Model_guards_27 rfl rfl ?_
        refine v_imul (pc := 28) C d_Model_guards_28 ?_
        refine v_iload_n (pc := 29) C d_Model_guards_29 rfl rfl ?_
        refine v_iadd (pc := 30) C d_Model_guards_30 ?_
        refine v_ialoadK (pc := 31) C rfl rfl ((by rw [i10]; exact nI_add _ _)) (by omega) (by decide) d_Model_guards_31 ?_
        refine v_iadd (pc := 32) C d_Model_guards_32 ?_
        refine v_aload_n (pc := 33) C d_Model_guards_33 rfl rfl ?_
        refine gf_Model_20 (pc := 34) C d_Model_guards_34 ?_
        refine v_iload_n (pc := 37) C d_Model_guards_37 rfl rfl ?_
        refine v_ialoadK (pc := 38) C rfl rfl (rfl) (hpp) (by decide) d_Model_guards_38 ?_
        refine v_iconst (pc := 39) (v := 1) C d_Model_guards_39 (by decide) ?_
        refine v_isub (pc := 40) C d_Model_guards_40 ?_
        refine cl_Model_134 (pc := 41) C (m_least l hJ τ _ _) ⟨rfl, rfl, by decide, by decide⟩ rfl rfl (Nat.le_of_ble_eq_true rfl) d_Model_guards_41 (fun r σ' hq => ?_)
        rw [hq.1, hq.2]
        refine v_istore_n (pc := 44) C d_Model_guards_44 rfl (by decide) ?_
        refine v_aload_n (pc := 45) C d_Model_guards_45 rfl rfl ?_
        refine gf_Model_13 (pc := 46) C d_Model_guards_46 ?_
        refine v_bipush (pc := 49) (v := 10) C d_Model_guards_49 (by decide) ?_
        refine v_iload_n (pc := 51) C d_Model_guards_51 rfl rfl ?_
        refine v_imul (pc := 52) C d_Model_guards_52 ?_
        refine v_iload_n (pc := 53) C d_Model_guards_53 rfl rfl ?_
        refine v_iadd (pc := 54) C d_Model_guards_54 ?_
        refine v_ialoadK (pc := 55) C rfl rfl ((by rw [i10]; exact nI_add _ _)) (by omega) (by decide) d_Model_guards_55 ?_
        refine v_iconst (pc := 56) (v := 4) C d_Model_guards_56 (by decide) ?_
        refine v_icmp_eq (pc := 57) (tgt := 63) C d_Model_guards_57 (by decide) (fun h57 => ?_) (fun h57 => ?_)
        · refine v_iconst (pc := 63) (v := 0) C d_Model_guards_63 (by decide) ?_
          refine v_istore (pc := 64) C d_Model_guards_64 (by decide) ?_
          refine inner pp i hpp (by omega) τ _ (fun x y => ?_) i 0 (by omega) _ rfl
          refine v_iinc (pc := 139) C d_Model_guards_139 rfl (show _ + Int32.ofInt 1 = _ + 1 from rfl) (by decide) ?_
          refine v_goto (pc := 142) (tgt := 10) C d_Model_guards_142 (by decide) ?_
          refine v_forget C 3 ?_
          refine v_forget C 4 ?_
          rw [nI_1 i]
          refine ih (i + 1) (by omega) _ ?_
          show _ = gG1 (gGp τ0 pp i) pp i
          rw [← hτ]
          unfold gG1
          rw [if_pos h57]
          rfl
        · refine v_goto (pc := 60) (tgt := 139) C d_Model_guards_60 (by decide) ?_
          refine v_iinc (pc := 139) C d_Model_guards_139 rfl (show _ + Int32.ofInt 1 = _ + 1 from rfl) (by decide) ?_
          refine v_goto (pc := 142) (tgt := 10) C d_Model_guards_142 (by decide) ?_
          refine v_forget C 3 ?_
          refine v_forget C 4 ?_
          rw [nI_1 i]
          refine ih (i + 1) (by omega) _ ?_
          show _ = gG1 (gGp τ0 pp i) pp i
          rw [← hτ]
          unfold gG1
          rw [if_neg h57]
  have outer : ∀ k i, i + k = 10 → ∀ τ : ty_St, τ = gGs σ i → ty_V cnM p l e (rmL 1) s m args below meth c D ad cA (ty_Gd cnM ad s) 5 (MQ below (ty_Q cnM D ad cA (fun r σ' => r = none ∧ σ' = gGs σ 10) (ty_A cnM ad)) args s 0 0 (ty_A cnM ad)) τ [some (.inr (20, 0)), some (.inl (nI i)), none, none, none] 2 [] := by
    intro  k
    induction k with
    | zero =>
      intro i hi τ hτ
      have hb := (show (10 : Int32) = nI 10 from rfl)
      refine v_iload_n (pc := 2) C d_Model_guards_2 rfl rfl ?_
      refine v_bipush (pc := 3) (v := 10) C d_Model_guards_3 (by decide) ?_
      refine v_icmp_ge (pc := 5) (tgt := 151) C d_Model_guards_5 (by decide) (fun h5 => ?_) (fun h5 => ?_)
      · exact v_return (pc := 151) C hr ⟨rfl, by rw [hτ, show i = 10 by omega]⟩ d_Model_guards_151
      · exact absurd (by rw [hb]; exact nI_le (by omega) (by omega)) h5
    | succ k ih =>
      intro i hi τ hτ
      have hb := (show (10 : Int32) = nI 10 from rfl)
      obtain ⟨sz, hsz10, hsz⟩ := hz i (by omega)
      have hn : nn (σ 23 0 i) = sz := by rw [hsz]; exact nI_clamp (by omega)
      refine v_iload_n (pc := 2) C d_Model_guards_2 rfl rfl ?_
      refine v_bipush (pc := 3) (v := 10) C d_Model_guards_3 (by decide) ?_
      refine v_icmp_ge (pc := 5) (tgt := 151) C d_Model_guards_5 (by decide) (fun h5 => ?_) (fun h5 => ?_)
      · exact absurd h5 (by rw [hb]; exact nI_ge (by omega) (by omega))
      · refine v_iconst (pc := 8) (v := 0) C d_Model_guards_8 (by decide) ?_
        refine v_istore_n (pc := 9) C d_Model_guards_9 rfl (by decide) ?_
        refine mid i (by omega) sz hsz10 τ (by rw [hτ, gGs_a (by decide)]; exact hsz) ?_ sz 0 (by omega) τ rfl
        refine v_iinc (pc := 145) C d_Model_guards_145 rfl (show _ + Int32.ofInt 1 = _ + 1 from rfl) (by decide) ?_
        refine v_goto (pc := 148) (tgt := 2) C d_Model_guards_148 (by decide) ?_
        refine v_forget C 2 ?_
        rw [nI_1 i]
        refine ih (i + 1) (by omega) _ ?_
        show _ = gGp (gGs σ i) i (nn (σ 23 0 i))
        rw [hn, ← hτ]
  refine v_iconst (pc := 0) (v := 0) C d_Model_guards_0 (by decide) ?_
  refine v_istore_n (pc := 1) C d_Model_guards_1 rfl (by decide) ?_
  exact outer 10 0 (by omega) σ rfl
theorem gMarks_a {σ : ty_St} {n a : Nat} (h : ¬ a = 45) : ∀ k, (gMarks σ n k) a = σ a
  | 0 => rfl
  | k + 1 => by
    unfold gMarks
    split
    · rw [up_a h]; exact gMarks_a h k
    · exact gMarks_a h k
set_option maxRecDepth 100000 in
set_option maxHeartbeats 4000000 in
theorem m_acts (l : Launch) {D : va_G} {ad : Nat → Nat → Nat} {cA : Nat → ClassId} (hJ : ty_J cnM ad) (σ : ty_St) (sc : Nat) (hsc : sc ≤ 63) (hsc1 : σ 20 0 8 = nI sc) (hs0 : ¬ σ 20 0 5 < 0) (hn0 : ¬ σ 20 0 4 < 0) (h : Nat) (hh : h < 64) (ht0 : vp_in (σ 39 0 h) 12) (c0 : Nat) (hc0 : c0 < 10) (hc1 : σ 41 0 h = nI c0) (z : Nat) (hz : z < 10) (hat0 : σ 42 0 h = nI z) (y : Int32) (k0 : Nat) (hk0 : k0 < 100) (hy : y = nI k0) : ty_M l y_Model_acts (Cond.code y_Model_acts b_Model_acts 5 none :: ty_w) (rmL 4) cnM D ad cA [.inr (20, 0), .inl (nI h), .inl y] σ (fun r σ' => r = none ∧ σ' = gActs σ h k0) := by
  refine ty_M.of rfl hJ layM (ty_oks.cons (show (0 : Nat) < cnM 20 by decide) (ty_oks.cons trivial (ty_oks.cons trivial ty_oks.nil))) (Nat.le_of_ble_eq_true rfl) ?_
  intro p e s m args below meth c C hr hnm
  subst hy
  obtain ⟨τ, hτ⟩ : ∃ τ : ty_St, τ = (ty_up σ 42 0 h (σ 42 0 h + 1)) := ⟨_, rfl⟩
  have hs : ¬ τ 20 0 5 < 0 := by rw [hτ]; exact hs0
  have hn : ¬ τ 20 0 4 < 0 := by rw [hτ]; exact hn0
  have ht : vp_in (τ 39 0 h) 12 := by rw [hτ]; exact ht0
  have hc : τ 41 0 h = nI c0 := by rw [hτ]; exact hc1
  have hat : τ 42 0 h = nI (z + 1) := by rw [hτ, up_ss, hat0, nI_1]
  have hsc2 : τ 20 0 8 = nI sc := by rw [hτ]; exact hsc1
  have hns : nn (τ 20 0 8) = sc := by rw [hsc2]; exact nI_clamp (by omega)
  have hx39 : τ 39 0 h = nI (nn (τ 39 0 h)) := by obtain ⟨j, hj, e⟩ := vp_in_of ht (by decide); rw [e, show nn (nI j) = j from nI_clamp (by omega)]
  have marks : ∀ (op a : Int32), gActs σ h k0 = gAct τ h op a → op = 11 → ∀ k i, i + k = sc → ∀ υ : ty_St, υ = gMarks τ h i → ty_V cnM p l e (rmL 4) s m args below meth c D ad cA (ty_Gd cnM ad s) 5 (MQ below (ty_Q cnM D ad cA (fun r σ' => r = none ∧ σ' = gActs σ h k0) (ty_A cnM ad)) args s 0 0 (ty_A cnM ad)) υ [some (.inr (20, 0)), some (.inl (nI h)), some (.inl (nI k0)), some (.inl a), some (.inl (nI i))] 235 [] := by
    intro op a hk e11 k
    induction k with
    | zero =>
      intro i hi υ hυ
      have hb := (show υ 20 0 8 = nI sc by rw [hυ, gMarks_a (by decide)]; exact hsc2)
      refine v_iload (pc := 235) C d_Model_acts_235 rfl ?_
      refine v_aload_n (pc := 237) C d_Model_acts_237 rfl rfl ?_
      refine gf_Model_131 (pc := 238) C d_Model_acts_238 ?_
      refine v_icmp_ge (pc := 241) (tgt := 280) C d_Model_acts_241 (by decide) (fun h241 => ?_) (fun h241 => ?_)
      · refine v_goto (pc := 280) (tgt := 283) C d_Model_acts_280 (by decide) ?_
        exact v_return (pc := 283) C hr ⟨rfl, by rw [hk, hυ, show i = sc by omega, e11]; simp [gAct, hns]⟩ d_Model_acts_283
      · exact absurd (by rw [hb]; exact nI_le (by omega) (by omega)) h241
    | succ k ih =>
      intro i hi υ hυ
      have hb := (show υ 20 0 8 = nI sc by rw [hυ, gMarks_a (by decide)]; exact hsc2)
      refine v_iload (pc := 235) C d_Model_acts_235 rfl ?_
      refine v_aload_n (pc := 237) C d_Model_acts_237 rfl rfl ?_
      refine gf_Model_131 (pc := 238) C d_Model_acts_238 ?_
      refine v_icmp_ge (pc := 241) (tgt := 280) C d_Model_acts_241 (by decide) (fun h241 => ?_) (fun h241 => ?_)
      · exact absurd h241 (by rw [hb]; exact nI_ge (by omega) (by omega))
      · refine v_aload_n (pc := 244) C d_Model_acts_244 rfl rfl ?_
        refine gf_Model_72 (pc := 245) C d_Model_acts_245 ?_
        refine v_iload (pc := 248) C d_Model_acts_248 rfl ?_
        refine v_ialoadK (pc := 250) C rfl rfl (rfl) (by omega) (by decide) d_Model_acts_250 ?_
        refine v_iload_n (pc := 251) C d_Model_acts_251 rfl rfl ?_
        refine v_icmp_ne (pc := 252) (tgt := 274) C d_Model_acts_252 (by decide) (fun h252 => ?_) (fun h252 => ?_)
        · refine v_iinc (pc := 274) C d_Model_acts_274 rfl (show _ + Int32.ofInt 1 = _ + 1 from rfl) (by decide) ?_
          refine v_goto (pc := 277) (tgt := 235) C d_Model_acts_277 (by decide) ?_
          rw [nI_1 i]
          refine ih (i + 1) (by omega) _ ?_
          unfold gMarks
          rw [← hυ]
          rw [if_neg (fun q => h252 q.1)]
        · refine v_aload_n (pc := 255) C d_Model_acts_255 rfl rfl ?_
          refine gf_Model_81 (pc := 256) C d_Model_acts_256 ?_
          refine v_iload (pc := 259) C d_Model_acts_259 rfl ?_
          refine v_ialoadK (pc := 261) C rfl rfl (rfl) (by omega) (by decide) d_Model_acts_261 ?_
          refine v_iconst (pc := 262) (v := 5) C d_Model_acts_262 (by decide) ?_
          refine v_icmp_eq (pc := 263) (tgt := 274) C d_Model_acts_263 (by decide) (fun h263 => ?_) (fun h263 => ?_)
          · refine v_iinc (pc := 274) C d_Model_acts_274 rfl (show _ + Int32.ofInt 1 = _ + 1 from rfl) (by decide) ?_
            refine v_goto (pc := 277) (tgt := 235) C d_Model_acts_277 (by decide) ?_
            rw [nI_1 i]
            refine ih (i + 1) (by omega) _ ?_
            unfold gMarks
            rw [← hυ]
            rw [if_neg (fun q => q.2 h263)]
          · refine v_aload_n (pc := 266) C d_Model_acts_266 rfl rfl ?_
            refine gf_Model_87 (pc := 267) C d_Model_acts_267 ?_
            refine v_iload (pc := 270) C d_Model_acts_270 rfl ?_
            refine v_iconst (pc := 272) (v := 1) C d_Model_acts_272 (by decide) ?_
            refine v_bastoreK (pc := 273) C rfl rfl (rfl) (by omega) (by decide) rfl d_Model_acts_273 ?_
            refine v_iinc (pc := 274) C d_Model_acts_274 rfl (show _ + Int32.ofInt 1 = _ + 1 from rfl) (by decide) ?_
            refine v_goto (pc := 277) (tgt := 235) C d_Model_acts_277 (by decide) ?_
            rw [nI_1 i]
            refine ih (i + 1) (by omega) _ ?_
            unfold gMarks
            rw [← hυ]
            rw [if_pos ⟨h252, h263⟩]
  have rest : ∀ op a : Int32, gActs σ h k0 = gAct τ h op a → ty_V cnM p l e (rmL 4) s m args below meth c D ad cA (ty_Gd cnM ad s) 5 (MQ below (ty_Q cnM D ad cA (fun r σ' => r = none ∧ σ' = gActs σ h k0) (ty_A cnM ad)) args s 0 0 (ty_A cnM ad)) τ [some (.inr (20, 0)), some (.inl (nI h)), some (.inl (nI k0)), some (.inl a), none] 23 [.inl op] := by
    intro op a hk
    by_cases e0 : op = 0
    · subst e0
      refine v_tabIn (pc := 23) (off := 61) (tgt := 84) C d_Model_acts_23 (by decide) (by decide) (by decide) (by decide) ?_
      refine v_aload_n (pc := 84) C d_Model_acts_84 rfl rfl ?_
      refine v_iload_n (pc := 85) C d_Model_acts_85 rfl rfl ?_
      refine v_iconst (pc := 86) (v := 1) C d_Model_acts_86 (by decide) ?_
      refine v_iload_n (pc := 87) C d_Model_acts_87 rfl rfl ?_
      refine cl_Model_153 (pc := 88) C (m_waits l hJ τ hs h hh ht c0 hc0 hc z hz hat _ _) ⟨rfl, rfl, by decide, by decide⟩ rfl rfl (Nat.le_of_ble_eq_true rfl) d_Model_acts_88 (fun r σ' hq => ?_)
      rw [hq.1, hq.2]
      refine v_goto (pc := 91) (tgt := 283) C d_Model_acts_91 (by decide) ?_
      exact v_return (pc := 283) C hr ⟨rfl, by rw [hk]; simp [gAct]⟩ d_Model_acts_283
    by_cases e1 : op = 1
    · subst e1
      refine v_tabIn (pc := 23) (off := 71) (tgt := 94) C d_Model_acts_23 (by decide) (by decide) (by decide) (by decide) ?_
      refine v_aload_n (pc := 94) C d_Model_acts_94 rfl rfl ?_
      refine v_iload_n (pc := 95) C d_Model_acts_95 rfl rfl ?_
      refine v_iconst (pc := 96) (v := 2) C d_Model_acts_96 (by decide) ?_
      refine v_iload_n (pc := 97) C d_Model_acts_97 rfl rfl ?_
      refine cl_Model_153 (pc := 98) C (m_waits l hJ τ hs h hh ht c0 hc0 hc z hz hat _ _) ⟨rfl, rfl, by decide, by decide⟩ rfl rfl (Nat.le_of_ble_eq_true rfl) d_Model_acts_98 (fun r σ' hq => ?_)
      rw [hq.1, hq.2]
      refine v_goto (pc := 101) (tgt := 283) C d_Model_acts_101 (by decide) ?_
      exact v_return (pc := 283) C hr ⟨rfl, by rw [hk]; simp [gAct]⟩ d_Model_acts_283
    by_cases e2 : op = 2
    · subst e2
      refine v_tabIn (pc := 23) (off := 81) (tgt := 104) C d_Model_acts_23 (by decide) (by decide) (by decide) (by decide) ?_
      refine v_aload_n (pc := 104) C d_Model_acts_104 rfl rfl ?_
      refine v_iload_n (pc := 105) C d_Model_acts_105 rfl rfl ?_
      refine v_iconst (pc := 106) (v := 3) C d_Model_acts_106 (by decide) ?_
      refine v_iconst (pc := 107) (v := 0) C d_Model_acts_107 (by decide) ?_
      refine cl_Model_153 (pc := 108) C (m_waits l hJ τ hs h hh ht c0 hc0 hc z hz hat _ _) ⟨rfl, rfl, by decide, by decide⟩ rfl rfl (Nat.le_of_ble_eq_true rfl) d_Model_acts_108 (fun r σ' hq => ?_)
      rw [hq.1, hq.2]
      refine v_goto (pc := 111) (tgt := 283) C d_Model_acts_111 (by decide) ?_
      exact v_return (pc := 283) C hr ⟨rfl, by rw [hk]; simp [gAct]⟩ d_Model_acts_283
    by_cases e3 : op = 3
    · subst e3
      refine v_tabIn (pc := 23) (off := 91) (tgt := 114) C d_Model_acts_23 (by decide) (by decide) (by decide) (by decide) ?_
      refine v_aload_n (pc := 114) C d_Model_acts_114 rfl rfl ?_
      refine v_iload_n (pc := 115) C d_Model_acts_115 rfl rfl ?_
      refine v_iload_n (pc := 116) C d_Model_acts_116 rfl rfl ?_
      refine cl_Model_138 (pc := 117) C (m_ends l hJ τ hs h hh ht a) ⟨rfl, rfl, by decide, by decide⟩ rfl rfl (Nat.le_of_ble_eq_true rfl) d_Model_acts_117 (fun r σ' hq => ?_)
      rw [hq.1, hq.2]
      refine v_goto (pc := 120) (tgt := 283) C d_Model_acts_120 (by decide) ?_
      exact v_return (pc := 283) C hr ⟨rfl, by rw [hk]; simp [gAct]⟩ d_Model_acts_283
    by_cases e5 : op = 5
    · subst e5
      refine v_tabIn (pc := 23) (off := 100) (tgt := 123) C d_Model_acts_23 (by decide) (by decide) (by decide) (by decide) ?_
      refine v_aload_n (pc := 123) C d_Model_acts_123 rfl rfl ?_
      refine gf_Model_131 (pc := 124) C d_Model_acts_124 ?_
      refine v_bipush (pc := 127) (v := 40) C d_Model_acts_127 (by decide) ?_
      refine v_icmp_ge (pc := 129) (tgt := 283) C d_Model_acts_129 (by decide) (fun h129 => ?_) (fun h129 => ?_)
      · exact v_return (pc := 283) C hr ⟨rfl, by rw [hk]; simp [gAct, Int32.not_lt.mpr h129]⟩ d_Model_acts_283
      · refine v_aload_n (pc := 132) C d_Model_acts_132 rfl rfl ?_
        refine v_aload_n (pc := 133) C d_Model_acts_133 rfl rfl ?_
        refine gf_Model_69 (pc := 134) C d_Model_acts_134 ?_
        refine v_iload_n (pc := 137) C d_Model_acts_137 rfl rfl ?_
        refine v_ialoadK (pc := 138) C rfl rfl (rfl) (hh) (by decide) d_Model_acts_138 ?_
        refine v_iload_n (pc := 139) C d_Model_acts_139 rfl rfl ?_
        refine v_iload_n (pc := 140) C d_Model_acts_140 rfl rfl ?_
        refine cl_Model_156 (pc := 141) C (m_starts l hJ τ (by rw [hsc2]; exact vp_in_nI (by omega) (by decide)) _ (nn (τ 39 0 h)) (vp_lt ht) hx39 a (nI h)) ⟨rfl, rfl, by decide, by decide⟩ rfl rfl (Nat.le_of_ble_eq_true rfl) d_Model_acts_141 (fun r σ' hq => ?_)
        rw [hq.1, hq.2]
        refine v_pop (pc := 144) C d_Model_acts_144 ?_
        refine v_goto (pc := 145) (tgt := 283) C d_Model_acts_145 (by decide) ?_
        exact v_return (pc := 283) C hr ⟨rfl, by rw [hk]; simp [gAct, Int32.not_le.mp h129]⟩ d_Model_acts_283
    by_cases e6 : op = 6
    · subst e6
      refine v_tabIn (pc := 23) (off := 125) (tgt := 148) C d_Model_acts_23 (by decide) (by decide) (by decide) (by decide) ?_
      refine v_aload_n (pc := 148) C d_Model_acts_148 rfl rfl ?_
      refine v_iload_n (pc := 149) C d_Model_acts_149 rfl rfl ?_
      refine v_iload_n (pc := 150) C d_Model_acts_150 rfl rfl ?_
      refine cl_Model_160 (pc := 151) C (m_says l hJ τ hn h hh a) ⟨rfl, rfl, by decide, by decide⟩ rfl rfl (Nat.le_of_ble_eq_true rfl) d_Model_acts_151 (fun r σ' hq => ?_)
      rw [hq.1, hq.2]
      refine v_goto (pc := 154) (tgt := 283) C d_Model_acts_154 (by decide) ?_
      exact v_return (pc := 283) C hr ⟨rfl, by rw [hk]; simp [gAct]⟩ d_Model_acts_283
    by_cases e7 : op = 7
    · subst e7
      refine v_tabIn (pc := 23) (off := 134) (tgt := 157) C d_Model_acts_23 (by decide) (by decide) (by decide) (by decide) ?_
      refine v_aload_n (pc := 157) C d_Model_acts_157 rfl rfl ?_
      refine gf_Model_87 (pc := 158) C d_Model_acts_158 ?_
      refine v_iload_n (pc := 161) C d_Model_acts_161 rfl rfl ?_
      refine v_baloadK (pc := 162) C rfl rfl (rfl) (hh) (by decide) d_Model_acts_162 ?_
      refine v_if_ne (pc := 163) (tgt := 174) C d_Model_acts_163 (by decide) (fun h163 => ?_) (fun h163 => ?_)
      · refine v_aload_n (pc := 174) C d_Model_acts_174 rfl rfl ?_
        refine v_iload_n (pc := 175) C d_Model_acts_175 rfl rfl ?_
        refine v_iconst (pc := 176) (v := 4) C d_Model_acts_176 (by decide) ?_
        refine v_iconst (pc := 177) (v := 0) C d_Model_acts_177 (by decide) ?_
        refine cl_Model_153 (pc := 178) C (m_waits l hJ τ hs h hh ht c0 hc0 hc z hz hat _ _) ⟨rfl, rfl, by decide, by decide⟩ rfl rfl (Nat.le_of_ble_eq_true rfl) d_Model_acts_178 (fun r σ' hq => ?_)
        rw [hq.1, hq.2]
        refine v_goto (pc := 181) (tgt := 283) C d_Model_acts_181 (by decide) ?_
        exact v_return (pc := 283) C hr ⟨rfl, by rw [hk]; simp [gAct, h163]⟩ d_Model_acts_283
      · refine v_aload_n (pc := 166) C d_Model_acts_166 rfl rfl ?_
        refine v_iload_n (pc := 167) C d_Model_acts_167 rfl rfl ?_
        refine cl_Model_143 (pc := 168) C (m_joined l hJ τ sc (by omega) hsc2 h) ⟨rfl, rfl, by decide, by decide⟩ rfl rfl (Nat.le_of_ble_eq_true rfl) d_Model_acts_168 (fun r σ' hq => ?_)
        rw [hq.1, hq.2]
        refine v_if_ne (pc := 171) (tgt := 283) C d_Model_acts_171 (by decide) (fun h171 => ?_) (fun h171 => ?_)
        · exact v_return (pc := 283) C hr ⟨rfl, by rw [hk]; simp [gAct, h163, hns]; intro e; rw [e] at h171; exact absurd rfl h171⟩ d_Model_acts_283
        · refine v_aload_n (pc := 174) C d_Model_acts_174 rfl rfl ?_
          refine v_iload_n (pc := 175) C d_Model_acts_175 rfl rfl ?_
          refine v_iconst (pc := 176) (v := 4) C d_Model_acts_176 (by decide) ?_
          refine v_iconst (pc := 177) (v := 0) C d_Model_acts_177 (by decide) ?_
          refine cl_Model_153 (pc := 178) C (m_waits l hJ τ hs h hh ht c0 hc0 hc z hz hat _ _) ⟨rfl, rfl, by decide, by decide⟩ rfl rfl (Nat.le_of_ble_eq_true rfl) d_Model_acts_178 (fun r σ' hq => ?_)
          rw [hq.1, hq.2]
          refine v_goto (pc := 181) (tgt := 283) C d_Model_acts_181 (by decide) ?_
          exact v_return (pc := 283) C hr ⟨rfl, by rw [hk]; simp [gAct, h163, hns]; intro e; rw [e] at h171; exact absurd h171 (by decide)⟩ d_Model_acts_283
    by_cases e8 : op = 8
    · subst e8
      refine v_tabIn (pc := 23) (off := 161) (tgt := 184) C d_Model_acts_23 (by decide) (by decide) (by decide) (by decide) ?_
      refine v_aload_n (pc := 184) C d_Model_acts_184 rfl rfl ?_
      refine v_iload_n (pc := 185) C d_Model_acts_185 rfl rfl ?_
      refine v_aload_n (pc := 186) C d_Model_acts_186 rfl rfl ?_
      refine gf_Model_87 (pc := 187) C d_Model_acts_187 ?_
      refine v_iload_n (pc := 190) C d_Model_acts_190 rfl rfl ?_
      refine v_baloadK (pc := 191) C rfl rfl (rfl) (hh) (by decide) d_Model_acts_191 ?_
      refine v_if_eq (pc := 192) (tgt := 199) C d_Model_acts_192 (by decide) (fun h192 => ?_) (fun h192 => ?_)
      · refine v_iconst (pc := 199) (v := 0) C d_Model_acts_199 (by decide) ?_
        refine cl_Model_160 (pc := 200) C (m_says l hJ τ hn h hh _) ⟨rfl, rfl, by decide, by decide⟩ rfl rfl (Nat.le_of_ble_eq_true rfl) d_Model_acts_200 (fun r σ' hq => ?_)
        rw [hq.1, hq.2]
        refine v_aload_n (pc := 203) C d_Model_acts_203 rfl rfl ?_
        refine gf_Model_87 (pc := 204) C d_Model_acts_204 ?_
        refine v_iload_n (pc := 207) C d_Model_acts_207 rfl rfl ?_
        refine v_iconst (pc := 208) (v := 0) C d_Model_acts_208 (by decide) ?_
        refine v_bastoreK (pc := 209) C rfl rfl (rfl) (hh) (by decide) rfl d_Model_acts_209 ?_
        refine v_goto (pc := 210) (tgt := 283) C d_Model_acts_210 (by decide) ?_
        exact v_return (pc := 283) C hr ⟨rfl, by rw [hk]; simp [gAct, h192]⟩ d_Model_acts_283
      · refine v_iconst (pc := 195) (v := 1) C d_Model_acts_195 (by decide) ?_
        refine v_goto (pc := 196) (tgt := 200) C d_Model_acts_196 (by decide) ?_
        refine cl_Model_160 (pc := 200) C (m_says l hJ τ hn h hh _) ⟨rfl, rfl, by decide, by decide⟩ rfl rfl (Nat.le_of_ble_eq_true rfl) d_Model_acts_200 (fun r σ' hq => ?_)
        rw [hq.1, hq.2]
        refine v_aload_n (pc := 203) C d_Model_acts_203 rfl rfl ?_
        refine gf_Model_87 (pc := 204) C d_Model_acts_204 ?_
        refine v_iload_n (pc := 207) C d_Model_acts_207 rfl rfl ?_
        refine v_iconst (pc := 208) (v := 0) C d_Model_acts_208 (by decide) ?_
        refine v_bastoreK (pc := 209) C rfl rfl (rfl) (hh) (by decide) rfl d_Model_acts_209 ?_
        refine v_goto (pc := 210) (tgt := 283) C d_Model_acts_210 (by decide) ?_
        exact v_return (pc := 283) C hr ⟨rfl, by rw [hk]; simp [gAct, h192]⟩ d_Model_acts_283
    by_cases e9 : op = 9
    · subst e9
      refine v_tabIn (pc := 23) (off := 190) (tgt := 213) C d_Model_acts_23 (by decide) (by decide) (by decide) (by decide) ?_
      refine v_aload_n (pc := 213) C d_Model_acts_213 rfl rfl ?_
      refine gf_Model_90 (pc := 214) C d_Model_acts_214 ?_
      refine v_iload_n (pc := 217) C d_Model_acts_217 rfl rfl ?_
      refine v_iconst (pc := 218) (v := 1) C d_Model_acts_218 (by decide) ?_
      refine v_bastoreK (pc := 219) C rfl rfl (rfl) (hh) (by decide) rfl d_Model_acts_219 ?_
      refine v_goto (pc := 220) (tgt := 283) C d_Model_acts_220 (by decide) ?_
      exact v_return (pc := 283) C hr ⟨rfl, by rw [hk]; simp [gAct]⟩ d_Model_acts_283
    by_cases e10 : op = 10
    · subst e10
      refine v_tabIn (pc := 23) (off := 200) (tgt := 223) C d_Model_acts_23 (by decide) (by decide) (by decide) (by decide) ?_
      refine v_aload_n (pc := 223) C d_Model_acts_223 rfl rfl ?_
      refine v_iload_n (pc := 224) C d_Model_acts_224 rfl rfl ?_
      refine v_iconst (pc := 225) (v := (-1)) C d_Model_acts_225 (by decide) ?_
      refine cl_Model_138 (pc := 226) C (m_ends l hJ τ hs h hh ht (-1)) ⟨rfl, rfl, by decide, by decide⟩ rfl rfl (Nat.le_of_ble_eq_true rfl) d_Model_acts_226 (fun r σ' hq => ?_)
      rw [hq.1, hq.2]
      refine v_goto (pc := 229) (tgt := 283) C d_Model_acts_229 (by decide) ?_
      exact v_return (pc := 283) C hr ⟨rfl, by rw [hk]; simp [gAct]⟩ d_Model_acts_283
    by_cases e11 : op = 11
    · subst e11
      refine v_tabIn (pc := 23) (off := 209) (tgt := 232) C d_Model_acts_23 (by decide) (by decide) (by decide) (by decide) ?_
      refine v_iconst (pc := 232) (v := 0) C d_Model_acts_232 (by decide) ?_
      refine v_istore (pc := 233) C d_Model_acts_233 (by decide) ?_
      exact marks 11 a hk rfl sc 0 (by omega) τ rfl
    have f0 : ¬ op.toInt = 0 := lv_neT e0 (by decide)
    have f1 : ¬ op.toInt = 1 := lv_neT e1 (by decide)
    have f2 : ¬ op.toInt = 2 := lv_neT e2 (by decide)
    have f3 : ¬ op.toInt = 3 := lv_neT e3 (by decide)
    have f5 : ¬ op.toInt = 5 := lv_neT e5 (by decide)
    have f6 : ¬ op.toInt = 6 := lv_neT e6 (by decide)
    have f7 : ¬ op.toInt = 7 := lv_neT e7 (by decide)
    have f8 : ¬ op.toInt = 8 := lv_neT e8 (by decide)
    have f9 : ¬ op.toInt = 9 := lv_neT e9 (by decide)
    have f10 : ¬ op.toInt = 10 := lv_neT e10 (by decide)
    have f11 : ¬ op.toInt = 11 := lv_neT e11 (by decide)
    rcases (show op.toInt < 0 ∨ 11 < op.toInt ∨ op.toInt = 4 by omega) with h | h | h
    · exact v_tabOut (pc := 23) (tgt := 283) C d_Model_acts_23 (Or.inl h) (by decide) (v_return (pc := 283) C hr ⟨rfl, by rw [hk]; simp [gAct, e0, e1, e2, e3, e5, e6, e7, e8, e9, e10, e11]⟩ d_Model_acts_283)
    · exact v_tabOut (pc := 23) (tgt := 283) C d_Model_acts_23 (Or.inr h) (by decide) (v_return (pc := 283) C hr ⟨rfl, by rw [hk]; simp [gAct, e0, e1, e2, e3, e5, e6, e7, e8, e9, e10, e11]⟩ d_Model_acts_283)
    · exact v_tabIn (pc := 23) (off := 260) (tgt := 283) C d_Model_acts_23 (by omega) (by omega) (by rw [h]; decide) (by decide) (v_return (pc := 283) C hr ⟨rfl, by rw [hk]; simp [gAct, e0, e1, e2, e3, e5, e6, e7, e8, e9, e10, e11]⟩ d_Model_acts_283)
  refine v_aload_n (pc := 0) C d_Model_acts_0 rfl rfl ?_
  refine gf_Model_17 (pc := 1) C d_Model_acts_1 ?_
  refine v_iload_n (pc := 4) C d_Model_acts_4 rfl rfl ?_
  refine v_ialoadK (pc := 5) C rfl rfl (rfl) (hk0) (by decide) d_Model_acts_5 ?_
  refine v_istore_n (pc := 6) C d_Model_acts_6 rfl (by decide) ?_
  refine v_aload_n (pc := 7) C d_Model_acts_7 rfl rfl ?_
  refine gf_Model_78 (pc := 8) C d_Model_acts_8 ?_
  refine v_iload_n (pc := 11) C d_Model_acts_11 rfl rfl ?_
  refine v_dup2 (pc := 12) C d_Model_acts_12 ?_
  refine v_ialoadK (pc := 13) C rfl rfl (rfl) (hh) (by decide) d_Model_acts_13 ?_
  refine v_iconst (pc := 14) (v := 1) C d_Model_acts_14 (by decide) ?_
  refine v_iadd (pc := 15) C d_Model_acts_15 ?_
  refine v_iastoreK (pc := 16) C rfl rfl (rfl) (hh) (by decide) d_Model_acts_16 ?_
  rw [← hτ]
  refine v_aload_n (pc := 17) C d_Model_acts_17 rfl rfl ?_
  refine gf_Model_13 (pc := 18) C d_Model_acts_18 ?_
  refine v_iload_n (pc := 21) C d_Model_acts_21 rfl rfl ?_
  refine v_ialoadK (pc := 22) C rfl rfl (rfl) (hk0) (by decide) d_Model_acts_22 ?_
  exact rest _ _ (by unfold gActs; rw [hτ]; rfl)
