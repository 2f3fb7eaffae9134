set_option maxRecDepth 100000 in
set_option maxHeartbeats 4000000 in
theorem c_Course_atOnce (l : Launch) {D : va_G} {ad : Nat → Nat → Nat} {cA : Nat → ClassId} (hJ : ty_J cnC ad) (σ : ty_St) (sc : Nat) (hsc : sc ≤ 52) (hc : σ 1 0 8 = nI sc) (n : Nat) (hn : n < 52) (hm : σ 4 n 6 = 0 ∨ σ 4 n 6 = 1) (ht : vp_in (σ 4 n 1) 12) (hl : ¬ σ 5 0 1 < 0) (op a : Int32) : ty_M l y_Course_actAtOnce (Cond.code y_Course_actAtOnce b_Course_actAtOnce 5 none :: ty_w) (rmL 2) cnC D ad cA [.inr (1, 0), .inl (nI n), .inl op, .inl a] σ (fun r σ' => r = none ∧ σ' = kAtOnce σ n op a) := by
  refine ty_M.of rfl hJ layC (ty_oks.cons (show (0 : Nat) < cnC 1 by decide) (ty_oks.cons trivial (ty_oks.cons trivial (ty_oks.cons trivial ty_oks.nil)))) (Nat.le_of_ble_eq_true rfl) ?_
  intro p e s m args below meth c C hr hnm
  have hns : nn (σ 1 0 8) = sc := by rw [hc]; exact nI_clamp (by omega)
  refine v_aload_n (pc := 0) C d_Course_actAtOnce_0 rfl rfl ?_
  refine gf_Course_25 (pc := 1) C d_Course_actAtOnce_1 ?_
  refine v_iload_n (pc := 4) C d_Course_actAtOnce_4 rfl rfl ?_
  refine v_aaloadK (pc := 5) C rfl rfl (by decide) (rfl) (hn) (by decide) d_Course_actAtOnce_5 ?_
  refine v_astore (pc := 6) C d_Course_actAtOnce_6 (by decide) ?_
  refine v_iload_n (pc := 8) C d_Course_actAtOnce_8 rfl rfl ?_
  by_cases e5 : op = 5
  · subst e5
    refine v_tabIn (pc := 9) (off := 43) (tgt := 52) C d_Course_actAtOnce_9 (by decide) (by decide) (by decide) (by decide) ?_
    refine v_aload_n (pc := 52) C d_Course_actAtOnce_52 rfl rfl ?_
    refine gf_Course_100 (pc := 53) C d_Course_actAtOnce_53 ?_
    refine v_bipush (pc := 56) (v := 40) C d_Course_actAtOnce_56 (by decide) ?_
    refine v_icmp_ge (pc := 58) (tgt := 144) C d_Course_actAtOnce_58 (by decide) (fun h58 => ?_) (fun h58 => ?_)
    · exact v_return (pc := 144) C hr ⟨rfl, by unfold kAtOnce; rw [if_pos rfl, if_neg (Int32.not_lt.mpr h58)]⟩ d_Course_actAtOnce_144
    · refine v_aload_n (pc := 61) C d_Course_actAtOnce_61 rfl rfl ?_
      refine v_iload_n (pc := 62) C d_Course_actAtOnce_62 rfl rfl ?_
      refine v_aload (pc := 63) C d_Course_actAtOnce_63 rfl ?_
      refine gf_Course_197 (pc := 65) C d_Course_actAtOnce_65 ?_
      refine v_iload_n (pc := 68) C d_Course_actAtOnce_68 rfl rfl ?_
      refine cl_Course_159 (pc := 69) C (c_Course_startStrand l hJ σ (by rw [hc]; exact nI_pos (by omega)) a (σ 4 n 1) (nI n) ht) ⟨rfl, rfl, by decide, by decide⟩ rfl rfl (Nat.le_of_ble_eq_true rfl) d_Course_actAtOnce_69 (fun r σ' hq => ?_)
      rw [hq.1, hq.2]
      refine v_goto (pc := 72) (tgt := 144) C d_Course_actAtOnce_72 (by decide) ?_
      exact v_return (pc := 144) C hr ⟨rfl, by unfold kAtOnce; rw [if_pos rfl, if_pos (Int32.not_le.mp h58)]⟩ d_Course_actAtOnce_144
  by_cases e6 : op = 6
  · subst e6
    refine v_tabIn (pc := 9) (off := 66) (tgt := 75) C d_Course_actAtOnce_9 (by decide) (by decide) (by decide) (by decide) ?_
    refine v_aload_n (pc := 75) C d_Course_actAtOnce_75 rfl rfl ?_
    refine gf_Course_38 (pc := 76) C d_Course_actAtOnce_76 ?_
    refine v_bipush (pc := 79) (v := 100) C d_Course_actAtOnce_79 (by decide) ?_
    refine v_aload (pc := 81) C d_Course_actAtOnce_81 rfl ?_
    refine gf_Course_197 (pc := 83) C d_Course_actAtOnce_83 ?_
    refine v_imul (pc := 86) C d_Course_actAtOnce_86 ?_
    refine v_iload_n (pc := 87) C d_Course_actAtOnce_87 rfl rfl ?_
    refine v_iadd (pc := 88) C d_Course_actAtOnce_88 ?_
    refine cl_Course_200 (pc := 89) C (c_Log_add l hJ σ 0 (by decide) hl _) ⟨rfl, rfl, by decide, by decide⟩ rfl rfl (Nat.le_of_ble_eq_true rfl) d_Course_actAtOnce_89 (fun r σ' hq => ?_)
    rw [hq.1, hq.2]
    refine v_goto (pc := 92) (tgt := 144) C d_Course_actAtOnce_92 (by decide) ?_
    exact v_return (pc := 144) C hr ⟨rfl, by simp [kAtOnce]⟩ d_Course_actAtOnce_144
  by_cases e8 : op = 8
  · subst e8
    refine v_tabIn (pc := 9) (off := 86) (tgt := 95) C d_Course_actAtOnce_9 (by decide) (by decide) (by decide) (by decide) ?_
    refine v_aload_n (pc := 95) C d_Course_actAtOnce_95 rfl rfl ?_
    refine gf_Course_38 (pc := 96) C d_Course_actAtOnce_96 ?_
    refine v_bipush (pc := 99) (v := 100) C d_Course_actAtOnce_99 (by decide) ?_
    refine v_aload (pc := 101) C d_Course_actAtOnce_101 rfl ?_
    refine gf_Course_197 (pc := 103) C d_Course_actAtOnce_103 ?_
    refine v_imul (pc := 106) C d_Course_actAtOnce_106 ?_
    refine v_aload (pc := 107) C d_Course_actAtOnce_107 rfl ?_
    refine cl_Course_203 (pc := 109) C (c_Strand_takeMark l hJ σ n hn hm) ⟨rfl, rfl, by decide, by decide⟩ rfl rfl (Nat.le_of_ble_eq_true rfl) d_Course_actAtOnce_109 (fun r σ' hq => ?_)
    rw [hq.1, hq.2]
    refine v_if_eq (pc := 112) (tgt := 119) C d_Course_actAtOnce_112 (by decide) (fun h112 => ?_) (fun h112 => ?_)
    · refine v_iconst (pc := 119) (v := 0) C d_Course_actAtOnce_119 (by decide) ?_
      refine v_iadd (pc := 120) C d_Course_actAtOnce_120 ?_
      refine cl_Course_200 (pc := 121) C (c_Log_add l hJ (kTake σ n) 0 (by decide) hl _) ⟨rfl, rfl, by decide, by decide⟩ rfl rfl (Nat.le_of_ble_eq_true rfl) d_Course_actAtOnce_121 (fun r σ' hq => ?_)
      rw [hq.1, hq.2]
      refine v_goto (pc := 124) (tgt := 144) C d_Course_actAtOnce_124 (by decide) ?_
      exact v_return (pc := 144) C hr ⟨rfl, by simp [kAtOnce, h112]⟩ d_Course_actAtOnce_144
    · refine v_iconst (pc := 115) (v := 1) C d_Course_actAtOnce_115 (by decide) ?_
      refine v_goto (pc := 116) (tgt := 120) C d_Course_actAtOnce_116 (by decide) ?_
      refine v_iadd (pc := 120) C d_Course_actAtOnce_120 ?_
      refine cl_Course_200 (pc := 121) C (c_Log_add l hJ (kTake σ n) 0 (by decide) hl _) ⟨rfl, rfl, by decide, by decide⟩ rfl rfl (Nat.le_of_ble_eq_true rfl) d_Course_actAtOnce_121 (fun r σ' hq => ?_)
      rw [hq.1, hq.2]
      refine v_goto (pc := 124) (tgt := 144) C d_Course_actAtOnce_124 (by decide) ?_
      exact v_return (pc := 144) C hr ⟨rfl, by simp [kAtOnce, h112]⟩ d_Course_actAtOnce_144
  by_cases e9 : op = 9
  · subst e9
    refine v_tabIn (pc := 9) (off := 118) (tgt := 127) C d_Course_actAtOnce_9 (by decide) (by decide) (by decide) (by decide) ?_
    refine v_aload (pc := 127) C d_Course_actAtOnce_127 rfl ?_
    refine v_iconst (pc := 129) (v := 1) C d_Course_actAtOnce_129 (by decide) ?_
    refine pf_Course_206 (pc := 130) C rfl rfl d_Course_actAtOnce_130 ?_
    refine v_goto (pc := 133) (tgt := 144) C d_Course_actAtOnce_133 (by decide) ?_
    exact v_return (pc := 144) C hr ⟨rfl, by simp [kAtOnce]⟩ d_Course_actAtOnce_144
  by_cases e11 : op = 11
  · subst e11
    refine v_tabIn (pc := 9) (off := 127) (tgt := 136) C d_Course_actAtOnce_9 (by decide) (by decide) (by decide) (by decide) ?_
    refine v_aload_n (pc := 136) C d_Course_actAtOnce_136 rfl rfl ?_
    refine v_iload_n (pc := 137) C d_Course_actAtOnce_137 rfl rfl ?_
    refine cl_Course_209 (pc := 138) C (c_Course_mark l hJ σ sc hsc hc n) ⟨rfl, rfl, by decide, by decide⟩ rfl rfl (Nat.le_of_ble_eq_true rfl) d_Course_actAtOnce_138 (fun r σ' hq => ?_)
    rw [hq.1, hq.2]
    refine v_goto (pc := 141) (tgt := 144) C d_Course_actAtOnce_141 (by decide) ?_
    exact v_return (pc := 144) C hr ⟨rfl, by simp [kAtOnce, hns]⟩ d_Course_actAtOnce_144
  have f5 : ¬ op.toInt = 5 := lv_neT e5 (by decide)
  have f6 : ¬ op.toInt = 6 := lv_neT e6 (by decide)
  have f8 : ¬ op.toInt = 8 := lv_neT e8 (by decide)
  have f9 : ¬ op.toInt = 9 := lv_neT e9 (by decide)
  have f11 : ¬ op.toInt = 11 := lv_neT e11 (by decide)
  rcases (show op.toInt < 5 ∨ 11 < op.toInt ∨ op.toInt = 7 ∨ op.toInt = 10 by omega) with h | h | h | h
  · exact v_tabOut (pc := 9) (tgt := 144) C d_Course_actAtOnce_9 (Or.inl h) (by decide) (v_return (pc := 144) C hr ⟨rfl, by simp [kAtOnce, e5, e6, e8, e9, e11]⟩ d_Course_actAtOnce_144)
  · exact v_tabOut (pc := 9) (tgt := 144) C d_Course_actAtOnce_9 (Or.inr h) (by decide) (v_return (pc := 144) C hr ⟨rfl, by simp [kAtOnce, e5, e6, e8, e9, e11]⟩ d_Course_actAtOnce_144)
  · exact v_tabIn (pc := 9) (off := 135) (tgt := 144) C d_Course_actAtOnce_9 (by omega) (by omega) (by rw [h]; decide) (by decide) (v_return (pc := 144) C hr ⟨rfl, by simp [kAtOnce, e5, e6, e8, e9, e11]⟩ d_Course_actAtOnce_144)
  · exact v_tabIn (pc := 9) (off := 135) (tgt := 144) C d_Course_actAtOnce_9 (by omega) (by omega) (by rw [h]; decide) (by decide) (v_return (pc := 144) C hr ⟨rfl, by simp [kAtOnce, e5, e6, e8, e9, e11]⟩ d_Course_actAtOnce_144)
theorem kWait_01 (σ : ty_St) (n : Nat) (op a : Int32) : (kWait σ n op a).1 = 0 ∨ (kWait σ n op a).1 = 1 := by
  unfold kWait kWait1
  repeat' split
  all_goals first | exact kInterrupt_01 _ _ | simp
set_option maxRecDepth 100000 in
set_option maxHeartbeats 4000000 in
theorem c_Course_action (l : Launch) {D : va_G} {ad : Nat → Nat → Nat} {cA : Nat → ClassId} (hJ : ty_J cnC ad) (σ : ty_St) (sc : Nat) (hsc : sc ≤ 52) (hc : σ 1 0 8 = nI sc) (n : Nat) (hn : n < 52) (hm : σ 4 n 6 = 0 ∨ σ 4 n 6 = 1) (hqq : vp_in (σ 4 n 0) 10) (ht : vp_in (σ 4 n 1) 12) (hl : ¬ σ 5 0 1 < 0) (hat : ∃ y, y ≤ 30 ∧ σ 4 n 3 = nI y) (hsz : ∃ w, w ≤ 10 ∧ σ 2 (nn (σ 4 n 0)) 3 = nI w) : ty_M l y_Course_doAction (Cond.code y_Course_doAction b_Course_doAction 6 (some .boolean) :: ty_w) (rmL 3) cnC D ad cA [.inr (1, 0), .inl (nI n)] σ (fun r σ' => r = some (.inl (kAction σ n).1) ∧ σ' = (kAction σ n).2) := by
  refine ty_M.of rfl hJ layC (ty_oks.cons (show (0 : Nat) < cnC 1 by decide) (ty_oks.cons trivial ty_oks.nil)) (Nat.le_of_ble_eq_true rfl) ?_
  intro p e s m args below meth c C hr hnm
  have hin : σ 4 n 3 < σ 2 (nn (σ 4 n 0)) 3 → vp_in (σ 4 n 3) 10 := by
    intro q
    obtain ⟨y, hy, hyz⟩ := hat
    obtain ⟨w, hw, hwz⟩ := hsz
    rw [hyz, hwz] at q
    rw [hyz]
    exact vp_in_nI (by have := (nI_ltI (by omega) (by omega)).mp q; omega) (by decide)
  have rest : ∀ op a : Int32, kAction σ n = (if op = 0 ∨ op = 1 ∨ op = 2 ∨ op = 7 then kWait σ n op a else if op = 3 then (0, kEnd σ n a) else if op = 10 then (0, kEnd σ n (-1)) else (1, kAt (kAtOnce σ n op a) n)) → ∀ z, z < 10 → σ 4 n 3 = nI z → ty_V cnC p l e (rmL 3) s m args below meth c D ad cA (ty_Gd cnC ad s) 6 (MQ below (ty_Q cnC D ad cA (fun r σ' => r = some (.inl (kAction σ n).1) ∧ σ' = (kAction σ n).2) (ty_A cnC ad)) args s 0 0 (ty_A cnC ad)) σ [some (.inr (1, 0)), some (.inl (nI n)), some (.inr (4, n)), some (.inr (2, nn (σ 4 n 0))), some (.inl op), some (.inl a)] 59 [.inl op] := by
    intro op a hk z hz hat
    by_cases e0 : op = 0
    · subst e0
      refine v_tabIn (pc := 59) (off := 57) (tgt := 116) C d_Course_doAction_59 (by decide) (by decide) (by decide) (by decide) ?_
      refine v_aload_n (pc := 116) C d_Course_doAction_116 rfl rfl ?_
      refine v_iload_n (pc := 117) C d_Course_doAction_117 rfl rfl ?_
      refine v_iload (pc := 118) C d_Course_doAction_118 rfl ?_
      refine v_iload (pc := 120) C d_Course_doAction_120 rfl ?_
      refine cl_Course_190 (pc := 122) C (c_Course_wait l hJ σ sc hsc hc n hn hm hqq z (by omega) hat _ _) ⟨rfl, rfl, by decide, by decide⟩ rfl rfl (Nat.le_of_ble_eq_true rfl) d_Course_doAction_122 (fun r σ' hq => ?_)
      rw [hq.1, hq.2]
      exact v_zreturn (pc := 125) C hr (by rcases kWait_01 σ n 0 a with h | h <;> rw [h] <;> rfl) ⟨by rw [hk]; simp, by rw [hk]; simp⟩ d_Course_doAction_125
    by_cases e1 : op = 1
    · subst e1
      refine v_tabIn (pc := 59) (off := 57) (tgt := 116) C d_Course_doAction_59 (by decide) (by decide) (by decide) (by decide) ?_
      refine v_aload_n (pc := 116) C d_Course_doAction_116 rfl rfl ?_
      refine v_iload_n (pc := 117) C d_Course_doAction_117 rfl rfl ?_
      refine v_iload (pc := 118) C d_Course_doAction_118 rfl ?_
      refine v_iload (pc := 120) C d_Course_doAction_120 rfl ?_
      refine cl_Course_190 (pc := 122) C (c_Course_wait l hJ σ sc hsc hc n hn hm hqq z (by omega) hat _ _) ⟨rfl, rfl, by decide, by decide⟩ rfl rfl (Nat.le_of_ble_eq_true rfl) d_Course_doAction_122 (fun r σ' hq => ?_)
      rw [hq.1, hq.2]
      exact v_zreturn (pc := 125) C hr (by rcases kWait_01 σ n 1 a with h | h <;> rw [h] <;> rfl) ⟨by rw [hk]; simp, by rw [hk]; simp⟩ d_Course_doAction_125
    by_cases e2 : op = 2
    · subst e2
      refine v_tabIn (pc := 59) (off := 57) (tgt := 116) C d_Course_doAction_59 (by decide) (by decide) (by decide) (by decide) ?_
      refine v_aload_n (pc := 116) C d_Course_doAction_116 rfl rfl ?_
      refine v_iload_n (pc := 117) C d_Course_doAction_117 rfl rfl ?_
      refine v_iload (pc := 118) C d_Course_doAction_118 rfl ?_
      refine v_iload (pc := 120) C d_Course_doAction_120 rfl ?_
      refine cl_Course_190 (pc := 122) C (c_Course_wait l hJ σ sc hsc hc n hn hm hqq z (by omega) hat _ _) ⟨rfl, rfl, by decide, by decide⟩ rfl rfl (Nat.le_of_ble_eq_true rfl) d_Course_doAction_122 (fun r σ' hq => ?_)
      rw [hq.1, hq.2]
      exact v_zreturn (pc := 125) C hr (by rcases kWait_01 σ n 2 a with h | h <;> rw [h] <;> rfl) ⟨by rw [hk]; simp, by rw [hk]; simp⟩ d_Course_doAction_125
    by_cases e3 : op = 3
    · subst e3
      refine v_tabIn (pc := 59) (off := 67) (tgt := 126) C d_Course_doAction_59 (by decide) (by decide) (by decide) (by decide) ?_
      refine v_aload_n (pc := 126) C d_Course_doAction_126 rfl rfl ?_
      refine v_iload (pc := 127) C d_Course_doAction_127 rfl ?_
      refine cl_Course_181 (pc := 129) C (c_Strand_end l hJ σ n hn a) ⟨rfl, rfl, by decide, by decide⟩ rfl rfl (Nat.le_of_ble_eq_true rfl) d_Course_doAction_129 (fun r σ' hq => ?_)
      rw [hq.1, hq.2]
      refine v_iconst (pc := 132) (v := 0) C d_Course_doAction_132 (by decide) ?_
      exact v_zreturn (pc := 133) C hr rfl ⟨by rw [hk]; simp, by rw [hk]; simp⟩ d_Course_doAction_133
    by_cases e7 : op = 7
    · subst e7
      refine v_tabIn (pc := 59) (off := 57) (tgt := 116) C d_Course_doAction_59 (by decide) (by decide) (by decide) (by decide) ?_
      refine v_aload_n (pc := 116) C d_Course_doAction_116 rfl rfl ?_
      refine v_iload_n (pc := 117) C d_Course_doAction_117 rfl rfl ?_
      refine v_iload (pc := 118) C d_Course_doAction_118 rfl ?_
      refine v_iload (pc := 120) C d_Course_doAction_120 rfl ?_
      refine cl_Course_190 (pc := 122) C (c_Course_wait l hJ σ sc hsc hc n hn hm hqq z (by omega) hat _ _) ⟨rfl, rfl, by decide, by decide⟩ rfl rfl (Nat.le_of_ble_eq_true rfl) d_Course_doAction_122 (fun r σ' hq => ?_)
      rw [hq.1, hq.2]
      exact v_zreturn (pc := 125) C hr (by rcases kWait_01 σ n 7 a with h | h <;> rw [h] <;> rfl) ⟨by rw [hk]; simp, by rw [hk]; simp⟩ d_Course_doAction_125
    by_cases e10 : op = 10
    · subst e10
      refine v_tabIn (pc := 59) (off := 75) (tgt := 134) C d_Course_doAction_59 (by decide) (by decide) (by decide) (by decide) ?_
      refine v_aload_n (pc := 134) C d_Course_doAction_134 rfl rfl ?_
      refine v_iconst (pc := 135) (v := (-1)) C d_Course_doAction_135 (by decide) ?_
      refine cl_Course_181 (pc := 136) C (c_Strand_end l hJ σ n hn (-1)) ⟨rfl, rfl, by decide, by decide⟩ rfl rfl (Nat.le_of_ble_eq_true rfl) d_Course_doAction_136 (fun r σ' hq => ?_)
      rw [hq.1, hq.2]
      refine v_iconst (pc := 139) (v := 0) C d_Course_doAction_139 (by decide) ?_
      exact v_zreturn (pc := 140) C hr rfl ⟨by rw [hk]; simp, by rw [hk]; simp⟩ d_Course_doAction_140
    have dflt : ty_V cnC p l e (rmL 3) s m args below meth c D ad cA (ty_Gd cnC ad s) 6 (MQ below (ty_Q cnC D ad cA (fun r σ' => r = some (.inl (kAction σ n).1) ∧ σ' = (kAction σ n).2) (ty_A cnC ad)) args s 0 0 (ty_A cnC ad)) σ [some (.inr (1, 0)), some (.inl (nI n)), some (.inr (4, n)), some (.inr (2, nn (σ 4 n 0))), some (.inl op), some (.inl a)] 141 [] := by
      refine v_aload_n (pc := 141) C d_Course_doAction_141 rfl rfl ?_
      refine v_iload_n (pc := 142) C d_Course_doAction_142 rfl rfl ?_
      refine v_iload (pc := 143) C d_Course_doAction_143 rfl ?_
      refine v_iload (pc := 145) C d_Course_doAction_145 rfl ?_
      refine cl_Course_194 (pc := 147) C (c_Course_atOnce l hJ σ sc hsc hc n hn hm ht hl op a) ⟨rfl, rfl, by decide, by decide⟩ rfl rfl (Nat.le_of_ble_eq_true rfl) d_Course_doAction_147 (fun r σ' hq => ?_)
      rw [hq.1, hq.2]
      refine v_aload_n (pc := 150) C d_Course_doAction_150 rfl rfl ?_
      refine v_dup (pc := 151) C d_Course_doAction_151 ?_
      refine gf_Course_177 (pc := 152) C d_Course_doAction_152 ?_
      refine v_iconst (pc := 155) (v := 1) C d_Course_doAction_155 (by decide) ?_
      refine v_iadd (pc := 156) C d_Course_doAction_156 ?_
      refine pf_Course_177 (pc := 157) C d_Course_doAction_157 ?_
      refine v_iconst (pc := 160) (v := 1) C d_Course_doAction_160 (by decide) ?_
      exact v_zreturn (pc := 161) C hr rfl ⟨by rw [hk]; simp [e0, e1, e2, e3, e7, e10], by rw [hk]; simp [e0, e1, e2, e3, e7, e10]; rfl⟩ d_Course_doAction_161
    have f0 : ¬ op.toInt = 0 := lv_neT e0 (by decide)
    have f1 : ¬ op.toInt = 1 := lv_neT e1 (by decide)
    have f2 : ¬ op.toInt = 2 := lv_neT e2 (by decide)
    have f3 : ¬ op.toInt = 3 := lv_neT e3 (by decide)
    have f7 : ¬ op.toInt = 7 := lv_neT e7 (by decide)
    have f10 : ¬ op.toInt = 10 := lv_neT e10 (by decide)
    rcases (show op.toInt < 0 ∨ 10 < op.toInt ∨ op.toInt = 4 ∨ op.toInt = 5 ∨ op.toInt = 6 ∨ op.toInt = 8 ∨ op.toInt = 9 by omega) with h | h | h | h | h | h | h
    · exact v_tabOut (pc := 59) (tgt := 141) C d_Course_doAction_59 (Or.inl h) (by decide) dflt
    · exact v_tabOut (pc := 59) (tgt := 141) C d_Course_doAction_59 (Or.inr h) (by decide) dflt
    · exact v_tabIn (pc := 59) (off := 82) (tgt := 141) C d_Course_doAction_59 (by omega) (by omega) (by rw [h]; decide) (by decide) dflt
    · exact v_tabIn (pc := 59) (off := 82) (tgt := 141) C d_Course_doAction_59 (by omega) (by omega) (by rw [h]; decide) (by decide) dflt
    · exact v_tabIn (pc := 59) (off := 82) (tgt := 141) C d_Course_doAction_59 (by omega) (by omega) (by rw [h]; decide) (by decide) dflt
    · exact v_tabIn (pc := 59) (off := 82) (tgt := 141) C d_Course_doAction_59 (by omega) (by omega) (by rw [h]; decide) (by decide) dflt
    · exact v_tabIn (pc := 59) (off := 82) (tgt := 141) C d_Course_doAction_59 (by omega) (by omega) (by rw [h]; decide) (by decide) dflt
  refine v_aload_n (pc := 0) C d_Course_doAction_0 rfl rfl ?_
  refine gf_Course_25 (pc := 1) C d_Course_doAction_1 ?_
  refine v_iload_n (pc := 4) C d_Course_doAction_4 rfl rfl ?_
  refine v_aaloadK (pc := 5) C rfl rfl (by decide) (rfl) (hn) (by decide) d_Course_doAction_5 ?_
  refine v_astore_n (pc := 6) C d_Course_doAction_6 rfl (by decide) ?_
  refine v_aload_n (pc := 7) C d_Course_doAction_7 rfl rfl ?_
  refine gf_Course_11 (pc := 8) C d_Course_doAction_8 ?_
  refine v_aload_n (pc := 11) C d_Course_doAction_11 rfl rfl ?_
  refine gf_Course_176 (pc := 12) C d_Course_doAction_12 ?_
  refine v_aaload (pc := 15) C rfl rfl (by decide) hqq d_Course_doAction_15 ?_
  refine v_astore_n (pc := 16) C d_Course_doAction_16 rfl (by decide) ?_
  refine v_aload_n (pc := 17) C d_Course_doAction_17 rfl rfl ?_
  refine gf_Course_177 (pc := 18) C d_Course_doAction_18 ?_
  refine v_aload_n (pc := 21) C d_Course_doAction_21 rfl rfl ?_
  refine gf_Course_180 (pc := 22) C d_Course_doAction_22 ?_
  refine v_icmp_lt (pc := 25) (tgt := 35) C d_Course_doAction_25 (by decide) (fun h25 => ?_) (fun h25 => ?_)
  · refine v_aload_n (pc := 35) C d_Course_doAction_35 rfl rfl ?_
    refine gf_Course_184 (pc := 36) C d_Course_doAction_36 ?_
    refine v_aload_n (pc := 39) C d_Course_doAction_39 rfl rfl ?_
    refine gf_Course_177 (pc := 40) C d_Course_doAction_40 ?_
    refine v_iaload (pc := 43) C rfl rfl (hin (Int32.not_le.mp (by intro q; exact absurd h25 (Int32.not_lt.mpr q)))) d_Course_doAction_43 ?_
    refine v_istore (pc := 44) C d_Course_doAction_44 (by decide) ?_
    refine v_aload_n (pc := 46) C d_Course_doAction_46 rfl rfl ?_
    refine gf_Course_187 (pc := 47) C d_Course_doAction_47 ?_
    refine v_aload_n (pc := 50) C d_Course_doAction_50 rfl rfl ?_
    refine gf_Course_177 (pc := 51) C d_Course_doAction_51 ?_
    refine v_iaload (pc := 54) C rfl rfl (hin (Int32.not_le.mp (by intro q; exact absurd h25 (Int32.not_lt.mpr q)))) d_Course_doAction_54 ?_
    refine v_istore (pc := 55) C d_Course_doAction_55 (by decide) ?_
    refine v_iload (pc := 57) C d_Course_doAction_57 rfl ?_
    obtain ⟨y, hy, hyz⟩ := hat
    obtain ⟨w, hw, hwz⟩ := hsz
    have hyw : y < w := by rw [hyz, hwz] at h25; exact (nI_ltI (by omega) (by omega)).mp h25
    exact rest _ _ (by unfold kAction; dsimp only; rw [if_neg (Int32.not_le.mpr h25)]) y (by omega) hyz
  · refine v_aload_n (pc := 28) C d_Course_doAction_28 rfl rfl ?_
    refine v_iconst (pc := 29) (v := (-1)) C d_Course_doAction_29 (by decide) ?_
    refine cl_Course_181 (pc := 30) C (c_Strand_end l hJ σ n hn (-1)) ⟨rfl, rfl, by decide, by decide⟩ rfl rfl (Nat.le_of_ble_eq_true rfl) d_Course_doAction_30 (fun r σ' hq => ?_)
    rw [hq.1, hq.2]
    refine v_iconst (pc := 33) (v := 0) C d_Course_doAction_33 (by decide) ?_
    exact v_zreturn (pc := 34) C hr rfl ⟨by unfold kAction; dsimp only; rw [if_pos (Int32.not_lt.mp h25)], by unfold kAction; dsimp only; rw [if_pos (Int32.not_lt.mp h25)]⟩ d_Course_doAction_34
