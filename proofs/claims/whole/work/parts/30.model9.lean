def gTestS (σ : ty_St) (t : Nat) (q to rd wr : Int32) : ty_St :=
  ty_up (ty_up (ty_up (ty_up (ty_up (ty_up (ty_up (ty_up (ty_up (ty_up (ty_up (ty_up (ty_up σ 20 0 0 0) 20 0 1 (σ 20 0 1 + 1)) 25 0 t q) 26 0 t to) 27 0 t (rd &&& (wr ^^^ (-1)))) 28 0 t wr) 29 0 t 0) 30 0 t (-1)) 31 0 t (-1)) 32 0 t (-1)) 33 0 t (-1)) 37 0 t 0) 36 0 t 0
def gLookV (σ : ty_St) (t : Nat) (what : Int32) : Int32 :=
  if what = 0 then σ 29 0 t else if what = 1 then σ 30 0 t else if what = 2 then σ 31 0 t else if what = 3 then σ 32 0 t else if what = 4 then σ 33 0 t else if what = 5 then (if σ 37 0 t = 0 then 0 else 1) else σ 36 0 t
def gCountV (σ : ty_St) (what : Int32) : Int32 :=
  if what = 0 then σ 20 0 1 else if what = 1 then σ 20 0 4 else if what = 2 then σ 20 0 5 else if what = 3 then σ 20 0 6 else if what = 4 then σ 20 0 8 else if what = 5 then σ 20 0 7 else σ 20 0 9
theorem kIn_vpm {x : Int32} {n : Nat} (hn : n < 1000000) (h : ¬ kIn x 0 (nI n - 1) = 0) : ∃ j, j < n ∧ x = nI j := by
  cases n with
  | zero =>
    exfalso
    unfold kIn at h
    split at h
    · rename_i q
      have h1 := Int32.le_trans q.1 q.2
      exact absurd h1 (by decide)
    · exact absurd rfl h
  | succ n =>
    rw [nI_pred] at h
    obtain ⟨j, hj, e⟩ := kIn_vp (by omega) h
    exact ⟨j, by omega, e⟩
theorem gLeast_nI {n m : Nat} (hn : n < 2 ^ 31) (hm : m < 2 ^ 31) : gLeast (nI n) (nI m) = nI (if n < m then n else m) := by
  unfold gLeast
  by_cases h : n < m
  · rw [if_pos h, if_pos (nI_lt h hm)]
  · rw [if_neg h, if_neg (nI_nlt (by omega) hn)]
set_option maxRecDepth 100000 in
set_option maxHeartbeats 4000000 in
theorem m_test (l : Launch) {D : va_G} {ad : Nat → Nat → Nat} {cA : Nat → ClassId} (hJ : ty_J cnM ad) (σ : ty_St) (tc : Nat) (htc : tc ≤ 12) (hc : σ 20 0 1 = nI tc) (x to rd wr : Int32) : ty_M l y_Model_test (Cond.code y_Model_test b_Model_test 6 (some .int) :: ty_w) (rmL 1) cnM D ad cA [.inr (20, 0), .inl x, .inl to, .inl rd, .inl wr] σ (fun r σ' => (¬ (kIn x 0 9 = 1 ∧ kIn to 0 50 = 1 ∧ kIn rd 0 15 = 1 ∧ kIn wr 0 15 = 1) ∧ r = some (.inl 0) ∧ σ' = gE σ 1) ∨ (¬ ¬ (kIn x 0 9 = 1 ∧ kIn to 0 50 = 1 ∧ kIn rd 0 15 = 1 ∧ kIn wr 0 15 = 1) ∧ tc = 12 ∧ r = some (.inl 0) ∧ σ' = gE σ 2) ∨ (¬ ¬ (kIn x 0 9 = 1 ∧ kIn to 0 50 = 1 ∧ kIn rd 0 15 = 1 ∧ kIn wr 0 15 = 1) ∧ tc < 12 ∧ r = some (.inl (nI tc)) ∧ σ' = gTestS σ tc x to rd wr)) := by
  refine ty_M.of rfl hJ layM (ty_oks.cons (show (0 : Nat) < cnM 20 by decide) (ty_oks.cons trivial (ty_oks.cons trivial (ty_oks.cons trivial (ty_oks.cons trivial ty_oks.nil))))) (Nat.le_of_ble_eq_true rfl) ?_
  intro p e s m args below meth c C hr hnm
  have hc0 : (ty_up σ 20 0 0 0) 20 0 1 = nI tc := (up_sj (by decide)).trans hc
  refine v_aload_n (pc := 0) C d_Model_test_0 rfl rfl ?_
  refine v_iconst (pc := 1) (v := 0) C d_Model_test_1 (by decide) ?_
  refine pf_Model_99 (pc := 2) C d_Model_test_2 ?_
  refine v_aload_n (pc := 5) C d_Model_test_5 rfl rfl ?_
  refine v_iload_n (pc := 6) C d_Model_test_6 rfl rfl ?_
  refine v_iconst (pc := 7) (v := 0) C d_Model_test_7 (by decide) ?_
  refine v_bipush (pc := 8) (v := 9) C d_Model_test_8 (by decide) ?_
  refine cl_Model_102 (pc := 10) C (m_in l hJ _ _ _ _) ⟨rfl, rfl, by decide, by decide⟩ rfl rfl (Nat.le_of_ble_eq_true rfl) d_Model_test_10 (fun r σ' hq => ?_)
  rw [hq.1, hq.2]
  refine v_if_eq (pc := 13) (tgt := 47) C d_Model_test_13 (by decide) (fun h13 => ?_) (fun h13 => ?_)
  · refine v_iconst (pc := 47) (v := 1) C d_Model_test_47 (by decide) ?_
    refine v_goto (pc := 48) (tgt := 52) C d_Model_test_48 (by decide) ?_
    refine v_iconst (pc := 52) (v := 1) C d_Model_test_52 (by decide) ?_
    refine cl_Model_110 (pc := 53) C (m_fails l hJ (ty_up σ 20 0 0 0) up_ss _ _ (by decide)) ⟨rfl, rfl, by decide, by decide⟩ rfl rfl (Nat.le_of_ble_eq_true rfl) d_Model_test_53 (fun r σ' hq => ?_)
    rw [hq.1, hq.2, if_neg (by decide), if_neg (by decide)]
    refine v_if_ne (pc := 56) (tgt := 81) C d_Model_test_56 (by decide) (fun h56 => ?_) (fun h56 => ?_)
    · refine v_iconst (pc := 81) (v := 0) C d_Model_test_81 (by decide) ?_
      exact v_ireturn (pc := 82) C hr (Or.inl ⟨fun q => absurd (h13.symm.trans q.1) (by decide), rfl, rfl⟩) d_Model_test_82
    · exact absurd h56 (by decide)
  · refine v_iload_n (pc := 16) C d_Model_test_16 rfl rfl ?_
    refine v_iconst (pc := 17) (v := 0) C d_Model_test_17 (by decide) ?_
    refine v_bipush (pc := 18) (v := 50) C d_Model_test_18 (by decide) ?_
    refine cl_Model_102 (pc := 20) C (m_in l hJ _ _ _ _) ⟨rfl, rfl, by decide, by decide⟩ rfl rfl (Nat.le_of_ble_eq_true rfl) d_Model_test_20 (fun r σ' hq => ?_)
    rw [hq.1, hq.2]
    refine v_if_eq (pc := 23) (tgt := 47) C d_Model_test_23 (by decide) (fun h23 => ?_) (fun h23 => ?_)
    · refine v_iconst (pc := 47) (v := 1) C d_Model_test_47 (by decide) ?_
      refine v_goto (pc := 48) (tgt := 52) C d_Model_test_48 (by decide) ?_
      refine v_iconst (pc := 52) (v := 1) C d_Model_test_52 (by decide) ?_
      refine cl_Model_110 (pc := 53) C (m_fails l hJ (ty_up σ 20 0 0 0) up_ss _ _ (by decide)) ⟨rfl, rfl, by decide, by decide⟩ rfl rfl (Nat.le_of_ble_eq_true rfl) d_Model_test_53 (fun r σ' hq => ?_)
      rw [hq.1, hq.2, if_neg (by decide), if_neg (by decide)]
      refine v_if_ne (pc := 56) (tgt := 81) C d_Model_test_56 (by decide) (fun h56 => ?_) (fun h56 => ?_)
      · refine v_iconst (pc := 81) (v := 0) C d_Model_test_81 (by decide) ?_
        exact v_ireturn (pc := 82) C hr (Or.inl ⟨fun q => absurd (h23.symm.trans q.2.1) (by decide), rfl, rfl⟩) d_Model_test_82
      · exact absurd h56 (by decide)
    · refine v_iload_n (pc := 26) C d_Model_test_26 rfl rfl ?_
      refine v_iconst (pc := 27) (v := 0) C d_Model_test_27 (by decide) ?_
      refine v_bipush (pc := 28) (v := 15) C d_Model_test_28 (by decide) ?_
      refine cl_Model_102 (pc := 30) C (m_in l hJ _ _ _ _) ⟨rfl, rfl, by decide, by decide⟩ rfl rfl (Nat.le_of_ble_eq_true rfl) d_Model_test_30 (fun r σ' hq => ?_)
      rw [hq.1, hq.2]
      refine v_if_eq (pc := 33) (tgt := 47) C d_Model_test_33 (by decide) (fun h33 => ?_) (fun h33 => ?_)
      · refine v_iconst (pc := 47) (v := 1) C d_Model_test_47 (by decide) ?_
        refine v_goto (pc := 48) (tgt := 52) C d_Model_test_48 (by decide) ?_
        refine v_iconst (pc := 52) (v := 1) C d_Model_test_52 (by decide) ?_
        refine cl_Model_110 (pc := 53) C (m_fails l hJ (ty_up σ 20 0 0 0) up_ss _ _ (by decide)) ⟨rfl, rfl, by decide, by decide⟩ rfl rfl (Nat.le_of_ble_eq_true rfl) d_Model_test_53 (fun r σ' hq => ?_)
        rw [hq.1, hq.2, if_neg (by decide), if_neg (by decide)]
        refine v_if_ne (pc := 56) (tgt := 81) C d_Model_test_56 (by decide) (fun h56 => ?_) (fun h56 => ?_)
        · refine v_iconst (pc := 81) (v := 0) C d_Model_test_81 (by decide) ?_
          exact v_ireturn (pc := 82) C hr (Or.inl ⟨fun q => absurd (h33.symm.trans q.2.2.1) (by decide), rfl, rfl⟩) d_Model_test_82
        · exact absurd h56 (by decide)
      · refine v_iload (pc := 36) C d_Model_test_36 rfl ?_
        refine v_iconst (pc := 38) (v := 0) C d_Model_test_38 (by decide) ?_
        refine v_bipush (pc := 39) (v := 15) C d_Model_test_39 (by decide) ?_
        refine cl_Model_102 (pc := 41) C (m_in l hJ _ _ _ _) ⟨rfl, rfl, by decide, by decide⟩ rfl rfl (Nat.le_of_ble_eq_true rfl) d_Model_test_41 (fun r σ' hq => ?_)
        rw [hq.1, hq.2]
        refine v_if_ne (pc := 44) (tgt := 51) C d_Model_test_44 (by decide) (fun h44 => ?_) (fun h44 => ?_)
        · refine v_iconst (pc := 51) (v := 0) C d_Model_test_51 (by decide) ?_
          refine v_iconst (pc := 52) (v := 1) C d_Model_test_52 (by decide) ?_
          refine cl_Model_110 (pc := 53) C (m_fails l hJ (ty_up σ 20 0 0 0) up_ss _ _ (by decide)) ⟨rfl, rfl, by decide, by decide⟩ rfl rfl (Nat.le_of_ble_eq_true rfl) d_Model_test_53 (fun r σ' hq => ?_)
          rw [hq.1, hq.2, if_pos rfl, if_pos rfl]
          refine v_if_ne (pc := 56) (tgt := 81) C d_Model_test_56 (by decide) (fun h56 => ?_) (fun h56 => ?_)
          · exact absurd rfl h56
          · refine v_aload_n (pc := 59) C d_Model_test_59 rfl rfl ?_
            refine v_aload_n (pc := 60) C d_Model_test_60 rfl rfl ?_
            refine gf_Model_114 (pc := 61) C d_Model_test_61 ?_
            refine v_bipush (pc := 64) (v := 12) C d_Model_test_64 (by decide) ?_
            refine v_icmp_ne (pc := 66) (tgt := 73) C d_Model_test_66 (by decide) (fun h66 => ?_) (fun h66 => ?_)
            · refine v_iconst (pc := 73) (v := 0) C d_Model_test_73 (by decide) ?_
              refine v_iconst (pc := 74) (v := 2) C d_Model_test_74 (by decide) ?_
              refine cl_Model_110 (pc := 75) C (m_fails l hJ (ty_up σ 20 0 0 0) up_ss _ _ (by decide)) ⟨rfl, rfl, by decide, by decide⟩ rfl rfl (Nat.le_of_ble_eq_true rfl) d_Model_test_75 (fun r σ' hq => ?_)
              rw [hq.1, hq.2, if_pos rfl, if_pos rfl]
              refine v_if_eq (pc := 78) (tgt := 83) C d_Model_test_78 (by decide) (fun h78 => ?_) (fun h78 => ?_)
              · have hlt : tc < 12 := by
                  have : ¬ tc = 12 := fun e => h66 (by rw [hc0, e]; rfl)
                  omega
                refine v_aload_n (pc := 83) C d_Model_test_83 rfl rfl ?_
                refine gf_Model_114 (pc := 84) C d_Model_test_84 ?_
                refine v_istore (pc := 87) C d_Model_test_87 (by decide) ?_
                refine v_aload_n (pc := 89) C d_Model_test_89 rfl rfl ?_
                refine v_dup (pc := 90) C d_Model_test_90 ?_
                refine gf_Model_114 (pc := 91) C d_Model_test_91 ?_
                refine v_iconst (pc := 94) (v := 1) C d_Model_test_94 (by decide) ?_
                refine v_iadd (pc := 95) C d_Model_test_95 ?_
                refine pf_Model_114 (pc := 96) C d_Model_test_96 ?_
                refine v_aload_n (pc := 99) C d_Model_test_99 rfl rfl ?_
                refine gf_Model_26 (pc := 100) C d_Model_test_100 ?_
                refine v_iload (pc := 103) C d_Model_test_103 rfl ?_
                refine v_iload_n (pc := 105) C d_Model_test_105 rfl rfl ?_
                refine v_iastoreK (pc := 106) C rfl rfl (hc0) (hlt) (by decide) d_Model_test_106 ?_
                refine v_aload_n (pc := 107) C d_Model_test_107 rfl rfl ?_
                refine gf_Model_29 (pc := 108) C d_Model_test_108 ?_
                refine v_iload (pc := 111) C d_Model_test_111 rfl ?_
                refine v_iload_n (pc := 113) C d_Model_test_113 rfl rfl ?_
                refine v_iastoreK (pc := 114) C rfl rfl (hc0) (hlt) (by decide) d_Model_test_114 ?_
                refine v_aload_n (pc := 115) C d_Model_test_115 rfl rfl ?_
                refine gf_Model_32 (pc := 116) C d_Model_test_116 ?_
                refine v_iload (pc := 119) C d_Model_test_119 rfl ?_
                refine v_iload_n (pc := 121) C d_Model_test_121 rfl rfl ?_
                refine v_iload (pc := 122) C d_Model_test_122 rfl ?_
                refine v_iconst (pc := 124) (v := (-1)) C d_Model_test_124 (by decide) ?_
                refine v_ixor (pc := 125) C d_Model_test_125 ?_
                refine v_iand (pc := 126) C d_Model_test_126 ?_
                refine v_iastoreK (pc := 127) C rfl rfl (hc0) (hlt) (by decide) d_Model_test_127 ?_
                refine v_aload_n (pc := 128) C d_Model_test_128 rfl rfl ?_
                refine gf_Model_35 (pc := 129) C d_Model_test_129 ?_
                refine v_iload (pc := 132) C d_Model_test_132 rfl ?_
                refine v_iload (pc := 134) C d_Model_test_134 rfl ?_
                refine v_iastoreK (pc := 136) C rfl rfl (hc0) (hlt) (by decide) d_Model_test_136 ?_
                refine v_aload_n (pc := 137) C d_Model_test_137 rfl rfl ?_
                refine gf_Model_38 (pc := 138) C d_Model_test_138 ?_
                refine v_iload (pc := 141) C d_Model_test_141 rfl ?_
                refine v_iconst (pc := 143) (v := 0) C d_Model_test_143 (by decide) ?_
                refine v_iastoreK (pc := 144) C rfl rfl (hc0) (hlt) (by decide) d_Model_test_144 ?_
                refine v_aload_n (pc := 145) C d_Model_test_145 rfl rfl ?_
                refine gf_Model_41 (pc := 146) C d_Model_test_146 ?_
                refine v_iload (pc := 149) C d_Model_test_149 rfl ?_
                refine v_iconst (pc := 151) (v := (-1)) C d_Model_test_151 (by decide) ?_
                refine v_iastoreK (pc := 152) C rfl rfl (hc0) (hlt) (by decide) d_Model_test_152 ?_
                refine v_aload_n (pc := 153) C d_Model_test_153 rfl rfl ?_
                refine gf_Model_44 (pc := 154) C d_Model_test_154 ?_
                refine v_iload (pc := 157) C d_Model_test_157 rfl ?_
                refine v_iconst (pc := 159) (v := (-1)) C d_Model_test_159 (by decide) ?_
                refine v_iastoreK (pc := 160) C rfl rfl (hc0) (hlt) (by decide) d_Model_test_160 ?_
                refine v_aload_n (pc := 161) C d_Model_test_161 rfl rfl ?_
                refine gf_Model_47 (pc := 162) C d_Model_test_162 ?_
                refine v_iload (pc := 165) C d_Model_test_165 rfl ?_
                refine v_iconst (pc := 167) (v := (-1)) C d_Model_test_167 (by decide) ?_
                refine v_iastoreK (pc := 168) C rfl rfl (hc0) (hlt) (by decide) d_Model_test_168 ?_
                refine v_aload_n (pc := 169) C d_Model_test_169 rfl rfl ?_
                refine gf_Model_50 (pc := 170) C d_Model_test_170 ?_
                refine v_iload (pc := 173) C d_Model_test_173 rfl ?_
                refine v_iconst (pc := 175) (v := (-1)) C d_Model_test_175 (by decide) ?_
                refine v_iastoreK (pc := 176) C rfl rfl (hc0) (hlt) (by decide) d_Model_test_176 ?_
                refine v_aload_n (pc := 177) C d_Model_test_177 rfl rfl ?_
                refine gf_Model_62 (pc := 178) C d_Model_test_178 ?_
                refine v_iload (pc := 181) C d_Model_test_181 rfl ?_
                refine v_iconst (pc := 183) (v := 0) C d_Model_test_183 (by decide) ?_
                refine v_bastoreK (pc := 184) C rfl rfl (hc0) (hlt) (by decide) rfl d_Model_test_184 ?_
                refine v_aload_n (pc := 185) C d_Model_test_185 rfl rfl ?_
                refine gf_Model_59 (pc := 186) C d_Model_test_186 ?_
                refine v_iload (pc := 189) C d_Model_test_189 rfl ?_
                refine v_iconst (pc := 191) (v := 0) C d_Model_test_191 (by decide) ?_
                refine v_iastoreK (pc := 192) C rfl rfl (hc0) (hlt) (by decide) d_Model_test_192 ?_
                refine v_iload (pc := 193) C d_Model_test_193 rfl ?_
                rw [hc0]
                exact v_ireturn (pc := 195) C hr (Or.inr (Or.inr ⟨(fun q => q ⟨kIn_n1 h13, kIn_n1 h23, kIn_n1 h33, kIn_n1 h44⟩), hlt, rfl, by unfold gTestS; rw [hc]⟩)) d_Model_test_195
              · exact absurd rfl h78
            · refine v_iconst (pc := 69) (v := 1) C d_Model_test_69 (by decide) ?_
              refine v_goto (pc := 70) (tgt := 74) C d_Model_test_70 (by decide) ?_
              refine v_iconst (pc := 74) (v := 2) C d_Model_test_74 (by decide) ?_
              refine cl_Model_110 (pc := 75) C (m_fails l hJ (ty_up σ 20 0 0 0) up_ss _ _ (by decide)) ⟨rfl, rfl, by decide, by decide⟩ rfl rfl (Nat.le_of_ble_eq_true rfl) d_Model_test_75 (fun r σ' hq => ?_)
              rw [hq.1, hq.2, if_neg (by decide), if_neg (by decide)]
              refine v_if_eq (pc := 78) (tgt := 83) C d_Model_test_78 (by decide) (fun h78 => ?_) (fun h78 => ?_)
              · exact absurd h78 (by decide)
              · refine v_iconst (pc := 81) (v := 0) C d_Model_test_81 (by decide) ?_
                exact v_ireturn (pc := 82) C hr (Or.inr (Or.inl ⟨(fun q => q ⟨kIn_n1 h13, kIn_n1 h23, kIn_n1 h33, kIn_n1 h44⟩), by rw [hc0] at h66; exact (nI_eq (a := tc) (b := 12) (by omega) (by decide)).mp h66, rfl, rfl⟩)) d_Model_test_82
        · refine v_iconst (pc := 47) (v := 1) C d_Model_test_47 (by decide) ?_
          refine v_goto (pc := 48) (tgt := 52) C d_Model_test_48 (by decide) ?_
          refine v_iconst (pc := 52) (v := 1) C d_Model_test_52 (by decide) ?_
          refine cl_Model_110 (pc := 53) C (m_fails l hJ (ty_up σ 20 0 0 0) up_ss _ _ (by decide)) ⟨rfl, rfl, by decide, by decide⟩ rfl rfl (Nat.le_of_ble_eq_true rfl) d_Model_test_53 (fun r σ' hq => ?_)
          rw [hq.1, hq.2, if_neg (by decide), if_neg (by decide)]
          refine v_if_ne (pc := 56) (tgt := 81) C d_Model_test_56 (by decide) (fun h56 => ?_) (fun h56 => ?_)
          · refine v_iconst (pc := 81) (v := 0) C d_Model_test_81 (by decide) ?_
            exact v_ireturn (pc := 82) C hr (Or.inl ⟨fun q => absurd (h44.symm.trans q.2.2.2) (by decide), rfl, rfl⟩) d_Model_test_82
          · exact absurd h56 (by decide)
set_option maxRecDepth 100000 in
set_option maxHeartbeats 4000000 in
theorem m_workers (l : Launch) {D : va_G} {ad : Nat → Nat → Nat} {cA : Nat → ClassId} (hJ : ty_J cnM ad) (σ : ty_St) (n : Int32) : ty_M l y_Model_workers (Cond.code y_Model_workers b_Model_workers 3 (some .int) :: ty_w) (rmL 1) cnM D ad cA [.inr (20, 0), .inl n] σ (fun r σ' => (¬ kIn n 1 4 = 1 ∧ r = some (.inl 0) ∧ σ' = gE σ 1) ∨ (kIn n 1 4 = 1 ∧ r = some (.inl (σ 20 0 2)) ∧ σ' = ty_up (ty_up σ 20 0 0 0) 20 0 2 n)) := by
  refine ty_M.of rfl hJ layM (ty_oks.cons (show (0 : Nat) < cnM 20 by decide) (ty_oks.cons trivial ty_oks.nil)) (Nat.le_of_ble_eq_true rfl) ?_
  intro p e s m args below meth c C hr hnm
  refine v_aload_n (pc := 0) C d_Model_workers_0 rfl rfl ?_
  refine v_iconst (pc := 1) (v := 0) C d_Model_workers_1 (by decide) ?_
  refine pf_Model_99 (pc := 2) C d_Model_workers_2 ?_
  refine v_aload_n (pc := 5) C d_Model_workers_5 rfl rfl ?_
  refine v_iload_n (pc := 6) C d_Model_workers_6 rfl rfl ?_
  refine v_iconst (pc := 7) (v := 1) C d_Model_workers_7 (by decide) ?_
  refine v_iconst (pc := 8) (v := 4) C d_Model_workers_8 (by decide) ?_
  refine cl_Model_102 (pc := 9) C (m_in l hJ _ _ _ _) ⟨rfl, rfl, by decide, by decide⟩ rfl rfl (Nat.le_of_ble_eq_true rfl) d_Model_workers_9 (fun r σ' hq => ?_)
  rw [hq.1, hq.2]
  refine v_if_ne (pc := 12) (tgt := 19) C d_Model_workers_12 (by decide) (fun h12 => ?_) (fun h12 => ?_)
  · refine v_iconst (pc := 19) (v := 0) C d_Model_workers_19 (by decide) ?_
    refine v_iconst (pc := 20) (v := 1) C d_Model_workers_20 (by decide) ?_
    refine cl_Model_110 (pc := 21) C (m_fails l hJ (ty_up σ 20 0 0 0) up_ss _ _ (by decide)) ⟨rfl, rfl, by decide, by decide⟩ rfl rfl (Nat.le_of_ble_eq_true rfl) d_Model_workers_21 (fun r σ' hq => ?_)
    rw [hq.1, hq.2, if_pos rfl, if_pos rfl]
    refine v_if_eq (pc := 24) (tgt := 29) C d_Model_workers_24 (by decide) (fun h24 => ?_) (fun h24 => ?_)
    · refine v_aload_n (pc := 29) C d_Model_workers_29 rfl rfl ?_
      refine gf_Model_7 (pc := 30) C d_Model_workers_30 ?_
      refine v_istore_n (pc := 33) C d_Model_workers_33 rfl (by decide) ?_
      refine v_aload_n (pc := 34) C d_Model_workers_34 rfl rfl ?_
      refine v_iload_n (pc := 35) C d_Model_workers_35 rfl rfl ?_
      refine pf_Model_7 (pc := 36) C d_Model_workers_36 ?_
      refine v_iload_n (pc := 39) C d_Model_workers_39 rfl rfl ?_
      exact v_ireturn (pc := 40) C hr (Or.inr ⟨kIn_n1 h12, by rw [up_sj (by decide)], rfl⟩) d_Model_workers_40
    · exact absurd rfl h24
  · refine v_iconst (pc := 15) (v := 1) C d_Model_workers_15 (by decide) ?_
    refine v_goto (pc := 16) (tgt := 20) C d_Model_workers_16 (by decide) ?_
    refine v_iconst (pc := 20) (v := 1) C d_Model_workers_20 (by decide) ?_
    refine cl_Model_110 (pc := 21) C (m_fails l hJ (ty_up σ 20 0 0 0) up_ss _ _ (by decide)) ⟨rfl, rfl, by decide, by decide⟩ rfl rfl (Nat.le_of_ble_eq_true rfl) d_Model_workers_21 (fun r σ' hq => ?_)
    rw [hq.1, hq.2, if_neg (by decide), if_neg (by decide)]
    refine v_if_eq (pc := 24) (tgt := 29) C d_Model_workers_24 (by decide) (fun h24 => ?_) (fun h24 => ?_)
    · exact absurd h24 (by decide)
    · refine v_iconst (pc := 27) (v := 0) C d_Model_workers_27 (by decide) ?_
      exact v_ireturn (pc := 28) C hr (Or.inl ⟨fun q => absurd (h12.symm.trans q) (by decide), rfl, rfl⟩) d_Model_workers_28
-- look
set_option maxRecDepth 100000 in
set_option maxHeartbeats 4000000 in
theorem m_look (l : Launch) {D : va_G} {ad : Nat → Nat → Nat} {cA : Nat → ClassId} (hJ : ty_J cnM ad) (σ : ty_St) (tc : Nat) (htc : tc ≤ 12) (hc : σ 20 0 1 = nI tc) (x what : Int32) : ty_M l y_Model_look (Cond.code y_Model_look b_Model_look 3 (some .int) :: ty_w) (rmL 1) cnM D ad cA [.inr (20, 0), .inl x, .inl what] σ (fun r σ' => (¬ (kIn x 0 (σ 20 0 1 - 1) = 1 ∧ kIn what 0 6 = 1) ∧ r = some (.inl 0) ∧ σ' = gE σ 1) ∨ (¬ ¬ (kIn x 0 (σ 20 0 1 - 1) = 1 ∧ kIn what 0 6 = 1) ∧ r = some (.inl (gLookV σ (nn x) what)) ∧ σ' = ty_up σ 20 0 0 0)) := by
  refine ty_M.of rfl hJ layM (ty_oks.cons (show (0 : Nat) < cnM 20 by decide) (ty_oks.cons trivial (ty_oks.cons trivial ty_oks.nil))) (Nat.le_of_ble_eq_true rfl) ?_
  intro p e s m args below meth c C hr hnm
  have hc0 : (ty_up σ 20 0 0 0) 20 0 1 = σ 20 0 1 := up_sj (by decide)
  have rest : ∀ (j : Nat), j < 12 → x = nI j → (¬ ¬ (kIn x 0 (σ 20 0 1 - 1) = 1 ∧ kIn what 0 6 = 1)) → ty_V cnM p l e (rmL 1) s m args below meth c D ad cA (ty_Gd cnM ad s) 3 (MQ below (ty_Q cnM D ad cA (fun r σ' => (¬ (kIn x 0 (σ 20 0 1 - 1) = 1 ∧ kIn what 0 6 = 1) ∧ r = some (.inl 0) ∧ σ' = gE σ 1) ∨ (¬ ¬ (kIn x 0 (σ 20 0 1 - 1) = 1 ∧ kIn what 0 6 = 1) ∧ r = some (.inl (gLookV σ (nn x) what)) ∧ σ' = ty_up σ 20 0 0 0)) (ty_A cnM ad)) args s 0 0 (ty_A cnM ad)) (ty_up σ 20 0 0 0) [some (.inr (20, 0)), some (.inl x), some (.inl what)] 45 [.inl what] := by
    intro j hj hxj gb
    have hjn : nn x = j := by rw [hxj]; exact nI_clamp (by omega)
    by_cases e0 : what = 0
    · subst e0
      refine v_tabIn (pc := 45) (off := 39) (tgt := 84) C d_Model_look_45 (by decide) (by decide) (by decide) (by decide) ?_
      refine v_aload_n (pc := 84) C d_Model_look_84 rfl rfl ?_
      refine gf_Model_38 (pc := 85) C d_Model_look_85 ?_
      refine v_iload_n (pc := 88) C d_Model_look_88 rfl rfl ?_
      refine v_ialoadK (pc := 89) C rfl rfl (hxj) (by omega) (by decide) d_Model_look_89 ?_
      exact v_ireturn (pc := 90) C hr (Or.inr ⟨gb, by unfold gLookV; rw [hjn]; simp; rfl, rfl⟩) d_Model_look_90
    by_cases e1 : what = 1
    · subst e1
      refine v_tabIn (pc := 45) (off := 46) (tgt := 91) C d_Model_look_45 (by decide) (by decide) (by decide) (by decide) ?_
      refine v_aload_n (pc := 91) C d_Model_look_91 rfl rfl ?_
      refine gf_Model_41 (pc := 92) C d_Model_look_92 ?_
      refine v_iload_n (pc := 95) C d_Model_look_95 rfl rfl ?_
      refine v_ialoadK (pc := 96) C rfl rfl (hxj) (by omega) (by decide) d_Model_look_96 ?_
      exact v_ireturn (pc := 97) C hr (Or.inr ⟨gb, by unfold gLookV; rw [hjn]; simp; rfl, rfl⟩) d_Model_look_97
    by_cases e2 : what = 2
    · subst e2
      refine v_tabIn (pc := 45) (off := 53) (tgt := 98) C d_Model_look_45 (by decide) (by decide) (by decide) (by decide) ?_
      refine v_aload_n (pc := 98) C d_Model_look_98 rfl rfl ?_
      refine gf_Model_44 (pc := 99) C d_Model_look_99 ?_
      refine v_iload_n (pc := 102) C d_Model_look_102 rfl rfl ?_
      refine v_ialoadK (pc := 103) C rfl rfl (hxj) (by omega) (by decide) d_Model_look_103 ?_
      exact v_ireturn (pc := 104) C hr (Or.inr ⟨gb, by unfold gLookV; rw [hjn]; simp; rfl, rfl⟩) d_Model_look_104
    by_cases e3 : what = 3
    · subst e3
      refine v_tabIn (pc := 45) (off := 60) (tgt := 105) C d_Model_look_45 (by decide) (by decide) (by decide) (by decide) ?_
      refine v_aload_n (pc := 105) C d_Model_look_105 rfl rfl ?_
      refine gf_Model_47 (pc := 106) C d_Model_look_106 ?_
      refine v_iload_n (pc := 109) C d_Model_look_109 rfl rfl ?_
      refine v_ialoadK (pc := 110) C rfl rfl (hxj) (by omega) (by decide) d_Model_look_110 ?_
      exact v_ireturn (pc := 111) C hr (Or.inr ⟨gb, by unfold gLookV; rw [hjn]; simp; rfl, rfl⟩) d_Model_look_111
    by_cases e4 : what = 4
    · subst e4
      refine v_tabIn (pc := 45) (off := 67) (tgt := 112) C d_Model_look_45 (by decide) (by decide) (by decide) (by decide) ?_
      refine v_aload_n (pc := 112) C d_Model_look_112 rfl rfl ?_
      refine gf_Model_50 (pc := 113) C d_Model_look_113 ?_
      refine v_iload_n (pc := 116) C d_Model_look_116 rfl rfl ?_
      refine v_ialoadK (pc := 117) C rfl rfl (hxj) (by omega) (by decide) d_Model_look_117 ?_
      exact v_ireturn (pc := 118) C hr (Or.inr ⟨gb, by unfold gLookV; rw [hjn]; simp; rfl, rfl⟩) d_Model_look_118
    by_cases e5 : what = 5
    · subst e5
      refine v_tabIn (pc := 45) (off := 74) (tgt := 119) C d_Model_look_45 (by decide) (by decide) (by decide) (by decide) ?_
      refine v_aload_n (pc := 119) C d_Model_look_119 rfl rfl ?_
      refine gf_Model_62 (pc := 120) C d_Model_look_120 ?_
      refine v_iload_n (pc := 123) C d_Model_look_123 rfl rfl ?_
      refine v_baloadK (pc := 124) C rfl rfl (hxj) (by omega) (by decide) d_Model_look_124 ?_
      refine v_if_eq (pc := 125) (tgt := 132) C d_Model_look_125 (by decide) (fun h125 => ?_) (fun h125 => ?_)
      · refine v_iconst (pc := 132) (v := 0) C d_Model_look_132 (by decide) ?_
        exact v_ireturn (pc := 133) C hr (Or.inr ⟨gb, by unfold gLookV; rw [hjn]; simp; exact h125, rfl⟩) d_Model_look_133
      · refine v_iconst (pc := 128) (v := 1) C d_Model_look_128 (by decide) ?_
        refine v_goto (pc := 129) (tgt := 133) C d_Model_look_129 (by decide) ?_
        exact v_ireturn (pc := 133) C hr (Or.inr ⟨gb, by unfold gLookV; rw [hjn]; simp; exact h125, rfl⟩) d_Model_look_133
    have dflt : ty_V cnM p l e (rmL 1) s m args below meth c D ad cA (ty_Gd cnM ad s) 3 (MQ below (ty_Q cnM D ad cA (fun r σ' => (¬ (kIn x 0 (σ 20 0 1 - 1) = 1 ∧ kIn what 0 6 = 1) ∧ r = some (.inl 0) ∧ σ' = gE σ 1) ∨ (¬ ¬ (kIn x 0 (σ 20 0 1 - 1) = 1 ∧ kIn what 0 6 = 1) ∧ r = some (.inl (gLookV σ (nn x) what)) ∧ σ' = ty_up σ 20 0 0 0)) (ty_A cnM ad)) args s 0 0 (ty_A cnM ad)) (ty_up σ 20 0 0 0) [some (.inr (20, 0)), some (.inl x), some (.inl what)] 134 [] := by
      refine v_aload_n (pc := 134) C d_Model_look_134 rfl rfl ?_
      refine gf_Model_59 (pc := 135) C d_Model_look_135 ?_
      refine v_iload_n (pc := 138) C d_Model_look_138 rfl rfl ?_
      refine v_ialoadK (pc := 139) C rfl rfl (hxj) (by omega) (by decide) d_Model_look_139 ?_
      exact v_ireturn (pc := 140) C hr (Or.inr ⟨gb, by unfold gLookV; rw [hjn]; simp [e0, e1, e2, e3, e4, e5]; rfl, rfl⟩) d_Model_look_140
    have f0 : ¬ what.toInt = 0 := lv_neT e0 (by decide)
    have f1 : ¬ what.toInt = 1 := lv_neT e1 (by decide)
    have f2 : ¬ what.toInt = 2 := lv_neT e2 (by decide)
    have f3 : ¬ what.toInt = 3 := lv_neT e3 (by decide)
    have f4 : ¬ what.toInt = 4 := lv_neT e4 (by decide)
    have f5 : ¬ what.toInt = 5 := lv_neT e5 (by decide)
    rcases (show what.toInt < 0 ∨ 5 < what.toInt by omega) with h | h
    · exact v_tabOut (pc := 45) (tgt := 134) C d_Model_look_45 (Or.inl h) (by decide) dflt
    · exact v_tabOut (pc := 45) (tgt := 134) C d_Model_look_45 (Or.inr h) (by decide) dflt
  refine v_aload_n (pc := 0) C d_Model_look_0 rfl rfl ?_
  refine v_iconst (pc := 1) (v := 0) C d_Model_look_1 (by decide) ?_
  refine pf_Model_99 (pc := 2) C d_Model_look_2 ?_
  refine v_aload_n (pc := 5) C d_Model_look_5 rfl rfl ?_
  refine v_iload_n (pc := 6) C d_Model_look_6 rfl rfl ?_
  refine v_iconst (pc := 7) (v := 0) C d_Model_look_7 (by decide) ?_
  refine v_aload_n (pc := 8) C d_Model_look_8 rfl rfl ?_
  refine gf_Model_114 (pc := 9) C d_Model_look_9 ?_
  refine v_iconst (pc := 12) (v := 1) C d_Model_look_12 (by decide) ?_
  refine v_isub (pc := 13) C d_Model_look_13 ?_
  refine cl_Model_102 (pc := 14) C (m_in l hJ _ _ _ _) ⟨rfl, rfl, by decide, by decide⟩ rfl rfl (Nat.le_of_ble_eq_true rfl) d_Model_look_14 (fun r σ' hq => ?_)
  rw [hq.1, hq.2, hc0]
  refine v_if_eq (pc := 17) (tgt := 30) C d_Model_look_17 (by decide) (fun h17 => ?_) (fun h17 => ?_)
  · refine v_iconst (pc := 30) (v := 1) C d_Model_look_30 (by decide) ?_
    refine v_goto (pc := 31) (tgt := 35) C d_Model_look_31 (by decide) ?_
    refine v_iconst (pc := 35) (v := 1) C d_Model_look_35 (by decide) ?_
    refine cl_Model_110 (pc := 36) C (m_fails l hJ (ty_up σ 20 0 0 0) up_ss _ _ (by decide)) ⟨rfl, rfl, by decide, by decide⟩ rfl rfl (Nat.le_of_ble_eq_true rfl) d_Model_look_36 (fun r σ' hq => ?_)
    rw [hq.1, hq.2, if_neg (by decide), if_neg (by decide)]
    refine v_if_eq (pc := 39) (tgt := 44) C d_Model_look_39 (by decide) (fun h39 => ?_) (fun h39 => ?_)
    · exact absurd h39 (by decide)
    · refine v_iconst (pc := 42) (v := 0) C d_Model_look_42 (by decide) ?_
      exact v_ireturn (pc := 43) C hr (Or.inl ⟨fun q => absurd (h17.symm.trans q.1) (by decide), rfl, rfl⟩) d_Model_look_43
  · refine v_iload_n (pc := 20) C d_Model_look_20 rfl rfl ?_
    refine v_iconst (pc := 21) (v := 0) C d_Model_look_21 (by decide) ?_
    refine v_bipush (pc := 22) (v := 6) C d_Model_look_22 (by decide) ?_
    refine cl_Model_102 (pc := 24) C (m_in l hJ _ _ _ _) ⟨rfl, rfl, by decide, by decide⟩ rfl rfl (Nat.le_of_ble_eq_true rfl) d_Model_look_24 (fun r σ' hq => ?_)
    rw [hq.1, hq.2]
    refine v_if_ne (pc := 27) (tgt := 34) C d_Model_look_27 (by decide) (fun h27 => ?_) (fun h27 => ?_)
    · refine v_iconst (pc := 34) (v := 0) C d_Model_look_34 (by decide) ?_
      refine v_iconst (pc := 35) (v := 1) C d_Model_look_35 (by decide) ?_
      refine cl_Model_110 (pc := 36) C (m_fails l hJ (ty_up σ 20 0 0 0) up_ss _ _ (by decide)) ⟨rfl, rfl, by decide, by decide⟩ rfl rfl (Nat.le_of_ble_eq_true rfl) d_Model_look_36 (fun r σ' hq => ?_)
      rw [hq.1, hq.2, if_pos rfl, if_pos rfl]
      refine v_if_eq (pc := 39) (tgt := 44) C d_Model_look_39 (by decide) (fun h39 => ?_) (fun h39 => ?_)
      · refine v_iload_n (pc := 44) C d_Model_look_44 rfl rfl ?_
        obtain ⟨j, hj, hxj⟩ := kIn_vpm (n := tc) (by omega) (by rw [hc] at h17; exact h17)
        exact rest j (by omega) hxj (fun q => q ⟨kIn_n1 h17, kIn_n1 h27⟩)
      · exact absurd rfl h39
    · refine v_iconst (pc := 30) (v := 1) C d_Model_look_30 (by decide) ?_
      refine v_goto (pc := 31) (tgt := 35) C d_Model_look_31 (by decide) ?_
      refine v_iconst (pc := 35) (v := 1) C d_Model_look_35 (by decide) ?_
      refine cl_Model_110 (pc := 36) C (m_fails l hJ (ty_up σ 20 0 0 0) up_ss _ _ (by decide)) ⟨rfl, rfl, by decide, by decide⟩ rfl rfl (Nat.le_of_ble_eq_true rfl) d_Model_look_36 (fun r σ' hq => ?_)
      rw [hq.1, hq.2, if_neg (by decide), if_neg (by decide)]
      refine v_if_eq (pc := 39) (tgt := 44) C d_Model_look_39 (by decide) (fun h39 => ?_) (fun h39 => ?_)
      · exact absurd h39 (by decide)
      · refine v_iconst (pc := 42) (v := 0) C d_Model_look_42 (by decide) ?_
        exact v_ireturn (pc := 43) C hr (Or.inl ⟨fun q => absurd (h27.symm.trans q.2) (by decide), rfl, rfl⟩) d_Model_look_43
set_option maxRecDepth 100000 in
set_option maxHeartbeats 4000000 in
theorem m_note (l : Launch) {D : va_G} {ad : Nat → Nat → Nat} {cA : Nat → ClassId} (hJ : ty_J cnM ad) (σ : ty_St) (n : Nat) (hn : n < 2 ^ 31) (hc : σ 20 0 4 = nI n) (x : Int32) : ty_M l y_Model_note (Cond.code y_Model_note b_Model_note 2 (some .int) :: ty_w) (rmL 1) cnM D ad cA [.inr (20, 0), .inl x] σ (fun r σ' => (¬ kIn x 0 (gLeast (σ 20 0 4) 12 - 1) = 1 ∧ r = some (.inl 0) ∧ σ' = gE σ 1) ∨ (kIn x 0 (gLeast (σ 20 0 4) 12 - 1) = 1 ∧ r = some (.inl (σ 47 0 (nn x))) ∧ σ' = ty_up σ 20 0 0 0)) := by
  refine ty_M.of rfl hJ layM (ty_oks.cons (show (0 : Nat) < cnM 20 by decide) (ty_oks.cons trivial ty_oks.nil)) (Nat.le_of_ble_eq_true rfl) ?_
  intro p e s m args below meth c C hr hnm
  have hc0 : (ty_up σ 20 0 0 0) 20 0 4 = σ 20 0 4 := up_sj (by decide)
  refine v_aload_n (pc := 0) C d_Model_note_0 rfl rfl ?_
  refine v_iconst (pc := 1) (v := 0) C d_Model_note_1 (by decide) ?_
  refine pf_Model_99 (pc := 2) C d_Model_note_2 ?_
  refine v_aload_n (pc := 5) C d_Model_note_5 rfl rfl ?_
  refine v_iload_n (pc := 6) C d_Model_note_6 rfl rfl ?_
  refine v_iconst (pc := 7) (v := 0) C d_Model_note_7 (by decide) ?_
  refine v_aload_n (pc := 8) C d_Model_note_8 rfl rfl ?_
  refine gf_Model_150 (pc := 9) C d_Model_note_9 ?_
  refine v_bipush (pc := 12) (v := 12) C d_Model_note_12 (by decide) ?_
  refine cl_Model_134 (pc := 14) C (m_least l hJ _ _ _) ⟨rfl, rfl, by decide, by decide⟩ rfl rfl (Nat.le_of_ble_eq_true rfl) d_Model_note_14 (fun r σ' hq => ?_)
  rw [hq.1, hq.2, hc0]
  refine v_iconst (pc := 17) (v := 1) C d_Model_note_17 (by decide) ?_
  refine v_isub (pc := 18) C d_Model_note_18 ?_
  refine cl_Model_102 (pc := 19) C (m_in l hJ _ _ _ _) ⟨rfl, rfl, by decide, by decide⟩ rfl rfl (Nat.le_of_ble_eq_true rfl) d_Model_note_19 (fun r σ' hq => ?_)
  rw [hq.1, hq.2]
  refine v_if_ne (pc := 22) (tgt := 29) C d_Model_note_22 (by decide) (fun h22 => ?_) (fun h22 => ?_)
  · refine v_iconst (pc := 29) (v := 0) C d_Model_note_29 (by decide) ?_
    refine v_iconst (pc := 30) (v := 1) C d_Model_note_30 (by decide) ?_
    refine cl_Model_110 (pc := 31) C (m_fails l hJ (ty_up σ 20 0 0 0) up_ss _ _ (by decide)) ⟨rfl, rfl, by decide, by decide⟩ rfl rfl (Nat.le_of_ble_eq_true rfl) d_Model_note_31 (fun r σ' hq => ?_)
    rw [hq.1, hq.2, if_pos rfl, if_pos rfl]
    refine v_if_eq (pc := 34) (tgt := 41) C d_Model_note_34 (by decide) (fun h34 => ?_) (fun h34 => ?_)
    · have h22' := h22
      rw [hc, show (12 : Int32) = nI 12 from rfl, gLeast_nI hn (by decide)] at h22'
      obtain ⟨j, hj, hxj⟩ := kIn_vpm (by split <;> omega) h22'
      have hj2 : j < 12 := by split at hj <;> omega
      have hjn : nn x = j := by rw [hxj]; exact nI_clamp (by omega)
      refine v_aload_n (pc := 41) C d_Model_note_41 rfl rfl ?_
      refine gf_Model_93 (pc := 42) C d_Model_note_42 ?_
      refine v_iload_n (pc := 45) C d_Model_note_45 rfl rfl ?_
      refine v_ialoadK (pc := 46) C rfl rfl (hxj) (by omega) (by decide) d_Model_note_46 ?_
      exact v_ireturn (pc := 47) C hr (Or.inr ⟨kIn_n1 h22, by rw [hjn]; rfl, rfl⟩) d_Model_note_47
    · exact absurd rfl h34
  · refine v_iconst (pc := 25) (v := 1) C d_Model_note_25 (by decide) ?_
    refine v_goto (pc := 26) (tgt := 30) C d_Model_note_26 (by decide) ?_
    refine v_iconst (pc := 30) (v := 1) C d_Model_note_30 (by decide) ?_
    refine cl_Model_110 (pc := 31) C (m_fails l hJ (ty_up σ 20 0 0 0) up_ss _ _ (by decide)) ⟨rfl, rfl, by decide, by decide⟩ rfl rfl (Nat.le_of_ble_eq_true rfl) d_Model_note_31 (fun r σ' hq => ?_)
    rw [hq.1, hq.2, if_neg (by decide), if_neg (by decide)]
    refine v_if_eq (pc := 34) (tgt := 41) C d_Model_note_34 (by decide) (fun h34 => ?_) (fun h34 => ?_)
    · exact absurd h34 (by decide)
    · refine v_iconst (pc := 37) (v := 0) C d_Model_note_37 (by decide) ?_
      refine v_goto (pc := 38) (tgt := 47) C d_Model_note_38 (by decide) ?_
      exact v_ireturn (pc := 47) C hr (Or.inl ⟨fun q => absurd (h22.symm.trans q) (by decide), rfl, rfl⟩) d_Model_note_47
set_option maxRecDepth 100000 in
set_option maxHeartbeats 4000000 in
theorem m_warning (l : Launch) {D : va_G} {ad : Nat → Nat → Nat} {cA : Nat → ClassId} (hJ : ty_J cnM ad) (σ : ty_St) (n : Nat) (hn : n < 2 ^ 31) (hc : σ 20 0 5 = nI n) (x : Int32) : ty_M l y_Model_warning (Cond.code y_Model_warning b_Model_warning 2 (some .int) :: ty_w) (rmL 1) cnM D ad cA [.inr (20, 0), .inl x] σ (fun r σ' => (¬ kIn x 0 (gLeast (σ 20 0 5) 8 - 1) = 1 ∧ r = some (.inl 0) ∧ σ' = gE σ 1) ∨ (kIn x 0 (gLeast (σ 20 0 5) 8 - 1) = 1 ∧ r = some (.inl (σ 48 0 (nn x))) ∧ σ' = ty_up σ 20 0 0 0)) := by
  refine ty_M.of rfl hJ layM (ty_oks.cons (show (0 : Nat) < cnM 20 by decide) (ty_oks.cons trivial ty_oks.nil)) (Nat.le_of_ble_eq_true rfl) ?_
  intro p e s m args below meth c C hr hnm
  have hc0 : (ty_up σ 20 0 0 0) 20 0 5 = σ 20 0 5 := up_sj (by decide)
  refine v_aload_n (pc := 0) C d_Model_warning_0 rfl rfl ?_
  refine v_iconst (pc := 1) (v := 0) C d_Model_warning_1 (by decide) ?_
  refine pf_Model_99 (pc := 2) C d_Model_warning_2 ?_
  refine v_aload_n (pc := 5) C d_Model_warning_5 rfl rfl ?_
  refine v_iload_n (pc := 6) C d_Model_warning_6 rfl rfl ?_
  refine v_iconst (pc := 7) (v := 0) C d_Model_warning_7 (by decide) ?_
  refine v_aload_n (pc := 8) C d_Model_warning_8 rfl rfl ?_
  refine gf_Model_120 (pc := 9) C d_Model_warning_9 ?_
  refine v_bipush (pc := 12) (v := 8) C d_Model_warning_12 (by decide) ?_
  refine cl_Model_134 (pc := 14) C (m_least l hJ _ _ _) ⟨rfl, rfl, by decide, by decide⟩ rfl rfl (Nat.le_of_ble_eq_true rfl) d_Model_warning_14 (fun r σ' hq => ?_)
  rw [hq.1, hq.2, hc0]
  refine v_iconst (pc := 17) (v := 1) C d_Model_warning_17 (by decide) ?_
  refine v_isub (pc := 18) C d_Model_warning_18 ?_
  refine cl_Model_102 (pc := 19) C (m_in l hJ _ _ _ _) ⟨rfl, rfl, by decide, by decide⟩ rfl rfl (Nat.le_of_ble_eq_true rfl) d_Model_warning_19 (fun r σ' hq => ?_)
  rw [hq.1, hq.2]
  refine v_if_ne (pc := 22) (tgt := 29) C d_Model_warning_22 (by decide) (fun h22 => ?_) (fun h22 => ?_)
  · refine v_iconst (pc := 29) (v := 0) C d_Model_warning_29 (by decide) ?_
    refine v_iconst (pc := 30) (v := 1) C d_Model_warning_30 (by decide) ?_
    refine cl_Model_110 (pc := 31) C (m_fails l hJ (ty_up σ 20 0 0 0) up_ss _ _ (by decide)) ⟨rfl, rfl, by decide, by decide⟩ rfl rfl (Nat.le_of_ble_eq_true rfl) d_Model_warning_31 (fun r σ' hq => ?_)
    rw [hq.1, hq.2, if_pos rfl, if_pos rfl]
    refine v_if_eq (pc := 34) (tgt := 41) C d_Model_warning_34 (by decide) (fun h34 => ?_) (fun h34 => ?_)
    · have h22' := h22
      rw [hc, show (8 : Int32) = nI 8 from rfl, gLeast_nI hn (by decide)] at h22'
      obtain ⟨j, hj, hxj⟩ := kIn_vpm (by split <;> omega) h22'
      have hj2 : j < 8 := by split at hj <;> omega
      have hjn : nn x = j := by rw [hxj]; exact nI_clamp (by omega)
      refine v_aload_n (pc := 41) C d_Model_warning_41 rfl rfl ?_
      refine gf_Model_96 (pc := 42) C d_Model_warning_42 ?_
      refine v_iload_n (pc := 45) C d_Model_warning_45 rfl rfl ?_
      refine v_ialoadK (pc := 46) C rfl rfl (hxj) (by omega) (by decide) d_Model_warning_46 ?_
      exact v_ireturn (pc := 47) C hr (Or.inr ⟨kIn_n1 h22, by rw [hjn]; rfl, rfl⟩) d_Model_warning_47
    · exact absurd rfl h34
  · refine v_iconst (pc := 25) (v := 1) C d_Model_warning_25 (by decide) ?_
    refine v_goto (pc := 26) (tgt := 30) C d_Model_warning_26 (by decide) ?_
    refine v_iconst (pc := 30) (v := 1) C d_Model_warning_30 (by decide) ?_
    refine cl_Model_110 (pc := 31) C (m_fails l hJ (ty_up σ 20 0 0 0) up_ss _ _ (by decide)) ⟨rfl, rfl, by decide, by decide⟩ rfl rfl (Nat.le_of_ble_eq_true rfl) d_Model_warning_31 (fun r σ' hq => ?_)
    rw [hq.1, hq.2, if_neg (by decide), if_neg (by decide)]
    refine v_if_eq (pc := 34) (tgt := 41) C d_Model_warning_34 (by decide) (fun h34 => ?_) (fun h34 => ?_)
    · exact absurd h34 (by decide)
    · refine v_iconst (pc := 37) (v := 0) C d_Model_warning_37 (by decide) ?_
      refine v_goto (pc := 38) (tgt := 47) C d_Model_warning_38 (by decide) ?_
      exact v_ireturn (pc := 47) C hr (Or.inl ⟨fun q => absurd (h22.symm.trans q) (by decide), rfl, rfl⟩) d_Model_warning_47
set_option maxRecDepth 100000 in
set_option maxHeartbeats 4000000 in
theorem m_count (l : Launch) {D : va_G} {ad : Nat → Nat → Nat} {cA : Nat → ClassId} (hJ : ty_J cnM ad) (σ : ty_St) (what : Int32) : ty_M l y_Model_count (Cond.code y_Model_count b_Model_count 2 (some .int) :: ty_w) (rmL 1) cnM D ad cA [.inr (20, 0), .inl what] σ (fun r σ' => (¬ kIn what 0 6 = 1 ∧ r = some (.inl 0) ∧ σ' = gE σ 1) ∨ (kIn what 0 6 = 1 ∧ r = some (.inl (gCountV σ what)) ∧ σ' = ty_up σ 20 0 0 0)) := by
  refine ty_M.of rfl hJ layM (ty_oks.cons (show (0 : Nat) < cnM 20 by decide) (ty_oks.cons trivial ty_oks.nil)) (Nat.le_of_ble_eq_true rfl) ?_
  intro p e s m args below meth c C hr hnm
  have rest : kIn what 0 6 = 1 → ty_V cnM p l e (rmL 1) s m args below meth c D ad cA (ty_Gd cnM ad s) 2 (MQ below (ty_Q cnM D ad cA (fun r σ' => (¬ kIn what 0 6 = 1 ∧ r = some (.inl 0) ∧ σ' = gE σ 1) ∨ (kIn what 0 6 = 1 ∧ r = some (.inl (gCountV σ what)) ∧ σ' = ty_up σ 20 0 0 0)) (ty_A cnM ad)) args s 0 0 (ty_A cnM ad)) (ty_up σ 20 0 0 0) [some (.inr (20, 0)), some (.inl what)] 31 [.inl what] := by
    intro gb
    by_cases e0 : what = 0
    · subst e0
      refine v_tabIn (pc := 31) (off := 37) (tgt := 68) C d_Model_count_31 (by decide) (by decide) (by decide) (by decide) ?_
      refine v_aload_n (pc := 68) C d_Model_count_68 rfl rfl ?_
      refine gf_Model_114 (pc := 69) C d_Model_count_69 ?_
      exact v_ireturn (pc := 72) C hr (Or.inr ⟨gb, by unfold gCountV; simp; exact up_sj (by decide), rfl⟩) d_Model_count_72
    by_cases e1 : what = 1
    · subst e1
      refine v_tabIn (pc := 31) (off := 42) (tgt := 73) C d_Model_count_31 (by decide) (by decide) (by decide) (by decide) ?_
      refine v_aload_n (pc := 73) C d_Model_count_73 rfl rfl ?_
      refine gf_Model_150 (pc := 74) C d_Model_count_74 ?_
      exact v_ireturn (pc := 77) C hr (Or.inr ⟨gb, by unfold gCountV; simp; exact up_sj (by decide), rfl⟩) d_Model_count_77
    by_cases e2 : what = 2
    · subst e2
      refine v_tabIn (pc := 31) (off := 47) (tgt := 78) C d_Model_count_31 (by decide) (by decide) (by decide) (by decide) ?_
      refine v_aload_n (pc := 78) C d_Model_count_78 rfl rfl ?_
      refine gf_Model_120 (pc := 79) C d_Model_count_79 ?_
      exact v_ireturn (pc := 82) C hr (Or.inr ⟨gb, by unfold gCountV; simp; exact up_sj (by decide), rfl⟩) d_Model_count_82
    by_cases e3 : what = 3
    · subst e3
      refine v_tabIn (pc := 31) (off := 52) (tgt := 83) C d_Model_count_31 (by decide) (by decide) (by decide) (by decide) ?_
      refine v_aload_n (pc := 83) C d_Model_count_83 rfl rfl ?_
      refine gf_Model_176 (pc := 84) C d_Model_count_84 ?_
      exact v_ireturn (pc := 87) C hr (Or.inr ⟨gb, by unfold gCountV; simp; exact up_sj (by decide), rfl⟩) d_Model_count_87
    by_cases e4 : what = 4
    · subst e4
      refine v_tabIn (pc := 31) (off := 57) (tgt := 88) C d_Model_count_31 (by decide) (by decide) (by decide) (by decide) ?_
      refine v_aload_n (pc := 88) C d_Model_count_88 rfl rfl ?_
      refine gf_Model_131 (pc := 89) C d_Model_count_89 ?_
      exact v_ireturn (pc := 92) C hr (Or.inr ⟨gb, by unfold gCountV; simp; exact up_sj (by decide), rfl⟩) d_Model_count_92
    by_cases e5 : what = 5
    · subst e5
      refine v_tabIn (pc := 31) (off := 62) (tgt := 93) C d_Model_count_31 (by decide) (by decide) (by decide) (by decide) ?_
      refine v_aload_n (pc := 93) C d_Model_count_93 rfl rfl ?_
      refine gf_Model_173 (pc := 94) C d_Model_count_94 ?_
      exact v_ireturn (pc := 97) C hr (Or.inr ⟨gb, by unfold gCountV; simp; exact up_sj (by decide), rfl⟩) d_Model_count_97
    have dflt : ty_V cnM p l e (rmL 1) s m args below meth c D ad cA (ty_Gd cnM ad s) 2 (MQ below (ty_Q cnM D ad cA (fun r σ' => (¬ kIn what 0 6 = 1 ∧ r = some (.inl 0) ∧ σ' = gE σ 1) ∨ (kIn what 0 6 = 1 ∧ r = some (.inl (gCountV σ what)) ∧ σ' = ty_up σ 20 0 0 0)) (ty_A cnM ad)) args s 0 0 (ty_A cnM ad)) (ty_up σ 20 0 0 0) [some (.inr (20, 0)), some (.inl what)] 98 [] := by
      refine v_aload_n (pc := 98) C d_Model_count_98 rfl rfl ?_
      refine gf_Model_196 (pc := 99) C d_Model_count_99 ?_
      exact v_ireturn (pc := 102) C hr (Or.inr ⟨gb, by unfold gCountV; simp [e0, e1, e2, e3, e4, e5]; exact up_sj (by decide), rfl⟩) d_Model_count_102
    have f0 : ¬ what.toInt = 0 := lv_neT e0 (by decide)
    have f1 : ¬ what.toInt = 1 := lv_neT e1 (by decide)
    have f2 : ¬ what.toInt = 2 := lv_neT e2 (by decide)
    have f3 : ¬ what.toInt = 3 := lv_neT e3 (by decide)
    have f4 : ¬ what.toInt = 4 := lv_neT e4 (by decide)
    have f5 : ¬ what.toInt = 5 := lv_neT e5 (by decide)
    rcases (show what.toInt < 0 ∨ 5 < what.toInt by omega) with h | h
    · exact v_tabOut (pc := 31) (tgt := 98) C d_Model_count_31 (Or.inl h) (by decide) dflt
    · exact v_tabOut (pc := 31) (tgt := 98) C d_Model_count_31 (Or.inr h) (by decide) dflt
  refine v_aload_n (pc := 0) C d_Model_count_0 rfl rfl ?_
  refine v_iconst (pc := 1) (v := 0) C d_Model_count_1 (by decide) ?_
  refine pf_Model_99 (pc := 2) C d_Model_count_2 ?_
  refine v_aload_n (pc := 5) C d_Model_count_5 rfl rfl ?_
  refine v_iload_n (pc := 6) C d_Model_count_6 rfl rfl ?_
  refine v_iconst (pc := 7) (v := 0) C d_Model_count_7 (by decide) ?_
  refine v_bipush (pc := 8) (v := 6) C d_Model_count_8 (by decide) ?_
  refine cl_Model_102 (pc := 10) C (m_in l hJ _ _ _ _) ⟨rfl, rfl, by decide, by decide⟩ rfl rfl (Nat.le_of_ble_eq_true rfl) d_Model_count_10 (fun r σ' hq => ?_)
  rw [hq.1, hq.2]
  refine v_if_ne (pc := 13) (tgt := 20) C d_Model_count_13 (by decide) (fun h13 => ?_) (fun h13 => ?_)
  · refine v_iconst (pc := 20) (v := 0) C d_Model_count_20 (by decide) ?_
    refine v_iconst (pc := 21) (v := 1) C d_Model_count_21 (by decide) ?_
    refine cl_Model_110 (pc := 22) C (m_fails l hJ (ty_up σ 20 0 0 0) up_ss _ _ (by decide)) ⟨rfl, rfl, by decide, by decide⟩ rfl rfl (Nat.le_of_ble_eq_true rfl) d_Model_count_22 (fun r σ' hq => ?_)
    rw [hq.1, hq.2, if_pos rfl, if_pos rfl]
    refine v_if_eq (pc := 25) (tgt := 30) C d_Model_count_25 (by decide) (fun h25 => ?_) (fun h25 => ?_)
    · refine v_iload_n (pc := 30) C d_Model_count_30 rfl rfl ?_
      exact rest (kIn_n1 h13)
    · exact absurd rfl h25
  · refine v_iconst (pc := 16) (v := 1) C d_Model_count_16 (by decide) ?_
    refine v_goto (pc := 17) (tgt := 21) C d_Model_count_17 (by decide) ?_
    refine v_iconst (pc := 21) (v := 1) C d_Model_count_21 (by decide) ?_
    refine cl_Model_110 (pc := 22) C (m_fails l hJ (ty_up σ 20 0 0 0) up_ss _ _ (by decide)) ⟨rfl, rfl, by decide, by decide⟩ rfl rfl (Nat.le_of_ble_eq_true rfl) d_Model_count_22 (fun r σ' hq => ?_)
    rw [hq.1, hq.2, if_neg (by decide), if_neg (by decide)]
    refine v_if_eq (pc := 25) (tgt := 30) C d_Model_count_25 (by decide) (fun h25 => ?_) (fun h25 => ?_)
    · exact absurd h25 (by decide)
    · refine v_iconst (pc := 28) (v := 0) C d_Model_count_28 (by decide) ?_
      exact v_ireturn (pc := 29) C hr (Or.inl ⟨fun q => absurd (h13.symm.trans q) (by decide), rfl, rfl⟩) d_Model_count_29
