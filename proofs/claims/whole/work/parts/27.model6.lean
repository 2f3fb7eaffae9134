def gMost (τ : ty_St) (tc : Nat) : ty_St := ty_up τ 20 0 7 (if τ 20 0 7 < gNow τ tc then gNow τ tc else τ 20 0 7)
def gOKB (tc wc : Nat) (τ : ty_St) : Prop := τ 20 0 1 = nI tc ∧ τ 20 0 2 = nI wc ∧ (∀ w, w < 4 → 0 ≤ τ 38 0 w → vp_in (τ 38 0 w) 12 ∧ vp_in (τ 34 0 (nn (τ 38 0 w))) 64) ∧ vp_in (τ 20 0 8) 64
def gGoodB (tc wc : Nat) : Nat → ty_St → Prop
  | 0, τ => gOKB tc wc τ ∧ ¬ (gWorker τ wc 0 < wc ∧ 0 ≤ gNext τ tc tc 0)
  | k + 1, τ => gOKB tc wc τ ∧ ((gWorker τ wc 0 < wc ∧ 0 ≤ gNext τ tc tc 0) → gGoodB tc wc k (gBegin τ (gWorker τ wc 0) (nn (gNext τ tc tc 0))))
theorem gGoodB.ok {tc wc : Nat} : ∀ {k : Nat} {τ : ty_St}, gGoodB tc wc k τ → gOKB tc wc τ
  | 0, _, h => h.1
  | _ + 1, _, h => h.1
theorem gAband1_a {σ : ty_St} {w a : Nat} (h : ¬ a = 37) : (gAband1 σ w) a = σ a := by
  unfold gAband1
  split
  · rw [up_a h]
  · rfl
theorem gAband_a {σ : ty_St} {a : Nat} (h : ¬ a = 37) : ∀ n, (gAband σ n) a = σ a
  | 0 => rfl
  | n + 1 => (gAband1_a h).trans (gAband_a h n)
theorem gWorker_ge {τ : ty_St} : ∀ k i, i ≤ gWorker τ k i ∧ gWorker τ k i ≤ i + k
  | 0, i => ⟨Nat.le_refl _, Nat.le_refl _⟩
  | k + 1, i => by
    unfold gWorker
    split
    · omega
    · have := gWorker_ge (τ := τ) k (i + 1)
      omega
theorem gNext_in {τ : ty_St} {n : Nat} : ∀ k i, gNext τ n k i = -1 ∨ ∃ t, i ≤ t ∧ t < i + k ∧ gNext τ n k i = nI t
  | 0, i => Or.inl rfl
  | k + 1, i => by
    unfold gNext
    split
    · exact Or.inr ⟨i, by omega, by omega, rfl⟩
    · rcases gNext_in (τ := τ) (n := n) k (i + 1) with e | ⟨t, h1, h2, e⟩
      · exact Or.inl e
      · exact Or.inr ⟨t, by omega, by omega, e⟩
set_option maxRecDepth 100000 in
set_option maxHeartbeats 4000000 in
theorem m_begins (l : Launch) {D : va_G} {ad : Nat → Nat → Nat} {cA : Nat → ClassId} (hJ : ty_J cnM ad) (σ : ty_St) (tc : Nat) (htc : tc ≤ 12) (wc : Nat) (hwc : wc ≤ 4) (hw : σ 20 0 2 = nI wc) (hto : ∀ w, w < 4 → 0 ≤ σ 38 0 w → vp_in (σ 38 0 w) 12 ∧ vp_in (σ 34 0 (nn (σ 38 0 w))) 64) (hg : gGoodB tc wc 13 (gAband σ wc)) : ty_M l y_Model_begins (Cond.code y_Model_begins b_Model_begins 4 none :: ty_w) (rmL 2) cnM D ad cA [.inr (20, 0)] σ (fun r σ' => r = none ∧ σ' = gMost (gBegins 13 (gAband σ wc)) tc) := by
  refine ty_M.of rfl hJ layM (ty_oks.cons (show (0 : Nat) < cnM 20 by decide) ty_oks.nil) (Nat.le_of_ble_eq_true rfl) ?_
  intro p e s m args below meth c C hr hnm
  have cnt : ∀ (τ : ty_St) (g : Option ty_SV), τ 20 0 1 = nI tc → gBegins 13 (gAband σ wc) = τ → ∀ k i, i + k = tc → ∀ x : Int32, x = gNow τ i → ty_V cnM p l e (rmL 2) s m args below meth c D ad cA (ty_Gd cnM ad s) 4 (MQ below (ty_Q cnM D ad cA (fun r σ' => r = none ∧ σ' = gMost (gBegins 13 (gAband σ wc)) tc) (ty_A cnM ad)) args s 0 0 (ty_A cnM ad)) τ [some (.inr (20, 0)), g, some (.inl x), some (.inl (nI i))] 177 [] := by
    intro τ g h1 hT k
    induction k with
    | zero =>
      intro i hi x hx
      have hb := h1
      refine v_iload_n (pc := 177) C d_Model_begins_177 rfl rfl ?_
      refine v_aload_n (pc := 178) C d_Model_begins_178 rfl rfl ?_
      refine gf_Model_114 (pc := 179) C d_Model_begins_179 ?_
      refine v_icmp_ge (pc := 182) (tgt := 212) C d_Model_begins_182 (by decide) (fun h182 => ?_) (fun h182 => ?_)
      · refine v_aload_n (pc := 212) C d_Model_begins_212 rfl rfl ?_
        refine v_iload_n (pc := 213) C d_Model_begins_213 rfl rfl ?_
        refine v_aload_n (pc := 214) C d_Model_begins_214 rfl rfl ?_
        refine gf_Model_173 (pc := 215) C d_Model_begins_215 ?_
        refine v_icmp_le (pc := 218) (tgt := 225) C d_Model_begins_218 (by decide) (fun h218 => ?_) (fun h218 => ?_)
        · refine v_aload_n (pc := 225) C d_Model_begins_225 rfl rfl ?_
          refine gf_Model_173 (pc := 226) C d_Model_begins_226 ?_
          refine pf_Model_173 (pc := 229) C d_Model_begins_229 ?_
          exact v_return (pc := 232) C hr ⟨rfl, by unfold gMost; rw [hT, ← show x = gNow τ tc by rw [hx, show i = tc by omega]]; rw [if_neg (Int32.not_lt.mpr h218)]⟩ d_Model_begins_232
        · refine v_iload_n (pc := 221) C d_Model_begins_221 rfl rfl ?_
          refine v_goto (pc := 222) (tgt := 229) C d_Model_begins_222 (by decide) ?_
          refine pf_Model_173 (pc := 229) C d_Model_begins_229 ?_
          exact v_return (pc := 232) C hr ⟨rfl, by unfold gMost; rw [hT, ← show x = gNow τ tc by rw [hx, show i = tc by omega]]; rw [if_pos (Int32.not_le.mp h218)]⟩ d_Model_begins_232
      · exact absurd (by rw [hb]; exact nI_le (by omega) (by omega)) h182
    | succ k ih =>
      intro i hi x hx
      have hb := h1
      refine v_iload_n (pc := 177) C d_Model_begins_177 rfl rfl ?_
      refine v_aload_n (pc := 178) C d_Model_begins_178 rfl rfl ?_
      refine gf_Model_114 (pc := 179) C d_Model_begins_179 ?_
      refine v_icmp_ge (pc := 182) (tgt := 212) C d_Model_begins_182 (by decide) (fun h182 => ?_) (fun h182 => ?_)
      · exact absurd h182 (by rw [hb]; exact nI_ge (by omega) (by omega))
      · refine v_aload_n (pc := 185) C d_Model_begins_185 rfl rfl ?_
        refine gf_Model_44 (pc := 186) C d_Model_begins_186 ?_
        refine v_iload_n (pc := 189) C d_Model_begins_189 rfl rfl ?_
        refine v_ialoadK (pc := 190) C rfl rfl (rfl) (by omega) (by decide) d_Model_begins_190 ?_
        refine v_if_lt (pc := 191) (tgt := 206) C d_Model_begins_191 (by decide) (fun h191 => ?_) (fun h191 => ?_)
        · refine v_iinc (pc := 206) C d_Model_begins_206 rfl (show _ + Int32.ofInt 1 = _ + 1 from rfl) (by decide) ?_
          refine v_goto (pc := 209) (tgt := 177) C d_Model_begins_209 (by decide) ?_
          rw [nI_1 i]
          refine ih (i + 1) (by omega) _ ?_
          unfold gNow
          rw [if_neg (fun q => absurd q.1 (Int32.not_le.mpr h191))]; exact hx
        · refine v_aload_n (pc := 194) C d_Model_begins_194 rfl rfl ?_
          refine gf_Model_38 (pc := 195) C d_Model_begins_195 ?_
          refine v_iload_n (pc := 198) C d_Model_begins_198 rfl rfl ?_
          refine v_ialoadK (pc := 199) C rfl rfl (rfl) (by omega) (by decide) d_Model_begins_199 ?_
          refine v_if_ne (pc := 200) (tgt := 206) C d_Model_begins_200 (by decide) (fun h200 => ?_) (fun h200 => ?_)
          · refine v_iinc (pc := 206) C d_Model_begins_206 rfl (show _ + Int32.ofInt 1 = _ + 1 from rfl) (by decide) ?_
            refine v_goto (pc := 209) (tgt := 177) C d_Model_begins_209 (by decide) ?_
            rw [nI_1 i]
            refine ih (i + 1) (by omega) _ ?_
            unfold gNow
            rw [if_neg (fun q => h200 q.2)]; exact hx
          · refine v_iinc (pc := 203) C d_Model_begins_203 rfl (show _ + Int32.ofInt 1 = _ + 1 from rfl) (by decide) ?_
            refine v_iinc (pc := 206) C d_Model_begins_206 rfl (show _ + Int32.ofInt 1 = _ + 1 from rfl) (by decide) ?_
            refine v_goto (pc := 209) (tgt := 177) C d_Model_begins_209 (by decide) ?_
            rw [nI_1 i]
            refine ih (i + 1) (by omega) _ ?_
            unfold gNow
            rw [if_pos ⟨Int32.not_lt.mp h191, h200⟩, hx]
  have c173 : ∀ (τ : ty_St) (a b d : Option ty_SV), τ 20 0 1 = nI tc → gBegins 13 (gAband σ wc) = τ → ty_V cnM p l e (rmL 2) s m args below meth c D ad cA (ty_Gd cnM ad s) 4 (MQ below (ty_Q cnM D ad cA (fun r σ' => r = none ∧ σ' = gMost (gBegins 13 (gAband σ wc)) tc) (ty_A cnM ad)) args s 0 0 (ty_A cnM ad)) τ [some (.inr (20, 0)), a, b, d] 173 [] := by
    intro τ a b d h1 hT
    refine v_iconst (pc := 173) (v := 0) C d_Model_begins_173 (by decide) ?_
    refine v_istore_n (pc := 174) C d_Model_begins_174 rfl (by decide) ?_
    refine v_iconst (pc := 175) (v := 0) C d_Model_begins_175 (by decide) ?_
    refine v_istore_n (pc := 176) C d_Model_begins_176 rfl (by decide) ?_
    exact cnt τ a h1 hT tc 0 (by omega) _ rfl
  have wl : ∀ (k : Nat) (τ : ty_St), gGoodB tc wc k τ → gBegins 13 (gAband σ wc) = gBegins k τ → ty_V cnM p l e (rmL 2) s m args below meth c D ad cA (ty_Gd cnM ad s) 4 (MQ below (ty_Q cnM D ad cA (fun r σ' => r = none ∧ σ' = gMost (gBegins 13 (gAband σ wc)) tc) (ty_A cnM ad)) args s 0 0 (ty_A cnM ad)) τ [some (.inr (20, 0)), some (.inl 1), none, none] 59 [] := by
    intro k
    induction k with
    | zero =>
      intro τ hg hk
      have ok := hg.ok
      have n1 : nn (τ 20 0 1) = tc := by rw [ok.1]; exact nI_clamp (by omega)
      have n2 : nn (τ 20 0 2) = wc := by rw [ok.2.1]; exact nI_clamp (by omega)
      have endE : ¬ (gWorker τ wc 0 < wc ∧ 0 ≤ gNext τ tc tc 0) → gBegins 0 τ = τ := fun _ => rfl
      have at87 : ty_V cnM p l e (rmL 2) s m args below meth c D ad cA (ty_Gd cnM ad s) 4 (MQ below (ty_Q cnM D ad cA (fun r σ' => r = none ∧ σ' = gMost (gBegins 13 (gAband σ wc)) tc) (ty_A cnM ad)) args s 0 0 (ty_A cnM ad)) τ [some (.inr (20, 0)), some (.inl 1), some (.inl (nI (gWorker τ wc 0))), none] 87 [] := by
        refine v_iload_n (pc := 87) C d_Model_begins_87 rfl rfl ?_
        refine v_aload_n (pc := 88) C d_Model_begins_88 rfl rfl ?_
        refine gf_Model_7 (pc := 89) C d_Model_begins_89 ?_
        refine v_icmp_ge (pc := 92) (tgt := 102) C d_Model_begins_92 (by decide) (fun h92 => ?_) (fun h92 => ?_)
        · refine v_iconst (pc := 102) (v := (-1)) C d_Model_begins_102 (by decide) ?_
          refine v_istore_n (pc := 103) C d_Model_begins_103 rfl (by decide) ?_
          refine v_iload_n (pc := 104) C d_Model_begins_104 rfl rfl ?_
          refine v_if_lt (pc := 105) (tgt := 112) C d_Model_begins_105 (by decide) (fun h105 => ?_) (fun h105 => ?_)
          · refine v_iconst (pc := 112) (v := 0) C d_Model_begins_112 (by decide) ?_
            refine v_istore_n (pc := 113) C d_Model_begins_113 rfl (by decide) ?_
            refine v_iload_n (pc := 114) C d_Model_begins_114 rfl rfl ?_
            refine v_if_ne (pc := 115) (tgt := 121) C d_Model_begins_115 (by decide) (fun h115 => ?_) (fun h115 => ?_)
            · exact absurd rfl h115
            · refine v_goto (pc := 118) (tgt := 173) C d_Model_begins_118 (by decide) ?_
              exact c173 τ _ _ _ ok.1 (by rw [hk]; exact endE (fun q => absurd q.1 (by rw [ok.2.1] at h92; have := (gWorker_ge (τ := τ) wc 0).2; exact fun z => absurd h92 (nI_ge z (by omega)))))
          · exact absurd (show (-1 : Int32) < 0 by decide) h105
        · refine v_aload_n (pc := 95) C d_Model_begins_95 rfl rfl ?_
          refine cl_Model_169 (pc := 96) C (m_next l hJ τ tc htc ok.1) ⟨rfl, rfl, by decide, by decide⟩ rfl rfl (Nat.le_of_ble_eq_true rfl) d_Model_begins_96 (fun r σ' hq => ?_)
          rw [hq.1, hq.2]
          refine v_goto (pc := 99) (tgt := 103) C d_Model_begins_99 (by decide) ?_
          refine v_istore_n (pc := 103) C d_Model_begins_103 rfl (by decide) ?_
          refine v_iload_n (pc := 104) C d_Model_begins_104 rfl rfl ?_
          refine v_if_lt (pc := 105) (tgt := 112) C d_Model_begins_105 (by decide) (fun h105 => ?_) (fun h105 => ?_)
          · refine v_iconst (pc := 112) (v := 0) C d_Model_begins_112 (by decide) ?_
            refine v_istore_n (pc := 113) C d_Model_begins_113 rfl (by decide) ?_
            refine v_iload_n (pc := 114) C d_Model_begins_114 rfl rfl ?_
            refine v_if_ne (pc := 115) (tgt := 121) C d_Model_begins_115 (by decide) (fun h115 => ?_) (fun h115 => ?_)
            · exact absurd rfl h115
            · refine v_goto (pc := 118) (tgt := 173) C d_Model_begins_118 (by decide) ?_
              exact c173 τ _ _ _ ok.1 (by rw [hk]; exact endE (fun q => absurd q.2 (Int32.not_le.mpr h105)))
          · refine v_iconst (pc := 108) (v := 1) C d_Model_begins_108 (by decide) ?_
            refine v_goto (pc := 109) (tgt := 113) C d_Model_begins_109 (by decide) ?_
            refine v_istore_n (pc := 113) C d_Model_begins_113 rfl (by decide) ?_
            refine v_iload_n (pc := 114) C d_Model_begins_114 rfl rfl ?_
            refine v_if_ne (pc := 115) (tgt := 121) C d_Model_begins_115 (by decide) (fun h115 => ?_) (fun h115 => ?_)
            · have hWc : gWorker τ wc 0 < wc := by rw [ok.2.1] at h92; exact Nat.not_le.mp (fun z => h92 (nI_le z (by have := (gWorker_ge (τ := τ) wc 0).2; omega)))
              obtain ⟨t, _, ht, et⟩ := (gNext_in (τ := τ) (n := tc) tc 0).resolve_left (fun q => by rw [q] at h105; exact absurd (by decide) h105)
              rw [et]
              refine v_aload_n (pc := 121) C d_Model_begins_121 rfl rfl ?_
              refine gf_Model_66 (pc := 122) C d_Model_begins_122 ?_
              refine v_iload_n (pc := 125) C d_Model_begins_125 rfl rfl ?_
              refine v_iload_n (pc := 126) C d_Model_begins_126 rfl rfl ?_
              refine v_iastoreK (pc := 127) C rfl rfl (rfl) (by omega) (by decide) d_Model_begins_127 ?_
              refine v_aload_n (pc := 128) C d_Model_begins_128 rfl rfl ?_
              refine gf_Model_50 (pc := 129) C d_Model_begins_129 ?_
              refine v_iload_n (pc := 132) C d_Model_begins_132 rfl rfl ?_
              refine v_iload_n (pc := 133) C d_Model_begins_133 rfl rfl ?_
              refine v_iastoreK (pc := 134) C rfl rfl (rfl) (by omega) (by decide) d_Model_begins_134 ?_
              refine v_aload_n (pc := 135) C d_Model_begins_135 rfl rfl ?_
              refine gf_Model_44 (pc := 136) C d_Model_begins_136 ?_
              refine v_iload_n (pc := 139) C d_Model_begins_139 rfl rfl ?_
              refine v_aload_n (pc := 140) C d_Model_begins_140 rfl rfl ?_
              refine gf_Model_117 (pc := 141) C d_Model_begins_141 ?_
              refine v_iastoreK (pc := 144) C rfl rfl (rfl) (by omega) (by decide) d_Model_begins_144 ?_
              refine v_aload_n (pc := 145) C d_Model_begins_145 rfl rfl ?_
              refine gf_Model_56 (pc := 146) C d_Model_begins_146 ?_
              refine v_iload_n (pc := 149) C d_Model_begins_149 rfl rfl ?_
              refine v_iconst (pc := 150) (v := (-1)) C d_Model_begins_150 (by decide) ?_
              refine v_iastoreK (pc := 151) C rfl rfl (rfl) (by omega) (by decide) d_Model_begins_151 ?_
              refine v_aload_n (pc := 152) C d_Model_begins_152 rfl rfl ?_
              refine gf_Model_53 (pc := 153) C d_Model_begins_153 ?_
              refine v_iload_n (pc := 156) C d_Model_begins_156 rfl rfl ?_
              refine v_aload_n (pc := 157) C d_Model_begins_157 rfl rfl ?_
              refine v_iload_n (pc := 158) C d_Model_begins_158 rfl rfl ?_
              refine v_aload_n (pc := 159) C d_Model_begins_159 rfl rfl ?_
              refine gf_Model_26 (pc := 160) C d_Model_begins_160 ?_
              refine v_iload_n (pc := 163) C d_Model_begins_163 rfl rfl ?_
              refine v_ialoadK (pc := 164) C rfl rfl (rfl) (by omega) (by decide) d_Model_begins_164 ?_
              refine v_iconst (pc := 165) (v := (-1)) C d_Model_begins_165 (by decide) ?_
              refine cl_Model_156 (pc := 166) C (m_starts l hJ _ (by exact ok.2.2.2) _ t (by omega) rfl _ _) ⟨rfl, rfl, by decide, by decide⟩ rfl rfl (Nat.le_of_ble_eq_true rfl) d_Model_begins_166 (fun r σ' hq => ?_)
              rw [hq.1, hq.2]
              refine v_iastoreK (pc := 169) C rfl rfl (rfl) (by omega) (by decide) d_Model_begins_169 ?_
              refine v_goto (pc := 170) (tgt := 59) C d_Model_begins_170 (by decide) ?_
              exact absurd ⟨hWc, by rw [et]; exact nI_pos' (by omega)⟩ hg.2
            · exact absurd h115 (by decide)
      have find : ∀ k2 i, i + k2 = wc → gWorker τ k2 i = gWorker τ wc 0 → ty_V cnM p l e (rmL 2) s m args below meth c D ad cA (ty_Gd cnM ad s) 4 (MQ below (ty_Q cnM D ad cA (fun r σ' => r = none ∧ σ' = gMost (gBegins 13 (gAband σ wc)) tc) (ty_A cnM ad)) args s 0 0 (ty_A cnM ad)) τ [some (.inr (20, 0)), some (.inl 1), some (.inl (nI i)), none] 65 [] := by
        intro k2
        induction k2 with
        | zero =>
          intro i hi hL
          have hb := ok.2.1
          refine v_iload_n (pc := 65) C d_Model_begins_65 rfl rfl ?_
          refine v_aload_n (pc := 66) C d_Model_begins_66 rfl rfl ?_
          refine gf_Model_7 (pc := 67) C d_Model_begins_67 ?_
          refine v_icmp_ge (pc := 70) (tgt := 87) C d_Model_begins_70 (by decide) (fun h70 => ?_) (fun h70 => ?_)
          · rw [show i = gWorker τ wc 0 from hL]
            exact at87
          · exact absurd (by rw [hb]; exact nI_le (by omega) (by omega)) h70
        | succ k2 ih2 =>
          intro i hi hL
          have hb := ok.2.1
          refine v_iload_n (pc := 65) C d_Model_begins_65 rfl rfl ?_
          refine v_aload_n (pc := 66) C d_Model_begins_66 rfl rfl ?_
          refine gf_Model_7 (pc := 67) C d_Model_begins_67 ?_
          refine v_icmp_ge (pc := 70) (tgt := 87) C d_Model_begins_70 (by decide) (fun h70 => ?_) (fun h70 => ?_)
          · exact absurd h70 (by rw [hb]; exact nI_ge (by omega) (by omega))
          · refine v_aload_n (pc := 73) C d_Model_begins_73 rfl rfl ?_
            refine v_iload_n (pc := 74) C d_Model_begins_74 rfl rfl ?_
            refine cl_Model_166 (pc := 75) C (m_isFree l hJ τ i (by omega) (ok.2.2.1 i (by omega))) ⟨rfl, rfl, by decide, by decide⟩ rfl rfl (Nat.le_of_ble_eq_true rfl) d_Model_begins_75 (fun r σ' hq => ?_)
            rw [hq.1, hq.2]
            refine v_if_ne (pc := 78) (tgt := 87) C d_Model_begins_78 (by decide) (fun h78 => ?_) (fun h78 => ?_)
            · have hf : gFree τ i = true := by by_cases e : gFree τ i = true; exact e; exact absurd (if_neg e) h78
              have hL2 : (if gFree τ i = true then i else gWorker τ k2 (i + 1)) = gWorker τ wc 0 := hL
              rw [if_pos hf] at hL2
              rw [hL2]
              exact at87
            · refine v_iinc (pc := 81) C d_Model_begins_81 rfl (show _ + Int32.ofInt 1 = _ + 1 from rfl) (by decide) ?_
              refine v_goto (pc := 84) (tgt := 65) C d_Model_begins_84 (by decide) ?_
              rw [nI_1 i]
              refine ih2 (i + 1) (by omega) ?_
              have hf : ¬ gFree τ i = true := fun e => by rw [if_pos e] at h78; exact absurd h78 (by decide)
              have hL2 : (if gFree τ i = true then i else gWorker τ k2 (i + 1)) = gWorker τ wc 0 := hL
              rw [← hL2, if_neg hf]
      refine v_iload_n (pc := 59) C d_Model_begins_59 rfl rfl ?_
      refine v_if_eq (pc := 60) (tgt := 173) C d_Model_begins_60 (by decide) (fun h60 => ?_) (fun h60 => ?_)
      · exact absurd h60 (by decide)
      · refine v_iconst (pc := 63) (v := 0) C d_Model_begins_63 (by decide) ?_
        refine v_istore_n (pc := 64) C d_Model_begins_64 rfl (by decide) ?_
        exact find wc 0 (by omega) rfl
    | succ k ih =>
      intro τ hg hk
      have ok := hg.ok
      have n1 : nn (τ 20 0 1) = tc := by rw [ok.1]; exact nI_clamp (by omega)
      have n2 : nn (τ 20 0 2) = wc := by rw [ok.2.1]; exact nI_clamp (by omega)
      have hk1 : gBegins (k + 1) τ = if gWorker τ wc 0 < wc ∧ 0 ≤ gNext τ tc tc 0 then gBegins k (gBegin τ (gWorker τ wc 0) (nn (gNext τ tc tc 0))) else τ := by
        show (if gWorker τ (nn (τ 20 0 2)) 0 < nn (τ 20 0 2) ∧ 0 ≤ gNext τ (nn (τ 20 0 1)) (nn (τ 20 0 1)) 0 then gBegins k (gBegin τ (gWorker τ (nn (τ 20 0 2)) 0) (nn (gNext τ (nn (τ 20 0 1)) (nn (τ 20 0 1)) 0))) else τ) = _
        rw [n1, n2]
      have endE : ¬ (gWorker τ wc 0 < wc ∧ 0 ≤ gNext τ tc tc 0) → gBegins (k + 1) τ = τ := fun q => by rw [hk1, if_neg q]
      have at87 : ty_V cnM p l e (rmL 2) s m args below meth c D ad cA (ty_Gd cnM ad s) 4 (MQ below (ty_Q cnM D ad cA (fun r σ' => r = none ∧ σ' = gMost (gBegins 13 (gAband σ wc)) tc) (ty_A cnM ad)) args s 0 0 (ty_A cnM ad)) τ [some (.inr (20, 0)), some (.inl 1), some (.inl (nI (gWorker τ wc 0))), none] 87 [] := by
        refine v_iload_n (pc := 87) C d_Model_begins_87 rfl rfl ?_
        refine v_aload_n (pc := 88) C d_Model_begins_88 rfl rfl ?_
        refine gf_Model_7 (pc := 89) C d_Model_begins_89 ?_
        refine v_icmp_ge (pc := 92) (tgt := 102) C d_Model_begins_92 (by decide) (fun h92 => ?_) (fun h92 => ?_)
        · refine v_iconst (pc := 102) (v := (-1)) C d_Model_begins_102 (by decide) ?_
          refine v_istore_n (pc := 103) C d_Model_begins_103 rfl (by decide) ?_
          refine v_iload_n (pc := 104) C d_Model_begins_104 rfl rfl ?_
          refine v_if_lt (pc := 105) (tgt := 112) C d_Model_begins_105 (by decide) (fun h105 => ?_) (fun h105 => ?_)
          · refine v_iconst (pc := 112) (v := 0) C d_Model_begins_112 (by decide) ?_
            refine v_istore_n (pc := 113) C d_Model_begins_113 rfl (by decide) ?_
            refine v_iload_n (pc := 114) C d_Model_begins_114 rfl rfl ?_
            refine v_if_ne (pc := 115) (tgt := 121) C d_Model_begins_115 (by decide) (fun h115 => ?_) (fun h115 => ?_)
            · exact absurd rfl h115
            · refine v_goto (pc := 118) (tgt := 173) C d_Model_begins_118 (by decide) ?_
              exact c173 τ _ _ _ ok.1 (by rw [hk]; exact endE (fun q => absurd q.1 (by rw [ok.2.1] at h92; have := (gWorker_ge (τ := τ) wc 0).2; exact fun z => absurd h92 (nI_ge z (by omega)))))
          · exact absurd (show (-1 : Int32) < 0 by decide) h105
        · refine v_aload_n (pc := 95) C d_Model_begins_95 rfl rfl ?_
          refine cl_Model_169 (pc := 96) C (m_next l hJ τ tc htc ok.1) ⟨rfl, rfl, by decide, by decide⟩ rfl rfl (Nat.le_of_ble_eq_true rfl) d_Model_begins_96 (fun r σ' hq => ?_)
          rw [hq.1, hq.2]
          refine v_goto (pc := 99) (tgt := 103) C d_Model_begins_99 (by decide) ?_
          refine v_istore_n (pc := 103) C d_Model_begins_103 rfl (by decide) ?_
          refine v_iload_n (pc := 104) C d_Model_begins_104 rfl rfl ?_
          refine v_if_lt (pc := 105) (tgt := 112) C d_Model_begins_105 (by decide) (fun h105 => ?_) (fun h105 => ?_)
          · refine v_iconst (pc := 112) (v := 0) C d_Model_begins_112 (by decide) ?_
            refine v_istore_n (pc := 113) C d_Model_begins_113 rfl (by decide) ?_
            refine v_iload_n (pc := 114) C d_Model_begins_114 rfl rfl ?_
            refine v_if_ne (pc := 115) (tgt := 121) C d_Model_begins_115 (by decide) (fun h115 => ?_) (fun h115 => ?_)
            · exact absurd rfl h115
            · refine v_goto (pc := 118) (tgt := 173) C d_Model_begins_118 (by decide) ?_
              exact c173 τ _ _ _ ok.1 (by rw [hk]; exact endE (fun q => absurd q.2 (Int32.not_le.mpr h105)))
          · refine v_iconst (pc := 108) (v := 1) C d_Model_begins_108 (by decide) ?_
            refine v_goto (pc := 109) (tgt := 113) C d_Model_begins_109 (by decide) ?_
            refine v_istore_n (pc := 113) C d_Model_begins_113 rfl (by decide) ?_
            refine v_iload_n (pc := 114) C d_Model_begins_114 rfl rfl ?_
            refine v_if_ne (pc := 115) (tgt := 121) C d_Model_begins_115 (by decide) (fun h115 => ?_) (fun h115 => ?_)
            · have hWc : gWorker τ wc 0 < wc := by rw [ok.2.1] at h92; exact Nat.not_le.mp (fun z => h92 (nI_le z (by have := (gWorker_ge (τ := τ) wc 0).2; omega)))
              obtain ⟨t, _, ht, et⟩ := (gNext_in (τ := τ) (n := tc) tc 0).resolve_left (fun q => by rw [q] at h105; exact absurd (by decide) h105)
              rw [et]
              refine v_aload_n (pc := 121) C d_Model_begins_121 rfl rfl ?_
              refine gf_Model_66 (pc := 122) C d_Model_begins_122 ?_
              refine v_iload_n (pc := 125) C d_Model_begins_125 rfl rfl ?_
              refine v_iload_n (pc := 126) C d_Model_begins_126 rfl rfl ?_
              refine v_iastoreK (pc := 127) C rfl rfl (rfl) (by omega) (by decide) d_Model_begins_127 ?_
              refine v_aload_n (pc := 128) C d_Model_begins_128 rfl rfl ?_
              refine gf_Model_50 (pc := 129) C d_Model_begins_129 ?_
              refine v_iload_n (pc := 132) C d_Model_begins_132 rfl rfl ?_
              refine v_iload_n (pc := 133) C d_Model_begins_133 rfl rfl ?_
              refine v_iastoreK (pc := 134) C rfl rfl (rfl) (by omega) (by decide) d_Model_begins_134 ?_
              refine v_aload_n (pc := 135) C d_Model_begins_135 rfl rfl ?_
              refine gf_Model_44 (pc := 136) C d_Model_begins_136 ?_
              refine v_iload_n (pc := 139) C d_Model_begins_139 rfl rfl ?_
              refine v_aload_n (pc := 140) C d_Model_begins_140 rfl rfl ?_
              refine gf_Model_117 (pc := 141) C d_Model_begins_141 ?_
              refine v_iastoreK (pc := 144) C rfl rfl (rfl) (by omega) (by decide) d_Model_begins_144 ?_
              refine v_aload_n (pc := 145) C d_Model_begins_145 rfl rfl ?_
              refine gf_Model_56 (pc := 146) C d_Model_begins_146 ?_
              refine v_iload_n (pc := 149) C d_Model_begins_149 rfl rfl ?_
              refine v_iconst (pc := 150) (v := (-1)) C d_Model_begins_150 (by decide) ?_
              refine v_iastoreK (pc := 151) C rfl rfl (rfl) (by omega) (by decide) d_Model_begins_151 ?_
              refine v_aload_n (pc := 152) C d_Model_begins_152 rfl rfl ?_
              refine gf_Model_53 (pc := 153) C d_Model_begins_153 ?_
              refine v_iload_n (pc := 156) C d_Model_begins_156 rfl rfl ?_
              refine v_aload_n (pc := 157) C d_Model_begins_157 rfl rfl ?_
              refine v_iload_n (pc := 158) C d_Model_begins_158 rfl rfl ?_
              refine v_aload_n (pc := 159) C d_Model_begins_159 rfl rfl ?_
              refine gf_Model_26 (pc := 160) C d_Model_begins_160 ?_
              refine v_iload_n (pc := 163) C d_Model_begins_163 rfl rfl ?_
              refine v_ialoadK (pc := 164) C rfl rfl (rfl) (by omega) (by decide) d_Model_begins_164 ?_
              refine v_iconst (pc := 165) (v := (-1)) C d_Model_begins_165 (by decide) ?_
              refine cl_Model_156 (pc := 166) C (m_starts l hJ _ (by exact ok.2.2.2) _ t (by omega) rfl _ _) ⟨rfl, rfl, by decide, by decide⟩ rfl rfl (Nat.le_of_ble_eq_true rfl) d_Model_begins_166 (fun r σ' hq => ?_)
              rw [hq.1, hq.2]
              refine v_iastoreK (pc := 169) C rfl rfl (rfl) (by omega) (by decide) d_Model_begins_169 ?_
              refine v_goto (pc := 170) (tgt := 59) C d_Model_begins_170 (by decide) ?_
              refine v_forget C 2 ?_
              refine v_forget C 3 ?_
              have hcd : gWorker τ wc 0 < wc ∧ 0 ≤ gNext τ tc tc 0 := ⟨hWc, by rw [et]; exact nI_pos' (by omega)⟩
              have etn : nn (gNext τ tc tc 0) = t := by rw [et]; exact nI_clamp (by omega)
              have hgg := hg.2 hcd
              rw [hk1, if_pos hcd, etn] at hk
              rw [etn] at hgg
              exact ih _ hgg hk
            · exact absurd h115 (by decide)
      have find : ∀ k2 i, i + k2 = wc → gWorker τ k2 i = gWorker τ wc 0 → ty_V cnM p l e (rmL 2) s m args below meth c D ad cA (ty_Gd cnM ad s) 4 (MQ below (ty_Q cnM D ad cA (fun r σ' => r = none ∧ σ' = gMost (gBegins 13 (gAband σ wc)) tc) (ty_A cnM ad)) args s 0 0 (ty_A cnM ad)) τ [some (.inr (20, 0)), some (.inl 1), some (.inl (nI i)), none] 65 [] := by
        intro k2
        induction k2 with
        | zero =>
          intro i hi hL
          have hb := ok.2.1
          refine v_iload_n (pc := 65) C d_Model_begins_65 rfl rfl ?_
          refine v_aload_n (pc := 66) C d_Model_begins_66 rfl rfl ?_
          refine gf_Model_7 (pc := 67) C d_Model_begins_67 ?_
          refine v_icmp_ge (pc := 70) (tgt := 87) C d_Model_begins_70 (by decide) (fun h70 => ?_) (fun h70 => ?_)
          · rw [show i = gWorker τ wc 0 from hL]
            exact at87
          · exact absurd (by rw [hb]; exact nI_le (by omega) (by omega)) h70
        | succ k2 ih2 =>
          intro i hi hL
          have hb := ok.2.1
          refine v_iload_n (pc := 65) C d_Model_begins_65 rfl rfl ?_
          refine v_aload_n (pc := 66) C d_Model_begins_66 rfl rfl ?_
          refine gf_Model_7 (pc := 67) C d_Model_begins_67 ?_
          refine v_icmp_ge (pc := 70) (tgt := 87) C d_Model_begins_70 (by decide) (fun h70 => ?_) (fun h70 => ?_)
          · exact absurd h70 (by rw [hb]; exact nI_ge (by omega) (by omega))
          · refine v_aload_n (pc := 73) C d_Model_begins_73 rfl rfl ?_
            refine v_iload_n (pc := 74) C d_Model_begins_74 rfl rfl ?_
            refine cl_Model_166 (pc := 75) C (m_isFree l hJ τ i (by omega) (ok.2.2.1 i (by omega))) ⟨rfl, rfl, by decide, by decide⟩ rfl rfl (Nat.le_of_ble_eq_true rfl) d_Model_begins_75 (fun r σ' hq => ?_)
            rw [hq.1, hq.2]
            refine v_if_ne (pc := 78) (tgt := 87) C d_Model_begins_78 (by decide) (fun h78 => ?_) (fun h78 => ?_)
            · have hf : gFree τ i = true := by by_cases e : gFree τ i = true; exact e; exact absurd (if_neg e) h78
              have hL2 : (if gFree τ i = true then i else gWorker τ k2 (i + 1)) = gWorker τ wc 0 := hL
              rw [if_pos hf] at hL2
              rw [hL2]
              exact at87
            · refine v_iinc (pc := 81) C d_Model_begins_81 rfl (show _ + Int32.ofInt 1 = _ + 1 from rfl) (by decide) ?_
              refine v_goto (pc := 84) (tgt := 65) C d_Model_begins_84 (by decide) ?_
              rw [nI_1 i]
              refine ih2 (i + 1) (by omega) ?_
              have hf : ¬ gFree τ i = true := fun e => by rw [if_pos e] at h78; exact absurd h78 (by decide)
              have hL2 : (if gFree τ i = true then i else gWorker τ k2 (i + 1)) = gWorker τ wc 0 := hL
              rw [← hL2, if_neg hf]
      refine v_iload_n (pc := 59) C d_Model_begins_59 rfl rfl ?_
      refine v_if_eq (pc := 60) (tgt := 173) C d_Model_begins_60 (by decide) (fun h60 => ?_) (fun h60 => ?_)
      · exact absurd h60 (by decide)
      · refine v_iconst (pc := 63) (v := 0) C d_Model_begins_63 (by decide) ?_
        refine v_istore_n (pc := 64) C d_Model_begins_64 rfl (by decide) ?_
        exact find wc 0 (by omega) rfl
  have ab : ∀ k i, i + k = wc → ∀ τ : ty_St, τ = gAband σ i → ty_V cnM p l e (rmL 2) s m args below meth c D ad cA (ty_Gd cnM ad s) 4 (MQ below (ty_Q cnM D ad cA (fun r σ' => r = none ∧ σ' = gMost (gBegins 13 (gAband σ wc)) tc) (ty_A cnM ad)) args s 0 0 (ty_A cnM ad)) τ [some (.inr (20, 0)), some (.inl (nI i)), none, none] 2 [] := by
    intro  k
    induction k with
    | zero =>
      intro i hi τ hτ
      have hb := (show τ 20 0 2 = nI wc by rw [hτ, gAband_a (by decide)]; exact hw)
      refine v_iload_n (pc := 2) C d_Model_begins_2 rfl rfl ?_
      refine v_aload_n (pc := 3) C d_Model_begins_3 rfl rfl ?_
      refine gf_Model_7 (pc := 4) C d_Model_begins_4 ?_
      refine v_icmp_ge (pc := 7) (tgt := 57) C d_Model_begins_7 (by decide) (fun h7 => ?_) (fun h7 => ?_)
      · refine v_iconst (pc := 57) (v := 1) C d_Model_begins_57 (by decide) ?_
        refine v_istore_n (pc := 58) C d_Model_begins_58 rfl (by decide) ?_
        refine wl 13 τ ?_ ?_
        · rw [hτ, show i = wc by omega]; exact hg
        · rw [hτ, show i = wc by omega]
      · exact absurd (by rw [hb]; exact nI_le (by omega) (by omega)) h7
    | succ k ih =>
      intro i hi τ hτ
      have hb := (show τ 20 0 2 = nI wc by rw [hτ, gAband_a (by decide)]; exact hw)
      have hti : 0 ≤ τ 38 0 i → vp_in (τ 38 0 i) 12 ∧ vp_in (τ 34 0 (nn (τ 38 0 i))) 64 := by rw [hτ, gAband_a (by decide), gAband_a (by decide)]; exact hto i (by omega)
      refine v_iload_n (pc := 2) C d_Model_begins_2 rfl rfl ?_
      refine v_aload_n (pc := 3) C d_Model_begins_3 rfl rfl ?_
      refine gf_Model_7 (pc := 4) C d_Model_begins_4 ?_
      refine v_icmp_ge (pc := 7) (tgt := 57) C d_Model_begins_7 (by decide) (fun h7 => ?_) (fun h7 => ?_)
      · exact absurd h7 (by rw [hb]; exact nI_ge (by omega) (by omega))
      · refine v_aload_n (pc := 10) C d_Model_begins_10 rfl rfl ?_
        refine gf_Model_66 (pc := 11) C d_Model_begins_11 ?_
        refine v_iload_n (pc := 14) C d_Model_begins_14 rfl rfl ?_
        refine v_ialoadK (pc := 15) C rfl rfl (rfl) (by omega) (by decide) d_Model_begins_15 ?_
        refine v_istore_n (pc := 16) C d_Model_begins_16 rfl (by decide) ?_
        refine v_iload_n (pc := 17) C d_Model_begins_17 rfl rfl ?_
        refine v_if_lt (pc := 18) (tgt := 51) C d_Model_begins_18 (by decide) (fun h18 => ?_) (fun h18 => ?_)
        · refine v_iinc (pc := 51) C d_Model_begins_51 rfl (show _ + Int32.ofInt 1 = _ + 1 from rfl) (by decide) ?_
          refine v_goto (pc := 54) (tgt := 2) C d_Model_begins_54 (by decide) ?_
          refine v_forget C 2 ?_
          rw [nI_1 i]
          refine ih (i + 1) (by omega) _ ?_
          show _ = gAband1 (gAband σ i) i
          rw [← hτ]
          unfold gAband1
          rw [if_neg (fun q => absurd q.1 (Int32.not_le.mpr h18))]
        · refine v_aload_n (pc := 21) C d_Model_begins_21 rfl rfl ?_
          refine v_iload_n (pc := 22) C d_Model_begins_22 rfl rfl ?_
          refine cl_Model_166 (pc := 23) C (m_isFree l hJ τ i (by omega) hti) ⟨rfl, rfl, by decide, by decide⟩ rfl rfl (Nat.le_of_ble_eq_true rfl) d_Model_begins_23 (fun r σ' hq => ?_)
          rw [hq.1, hq.2]
          refine v_if_eq (pc := 26) (tgt := 51) C d_Model_begins_26 (by decide) (fun h26 => ?_) (fun h26 => ?_)
          · refine v_iinc (pc := 51) C d_Model_begins_51 rfl (show _ + Int32.ofInt 1 = _ + 1 from rfl) (by decide) ?_
            refine v_goto (pc := 54) (tgt := 2) C d_Model_begins_54 (by decide) ?_
            refine v_forget C 2 ?_
            rw [nI_1 i]
            refine ih (i + 1) (by omega) _ ?_
            show _ = gAband1 (gAband σ i) i
            rw [← hτ]
            unfold gAband1
            rw [if_neg (fun q => by rw [if_pos q.2.1] at h26; exact absurd h26 (by decide))]
          · refine v_aload_n (pc := 29) C d_Model_begins_29 rfl rfl ?_
            refine gf_Model_81 (pc := 30) C d_Model_begins_30 ?_
            refine v_aload_n (pc := 33) C d_Model_begins_33 rfl rfl ?_
            refine gf_Model_53 (pc := 34) C d_Model_begins_34 ?_
            refine v_iload_n (pc := 37) C d_Model_begins_37 rfl rfl ?_
            refine v_iaload (pc := 38) C rfl rfl (hti (Int32.not_lt.mp h18)).1 d_Model_begins_38 ?_
            refine v_iaload (pc := 39) C rfl rfl (hti (Int32.not_lt.mp h18)).2 d_Model_begins_39 ?_
            refine v_iconst (pc := 40) (v := 5) C d_Model_begins_40 (by decide) ?_
            refine v_icmp_eq (pc := 41) (tgt := 51) C d_Model_begins_41 (by decide) (fun h41 => ?_) (fun h41 => ?_)
            · refine v_iinc (pc := 51) C d_Model_begins_51 rfl (show _ + Int32.ofInt 1 = _ + 1 from rfl) (by decide) ?_
              refine v_goto (pc := 54) (tgt := 2) C d_Model_begins_54 (by decide) ?_
              refine v_forget C 2 ?_
              rw [nI_1 i]
              refine ih (i + 1) (by omega) _ ?_
              show _ = gAband1 (gAband σ i) i
              rw [← hτ]
              unfold gAband1
              rw [if_neg (fun q => q.2.2 h41)]
            · refine v_aload_n (pc := 44) C d_Model_begins_44 rfl rfl ?_
              refine gf_Model_62 (pc := 45) C d_Model_begins_45 ?_
              refine v_iload_n (pc := 48) C d_Model_begins_48 rfl rfl ?_
              refine v_iconst (pc := 49) (v := 1) C d_Model_begins_49 (by decide) ?_
              refine v_bastore (pc := 50) C rfl rfl (hti (Int32.not_lt.mp h18)).1 rfl d_Model_begins_50 ?_
              refine v_iinc (pc := 51) C d_Model_begins_51 rfl (show _ + Int32.ofInt 1 = _ + 1 from rfl) (by decide) ?_
              refine v_goto (pc := 54) (tgt := 2) C d_Model_begins_54 (by decide) ?_
              refine v_forget C 2 ?_
              rw [nI_1 i]
              refine ih (i + 1) (by omega) _ ?_
              show _ = gAband1 (gAband σ i) i
              rw [← hτ]
              unfold gAband1
              rw [if_pos ⟨Int32.not_lt.mp h18, by by_cases e : gFree τ i = true; exact e; exact absurd (if_neg e) h26, h41⟩]
  refine v_iconst (pc := 0) (v := 0) C d_Model_begins_0 (by decide) ?_
  refine v_istore_n (pc := 1) C d_Model_begins_1 rfl (by decide) ?_
  exact ab wc 0 (by omega) σ rfl
