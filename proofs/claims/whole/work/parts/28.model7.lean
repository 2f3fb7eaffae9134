def gInit1 (τ : ty_St) (t : Nat) : ty_St := ty_up (ty_up (ty_up (ty_up (ty_up (ty_up (ty_up τ 29 0 t 0) 30 0 t (-1)) 31 0 t (-1)) 32 0 t (-1)) 33 0 t (-1)) 37 0 t 0) 36 0 t 0
def gInits (τ : ty_St) : Nat → ty_St
  | 0 => τ
  | n + 1 => gInit1 (gInits τ n) n
def gTakesF (τ : ty_St) : Nat → ty_St
  | 0 => τ
  | n + 1 => ty_up (gTakesF τ n) 38 0 n (-1)
def gReset (τ : ty_St) : ty_St := ty_up (ty_up (ty_up (ty_up (ty_up (ty_up (ty_up τ 20 0 0 0) 20 0 3 0) 20 0 4 0) 20 0 5 0) 20 0 6 0) 20 0 7 0) 20 0 8 0
def gBoot (τ : ty_St) (tc : Nat) : ty_St := gTakesF (gInits (gGs (gReset τ) 10) tc) 4
def gTurns (τ : ty_St) : Nat → ty_St
  | 0 => τ
  | n + 1 => if (gTurns τ n) 43 0 n = 5 then gTurns τ n else gTurn (gTurns τ n) n
def gTick0 (tc wc : Nat) (τ : ty_St) : ty_St := gMost (gBegins 13 (gAband (gLooks τ tc) wc)) tc
def gTick1 (τ : ty_St) : ty_St := ty_up (gTurns τ (nn (τ 20 0 8))) 20 0 3 ((gTurns τ (nn (τ 20 0 8))) 20 0 3 + 1)
def gTicks (tc wc : Nat) : Nat → ty_St → ty_St
  | 0, τ => τ
  | k + 1, τ => if gDone (gTick0 tc wc τ) tc = true ∧ gIdle (gTick0 tc wc τ) wc = true then gTick0 tc wc τ else gTicks tc wc k (gTick1 (gTick0 tc wc τ))
def gUntr (τ : ty_St) : Nat → ty_St
  | 0 => τ
  | n + 1 => if (gUntr τ n) 29 0 n = 0 then gJudged (gUntr τ n) n 4 (-1) else gUntr τ n
def gLefts (τ : ty_St) : Nat → ty_St
  | 0 => τ
  | n + 1 => if (gLefts τ n) 43 0 n = 5 then gLefts τ n else ty_up (gLefts τ n) 20 0 6 ((gLefts τ n) 20 0 6 + 1)
def gPass (τ : ty_St) : Nat → ty_St
  | 0 => τ
  | n + 1 => if (gPass τ n) 29 0 n = 1 then gPass τ n else ty_up (gPass τ n) 20 0 9 1
def gFinish (τ : ty_St) (tc sc : Nat) : ty_St := gPass (ty_up (gLefts (gUntr τ tc) sc) 20 0 9 0) tc
/-- what a thread's turn asks -/
def gOKT (τ : ty_St) (h : Nat) : Prop :=
  ¬ τ 20 0 5 < 0 ∧ vp_in (τ 39 0 h) 12 ∧ (∃ sc, sc ≤ 63 ∧ τ 20 0 8 = nI sc) ∧ (¬ τ 43 0 h = 0 → ¬ τ 43 0 h = 1 → ¬ τ 45 0 h = 0 → ∃ z, z < 10 ∧ τ 42 0 h = nI (z + 1) ∧ ∃ c0, c0 < 10 ∧ τ 41 0 h = nI c0) ∧ gGood h 12 (gTurn0 τ h)
def gTo (τ : ty_St) : Prop := ∀ w, w < 4 → 0 ≤ τ 38 0 w → vp_in (τ 38 0 w) 12 ∧ vp_in (τ 34 0 (nn (τ 38 0 w))) 64
/-- what k further ticks from the time i on ask -/
def gGoodR (tc wc : Nat) : Nat → Nat → ty_St → Prop
  | 0, i, τ => τ 20 0 3 = nI i
  | k + 1, i, τ => τ 20 0 3 = nI i ∧ τ 20 0 1 = nI tc ∧ (∀ t, t < 12 → 0 ≤ τ 31 0 t → vp_in (τ 34 0 t) 64) ∧
      (gLooks τ tc) 20 0 2 = nI wc ∧ gTo (gLooks τ tc) ∧ gGoodB tc wc 13 (gAband (gLooks τ tc) wc) ∧
      (gTick0 tc wc τ) 20 0 1 = nI tc ∧ (gTick0 tc wc τ) 20 0 2 = nI wc ∧ gTo (gTick0 tc wc τ) ∧
      (¬ (gDone (gTick0 tc wc τ) tc = true ∧ gIdle (gTick0 tc wc τ) wc = true) → ∃ sc, sc ≤ 63 ∧ (gTick0 tc wc τ) 20 0 8 = nI sc ∧ (∀ h, h < sc → ¬ (gTurns (gTick0 tc wc τ) h) 43 0 h = 5 → gOKT (gTurns (gTick0 tc wc τ) h) h) ∧ gGoodR tc wc k (i + 1) (gTick1 (gTick0 tc wc τ)))
theorem gInit1_a {σ : ty_St} {w a : Nat} (h : a < 29) : (gInit1 σ w) a = σ a := by
  unfold gInit1
  rw [up_a (by omega), up_a (by omega), up_a (by omega), up_a (by omega), up_a (by omega), up_a (by omega), up_a (by omega)]
theorem gInits_a {σ : ty_St} {a : Nat} (h : a < 29) : ∀ n, (gInits σ n) a = σ a
  | 0 => rfl
  | n + 1 => (gInit1_a h).trans (gInits_a h n)
theorem gUntr_20 {σ : ty_St} : ∀ n, (gUntr σ n) 20 = σ 20
  | 0 => rfl
  | n + 1 => by
    unfold gUntr gJudged
    split
    · rw [up_a (by decide), up_a (by decide), up_a (by decide)]; exact gUntr_20 n
    · exact gUntr_20 n
theorem gLefts_20 {σ : ty_St} {j : Nat} (h : ¬ j = 6) : ∀ n, (gLefts σ n) 20 0 j = σ 20 0 j
  | 0 => rfl
  | n + 1 => by
    unfold gLefts
    split
    · exact gLefts_20 h n
    · rw [up_sj h]; exact gLefts_20 h n
theorem gPass_20 {σ : ty_St} {j : Nat} (h : ¬ j = 9) : ∀ n, (gPass σ n) 20 0 j = σ 20 0 j
  | 0 => rfl
  | n + 1 => by
    unfold gPass
    split
    · exact gPass_20 h n
    · rw [up_sj h]; exact gPass_20 h n
set_option maxRecDepth 100000 in
set_option maxHeartbeats 4000000 in
theorem m_run (l : Launch) {D : va_G} {ad : Nat → Nat → Nat} {cA : Nat → ClassId} (hJ : ty_J cnM ad) (σ : ty_St) (hz : ∀ q, q < 10 → ∃ k, k ≤ 10 ∧ σ 23 0 q = nI k) (tc : Nat) (htc : tc ≤ 12) (hc : σ 20 0 1 = nI tc) (wc : Nat) (hwc : wc ≤ 4) (hg : gGoodR tc wc 150 0 (gBoot σ tc)) (hF1 : (gTicks tc wc 150 (gBoot σ tc)) 20 0 1 = nI tc) (sc : Nat) (hsc : sc ≤ 63) (hF2 : (gTicks tc wc 150 (gBoot σ tc)) 20 0 8 = nI sc) : ty_M l y_Model_run (Cond.code y_Model_run b_Model_run 4 (some .int) :: ty_w) (rmL 6) cnM D ad cA [.inr (20, 0)] σ (fun r σ' => r = some (.inl ((gFinish (gTicks tc wc 150 (gBoot σ tc)) tc sc) 20 0 3)) ∧ σ' = gFinish (gTicks tc wc 150 (gBoot σ tc)) tc sc) := by
  refine ty_M.of rfl hJ layM (ty_oks.cons (show (0 : Nat) < cnM 20 by decide) ty_oks.nil) (Nat.le_of_ble_eq_true rfl) ?_
  intro p e s m args below meth c C hr hnm
  have l3 : ∀ (g d : Option ty_SV), ∀ k i, i + k = tc → ∀ υ : ty_St, υ = gPass (ty_up (gLefts (gUntr (gTicks tc wc 150 (gBoot σ tc)) tc) sc) 20 0 9 0) i → ty_V cnM p l e (rmL 6) s m args below meth c D ad cA (ty_Gd cnM ad s) 4 (MQ below (ty_Q cnM D ad cA (fun r σ' => r = some (.inl ((gFinish (gTicks tc wc 150 (gBoot σ tc)) tc sc) 20 0 3)) ∧ σ' = gFinish (gTicks tc wc 150 (gBoot σ tc)) tc sc) (ty_A cnM ad)) args s 0 0 (ty_A cnM ad)) υ [some (.inr (20, 0)), g, some (.inl (nI i)), d] 286 [] := by
    intro g d k
    induction k with
    | zero =>
      intro i hi υ hυ
      have hb := (show υ 20 0 1 = nI tc by rw [hυ, gPass_20 (by decide), up_sj (by decide), gLefts_20 (by decide), gUntr_20]; exact hF1)
      refine v_iload_n (pc := 286) C d_Model_run_286 rfl rfl ?_
      refine v_aload_n (pc := 287) C d_Model_run_287 rfl rfl ?_
      refine gf_Model_114 (pc := 288) C d_Model_run_288 ?_
      refine v_icmp_ge (pc := 291) (tgt := 315) C d_Model_run_291 (by decide) (fun h291 => ?_) (fun h291 => ?_)
      · refine v_aload_n (pc := 315) C d_Model_run_315 rfl rfl ?_
        refine gf_Model_117 (pc := 316) C d_Model_run_316 ?_
        exact v_ireturn (pc := 319) C hr ⟨by unfold gFinish; rw [hυ, show i = tc by omega], by unfold gFinish; rw [hυ, show i = tc by omega]⟩ d_Model_run_319
      · exact absurd (by rw [hb]; exact nI_le (by omega) (by omega)) h291
    | succ k ih =>
      intro i hi υ hυ
      have hb := (show υ 20 0 1 = nI tc by rw [hυ, gPass_20 (by decide), up_sj (by decide), gLefts_20 (by decide), gUntr_20]; exact hF1)
      refine v_iload_n (pc := 286) C d_Model_run_286 rfl rfl ?_
      refine v_aload_n (pc := 287) C d_Model_run_287 rfl rfl ?_
      refine gf_Model_114 (pc := 288) C d_Model_run_288 ?_
      refine v_icmp_ge (pc := 291) (tgt := 315) C d_Model_run_291 (by decide) (fun h291 => ?_) (fun h291 => ?_)
      · exact absurd h291 (by rw [hb]; exact nI_ge (by omega) (by omega))
      · refine v_aload_n (pc := 294) C d_Model_run_294 rfl rfl ?_
        refine gf_Model_38 (pc := 295) C d_Model_run_295 ?_
        refine v_iload_n (pc := 298) C d_Model_run_298 rfl rfl ?_
        refine v_ialoadK (pc := 299) C rfl rfl (rfl) (by omega) (by decide) d_Model_run_299 ?_
        refine v_iconst (pc := 300) (v := 1) C d_Model_run_300 (by decide) ?_
        refine v_icmp_eq (pc := 301) (tgt := 309) C d_Model_run_301 (by decide) (fun h301 => ?_) (fun h301 => ?_)
        · refine v_iinc (pc := 309) C d_Model_run_309 rfl (show _ + Int32.ofInt 1 = _ + 1 from rfl) (by decide) ?_
          refine v_goto (pc := 312) (tgt := 286) C d_Model_run_312 (by decide) ?_
          rw [nI_1 i]
          refine ih (i + 1) (by omega) _ ?_
          unfold gPass
          rw [← hυ]
          rw [if_pos h301]
        · refine v_aload_n (pc := 304) C d_Model_run_304 rfl rfl ?_
          refine v_iconst (pc := 305) (v := 1) C d_Model_run_305 (by decide) ?_
          refine pf_Model_196 (pc := 306) C d_Model_run_306 ?_
          refine v_iinc (pc := 309) C d_Model_run_309 rfl (show _ + Int32.ofInt 1 = _ + 1 from rfl) (by decide) ?_
          refine v_goto (pc := 312) (tgt := 286) C d_Model_run_312 (by decide) ?_
          rw [nI_1 i]
          refine ih (i + 1) (by omega) _ ?_
          unfold gPass
          rw [← hυ]
          rw [if_neg h301]
  have l2 : ∀ (g d : Option ty_SV), ∀ k i, i + k = sc → ∀ υ : ty_St, υ = gLefts (gUntr (gTicks tc wc 150 (gBoot σ tc)) tc) i → ty_V cnM p l e (rmL 6) s m args below meth c D ad cA (ty_Gd cnM ad s) 4 (MQ below (ty_Q cnM D ad cA (fun r σ' => r = some (.inl ((gFinish (gTicks tc wc 150 (gBoot σ tc)) tc sc) 20 0 3)) ∧ σ' = gFinish (gTicks tc wc 150 (gBoot σ tc)) tc sc) (ty_A cnM ad)) args s 0 0 (ty_A cnM ad)) υ [some (.inr (20, 0)), g, some (.inl (nI i)), d] 245 [] := by
    intro g d k
    induction k with
    | zero =>
      intro i hi υ hυ
      have hb := (show υ 20 0 8 = nI sc by rw [hυ, gLefts_20 (by decide), gUntr_20]; exact hF2)
      refine v_iload_n (pc := 245) C d_Model_run_245 rfl rfl ?_
      refine v_aload_n (pc := 246) C d_Model_run_246 rfl rfl ?_
      refine gf_Model_131 (pc := 247) C d_Model_run_247 ?_
      refine v_icmp_ge (pc := 250) (tgt := 279) C d_Model_run_250 (by decide) (fun h250 => ?_) (fun h250 => ?_)
      · refine v_aload_n (pc := 279) C d_Model_run_279 rfl rfl ?_
        refine v_iconst (pc := 280) (v := 0) C d_Model_run_280 (by decide) ?_
        refine pf_Model_196 (pc := 281) C d_Model_run_281 ?_
        refine v_iconst (pc := 284) (v := 0) C d_Model_run_284 (by decide) ?_
        refine v_istore_n (pc := 285) C d_Model_run_285 rfl (by decide) ?_
        exact l3 g d tc 0 (by omega) _ (by rw [hυ, show i = sc by omega]; rfl)
      · exact absurd (by rw [hb]; exact nI_le (by omega) (by omega)) h250
    | succ k ih =>
      intro i hi υ hυ
      have hb := (show υ 20 0 8 = nI sc by rw [hυ, gLefts_20 (by decide), gUntr_20]; exact hF2)
      refine v_iload_n (pc := 245) C d_Model_run_245 rfl rfl ?_
      refine v_aload_n (pc := 246) C d_Model_run_246 rfl rfl ?_
      refine gf_Model_131 (pc := 247) C d_Model_run_247 ?_
      refine v_icmp_ge (pc := 250) (tgt := 279) C d_Model_run_250 (by decide) (fun h250 => ?_) (fun h250 => ?_)
      · exact absurd h250 (by rw [hb]; exact nI_ge (by omega) (by omega))
      · refine v_aload_n (pc := 253) C d_Model_run_253 rfl rfl ?_
        refine gf_Model_81 (pc := 254) C d_Model_run_254 ?_
        refine v_iload_n (pc := 257) C d_Model_run_257 rfl rfl ?_
        refine v_ialoadK (pc := 258) C rfl rfl (rfl) (by omega) (by decide) d_Model_run_258 ?_
        refine v_iconst (pc := 259) (v := 5) C d_Model_run_259 (by decide) ?_
        refine v_icmp_eq (pc := 260) (tgt := 273) C d_Model_run_260 (by decide) (fun h260 => ?_) (fun h260 => ?_)
        · refine v_iinc (pc := 273) C d_Model_run_273 rfl (show _ + Int32.ofInt 1 = _ + 1 from rfl) (by decide) ?_
          refine v_goto (pc := 276) (tgt := 245) C d_Model_run_276 (by decide) ?_
          rw [nI_1 i]
          refine ih (i + 1) (by omega) _ ?_
          unfold gLefts
          rw [← hυ]
          rw [if_pos h260]
        · refine v_aload_n (pc := 263) C d_Model_run_263 rfl rfl ?_
          refine v_dup (pc := 264) C d_Model_run_264 ?_
          refine gf_Model_176 (pc := 265) C d_Model_run_265 ?_
          refine v_iconst (pc := 268) (v := 1) C d_Model_run_268 (by decide) ?_
          refine v_iadd (pc := 269) C d_Model_run_269 ?_
          refine pf_Model_176 (pc := 270) C d_Model_run_270 ?_
          refine v_iinc (pc := 273) C d_Model_run_273 rfl (show _ + Int32.ofInt 1 = _ + 1 from rfl) (by decide) ?_
          refine v_goto (pc := 276) (tgt := 245) C d_Model_run_276 (by decide) ?_
          rw [nI_1 i]
          refine ih (i + 1) (by omega) _ ?_
          unfold gLefts
          rw [← hυ]
          rw [if_neg h260]
  have l1 : ∀ (g d : Option ty_SV), ∀ k i, i + k = tc → ∀ υ : ty_St, υ = gUntr (gTicks tc wc 150 (gBoot σ tc)) i → ty_V cnM p l e (rmL 6) s m args below meth c D ad cA (ty_Gd cnM ad s) 4 (MQ below (ty_Q cnM D ad cA (fun r σ' => r = some (.inl ((gFinish (gTicks tc wc 150 (gBoot σ tc)) tc sc) 20 0 3)) ∧ σ' = gFinish (gTicks tc wc 150 (gBoot σ tc)) tc sc) (ty_A cnM ad)) args s 0 0 (ty_A cnM ad)) υ [some (.inr (20, 0)), g, some (.inl (nI i)), d] 213 [] := by
    intro g d k
    induction k with
    | zero =>
      intro i hi υ hυ
      have hb := (show υ 20 0 1 = nI tc by rw [hυ, gUntr_20]; exact hF1)
      refine v_iload_n (pc := 213) C d_Model_run_213 rfl rfl ?_
      refine v_aload_n (pc := 214) C d_Model_run_214 rfl rfl ?_
      refine gf_Model_114 (pc := 215) C d_Model_run_215 ?_
      refine v_icmp_ge (pc := 218) (tgt := 243) C d_Model_run_218 (by decide) (fun h218 => ?_) (fun h218 => ?_)
      · refine v_iconst (pc := 243) (v := 0) C d_Model_run_243 (by decide) ?_
        refine v_istore_n (pc := 244) C d_Model_run_244 rfl (by decide) ?_
        exact l2 g d sc 0 (by omega) _ (by rw [hυ, show i = tc by omega]; rfl)
      · exact absurd (by rw [hb]; exact nI_le (by omega) (by omega)) h218
    | succ k ih =>
      intro i hi υ hυ
      have hb := (show υ 20 0 1 = nI tc by rw [hυ, gUntr_20]; exact hF1)
      refine v_iload_n (pc := 213) C d_Model_run_213 rfl rfl ?_
      refine v_aload_n (pc := 214) C d_Model_run_214 rfl rfl ?_
      refine gf_Model_114 (pc := 215) C d_Model_run_215 ?_
      refine v_icmp_ge (pc := 218) (tgt := 243) C d_Model_run_218 (by decide) (fun h218 => ?_) (fun h218 => ?_)
      · exact absurd h218 (by rw [hb]; exact nI_ge (by omega) (by omega))
      · refine v_aload_n (pc := 221) C d_Model_run_221 rfl rfl ?_
        refine gf_Model_38 (pc := 222) C d_Model_run_222 ?_
        refine v_iload_n (pc := 225) C d_Model_run_225 rfl rfl ?_
        refine v_ialoadK (pc := 226) C rfl rfl (rfl) (by omega) (by decide) d_Model_run_226 ?_
        refine v_if_ne (pc := 227) (tgt := 237) C d_Model_run_227 (by decide) (fun h227 => ?_) (fun h227 => ?_)
        · refine v_iinc (pc := 237) C d_Model_run_237 rfl (show _ + Int32.ofInt 1 = _ + 1 from rfl) (by decide) ?_
          refine v_goto (pc := 240) (tgt := 213) C d_Model_run_240 (by decide) ?_
          rw [nI_1 i]
          refine ih (i + 1) (by omega) _ ?_
          unfold gUntr
          rw [← hυ]
          rw [if_neg h227]
        · refine v_aload_n (pc := 230) C d_Model_run_230 rfl rfl ?_
          refine v_iload_n (pc := 231) C d_Model_run_231 rfl rfl ?_
          refine v_iconst (pc := 232) (v := 4) C d_Model_run_232 (by decide) ?_
          refine v_iconst (pc := 233) (v := (-1)) C d_Model_run_233 (by decide) ?_
          refine cl_Model_127 (pc := 234) C (m_judged l hJ υ _ i (by omega) rfl _ _) ⟨rfl, rfl, by decide, by decide⟩ rfl rfl (Nat.le_of_ble_eq_true rfl) d_Model_run_234 (fun r σ' hq => ?_)
          rw [hq.1, hq.2]
          refine v_iinc (pc := 237) C d_Model_run_237 rfl (show _ + Int32.ofInt 1 = _ + 1 from rfl) (by decide) ?_
          refine v_goto (pc := 240) (tgt := 213) C d_Model_run_240 (by decide) ?_
          rw [nI_1 i]
          refine ih (i + 1) (by omega) _ ?_
          unfold gUntr
          rw [← hυ]
          rw [if_pos h227]
  have fin : ∀ (υ : ty_St) (a b d : Option ty_SV), υ = (gTicks tc wc 150 (gBoot σ tc)) → ty_V cnM p l e (rmL 6) s m args below meth c D ad cA (ty_Gd cnM ad s) 4 (MQ below (ty_Q cnM D ad cA (fun r σ' => r = some (.inl ((gFinish (gTicks tc wc 150 (gBoot σ tc)) tc sc) 20 0 3)) ∧ σ' = gFinish (gTicks tc wc 150 (gBoot σ tc)) tc sc) (ty_A cnM ad)) args s 0 0 (ty_A cnM ad)) υ [some (.inr (20, 0)), a, b, d] 211 [] := by
    intro υ a b d hυ
    refine v_iconst (pc := 211) (v := 0) C d_Model_run_211 (by decide) ?_
    refine v_istore_n (pc := 212) C d_Model_run_212 rfl (by decide) ?_
    exact l1 a d tc 0 (by omega) _ hυ
  have tk : ∀ k i, i + k = 150 → ∀ τ : ty_St, gGoodR tc wc k i τ → (gTicks tc wc 150 (gBoot σ tc)) = gTicks tc wc k τ → ty_V cnM p l e (rmL 6) s m args below meth c D ad cA (ty_Gd cnM ad s) 4 (MQ below (ty_Q cnM D ad cA (fun r σ' => r = some (.inl ((gFinish (gTicks tc wc 150 (gBoot σ tc)) tc sc) 20 0 3)) ∧ σ' = gFinish (gTicks tc wc 150 (gBoot σ tc)) tc sc) (ty_A cnM ad)) args s 0 0 (ty_A cnM ad)) τ [some (.inr (20, 0)), some (.inl 0), none, none] 126 [] := by
    intro k
    induction k with
    | zero =>
      intro i hi τ hg hk
      have ht : τ 20 0 3 = nI i := hg
      refine v_iload_n (pc := 126) C d_Model_run_126 rfl rfl ?_
      refine v_if_ne (pc := 127) (tgt := 211) C d_Model_run_127 (by decide) (fun h127 => ?_) (fun h127 => ?_)
      · exact absurd rfl h127
      · refine v_aload_n (pc := 130) C d_Model_run_130 rfl rfl ?_
        refine gf_Model_117 (pc := 131) C d_Model_run_131 ?_
        refine v_sipush (pc := 134) (v := 150) C d_Model_run_134 (by decide) ?_
        refine v_icmp_ge (pc := 137) (tgt := 211) C d_Model_run_137 (by decide) (fun h137 => ?_) (fun h137 => ?_)
        · exact fin τ _ _ _ hk.symm
        · exact absurd (by rw [ht]; exact nI_le (show 150 ≤ i by omega) (by omega)) h137
    | succ k ih =>
      intro i hi τ hg hk
      obtain ⟨ht, h1, hfs, hw, hto, hgb, f1, f2, fto, hrest⟩ := hg
      have hk1 : gTicks tc wc (k + 1) τ = if gDone (gTick0 tc wc τ) tc = true ∧ gIdle (gTick0 tc wc τ) wc = true then gTick0 tc wc τ else gTicks tc wc k (gTick1 (gTick0 tc wc τ)) := rfl
      refine v_iload_n (pc := 126) C d_Model_run_126 rfl rfl ?_
      refine v_if_ne (pc := 127) (tgt := 211) C d_Model_run_127 (by decide) (fun h127 => ?_) (fun h127 => ?_)
      · exact absurd rfl h127
      · refine v_aload_n (pc := 130) C d_Model_run_130 rfl rfl ?_
        refine gf_Model_117 (pc := 131) C d_Model_run_131 ?_
        refine v_sipush (pc := 134) (v := 150) C d_Model_run_134 (by decide) ?_
        refine v_icmp_ge (pc := 137) (tgt := 211) C d_Model_run_137 (by decide) (fun h137 => ?_) (fun h137 => ?_)
        · exact absurd h137 (by rw [ht]; exact nI_ge (show i < 150 by omega) (by decide))
        · refine v_aload_n (pc := 140) C d_Model_run_140 rfl rfl ?_
          refine cl_Model_182 (pc := 141) C (m_looks l hJ τ tc htc h1 hfs) ⟨rfl, rfl, by decide, by decide⟩ rfl rfl (Nat.le_of_ble_eq_true rfl) d_Model_run_141 (fun r σ' hq => ?_)
          rw [hq.1, hq.2]
          refine v_aload_n (pc := 144) C d_Model_run_144 rfl rfl ?_
          refine cl_Model_185 (pc := 145) C (m_begins l hJ (gLooks τ tc) tc htc wc hwc hw hto hgb) ⟨rfl, rfl, by decide, by decide⟩ rfl rfl (Nat.le_of_ble_eq_true rfl) d_Model_run_145 (fun r σ' hq => ?_)
          rw [hq.1, hq.2]
          refine v_aload_n (pc := 148) C d_Model_run_148 rfl rfl ?_
          refine cl_Model_188 (pc := 149) C (m_done l hJ (gTick0 tc wc τ) tc htc f1 wc hwc f2 fto) ⟨rfl, rfl, by decide, by decide⟩ rfl rfl (Nat.le_of_ble_eq_true rfl) d_Model_run_149 (fun r σ' hq => ?_)
          rw [hq.1, hq.2]
          by_cases eo : gDone (gTick0 tc wc τ) tc = true ∧ gIdle (gTick0 tc wc τ) wc = true
          · rw [if_pos eo]
            refine v_istore_n (pc := 152) C d_Model_run_152 rfl (by decide) ?_
            refine v_iload_n (pc := 153) C d_Model_run_153 rfl rfl ?_
            refine v_if_eq (pc := 154) (tgt := 161) C d_Model_run_154 (by decide) (fun h154 => ?_) (fun h154 => ?_)
            · exact absurd h154 (by decide)
            · refine v_iconst (pc := 157) (v := 0) C d_Model_run_157 (by decide) ?_
              refine v_goto (pc := 158) (tgt := 165) C d_Model_run_158 (by decide) ?_
              refine v_istore_n (pc := 165) C d_Model_run_165 rfl (by decide) ?_
              refine v_iconst (pc := 166) (v := 0) C d_Model_run_166 (by decide) ?_
              refine v_istore_n (pc := 167) C d_Model_run_167 rfl (by decide) ?_
              refine v_iload_n (pc := 168) C d_Model_run_168 rfl rfl ?_
              refine v_iload_n (pc := 169) C d_Model_run_169 rfl rfl ?_
              refine v_icmp_ge (pc := 170) (tgt := 194) C d_Model_run_170 (by decide) (fun h170 => ?_) (fun h170 => ?_)
              · refine v_iload_n (pc := 194) C d_Model_run_194 rfl rfl ?_
                refine v_if_ne (pc := 195) (tgt := 208) C d_Model_run_195 (by decide) (fun h195 => ?_) (fun h195 => ?_)
                · refine v_goto (pc := 208) (tgt := 126) C d_Model_run_208 (by decide) ?_
                  refine v_iload_n (pc := 126) C d_Model_run_126 rfl rfl ?_
                  refine v_if_ne (pc := 127) (tgt := 211) C d_Model_run_127 (by decide) (fun h127 => ?_) (fun h127 => ?_)
                  · exact fin _ _ _ _ (by rw [hk, hk1, if_pos eo])
                  · exact absurd h127 (by decide)
                · exact absurd h195 (by decide)
              · exact absurd (by decide) h170
          · rw [if_neg eo]
            obtain ⟨s0, hs0, e8, hts, hgr⟩ := hrest eo
            have hn8 : nn ((gTick0 tc wc τ) 20 0 8) = s0 := by rw [e8]; exact nI_clamp (by omega)
            obtain ⟨i0, hi0⟩ : ∃ i0, i0 = i := ⟨_, rfl⟩
            rw [← hi0] at hi hgr
            have tl : ∀ k2 i, i + k2 = s0 → ∀ υ : ty_St, υ = gTurns (gTick0 tc wc τ) i → ty_V cnM p l e (rmL 6) s m args below meth c D ad cA (ty_Gd cnM ad s) 4 (MQ below (ty_Q cnM D ad cA (fun r σ' => r = some (.inl ((gFinish (gTicks tc wc 150 (gBoot σ tc)) tc sc) 20 0 3)) ∧ σ' = gFinish (gTicks tc wc 150 (gBoot σ tc)) tc sc) (ty_A cnM ad)) args s 0 0 (ty_A cnM ad)) υ [some (.inr (20, 0)), some (.inl 0), some (.inl (nI s0)), some (.inl (nI i))] 168 [] := by
              intro k2
              induction k2 with
              | zero =>
                intro i hi υ hυ
                have hb := (rfl : nI s0 = nI s0)
                refine v_iload_n (pc := 168) C d_Model_run_168 rfl rfl ?_
                refine v_iload_n (pc := 169) C d_Model_run_169 rfl rfl ?_
                refine v_icmp_ge (pc := 170) (tgt := 194) C d_Model_run_170 (by decide) (fun h170 => ?_) (fun h170 => ?_)
                · refine v_iload_n (pc := 194) C d_Model_run_194 rfl rfl ?_
                  refine v_if_ne (pc := 195) (tgt := 208) C d_Model_run_195 (by decide) (fun h195 => ?_) (fun h195 => ?_)
                  · exact absurd rfl h195
                  · refine v_aload_n (pc := 198) C d_Model_run_198 rfl rfl ?_
                    refine v_dup (pc := 199) C d_Model_run_199 ?_
                    refine gf_Model_117 (pc := 200) C d_Model_run_200 ?_
                    refine v_iconst (pc := 203) (v := 1) C d_Model_run_203 (by decide) ?_
                    refine v_iadd (pc := 204) C d_Model_run_204 ?_
                    refine pf_Model_117 (pc := 205) C d_Model_run_205 ?_
                    refine v_goto (pc := 208) (tgt := 126) C d_Model_run_208 (by decide) ?_
                    refine v_forget C 2 ?_
                    refine v_forget C 3 ?_
                    have e1 : ty_up υ 20 0 3 (υ 20 0 3 + 1) = gTick1 (gTick0 tc wc τ) := by unfold gTick1; rw [hn8, hυ, show i = s0 by omega]
                    rw [e1]
                    exact ih (i0 + 1) (by omega) _ hgr (by rw [hk, hk1, if_neg eo])
                · exact absurd (by rw [hb]; exact nI_le (by omega) (by omega)) h170
              | succ k2 ih2 =>
                intro i hi υ hυ
                have hb := (rfl : nI s0 = nI s0)
                refine v_iload_n (pc := 168) C d_Model_run_168 rfl rfl ?_
                refine v_iload_n (pc := 169) C d_Model_run_169 rfl rfl ?_
                refine v_icmp_ge (pc := 170) (tgt := 194) C d_Model_run_170 (by decide) (fun h170 => ?_) (fun h170 => ?_)
                · exact absurd h170 (by rw [hb]; exact nI_ge (by omega) (by omega))
                · refine v_aload_n (pc := 173) C d_Model_run_173 rfl rfl ?_
                  refine gf_Model_81 (pc := 174) C d_Model_run_174 ?_
                  refine v_iload_n (pc := 177) C d_Model_run_177 rfl rfl ?_
                  refine v_ialoadK (pc := 178) C rfl rfl (rfl) (by omega) (by decide) d_Model_run_178 ?_
                  refine v_iconst (pc := 179) (v := 5) C d_Model_run_179 (by decide) ?_
                  refine v_icmp_eq (pc := 180) (tgt := 188) C d_Model_run_180 (by decide) (fun h180 => ?_) (fun h180 => ?_)
                  · refine v_iinc (pc := 188) C d_Model_run_188 rfl (show _ + Int32.ofInt 1 = _ + 1 from rfl) (by decide) ?_
                    refine v_goto (pc := 191) (tgt := 168) C d_Model_run_191 (by decide) ?_
                    rw [nI_1 i]
                    refine ih2 (i + 1) (by omega) _ ?_
                    unfold gTurns
                    rw [← hυ]
                    rw [if_pos h180]
                  · obtain ⟨t1, t2, ⟨s3, hs3, t3⟩, t4, t5⟩ := hts i (by omega) (by rw [← hυ]; exact h180)
                    rw [← hυ] at t1 t2 t3 t4 t5
                    refine v_aload_n (pc := 183) C d_Model_run_183 rfl rfl ?_
                    refine v_iload_n (pc := 184) C d_Model_run_184 rfl rfl ?_
                    refine cl_Model_192 (pc := 185) C (m_turn l hJ υ i (by omega) t1 t2 s3 hs3 t3 t4 t5) ⟨rfl, rfl, by decide, by decide⟩ rfl rfl (Nat.le_of_ble_eq_true rfl) d_Model_run_185 (fun r σ' hq => ?_)
                    rw [hq.1, hq.2]
                    refine v_iinc (pc := 188) C d_Model_run_188 rfl (show _ + Int32.ofInt 1 = _ + 1 from rfl) (by decide) ?_
                    refine v_goto (pc := 191) (tgt := 168) C d_Model_run_191 (by decide) ?_
                    rw [nI_1 i]
                    refine ih2 (i + 1) (by omega) _ ?_
                    unfold gTurns
                    rw [← hυ]
                    rw [if_neg h180]
            refine v_istore_n (pc := 152) C d_Model_run_152 rfl (by decide) ?_
            refine v_iload_n (pc := 153) C d_Model_run_153 rfl rfl ?_
            refine v_if_eq (pc := 154) (tgt := 161) C d_Model_run_154 (by decide) (fun h154 => ?_) (fun h154 => ?_)
            · refine v_aload_n (pc := 161) C d_Model_run_161 rfl rfl ?_
              refine gf_Model_131 (pc := 162) C d_Model_run_162 ?_
              rw [e8]
              refine v_istore_n (pc := 165) C d_Model_run_165 rfl (by decide) ?_
              refine v_iconst (pc := 166) (v := 0) C d_Model_run_166 (by decide) ?_
              refine v_istore_n (pc := 167) C d_Model_run_167 rfl (by decide) ?_
              exact tl s0 0 (by omega) _ rfl
            · exact absurd rfl h154
  have tf : ∀ k i, i + k = 4 → ∀ υ : ty_St, υ = gTakesF (gInits (gGs (gReset σ) 10) tc) i → ty_V cnM p l e (rmL 6) s m args below meth c D ad cA (ty_Gd cnM ad s) 4 (MQ below (ty_Q cnM D ad cA (fun r σ' => r = some (.inl ((gFinish (gTicks tc wc 150 (gBoot σ tc)) tc sc) 20 0 3)) ∧ σ' = gFinish (gTicks tc wc 150 (gBoot σ tc)) tc sc) (ty_A cnM ad)) args s 0 0 (ty_A cnM ad)) υ [some (.inr (20, 0)), some (.inl (nI i)), none, none] 106 [] := by
    intro  k
    induction k with
    | zero =>
      intro i hi υ hυ
      have hb := (show (4 : Int32) = nI 4 from rfl)
      refine v_iload_n (pc := 106) C d_Model_run_106 rfl rfl ?_
      refine v_iconst (pc := 107) (v := 4) C d_Model_run_107 (by decide) ?_
      refine v_icmp_ge (pc := 108) (tgt := 124) C d_Model_run_108 (by decide) (fun h108 => ?_) (fun h108 => ?_)
      · refine v_iconst (pc := 124) (v := 0) C d_Model_run_124 (by decide) ?_
        refine v_istore_n (pc := 125) C d_Model_run_125 rfl (by decide) ?_
        refine tk 150 0 (by omega) υ ?_ ?_
        · rw [hυ, show i = 4 by omega]; exact hg
        · rw [hυ, show i = 4 by omega]; rfl
      · exact absurd (by rw [hb]; exact nI_le (by omega) (by omega)) h108
    | succ k ih =>
      intro i hi υ hυ
      have hb := (show (4 : Int32) = nI 4 from rfl)
      refine v_iload_n (pc := 106) C d_Model_run_106 rfl rfl ?_
      refine v_iconst (pc := 107) (v := 4) C d_Model_run_107 (by decide) ?_
      refine v_icmp_ge (pc := 108) (tgt := 124) C d_Model_run_108 (by decide) (fun h108 => ?_) (fun h108 => ?_)
      · exact absurd h108 (by rw [hb]; exact nI_ge (by omega) (by omega))
      · refine v_aload_n (pc := 111) C d_Model_run_111 rfl rfl ?_
        refine gf_Model_66 (pc := 112) C d_Model_run_112 ?_
        refine v_iload_n (pc := 115) C d_Model_run_115 rfl rfl ?_
        refine v_iconst (pc := 116) (v := (-1)) C d_Model_run_116 (by decide) ?_
        refine v_iastoreK (pc := 117) C rfl rfl (rfl) (by omega) (by decide) d_Model_run_117 ?_
        refine v_iinc (pc := 118) C d_Model_run_118 rfl (show _ + Int32.ofInt 1 = _ + 1 from rfl) (by decide) ?_
        refine v_goto (pc := 121) (tgt := 106) C d_Model_run_121 (by decide) ?_
        rw [nI_1 i]
        exact ih (i + 1) (by omega) _ (by rw [hυ]; rfl)
  have il : ∀ k i, i + k = tc → ∀ υ : ty_St, υ = gInits (gGs (gReset σ) 10) i → ty_V cnM p l e (rmL 6) s m args below meth c D ad cA (ty_Gd cnM ad s) 4 (MQ below (ty_Q cnM D ad cA (fun r σ' => r = some (.inl ((gFinish (gTicks tc wc 150 (gBoot σ tc)) tc sc) 20 0 3)) ∧ σ' = gFinish (gTicks tc wc 150 (gBoot σ tc)) tc sc) (ty_A cnM ad)) args s 0 0 (ty_A cnM ad)) υ [some (.inr (20, 0)), some (.inl (nI i)), none, none] 41 [] := by
    intro  k
    induction k with
    | zero =>
      intro i hi υ hυ
      have hb := (show υ 20 0 1 = nI tc by rw [hυ, gInits_a (by decide), gGs_a (by decide)]; exact hc)
      refine v_iload_n (pc := 41) C d_Model_run_41 rfl rfl ?_
      refine v_aload_n (pc := 42) C d_Model_run_42 rfl rfl ?_
      refine gf_Model_114 (pc := 43) C d_Model_run_43 ?_
      refine v_icmp_ge (pc := 46) (tgt := 104) C d_Model_run_46 (by decide) (fun h46 => ?_) (fun h46 => ?_)
      · refine v_iconst (pc := 104) (v := 0) C d_Model_run_104 (by decide) ?_
        refine v_istore_n (pc := 105) C d_Model_run_105 rfl (by decide) ?_
        exact tf 4 0 (by omega) _ (by rw [hυ, show i = tc by omega]; rfl)
      · exact absurd (by rw [hb]; exact nI_le (by omega) (by omega)) h46
    | succ k ih =>
      intro i hi υ hυ
      have hb := (show υ 20 0 1 = nI tc by rw [hυ, gInits_a (by decide), gGs_a (by decide)]; exact hc)
      refine v_iload_n (pc := 41) C d_Model_run_41 rfl rfl ?_
      refine v_aload_n (pc := 42) C d_Model_run_42 rfl rfl ?_
      refine gf_Model_114 (pc := 43) C d_Model_run_43 ?_
      refine v_icmp_ge (pc := 46) (tgt := 104) C d_Model_run_46 (by decide) (fun h46 => ?_) (fun h46 => ?_)
      · exact absurd h46 (by rw [hb]; exact nI_ge (by omega) (by omega))
      · refine v_aload_n (pc := 49) C d_Model_run_49 rfl rfl ?_
        refine gf_Model_38 (pc := 50) C d_Model_run_50 ?_
        refine v_iload_n (pc := 53) C d_Model_run_53 rfl rfl ?_
        refine v_iconst (pc := 54) (v := 0) C d_Model_run_54 (by decide) ?_
        refine v_iastoreK (pc := 55) C rfl rfl (rfl) (by omega) (by decide) d_Model_run_55 ?_
        refine v_aload_n (pc := 56) C d_Model_run_56 rfl rfl ?_
        refine gf_Model_41 (pc := 57) C d_Model_run_57 ?_
        refine v_iload_n (pc := 60) C d_Model_run_60 rfl rfl ?_
        refine v_iconst (pc := 61) (v := (-1)) C d_Model_run_61 (by decide) ?_
        refine v_iastoreK (pc := 62) C rfl rfl (rfl) (by omega) (by decide) d_Model_run_62 ?_
        refine v_aload_n (pc := 63) C d_Model_run_63 rfl rfl ?_
        refine gf_Model_44 (pc := 64) C d_Model_run_64 ?_
        refine v_iload_n (pc := 67) C d_Model_run_67 rfl rfl ?_
        refine v_iconst (pc := 68) (v := (-1)) C d_Model_run_68 (by decide) ?_
        refine v_iastoreK (pc := 69) C rfl rfl (rfl) (by omega) (by decide) d_Model_run_69 ?_
        refine v_aload_n (pc := 70) C d_Model_run_70 rfl rfl ?_
        refine gf_Model_47 (pc := 71) C d_Model_run_71 ?_
        refine v_iload_n (pc := 74) C d_Model_run_74 rfl rfl ?_
        refine v_iconst (pc := 75) (v := (-1)) C d_Model_run_75 (by decide) ?_
        refine v_iastoreK (pc := 76) C rfl rfl (rfl) (by omega) (by decide) d_Model_run_76 ?_
        refine v_aload_n (pc := 77) C d_Model_run_77 rfl rfl ?_
        refine gf_Model_50 (pc := 78) C d_Model_run_78 ?_
        refine v_iload_n (pc := 81) C d_Model_run_81 rfl rfl ?_
        refine v_iconst (pc := 82) (v := (-1)) C d_Model_run_82 (by decide) ?_
        refine v_iastoreK (pc := 83) C rfl rfl (rfl) (by omega) (by decide) d_Model_run_83 ?_
        refine v_aload_n (pc := 84) C d_Model_run_84 rfl rfl ?_
        refine gf_Model_62 (pc := 85) C d_Model_run_85 ?_
        refine v_iload_n (pc := 88) C d_Model_run_88 rfl rfl ?_
        refine v_iconst (pc := 89) (v := 0) C d_Model_run_89 (by decide) ?_
        refine v_bastoreK (pc := 90) C rfl rfl (rfl) (by omega) (by decide) rfl d_Model_run_90 ?_
        refine v_aload_n (pc := 91) C d_Model_run_91 rfl rfl ?_
        refine gf_Model_59 (pc := 92) C d_Model_run_92 ?_
        refine v_iload_n (pc := 95) C d_Model_run_95 rfl rfl ?_
        refine v_iconst (pc := 96) (v := 0) C d_Model_run_96 (by decide) ?_
        refine v_iastoreK (pc := 97) C rfl rfl (rfl) (by omega) (by decide) d_Model_run_97 ?_
        refine v_iinc (pc := 98) C d_Model_run_98 rfl (show _ + Int32.ofInt 1 = _ + 1 from rfl) (by decide) ?_
        refine v_goto (pc := 101) (tgt := 41) C d_Model_run_101 (by decide) ?_
        rw [nI_1 i]
        exact ih (i + 1) (by omega) _ (by rw [hυ]; rfl)
  refine v_aload_n (pc := 0) C d_Model_run_0 rfl rfl ?_
  refine v_iconst (pc := 1) (v := 0) C d_Model_run_1 (by decide) ?_
  refine pf_Model_99 (pc := 2) C d_Model_run_2 ?_
  refine v_aload_n (pc := 5) C d_Model_run_5 rfl rfl ?_
  refine v_iconst (pc := 6) (v := 0) C d_Model_run_6 (by decide) ?_
  refine pf_Model_117 (pc := 7) C d_Model_run_7 ?_
  refine v_aload_n (pc := 10) C d_Model_run_10 rfl rfl ?_
  refine v_iconst (pc := 11) (v := 0) C d_Model_run_11 (by decide) ?_
  refine pf_Model_150 (pc := 12) C d_Model_run_12 ?_
  refine v_aload_n (pc := 15) C d_Model_run_15 rfl rfl ?_
  refine v_iconst (pc := 16) (v := 0) C d_Model_run_16 (by decide) ?_
  refine pf_Model_120 (pc := 17) C d_Model_run_17 ?_
  refine v_aload_n (pc := 20) C d_Model_run_20 rfl rfl ?_
  refine v_iconst (pc := 21) (v := 0) C d_Model_run_21 (by decide) ?_
  refine pf_Model_176 (pc := 22) C d_Model_run_22 ?_
  refine v_aload_n (pc := 25) C d_Model_run_25 rfl rfl ?_
  refine v_iconst (pc := 26) (v := 0) C d_Model_run_26 (by decide) ?_
  refine pf_Model_173 (pc := 27) C d_Model_run_27 ?_
  refine v_aload_n (pc := 30) C d_Model_run_30 rfl rfl ?_
  refine v_iconst (pc := 31) (v := 0) C d_Model_run_31 (by decide) ?_
  refine pf_Model_131 (pc := 32) C d_Model_run_32 ?_
  rw [show ty_up (ty_up (ty_up (ty_up (ty_up (ty_up (ty_up σ 20 0 0 0) 20 0 3 0) 20 0 4 0) 20 0 5 0) 20 0 6 0) 20 0 7 0) 20 0 8 0 = gReset σ from rfl]
  refine v_aload_n (pc := 35) C d_Model_run_35 rfl rfl ?_
  refine cl_Model_179 (pc := 36) C (m_guards l hJ (gReset σ) hz) ⟨rfl, rfl, by decide, by decide⟩ rfl rfl (Nat.le_of_ble_eq_true rfl) d_Model_run_36 (fun r σ' hq => ?_)
  rw [hq.1, hq.2]
  refine v_iconst (pc := 39) (v := 0) C d_Model_run_39 (by decide) ?_
  refine v_istore_n (pc := 40) C d_Model_run_40 rfl (by decide) ?_
  exact il tc 0 (by omega) _ rfl
