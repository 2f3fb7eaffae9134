/-- between two calls of the script -/
def lw_J (D : va_G) (cA : Nat → ClassId) (cL : ClassId) (n : Nat) (s : State) (H : Heap) (locs : List Loc) : Prop := ∃ tc wc σ τ f, eI tc wc σ τ ∧ lw_W D cA cL n s σ τ f H locs
theorem pr_sizes {tc wc : Nat} {σ τ : ty_St} (h : eI tc wc σ τ) : ∀ q, q < 10 → ∃ k, k ≤ 10 ∧ σ 2 q 3 = nI k := fun q hq => by
  obtain ⟨k, p1, p2, p3, -⟩ := h.2.2.2.2.1.2.1 q hq
  exact ⟨k, p1, p2⟩
theorem pr_sizesM {tc wc : Nat} {σ τ : ty_St} (h : eI tc wc σ τ) : ∀ q, q < 10 → ∃ k, k ≤ 10 ∧ τ 23 0 q = nI k := fun q hq => by
  obtain ⟨k, p1, p2, p3, -⟩ := h.2.2.2.2.1.2.1 q hq
  exact ⟨k, p1, p3⟩
set_option maxRecDepth 100000 in
set_option maxHeartbeats 4000000 in
theorem la_action {p : Program} {l : Launch} {e : Env} {s : State} {m : MethodId} {args : Array Value} {below : List Frame} {meth : Method} {c : Code} {cells slots : Nat} {Q : State → Prop} {D : va_G} {cA : Nat → ClassId} {cL : ClassId} {n b L : Nat} {xs : Nat → Int32} (C : LX p l s m args c D cA cL n b L xs) (hcs : cells + 1 ≤ 605891 ∧ slots + 6 ≤ 7278430) (j : Nat) (hj : j + 5 ≤ L)
    (kk : ∀ (H : Heap) (locs : List Loc) (ls : Array Slot), lw_J D cA cL n s H locs → lv_has ls 7 [(4, .int (nI j)), (3, .ref (n + 143)), (2, .ref (n + 114)), (1, .ref n), (0, .ref b)] → W p l e room_1 s m args below meth c H locs (cells + 1) (slots + 6) Q (F0 m 561 ls [])) (H : Heap) (locs : List Loc) (ls : Array Slot) (hJ : lw_J D cA cL n s H locs) (hl : lv_has ls 7 [(4, .int (nI j)), (3, .ref (n + 143)), (2, .ref (n + 114)), (1, .ref n), (0, .ref b)]) : W p l e room_1 s m args below meth c H locs cells slots Q (F0 m 84 ls []) := by
  obtain ⟨tc, wc, σ, τ, f, h, hw⟩ := hJ
  refine lv_aload_n C.1 C.2.1 d_law_law_84 rfl (lv_at hl 3 rfl) ?_
  refine lw_arg (pc := 85) (k0 := 4) (k4 := 0) C hl rfl rfl hw.2.2.2 1 (by omega) (by decide) d_law_law_85 d_law_law_86 d_law_law_88 d_law_law_89 d_law_law_90 ?_
  refine lw_arg (pc := 91) (k0 := 4) (k4 := 0) C hl rfl rfl hw.2.2.2 2 (by omega) (by decide) d_law_law_91 d_law_law_92 d_law_law_94 d_law_law_95 d_law_law_96 ?_
  refine lw_arg (pc := 97) (k0 := 4) (k4 := 0) C hl rfl rfl hw.2.2.2 3 (by omega) (by decide) d_law_law_97 d_law_law_98 d_law_law_100 d_law_law_101 d_law_law_102 ?_
  refine lv_aload_n C.1 C.2.1 d_law_law_103 rfl (lv_at hl 1 rfl) ?_
  refine lw_wrap (k := 5) (As := [.ref n, .int (xs (j + 1)), .int (xs (j + 2)), .int (xs (j + 3)), .ref (n + 143)]) (yy := yAction σ (xs (j + 1)) (xs (j + 2)) (xs (j + 3))) C hl.1 hw (wr_action l C.2.2.2.2.2.2.2.2.2.2.2 adX_J cL (n + 143) lw_oC f σ (pr_sizes h) (xs (j + 1)) (xs (j + 2)) (xs (j + 3))) (by decide) ⟨ml_law_42, wt_law_action, wn_law, wc_law_action⟩ ⟨by decide +kernel, by decide +kernel, by decide +kernel⟩ rfl rfl hcs d_law_law_104 (fun H1 locs1 f1 hf1 hw1 => ?_)
  refine lv_istore C.1 C.2.1 d_law_law_107 hl (by decide) rfl (fun ls1 hl1 => ?_)
  refine lv_aload_n C.1 C.2.1 d_law_law_109 rfl (lv_at hl1 3 rfl) ?_
  refine lw_arg (pc := 110) (k0 := 5) (k4 := 1) C hl1 rfl rfl hw1.2.2.2 1 (by omega) (by decide) d_law_law_110 d_law_law_111 d_law_law_113 d_law_law_114 d_law_law_115 ?_
  refine lw_arg (pc := 116) (k0 := 5) (k4 := 1) C hl1 rfl rfl hw1.2.2.2 2 (by omega) (by decide) d_law_law_116 d_law_law_117 d_law_law_119 d_law_law_120 d_law_law_121 ?_
  refine lw_arg (pc := 122) (k0 := 5) (k4 := 1) C hl1 rfl rfl hw1.2.2.2 3 (by omega) (by decide) d_law_law_122 d_law_law_123 d_law_law_125 d_law_law_126 d_law_law_127 ?_
  refine lw_mod (k := 3) (As := [(xs (j + 1)), (xs (j + 2)), (xs (j + 3))]) (rest := []) C hl1.1 hw1 (m_action l adX_JM τ (pr_sizesM h) (xs (j + 1)) (xs (j + 2)) (xs (j + 3))) rfl ⟨rfl, rfl, by decide, by decide⟩ ⟨ml_law_47, wi_Model_action, ws_Model_action, wn_Model, wc_Model_action⟩ ⟨by decide +kernel, by decide +kernel, by decide +kernel⟩ rfl rfl (Nat.zero_le _) hcs d_law_law_128 (fun r τ' H2 locs2 hP hw2 => ?_)
  obtain ⟨v, rfl, t0, tv, hI⟩ := eAction h (xs (j + 1)) (xs (j + 2)) (xs (j + 3)) hP
  show W p l e room_1 s m args below meth c H2 locs2 (cells + 1) (slots + 6) Q (F0 m 131 ls1 [.int v])
  refine lv_istore C.1 C.2.1 d_law_law_131 hl1 (by decide) rfl (fun ls2 hl2 => ?_)
  refine lw_tail (pc := 133) (off := 400) C hw2 hl2 t0 (fun z => by rw [hf1 z, tv z]) hcs d_law_law_133 d_law_law_134 d_law_law_137 d_law_law_139 d_law_law_144 d_law_law_146 d_law_law_149 d_law_law_150 d_law_law_151 d_law_law_152 d_law_law_154 d_law_law_155 d_law_law_156 d_law_law_161 (by decide) (fun H3 locs3 hw3 => ?_)
  exact kk H3 locs3 ls2 ⟨_, _, _, _, _, hI, hw3⟩ (lv_sub hl2 [2, 3, 4, 5, 6] rfl)
set_option maxRecDepth 100000 in
set_option maxHeartbeats 4000000 in
theorem la_test {p : Program} {l : Launch} {e : Env} {s : State} {m : MethodId} {args : Array Value} {below : List Frame} {meth : Method} {c : Code} {cells slots : Nat} {Q : State → Prop} {D : va_G} {cA : Nat → ClassId} {cL : ClassId} {n b L : Nat} {xs : Nat → Int32} (C : LX p l s m args c D cA cL n b L xs) (hcs : cells + 1 ≤ 605891 ∧ slots + 6 ≤ 7278430) (j : Nat) (hj : j + 5 ≤ L)
    (kk : ∀ (H : Heap) (locs : List Loc) (ls : Array Slot), lw_J D cA cL n s H locs → lv_has ls 7 [(4, .int (nI j)), (3, .ref (n + 143)), (2, .ref (n + 114)), (1, .ref n), (0, .ref b)] → W p l e room_1 s m args below meth c H locs (cells + 1) (slots + 6) Q (F0 m 561 ls [])) (H : Heap) (locs : List Loc) (ls : Array Slot) (hJ : lw_J D cA cL n s H locs) (hl : lv_has ls 7 [(4, .int (nI j)), (3, .ref (n + 143)), (2, .ref (n + 114)), (1, .ref n), (0, .ref b)]) : W p l e room_1 s m args below meth c H locs cells slots Q (F0 m 164 ls []) := by
  obtain ⟨tc, wc, σ, τ, f, h, hw⟩ := hJ
  refine lv_aload_n C.1 C.2.1 d_law_law_164 rfl (lv_at hl 3 rfl) ?_
  refine lw_arg (pc := 165) (k0 := 4) (k4 := 0) C hl rfl rfl hw.2.2.2 1 (by omega) (by decide) d_law_law_165 d_law_law_166 d_law_law_168 d_law_law_169 d_law_law_170 ?_
  refine lw_arg (pc := 171) (k0 := 4) (k4 := 0) C hl rfl rfl hw.2.2.2 2 (by omega) (by decide) d_law_law_171 d_law_law_172 d_law_law_174 d_law_law_175 d_law_law_176 ?_
  refine lw_arg (pc := 177) (k0 := 4) (k4 := 0) C hl rfl rfl hw.2.2.2 3 (by omega) (by decide) d_law_law_177 d_law_law_178 d_law_law_180 d_law_law_181 d_law_law_182 ?_
  refine lw_arg (pc := 183) (k0 := 4) (k4 := 0) C hl rfl rfl hw.2.2.2 4 (by omega) (by decide) d_law_law_183 d_law_law_184 d_law_law_186 d_law_law_187 d_law_law_188 ?_
  refine lv_aload_n C.1 C.2.1 d_law_law_189 rfl (lv_at hl 1 rfl) ?_
  refine lw_wrap (k := 6) (As := [.ref n, .int (xs (j + 1)), .int (xs (j + 2)), .int (xs (j + 3)), .int (xs (j + 4)), .ref (n + 143)]) (yy := yTest σ (xs (j + 1)) (xs (j + 2)) (xs (j + 3)) (xs (j + 4))) C hl.1 hw (wr_test l C.2.2.2.2.2.2.2.2.2.2.2 adX_J cL (n + 143) lw_oC f σ tc h.1.2.2.1 h.2.2.2.2.1.1.1 (xs (j + 1)) (xs (j + 2)) (xs (j + 3)) (xs (j + 4))) (by decide) ⟨ml_law_52, wt_law_test, wn_law, wc_law_test⟩ ⟨by decide +kernel, by decide +kernel, by decide +kernel⟩ rfl rfl hcs d_law_law_190 (fun H1 locs1 f1 hf1 hw1 => ?_)
  refine lv_istore C.1 C.2.1 d_law_law_193 hl (by decide) rfl (fun ls1 hl1 => ?_)
  refine lv_aload_n C.1 C.2.1 d_law_law_195 rfl (lv_at hl1 3 rfl) ?_
  refine lw_arg (pc := 196) (k0 := 5) (k4 := 1) C hl1 rfl rfl hw1.2.2.2 1 (by omega) (by decide) d_law_law_196 d_law_law_197 d_law_law_199 d_law_law_200 d_law_law_201 ?_
  refine lw_arg (pc := 202) (k0 := 5) (k4 := 1) C hl1 rfl rfl hw1.2.2.2 2 (by omega) (by decide) d_law_law_202 d_law_law_203 d_law_law_205 d_law_law_206 d_law_law_207 ?_
  refine lw_arg (pc := 208) (k0 := 5) (k4 := 1) C hl1 rfl rfl hw1.2.2.2 3 (by omega) (by decide) d_law_law_208 d_law_law_209 d_law_law_211 d_law_law_212 d_law_law_213 ?_
  refine lw_arg (pc := 214) (k0 := 5) (k4 := 1) C hl1 rfl rfl hw1.2.2.2 4 (by omega) (by decide) d_law_law_214 d_law_law_215 d_law_law_217 d_law_law_218 d_law_law_219 ?_
  refine lw_mod (k := 4) (As := [(xs (j + 1)), (xs (j + 2)), (xs (j + 3)), (xs (j + 4))]) (rest := []) C hl1.1 hw1 (m_test l adX_JM τ tc h.1.2.2.1 h.1.1 (xs (j + 1)) (xs (j + 2)) (xs (j + 3)) (xs (j + 4))) rfl ⟨rfl, rfl, by decide, by decide⟩ ⟨ml_law_55, wi_Model_test, ws_Model_test, wn_Model, wc_Model_test⟩ ⟨by decide +kernel, by decide +kernel, by decide +kernel⟩ rfl rfl (Nat.zero_le _) hcs d_law_law_220 (fun r τ' H2 locs2 hP hw2 => ?_)
  obtain ⟨tc', hA⟩ := eTest h (xs (j + 1)) (xs (j + 2)) (xs (j + 3)) (xs (j + 4)) hP
  obtain ⟨v, rfl, t0, tv, hI⟩ := hA
  show W p l e room_1 s m args below meth c H2 locs2 (cells + 1) (slots + 6) Q (F0 m 223 ls1 [.int v])
  refine lv_istore C.1 C.2.1 d_law_law_223 hl1 (by decide) rfl (fun ls2 hl2 => ?_)
  refine lw_tail (pc := 225) (off := 308) C hw2 hl2 t0 (fun z => by rw [hf1 z, tv z]) hcs d_law_law_225 d_law_law_226 d_law_law_229 d_law_law_231 d_law_law_236 d_law_law_238 d_law_law_241 d_law_law_242 d_law_law_243 d_law_law_244 d_law_law_246 d_law_law_247 d_law_law_248 d_law_law_253 (by decide) (fun H3 locs3 hw3 => ?_)
  exact kk H3 locs3 ls2 ⟨_, _, _, _, _, hI, hw3⟩ (lv_sub hl2 [2, 3, 4, 5, 6] rfl)
set_option maxRecDepth 100000 in
set_option maxHeartbeats 4000000 in
theorem la_workers {p : Program} {l : Launch} {e : Env} {s : State} {m : MethodId} {args : Array Value} {below : List Frame} {meth : Method} {c : Code} {cells slots : Nat} {Q : State → Prop} {D : va_G} {cA : Nat → ClassId} {cL : ClassId} {n b L : Nat} {xs : Nat → Int32} (C : LX p l s m args c D cA cL n b L xs) (hcs : cells + 1 ≤ 605891 ∧ slots + 6 ≤ 7278430) (j : Nat) (hj : j + 5 ≤ L)
    (kk : ∀ (H : Heap) (locs : List Loc) (ls : Array Slot), lw_J D cA cL n s H locs → lv_has ls 7 [(4, .int (nI j)), (3, .ref (n + 143)), (2, .ref (n + 114)), (1, .ref n), (0, .ref b)] → W p l e room_1 s m args below meth c H locs (cells + 1) (slots + 6) Q (F0 m 561 ls [])) (H : Heap) (locs : List Loc) (ls : Array Slot) (hJ : lw_J D cA cL n s H locs) (hl : lv_has ls 7 [(4, .int (nI j)), (3, .ref (n + 143)), (2, .ref (n + 114)), (1, .ref n), (0, .ref b)]) : W p l e room_1 s m args below meth c H locs cells slots Q (F0 m 256 ls []) := by
  obtain ⟨tc, wc, σ, τ, f, h, hw⟩ := hJ
  refine lv_aload_n C.1 C.2.1 d_law_law_256 rfl (lv_at hl 3 rfl) ?_
  refine lw_arg (pc := 257) (k0 := 4) (k4 := 0) C hl rfl rfl hw.2.2.2 1 (by omega) (by decide) d_law_law_257 d_law_law_258 d_law_law_260 d_law_law_261 d_law_law_262 ?_
  refine lv_aload_n C.1 C.2.1 d_law_law_263 rfl (lv_at hl 1 rfl) ?_
  refine lw_wrap (k := 3) (As := [.ref n, .int (xs (j + 1)), .ref (n + 143)]) (yy := yWorkers σ (xs (j + 1))) C hl.1 hw (wr_workers l C.2.2.2.2.2.2.2.2.2.2.2 adX_J cL (n + 143) lw_oC f σ  (xs (j + 1))) (by decide) ⟨ml_law_56, wt_law_workers, wn_law, wc_law_workers⟩ ⟨by decide +kernel, by decide +kernel, by decide +kernel⟩ rfl rfl hcs d_law_law_264 (fun H1 locs1 f1 hf1 hw1 => ?_)
  refine lv_istore C.1 C.2.1 d_law_law_267 hl (by decide) rfl (fun ls1 hl1 => ?_)
  refine lv_aload_n C.1 C.2.1 d_law_law_269 rfl (lv_at hl1 3 rfl) ?_
  refine lw_arg (pc := 270) (k0 := 5) (k4 := 1) C hl1 rfl rfl hw1.2.2.2 1 (by omega) (by decide) d_law_law_270 d_law_law_271 d_law_law_273 d_law_law_274 d_law_law_275 ?_
  refine lw_mod (k := 1) (As := [(xs (j + 1))]) (rest := []) C hl1.1 hw1 (m_workers l adX_JM τ  (xs (j + 1))) rfl ⟨rfl, rfl, by decide, by decide⟩ ⟨ml_law_59, wi_Model_workers, ws_Model_workers, wn_Model, wc_Model_workers⟩ ⟨by decide +kernel, by decide +kernel, by decide +kernel⟩ rfl rfl (Nat.zero_le _) hcs d_law_law_276 (fun r τ' H2 locs2 hP hw2 => ?_)
  obtain ⟨wc', hA⟩ := eWorkers h (xs (j + 1)) hP
  obtain ⟨v, rfl, t0, tv, hI⟩ := hA
  show W p l e room_1 s m args below meth c H2 locs2 (cells + 1) (slots + 6) Q (F0 m 279 ls1 [.int v])
  refine lv_istore C.1 C.2.1 d_law_law_279 hl1 (by decide) rfl (fun ls2 hl2 => ?_)
  refine lw_tail (pc := 281) (off := 252) C hw2 hl2 t0 (fun z => by rw [hf1 z, tv z]) hcs d_law_law_281 d_law_law_282 d_law_law_285 d_law_law_287 d_law_law_292 d_law_law_294 d_law_law_297 d_law_law_298 d_law_law_299 d_law_law_300 d_law_law_302 d_law_law_303 d_law_law_304 d_law_law_309 (by decide) (fun H3 locs3 hw3 => ?_)
  exact kk H3 locs3 ls2 ⟨_, _, _, _, _, hI, hw3⟩ (lv_sub hl2 [2, 3, 4, 5, 6] rfl)
set_option maxRecDepth 100000 in
set_option maxHeartbeats 4000000 in
theorem la_look {p : Program} {l : Launch} {e : Env} {s : State} {m : MethodId} {args : Array Value} {below : List Frame} {meth : Method} {c : Code} {cells slots : Nat} {Q : State → Prop} {D : va_G} {cA : Nat → ClassId} {cL : ClassId} {n b L : Nat} {xs : Nat → Int32} (C : LX p l s m args c D cA cL n b L xs) (hcs : cells + 1 ≤ 605891 ∧ slots + 6 ≤ 7278430) (j : Nat) (hj : j + 5 ≤ L)
    (kk : ∀ (H : Heap) (locs : List Loc) (ls : Array Slot), lw_J D cA cL n s H locs → lv_has ls 7 [(4, .int (nI j)), (3, .ref (n + 143)), (2, .ref (n + 114)), (1, .ref n), (0, .ref b)] → W p l e room_1 s m args below meth c H locs (cells + 1) (slots + 6) Q (F0 m 561 ls [])) (H : Heap) (locs : List Loc) (ls : Array Slot) (hJ : lw_J D cA cL n s H locs) (hl : lv_has ls 7 [(4, .int (nI j)), (3, .ref (n + 143)), (2, .ref (n + 114)), (1, .ref n), (0, .ref b)]) : W p l e room_1 s m args below meth c H locs cells slots Q (F0 m 325 ls []) := by
  obtain ⟨tc, wc, σ, τ, f, h, hw⟩ := hJ
  refine lv_aload_n C.1 C.2.1 d_law_law_325 rfl (lv_at hl 3 rfl) ?_
  refine lw_arg (pc := 326) (k0 := 4) (k4 := 0) C hl rfl rfl hw.2.2.2 1 (by omega) (by decide) d_law_law_326 d_law_law_327 d_law_law_329 d_law_law_330 d_law_law_331 ?_
  refine lw_arg (pc := 332) (k0 := 4) (k4 := 0) C hl rfl rfl hw.2.2.2 2 (by omega) (by decide) d_law_law_332 d_law_law_333 d_law_law_335 d_law_law_336 d_law_law_337 ?_
  refine lv_aload_n C.1 C.2.1 d_law_law_338 rfl (lv_at hl 1 rfl) ?_
  refine lw_wrap (k := 4) (As := [.ref n, .int (xs (j + 1)), .int (xs (j + 2)), .ref (n + 143)]) (yy := yLook σ (xs (j + 1)) (xs (j + 2))) C hl.1 hw (wr_look l C.2.2.2.2.2.2.2.2.2.2.2 adX_J cL (n + 143) lw_oC f σ tc h.1.2.2.1 h.2.2.2.2.1.1.1 (xs (j + 1)) (xs (j + 2))) (by decide) ⟨ml_law_64, wt_law_look, wn_law, wc_law_look⟩ ⟨by decide +kernel, by decide +kernel, by decide +kernel⟩ rfl rfl hcs d_law_law_339 (fun H1 locs1 f1 hf1 hw1 => ?_)
  refine lv_istore C.1 C.2.1 d_law_law_342 hl (by decide) rfl (fun ls1 hl1 => ?_)
  refine lv_aload_n C.1 C.2.1 d_law_law_344 rfl (lv_at hl1 3 rfl) ?_
  refine lw_arg (pc := 345) (k0 := 5) (k4 := 1) C hl1 rfl rfl hw1.2.2.2 1 (by omega) (by decide) d_law_law_345 d_law_law_346 d_law_law_348 d_law_law_349 d_law_law_350 ?_
  refine lw_arg (pc := 351) (k0 := 5) (k4 := 1) C hl1 rfl rfl hw1.2.2.2 2 (by omega) (by decide) d_law_law_351 d_law_law_352 d_law_law_354 d_law_law_355 d_law_law_356 ?_
  refine lw_mod (k := 2) (As := [(xs (j + 1)), (xs (j + 2))]) (rest := []) C hl1.1 hw1 (m_look l adX_JM τ tc h.1.2.2.1 h.1.1 (xs (j + 1)) (xs (j + 2))) rfl ⟨rfl, rfl, by decide, by decide⟩ ⟨ml_law_67, wi_Model_look, ws_Model_look, wn_Model, wc_Model_look⟩ ⟨by decide +kernel, by decide +kernel, by decide +kernel⟩ rfl rfl (Nat.zero_le _) hcs d_law_law_357 (fun r τ' H2 locs2 hP hw2 => ?_)
  obtain ⟨v, rfl, t0, tv, hI⟩ := eLook h (xs (j + 1)) (xs (j + 2)) hP
  show W p l e room_1 s m args below meth c H2 locs2 (cells + 1) (slots + 6) Q (F0 m 360 ls1 [.int v])
  refine lv_istore C.1 C.2.1 d_law_law_360 hl1 (by decide) rfl (fun ls2 hl2 => ?_)
  refine lw_tail (pc := 362) (off := 171) C hw2 hl2 t0 (fun z => by rw [hf1 z, tv z]) hcs d_law_law_362 d_law_law_363 d_law_law_366 d_law_law_368 d_law_law_373 d_law_law_375 d_law_law_378 d_law_law_379 d_law_law_380 d_law_law_381 d_law_law_383 d_law_law_384 d_law_law_385 d_law_law_390 (by decide) (fun H3 locs3 hw3 => ?_)
  exact kk H3 locs3 ls2 ⟨_, _, _, _, _, hI, hw3⟩ (lv_sub hl2 [2, 3, 4, 5, 6] rfl)
set_option maxRecDepth 100000 in
set_option maxHeartbeats 4000000 in
theorem la_note {p : Program} {l : Launch} {e : Env} {s : State} {m : MethodId} {args : Array Value} {below : List Frame} {meth : Method} {c : Code} {cells slots : Nat} {Q : State → Prop} {D : va_G} {cA : Nat → ClassId} {cL : ClassId} {n b L : Nat} {xs : Nat → Int32} (C : LX p l s m args c D cA cL n b L xs) (hcs : cells + 1 ≤ 605891 ∧ slots + 6 ≤ 7278430) (j : Nat) (hj : j + 5 ≤ L)
    (kk : ∀ (H : Heap) (locs : List Loc) (ls : Array Slot), lw_J D cA cL n s H locs → lv_has ls 7 [(4, .int (nI j)), (3, .ref (n + 143)), (2, .ref (n + 114)), (1, .ref n), (0, .ref b)] → W p l e room_1 s m args below meth c H locs (cells + 1) (slots + 6) Q (F0 m 561 ls [])) (H : Heap) (locs : List Loc) (ls : Array Slot) (hJ : lw_J D cA cL n s H locs) (hl : lv_has ls 7 [(4, .int (nI j)), (3, .ref (n + 143)), (2, .ref (n + 114)), (1, .ref n), (0, .ref b)]) : W p l e room_1 s m args below meth c H locs cells slots Q (F0 m 393 ls []) := by
  obtain ⟨tc, wc, σ, τ, f, h, hw⟩ := hJ
  obtain ⟨n4, hn4', e4'⟩ := h.2.1.2.2.2.2.2.1
  have e4 : τ 20 0 4 = nI n4 := h.2.1.1.symm.trans e4'
  have hn4 : n4 < 2 ^ 31 := by omega
  refine lv_aload_n C.1 C.2.1 d_law_law_393 rfl (lv_at hl 3 rfl) ?_
  refine lw_arg (pc := 394) (k0 := 4) (k4 := 0) C hl rfl rfl hw.2.2.2 1 (by omega) (by decide) d_law_law_394 d_law_law_395 d_law_law_397 d_law_law_398 d_law_law_399 ?_
  refine lv_aload_n C.1 C.2.1 d_law_law_400 rfl (lv_at hl 1 rfl) ?_
  refine lw_wrap (k := 3) (As := [.ref n, .int (xs (j + 1)), .ref (n + 143)]) (yy := yKept σ 0 (xs (j + 1))) C hl.1 hw (wr_note l C.2.2.2.2.2.2.2.2.2.2.2 adX_J cL (n + 143) lw_oC f σ  (xs (j + 1))) (by decide) ⟨ml_law_68, wt_law_note, wn_law, wc_law_note⟩ ⟨by decide +kernel, by decide +kernel, by decide +kernel⟩ rfl rfl hcs d_law_law_401 (fun H1 locs1 f1 hf1 hw1 => ?_)
  refine lv_istore C.1 C.2.1 d_law_law_404 hl (by decide) rfl (fun ls1 hl1 => ?_)
  refine lv_aload_n C.1 C.2.1 d_law_law_406 rfl (lv_at hl1 3 rfl) ?_
  refine lw_arg (pc := 407) (k0 := 5) (k4 := 1) C hl1 rfl rfl hw1.2.2.2 1 (by omega) (by decide) d_law_law_407 d_law_law_408 d_law_law_410 d_law_law_411 d_law_law_412 ?_
  refine lw_mod (k := 1) (As := [(xs (j + 1))]) (rest := []) C hl1.1 hw1 (m_note l adX_JM τ n4 hn4 e4 (xs (j + 1))) rfl ⟨rfl, rfl, by decide, by decide⟩ ⟨ml_law_70, wi_Model_note, ws_Model_note, wn_Model, wc_Model_note⟩ ⟨by decide +kernel, by decide +kernel, by decide +kernel⟩ rfl rfl (Nat.zero_le _) hcs d_law_law_413 (fun r τ' H2 locs2 hP hw2 => ?_)
  obtain ⟨v, rfl, t0, tv, hI⟩ := eNote h (xs (j + 1)) hP
  show W p l e room_1 s m args below meth c H2 locs2 (cells + 1) (slots + 6) Q (F0 m 416 ls1 [.int v])
  refine lv_istore C.1 C.2.1 d_law_law_416 hl1 (by decide) rfl (fun ls2 hl2 => ?_)
  refine lw_tail (pc := 418) (off := 115) C hw2 hl2 t0 (fun z => by rw [hf1 z, tv z]) hcs d_law_law_418 d_law_law_419 d_law_law_422 d_law_law_424 d_law_law_429 d_law_law_431 d_law_law_434 d_law_law_435 d_law_law_436 d_law_law_437 d_law_law_439 d_law_law_440 d_law_law_441 d_law_law_446 (by decide) (fun H3 locs3 hw3 => ?_)
  exact kk H3 locs3 ls2 ⟨_, _, _, _, _, hI, hw3⟩ (lv_sub hl2 [2, 3, 4, 5, 6] rfl)
set_option maxRecDepth 100000 in
set_option maxHeartbeats 4000000 in
theorem la_warning {p : Program} {l : Launch} {e : Env} {s : State} {m : MethodId} {args : Array Value} {below : List Frame} {meth : Method} {c : Code} {cells slots : Nat} {Q : State → Prop} {D : va_G} {cA : Nat → ClassId} {cL : ClassId} {n b L : Nat} {xs : Nat → Int32} (C : LX p l s m args c D cA cL n b L xs) (hcs : cells + 1 ≤ 605891 ∧ slots + 6 ≤ 7278430) (j : Nat) (hj : j + 5 ≤ L)
    (kk : ∀ (H : Heap) (locs : List Loc) (ls : Array Slot), lw_J D cA cL n s H locs → lv_has ls 7 [(4, .int (nI j)), (3, .ref (n + 143)), (2, .ref (n + 114)), (1, .ref n), (0, .ref b)] → W p l e room_1 s m args below meth c H locs (cells + 1) (slots + 6) Q (F0 m 561 ls [])) (H : Heap) (locs : List Loc) (ls : Array Slot) (hJ : lw_J D cA cL n s H locs) (hl : lv_has ls 7 [(4, .int (nI j)), (3, .ref (n + 143)), (2, .ref (n + 114)), (1, .ref n), (0, .ref b)]) : W p l e room_1 s m args below meth c H locs cells slots Q (F0 m 449 ls []) := by
  obtain ⟨tc, wc, σ, τ, f, h, hw⟩ := hJ
  obtain ⟨n4, hn4', e4'⟩ := h.2.1.2.2.2.2.2.2
  have e4 : τ 20 0 5 = nI n4 := h.2.1.2.1.symm.trans e4'
  have hn4 : n4 < 2 ^ 31 := by omega
  refine lv_aload_n C.1 C.2.1 d_law_law_449 rfl (lv_at hl 3 rfl) ?_
  refine lw_arg (pc := 450) (k0 := 4) (k4 := 0) C hl rfl rfl hw.2.2.2 1 (by omega) (by decide) d_law_law_450 d_law_law_451 d_law_law_453 d_law_law_454 d_law_law_455 ?_
  refine lv_aload_n C.1 C.2.1 d_law_law_456 rfl (lv_at hl 1 rfl) ?_
  refine lw_wrap (k := 3) (As := [.ref n, .int (xs (j + 1)), .ref (n + 143)]) (yy := yKept σ 1 (xs (j + 1))) C hl.1 hw (wr_warning l C.2.2.2.2.2.2.2.2.2.2.2 adX_J cL (n + 143) lw_oC f σ  (xs (j + 1))) (by decide) ⟨ml_law_71, wt_law_warning, wn_law, wc_law_warning⟩ ⟨by decide +kernel, by decide +kernel, by decide +kernel⟩ rfl rfl hcs d_law_law_457 (fun H1 locs1 f1 hf1 hw1 => ?_)
  refine lv_istore C.1 C.2.1 d_law_law_460 hl (by decide) rfl (fun ls1 hl1 => ?_)
  refine lv_aload_n C.1 C.2.1 d_law_law_462 rfl (lv_at hl1 3 rfl) ?_
  refine lw_arg (pc := 463) (k0 := 5) (k4 := 1) C hl1 rfl rfl hw1.2.2.2 1 (by omega) (by decide) d_law_law_463 d_law_law_464 d_law_law_466 d_law_law_467 d_law_law_468 ?_
  refine lw_mod (k := 1) (As := [(xs (j + 1))]) (rest := []) C hl1.1 hw1 (m_warning l adX_JM τ n4 hn4 e4 (xs (j + 1))) rfl ⟨rfl, rfl, by decide, by decide⟩ ⟨ml_law_73, wi_Model_warning, ws_Model_warning, wn_Model, wc_Model_warning⟩ ⟨by decide +kernel, by decide +kernel, by decide +kernel⟩ rfl rfl (Nat.zero_le _) hcs d_law_law_469 (fun r τ' H2 locs2 hP hw2 => ?_)
  obtain ⟨v, rfl, t0, tv, hI⟩ := eWarning h (xs (j + 1)) hP
  show W p l e room_1 s m args below meth c H2 locs2 (cells + 1) (slots + 6) Q (F0 m 472 ls1 [.int v])
  refine lv_istore C.1 C.2.1 d_law_law_472 hl1 (by decide) rfl (fun ls2 hl2 => ?_)
  refine lw_tail (pc := 474) (off := 59) C hw2 hl2 t0 (fun z => by rw [hf1 z, tv z]) hcs d_law_law_474 d_law_law_475 d_law_law_478 d_law_law_480 d_law_law_485 d_law_law_487 d_law_law_490 d_law_law_491 d_law_law_492 d_law_law_493 d_law_law_495 d_law_law_496 d_law_law_497 d_law_law_502 (by decide) (fun H3 locs3 hw3 => ?_)
  exact kk H3 locs3 ls2 ⟨_, _, _, _, _, hI, hw3⟩ (lv_sub hl2 [2, 3, 4, 5, 6] rfl)
set_option maxRecDepth 100000 in
set_option maxHeartbeats 4000000 in
theorem la_count {p : Program} {l : Launch} {e : Env} {s : State} {m : MethodId} {args : Array Value} {below : List Frame} {meth : Method} {c : Code} {cells slots : Nat} {Q : State → Prop} {D : va_G} {cA : Nat → ClassId} {cL : ClassId} {n b L : Nat} {xs : Nat → Int32} (C : LX p l s m args c D cA cL n b L xs) (hcs : cells + 1 ≤ 605891 ∧ slots + 6 ≤ 7278430) (j : Nat) (hj : j + 5 ≤ L)
    (kk : ∀ (H : Heap) (locs : List Loc) (ls : Array Slot), lw_J D cA cL n s H locs → lv_has ls 7 [(4, .int (nI j)), (3, .ref (n + 143)), (2, .ref (n + 114)), (1, .ref n), (0, .ref b)] → W p l e room_1 s m args below meth c H locs (cells + 1) (slots + 6) Q (F0 m 561 ls [])) (H : Heap) (locs : List Loc) (ls : Array Slot) (hJ : lw_J D cA cL n s H locs) (hl : lv_has ls 7 [(4, .int (nI j)), (3, .ref (n + 143)), (2, .ref (n + 114)), (1, .ref n), (0, .ref b)]) : W p l e room_1 s m args below meth c H locs cells slots Q (F0 m 505 ls []) := by
  obtain ⟨tc, wc, σ, τ, f, h, hw⟩ := hJ
  obtain ⟨rc, hrc', e6, -⟩ := h.2.2.2.1
  have hrc : rc ≤ 12 := by have := h.1.2.2.1; omega
  refine lv_aload_n C.1 C.2.1 d_law_law_505 rfl (lv_at hl 3 rfl) ?_
  refine lw_arg (pc := 506) (k0 := 4) (k4 := 0) C hl rfl rfl hw.2.2.2 1 (by omega) (by decide) d_law_law_506 d_law_law_507 d_law_law_509 d_law_law_510 d_law_law_511 ?_
  refine lv_aload_n C.1 C.2.1 d_law_law_512 rfl (lv_at hl 1 rfl) ?_
  refine lw_wrap (k := 3) (As := [.ref n, .int (xs (j + 1)), .ref (n + 143)]) (yy := yCount σ (xs (j + 1))) C hl.1 hw (wr_count l C.2.2.2.2.2.2.2.2.2.2.2 adX_J cL (n + 143) lw_oC f σ rc hrc e6 (xs (j + 1))) (by decide) ⟨ml_law_74, wt_law_count, wn_law, wc_law_count⟩ ⟨by decide +kernel, by decide +kernel, by decide +kernel⟩ rfl rfl hcs d_law_law_513 (fun H1 locs1 f1 hf1 hw1 => ?_)
  refine lv_istore C.1 C.2.1 d_law_law_516 hl (by decide) rfl (fun ls1 hl1 => ?_)
  refine lv_aload_n C.1 C.2.1 d_law_law_518 rfl (lv_at hl1 3 rfl) ?_
  refine lw_arg (pc := 519) (k0 := 5) (k4 := 1) C hl1 rfl rfl hw1.2.2.2 1 (by omega) (by decide) d_law_law_519 d_law_law_520 d_law_law_522 d_law_law_523 d_law_law_524 ?_
  refine lw_mod (k := 1) (As := [(xs (j + 1))]) (rest := []) C hl1.1 hw1 (m_count l adX_JM τ  (xs (j + 1))) rfl ⟨rfl, rfl, by decide, by decide⟩ ⟨ml_law_76, wi_Model_count, ws_Model_count, wn_Model, wc_Model_count⟩ ⟨by decide +kernel, by decide +kernel, by decide +kernel⟩ rfl rfl (Nat.zero_le _) hcs d_law_law_525 (fun r τ' H2 locs2 hP hw2 => ?_)
  obtain ⟨v, rfl, t0, tv, hI⟩ := eCountC h (xs (j + 1)) hP
  show W p l e room_1 s m args below meth c H2 locs2 (cells + 1) (slots + 6) Q (F0 m 528 ls1 [.int v])
  refine lv_istore C.1 C.2.1 d_law_law_528 hl1 (by decide) rfl (fun ls2 hl2 => ?_)
  refine lw_tail (pc := 530) (off := 3) C hw2 hl2 t0 (fun z => by rw [hf1 z, tv z]) hcs d_law_law_530 d_law_law_531 d_law_law_534 d_law_law_536 d_law_law_541 d_law_law_543 d_law_law_546 d_law_law_547 d_law_law_548 d_law_law_549 d_law_law_551 d_law_law_552 d_law_law_553 d_law_law_558 (by decide) (fun H3 locs3 hw3 => ?_)
  exact kk H3 locs3 ls2 ⟨_, _, _, _, _, hI, hw3⟩ (lv_sub hl2 [2, 3, 4, 5, 6] rfl)
set_option maxRecDepth 100000 in
set_option maxHeartbeats 4000000 in
theorem la_run {p : Program} {l : Launch} {e : Env} {s : State} {m : MethodId} {args : Array Value} {below : List Frame} {meth : Method} {c : Code} {cells slots : Nat} {Q : State → Prop} {D : va_G} {cA : Nat → ClassId} {cL : ClassId} {n b L : Nat} {xs : Nat → Int32} (C : LX p l s m args c D cA cL n b L xs) (hcs : cells + 1 ≤ 605891 ∧ slots + 6 ≤ 7278430) (j : Nat) (hj : j + 5 ≤ L)
    (kk : ∀ (H : Heap) (locs : List Loc) (ls : Array Slot), lw_J D cA cL n s H locs → lv_has ls 7 [(4, .int (nI j)), (3, .ref (n + 143)), (2, .ref (n + 114)), (1, .ref n), (0, .ref b)] → W p l e room_1 s m args below meth c H locs (cells + 1) (slots + 6) Q (F0 m 561 ls [])) (H : Heap) (locs : List Loc) (ls : Array Slot) (hJ : lw_J D cA cL n s H locs) (hl : lv_has ls 7 [(4, .int (nI j)), (3, .ref (n + 143)), (2, .ref (n + 114)), (1, .ref n), (0, .ref b)]) : W p l e room_1 s m args below meth c H locs cells slots Q (F0 m 312 ls []) := by
  obtain ⟨tc, wc, σ, τ, f, h, hw⟩ := hJ
  obtain ⟨sc, r1, r2, r3, r4, r5, r6, r7⟩ := eRun h
  have hMc := c_Yard_run l (D := D) (cA := cA) (adX_J (n := n)) σ h.2.2.2.2.2.2 tc h.1.2.2.1 wc h.1.2.2.2 h.2.2.2.2.1.1.1 h.2.2.2.2.1.1.2
  have hMr := m_run l (D := D) (cA := cA) (adX_JM (n := n)) τ r5 tc h.1.2.2.1 h.1.1 wc h.1.2.2.2 r4 r3 sc r1 r2
  clear r2 r3 r4
  generalize kPerform σ (nI tc) (nI wc) = σ1 at r6 r7 hMc
  generalize gFinish (gTicks tc wc 150 (gBoot τ tc)) tc sc = τ1 at r6 r7 hMr
  refine lv_aload_n C.1 C.2.1 d_law_law_312 rfl (lv_at hl 3 rfl) ?_
  refine lw_run (idx := 60) (rest := []) C hl.1 hw hMc ml_law_60 rfl (Nat.zero_le _) ⟨by omega, by omega⟩ d_law_law_313 (fun r σ' H1 locs1 hP hw1 => ?_)
  obtain ⟨rfl, rfl⟩ := hP
  show W p l e room_1 s m args below meth c H1 locs1 cells slots Q (F0 m 316 ls [.int (σ' 1 0 11)])
  refine lv_aload_n C.1 C.2.1 d_law_law_316 rfl (lv_at hl 2 rfl) ?_
  refine lw_mod (k := 0) (As := []) (rest := [.int (σ' 1 0 11)]) C hl.1 hw1 hMr rfl ⟨rfl, rfl, by decide, by decide⟩ ⟨ml_law_63, wi_Model_run, ws_Model_run, wn_Model, wc_Model_run⟩ ⟨by decide +kernel, by decide +kernel, by decide +kernel⟩ rfl rfl (Nat.le_of_ble_eq_true rfl) ⟨by omega, by omega⟩ d_law_law_317 (fun r τ' H2 locs2 hP hw2 => ?_)
  obtain ⟨rfl, rfl⟩ := hP
  show W p l e room_1 s m args below meth c H2 locs2 cells slots Q (F0 m 320 ls [.int (τ' 20 0 3), .int (σ' 1 0 11)])
  refine lv_icmp_eq (tgt := 561) C.1 C.2.1 d_law_law_320 (by decide) (fun _ => ?_) (fun z => absurd r7 z)
  refine W.widen (k := cells + 1) (n := slots + 6) (by omega) (by omega) ?_
  exact kk H2 locs2 ls ⟨_, _, _, _, _, r6, hw2⟩ hl
