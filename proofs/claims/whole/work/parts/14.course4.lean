theorem vp_lt {x : Int32} {n : Nat} (h : vp_in x n) : nn x < n := Nat.not_le.mp fun z => h (Or.inr z)
theorem kMark_a {σ : ty_St} {n a : Nat} (h : ¬ a = 4) : ∀ k, (kMark σ n k) a = σ a
  | 0 => rfl
  | k + 1 => by
    unfold kMark
    split
    · rw [up_a h]; exact kMark_a h k
    · exact kMark_a h k
theorem kOver_mono {σ : ty_St} {t : Nat} : ∀ {n k : Nat}, n ≤ k → kOver σ t k = true → kOver σ t n = true := by
  intro n k h
  induction k with
  | zero => intro q; rw [show n = 0 by omega]; exact q
  | succ k ih =>
    intro q
    by_cases e : n = k + 1
    · rw [e]; exact q
    · simp only [kOver, Bool.and_eq_true] at q
      exact ih (by omega) q.1
theorem kInterrupt_01 (σ : ty_St) (n : Nat) : (kInterrupt σ n).1 = 0 ∨ (kInterrupt σ n).1 = 1 := by
  unfold kInterrupt
  dsimp only
  split <;> simp
set_option maxRecDepth 100000 in
set_option maxHeartbeats 4000000 in
theorem c_Course_startStrand (l : Launch) {D : va_G} {ad : Nat → Nat → Nat} {cA : Nat → ClassId} (hJ : ty_J cnC ad) (σ : ty_St) (hs : ¬ σ 1 0 8 < 0) (q t z : Int32) (ht : vp_in t 12) : ty_M l y_Course_startStrand (Cond.code y_Course_startStrand b_Course_startStrand 4 none :: ty_w) (rmL 1) cnC D ad cA [.inr (1, 0), .inl q, .inl t, .inl z] σ (fun r σ' => r = none ∧ σ' = kStartS σ q t z) := by
  refine ty_M.of rfl hJ layC (ty_oks.cons (show (0 : Nat) < cnC 1 by decide) (ty_oks.cons trivial (ty_oks.cons trivial (ty_oks.cons trivial ty_oks.nil)))) (Nat.le_of_ble_eq_true rfl) ?_
  intro p e s m args below meth c C hr hnm
  refine v_aload_n (pc := 0) C d_Course_startStrand_0 rfl rfl ?_
  refine gf_Course_100 (pc := 1) C d_Course_startStrand_1 ?_
  refine v_bipush (pc := 4) (v := 52) C d_Course_startStrand_4 (by decide) ?_
  refine v_icmp_ge (pc := 6) (tgt := 49) C d_Course_startStrand_6 (by decide) (fun h6 => ?_) (fun h6 => ?_)
  · exact v_return (pc := 49) C hr ⟨rfl, by unfold kStartS; first | (rw [if_neg (Int32.not_lt.mpr h6)]; done) | (rw [if_pos (Int32.not_le.mp h6)])⟩ d_Course_startStrand_49
  · refine v_aload_n (pc := 9) C d_Course_startStrand_9 rfl rfl ?_
    refine gf_Course_25 (pc := 10) C d_Course_startStrand_10 ?_
    refine v_aload_n (pc := 13) C d_Course_startStrand_13 rfl rfl ?_
    refine gf_Course_100 (pc := 14) C d_Course_startStrand_14 ?_
    refine v_aaload (pc := 17) C rfl rfl (by decide) (i32_ge0 hs (Int32.not_le.mp h6) (by decide)) d_Course_startStrand_17 ?_
    refine v_iload_n (pc := 18) C d_Course_startStrand_18 rfl rfl ?_
    refine v_iload_n (pc := 19) C d_Course_startStrand_19 rfl rfl ?_
    refine v_iload_n (pc := 20) C d_Course_startStrand_20 rfl rfl ?_
    refine cl_Course_163 (pc := 21) C (c_Strand_start l hJ σ (nn (σ 1 0 8)) (vp_lt (i32_ge0 hs (Int32.not_le.mp h6) (by decide))) q t z) ⟨rfl, rfl, by decide, by decide⟩ rfl rfl (Nat.le_of_ble_eq_true rfl) d_Course_startStrand_21 (fun r σ' hq => ?_)
    rw [hq.1, hq.2]
    refine v_aload_n (pc := 24) C d_Course_startStrand_24 rfl rfl ?_
    refine v_dup (pc := 25) C d_Course_startStrand_25 ?_
    refine gf_Course_100 (pc := 26) C d_Course_startStrand_26 ?_
    refine v_iconst (pc := 29) (v := 1) C d_Course_startStrand_29 (by decide) ?_
    refine v_iadd (pc := 30) C d_Course_startStrand_30 ?_
    refine pf_Course_100 (pc := 31) C d_Course_startStrand_31 ?_
    refine v_aload_n (pc := 34) C d_Course_startStrand_34 rfl rfl ?_
    refine gf_Course_19 (pc := 35) C d_Course_startStrand_35 ?_
    refine v_iload_n (pc := 38) C d_Course_startStrand_38 rfl rfl ?_
    refine v_aaload (pc := 39) C rfl rfl (by decide) ht d_Course_startStrand_39 ?_
    refine v_dup (pc := 40) C d_Course_startStrand_40 ?_
    refine gf_Course_166 (pc := 41) C d_Course_startStrand_41 ?_
    refine v_iconst (pc := 44) (v := 1) C d_Course_startStrand_44 (by decide) ?_
    refine v_iadd (pc := 45) C d_Course_startStrand_45 ?_
    refine pf_Course_166 (pc := 46) C d_Course_startStrand_46 ?_
    exact v_return (pc := 49) C hr ⟨rfl, by unfold kStartS; first | (rw [if_neg (Int32.not_lt.mpr h6)]; done) | (rw [if_pos (Int32.not_le.mp h6)])⟩ d_Course_startStrand_49
set_option maxRecDepth 100000 in
set_option maxHeartbeats 4000000 in
theorem c_Course_begin (l : Launch) {D : va_G} {ad : Nat → Nat → Nat} {cA : Nat → ClassId} (hJ : ty_J cnC ad) (σ : ty_St) (hs : ¬ σ 1 0 8 < 0) (t : Nat) (ht : t < 12) (w : Nat) (hw : w < 4) : ty_M l y_Course_begin (Cond.code y_Course_begin b_Course_begin 4 none :: ty_w) (rmL 2) cnC D ad cA [.inr (1, 0), .inl (nI t), .inl (nI w)] σ (fun r σ' => r = none ∧ σ' = kBegin σ t (nI w)) := by
  refine ty_M.of rfl hJ layC (ty_oks.cons (show (0 : Nat) < cnC 1 by decide) (ty_oks.cons trivial (ty_oks.cons trivial ty_oks.nil))) (Nat.le_of_ble_eq_true rfl) ?_
  intro p e s m args below meth c C hr hnm
  refine v_aload_n (pc := 0) C d_Course_begin_0 rfl rfl ?_
  refine gf_Course_19 (pc := 1) C d_Course_begin_1 ?_
  refine v_iload_n (pc := 4) C d_Course_begin_4 rfl rfl ?_
  refine v_aaloadK (pc := 5) C rfl rfl (by decide) (rfl) (ht) (by decide) d_Course_begin_5 ?_
  refine v_astore_n (pc := 6) C d_Course_begin_6 rfl (by decide) ?_
  refine v_aload_n (pc := 7) C d_Course_begin_7 rfl rfl ?_
  refine v_aload_n (pc := 8) C d_Course_begin_8 rfl rfl ?_
  refine gf_Course_87 (pc := 9) C d_Course_begin_9 ?_
  refine pf_Course_137 (pc := 12) C d_Course_begin_12 ?_
  refine v_aload_n (pc := 15) C d_Course_begin_15 rfl rfl ?_
  refine v_iload_n (pc := 16) C d_Course_begin_16 rfl rfl ?_
  refine pf_Course_153 (pc := 17) C d_Course_begin_17 ?_
  refine v_aload_n (pc := 20) C d_Course_begin_20 rfl rfl ?_
  refine v_aload_n (pc := 21) C d_Course_begin_21 rfl rfl ?_
  refine gf_Course_100 (pc := 22) C d_Course_begin_22 ?_
  refine pf_Course_114 (pc := 25) C d_Course_begin_25 ?_
  refine v_aload_n (pc := 28) C d_Course_begin_28 rfl rfl ?_
  refine gf_Course_29 (pc := 29) C d_Course_begin_29 ?_
  refine v_iload_n (pc := 32) C d_Course_begin_32 rfl rfl ?_
  refine v_iload_n (pc := 33) C d_Course_begin_33 rfl rfl ?_
  refine v_iastore (pc := 34) C rfl rfl (vp_in_nI hw (by decide)) d_Course_begin_34 ?_
  refine v_aload_n (pc := 35) C d_Course_begin_35 rfl rfl ?_
  refine v_aload_n (pc := 36) C d_Course_begin_36 rfl rfl ?_
  refine gf_Course_156 (pc := 37) C d_Course_begin_37 ?_
  refine v_iload_n (pc := 40) C d_Course_begin_40 rfl rfl ?_
  refine v_iconst (pc := 41) (v := (-1)) C d_Course_begin_41 (by decide) ?_
  refine cl_Course_159 (pc := 42) C (c_Course_startStrand l hJ _ (by exact hs) _ _ _ (vp_in_nI ht (by decide))) ⟨rfl, rfl, by decide, by decide⟩ rfl rfl (Nat.le_of_ble_eq_true rfl) d_Course_begin_42 (fun r σ' hq => ?_)
  rw [hq.1, hq.2]
  exact v_return (pc := 45) C hr ⟨rfl, rfl⟩ d_Course_begin_45
set_option maxRecDepth 100000 in
set_option maxHeartbeats 4000000 in
theorem c_Course_interrupt (l : Launch) {D : va_G} {ad : Nat → Nat → Nat} {cA : Nat → ClassId} (hJ : ty_J cnC ad) (σ : ty_St) (n : Nat) (hn : n < 52) (hq : vp_in (σ 4 n 0) 10) (z : Nat) (hz : z ≤ 10) (hat : σ 4 n 3 = nI z) : ty_M l y_Course_interrupt (Cond.code y_Course_interrupt b_Course_interrupt 3 (some .boolean) :: ty_w) (rmL 1) cnC D ad cA [.inr (1, 0), .inr (4, n)] σ (fun r σ' => r = some (.inl (kInterrupt σ n).1) ∧ σ' = (kInterrupt σ n).2) := by
  refine ty_M.of rfl hJ layC (ty_oks.cons (show (0 : Nat) < cnC 1 by decide) (ty_oks.cons hn ty_oks.nil)) (Nat.le_of_ble_eq_true rfl) ?_
  intro p e s m args below meth c C hr hnm
  have e0 : (ty_up σ 4 n 4 0) 4 n 0 = σ 4 n 0 := up_sj (by decide)
  have e3 : (ty_up σ 4 n 4 0) 4 n 3 = nI z := (up_sj (by decide)).trans hat
  have ez : nn ((ty_up σ 4 n 4 0) 4 n 3) = z := by rw [e3]; exact nI_clamp (by omega)
  refine v_aload_n (pc := 0) C d_Course_interrupt_0 rfl rfl ?_
  refine v_iconst (pc := 1) (v := 0) C d_Course_interrupt_1 (by decide) ?_
  refine pf_Course_212 (pc := 2) C rfl rfl d_Course_interrupt_2 ?_
  refine v_aload_n (pc := 5) C d_Course_interrupt_5 rfl rfl ?_
  refine gf_Course_11 (pc := 6) C d_Course_interrupt_6 ?_
  refine v_aload_n (pc := 9) C d_Course_interrupt_9 rfl rfl ?_
  refine gf_Course_176 (pc := 10) C d_Course_interrupt_10 ?_
  refine v_aaload (pc := 13) C rfl rfl (by decide) (by rw [e0]; exact hq) d_Course_interrupt_13 ?_
  refine v_aload_n (pc := 14) C d_Course_interrupt_14 rfl rfl ?_
  refine gf_Course_177 (pc := 15) C d_Course_interrupt_15 ?_
  refine cl_Course_225 (pc := 18) C (c_Program_ega l hJ (ty_up σ 4 n 4 0) (nn ((ty_up σ 4 n 4 0) 4 n 0)) (by rw [e0]; exact vp_lt hq) _ z hz e3) ⟨rfl, rfl, by decide, by decide⟩ rfl rfl (Nat.le_of_ble_eq_true rfl) d_Course_interrupt_18 (fun r σ' hq => ?_)
  rw [hq.1, hq.2]
  refine v_istore_n (pc := 21) C d_Course_interrupt_21 rfl (by decide) ?_
  refine v_iload_n (pc := 22) C d_Course_interrupt_22 rfl rfl ?_
  refine v_iconst (pc := 23) (v := (-1)) C d_Course_interrupt_23 (by decide) ?_
  refine v_icmp_ne (pc := 24) (tgt := 35) C d_Course_interrupt_24 (by decide) (fun h24 => ?_) (fun h24 => ?_)
  · refine v_aload_n (pc := 35) C d_Course_interrupt_35 rfl rfl ?_
    refine v_iload_n (pc := 36) C d_Course_interrupt_36 rfl rfl ?_
    refine pf_Course_177 (pc := 37) C d_Course_interrupt_37 ?_
    refine v_iconst (pc := 40) (v := 1) C d_Course_interrupt_40 (by decide) ?_
    exact v_zreturn (pc := 41) C hr rfl ⟨by unfold kInterrupt; dsimp only; rw [ez, if_neg h24], by unfold kInterrupt; dsimp only; rw [ez, if_neg h24]⟩ d_Course_interrupt_41
  · refine v_aload_n (pc := 27) C d_Course_interrupt_27 rfl rfl ?_
    refine v_bipush (pc := 28) (v := 100) C d_Course_interrupt_28 (by decide) ?_
    refine cl_Course_181 (pc := 30) C (c_Strand_end l hJ (ty_up σ 4 n 4 0) n hn 100) ⟨rfl, rfl, by decide, by decide⟩ rfl rfl (Nat.le_of_ble_eq_true rfl) d_Course_interrupt_30 (fun r σ' hq => ?_)
    rw [hq.1, hq.2]
    refine v_iconst (pc := 33) (v := 0) C d_Course_interrupt_33 (by decide) ?_
    exact v_zreturn (pc := 34) C hr rfl ⟨by unfold kInterrupt; dsimp only; rw [ez, if_pos h24], by unfold kInterrupt; dsimp only; rw [ez, if_pos h24]⟩ d_Course_interrupt_34
set_option maxRecDepth 100000 in
set_option maxHeartbeats 4000000 in
theorem c_Course_over (l : Launch) {D : va_G} {ad : Nat → Nat → Nat} {cA : Nat → ClassId} (hJ : ty_J cnC ad) (σ : ty_St) (sc : Nat) (hsc : sc ≤ 52) (hc : σ 1 0 8 = nI sc) (n : Nat) : ty_M l y_Course_areStartedOver (Cond.code y_Course_areStartedOver b_Course_areStartedOver 3 (some .boolean) :: ty_w) (rmL 0) cnC D ad cA [.inr (1, 0), .inl (nI n)] σ (fun r σ' => r = some (.inl (if kOver σ n sc = true then 1 else 0)) ∧ σ' = σ) := by
  refine ty_M.of rfl hJ layC (ty_oks.cons (show (0 : Nat) < cnC 1 by decide) (ty_oks.cons trivial ty_oks.nil)) (Nat.le_of_ble_eq_true rfl) ?_
  intro p e s m args below meth c C hr hnm
  have loop : ∀ k i, i + k = sc → kOver σ n i = true → ty_V cnC p l e (rmL 0) s m args below meth c D ad cA (ty_Gd cnC ad s) 3 (MQ below (ty_Q cnC D ad cA (fun r σ' => r = some (.inl (if kOver σ n sc = true then 1 else 0)) ∧ σ' = σ) (ty_A cnC ad)) args s 0 0 (ty_A cnC ad)) σ [some (.inr (1, 0)), some (.inl (nI n)), some (.inl (nI i))] 2 [] := by
    intro k
    induction k with
    | zero =>
      intro i hi hi0
      have hb := hc
      refine v_iload_n (pc := 2) C d_Course_areStartedOver_2 rfl rfl ?_
      refine v_aload_n (pc := 3) C d_Course_areStartedOver_3 rfl rfl ?_
      refine gf_Course_100 (pc := 4) C d_Course_areStartedOver_4 ?_
      refine v_icmp_ge (pc := 7) (tgt := 43) C d_Course_areStartedOver_7 (by decide) (fun h7 => ?_) (fun h7 => ?_)
      · refine v_iconst (pc := 43) (v := 1) C d_Course_areStartedOver_43 (by decide) ?_
        exact v_zreturn (pc := 44) C hr rfl ⟨by rw [show sc = i by omega, if_pos hi0], rfl⟩ d_Course_areStartedOver_44
      · exact absurd (by rw [hb]; exact nI_le (by omega) (by omega)) h7
    | succ k ih =>
      intro i hi hi0
      have hb := hc
      refine v_iload_n (pc := 2) C d_Course_areStartedOver_2 rfl rfl ?_
      refine v_aload_n (pc := 3) C d_Course_areStartedOver_3 rfl rfl ?_
      refine gf_Course_100 (pc := 4) C d_Course_areStartedOver_4 ?_
      refine v_icmp_ge (pc := 7) (tgt := 43) C d_Course_areStartedOver_7 (by decide) (fun h7 => ?_) (fun h7 => ?_)
      · exact absurd h7 (by rw [hb]; exact nI_ge (by omega) (by omega))
      · refine v_aload_n (pc := 10) C d_Course_areStartedOver_10 rfl rfl ?_
        refine gf_Course_25 (pc := 11) C d_Course_areStartedOver_11 ?_
        refine v_iload_n (pc := 14) C d_Course_areStartedOver_14 rfl rfl ?_
        refine v_aaloadK (pc := 15) C rfl rfl (by decide) (rfl) (by omega) (by decide) d_Course_areStartedOver_15 ?_
        refine gf_Course_229 (pc := 16) C d_Course_areStartedOver_16 ?_
        refine v_iload_n (pc := 19) C d_Course_areStartedOver_19 rfl rfl ?_
        refine v_icmp_ne (pc := 20) (tgt := 37) C d_Course_areStartedOver_20 (by decide) (fun h20 => ?_) (fun h20 => ?_)
        · refine v_iinc (pc := 37) C d_Course_areStartedOver_37 rfl (show _ + Int32.ofInt 1 = _ + 1 from rfl) (by decide) ?_
          refine v_goto (pc := 40) (tgt := 2) C d_Course_areStartedOver_40 (by decide) ?_
          rw [nI_1 i]
          refine ih (i + 1) (by omega) ?_
          first | (simp [kOver, hi0, h20]; done) | (simp [kOver, hi0, h32]; done)
        · refine v_aload_n (pc := 23) C d_Course_areStartedOver_23 rfl rfl ?_
          refine gf_Course_25 (pc := 24) C d_Course_areStartedOver_24 ?_
          refine v_iload_n (pc := 27) C d_Course_areStartedOver_27 rfl rfl ?_
          refine v_aaloadK (pc := 28) C rfl rfl (by decide) (rfl) (by omega) (by decide) d_Course_areStartedOver_28 ?_
          refine gf_Course_125 (pc := 29) C d_Course_areStartedOver_29 ?_
          refine v_if_ne (pc := 32) (tgt := 37) C d_Course_areStartedOver_32 (by decide) (fun h32 => ?_) (fun h32 => ?_)
          · refine v_iinc (pc := 37) C d_Course_areStartedOver_37 rfl (show _ + Int32.ofInt 1 = _ + 1 from rfl) (by decide) ?_
            refine v_goto (pc := 40) (tgt := 2) C d_Course_areStartedOver_40 (by decide) ?_
            rw [nI_1 i]
            refine ih (i + 1) (by omega) ?_
            first | (simp [kOver, hi0, h20]; done) | (simp [kOver, hi0, h32]; done)
          · refine v_iconst (pc := 35) (v := 0) C d_Course_areStartedOver_35 (by decide) ?_
            exact v_zreturn (pc := 36) C hr rfl ⟨by
              have : ¬ kOver σ n sc = true := fun q => by
                have := kOver_mono (show i + 1 ≤ sc by omega) q
                simp [kOver, h20, h32] at this
              rw [if_neg this], rfl⟩ d_Course_areStartedOver_36
  refine v_iconst (pc := 0) (v := 0) C d_Course_areStartedOver_0 (by decide) ?_
  refine v_istore_n (pc := 1) C d_Course_areStartedOver_1 rfl (by decide) ?_
  exact loop sc 0 (by omega) rfl
set_option maxRecDepth 100000 in
set_option maxHeartbeats 4000000 in
theorem c_Course_mark (l : Launch) {D : va_G} {ad : Nat → Nat → Nat} {cA : Nat → ClassId} (hJ : ty_J cnC ad) (σ : ty_St) (sc : Nat) (hsc : sc ≤ 52) (hc : σ 1 0 8 = nI sc) (n : Nat) : ty_M l y_Course_markStartedBy (Cond.code y_Course_markStartedBy b_Course_markStartedBy 3 none :: ty_w) (rmL 0) cnC D ad cA [.inr (1, 0), .inl (nI n)] σ (fun r σ' => r = none ∧ σ' = kMark σ n sc) := by
  refine ty_M.of rfl hJ layC (ty_oks.cons (show (0 : Nat) < cnC 1 by decide) (ty_oks.cons trivial ty_oks.nil)) (Nat.le_of_ble_eq_true rfl) ?_
  intro p e s m args below meth c C hr hnm
  have loop : ∀ k i, i + k = sc → ∀ τ : ty_St, τ = kMark σ n i → ty_V cnC p l e (rmL 0) s m args below meth c D ad cA (ty_Gd cnC ad s) 3 (MQ below (ty_Q cnC D ad cA (fun r σ' => r = none ∧ σ' = kMark σ n sc) (ty_A cnC ad)) args s 0 0 (ty_A cnC ad)) τ [some (.inr (1, 0)), some (.inl (nI n)), some (.inl (nI i))] 2 [] := by
    intro k
    induction k with
    | zero =>
      intro i hi τ hτ
      have hb := (show τ 1 0 8 = nI sc by rw [hτ, kMark_a (by decide)]; exact hc)
      refine v_iload_n (pc := 2) C d_Course_markStartedBy_2 rfl rfl ?_
      refine v_aload_n (pc := 3) C d_Course_markStartedBy_3 rfl rfl ?_
      refine gf_Course_100 (pc := 4) C d_Course_markStartedBy_4 ?_
      refine v_icmp_ge (pc := 7) (tgt := 51) C d_Course_markStartedBy_7 (by decide) (fun h7 => ?_) (fun h7 => ?_)
      · exact v_return (pc := 51) C hr ⟨rfl, by rw [hτ, show i = sc by omega]⟩ d_Course_markStartedBy_51
      · exact absurd (by rw [hb]; exact nI_le (by omega) (by omega)) h7
    | succ k ih =>
      intro i hi τ hτ
      have hb := (show τ 1 0 8 = nI sc by rw [hτ, kMark_a (by decide)]; exact hc)
      refine v_iload_n (pc := 2) C d_Course_markStartedBy_2 rfl rfl ?_
      refine v_aload_n (pc := 3) C d_Course_markStartedBy_3 rfl rfl ?_
      refine gf_Course_100 (pc := 4) C d_Course_markStartedBy_4 ?_
      refine v_icmp_ge (pc := 7) (tgt := 51) C d_Course_markStartedBy_7 (by decide) (fun h7 => ?_) (fun h7 => ?_)
      · exact absurd h7 (by rw [hb]; exact nI_ge (by omega) (by omega))
      · refine v_aload_n (pc := 10) C d_Course_markStartedBy_10 rfl rfl ?_
        refine gf_Course_25 (pc := 11) C d_Course_markStartedBy_11 ?_
        refine v_iload_n (pc := 14) C d_Course_markStartedBy_14 rfl rfl ?_
        refine v_aaloadK (pc := 15) C rfl rfl (by decide) (rfl) (by omega) (by decide) d_Course_markStartedBy_15 ?_
        refine gf_Course_229 (pc := 16) C d_Course_markStartedBy_16 ?_
        refine v_iload_n (pc := 19) C d_Course_markStartedBy_19 rfl rfl ?_
        refine v_icmp_ne (pc := 20) (tgt := 45) C d_Course_markStartedBy_20 (by decide) (fun h20 => ?_) (fun h20 => ?_)
        · refine v_iinc (pc := 45) C d_Course_markStartedBy_45 rfl (show _ + Int32.ofInt 1 = _ + 1 from rfl) (by decide) ?_
          refine v_goto (pc := 48) (tgt := 2) C d_Course_markStartedBy_48 (by decide) ?_
          rw [nI_1 i]
          refine ih (i + 1) (by omega) _ ?_
          unfold kMark
          rw [← hτ]
          rw [if_neg (fun q => h20 q.1)]
        · refine v_aload_n (pc := 23) C d_Course_markStartedBy_23 rfl rfl ?_
          refine gf_Course_25 (pc := 24) C d_Course_markStartedBy_24 ?_
          refine v_iload_n (pc := 27) C d_Course_markStartedBy_27 rfl rfl ?_
          refine v_aaloadK (pc := 28) C rfl rfl (by decide) (rfl) (by omega) (by decide) d_Course_markStartedBy_28 ?_
          refine gf_Course_125 (pc := 29) C d_Course_markStartedBy_29 ?_
          refine v_if_ne (pc := 32) (tgt := 45) C d_Course_markStartedBy_32 (by decide) (fun h32 => ?_) (fun h32 => ?_)
          · refine v_iinc (pc := 45) C d_Course_markStartedBy_45 rfl (show _ + Int32.ofInt 1 = _ + 1 from rfl) (by decide) ?_
            refine v_goto (pc := 48) (tgt := 2) C d_Course_markStartedBy_48 (by decide) ?_
            rw [nI_1 i]
            refine ih (i + 1) (by omega) _ ?_
            unfold kMark
            rw [← hτ]
            rw [if_neg (fun q => h32 q.2)]
          · refine v_aload_n (pc := 35) C d_Course_markStartedBy_35 rfl rfl ?_
            refine gf_Course_25 (pc := 36) C d_Course_markStartedBy_36 ?_
            refine v_iload_n (pc := 39) C d_Course_markStartedBy_39 rfl rfl ?_
            refine v_aaloadK (pc := 40) C rfl rfl (by decide) (rfl) (by omega) (by decide) d_Course_markStartedBy_40 ?_
            refine v_iconst (pc := 41) (v := 1) C d_Course_markStartedBy_41 (by decide) ?_
            refine pf_Course_117 (pc := 42) C rfl rfl d_Course_markStartedBy_42 ?_
            refine v_iinc (pc := 45) C d_Course_markStartedBy_45 rfl (show _ + Int32.ofInt 1 = _ + 1 from rfl) (by decide) ?_
            refine v_goto (pc := 48) (tgt := 2) C d_Course_markStartedBy_48 (by decide) ?_
            rw [nI_1 i]
            refine ih (i + 1) (by omega) _ ?_
            unfold kMark
            rw [← hτ]
            rw [if_pos ⟨h20, h32⟩]
  refine v_iconst (pc := 0) (v := 0) C d_Course_markStartedBy_0 (by decide) ?_
  refine v_istore_n (pc := 1) C d_Course_markStartedBy_1 rfl (by decide) ?_
  exact loop sc 0 (by omega) _ rfl
set_option maxRecDepth 100000 in
set_option maxHeartbeats 4000000 in
theorem c_Course_wait (l : Launch) {D : va_G} {ad : Nat → Nat → Nat} {cA : Nat → ClassId} (hJ : ty_J cnC ad) (σ : ty_St) (sc : Nat) (hsc : sc ≤ 52) (hc : σ 1 0 8 = nI sc) (n : Nat) (hn : n < 52) (hm : σ 4 n 6 = 0 ∨ σ 4 n 6 = 1) (hqq : vp_in (σ 4 n 0) 10) (z : Nat) (hz : z ≤ 10) (hat : σ 4 n 3 = nI z) (op a : Int32) : ty_M l y_Course_waitIn (Cond.code y_Course_waitIn b_Course_waitIn 6 (some .boolean) :: ty_w) (rmL 2) cnC D ad cA [.inr (1, 0), .inl (nI n), .inl op, .inl a] σ (fun r σ' => r = some (.inl (kWait σ n op a).1) ∧ σ' = (kWait σ n op a).2) := by
  refine ty_M.of rfl hJ layC (ty_oks.cons (show (0 : Nat) < cnC 1 by decide) (ty_oks.cons trivial (ty_oks.cons trivial (ty_oks.cons trivial ty_oks.nil)))) (Nat.le_of_ble_eq_true rfl) ?_
  intro p e s m args below meth c C hr hnm
  have rest3 : ∀ (υ : ty_St) (x : Int32), kWait σ n op a = kWait1 υ n op → (x = 1 ∧ kReady υ n op = true ∨ x = 0 ∧ kReady υ n op = false) → ty_V cnC p l e (rmL 2) s m args below meth c D ad cA (ty_Gd cnC ad s) 6 (MQ below (ty_Q cnC D ad cA (fun r σ' => r = some (.inl (kWait σ n op a).1) ∧ σ' = (kWait σ n op a).2) (ty_A cnC ad)) args s 0 0 (ty_A cnC ad)) υ [some (.inr (1, 0)), some (.inl (nI n)), some (.inl op), some (.inl a), some (.inr (4, n)), none] 88 [.inl x] := by
    intro υ x hk hx
    refine v_istore (pc := 88) C d_Course_waitIn_88 (by decide) ?_
    refine v_iload (pc := 90) C d_Course_waitIn_90 rfl ?_
    refine v_if_ne (pc := 92) (tgt := 97) C d_Course_waitIn_92 (by decide) (fun h92 => ?_) (fun h92 => ?_)
    · refine v_aload (pc := 97) C d_Course_waitIn_97 rfl ?_
      refine v_iconst (pc := 99) (v := 0) C d_Course_waitIn_99 (by decide) ?_
      refine pf_Course_212 (pc := 100) C rfl rfl d_Course_waitIn_100 ?_
      refine v_aload (pc := 103) C d_Course_waitIn_103 rfl ?_
      refine v_dup (pc := 105) C d_Course_waitIn_105 ?_
      refine gf_Course_177 (pc := 106) C d_Course_waitIn_106 ?_
      refine v_iconst (pc := 109) (v := 1) C d_Course_waitIn_109 (by decide) ?_
      refine v_iadd (pc := 110) C d_Course_waitIn_110 ?_
      refine pf_Course_177 (pc := 111) C d_Course_waitIn_111 ?_
      refine v_iconst (pc := 114) (v := 1) C d_Course_waitIn_114 (by decide) ?_
      exact v_zreturn (pc := 115) C hr rfl ⟨by rw [hk]; unfold kWait1; rw [if_pos (by rcases hx with ⟨_, h⟩ | ⟨rfl, _⟩; exact h; exact absurd rfl h92)], by rw [hk]; unfold kWait1; rw [if_pos (by rcases hx with ⟨_, h⟩ | ⟨rfl, _⟩; exact h; exact absurd rfl h92)]; rfl⟩ d_Course_waitIn_115
    · refine v_iconst (pc := 95) (v := 0) C d_Course_waitIn_95 (by decide) ?_
      exact v_zreturn (pc := 96) C hr rfl ⟨by rw [hk]; unfold kWait1; rw [if_neg (by rcases hx with ⟨rfl, _⟩ | ⟨_, h⟩; exact absurd h92 (by decide); rw [h]; decide)], by rw [hk]; unfold kWait1; rw [if_neg (by rcases hx with ⟨rfl, _⟩ | ⟨_, h⟩; exact absurd h92 (by decide); rw [h]; decide)]⟩ d_Course_waitIn_96
  have rest2 : ∀ υ : ty_St, kWait σ n op a = kWait1 υ n op → υ 1 0 8 = nI sc → ty_V cnC p l e (rmL 2) s m args below meth c D ad cA (ty_Gd cnC ad s) 6 (MQ below (ty_Q cnC D ad cA (fun r σ' => r = some (.inl (kWait σ n op a).1) ∧ σ' = (kWait σ n op a).2) (ty_A cnC ad)) args s 0 0 (ty_A cnC ad)) υ [some (.inr (1, 0)), some (.inl (nI n)), some (.inl op), some (.inl a), some (.inr (4, n)), none] 52 [] := by
    intro υ hk h8
    have hns : nn (υ 1 0 8) = sc := by rw [h8]; exact nI_clamp (by omega)
    refine v_iload_n (pc := 52) C d_Course_waitIn_52 rfl rfl ?_
    refine v_bipush (pc := 53) (v := 7) C d_Course_waitIn_53 (by decide) ?_
    refine v_icmp_ne (pc := 55) (tgt := 66) C d_Course_waitIn_55 (by decide) (fun h55 => ?_) (fun h55 => ?_)
    · refine v_iload_n (pc := 66) C d_Course_waitIn_66 rfl rfl ?_
      refine v_iconst (pc := 67) (v := 2) C d_Course_waitIn_67 (by decide) ?_
      refine v_icmp_eq (pc := 68) (tgt := 87) C d_Course_waitIn_68 (by decide) (fun h68 => ?_) (fun h68 => ?_)
      · refine v_iconst (pc := 87) (v := 0) C d_Course_waitIn_87 (by decide) ?_
        refine rest3 υ _ hk ?_
        unfold kReady
        first | (rw [if_pos h55, hns]; by_cases e : kOver υ n sc = true <;> simp [e]; done) | (rw [if_neg h55]; simp [h68]; done) | (rw [if_neg h55]; simp [h68, Int32.not_lt.mp h80]; done) | (rw [if_neg h55]; simp [h68, Int32.not_le.mpr h80]; done)
      · refine v_aload_n (pc := 71) C d_Course_waitIn_71 rfl rfl ?_
        refine gf_Course_87 (pc := 72) C d_Course_waitIn_72 ?_
        refine v_aload (pc := 75) C d_Course_waitIn_75 rfl ?_
        refine gf_Course_215 (pc := 77) C d_Course_waitIn_77 ?_
        refine v_icmp_lt (pc := 80) (tgt := 87) C d_Course_waitIn_80 (by decide) (fun h80 => ?_) (fun h80 => ?_)
        · refine v_iconst (pc := 87) (v := 0) C d_Course_waitIn_87 (by decide) ?_
          refine rest3 υ _ hk ?_
          unfold kReady
          first | (rw [if_pos h55, hns]; by_cases e : kOver υ n sc = true <;> simp [e]; done) | (rw [if_neg h55]; simp [h68]; done) | (rw [if_neg h55]; simp [h68, Int32.not_lt.mp h80]; done) | (rw [if_neg h55]; simp [h68, Int32.not_le.mpr h80]; done)
        · refine v_iconst (pc := 83) (v := 1) C d_Course_waitIn_83 (by decide) ?_
          refine v_goto (pc := 84) (tgt := 88) C d_Course_waitIn_84 (by decide) ?_
          refine rest3 υ _ hk ?_
          unfold kReady
          first | (rw [if_pos h55, hns]; by_cases e : kOver υ n sc = true <;> simp [e]; done) | (rw [if_neg h55]; simp [h68]; done) | (rw [if_neg h55]; simp [h68, Int32.not_lt.mp h80]; done) | (rw [if_neg h55]; simp [h68, Int32.not_le.mpr h80]; done)
    · refine v_aload_n (pc := 58) C d_Course_waitIn_58 rfl rfl ?_
      refine v_iload_n (pc := 59) C d_Course_waitIn_59 rfl rfl ?_
      refine cl_Course_222 (pc := 60) C (c_Course_over l hJ υ sc hsc h8 n) ⟨rfl, rfl, by decide, by decide⟩ rfl rfl (Nat.le_of_ble_eq_true rfl) d_Course_waitIn_60 (fun r σ' hq => ?_)
      rw [hq.1, hq.2]
      refine v_goto (pc := 63) (tgt := 88) C d_Course_waitIn_63 (by decide) ?_
      refine rest3 υ _ hk ?_
      unfold kReady
      first | (rw [if_pos h55, hns]; by_cases e : kOver υ n sc = true <;> simp [e]; done) | (rw [if_neg h55]; simp [h68]; done) | (rw [if_neg h55]; simp [h68, Int32.not_lt.mp h80]; done) | (rw [if_neg h55]; simp [h68, Int32.not_le.mpr h80]; done)
  have rest1 : ∀ τ : ty_St, τ = kWait0 σ n a → τ 1 0 8 = nI sc → τ 4 n 6 = σ 4 n 6 → τ 4 n 0 = σ 4 n 0 → τ 4 n 3 = σ 4 n 3 → ty_V cnC p l e (rmL 2) s m args below meth c D ad cA (ty_Gd cnC ad s) 6 (MQ below (ty_Q cnC D ad cA (fun r σ' => r = some (.inl (kWait σ n op a).1) ∧ σ' = (kWait σ n op a).2) (ty_A cnC ad)) args s 0 0 (ty_A cnC ad)) τ [some (.inr (1, 0)), some (.inl (nI n)), some (.inl op), some (.inl a), some (.inr (4, n)), none] 33 [] := by
    intro τ hτ h8 h6 h0 h3
    have t8 : (kTake τ n) 1 0 8 = nI sc := h8
    have t0 : (kTake τ n) 4 n 0 = σ 4 n 0 := (up_sj (by decide)).trans h0
    have t3 : (kTake τ n) 4 n 3 = nI z := ((up_sj (by decide)).trans h3).trans hat
    refine v_iload_n (pc := 33) C d_Course_waitIn_33 rfl rfl ?_
    refine v_if_eq (pc := 34) (tgt := 52) C d_Course_waitIn_34 (by decide) (fun h34 => ?_) (fun h34 => ?_)
    · first | exact rest2 τ (by unfold kWait; rw [if_pos h34, hτ]) h8 | exact rest2 (kTake τ n) (by unfold kWait; rw [if_neg h34, ← hτ, if_neg (fun q => q h42)]) t8
    · refine v_aload (pc := 37) C d_Course_waitIn_37 rfl ?_
      refine cl_Course_203 (pc := 39) C (c_Strand_takeMark l hJ τ n hn (by rw [h6]; exact hm)) ⟨rfl, rfl, by decide, by decide⟩ rfl rfl (Nat.le_of_ble_eq_true rfl) d_Course_waitIn_39 (fun r σ' hq => ?_)
      rw [hq.1, hq.2]
      refine v_if_eq (pc := 42) (tgt := 52) C d_Course_waitIn_42 (by decide) (fun h42 => ?_) (fun h42 => ?_)
      · first | exact rest2 τ (by unfold kWait; rw [if_pos h34, hτ]) h8 | exact rest2 (kTake τ n) (by unfold kWait; rw [if_neg h34, ← hτ, if_neg (fun q => q h42)]) t8
      · refine v_aload_n (pc := 45) C d_Course_waitIn_45 rfl rfl ?_
        refine v_aload (pc := 46) C d_Course_waitIn_46 rfl ?_
        refine cl_Course_218 (pc := 48) C (c_Course_interrupt l hJ (kTake τ n) n hn (by rw [t0]; exact hqq) z hz t3) ⟨rfl, rfl, by decide, by decide⟩ rfl rfl (Nat.le_of_ble_eq_true rfl) d_Course_waitIn_48 (fun r σ' hq => ?_)
        rw [hq.1, hq.2]
        exact v_zreturn (pc := 51) C hr (by rcases kInterrupt_01 (kTake τ n) n with h | h <;> rw [h] <;> rfl) ⟨by unfold kWait; rw [if_neg h34, ← hτ, if_pos h42], by unfold kWait; rw [if_neg h34, ← hτ, if_pos h42]⟩ d_Course_waitIn_51
  refine v_aload_n (pc := 0) C d_Course_waitIn_0 rfl rfl ?_
  refine gf_Course_25 (pc := 1) C d_Course_waitIn_1 ?_
  refine v_iload_n (pc := 4) C d_Course_waitIn_4 rfl rfl ?_
  refine v_aaloadK (pc := 5) C rfl rfl (by decide) (rfl) (hn) (by decide) d_Course_waitIn_5 ?_
  refine v_astore (pc := 6) C d_Course_waitIn_6 (by decide) ?_
  refine v_aload (pc := 8) C d_Course_waitIn_8 rfl ?_
  refine gf_Course_212 (pc := 10) C d_Course_waitIn_10 ?_
  refine v_if_ne (pc := 13) (tgt := 33) C d_Course_waitIn_13 (by decide) (fun h13 => ?_) (fun h13 => ?_)
  · first | exact rest1 σ (by unfold kWait0; rw [if_neg h13]) hc rfl rfl rfl | exact rest1 _ (by unfold kWait0; rw [if_pos h13]; rfl) hc (by rw [up_sj (by decide), up_sj (by decide)]) (by rw [up_sj (by decide), up_sj (by decide)]) (by rw [up_sj (by decide), up_sj (by decide)])
  · refine v_aload (pc := 16) C d_Course_waitIn_16 rfl ?_
    refine v_iconst (pc := 18) (v := 1) C d_Course_waitIn_18 (by decide) ?_
    refine pf_Course_212 (pc := 19) C rfl rfl d_Course_waitIn_19 ?_
    refine v_aload (pc := 22) C d_Course_waitIn_22 rfl ?_
    refine v_aload_n (pc := 24) C d_Course_waitIn_24 rfl rfl ?_
    refine gf_Course_87 (pc := 25) C d_Course_waitIn_25 ?_
    refine v_iload_n (pc := 28) C d_Course_waitIn_28 rfl rfl ?_
    refine v_iadd (pc := 29) C d_Course_waitIn_29 ?_
    refine pf_Course_215 (pc := 30) C d_Course_waitIn_30 ?_
    first | exact rest1 σ (by unfold kWait0; rw [if_neg h13]) hc rfl rfl rfl | exact rest1 _ (by unfold kWait0; rw [if_pos h13]; rfl) hc (by rw [up_sj (by decide), up_sj (by decide)]) (by rw [up_sj (by decide), up_sj (by decide)]) (by rw [up_sj (by decide), up_sj (by decide)])
