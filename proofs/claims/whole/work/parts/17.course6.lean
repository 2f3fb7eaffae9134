section KINV2
variable {tc wc B : Nat} {σ : ty_St}
theorem kStartS_3 {q t st : Int32} {n : Nat} : (kStartS σ q t st) 4 n 3 = σ 4 n 3 ∨ (kStartS σ q t st) 4 n 3 = nI 0 := by
  unfold kStartS
  split
  · dsimp only
    rw [up_a (by decide), up_a (by decide)]
    unfold kStart
    by_cases e : n = nn (σ 1 0 8)
    · right
      rw [e, up_sj (by decide), up_sj (by decide), up_sj (by decide), up_sj (by decide), up_sj (by decide), up_sj (by decide), up_ss]
      rfl
    · left
      simp only [up_i e]
  · exact Or.inl rfl
theorem kLog_4 {i : Nat} {x : Int32} : (kLog σ i x) 4 = σ 4 := by
  unfold kLog
  rw [up_a (by decide)]
  split
  · rw [up_a (by decide)]
  · rfl
theorem kMark_43 {n m j : Nat} (h : ¬ j = 6) : ∀ k, (kMark σ n k) 4 m j = σ 4 m j
  | 0 => rfl
  | k + 1 => by
    unfold kMark
    split
    · by_cases e : m = k
      · rw [e, up_sj h]; exact kMark_43 h k
      · rw [up_i e]; exact kMark_43 h k
    · exact kMark_43 h k
theorem kAtOnce_3 {n : Nat} {op a : Int32} : (kAtOnce σ n op a) 4 n 3 = σ 4 n 3 ∨ (kAtOnce σ n op a) 4 n 3 = nI 0 := by
  unfold kAtOnce
  split
  · split
    · exact kStartS_3
    · exact Or.inl rfl
  · split
    · left; rw [kLog_4]
    · split
      · left; rw [kLog_4]; exact up_sj (by decide)
      · split
        · left; exact up_sj (by decide)
        · split
          · left; exact kMark_43 (by decide) _
          · exact Or.inl rfl
theorem kInv.action (h : kInv tc wc B σ) {n : Nat} (hn : n < 52) (hB : B < 2000000000) : kInv tc wc (B + 1) (kAction σ n).2 := by
  obtain ⟨hq, ht, ⟨z, hz, hat⟩, hm⟩ := h.2.2.2.2.2.1 n hn
  have hq10 := vp_lt hq
  obtain ⟨w, hw, hsz⟩ := h.2.2.1 _ hq10
  unfold kAction
  dsimp only
  split
  · exact (h.endS n _).mono (by omega)
  · rename_i hlt
    have hzw : z < w := by
      rw [hsz, hat] at hlt
      exact (nI_ltI (by omega) (by omega)).mp (Int32.not_le.mp hlt)
    have hzc : nn (σ 4 n 3) = z := by rw [hat]; exact nI_clamp (by omega)
    split
    · exact (h.wait hn (show z < 10 by omega) hat _ _).mono (by omega)
    · split
      · exact (h.endS n _).mono (by omega)
      · split
        · exact (h.endS n _).mono (by omega)
        · have g := h.atOnce hn hB (σ 6 (nn (σ 4 n 0)) (nn (σ 4 n 3))) (σ 7 (nn (σ 4 n 0)) (nn (σ 4 n 3))) (fun q => by
            rw [hzc] at q ⊢
            exact (h.2.2.2.1 _ z hq10 (by omega)).1 q)
          rcases kAtOnce_3 (σ := σ) (n := n) (op := σ 6 (nn (σ 4 n 0)) (nn (σ 4 n 3))) (a := σ 7 (nn (σ 4 n 0)) (nn (σ 4 n 3))) with e | e
          · exact g.at1 (show z < 20 by omega) (e.trans hat)
          · exact g.at1 (show 0 < 20 by omega) e
theorem kInv.steps {n : Nat} (hn : n < 52) : ∀ (k B : Nat) (σ : ty_St), kInv tc wc B σ → B + k < 2000000000 → kInv tc wc (B + k) (kSteps n k σ)
  | 0, _, _, h, _ => h
  | k + 1, B, σ, h, hB => by
    unfold kSteps
    have g := h.action hn (by omega)
    split
    · exact g.mono (by omega)
    · have := kInv.steps hn k (B + 1) _ g (by omega)
      rw [show B + 1 + k = B + (k + 1) by omega] at this
      exact this
theorem kInv.byDeath (h : kInv tc wc B σ) (t : Nat) (d x : Int32) : kInv tc wc B (kByDeath σ t d x) :=
  ((h.up3 (by decide) (by decide) (by decide)).up3 (by decide) (by decide) (by decide)).up3 (by decide) (by decide) (by decide)
theorem kInv.tell (h : kInv tc wc B σ) (hB : B < 2000000000) (n : Nat) : kInv tc wc (B + 1) (kTell σ n) := by
  unfold kTell
  dsimp only
  split
  · split
    · exact h.log (by decide) hB _
    · exact h.mono (by omega)
  · split
    · exact (h.byDeath _ _ _).mono (by omega)
    · split
      · exact (h.up3 (by decide) (by decide) (by decide)).mono (by omega)
      · exact h.mono (by omega)
theorem kInv.turn (h : kInv tc wc B σ) {n : Nat} (hn : n < 52) (hB : B + 12 < 2000000000) : kInv tc wc (B + 12) (kTurn σ n) := by
  have g := kInv.steps hn 11 B σ h (by omega)
  unfold kTurn
  split
  · exact g.tell (by omega) n
  · exact g.mono (by omega)
theorem kInv.turns : ∀ (k : Nat), k ≤ 52 → kInv tc wc B σ → B + 12 * k < 2000000000 → kInv tc wc (B + 12 * k) (kTurns σ k)
  | 0, _, h, _ => h
  | k + 1, hk, h, hB => by
    have g := kInv.turns k (by omega) h (by omega)
    unfold kTurns
    split
    · have := g.turn (show k < 52 by omega) (by omega)
      rw [show B + 12 * k + 12 = B + 12 * (k + 1) by omega] at this
      exact this
    · exact g.mono (by omega)
end KINV2
set_option maxRecDepth 100000 in
set_option maxHeartbeats 4000000 in
theorem c_Course_tell (l : Launch) {D : va_G} {ad : Nat → Nat → Nat} {cA : Nat → ClassId} (hJ : ty_J cnC ad) (σ : ty_St) (n : Nat) (hn : n < 52) (ht : vp_in (σ 4 n 1) 12) (hl : ¬ σ 5 1 1 < 0) : ty_M l y_Course_tellEnd (Cond.code y_Course_tellEnd b_Course_tellEnd 5 none :: ty_w) (rmL 2) cnC D ad cA [.inr (1, 0), .inl (nI n)] σ (fun r σ' => r = none ∧ σ' = kTell σ n) := by
  refine ty_M.of rfl hJ layC (ty_oks.cons (show (0 : Nat) < cnC 1 by decide) (ty_oks.cons trivial ty_oks.nil)) (Nat.le_of_ble_eq_true rfl) ?_
  intro p e s m args below meth c C hr hnm
  have rest : ∀ x : Int32, (x = 1 ∧ (¬ σ 4 n 9 = -1 ∧ σ 4 n 7 = 0) ∨ x = 0 ∧ ¬ (¬ σ 4 n 9 = -1 ∧ σ 4 n 7 = 0)) → ty_V cnC p l e (rmL 2) s m args below meth c D ad cA (ty_Gd cnC ad s) 5 (MQ below (ty_Q cnC D ad cA (fun r σ' => r = none ∧ σ' = kTell σ n) (ty_A cnC ad)) args s 0 0 (ty_A cnC ad)) σ [some (.inr (1, 0)), some (.inl (nI n)), some (.inr (4, n)), some (.inr (3, nn (σ 4 n 1))), none] 37 [.inl x] := by
    intro x hx
    refine v_istore (pc := 37) C d_Course_tellEnd_37 (by decide) ?_
    refine v_aload_n (pc := 39) C d_Course_tellEnd_39 rfl rfl ?_
    refine gf_Course_93 (pc := 40) C d_Course_tellEnd_40 ?_
    refine v_if_eq (pc := 43) (tgt := 74) C d_Course_tellEnd_43 (by decide) (fun h43 => ?_) (fun h43 => ?_)
    · refine v_iload_n (pc := 74) C d_Course_tellEnd_74 rfl rfl ?_
      refine v_aload_n (pc := 75) C d_Course_tellEnd_75 rfl rfl ?_
      refine gf_Course_114 (pc := 76) C d_Course_tellEnd_76 ?_
      refine v_icmp_ne (pc := 79) (tgt := 97) C d_Course_tellEnd_79 (by decide) (fun h79 => ?_) (fun h79 => ?_)
      · refine v_iload (pc := 97) C d_Course_tellEnd_97 rfl ?_
        refine v_if_eq (pc := 99) (tgt := 118) C d_Course_tellEnd_99 (by decide) (fun h99 => ?_) (fun h99 => ?_)
        · exact v_return (pc := 118) C hr ⟨rfl, by unfold kTell; dsimp only; rw [if_neg (fun q => q h43)]; rw [if_neg h79]; rw [if_neg (fun q => by rcases hx with ⟨rfl, _⟩ | ⟨_, hh⟩; exact absurd h99 (by decide); exact hh q.1)]⟩ d_Course_tellEnd_118
        · refine v_aload_n (pc := 102) C d_Course_tellEnd_102 rfl rfl ?_
          refine gf_Course_238 (pc := 103) C d_Course_tellEnd_103 ?_
          refine v_iconst (pc := 106) (v := (-1)) C d_Course_tellEnd_106 (by decide) ?_
          refine v_icmp_ne (pc := 107) (tgt := 118) C d_Course_tellEnd_107 (by decide) (fun h107 => ?_) (fun h107 => ?_)
          · exact v_return (pc := 118) C hr ⟨rfl, by unfold kTell; dsimp only; rw [if_neg (fun q => q h43)]; rw [if_neg h79]; rw [if_neg (fun q => h107 q.2)]⟩ d_Course_tellEnd_118
          · refine v_aload_n (pc := 110) C d_Course_tellEnd_110 rfl rfl ?_
            refine v_aload_n (pc := 111) C d_Course_tellEnd_111 rfl rfl ?_
            refine gf_Course_232 (pc := 112) C d_Course_tellEnd_112 ?_
            refine pf_Course_238 (pc := 115) C d_Course_tellEnd_115 ?_
            exact v_return (pc := 118) C hr ⟨rfl, by unfold kTell; dsimp only; rw [if_neg (fun q => q h43)]; rw [if_neg h79]; rw [if_pos ⟨by rcases hx with ⟨_, hh⟩ | ⟨rfl, _⟩; exact hh; exact absurd rfl h99, h107⟩]⟩ d_Course_tellEnd_118
      · refine v_aload_n (pc := 82) C d_Course_tellEnd_82 rfl rfl ?_
        refine v_aload_n (pc := 83) C d_Course_tellEnd_83 rfl rfl ?_
        refine gf_Course_232 (pc := 84) C d_Course_tellEnd_84 ?_
        refine v_aload_n (pc := 87) C d_Course_tellEnd_87 rfl rfl ?_
        refine gf_Course_87 (pc := 88) C d_Course_tellEnd_88 ?_
        refine cl_Course_235 (pc := 91) C (c_Trial_byDeath l hJ σ (nn (σ 4 n 1)) (vp_lt ht) _ _) ⟨rfl, rfl, by decide, by decide⟩ rfl rfl (Nat.le_of_ble_eq_true rfl) d_Course_tellEnd_91 (fun r σ' hq => ?_)
        rw [hq.1, hq.2]
        refine v_goto (pc := 94) (tgt := 118) C d_Course_tellEnd_94 (by decide) ?_
        exact v_return (pc := 118) C hr ⟨rfl, by unfold kTell; dsimp only; rw [if_neg (fun q => q h43)]; rw [if_pos h79]⟩ d_Course_tellEnd_118
    · refine v_iload (pc := 46) C d_Course_tellEnd_46 rfl ?_
      refine v_if_eq (pc := 48) (tgt := 118) C d_Course_tellEnd_48 (by decide) (fun h48 => ?_) (fun h48 => ?_)
      · exact v_return (pc := 118) C hr ⟨rfl, by unfold kTell; dsimp only; rw [if_pos h43]; rw [if_neg (by rcases hx with ⟨rfl, _⟩ | ⟨_, hh⟩; exact absurd h48 (by decide); exact hh)]⟩ d_Course_tellEnd_118
      · refine v_aload_n (pc := 51) C d_Course_tellEnd_51 rfl rfl ?_
        refine gf_Course_42 (pc := 52) C d_Course_tellEnd_52 ?_
        refine v_sipush (pc := 55) (v := 1000) C d_Course_tellEnd_55 (by decide) ?_
        refine v_aload_n (pc := 58) C d_Course_tellEnd_58 rfl rfl ?_
        refine gf_Course_197 (pc := 59) C d_Course_tellEnd_59 ?_
        refine v_imul (pc := 62) C d_Course_tellEnd_62 ?_
        refine v_aload_n (pc := 63) C d_Course_tellEnd_63 rfl rfl ?_
        refine gf_Course_232 (pc := 64) C d_Course_tellEnd_64 ?_
        refine v_iadd (pc := 67) C d_Course_tellEnd_67 ?_
        refine cl_Course_200 (pc := 68) C (c_Log_add l hJ σ 1 (by decide) hl _) ⟨rfl, rfl, by decide, by decide⟩ rfl rfl (Nat.le_of_ble_eq_true rfl) d_Course_tellEnd_68 (fun r σ' hq => ?_)
        rw [hq.1, hq.2]
        refine v_goto (pc := 71) (tgt := 118) C d_Course_tellEnd_71 (by decide) ?_
        exact v_return (pc := 118) C hr ⟨rfl, by unfold kTell; dsimp only; rw [if_pos h43]; rw [if_pos (by rcases hx with ⟨_, hh⟩ | ⟨rfl, _⟩; exact hh; exact absurd rfl h48)]⟩ d_Course_tellEnd_118
  refine v_aload_n (pc := 0) C d_Course_tellEnd_0 rfl rfl ?_
  refine gf_Course_25 (pc := 1) C d_Course_tellEnd_1 ?_
  refine v_iload_n (pc := 4) C d_Course_tellEnd_4 rfl rfl ?_
  refine v_aaloadK (pc := 5) C rfl rfl (by decide) (rfl) (hn) (by decide) d_Course_tellEnd_5 ?_
  refine v_astore_n (pc := 6) C d_Course_tellEnd_6 rfl (by decide) ?_
  refine v_aload_n (pc := 7) C d_Course_tellEnd_7 rfl rfl ?_
  refine gf_Course_19 (pc := 8) C d_Course_tellEnd_8 ?_
  refine v_aload_n (pc := 11) C d_Course_tellEnd_11 rfl rfl ?_
  refine gf_Course_197 (pc := 12) C d_Course_tellEnd_12 ?_
  refine v_aaload (pc := 15) C rfl rfl (by decide) ht d_Course_tellEnd_15 ?_
  refine v_astore_n (pc := 16) C d_Course_tellEnd_16 rfl (by decide) ?_
  refine v_aload_n (pc := 17) C d_Course_tellEnd_17 rfl rfl ?_
  refine gf_Course_232 (pc := 18) C d_Course_tellEnd_18 ?_
  refine v_iconst (pc := 21) (v := (-1)) C d_Course_tellEnd_21 (by decide) ?_
  refine v_icmp_eq (pc := 22) (tgt := 36) C d_Course_tellEnd_22 (by decide) (fun h22 => ?_) (fun h22 => ?_)
  · refine v_iconst (pc := 36) (v := 0) C d_Course_tellEnd_36 (by decide) ?_
    refine rest _ (Or.inr ⟨rfl, fun q => q.1 h22⟩)
  · refine v_aload_n (pc := 25) C d_Course_tellEnd_25 rfl rfl ?_
    refine gf_Course_206 (pc := 26) C d_Course_tellEnd_26 ?_
    refine v_if_ne (pc := 29) (tgt := 36) C d_Course_tellEnd_29 (by decide) (fun h29 => ?_) (fun h29 => ?_)
    · refine v_iconst (pc := 36) (v := 0) C d_Course_tellEnd_36 (by decide) ?_
      refine rest _ (Or.inr ⟨rfl, fun q => h29 q.2⟩)
    · refine v_iconst (pc := 32) (v := 1) C d_Course_tellEnd_32 (by decide) ?_
      refine v_goto (pc := 33) (tgt := 37) C d_Course_tellEnd_33 (by decide) ?_
      refine rest _ (Or.inl ⟨rfl, h22, h29⟩)
set_option maxRecDepth 100000 in
set_option maxHeartbeats 4000000 in
theorem c_Course_turn (l : Launch) {D : va_G} {ad : Nat → Nat → Nat} {cA : Nat → ClassId} (hJ : ty_J cnC ad) (σ : ty_St) (tc wc B : Nat) (hI : kInv tc wc B σ) (hB : B + 12 < 2000000000) (n : Nat) (hn : n < 52) : ty_M l y_Course_takeTurn (Cond.code y_Course_takeTurn b_Course_takeTurn 4 none :: ty_w) (rmL 4) cnC D ad cA [.inr (1, 0), .inl (nI n)] σ (fun r σ' => r = none ∧ σ' = kTurn σ n) := by
  refine ty_M.of rfl hJ layC (ty_oks.cons (show (0 : Nat) < cnC 1 by decide) (ty_oks.cons trivial ty_oks.nil)) (Nat.le_of_ble_eq_true rfl) ?_
  intro p e s m args below meth c C hr hnm
  have gI := kInv.steps hn 11 B σ hI (by omega)
  have fin : ∀ (τ : ty_St) (g x : Int32), τ = kSteps n 11 σ → ty_V cnC p l e (rmL 4) s m args below meth c D ad cA (ty_Gd cnC ad s) 4 (MQ below (ty_Q cnC D ad cA (fun r σ' => r = none ∧ σ' = kTurn σ n) (ty_A cnC ad)) args s 0 0 (ty_A cnC ad)) τ [some (.inr (1, 0)), some (.inl (nI n)), some (.inl g), some (.inl x)] 26 [] := by
    intro τ g x hτ
    rw [hτ]
    refine v_aload_n (pc := 26) C d_Course_takeTurn_26 rfl rfl ?_
    refine gf_Course_25 (pc := 27) C d_Course_takeTurn_27 ?_
    refine v_iload_n (pc := 30) C d_Course_takeTurn_30 rfl rfl ?_
    refine v_aaloadK (pc := 31) C rfl rfl (by decide) (rfl) (hn) (by decide) d_Course_takeTurn_31 ?_
    refine gf_Course_125 (pc := 32) C d_Course_takeTurn_32 ?_
    refine v_if_eq (pc := 35) (tgt := 43) C d_Course_takeTurn_35 (by decide) (fun h35 => ?_) (fun h35 => ?_)
    · exact v_return (pc := 43) C hr ⟨rfl, by unfold kTurn; rw [if_neg (fun q => q h35)]⟩ d_Course_takeTurn_43
    · refine v_aload_n (pc := 38) C d_Course_takeTurn_38 rfl rfl ?_
      refine v_iload_n (pc := 39) C d_Course_takeTurn_39 rfl rfl ?_
      refine cl_Course_173 (pc := 40) C (c_Course_tell l hJ (kSteps n 11 σ) n hn (gI.2.2.2.2.2.1 n hn).2.1 (gI.nlog (by decide) (by omega))) ⟨rfl, rfl, by decide, by decide⟩ rfl rfl (Nat.le_of_ble_eq_true rfl) d_Course_takeTurn_40 (fun r σ' hq => ?_)
      rw [hq.1, hq.2]
      exact v_return (pc := 43) C hr ⟨rfl, by unfold kTurn; rw [if_pos h35]⟩ d_Course_takeTurn_43
  have loop : ∀ k i, i + k = 11 → ∀ (τ : ty_St) (g : Int32) (B' : Nat), kInv tc wc B' τ → B' + k ≤ B + 11 → (g = 0 ∧ kSteps n 11 σ = τ ∨ ¬ g = 0 ∧ kSteps n 11 σ = kSteps n k τ) → ty_V cnC p l e (rmL 4) s m args below meth c D ad cA (ty_Gd cnC ad s) 4 (MQ below (ty_Q cnC D ad cA (fun r σ' => r = none ∧ σ' = kTurn σ n) (ty_A cnC ad)) args s 0 0 (ty_A cnC ad)) τ [some (.inr (1, 0)), some (.inl (nI n)), some (.inl g), some (.inl (nI i))] 4 [] := by
    intro k
    induction k with
    | zero =>
      intro i hi τ g B' hI' hB' hg
      have hτ : τ = kSteps n 11 σ := by rcases hg with ⟨_, e⟩ | ⟨_, e⟩ <;> exact e.symm
      refine v_iload_n (pc := 4) C d_Course_takeTurn_4 rfl rfl ?_
      refine v_bipush (pc := 5) (v := 10) C d_Course_takeTurn_5 (by decide) ?_
      refine v_icmp_gt (pc := 7) (tgt := 26) C d_Course_takeTurn_7 (by decide) (fun h7 => ?_) (fun h7 => ?_)
      · exact fin τ _ _ hτ
      · exact absurd (show (10 : Int32) < nI i from nI_lt (show 10 < i by omega) (by omega)) h7
    | succ k ih =>
      intro i hi τ g B' hI' hB' hg
      have hf := hI'.2.2.2.2.2.1 n hn
      obtain ⟨sc, hsc, _, hc⟩ := hI'.2.1
      refine v_iload_n (pc := 4) C d_Course_takeTurn_4 rfl rfl ?_
      refine v_bipush (pc := 5) (v := 10) C d_Course_takeTurn_5 (by decide) ?_
      refine v_icmp_gt (pc := 7) (tgt := 26) C d_Course_takeTurn_7 (by decide) (fun h7 => ?_) (fun h7 => ?_)
      · exact absurd h7 (nI_nlt (show i ≤ 10 by omega) (by decide))
      · refine v_iload_n (pc := 10) C d_Course_takeTurn_10 rfl rfl ?_
        refine v_if_eq (pc := 11) (tgt := 26) C d_Course_takeTurn_11 (by decide) (fun h11 => ?_) (fun h11 => ?_)
        · exact fin τ _ _ (by rcases hg with ⟨_, e⟩ | ⟨e, _⟩; exact e.symm; exact absurd h11 e)
        · refine v_aload_n (pc := 14) C d_Course_takeTurn_14 rfl rfl ?_
          refine v_iload_n (pc := 15) C d_Course_takeTurn_15 rfl rfl ?_
          refine cl_Course_170 (pc := 16) C (c_Course_action l hJ τ sc hsc hc n hn hf.2.2.2 hf.1 hf.2.1 (hI'.nlog (by decide) (by omega)) (by obtain ⟨z, hz, e⟩ := hf.2.2.1; exact ⟨z, by omega, e⟩) (hI'.2.2.1 _ (vp_lt hf.1))) ⟨rfl, rfl, by decide, by decide⟩ rfl rfl (Nat.le_of_ble_eq_true rfl) d_Course_takeTurn_16 (fun r σ' hq => ?_)
          rw [hq.1, hq.2]
          refine v_istore_n (pc := 19) C d_Course_takeTurn_19 rfl (by decide) ?_
          refine v_iinc (pc := 20) C d_Course_takeTurn_20 rfl (show _ + Int32.ofInt 1 = _ + 1 from rfl) (by decide) ?_
          refine v_goto (pc := 23) (tgt := 4) C d_Course_takeTurn_23 (by decide) ?_
          rw [nI_1 i]
          refine ih (i + 1) (by omega) _ _ (B' + 1) (hI'.action hn (by omega)) (by omega) ?_
          rcases hg with ⟨e, _⟩ | ⟨_, e⟩
          · exact absurd e h11
          · by_cases e0 : (kAction τ n).1 = 0
            · exact Or.inl ⟨e0, by rw [e, kSteps, if_pos e0]⟩
            · exact Or.inr ⟨e0, by rw [e, kSteps, if_neg e0]⟩
  refine v_iconst (pc := 0) (v := 1) C d_Course_takeTurn_0 (by decide) ?_
  refine v_istore_n (pc := 1) C d_Course_takeTurn_1 rfl (by decide) ?_
  refine v_iconst (pc := 2) (v := 0) C d_Course_takeTurn_2 (by decide) ?_
  refine v_istore_n (pc := 3) C d_Course_takeTurn_3 rfl (by decide) ?_
  exact loop 11 0 (by omega) σ 1 B hI (by omega) (Or.inr ⟨by decide, rfl⟩)
set_option maxRecDepth 100000 in
set_option maxHeartbeats 4000000 in
theorem c_Course_turns (l : Launch) {D : va_G} {ad : Nat → Nat → Nat} {cA : Nat → ClassId} (hJ : ty_J cnC ad) (σ : ty_St) (tc wc B : Nat) (hI : kInv tc wc B σ) (hB : B + 700 < 2000000000) (sc : Nat) (hsc : sc ≤ 52) (hc : σ 1 0 8 = nI sc) : ty_M l y_Course_takeTurns (Cond.code y_Course_takeTurns b_Course_takeTurns 3 none :: ty_w) (rmL 5) cnC D ad cA [.inr (1, 0)] σ (fun r σ' => r = none ∧ σ' = kTurns σ sc) := by
  refine ty_M.of rfl hJ layC (ty_oks.cons (show (0 : Nat) < cnC 1 by decide) ty_oks.nil) (Nat.le_of_ble_eq_true rfl) ?_
  intro p e s m args below meth c C hr hnm
  have loop : ∀ k i, i + k = sc → ∀ τ : ty_St, τ = kTurns σ i → ty_V cnC p l e (rmL 5) s m args below meth c D ad cA (ty_Gd cnC ad s) 3 (MQ below (ty_Q cnC D ad cA (fun r σ' => r = none ∧ σ' = kTurns σ sc) (ty_A cnC ad)) args s 0 0 (ty_A cnC ad)) τ [some (.inr (1, 0)), some (.inl (nI sc)), some (.inl (nI i))] 7 [] := by
    intro k
    induction k with
    | zero =>
      intro i hi τ hτ
      have hb := (rfl : nI sc = nI sc)
      refine v_iload_n (pc := 7) C d_Course_takeTurns_7 rfl rfl ?_
      refine v_iload_n (pc := 8) C d_Course_takeTurns_8 rfl rfl ?_
      refine v_icmp_ge (pc := 9) (tgt := 35) C d_Course_takeTurns_9 (by decide) (fun h9 => ?_) (fun h9 => ?_)
      · exact v_return (pc := 35) C hr ⟨rfl, by rw [hτ, show i = sc by omega]⟩ d_Course_takeTurns_35
      · exact absurd (by rw [hb]; exact nI_le (by omega) (by omega)) h9
    | succ k ih =>
      intro i hi τ hτ
      have hb := (rfl : nI sc = nI sc)
      refine v_iload_n (pc := 7) C d_Course_takeTurns_7 rfl rfl ?_
      refine v_iload_n (pc := 8) C d_Course_takeTurns_8 rfl rfl ?_
      refine v_icmp_ge (pc := 9) (tgt := 35) C d_Course_takeTurns_9 (by decide) (fun h9 => ?_) (fun h9 => ?_)
      · exact absurd h9 (by rw [hb]; exact nI_ge (by omega) (by omega))
      · refine v_aload_n (pc := 12) C d_Course_takeTurns_12 rfl rfl ?_
        refine gf_Course_25 (pc := 13) C d_Course_takeTurns_13 ?_
        refine v_iload_n (pc := 16) C d_Course_takeTurns_16 rfl rfl ?_
        refine v_aaloadK (pc := 17) C rfl rfl (by decide) (rfl) (by omega) (by decide) d_Course_takeTurns_17 ?_
        refine gf_Course_125 (pc := 18) C d_Course_takeTurns_18 ?_
        refine v_if_ne (pc := 21) (tgt := 29) C d_Course_takeTurns_21 (by decide) (fun h21 => ?_) (fun h21 => ?_)
        · refine v_iinc (pc := 29) C d_Course_takeTurns_29 rfl (show _ + Int32.ofInt 1 = _ + 1 from rfl) (by decide) ?_
          refine v_goto (pc := 32) (tgt := 7) C d_Course_takeTurns_32 (by decide) ?_
          rw [nI_1 i]
          refine ih (i + 1) (by omega) _ ?_
          unfold kTurns
          rw [← hτ]
          rw [if_neg h21]
        · refine v_aload_n (pc := 24) C d_Course_takeTurns_24 rfl rfl ?_
          refine v_iload_n (pc := 25) C d_Course_takeTurns_25 rfl rfl ?_
          refine cl_Course_167 (pc := 26) C (c_Course_turn l hJ τ tc wc (B + 12 * i) (by rw [hτ]; exact kInv.turns i (by omega) hI (by omega)) (by omega) i (by omega)) ⟨rfl, rfl, by decide, by decide⟩ rfl rfl (Nat.le_of_ble_eq_true rfl) d_Course_takeTurns_26 (fun r σ' hq => ?_)
          rw [hq.1, hq.2]
          refine v_iinc (pc := 29) C d_Course_takeTurns_29 rfl (show _ + Int32.ofInt 1 = _ + 1 from rfl) (by decide) ?_
          refine v_goto (pc := 32) (tgt := 7) C d_Course_takeTurns_32 (by decide) ?_
          rw [nI_1 i]
          refine ih (i + 1) (by omega) _ ?_
          unfold kTurns
          rw [← hτ]
          rw [if_pos h21]
  refine v_aload_n (pc := 0) C d_Course_takeTurns_0 rfl rfl ?_
  refine gf_Course_100 (pc := 1) C d_Course_takeTurns_1 ?_
  rw [hc]
  refine v_istore_n (pc := 4) C d_Course_takeTurns_4 rfl (by decide) ?_
  refine v_iconst (pc := 5) (v := 0) C d_Course_takeTurns_5 (by decide) ?_
  refine v_istore_n (pc := 6) C d_Course_takeTurns_6 rfl (by decide) ?_
  exact loop sc 0 (by omega) σ rfl
