section KINV3
variable {tc wc B : Nat} {σ : ty_St}
theorem kInv.decide (h : kInv tc wc B σ) (t : Nat) (v x : Int32) : kInv tc wc B (kDecide σ t v x) := (h.up3 (by decide) (by decide) (by decide)).up3 (by decide) (by decide) (by decide)
theorem kInv.stop (h : kInv tc wc B σ) : ∀ n, kInv tc wc B (kStop σ n)
  | 0 => h
  | n + 1 => by
    show kInv tc wc B (kStop1 (kStop σ n) n)
    unfold kStop1
    split
    · exact ((kInv.stop h n).decide n 3 _).up4 (fun q => absurd q (by decide)) (fun q => absurd q (by decide)) (fun q => absurd q (by decide)) (fun _ => Or.inr rfl)
    · exact kInv.stop h n
theorem kInv.release (h : kInv tc wc B σ) : ∀ n, kInv tc wc B (kRelease σ n)
  | 0 => h
  | n + 1 => by
    show kInv tc wc B (kRelease1 (kRelease σ n) n)
    unfold kRelease1 kReleaseIf
    have g := kInv.release h n
    split
    · split
      · exact g.up10
      · split
        · exact (g.up3 (by decide) (by decide) (by decide)).up10
        · exact g
    · exact g
theorem kInv.begin (h : kInv tc wc B σ) {t w : Nat} (ht : t < 12) (hw : w < 4) (h6 : σ 3 t 6 = -1) : kInv tc wc B (kBegin σ t (nI w)) := by
  have hwc : nn (nI w) = w := nI_clamp (by omega)
  unfold kBegin
  dsimp only
  rw [hwc]
  obtain ⟨⟨h11, h12, tm, htm, htime⟩, ⟨sc, hsc, hsb, h8c⟩, h3, h4, h5, hs6, h7, h8⟩ := h
  have hnb := kNb_lt h6 12 ht
  have hne : ¬ σ 1 0 11 = -1 := by
    rw [htime]
    intro q
    have := congrArg Int32.toInt q
    rw [nI_toInt (by omega)] at this
    have h9 : ((-1 : Int32)).toInt = -1 := by decide
    rw [h9] at this
    omega
  generalize hτ : ty_up (ty_up (ty_up (ty_up σ 3 t 6 (σ 1 0 11)) 3 t 8 (nI w)) 3 t 11 (σ 1 0 8)) 10 0 w (nI t) = τ
  have e1 : τ 1 = σ 1 := by rw [← hτ]; rfl
  have e3 : ∀ u, ¬ u = t → τ 3 u = σ 3 u := fun u hu => by rw [← hτ, up_a (by decide), up_i hu, up_i hu, up_i hu]
  have e36 : τ 3 t 6 = σ 1 0 11 := by rw [← hτ, up_a (by decide), up_sj (by decide), up_sj (by decide), up_ss]
  have e30 : τ 3 t 0 = σ 3 t 0 := by rw [← hτ, up_a (by decide), up_sj (by decide), up_sj (by decide), up_sj (by decide)]
  have e311 : τ 3 t 11 = σ 1 0 8 := by rw [← hτ, up_a (by decide), up_ss]
  have enb := (kNb_up (σ := σ) (τ := τ) (t := t) (fun u hu => by rw [e3 u hu]) h6 (by rw [e36]; exact hne) 12).1 ht
  have g : kInv tc wc B τ := by
    refine ⟨by rw [e1]; exact ⟨h11, h12, tm, htm, htime⟩, ⟨sc, hsc, by omega, by rw [e1]; exact h8c⟩, by rw [← hτ]; exact h3, by rw [← hτ]; exact h4, fun u hu => ?_, by rw [← hτ]; exact hs6, fun v hv hq => ?_, by rw [← hτ]; exact h8⟩
    · by_cases e : u = t
      · subst e
        rw [e30, e311]
        exact ⟨(h5 u hu).1, fun _ => by rw [h8c]; exact vp_in_nI (by omega) (by decide)⟩
      · rw [e3 u e]; exact h5 u hu
    · by_cases e : v = w
      · subst e
        have e10 : τ 10 0 v = nI t := by rw [← hτ, up_ss]
        rw [e10, show nn (nI t) = t from nI_clamp (by omega)]
        exact ⟨vp_in_nI ht (by decide), by rw [e36]; exact hne⟩
      · have e10 : τ 10 0 v = σ 10 0 v := by rw [← hτ, up_sj e]; rfl
        rw [e10] at hq ⊢
        have := h7 v hv hq
        refine ⟨this.1, ?_⟩
        by_cases e2 : nn (σ 10 0 v) = t
        · rw [e2, e36]; exact hne
        · rw [e3 _ e2]; exact this.2
  refine g.startS (by rw [e30]; exact (h5 t ht).1) (vp_in_nI ht (by decide)) (fun s' hs' e' => ?_)
  rw [e1, h8c] at e'
  have := (nI_eq (by omega) (by omega)).mp e'
  omega
theorem kInv.begin1 (h : kInv tc wc B σ) (hwc : wc ≤ 4) {i : Nat} (hi : i < 12) : kInv tc wc B (kBegin1 σ i) := by
  unfold kBegin1
  split
  · rename_i q
    have hn : nn (σ 1 0 7) = wc := by rw [h.1.2.1]; exact nI_clamp (by omega)
    rw [hn] at q ⊢
    obtain ⟨w, _, hw, ew, _⟩ := (kLowest_in wc 0).resolve_left q.1
    rw [ew]
    exact h.begin hi (by omega) q.2.1
  · exact h
theorem kInv.begins (h : kInv tc wc B σ) (hwc : wc ≤ 4) : ∀ n, n ≤ 12 → kInv tc wc B (kBegins σ n)
  | 0, _ => h
  | n + 1, hn => (kInv.begins h hwc n (by omega)).begin1 hwc (by omega)
end KINV3
set_option maxRecDepth 100000 in
set_option maxHeartbeats 4000000 in
theorem c_Course_begins (l : Launch) {D : va_G} {ad : Nat → Nat → Nat} {cA : Nat → ClassId} (hJ : ty_J cnC ad) (σ : ty_St) (tc wc B : Nat) (hI : kInv tc wc B σ) (htc : tc ≤ 12) (hwc : wc ≤ 4) : ty_M l y_Course_beginTrials (Cond.code y_Course_beginTrials b_Course_beginTrials 3 none :: ty_w) (rmL 3) cnC D ad cA [.inr (1, 0)] σ (fun r σ' => r = none ∧ σ' = kBegins σ tc) := by
  refine ty_M.of rfl hJ layC (ty_oks.cons (show (0 : Nat) < cnC 1 by decide) ty_oks.nil) (Nat.le_of_ble_eq_true rfl) ?_
  intro p e s m args below meth c C hr hnm
  have loop : ∀ k i, i + k = tc → ∀ τ : ty_St, τ = kBegins σ i → ty_V cnC p l e (rmL 3) s m args below meth c D ad cA (ty_Gd cnC ad s) 3 (MQ below (ty_Q cnC D ad cA (fun r σ' => r = none ∧ σ' = kBegins σ tc) (ty_A cnC ad)) args s 0 0 (ty_A cnC ad)) τ [some (.inr (1, 0)), some (.inl (nI i)), none] 2 [] := by
    intro k
    induction k with
    | zero =>
      intro i hi τ hτ
      have hb := (show τ 1 0 6 = nI tc by rw [hτ]; exact (hI.begins hwc i (by omega)).1.1)
      refine v_iload_n (pc := 2) C d_Course_beginTrials_2 rfl rfl ?_
      refine v_aload_n (pc := 3) C d_Course_beginTrials_3 rfl rfl ?_
      refine gf_Course_48 (pc := 4) C d_Course_beginTrials_4 ?_
      refine v_icmp_ge (pc := 7) (tgt := 58) C d_Course_beginTrials_7 (by decide) (fun h7 => ?_) (fun h7 => ?_)
      · exact v_return (pc := 58) C hr ⟨rfl, by rw [hτ, show i = tc by omega]⟩ d_Course_beginTrials_58
      · exact absurd (by rw [hb]; exact nI_le (by omega) (by omega)) h7
    | succ k ih =>
      intro i hi τ hτ
      have hb := (show τ 1 0 6 = nI tc by rw [hτ]; exact (hI.begins hwc i (by omega)).1.1)
      have gI : kInv tc wc B τ := by rw [hτ]; exact hI.begins hwc i (by omega)
      have hn7 : nn (τ 1 0 7) = wc := by rw [gI.1.2.1]; exact nI_clamp (by omega)
      have hn6 : nn (τ 1 0 6) = tc := by rw [gI.1.1]; exact nI_clamp (by omega)
      have hs : ¬ τ 1 0 8 < 0 := by obtain ⟨sc, hsc, _, e⟩ := gI.2.1; rw [e]; exact nI_pos (by omega)
      refine v_iload_n (pc := 2) C d_Course_beginTrials_2 rfl rfl ?_
      refine v_aload_n (pc := 3) C d_Course_beginTrials_3 rfl rfl ?_
      refine gf_Course_48 (pc := 4) C d_Course_beginTrials_4 ?_
      refine v_icmp_ge (pc := 7) (tgt := 58) C d_Course_beginTrials_7 (by decide) (fun h7 => ?_) (fun h7 => ?_)
      · exact absurd h7 (by rw [hb]; exact nI_ge (by omega) (by omega))
      · refine v_aload_n (pc := 10) C d_Course_beginTrials_10 rfl rfl ?_
        refine cl_Course_134 (pc := 11) C (c_Course_lowest l hJ τ wc hwc gI.1.2.1) ⟨rfl, rfl, by decide, by decide⟩ rfl rfl (Nat.le_of_ble_eq_true rfl) d_Course_beginTrials_11 (fun r σ' hq => ?_)
        rw [hq.1, hq.2]
        refine v_istore_n (pc := 14) C d_Course_beginTrials_14 rfl (by decide) ?_
        refine v_iload_n (pc := 15) C d_Course_beginTrials_15 rfl rfl ?_
        refine v_iconst (pc := 16) (v := (-1)) C d_Course_beginTrials_16 (by decide) ?_
        refine v_icmp_eq (pc := 17) (tgt := 52) C d_Course_beginTrials_17 (by decide) (fun h17 => ?_) (fun h17 => ?_)
        · refine v_iinc (pc := 52) C d_Course_beginTrials_52 rfl (show _ + Int32.ofInt 1 = _ + 1 from rfl) (by decide) ?_
          refine v_goto (pc := 55) (tgt := 2) C d_Course_beginTrials_55 (by decide) ?_
          refine v_forget C 2 ?_
          rw [nI_1 i]
          refine ih (i + 1) (by omega) _ ?_
          show _ = kBegin1 (kBegins σ i) i
          rw [← hτ]
          unfold kBegin1
          rw [hn7, hn6]
          rw [if_neg (fun q => q.1 h17)]
        · refine v_aload_n (pc := 20) C d_Course_beginTrials_20 rfl rfl ?_
          refine gf_Course_19 (pc := 21) C d_Course_beginTrials_21 ?_
          refine v_iload_n (pc := 24) C d_Course_beginTrials_24 rfl rfl ?_
          refine v_aaloadK (pc := 25) C rfl rfl (by decide) (rfl) (by omega) (by decide) d_Course_beginTrials_25 ?_
          refine gf_Course_137 (pc := 26) C d_Course_beginTrials_26 ?_
          refine v_iconst (pc := 29) (v := (-1)) C d_Course_beginTrials_29 (by decide) ?_
          refine v_icmp_ne (pc := 30) (tgt := 52) C d_Course_beginTrials_30 (by decide) (fun h30 => ?_) (fun h30 => ?_)
          · refine v_iinc (pc := 52) C d_Course_beginTrials_52 rfl (show _ + Int32.ofInt 1 = _ + 1 from rfl) (by decide) ?_
            refine v_goto (pc := 55) (tgt := 2) C d_Course_beginTrials_55 (by decide) ?_
            refine v_forget C 2 ?_
            rw [nI_1 i]
            refine ih (i + 1) (by omega) _ ?_
            show _ = kBegin1 (kBegins σ i) i
            rw [← hτ]
            unfold kBegin1
            rw [hn7, hn6]
            rw [if_neg (fun q => h30 q.2.1)]
          · refine v_aload_n (pc := 33) C d_Course_beginTrials_33 rfl rfl ?_
            refine v_aload_n (pc := 34) C d_Course_beginTrials_34 rfl rfl ?_
            refine gf_Course_19 (pc := 35) C d_Course_beginTrials_35 ?_
            refine v_iload_n (pc := 38) C d_Course_beginTrials_38 rfl rfl ?_
            refine v_aaloadK (pc := 39) C rfl rfl (by decide) (rfl) (by omega) (by decide) d_Course_beginTrials_39 ?_
            refine cl_Course_140 (pc := 40) C (c_Course_can l hJ τ tc htc gI.1.1 i (by omega)) ⟨rfl, rfl, by decide, by decide⟩ rfl rfl (Nat.le_of_ble_eq_true rfl) d_Course_beginTrials_40 (fun r σ' hq => ?_)
            rw [hq.1, hq.2]
            refine v_if_eq (pc := 43) (tgt := 52) C d_Course_beginTrials_43 (by decide) (fun h43 => ?_) (fun h43 => ?_)
            · refine v_iinc (pc := 52) C d_Course_beginTrials_52 rfl (show _ + Int32.ofInt 1 = _ + 1 from rfl) (by decide) ?_
              refine v_goto (pc := 55) (tgt := 2) C d_Course_beginTrials_55 (by decide) ?_
              refine v_forget C 2 ?_
              rw [nI_1 i]
              refine ih (i + 1) (by omega) _ ?_
              show _ = kBegin1 (kBegins σ i) i
              rw [← hτ]
              unfold kBegin1
              rw [hn7, hn6]
              rw [if_neg (fun q => by rw [if_pos q.2.2] at h43; exact absurd h43 (by decide))]
            · obtain ⟨w, _, hw, ew, _⟩ := (kLowest_in wc 0).resolve_left h17
              rw [ew]
              refine v_aload_n (pc := 46) C d_Course_beginTrials_46 rfl rfl ?_
              refine v_iload_n (pc := 47) C d_Course_beginTrials_47 rfl rfl ?_
              refine v_iload_n (pc := 48) C d_Course_beginTrials_48 rfl rfl ?_
              refine cl_Course_144 (pc := 49) C (c_Course_begin l hJ τ hs i (by omega) w (by omega)) ⟨rfl, rfl, by decide, by decide⟩ rfl rfl (Nat.le_of_ble_eq_true rfl) d_Course_beginTrials_49 (fun r σ' hq => ?_)
              rw [hq.1, hq.2]
              refine v_iinc (pc := 52) C d_Course_beginTrials_52 rfl (show _ + Int32.ofInt 1 = _ + 1 from rfl) (by decide) ?_
              refine v_goto (pc := 55) (tgt := 2) C d_Course_beginTrials_55 (by decide) ?_
              refine v_forget C 2 ?_
              rw [nI_1 i]
              refine ih (i + 1) (by omega) _ ?_
              show _ = kBegin1 (kBegins σ i) i
              rw [← hτ]
              unfold kBegin1
              rw [hn7, hn6]
              rw [if_pos ⟨h17, h30, by by_cases e : kCan τ i tc = true; exact e; exact absurd (if_neg e) h43⟩, ew]
  refine v_iconst (pc := 0) (v := 0) C d_Course_beginTrials_0 (by decide) ?_
  refine v_istore_n (pc := 1) C d_Course_beginTrials_1 rfl (by decide) ?_
  exact loop tc 0 (by omega) σ rfl
theorem kUntried_a {σ : ty_St} {a : Nat} (h : ¬ a = 3) : ∀ n, (kUntried σ n) a = σ a
  | 0 => rfl
  | n + 1 => by
    unfold kUntried kDecide
    split
    · rw [up_a h, up_a h]; exact kUntried_a h n
    · exact kUntried_a h n
theorem kLeft_8 {σ : ty_St} : ∀ n, (kLeft σ n) 1 0 8 = σ 1 0 8
  | 0 => rfl
  | n + 1 => by
    unfold kLeft
    split
    · rw [up_sj (by decide)]; exact kLeft_8 n
    · exact kLeft_8 n
theorem kLeft_11 {σ : ty_St} : ∀ n, (kLeft σ n) 1 0 11 = σ 1 0 11
  | 0 => rfl
  | n + 1 => by
    unfold kLeft
    split
    · rw [up_sj (by decide)]; exact kLeft_11 n
    · exact kLeft_11 n
set_option maxRecDepth 100000 in
set_option maxHeartbeats 4000000 in
theorem c_Course_leave (l : Launch) {D : va_G} {ad : Nat → Nat → Nat} {cA : Nat → ClassId} (hJ : ty_J cnC ad) (σ : ty_St) (tc : Nat) (htc : tc ≤ 12) (hc : σ 1 0 6 = nI tc) (sc : Nat) (hsc : sc ≤ 52) (hs : σ 1 0 8 = nI sc) : ty_M l y_Course_leaveRest (Cond.code y_Course_leaveRest b_Course_leaveRest 2 none :: ty_w) (rmL 1) cnC D ad cA [.inr (1, 0)] σ (fun r σ' => r = none ∧ σ' = kLeave σ) := by
  refine ty_M.of rfl hJ layC (ty_oks.cons (show (0 : Nat) < cnC 1 by decide) ty_oks.nil) (Nat.le_of_ble_eq_true rfl) ?_
  intro p e s m args below meth c C hr hnm
  have hn6 : nn (σ 1 0 6) = tc := by rw [hc]; exact nI_clamp (by omega)
  have hn8 : nn (σ 1 0 8) = sc := by rw [hs]; exact nI_clamp (by omega)
  have loop2 : ∀ k i, i + k = sc → ∀ τ : ty_St, τ = kLeft (kUntried σ tc) i → ty_V cnC p l e (rmL 1) s m args below meth c D ad cA (ty_Gd cnC ad s) 2 (MQ below (ty_Q cnC D ad cA (fun r σ' => r = none ∧ σ' = kLeave σ) (ty_A cnC ad)) args s 0 0 (ty_A cnC ad)) τ [some (.inr (1, 0)), some (.inl (nI i))] 44 [] := by
    intro k
    induction k with
    | zero =>
      intro i hi τ hτ
      have hb := (show τ 1 0 8 = nI sc by rw [hτ, kLeft_8, kUntried_a (by decide)]; exact hs)
      refine v_iload_n (pc := 44) C d_Course_leaveRest_44 rfl rfl ?_
      refine v_aload_n (pc := 45) C d_Course_leaveRest_45 rfl rfl ?_
      refine gf_Course_100 (pc := 46) C d_Course_leaveRest_46 ?_
      refine v_icmp_ge (pc := 49) (tgt := 80) C d_Course_leaveRest_49 (by decide) (fun h49 => ?_) (fun h49 => ?_)
      · exact v_return (pc := 80) C hr ⟨rfl, by unfold kLeave; rw [hn6, hn8, hτ, show i = sc by omega]⟩ d_Course_leaveRest_80
      · exact absurd (by rw [hb]; exact nI_le (by omega) (by omega)) h49
    | succ k ih =>
      intro i hi τ hτ
      have hb := (show τ 1 0 8 = nI sc by rw [hτ, kLeft_8, kUntried_a (by decide)]; exact hs)
      refine v_iload_n (pc := 44) C d_Course_leaveRest_44 rfl rfl ?_
      refine v_aload_n (pc := 45) C d_Course_leaveRest_45 rfl rfl ?_
      refine gf_Course_100 (pc := 46) C d_Course_leaveRest_46 ?_
      refine v_icmp_ge (pc := 49) (tgt := 80) C d_Course_leaveRest_49 (by decide) (fun h49 => ?_) (fun h49 => ?_)
      · exact absurd h49 (by rw [hb]; exact nI_ge (by omega) (by omega))
      · refine v_aload_n (pc := 52) C d_Course_leaveRest_52 rfl rfl ?_
        refine gf_Course_25 (pc := 53) C d_Course_leaveRest_53 ?_
        refine v_iload_n (pc := 56) C d_Course_leaveRest_56 rfl rfl ?_
        refine v_aaloadK (pc := 57) C rfl rfl (by decide) (rfl) (by omega) (by decide) d_Course_leaveRest_57 ?_
        refine gf_Course_125 (pc := 58) C d_Course_leaveRest_58 ?_
        refine v_if_ne (pc := 61) (tgt := 74) C d_Course_leaveRest_61 (by decide) (fun h61 => ?_) (fun h61 => ?_)
        · refine v_iinc (pc := 74) C d_Course_leaveRest_74 rfl (show _ + Int32.ofInt 1 = _ + 1 from rfl) (by decide) ?_
          refine v_goto (pc := 77) (tgt := 44) C d_Course_leaveRest_77 (by decide) ?_
          rw [nI_1 i]
          refine ih (i + 1) (by omega) _ ?_
          unfold kLeft
          rw [← hτ]
          rw [if_neg h61]
        · refine v_aload_n (pc := 64) C d_Course_leaveRest_64 rfl rfl ?_
          refine v_dup (pc := 65) C d_Course_leaveRest_65 ?_
          refine gf_Course_103 (pc := 66) C d_Course_leaveRest_66 ?_
          refine v_iconst (pc := 69) (v := 1) C d_Course_leaveRest_69 (by decide) ?_
          refine v_iadd (pc := 70) C d_Course_leaveRest_70 ?_
          refine pf_Course_103 (pc := 71) C d_Course_leaveRest_71 ?_
          refine v_iinc (pc := 74) C d_Course_leaveRest_74 rfl (show _ + Int32.ofInt 1 = _ + 1 from rfl) (by decide) ?_
          refine v_goto (pc := 77) (tgt := 44) C d_Course_leaveRest_77 (by decide) ?_
          rw [nI_1 i]
          refine ih (i + 1) (by omega) _ ?_
          unfold kLeft
          rw [← hτ]
          rw [if_pos h61]
  have loop1 : ∀ k i, i + k = tc → ∀ τ : ty_St, τ = kUntried σ i → ty_V cnC p l e (rmL 1) s m args below meth c D ad cA (ty_Gd cnC ad s) 2 (MQ below (ty_Q cnC D ad cA (fun r σ' => r = none ∧ σ' = kLeave σ) (ty_A cnC ad)) args s 0 0 (ty_A cnC ad)) τ [some (.inr (1, 0)), some (.inl (nI i))] 2 [] := by
    intro k
    induction k with
    | zero =>
      intro i hi τ hτ
      have hb := (show τ 1 0 6 = nI tc by rw [hτ, kUntried_a (by decide)]; exact hc)
      refine v_iload_n (pc := 2) C d_Course_leaveRest_2 rfl rfl ?_
      refine v_aload_n (pc := 3) C d_Course_leaveRest_3 rfl rfl ?_
      refine gf_Course_48 (pc := 4) C d_Course_leaveRest_4 ?_
      refine v_icmp_ge (pc := 7) (tgt := 42) C d_Course_leaveRest_7 (by decide) (fun h7 => ?_) (fun h7 => ?_)
      · refine v_iconst (pc := 42) (v := 0) C d_Course_leaveRest_42 (by decide) ?_
        refine v_istore_n (pc := 43) C d_Course_leaveRest_43 rfl (by decide) ?_
        exact loop2 sc 0 (by omega) _ (by rw [hτ, show i = tc by omega]; rfl)
      · exact absurd (by rw [hb]; exact nI_le (by omega) (by omega)) h7
    | succ k ih =>
      intro i hi τ hτ
      have hb := (show τ 1 0 6 = nI tc by rw [hτ, kUntried_a (by decide)]; exact hc)
      refine v_iload_n (pc := 2) C d_Course_leaveRest_2 rfl rfl ?_
      refine v_aload_n (pc := 3) C d_Course_leaveRest_3 rfl rfl ?_
      refine gf_Course_48 (pc := 4) C d_Course_leaveRest_4 ?_
      refine v_icmp_ge (pc := 7) (tgt := 42) C d_Course_leaveRest_7 (by decide) (fun h7 => ?_) (fun h7 => ?_)
      · exact absurd h7 (by rw [hb]; exact nI_ge (by omega) (by omega))
      · refine v_aload_n (pc := 10) C d_Course_leaveRest_10 rfl rfl ?_
        refine gf_Course_19 (pc := 11) C d_Course_leaveRest_11 ?_
        refine v_iload_n (pc := 14) C d_Course_leaveRest_14 rfl rfl ?_
        refine v_aaloadK (pc := 15) C rfl rfl (by decide) (rfl) (by omega) (by decide) d_Course_leaveRest_15 ?_
        refine gf_Course_93 (pc := 16) C d_Course_leaveRest_16 ?_
        refine v_if_ne (pc := 19) (tgt := 36) C d_Course_leaveRest_19 (by decide) (fun h19 => ?_) (fun h19 => ?_)
        · refine v_iinc (pc := 36) C d_Course_leaveRest_36 rfl (show _ + Int32.ofInt 1 = _ + 1 from rfl) (by decide) ?_
          refine v_goto (pc := 39) (tgt := 2) C d_Course_leaveRest_39 (by decide) ?_
          rw [nI_1 i]
          refine ih (i + 1) (by omega) _ ?_
          unfold kUntried
          rw [← hτ]
          rw [if_neg h19]
        · refine v_aload_n (pc := 22) C d_Course_leaveRest_22 rfl rfl ?_
          refine gf_Course_19 (pc := 23) C d_Course_leaveRest_23 ?_
          refine v_iload_n (pc := 26) C d_Course_leaveRest_26 rfl rfl ?_
          refine v_aaloadK (pc := 27) C rfl rfl (by decide) (rfl) (by omega) (by decide) d_Course_leaveRest_27 ?_
          refine v_iconst (pc := 28) (v := 4) C d_Course_leaveRest_28 (by decide) ?_
          refine v_aload_n (pc := 29) C d_Course_leaveRest_29 rfl rfl ?_
          refine gf_Course_87 (pc := 30) C d_Course_leaveRest_30 ?_
          refine cl_Course_110 (pc := 33) C (c_Trial_decide l hJ τ i (by omega) _ _) ⟨rfl, rfl, by decide, by decide⟩ rfl rfl (Nat.le_of_ble_eq_true rfl) d_Course_leaveRest_33 (fun r σ' hq => ?_)
          rw [hq.1, hq.2]
          refine v_iinc (pc := 36) C d_Course_leaveRest_36 rfl (show _ + Int32.ofInt 1 = _ + 1 from rfl) (by decide) ?_
          refine v_goto (pc := 39) (tgt := 2) C d_Course_leaveRest_39 (by decide) ?_
          rw [nI_1 i]
          refine ih (i + 1) (by omega) _ ?_
          unfold kUntried
          rw [← hτ]
          rw [if_pos h19, show σ 1 0 11 = τ 1 0 11 by rw [hτ, kUntried_a (by decide)]]
  refine v_iconst (pc := 0) (v := 0) C d_Course_leaveRest_0 (by decide) ?_
  refine v_istore_n (pc := 1) C d_Course_leaveRest_1 rfl (by decide) ?_
  exact loop1 tc 0 (by omega) σ rfl
