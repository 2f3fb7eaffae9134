theorem W.sized {p : Program} {l : Launch} {e : Env} {R : Room} {s : State} {m : MethodId} {args : Array Value} {below : List Frame} {meth : Method} {c : Code} {H : Heap} {locs : List Loc} {cells slots : Nat} {Q : State → Prop} {g : JFrame} (kk : H.size ≤ s.heap.size + cells → W p l e R s m args below meth c H locs cells slots Q g) : W p l e R s m args below meth c H locs cells slots Q g := fun T hT X => kk (by rw [← hT]; exact X.heapSize) T hT X
section WCT
variable {p : Program} {l : Launch} {e : Env} {R : Room} {s : State} {m : MethodId} {args : Array Value} {below : List Frame} {meth : Method} {c : Code} {H H0 : Heap} {locs : List Loc} {cells slots : Nat} {Q : State → Prop} {cc : ByteArray} {pc nL : Nat} {ls : Array Slot} {rest stk : List Value} {D : va_G} {cA : Nat → ClassId} {cL : ClassId} {A : Nat → Prop} {own : String} {b h : Nat}
variable {y : MethodName} {bytes : ByteArray} {maxL idx n mc ms k : Nat} {As : List Value} {pre post : Heap → Prop}
theorem w_ctorQ {a : Array Value} (hr : va_Run p l e R s m args below meth c H locs cells slots mc ms (F0 m pc ls stk) rest (cn_Q b h mc post a) (cn_F b h)) (hz : H.size = h) (hS : va_S A H0 H locs) (hA : ∀ q, cn_F b h q → A q)
    (kk : ∀ (H1 : Heap) (locs1 : List Loc), post H1 → H1.size = h + mc → (∀ q : Nat, q < h → q ≠ b → H1[q]? = H[q]?) → va_S A H0 H1 locs1 → W p l e R s m args below meth c H1 locs1 (cells + mc) (slots + ms) Q (F0 m (pc + 3) ls rest)) : W p l e R s m args below meth c H locs cells slots Q (F0 m pc ls stk) := by
  refine w_callC (Post := fun H1 => post H1 ∧ H1.size = h + mc ∧ ∀ q : Nat, q < h → q ≠ b → H1[q]? = H[q]?) hr hS hA (fun st₀ v t h0 hq => ?_) (fun H1 locs1 hp hS1 => kk H1 locs1 hp.1 hp.2.1 hp.2.2 hS1)
  obtain ⟨q1, q2, q3, q4⟩ := hq
  cases q1
  refine ⟨rfl, ⟨q2, q3, fun q a1 a2 => by rw [q4 q a1 a2, h0]⟩, by rw [q3]; omega, fun q a1 a2 => ?_⟩
  rw [q4 q (by omega) (fun z => a2 (hA q (Or.inl z))), h0]
theorem w_ctor (hx : p.tables.exec = Jvm.exec) (hb : c.code = cc) (hml : c.maxLocals = nL) (hsz : ls.size = nL) (hown : s.vm.findClass own = some m.cls) (hts : ∀ w ∈ ty_w, w.before args s = true) (hK : va_K D classes (wr_tys cA cL) s) (hMM : cn_M s)
    (hM : Met l y (Cond.code y bytes maxL none :: ty_w) (rmN k mc ms) (cn_P D cA cL b h As pre) (cn_Q b h mc post) mc ms (cn_F b h)) (hz : H.size = h) (hpre : pre H) (hS : va_S A H0 H locs) (hA : ∀ q, cn_F b h q → A q)
    (hw : Cond.methodLink own idx y ∈ ty_w ∧ Cond.instanceMethod y ∈ ty_w ∧ Cond.initialized y.cls ∈ ty_w ∧ Cond.code y bytes maxL none ∈ ty_w) (hy : y.name = "<init>")
    (hd : y.cls ≠ "java/lang/invoke/MethodHandle" ∧ y.cls ≠ "java/lang/invoke/VarHandle" ∧ (parseMethodDescriptor y.desc).map (fun d => d.parameters.length) = some n) (hn : As.length = n) (hR : k + 1 ≤ R.frames ∧ 8 + (maxL + 11) + 30 * k ≤ R.locals ∧ cells + mc ≤ R.cells ∧ slots + ms ≤ R.slots) (hstk : stk = As.reverse ++ .ref b :: rest) (h8 : (rest.map fun v => v.category).sum ≤ 8) (d : decode cc pc = .ok (.invokespecial idx, 3))
    (kk : ∀ (H1 : Heap) (locs1 : List Loc), post H1 → H1.size = h + mc → (∀ q : Nat, q < h → q ≠ b → H1[q]? = H[q]?) → va_S A H0 H1 locs1 → W p l e R s m args below meth c H1 locs1 (cells + mc) (slots + ms) Q (F0 m (pc + 3) ls rest)) : W p l e R s m args below meth c H locs cells slots Q (F0 m pc ls stk) := by
  have cw := cwI (R := R) (own := own) (index := idx) (rm := rmN k mc ms) n hts (GoodIn.ty (y := y) (bytes := bytes) (maxL := maxL) (ret := none) (ws := []) (fun w hw => by cases hw) hw.2.2.2) rfl rfl rfl (hts _ hw.2.2.1) (hts _ hw.1) (hts _ hw.2.1) hy hd ⟨hR.1, hR.2.1⟩
  refine w_ctorQ (va_runI (As := As) (b := b) (rest := rest) ⟨hx, hb, hml, hown, hts⟩ hM cw ⟨cn_P.blind, fun U hU hW => ⟨rfl, by rw [hU]; exact hz, by rw [hU]; exact hpre, va_K.moved hW.alike hK, hMM.warm hW⟩⟩ rfl hn hsz hstk ?_ d ⟨hR.2.2.1, hR.2.2.2⟩) hz hS hA kk
  have : JFrame.monitorRoom (F0 m pc ls stk) = 0 := rfl
  rw [this]; omega
theorem w_ctorN (hx : p.tables.exec = Jvm.exec) (hb : c.code = cc) (hml : c.maxLocals = nL) (hsz : ls.size = nL) (hown : s.vm.findClass own = some m.cls) (hts : ∀ w ∈ ty_w, w.before args s = true) (hK : va_K D classes (wr_tys cA cL) s) (hMM : cn_M s) {host : String} (hnest : va_Nw (.methodLinkNest own idx y host) s)
    (hM : Met l y (Cond.code y bytes maxL none :: ty_w) (rmN k mc ms) (cn_P D cA cL b h As pre) (cn_Q b h mc post) mc ms (cn_F b h)) (hz : H.size = h) (hpre : pre H) (hS : va_S A H0 H locs) (hA : ∀ q, cn_F b h q → A q)
    (hw : Cond.instanceMethod y ∈ ty_w ∧ Cond.initialized y.cls ∈ ty_w ∧ Cond.code y bytes maxL none ∈ ty_w) (hy : y.name = "<init>")
    (hd : y.cls ≠ "java/lang/invoke/MethodHandle" ∧ y.cls ≠ "java/lang/invoke/VarHandle" ∧ (parseMethodDescriptor y.desc).map (fun d => d.parameters.length) = some n) (hn : As.length = n) (hR : k + 1 ≤ R.frames ∧ 8 + (maxL + 11) + 30 * k ≤ R.locals ∧ cells + mc ≤ R.cells ∧ slots + ms ≤ R.slots) (hstk : stk = As.reverse ++ .ref b :: rest) (h8 : (rest.map fun v => v.category).sum ≤ 8) (d : decode cc pc = .ok (.invokespecial idx, 3))
    (kk : ∀ (H1 : Heap) (locs1 : List Loc), post H1 → H1.size = h + mc → (∀ q : Nat, q < h → q ≠ b → H1[q]? = H[q]?) → va_S A H0 H1 locs1 → W p l e R s m args below meth c H1 locs1 (cells + mc) (slots + ms) Q (F0 m (pc + 3) ls rest)) : W p l e R s m args below meth c H locs cells slots Q (F0 m pc ls stk) := by
  have cw := va_cnB (R := R) (own := own) (index := idx) (rm := rmN k mc ms) n hts (GoodIn.ty (y := y) (bytes := bytes) (maxL := maxL) (ret := none) (ws := []) (fun w hw => by cases hw) hw.2.2) rfl rfl rfl hnest (hts _ hw.2.1) hd ⟨hR.1, hR.2.1⟩
  refine w_ctorQ (va_runIN (As := As) (b := b) (rest := rest) ⟨hx, hb, hml, hown, hts⟩ hM ⟨cw, hy, hts _ hw.1⟩ ⟨cn_P.blind, fun U hU hW => ⟨rfl, by rw [hU]; exact hz, by rw [hU]; exact hpre, va_K.moved hW.alike hK, hMM.warm hW⟩⟩ rfl hn hsz hstk ?_ d ⟨hR.2.2.1, hR.2.2.2⟩) hz hS hA kk
  have : JFrame.monitorRoom (F0 m pc ls stk) = 0 := rfl
  rw [this]; omega
end WCT
/-! the world as it is made -/
def s0 : ty_St := fun a _ j => if a = 0 ∧ j = 2 then 1 else if a = 3 ∧ (j = 5 ∨ j = 6 ∨ j = 7 ∨ j = 8 ∨ j = 11 ∨ j = 12) then -1 else if a = 20 ∧ j = 2 then 1 else 0
def adX (n a i : Nat) : Nat := match a with
  | 0 => n
  | 1 => n + 1
  | 11 => n + 2
  | 12 => n + 3
  | 13 => n + 4
  | 10 => n + 5
  | 5 => n + 6 + 2 * i
  | 9 => n + 7 + 2 * i
  | 2 => n + 10 + 4 * i
  | 6 => n + 11 + 4 * i
  | 7 => n + 12 + 4 * i
  | 8 => n + 13 + 4 * i
  | 3 => n + 50 + i
  | 4 => n + 62 + i
  | a => n + 114 + (a - 20)
def ct1 (a : Nat) : Nat := if a = 3 then 1 else 0
theorem ct1_lay : ∀ a i ci fl, ty_ki a i = .inl (ci, fl) → ∀ b z, some (b, z) ∈ fl → i < ct1 a → z.getD i < ct1 b := by
  intro a i ci fl h b z hm hi
  by_cases e : a = 3
  · subst e
    cases h
    simp at hm
  · simp [ct1, e] at hi
theorem ct1_J (b : Nat) : ty_J ct1 (fun _ _ => b) := by
  intro a i a' i' h h' _
  unfold ct1 at h h'
  split at h <;> split at h' <;> omega
set_option maxRecDepth 100000 in
set_option maxHeartbeats 4000000 in
theorem c1_forgetRun (l : Launch) {D : va_G} {cA : Nat → ClassId} (b : Nat) (σ : ty_St) : ty_M l y_Trial_forgetRun (Cond.code y_Trial_forgetRun b_Trial_forgetRun 1 none :: ty_w) (rmL 0) ct1 D (fun _ _ => b) cA [.inr (3, 0)] σ (fun r σ' => r = none ∧ σ' = kForgetT σ 0) := by
  refine ty_M.of rfl (ct1_J b) ct1_lay (ty_oks.cons (show (0 : Nat) < ct1 3 by decide) ty_oks.nil) (Nat.le_of_ble_eq_true rfl) ?_
  intro p e s m args below meth c C hr hnm
  refine v_aload_n (pc := 0) C d_Trial_forgetRun_0 rfl rfl ?_
  refine v_iconst (pc := 1) (v := 0) C d_Trial_forgetRun_1 (by decide) ?_
  refine pf_Trial_27 (pc := 2) C d_Trial_forgetRun_2 ?_
  refine v_aload_n (pc := 5) C d_Trial_forgetRun_5 rfl rfl ?_
  refine v_iconst (pc := 6) (v := (-1)) C d_Trial_forgetRun_6 (by decide) ?_
  refine pf_Trial_30 (pc := 7) C d_Trial_forgetRun_7 ?_
  refine v_aload_n (pc := 10) C d_Trial_forgetRun_10 rfl rfl ?_
  refine v_iconst (pc := 11) (v := (-1)) C d_Trial_forgetRun_11 (by decide) ?_
  refine pf_Trial_33 (pc := 12) C d_Trial_forgetRun_12 ?_
  refine v_aload_n (pc := 15) C d_Trial_forgetRun_15 rfl rfl ?_
  refine v_iconst (pc := 16) (v := (-1)) C d_Trial_forgetRun_16 (by decide) ?_
  refine pf_Trial_36 (pc := 17) C d_Trial_forgetRun_17 ?_
  refine v_aload_n (pc := 20) C d_Trial_forgetRun_20 rfl rfl ?_
  refine v_iconst (pc := 21) (v := (-1)) C d_Trial_forgetRun_21 (by decide) ?_
  refine pf_Trial_39 (pc := 22) C d_Trial_forgetRun_22 ?_
  refine v_aload_n (pc := 25) C d_Trial_forgetRun_25 rfl rfl ?_
  refine v_iconst (pc := 26) (v := 0) C d_Trial_forgetRun_26 (by decide) ?_
  refine pf_Trial_42 (pc := 27) C rfl rfl d_Trial_forgetRun_27 ?_
  refine v_aload_n (pc := 30) C d_Trial_forgetRun_30 rfl rfl ?_
  refine v_iconst (pc := 31) (v := 0) C d_Trial_forgetRun_31 (by decide) ?_
  refine pf_Trial_46 (pc := 32) C d_Trial_forgetRun_32 ?_
  refine v_aload_n (pc := 35) C d_Trial_forgetRun_35 rfl rfl ?_
  refine v_iconst (pc := 36) (v := (-1)) C d_Trial_forgetRun_36 (by decide) ?_
  refine pf_Trial_49 (pc := 37) C d_Trial_forgetRun_37 ?_
  refine v_aload_n (pc := 40) C d_Trial_forgetRun_40 rfl rfl ?_
  refine v_iconst (pc := 41) (v := (-1)) C d_Trial_forgetRun_41 (by decide) ?_
  refine pf_Trial_52 (pc := 42) C d_Trial_forgetRun_42 ?_
  exact v_return (pc := 45) C hr ⟨rfl, rfl⟩ d_Trial_forgetRun_45
set_option maxRecDepth 100000 in
set_option maxHeartbeats 4000000 in
theorem n_Trial_init (l : Launch) {D : va_G} {cA : Nat → ClassId} {cL : ClassId} (b h : Nat) (hbh : b < h) : Met l y_Trial_init (Cond.code y_Trial_init b_Trial_init 1 none :: ty_w) (rmN 1 0 0) (cn_P D cA cL b h [] (fun H => va_at D classes (b, .inr (3, [.int 0, .int 0, .int 0, .int 0, .int 0, .int 0, .int 0, .int 0, .int 0, .int 0, .int 0, .int 0, .int 0])) H)) (cn_Q b h 0 (fun H => va_at D classes (b, .inr (3, ty_fs (fun _ _ => 0) (s0 3 0) 0 0 [none, none, none, none, none, none, none, none, none, none, none, none, none]))  H)) 0 0 (cn_F b h) := by
  refine Met.ofW (cc := b_Trial_init) (maxL := 1) (ret := none) rfl rfl ?_
  intro p e s m args below meth c s₁ B hml hv
  obtain ⟨rfl, hz, hO, hK, hM⟩ := hv
  have hts0 := atoms_spec (ws := Cond.code y_Trial_init b_Trial_init 1 none :: ty_w) B.pre
  have hts : ∀ w ∈ ty_w, w.before _ s = true := fun w hw => hts0 w (List.mem_cons_of_mem _ hw)
  have hown : s.vm.findClass R_Trial = some m.cls := findClass_of_methodNamed B.named
  have hx := B.exec
  have hb := B.bytes
  have hr := B.returns
  have hlk := B.notSynchronized
  have hS : va_S (cn_F b h) s.heap s.heap [] := va_S.rf
  have hl := lv_entry (.ref b :: []) (n := 1) (Nat.le_of_ble_eq_true rfl)
  rw [lg_entry_eq]
  generalize (lg_sl (.ref b :: []) ++ List.replicate (1 - (lg_sl (.ref b :: [])).length) Slot.unset).toArray = ls at hl ⊢
  have hl : lv_has ls 1 [(0, .ref b)] := hl
  refine lv_aload_n hx hb d_Trial_init_0 rfl (lv_at hl 0 rfl) ?_
  refine dn_obj hx hb hml hl.1 hts hown ⟨ml_Trial_3, ob_i, ob_c⟩ ⟨Nat.le_of_ble_eq_true rfl, Nat.le_of_ble_eq_true rfl⟩ d_Trial_init_1 ?_
  refine lv_aload_n hx hb d_Trial_init_4 rfl (lv_at hl 0 rfl) ?_
  have hH : ty_H ct1 D (fun _ _ => b) cA (fun _ _ _ => 0) s.heap := by
    intro a i hi
    unfold ct1 at hi
    split at hi
    · rename_i e
      subst e
      exact hO
    · omega
  have run := w_runV (n := 0) (ad := fun _ _ => b) (a := 3) (i := 0) (As := []) (ci := 3) (rest := []) (stk := [.ref b]) (below := below) (meth := meth) (e := e) (locs := []) (cells := 0) (slots := 0) (R := rmN 1 0 0) hx hb hml hl.1 hown hts (wr_K hK) (c1_forgetRun l b (fun _ _ _ => 0)) rfl rfl rfl hH (by decide) ⟨rfl, rfl, by decide, by decide⟩ ⟨ml_Trial_9, wi_Trial_forgetRun, ws_Trial_forgetRun, wn_Trial, wc_Trial_forgetRun⟩ ⟨by decide +kernel, by decide +kernel, by decide +kernel⟩ rfl rfl (by decide) ⟨by decide, by decide⟩ d_Trial_init_5
  refine w_call run hS (fun q _ hq => ?_) (fun q hq => ?_) (fun r σ' H1 locs1 hP hH1 hk1 hz1 hS1 => ?_)
  · obtain ⟨a, i, hi, rfl⟩ := hq
    exact Or.inl rfl
  · obtain ⟨a, i, hi, rfl⟩ := hq
    exact Or.inl rfl
  obtain ⟨rfl, rfl⟩ := hP
  have hO1 := hH1 3 0 (by decide)
  refine W.sized (fun hsz => ?_)
  refine W.vret hx hb hr (fun t ht _ => ⟨rfl, ht.symm ▸ hO1, ?_, fun q h1 h2 => ?_⟩) hS1.2.2 d_Trial_init_8 hlk
  · rw [ht]; omega
  · rw [ht]
    refine hk1 q (by omega) ?_
    rintro ⟨a, i, hi, e⟩
    exact h2 e


/-- the cells of the course that are done: p programs, t trials, q strands -/
def cs_S (p t q : Nat) (a b : Nat) : Prop := match a with
  | 1 => b < 1
  | 10 => b < 1
  | 5 => b < 2
  | 9 => b < 2
  | 2 => b < p
  | 6 => b < p
  | 7 => b < p
  | 8 => b < p
  | 3 => b < t
  | 4 => b < q
  | _ => False
def cs_f (n a k : Nat) : Nat → Option Nat := fun j => if j < k then some (adX n a j) else none
def cs_I (D : va_G) (cA : Nat → ClassId) (n p t q : Nat) (s : State) (H : Heap) (locs : List Loc) : Prop :=
  H.size = n + 10 + 4 * p + t + q ∧ (∀ x : Nat, x < n + 2 → x ≠ n + 1 → H[x]? = s.heap[x]?) ∧ va_S (cn_F (n + 1) (n + 2)) s.heap H locs ∧ (∀ a i, cs_S p t q a i → va_at D classes (adX n a i, ty_en (adX n) cA (s0 a i) a i) H) ∧
  va_at D classes (n + 2, .inl (cA 1, 10, .inr (.inr (.inr (.inr (cs_f n 2 p)))))) H ∧ va_at D classes (n + 3, .inl (cA 2, 12, .inr (.inr (.inr (.inr (cs_f n 3 t)))))) H ∧ va_at D classes (n + 4, .inl (cA 3, 52, .inr (.inr (.inr (.inr (cs_f n 4 q)))))) H
theorem cs_ne {n p t q : Nat} : ∀ {a i : Nat}, cs_S p t q a i → adX n a i ≠ n + 2 ∧ adX n a i ≠ n + 3 ∧ adX n a i ≠ n + 4
  | 0, _, h => False.elim h
  | 1, i, _ => by show n + 1 ≠ n + 2 ∧ n + 1 ≠ n + 3 ∧ n + 1 ≠ n + 4; omega
  | 2, i, _ => by show n + 10 + 4 * i ≠ n + 2 ∧ n + 10 + 4 * i ≠ n + 3 ∧ n + 10 + 4 * i ≠ n + 4; omega
  | 3, i, _ => by show n + 50 + i ≠ n + 2 ∧ n + 50 + i ≠ n + 3 ∧ n + 50 + i ≠ n + 4; omega
  | 4, i, _ => by show n + 62 + i ≠ n + 2 ∧ n + 62 + i ≠ n + 3 ∧ n + 62 + i ≠ n + 4; omega
  | 5, i, _ => by show n + 6 + 2 * i ≠ n + 2 ∧ n + 6 + 2 * i ≠ n + 3 ∧ n + 6 + 2 * i ≠ n + 4; omega
  | 6, i, _ => by show n + 11 + 4 * i ≠ n + 2 ∧ n + 11 + 4 * i ≠ n + 3 ∧ n + 11 + 4 * i ≠ n + 4; omega
  | 7, i, _ => by show n + 12 + 4 * i ≠ n + 2 ∧ n + 12 + 4 * i ≠ n + 3 ∧ n + 12 + 4 * i ≠ n + 4; omega
  | 8, i, _ => by show n + 13 + 4 * i ≠ n + 2 ∧ n + 13 + 4 * i ≠ n + 3 ∧ n + 13 + 4 * i ≠ n + 4; omega
  | 9, i, _ => by show n + 7 + 2 * i ≠ n + 2 ∧ n + 7 + 2 * i ≠ n + 3 ∧ n + 7 + 2 * i ≠ n + 4; omega
  | 10, i, _ => by show n + 5 ≠ n + 2 ∧ n + 5 ≠ n + 3 ∧ n + 5 ≠ n + 4; omega
  | 11, _, h => False.elim h
  | 12, _, h => False.elim h
  | 13, _, h => False.elim h
  | a + 14, _, h => False.elim h
theorem cs_up {n a k : Nat} : va_up (cs_f n a k) k (some (adX n a k)) = cs_f n a (k + 1) := by
  funext j
  unfold va_up cs_f
  by_cases e : j = k
  · subst e; simp
  · simp only [e, if_false]
    by_cases h : j < k
    · rw [if_pos h, if_pos (by omega)]
    · rw [if_neg h, if_neg (by omega)]

set_option maxRecDepth 100000 in
theorem kl_Course_9 : Cond.classLink R_Course 9 R_Program ∈ ty_w := ty_any (by decide +kernel)
set_option maxRecDepth 100000 in
theorem kl_Course_17 : Cond.classLink R_Course 17 R_Trial ∈ ty_w := ty_any (by decide +kernel)
set_option maxRecDepth 100000 in
theorem kl_Course_23 : Cond.classLink R_Course 23 R_Strand ∈ ty_w := ty_any (by decide +kernel)
set_option maxRecDepth 100000 in
theorem kl_Course_33 : Cond.classLink R_Course 33 R_Log ∈ ty_w := ty_any (by decide +kernel)
set_option maxRecDepth 100000 in
theorem ki_Yard : Cond.instantiable R_Yard 3 ∈ ty_w := ty_any (by decide +kernel)
set_option maxRecDepth 100000 in
theorem ki_Course : Cond.instantiable R_Course 12 ∈ ty_w := ty_any (by decide +kernel)
set_option maxRecDepth 100000 in
theorem ki_Program : Cond.instantiable R_Program 4 ∈ ty_w := ty_any (by decide +kernel)
set_option maxRecDepth 100000 in
theorem ki_Trial : Cond.instantiable R_Trial 13 ∈ ty_w := ty_any (by decide +kernel)
set_option maxRecDepth 100000 in
theorem ki_Strand : Cond.instantiable R_Strand 10 ∈ ty_w := ty_any (by decide +kernel)
set_option maxRecDepth 100000 in
theorem ki_Log : Cond.instantiable R_Log 2 ∈ ty_w := ty_any (by decide +kernel)
set_option maxRecDepth 100000 in
theorem ki_Model : Cond.instantiable R_Model 38 ∈ ty_w := ty_any (by decide +kernel)
set_option maxRecDepth 100000 in
set_option maxHeartbeats 4000000 in
theorem cs_loopProgram {p : Program} {l : Launch} {e : Env} {R : Room} {s : State} {m : MethodId} {args : Array Value} {below : List Frame} {meth : Method} {c : Code} {Q : State → Prop} {D : va_G} {cA : Nat → ClassId} {cL : ClassId} {n : Nat} (hx : p.tables.exec = Jvm.exec) (hb : c.code = b_Course_init) (hml : c.maxLocals = 2) (hown : s.vm.findClass R_Course = some m.cls) (hts : ∀ w ∈ ty_w, w.before args s = true) (hK : va_K D classes (wr_tys cA cL) s) (hMM : cn_M s) (hR : R.cells = 112 ∧ R.slots = 1118 ∧ R.frames = 2 ∧ R.locals = 60)
    (kk : ∀ (H : Heap) (locs : List Loc) (ls : Array Slot), cs_I D cA n 10 0 0 s H locs → lv_has ls 2 [(1, .int (nI 10)), (0, .ref (n + 1))] → W p l e R s m args below meth c H locs (8 + 4 * 10) (102 + 34 * 10) Q (F0 m 91 ls [])) :
    ∀ (r i : Nat), i + r = 10 → ∀ (H : Heap) (locs : List Loc) (ls : Array Slot), cs_I D cA n i 0 0 s H locs → lv_has ls 2 [(1, .int (nI i)), (0, .ref (n + 1))] → W p l e R s m args below meth c H locs (8 + 4 * i) (102 + 34 * i) Q (F0 m 66 ls []) := by
  intro r
  induction r with
  | zero =>
    intro i hi H locs ls hI hl
    have hi' : i = 10 := by omega
    subst hi'
    refine lv_iload_n hx hb d_Course_init_66 rfl (lv_at hl 0 rfl) ?_
    refine lv_bipush (v := 10) hx hb d_Course_init_67 (by decide) ?_
    refine lv_icmp_ge (tgt := 91) hx hb d_Course_init_69 (by decide) (fun _ => ?_) (fun h => absurd (nI_le (Nat.le_refl 10) (by decide)) h)
    exact kk H locs ls hI hl
  | succ r ih =>
    intro i hi H locs ls hI hl
    have hiN : i < 10 := by omega
    refine lv_iload_n hx hb d_Course_init_66 rfl (lv_at hl 0 rfl) ?_
    refine lv_bipush (v := 10) hx hb d_Course_init_67 (by decide) ?_
    refine lv_icmp_ge (tgt := 91) hx hb d_Course_init_69 (by decide) (fun h => absurd h (nI_ge hiN (by decide))) (fun _ => ?_)
    obtain ⟨hz, hk, hS, hF, gP, gT, gS⟩ := hI
    have hC : va_at D classes (n + 1, .inr (1, ty_fs (adX n) (s0 1 0) 0 0 [some (11, some 0), some (12, some 0), some (13, some 0), some (10, some 0), some (5, some 0), some (5, some 1), none, none, none, none, none, none])) H := hF 1 0 (by show 0 < 1; decide)
    refine lv_aload_n hx hb d_Course_init_72 rfl (lv_at hl 1 rfl) ?_
    refine dn_get (ci := 1) (C := R_Course) (T := F_Course) (N := 12) hx hb hts i_Course hown hK hC rfl 0 (by decide) fl_Course_11 rfl (v := .ref (n + 2)) rfl d_Course_init_73 ?_
    refine lv_iload_n hx hb d_Course_init_76 rfl (lv_at hl 0 rfl) ?_
    refine dn_new (ci := 2) (C := R_Program) (T := F_Program) (N := 4) (fs := [.null, .null, .null, .int 0]) (h := n + 10 + 4 * i + 0 + 0) hx hb hts hown i_Program t_Program t_Program_ok ⟨kl_Course_9, ki_Program, wn_Program⟩ hK hS rfl (by decide) ⟨by rw [hR.1]; omega, by rw [hR.2.1]; omega⟩ hz d_Course_init_77 (fun H1 a1 z1 k1 hS1 => ?_)
    refine lv_dup hx hb d_Course_init_80 rfl ?_
    refine w_ctorN (n := 0) (b := n + 10 + 4 * i + 0 + 0) (h := n + 10 + 4 * i + 0 + 0 + 1) (As := []) (rest := [.ref (n + 10 + 4 * i + 0 + 0), .int (nI i), .ref (n + 2)]) hx hb hml hl.1 hown hts hK hMM hMM.1 (n_Program_init l _ _ (Nat.lt_succ_self _)) z1 a1 hS1 (fun q hq => by rcases hq with hq | hq <;> (right; omega)) ⟨wi_Program_init, wn_Program, wc_Program_init⟩ rfl ⟨by decide +kernel, by decide +kernel, by decide +kernel⟩ rfl ⟨by rw [hR.2.2.1]; decide, by rw [hR.2.2.2]; decide, by rw [hR.1]; omega, by rw [hR.2.1]; omega⟩ rfl (Nat.le_of_ble_eq_true rfl) d_Course_init_81 (fun H2 L2 hp z2 k2 hS2 => ?_)
    have keep : ∀ x : Nat, x < H.size → H2[x]? = H[x]? := fun x hx => (k2 x (by omega) (by omega)).trans (k1 x (by omega))
    have hlt : n + 10 ≤ H.size := by omega
    obtain ⟨b0, b1, b2, b3⟩ := hp
    have gP2 := gP.kept (keep (n + 2) (by omega))
    have gT2 := gT.kept (keep (n + 3) (by omega))
    have gS2 := gS.kept (keep (n + 4) (by omega))
    refine dn_aast (t := 1) (ci := 2) (v := n + 10 + 4 * i + 0 + 0) (r := (R_Program, F_Program, 4)) hx hb hK gP2 rfl b0 rfl hS2 (Or.inr (by omega)) (vp_in_nI hiN (by decide)) d_Course_init_84 (fun H3 L3 gP3 z3 k3 hS3 => ?_)
    rw [nI_clamp (by omega)] at gP3
    have gP4 : va_at D classes (n + 2, .inl (cA 1, 10, .inr (.inr (.inr (.inr (cs_f n 2 (i + 1))))))) H3 := by rw [← cs_up]; exact gP3
    have gT3 := gT2.kept (k3 (n + 3) (by omega))
    have gS3 := gS2.kept (k3 (n + 4) (by omega))
    have new : ∀ a, (a = 2 ∨ a = 6 ∨ a = 7 ∨ a = 8) → va_at D classes (adX n a i, ty_en (adX n) cA (s0 a i) a i) H3 := by
      intro a ha
      have e2 : adX n 2 i = n + 10 + 4 * i + 0 + 0 := by show n + 10 + 4 * i = _; omega
      have e6 : adX n 6 i = n + 10 + 4 * i + 0 + 0 + 1 := by show n + 11 + 4 * i = _; omega
      have e7 : adX n 7 i = n + 10 + 4 * i + 0 + 0 + 1 + 1 := by show n + 12 + 4 * i = _; omega
      have e8 : adX n 8 i = n + 10 + 4 * i + 0 + 0 + 1 + 2 := by show n + 13 + 4 * i = _; omega
      rcases ha with rfl | rfl | rfl | rfl
      · show va_at D classes (adX n 2 i, .inr (2, [.ref (adX n 6 i), .ref (adX n 7 i), .ref (adX n 8 i), .int 0])) H3
        rw [e2, e6, e7, e8]
        exact b0.kept (k3 _ (by show n + 10 + 4 * i + 0 + 0 ≠ n + 2; omega))
      · rw [e6]; exact b1.kept (k3 _ (by show n + 10 + 4 * i + 0 + 0 + 1 + 0 ≠ n + 2; omega))
      · rw [e7]; exact b2.kept (k3 _ (by show n + 10 + 4 * i + 0 + 0 + 1 + 1 ≠ n + 2; omega))
      · rw [e8]; exact b3.kept (k3 _ (by show n + 10 + 4 * i + 0 + 0 + 1 + 2 ≠ n + 2; omega))
    have hF3 : ∀ a j, cs_S (i + 1) 0 0 a j → va_at D classes (adX n a j, ty_en (adX n) cA (s0 a j) a j) H3 := by
      intro a j h
      have old : cs_S i 0 0 a j → va_at D classes (adX n a j, ty_en (adX n) cA (s0 a j) a j) H3 := fun h => ((hF a j h).kept (keep _ (hF a j h).lt)).kept (k3 _ (cs_ne h).1)
      by_cases ha : a = 2 ∨ a = 6 ∨ a = 7 ∨ a = 8
      · have hj : j < i + 1 := by rcases ha with rfl | rfl | rfl | rfl <;> exact h
        by_cases e : j = i
        · subst e; exact new a ha
        · have hj2 : j < i := by omega
          exact old (by rcases ha with rfl | rfl | rfl | rfl <;> exact hj2)
      · refine old ?_
        match a, h, ha with
        | 1, h, _ => exact h
        | 10, h, _ => exact h
        | 5, h, _ => exact h
        | 9, h, _ => exact h
        | 3, h, _ => exact h
        | 4, h, _ => exact h
        | 2, _, ha => exact absurd (Or.inl rfl) ha
        | 6, _, ha => exact absurd (Or.inr (Or.inl rfl)) ha
        | 7, _, ha => exact absurd (Or.inr (Or.inr (Or.inl rfl))) ha
        | 8, _, ha => exact absurd (Or.inr (Or.inr (Or.inr rfl))) ha
        | 0, h, _ => exact False.elim h
        | 11, h, _ => exact False.elim h
        | 12, h, _ => exact False.elim h
        | 13, h, _ => exact False.elim h
        | a + 14, h, _ => exact False.elim h
    have hI3 : cs_I D cA n (i + 1) 0 0 s H3 L3 := ⟨by rw [z3, z2]; omega, fun x h1 h2 => (k3 x (by omega)).trans ((keep x (by omega)).trans (hk x h1 h2)), hS3, hF3, gP4, gT3, gS3⟩
    refine lv_iinc (v := nI (i + 1)) hx hb d_Course_init_85 hl (k := 0) rfl (nI_succ i).symm (by decide) rfl (fun ls' hl' => ?_)
    refine lv_goto (tgt := 66) hx hb d_Course_init_88 (by decide) ?_
    refine W.widen (k := 8 + 4 * (i + 1)) (n := 102 + 34 * (i + 1)) (by omega) (by omega) ?_
    exact ih (i + 1) (by omega) H3 L3 ls' hI3 hl' 
set_option maxRecDepth 100000 in
set_option maxHeartbeats 4000000 in
theorem cs_loopTrial {p : Program} {l : Launch} {e : Env} {R : Room} {s : State} {m : MethodId} {args : Array Value} {below : List Frame} {meth : Method} {c : Code} {Q : State → Prop} {D : va_G} {cA : Nat → ClassId} {cL : ClassId} {n : Nat} (hx : p.tables.exec = Jvm.exec) (hb : c.code = b_Course_init) (hml : c.maxLocals = 2) (hown : s.vm.findClass R_Course = some m.cls) (hts : ∀ w ∈ ty_w, w.before args s = true) (hK : va_K D classes (wr_tys cA cL) s) (hMM : cn_M s) (hR : R.cells = 112 ∧ R.slots = 1118 ∧ R.frames = 2 ∧ R.locals = 60)
    (kk : ∀ (H : Heap) (locs : List Loc) (ls : Array Slot), cs_I D cA n 10 12 0 s H locs → lv_has ls 2 [(1, .int (nI 12)), (0, .ref (n + 1))] → W p l e R s m args below meth c H locs (48 + 1 * 12) (442 + 13 * 12) Q (F0 m 118 ls [])) :
    ∀ (r i : Nat), i + r = 12 → ∀ (H : Heap) (locs : List Loc) (ls : Array Slot), cs_I D cA n 10 i 0 s H locs → lv_has ls 2 [(1, .int (nI i)), (0, .ref (n + 1))] → W p l e R s m args below meth c H locs (48 + 1 * i) (442 + 13 * i) Q (F0 m 93 ls []) := by
  intro r
  induction r with
  | zero =>
    intro i hi H locs ls hI hl
    have hi' : i = 12 := by omega
    subst hi'
    refine lv_iload_n hx hb d_Course_init_93 rfl (lv_at hl 0 rfl) ?_
    refine lv_bipush (v := 12) hx hb d_Course_init_94 (by decide) ?_
    refine lv_icmp_ge (tgt := 118) hx hb d_Course_init_96 (by decide) (fun _ => ?_) (fun h => absurd (nI_le (Nat.le_refl 12) (by decide)) h)
    exact kk H locs ls hI hl
  | succ r ih =>
    intro i hi H locs ls hI hl
    have hiN : i < 12 := by omega
    refine lv_iload_n hx hb d_Course_init_93 rfl (lv_at hl 0 rfl) ?_
    refine lv_bipush (v := 12) hx hb d_Course_init_94 (by decide) ?_
    refine lv_icmp_ge (tgt := 118) hx hb d_Course_init_96 (by decide) (fun h => absurd h (nI_ge hiN (by decide))) (fun _ => ?_)
    obtain ⟨hz, hk, hS, hF, gP, gT, gS⟩ := hI
    have hC : va_at D classes (n + 1, .inr (1, ty_fs (adX n) (s0 1 0) 0 0 [some (11, some 0), some (12, some 0), some (13, some 0), some (10, some 0), some (5, some 0), some (5, some 1), none, none, none, none, none, none])) H := hF 1 0 (by show 0 < 1; decide)
    refine lv_aload_n hx hb d_Course_init_99 rfl (lv_at hl 1 rfl) ?_
    refine dn_get (ci := 1) (C := R_Course) (T := F_Course) (N := 12) hx hb hts i_Course hown hK hC rfl 1 (by decide) fl_Course_19 rfl (v := .ref (n + 3)) rfl d_Course_init_100 ?_
    refine lv_iload_n hx hb d_Course_init_103 rfl (lv_at hl 0 rfl) ?_
    refine dn_new (ci := 3) (C := R_Trial) (T := F_Trial) (N := 13) (fs := [.int 0, .int 0, .int 0, .int 0, .int 0, .int 0, .int 0, .int 0, .int 0, .int 0, .int 0, .int 0, .int 0]) (h := n + 10 + 4 * 10 + i + 0) hx hb hts hown i_Trial t_Trial t_Trial_ok ⟨kl_Course_17, ki_Trial, wn_Trial⟩ hK hS rfl (by decide) ⟨by rw [hR.1]; omega, by rw [hR.2.1]; omega⟩ hz d_Course_init_104 (fun H1 a1 z1 k1 hS1 => ?_)
    refine lv_dup hx hb d_Course_init_107 rfl ?_
    refine w_ctor (n := 0) (b := n + 10 + 4 * 10 + i + 0) (h := n + 10 + 4 * 10 + i + 0 + 1) (As := []) (rest := [.ref (n + 10 + 4 * 10 + i + 0), .int (nI i), .ref (n + 3)]) hx hb hml hl.1 hown hts hK hMM  (n_Trial_init l _ _ (Nat.lt_succ_self _)) z1 a1 hS1 (fun q hq => by rcases hq with hq | hq <;> (right; omega)) ⟨ml_Course_46, wi_Trial_init, wn_Trial, wc_Trial_init⟩ rfl ⟨by decide +kernel, by decide +kernel, by decide +kernel⟩ rfl ⟨by rw [hR.2.2.1]; decide, by rw [hR.2.2.2]; decide, by rw [hR.1]; omega, by rw [hR.2.1]; omega⟩ rfl (Nat.le_of_ble_eq_true rfl) d_Course_init_108 (fun H2 L2 hp z2 k2 hS2 => ?_)
    have keep : ∀ x : Nat, x < H.size → H2[x]? = H[x]? := fun x hx => (k2 x (by omega) (by omega)).trans (k1 x (by omega))
    have hlt : n + 10 ≤ H.size := by omega
    have b0 := hp
    have gT2 := gT.kept (keep (n + 3) (by omega))
    have gP2 := gP.kept (keep (n + 2) (by omega))
    have gS2 := gS.kept (keep (n + 4) (by omega))
    refine dn_aast (t := 2) (ci := 3) (v := n + 10 + 4 * 10 + i + 0) (r := (R_Trial, F_Trial, 13)) hx hb hK gT2 rfl b0 rfl hS2 (Or.inr (by omega)) (vp_in_nI hiN (by decide)) d_Course_init_111 (fun H3 L3 gT3 z3 k3 hS3 => ?_)
    rw [nI_clamp (by omega)] at gT3
    have ead : adX n 3 i = n + 10 + 4 * 10 + i + 0 := by show n + 50 + i = n + 10 + 4 * 10 + i + 0; omega
    have gT4 : va_at D classes (n + 3, .inl (cA 2, 12, .inr (.inr (.inr (.inr (cs_f n 3 (i + 1))))))) H3 := by rw [← cs_up, ead]; exact gT3
    have gP3 := gP2.kept (k3 (n + 2) (by omega))
    have gS3 := gS2.kept (k3 (n + 4) (by omega))
    have hF3 : ∀ a j, cs_S 10 (i + 1) 0 a j → va_at D classes (adX n a j, ty_en (adX n) cA (s0 a j) a j) H3 := by
      intro a j h
      have old : cs_S 10 i 0 a j → va_at D classes (adX n a j, ty_en (adX n) cA (s0 a j) a j) H3 := fun h => ((hF a j h).kept (keep _ (hF a j h).lt)).kept (k3 _ (cs_ne h).2.1)
      by_cases ha : a = 3
      · subst ha
        have hj : j < i + 1 := h
        by_cases e : j = i
        · subst e
          rw [ead]
          exact b0.kept (k3 _ (by show n + 10 + 4 * 10 + j + 0 ≠ n + 3; omega))
        · exact old (show j < i by omega)
      · refine old ?_
        match a, h, ha with
        | 1, h, _ => exact h
        | 10, h, _ => exact h
        | 5, h, _ => exact h
        | 9, h, _ => exact h
        | 2, h, _ => exact h
        | 6, h, _ => exact h
        | 7, h, _ => exact h
        | 8, h, _ => exact h
        | 4, h, _ => exact h
        | 3, _, ha => exact absurd rfl ha
        | 0, h, _ => exact False.elim h
        | 11, h, _ => exact False.elim h
        | 12, h, _ => exact False.elim h
        | 13, h, _ => exact False.elim h
        | a + 14, h, _ => exact False.elim h
    have hI3 : cs_I D cA n 10 (i + 1) 0 s H3 L3 := ⟨by rw [z3, z2]; omega, fun x h1 h2 => (k3 x (by omega)).trans ((keep x (by omega)).trans (hk x h1 h2)), hS3, hF3, gP3, gT4, gS3⟩
    refine lv_iinc (v := nI (i + 1)) hx hb d_Course_init_112 hl (k := 0) rfl (nI_succ i).symm (by decide) rfl (fun ls' hl' => ?_)
    refine lv_goto (tgt := 93) hx hb d_Course_init_115 (by decide) ?_
    refine W.widen (k := 48 + 1 * (i + 1)) (n := 442 + 13 * (i + 1)) (by omega) (by omega) ?_
    exact ih (i + 1) (by omega) H3 L3 ls' hI3 hl' 
set_option maxRecDepth 100000 in
set_option maxHeartbeats 4000000 in
theorem cs_loopStrand {p : Program} {l : Launch} {e : Env} {R : Room} {s : State} {m : MethodId} {args : Array Value} {below : List Frame} {meth : Method} {c : Code} {Q : State → Prop} {D : va_G} {cA : Nat → ClassId} {cL : ClassId} {n : Nat} (hx : p.tables.exec = Jvm.exec) (hb : c.code = b_Course_init) (hml : c.maxLocals = 2) (hown : s.vm.findClass R_Course = some m.cls) (hts : ∀ w ∈ ty_w, w.before args s = true) (hK : va_K D classes (wr_tys cA cL) s) (hMM : cn_M s) (hR : R.cells = 112 ∧ R.slots = 1118 ∧ R.frames = 2 ∧ R.locals = 60)
    (kk : ∀ (H : Heap) (locs : List Loc) (ls : Array Slot), cs_I D cA n 10 12 52 s H locs → lv_has ls 2 [(1, .int (nI 52)), (0, .ref (n + 1))] → W p l e R s m args below meth c H locs (60 + 1 * 52) (598 + 10 * 52) Q (F0 m 145 ls [])) :
    ∀ (r i : Nat), i + r = 52 → ∀ (H : Heap) (locs : List Loc) (ls : Array Slot), cs_I D cA n 10 12 i s H locs → lv_has ls 2 [(1, .int (nI i)), (0, .ref (n + 1))] → W p l e R s m args below meth c H locs (60 + 1 * i) (598 + 10 * i) Q (F0 m 120 ls []) := by
  intro r
  induction r with
  | zero =>
    intro i hi H locs ls hI hl
    have hi' : i = 52 := by omega
    subst hi'
    refine lv_iload_n hx hb d_Course_init_120 rfl (lv_at hl 0 rfl) ?_
    refine lv_bipush (v := 52) hx hb d_Course_init_121 (by decide) ?_
    refine lv_icmp_ge (tgt := 145) hx hb d_Course_init_123 (by decide) (fun _ => ?_) (fun h => absurd (nI_le (Nat.le_refl 52) (by decide)) h)
    exact kk H locs ls hI hl
  | succ r ih =>
    intro i hi H locs ls hI hl
    have hiN : i < 52 := by omega
    refine lv_iload_n hx hb d_Course_init_120 rfl (lv_at hl 0 rfl) ?_
    refine lv_bipush (v := 52) hx hb d_Course_init_121 (by decide) ?_
    refine lv_icmp_ge (tgt := 145) hx hb d_Course_init_123 (by decide) (fun h => absurd h (nI_ge hiN (by decide))) (fun _ => ?_)
    obtain ⟨hz, hk, hS, hF, gP, gT, gS⟩ := hI
    have hC : va_at D classes (n + 1, .inr (1, ty_fs (adX n) (s0 1 0) 0 0 [some (11, some 0), some (12, some 0), some (13, some 0), some (10, some 0), some (5, some 0), some (5, some 1), none, none, none, none, none, none])) H := hF 1 0 (by show 0 < 1; decide)
    refine lv_aload_n hx hb d_Course_init_126 rfl (lv_at hl 1 rfl) ?_
    refine dn_get (ci := 1) (C := R_Course) (T := F_Course) (N := 12) hx hb hts i_Course hown hK hC rfl 2 (by decide) fl_Course_25 rfl (v := .ref (n + 4)) rfl d_Course_init_127 ?_
    refine lv_iload_n hx hb d_Course_init_130 rfl (lv_at hl 0 rfl) ?_
    refine dn_new (ci := 4) (C := R_Strand) (T := F_Strand) (N := 10) (fs := [.int 0, .int 0, .int 0, .int 0, .int 0, .int 0, .int 0, .int 0, .int 0, .int 0]) (h := n + 10 + 4 * 10 + 12 + i) hx hb hts hown i_Strand t_Strand t_Strand_ok ⟨kl_Course_23, ki_Strand, wn_Strand⟩ hK hS rfl (by decide) ⟨by rw [hR.1]; omega, by rw [hR.2.1]; omega⟩ hz d_Course_init_131 (fun H1 a1 z1 k1 hS1 => ?_)
    refine lv_dup hx hb d_Course_init_134 rfl ?_
    refine w_ctorN (n := 0) (b := n + 10 + 4 * 10 + 12 + i) (h := n + 10 + 4 * 10 + 12 + i + 1) (As := []) (rest := [.ref (n + 10 + 4 * 10 + 12 + i), .int (nI i), .ref (n + 4)]) hx hb hml hl.1 hown hts hK hMM hMM.2.1 (n_Strand_init l _ _ (Nat.lt_succ_self _)) z1 a1 hS1 (fun q hq => by rcases hq with hq | hq <;> (right; omega)) ⟨wi_Strand_init, wn_Strand, wc_Strand_init⟩ rfl ⟨by decide +kernel, by decide +kernel, by decide +kernel⟩ rfl ⟨by rw [hR.2.2.1]; decide, by rw [hR.2.2.2]; decide, by rw [hR.1]; omega, by rw [hR.2.1]; omega⟩ rfl (Nat.le_of_ble_eq_true rfl) d_Course_init_135 (fun H2 L2 hp z2 k2 hS2 => ?_)
    have keep : ∀ x : Nat, x < H.size → H2[x]? = H[x]? := fun x hx => (k2 x (by omega) (by omega)).trans (k1 x (by omega))
    have hlt : n + 10 ≤ H.size := by omega
    have b0 := hp
    have gS2 := gS.kept (keep (n + 4) (by omega))
    have gP2 := gP.kept (keep (n + 2) (by omega))
    have gT2 := gT.kept (keep (n + 3) (by omega))
    refine dn_aast (t := 3) (ci := 4) (v := n + 10 + 4 * 10 + 12 + i) (r := (R_Strand, F_Strand, 10)) hx hb hK gS2 rfl b0 rfl hS2 (Or.inr (by omega)) (vp_in_nI hiN (by decide)) d_Course_init_138 (fun H3 L3 gS3 z3 k3 hS3 => ?_)
    rw [nI_clamp (by omega)] at gS3
    have ead : adX n 4 i = n + 10 + 4 * 10 + 12 + i := by show n + 62 + i = n + 10 + 4 * 10 + 12 + i; omega
    have gS4 : va_at D classes (n + 4, .inl (cA 3, 52, .inr (.inr (.inr (.inr (cs_f n 4 (i + 1))))))) H3 := by rw [← cs_up, ead]; exact gS3
    have gP3 := gP2.kept (k3 (n + 2) (by omega))
    have gT3 := gT2.kept (k3 (n + 3) (by omega))
    have hF3 : ∀ a j, cs_S 10 12 (i + 1) a j → va_at D classes (adX n a j, ty_en (adX n) cA (s0 a j) a j) H3 := by
      intro a j h
      have old : cs_S 10 12 i a j → va_at D classes (adX n a j, ty_en (adX n) cA (s0 a j) a j) H3 := fun h => ((hF a j h).kept (keep _ (hF a j h).lt)).kept (k3 _ (cs_ne h).2.2)
      by_cases ha : a = 4
      · subst ha
        have hj : j < i + 1 := h
        by_cases e : j = i
        · subst e
          rw [ead]
          exact b0.kept (k3 _ (by show n + 10 + 4 * 10 + 12 + j ≠ n + 4; omega))
        · exact old (show j < i by omega)
      · refine old ?_
        match a, h, ha with
        | 1, h, _ => exact h
        | 10, h, _ => exact h
        | 5, h, _ => exact h
        | 9, h, _ => exact h
        | 2, h, _ => exact h
        | 6, h, _ => exact h
        | 7, h, _ => exact h
        | 8, h, _ => exact h
        | 3, h, _ => exact h
        | 4, _, ha => exact absurd rfl ha
        | 0, h, _ => exact False.elim h
        | 11, h, _ => exact False.elim h
        | 12, h, _ => exact False.elim h
        | 13, h, _ => exact False.elim h
        | a + 14, h, _ => exact False.elim h
    have hI3 : cs_I D cA n 10 12 (i + 1) s H3 L3 := ⟨by rw [z3, z2]; omega, fun x h1 h2 => (k3 x (by omega)).trans ((keep x (by omega)).trans (hk x h1 h2)), hS3, hF3, gP3, gT3, gS4⟩
    refine lv_iinc (v := nI (i + 1)) hx hb d_Course_init_139 hl (k := 0) rfl (nI_succ i).symm (by decide) rfl (fun ls' hl' => ?_)
    refine lv_goto (tgt := 120) hx hb d_Course_init_142 (by decide) ?_
    refine W.widen (k := 60 + 1 * (i + 1)) (n := 598 + 10 * (i + 1)) (by omega) (by omega) ?_
    exact ih (i + 1) (by omega) H3 L3 ls' hI3 hl' 
