/-! THE FRAME: one typed world; a judgement V over it; a row an instruction -/
abbrev ty_SV : Type := Int32 ⊕ (Nat × Nat)
abbrev ty_St : Type := Nat → Nat → Nat → Int32
def ty_sv (ad : Nat → Nat → Nat) : ty_SV → Value
  | .inl x => .int x
  | .inr q => .ref (ad q.1 q.2)
theorem ty_cat (ad : Nat → Nat → Nat) (v : ty_SV) : (ty_sv ad v).category = 1 := by cases v <;> rfl
/-- a slot of an object: an int, or a reference that stays -/
def ty_sl (f : Nat → Int32) (i j : Nat) : Option (Nat × Option Nat) → ty_SV
  | none => .inl (f j)
  | some (a, none) => .inr (a, i)
  | some (a, some k) => .inr (a, k)
def ty_fs (ad : Nat → Nat → Nat) (f : Nat → Int32) (i : Nat) : Nat → List (Option (Nat × Option Nat)) → List Value
  | _, [] => []
  | j, q :: r => ty_sv ad (ty_sl f i j q) :: ty_fs ad f i (j + 1) r
theorem ty_fs_len (ad : Nat → Nat → Nat) (f : Nat → Int32) (i : Nat) : ∀ (fl : List (Option (Nat × Option Nat))) (j : Nat), (ty_fs ad f i j fl).length = fl.length
  | [], _ => rfl
  | _ :: r, j => by simp [ty_fs, ty_fs_len ad f i r (j + 1)]
theorem ty_fs_get (ad : Nat → Nat → Nat) (f : Nat → Int32) (i : Nat) : ∀ (fl : List (Option (Nat × Option Nat))) (j k : Nat) (q : Option (Nat × Option Nat)), fl[k]? = some q → (ty_fs ad f i j fl)[k]? = some (ty_sv ad (ty_sl f i (j + k) q))
  | [], _, k, q, h => by simp at h
  | a :: r, j, 0, q, h => by simp at h; subst h; rfl
  | a :: r, j, k + 1, q, h => by
    have h' : r[k]? = some q := by simpa using h
    have := ty_fs_get ad f i r (j + 1) k q h'
    rw [show j + (k + 1) = j + 1 + k by omega]
    simpa [ty_fs] using this
theorem ty_fs_low (ad : Nat → Nat → Nat) (f : Nat → Int32) (i : Nat) (n : Nat) (x : Int32) : ∀ (fl : List (Option (Nat × Option Nat))) (j : Nat), n < j → ty_fs ad (upd f n x) i j fl = ty_fs ad f i j fl
  | [], _, _ => rfl
  | q :: r, j, h => by
    have hq : ty_sl (upd f n x) i j q = ty_sl f i j q := by
      match q with
      | none => show Sum.inl (upd f n x j) = Sum.inl (f j); rw [pk_un (by omega)]
      | some (a, none) => rfl
      | some (a, some k) => rfl
    show _ :: _ = _ :: _
    rw [hq, ty_fs_low ad f i n x r (j + 1) (by omega)]
theorem ty_fs_set (ad : Nat → Nat → Nat) (f : Nat → Int32) (i : Nat) (x : Int32) : ∀ (fl : List (Option (Nat × Option Nat))) (j k : Nat), fl[k]? = some none → (ty_fs ad f i j fl).set k (.int x) = ty_fs ad (upd f (j + k) x) i j fl
  | [], _, k, h => by simp at h
  | a :: r, j, 0, h => by
    have h' : a = none := by simpa using h
    subst h'
    show Value.int x :: ty_fs ad f i (j + 1) r = ty_sv ad (.inl (upd f (j + 0) x j)) :: ty_fs ad (upd f (j + 0) x) i (j + 1) r
    rw [ty_fs_low ad f i (j + 0) x r (j + 1) (by omega)]
    simp [ty_sv, upd]
  | a :: r, j, k + 1, h => by
    have h' : r[k]? = some none := by simpa using h
    have ih := ty_fs_set ad f i x r (j + 1) k h'
    have hq : ty_sl (upd f (j + (k + 1)) x) i j a = ty_sl f i j a := by
      match a with
      | none => show Sum.inl (upd f _ x j) = Sum.inl (f j); rw [pk_un (by omega)]
      | some (b, none) => rfl
      | some (b, some q) => rfl
    show ty_sv ad (ty_sl f i j a) :: (ty_fs ad f i (j + 1) r).set k (.int x) = ty_sv ad (ty_sl (upd f (j + (k + 1)) x) i j a) :: ty_fs ad (upd f (j + (k + 1)) x) i (j + 1) r
    rw [hq, ih, show j + 1 + k = j + (k + 1) by omega]
/-- the cell of kind a, number i, whose ints are f -/
def ty_en (ad : Nat → Nat → Nat) (cA : Nat → ClassId) (f : Nat → Int32) (a i : Nat) : va_E := match ty_ki a i with
  | .inl (ci, fl) => .inr (ci, ty_fs ad f i 0 fl)
  | .inr (t, n, none) => .inl (cA t, n, .inl f)
  | .inr (t, n, some b) => .inl (cA t, n, .inr (.inr (.inr (.inr fun j => some (ad b j)))))
def ty_up (σ : ty_St) (a i j : Nat) (x : Int32) : ty_St := fun a' i' => if a' = a ∧ i' = i then upd (σ a i) j x else σ a' i'
def ty_H (cn : Nat → Nat) (D : va_G) (ad : Nat → Nat → Nat) (cA : Nat → ClassId) (σ : ty_St) (H : Heap) : Prop := ∀ a i, i < cn a → va_at D classes (ad a i, ty_en ad cA (σ a i) a i) H
def ty_J (cn : Nat → Nat) (ad : Nat → Nat → Nat) : Prop := ∀ a i a' i', i < cn a → i' < cn a' → ad a i = ad a' i' → a = a' ∧ i = i'
def ty_A (cn : Nat → Nat) (ad : Nat → Nat → Nat) : Nat → Prop := fun q => ∃ a i, i < cn a ∧ q = ad a i
def ty_okv (cn : Nat → Nat) : ty_SV → Prop
  | .inl _ => True
  | .inr q => q.2 < cn q.1
theorem ty_H.set {cn : Nat → Nat} {D : va_G} {ad : Nat → Nat → Nat} {cA : Nat → ClassId} {σ : ty_St} {H H1 : Heap} {a i j : Nat} {x : Int32} (hH : ty_H cn D ad cA σ H) (hJ : ty_J cn ad) (hi : i < cn a) (h1 : va_at D classes (ad a i, ty_en ad cA (upd (σ a i) j x) a i) H1) (oq : ∀ q : Nat, q < H.size → q ≠ ad a i → H1[q]? = H[q]?) : ty_H cn D ad cA (ty_up σ a i j x) H1 := by
  intro a' i' hi'
  by_cases h : a' = a ∧ i' = i
  · obtain ⟨rfl, rfl⟩ := h
    have e : ty_up σ a' i' j x a' i' = upd (σ a' i') j x := by simp [ty_up]
    rw [e]; exact h1
  · have e : ty_up σ a i j x a' i' = σ a' i' := by simp only [ty_up]; exact if_neg h
    rw [e]
    have h2 := hH a' i' hi'
    refine h2.kept (oq _ h2.lt (fun q => h ?_))
    exact hJ a' i' a i hi' hi q
theorem ty_H.kept {cn : Nat → Nat} {D : va_G} {ad : Nat → Nat → Nat} {cA : Nat → ClassId} {σ : ty_St} {H H1 : Heap} (hH : ty_H cn D ad cA σ H) (oq : ∀ q : Nat, q < H.size → ty_A cn ad q → H1[q]? = H[q]?) : ty_H cn D ad cA σ H1 :=
  fun a i hi => (hH a i hi).kept (oq _ (hH a i hi).lt ⟨a, i, hi, rfl⟩)
/-- the locals -/
def ty_L (ad : Nat → Nat → Nat) (ls : Array Slot) (nL : Nat) (loc : List (Option ty_SV)) : Prop := ∃ lv : List (Nat × Value), lv_has ls nL lv ∧ ∀ i v, loc[i]? = some (some v) → (i, ty_sv ad v) ∈ lv
theorem ty_L.at {ad : Nat → Nat → Nat} {ls : Array Slot} {nL : Nat} {loc : List (Option ty_SV)} (h : ty_L ad ls nL loc) {i : Nat} {v : ty_SV} (hi : loc[i]? = some (some v)) : ls[i]? = some (.val (ty_sv ad v)) := by
  obtain ⟨lv, h1, h2⟩ := h
  exact h1.2.2 _ (h2 i v hi)
theorem ty_L.size {ad : Nat → Nat → Nat} {ls : Array Slot} {nL : Nat} {loc : List (Option ty_SV)} (h : ty_L ad ls nL loc) : ls.size = nL := h.choose_spec.1.1
theorem ty_L.put {ad : Nat → Nat → Nat} {ls : Array Slot} {nL : Nat} {loc : List (Option ty_SV)} {lv : List (Nat × Value)} {i : Nat} {v : ty_SV} (hm : ∀ j w, loc[j]? = some (some w) → (j, ty_sv ad w) ∈ lv)
    (h : lv_has ls nL ((i, ty_sv ad v) :: lv.filter (fun q => !(q.1 == i) && !(q.1 + 1 == i && q.2.category == 2)))) : ty_L ad ls nL (loc.set i (some v)) := by
  refine ⟨_, h, fun j w hj => ?_⟩
  by_cases e : j = i
  · subst e
    have hl : j < loc.length := by
      have := (List.getElem?_eq_some_iff.mp hj).1
      simpa using this
    rw [List.getElem?_set_self hl] at hj
    cases hj
    exact List.mem_cons_self
  · rw [List.getElem?_set_ne (Ne.symm e)] at hj
    refine List.mem_cons_of_mem _ (List.mem_filter.mpr ⟨hm j w hj, ?_⟩)
    simp [e, ty_cat]
def ty_okl (cn : Nat → Nat) (loc : List (Option ty_SV)) : Prop := ∀ (i : Nat) (v : ty_SV), loc[i]? = some (some v) → ty_okv cn v
def ty_oks (cn : Nat → Nat) (st : List ty_SV) : Prop := ∀ v ∈ st, ty_okv cn v
theorem ty_oks.cons {cn : Nat → Nat} {v : ty_SV} {st : List ty_SV} (hv : ty_okv cn v) (h : ty_oks cn st) : ty_oks cn (v :: st) := fun w hw => by
  rcases List.mem_cons.mp hw with e | e
  · rw [e]; exact hv
  · exact h w e
theorem ty_oks.tl {cn : Nat → Nat} {v : ty_SV} {st : List ty_SV} (h : ty_oks cn (v :: st)) : ty_oks cn st := fun w hw => h w (List.mem_cons_of_mem _ hw)
theorem ty_oks.hd {cn : Nat → Nat} {v : ty_SV} {st : List ty_SV} (h : ty_oks cn (v :: st)) : ty_okv cn v := h v List.mem_cons_self
theorem ty_okl.put {cn : Nat → Nat} {loc : List (Option ty_SV)} {i : Nat} {v : ty_SV} (h : ty_okl cn loc) (hv : ty_okv cn v) : ty_okl cn (loc.set i (some v)) := by
  intro j w hj
  by_cases e : j = i
  · subst e
    have hl : j < loc.length := by
      have := (List.getElem?_eq_some_iff.mp hj).1
      simpa using this
    rw [List.getElem?_set_self hl] at hj
    cases hj
    exact hv
  · rw [List.getElem?_set_ne (Ne.symm e)] at hj
    exact h j w hj
def ty_CX (cn : Nat → Nat) (p : Program) (s : State) (m : MethodId) (args : Array Value) (meth : Method) (c : Code) (D : va_G) (ad : Nat → Nat → Nat) (cA : Nat → ClassId) (own : String) (cc : ByteArray) (nL : Nat) : Prop :=
  p.tables.exec = Jvm.exec ∧ c.code = cc ∧ c.maxLocals = nL ∧ s.vm.findClass own = some m.cls ∧ (∀ w ∈ ty_w, w.before args s = true) ∧ va_K D classes (ty_tys cA) s ∧ ty_J cn ad ∧ (∀ a i ci fl, ty_ki a i = .inl (ci, fl) → ∀ b z, some (b, z) ∈ fl → i < cn a → z.getD i < cn b) ∧ meth.locks = false
/-- the heap may have changed in the world's cells; or: nothing has changed yet -/
def ty_Gd (cn : Nat → Nat) (ad : Nat → Nat → Nat) (s : State) : Heap → List Loc → Prop := fun H locs => va_S (ty_A cn ad) s.heap H locs
def ty_Gc (s : State) : Heap → List Loc → Prop := fun H locs => H = s.heap ∧ locs = []
def ty_V (cn : Nat → Nat) (p : Program) (l : Launch) (e : Env) (R : Room) (s : State) (m : MethodId) (args : Array Value) (below : List Frame) (meth : Method) (c : Code) (D : va_G) (ad : Nat → Nat → Nat) (cA : Nat → ClassId) (G : Heap → List Loc → Prop) (nL : Nat) (Q : State → Prop) (σ : ty_St) (loc : List (Option ty_SV)) (pc : Nat) (st : List ty_SV) : Prop :=
  ∀ (H : Heap) (locs : List Loc) (ls : Array Slot), ty_H cn D ad cA σ H → G H locs → ty_L ad ls nL loc → ty_okl cn loc → ty_oks cn st → W p l e R s m args below meth c H locs 0 0 Q (F0 m pc ls (st.map (ty_sv ad)))
theorem ty_good : ∀ w ∈ ty_w, (w.onTables && w.keeps) = true ∨ ∃ ty, w = .arrayClass ty := fun w hw => good_of_word (List.mem_filter.mp hw).2
theorem GoodIn.ty {y : MethodName} {bytes : ByteArray} {maxL : Nat} {ret : Option FieldType} {ws : List Cond} (h : ∀ w ∈ ws, w ∈ ty_w) (hc : Cond.code y bytes maxL ret ∈ ty_w) : GoodIn ty_w (ws ++ (Cond.code y bytes maxL ret :: ty_w)) := by
  have key : ∀ w ∈ ws ++ (Cond.code y bytes maxL ret :: ty_w), w ∈ ty_w := by
    intro w hw
    rcases List.mem_append.mp hw with h1 | h1
    · exact h w h1
    · rcases List.mem_cons.mp h1 with h2 | h2
      · rw [h2]; exact hc
      · exact h2
  exact fun w hw => ⟨key w hw, ty_good w (key w hw)⟩
section TYP
variable {p : Program} {l : Launch} {e : Env} {R : Room} {s : State} {m : MethodId} {args : Array Value} {below : List Frame} {meth : Method} {c : Code} {H : Heap} {locs : List Loc} {cells slots : Nat} {Q : State → Prop}
variable {cc : ByteArray} {pc : Nat} {ls : Array Slot} {rest : List Value} {D : va_G} {cl : List vw_C} {A : Nat → Prop} {a : Nat} {tys : List (ClassId × FieldType)} {H0 : Heap}
theorem ty_putS (hexec : p.tables.exec = Jvm.exec) (hb : c.code = cc) {own ref C : String} {T : u_T} {N ci index : Nat} {Ts : List Cond} (hts : ∀ w ∈ Ts, w.before args s = true) (hin : ∀ w ∈ u_ws C T N, w ∈ Ts) (ty0 : Nat → FieldType) (hty : ∀ k, k < N → parseFieldDescriptor (T k).2.2.1 = some (ty0 k)) (hnm : ∀ a, a < N → ∀ b, b < N → a ≠ b → (T a).2.1 ≠ (T b).2.1) (hown : s.vm.findClass own = some m.cls) (hK : va_K D cl tys s) {fs : List Value} (hat : va_at D cl (a, .inr (ci, fs)) H) (hS0 : va_S A H0 H locs) (hAa : A a) (hc : cl[ci]? = some (C, T, N)) (k : Nat) (hk : k < N) (hlink : (Cond.fieldLink own index ref (T k).2.1 (T k).2.2.1).before args s = true) (hsame : ∀ x, s.fieldFound? (T k).1 (T k).2.1 (T k).2.2.1 = some x → s.fieldFound? ref (T k).2.1 (T k).2.2.1 = some x) (hfin : (T k).2.2.2 = false) {ty : FieldType} {v : Value} (hd : parseFieldDescriptor (T k).2.2.1 = some ty) (hn : narrow ty v = v) (hfit : fits ty v = true) (hl : k < fs.length)
    (hdg : decode cc pc = .ok (.putfield index, 3)) (kk : ∀ (H1 : Heap) (locs1 : List Loc), va_at D cl (a, .inr (ci, fs.set k v)) H1 → (∀ q : Nat, q ≠ a → H1[q]? = H[q]?) → va_S A H0 H1 locs1 → W p l e R s m args below meth c H1 locs1 cells slots Q (F0 m (pc + 3) ls rest)) : W p l e R s m args below meth c H locs cells slots Q (F0 m pc ls (v :: .ref a :: rest)) := by
  have hap := va_apart (own := own) hts hin ty0 hty hnm hK hc
  obtain ⟨r, h1, cell, q1, q2, q3, q4⟩ := hat
  have hr : r = (C, T, N) := Option.some.inj (h1.symm.trans hc)
  subst hr
  obtain ⟨hS, hfc, kC, hkC, hkind⟩ := hK.1 ci _ hc
  obtain ⟨cf, kf, fi, f, hi, hsl⟩ := hS k hk
  have hlay := hts _ (hin _ (u_in_lay hk))
  unfold u_lay at hlay
  rw [if_neg (by rw [hfin]; decide)] at hlay
  have hst := (u_facts hfc hkC (u_lays hts hin hk) hi).1
  have h6 := u_store hfc hkC hkind hlay hi hd hn hfit
  refine W.putK hexec hb (f := f) ⟨hown, hlink, ⟨_, _, _, hsame _ hi⟩, hst⟩ (by rw [q2]; exact h6) q1 q3 (by rw [hsl]; exact k2_hasslot (q4 k hk)) rfl rfl hdg fun H' e1 e2 e3 => ?_
  rw [hsl] at e1 ⊢
  exact kk H' _ ⟨_, hc, t_OB.to (V := updV (vp_V fs) k v) ⟨_, e1, q2, q3, t_set q4 hap hk v⟩ (fun j _ => vp_updV_set hl v j)⟩ e3 (hS0.put e2 e3 hAa)
theorem ty_len {ad : Nat → Nat → Nat} {st : List ty_SV} : ((st.map (ty_sv ad)).map fun v => v.category).sum = st.length := by
  induction st with
  | nil => rfl
  | cons v r ih => simp [ty_cat] at ih ⊢; omega
theorem ty_one {D : va_G} {cl : List vw_C} {q : Nat × va_E} {H : Heap} (h : va_at D cl q H) : va_P D cl [q] H := by
  intro n x hx
  have hn : n < 1 := (List.getElem?_eq_some_iff.mp hx).1
  rw [show n = 0 by omega] at hx
  cases hx
  exact h
end TYP
section TYV
variable {cn : Nat → Nat} {p : Program} {l : Launch} {e : Env} {R : Room} {s : State} {m : MethodId} {args : Array Value} {below : List Frame} {meth : Method} {c : Code} {D : va_G} {ad : Nat → Nat → Nat} {cA : Nat → ClassId} {G : Heap → List Loc → Prop} {nL : Nat} {Q : State → Prop} {own : String} {cc : ByteArray} {σ : ty_St} {loc : List (Option ty_SV)} {pc : Nat} {st : List ty_SV}
theorem v_iconst (C : ty_CX cn p s m args meth c D ad cA own cc nL) {n : Int} {v : Int32} (d : decode cc pc = .ok (.iconst n, 1)) (hv : Int32.ofInt n = v) (k : ty_V cn p l e R s m args below meth c D ad cA G nL Q σ loc (pc + 1) (.inl v :: st)) : ty_V cn p l e R s m args below meth c D ad cA G nL Q σ loc (pc) (st) := by
  intro H locs ls hH hS hL hl hs
  exact lv_iconst C.1 C.2.1 d hv (k H locs ls hH hS hL hl (ty_oks.cons trivial hs))
theorem v_bipush (C : ty_CX cn p s m args meth c D ad cA own cc nL) {n : Int} {v : Int32} (d : decode cc pc = .ok (.bipush n, 2)) (hv : (Int8.ofInt n).toInt32 = v) (k : ty_V cn p l e R s m args below meth c D ad cA G nL Q σ loc (pc + 2) (.inl v :: st)) : ty_V cn p l e R s m args below meth c D ad cA G nL Q σ loc (pc) (st) := by
  intro H locs ls hH hS hL hl hs
  exact lv_bipush C.1 C.2.1 d hv (k H locs ls hH hS hL hl (ty_oks.cons trivial hs))
theorem v_sipush (C : ty_CX cn p s m args meth c D ad cA own cc nL) {n : Int} {v : Int32} (d : decode cc pc = .ok (.sipush n, 3)) (hv : (Int16.ofInt n).toInt32 = v) (k : ty_V cn p l e R s m args below meth c D ad cA G nL Q σ loc (pc + 3) (.inl v :: st)) : ty_V cn p l e R s m args below meth c D ad cA G nL Q σ loc (pc) (st) := by
  intro H locs ls hH hS hL hl hs
  exact lv_sipush C.1 C.2.1 d hv (k H locs ls hH hS hL hl (ty_oks.cons trivial hs))
theorem v_iload (C : ty_CX cn p s m args meth c D ad cA own cc nL) {i : Nat} {x : Int32} (d : decode cc pc = .ok (.iload i, 2)) (h : loc[i]? = some (some (.inl x))) (k : ty_V cn p l e R s m args below meth c D ad cA G nL Q σ loc (pc + 2) (.inl x :: st)) : ty_V cn p l e R s m args below meth c D ad cA G nL Q σ loc (pc) (st) := by
  intro H locs ls hH hS hL hl hs
  exact lv_iload C.1 C.2.1 d (hL.at h) (k H locs ls hH hS hL hl (ty_oks.cons (hl _ _ h) hs))
theorem v_iload_n (C : ty_CX cn p s m args meth c D ad cA own cc nL) {j : Fin 4} {i : Nat} {x : Int32} (d : decode cc pc = .ok (.iload_n j, 1)) (hi : (j : Nat) = i) (h : loc[i]? = some (some (.inl x))) (k : ty_V cn p l e R s m args below meth c D ad cA G nL Q σ loc (pc + 1) (.inl x :: st)) : ty_V cn p l e R s m args below meth c D ad cA G nL Q σ loc (pc) (st) := by
  intro H locs ls hH hS hL hl hs
  exact lv_iload_n C.1 C.2.1 d hi (hL.at h) (k H locs ls hH hS hL hl (ty_oks.cons (hl _ _ h) hs))
theorem v_aload (C : ty_CX cn p s m args meth c D ad cA own cc nL) {i : Nat} {x : Nat × Nat} (d : decode cc pc = .ok (.aload i, 2)) (h : loc[i]? = some (some (.inr x))) (k : ty_V cn p l e R s m args below meth c D ad cA G nL Q σ loc (pc + 2) (.inr x :: st)) : ty_V cn p l e R s m args below meth c D ad cA G nL Q σ loc (pc) (st) := by
  intro H locs ls hH hS hL hl hs
  exact lv_aload C.1 C.2.1 d (hL.at h) (k H locs ls hH hS hL hl (ty_oks.cons (hl _ _ h) hs))
theorem v_aload_n (C : ty_CX cn p s m args meth c D ad cA own cc nL) {j : Fin 4} {i : Nat} {x : Nat × Nat} (d : decode cc pc = .ok (.aload_n j, 1)) (hi : (j : Nat) = i) (h : loc[i]? = some (some (.inr x))) (k : ty_V cn p l e R s m args below meth c D ad cA G nL Q σ loc (pc + 1) (.inr x :: st)) : ty_V cn p l e R s m args below meth c D ad cA G nL Q σ loc (pc) (st) := by
  intro H locs ls hH hS hL hl hs
  exact lv_aload_n C.1 C.2.1 d hi (hL.at h) (k H locs ls hH hS hL hl (ty_oks.cons (hl _ _ h) hs))
theorem v_istore (C : ty_CX cn p s m args meth c D ad cA own cc nL) {i : Nat} {x : Int32} (d : decode cc pc = .ok (.istore i, 2)) (hn : i < nL) (k : ty_V cn p l e R s m args below meth c D ad cA G nL Q σ (loc.set i (some (.inl x))) (pc + 2) (st)) : ty_V cn p l e R s m args below meth c D ad cA G nL Q σ loc (pc) (.inl x :: st) := by
  intro H locs ls hH hS hL hl hs
  obtain ⟨lv, h1, h2⟩ := hL
  exact lv_istore C.1 C.2.1 d h1 hn rfl (fun ls' h' => k H locs ls' hH hS (ty_L.put (v := .inl x) h2 h') (hl.put hs.hd) hs.tl)
theorem v_istore_n (C : ty_CX cn p s m args meth c D ad cA own cc nL) {j : Fin 4} {i : Nat} {x : Int32} (d : decode cc pc = .ok (.istore_n j, 1)) (hi : (j : Nat) = i) (hn : i < nL) (k : ty_V cn p l e R s m args below meth c D ad cA G nL Q σ (loc.set i (some (.inl x))) (pc + 1) (st)) : ty_V cn p l e R s m args below meth c D ad cA G nL Q σ loc (pc) (.inl x :: st) := by
  intro H locs ls hH hS hL hl hs
  obtain ⟨lv, h1, h2⟩ := hL
  exact lv_istore_n C.1 C.2.1 d hi h1 hn rfl (fun ls' h' => k H locs ls' hH hS (ty_L.put (v := .inl x) h2 h') (hl.put hs.hd) hs.tl)
theorem v_astore (C : ty_CX cn p s m args meth c D ad cA own cc nL) {i : Nat} {x : Nat × Nat} (d : decode cc pc = .ok (.astore i, 2)) (hn : i < nL) (k : ty_V cn p l e R s m args below meth c D ad cA G nL Q σ (loc.set i (some (.inr x))) (pc + 2) (st)) : ty_V cn p l e R s m args below meth c D ad cA G nL Q σ loc (pc) (.inr x :: st) := by
  intro H locs ls hH hS hL hl hs
  obtain ⟨lv, h1, h2⟩ := hL
  exact lv_astore C.1 C.2.1 d h1 hn rfl (fun ls' h' => k H locs ls' hH hS (ty_L.put (v := .inr x) h2 h') (hl.put hs.hd) hs.tl)
theorem v_astore_n (C : ty_CX cn p s m args meth c D ad cA own cc nL) {j : Fin 4} {i : Nat} {x : Nat × Nat} (d : decode cc pc = .ok (.astore_n j, 1)) (hi : (j : Nat) = i) (hn : i < nL) (k : ty_V cn p l e R s m args below meth c D ad cA G nL Q σ (loc.set i (some (.inr x))) (pc + 1) (st)) : ty_V cn p l e R s m args below meth c D ad cA G nL Q σ loc (pc) (.inr x :: st) := by
  intro H locs ls hH hS hL hl hs
  obtain ⟨lv, h1, h2⟩ := hL
  exact lv_astore_n C.1 C.2.1 d hi h1 hn rfl (fun ls' h' => k H locs ls' hH hS (ty_L.put (v := .inr x) h2 h') (hl.put hs.hd) hs.tl)
theorem v_iinc (C : ty_CX cn p s m args meth c D ad cA own cc nL) {i : Nat} {n : Int} {x v : Int32} (d : decode cc pc = .ok (.iinc i n, 3)) (h : loc[i]? = some (some (.inl x))) (hv : x + Int32.ofInt n = v) (hn : i < nL) (k : ty_V cn p l e R s m args below meth c D ad cA G nL Q σ (loc.set i (some (.inl v))) (pc + 3) (st)) : ty_V cn p l e R s m args below meth c D ad cA G nL Q σ loc (pc) (st) := by
  intro H locs ls hH hS hL hl hs
  obtain ⟨lv, h1, h2⟩ := hL
  obtain ⟨q, hq⟩ := List.getElem?_of_mem (h2 i _ h)
  exact lv_iinc C.1 C.2.1 d h1 hq hv hn rfl (fun ls' h' => k H locs ls' hH hS (ty_L.put (v := .inl v) h2 h') (hl.put trivial) hs)
theorem v_iadd (C : ty_CX cn p s m args meth c D ad cA own cc nL) {x y : Int32} (d : decode cc pc = .ok (.iadd, 1)) (k : ty_V cn p l e R s m args below meth c D ad cA G nL Q σ loc (pc + 1) (.inl (x + y) :: st)) : ty_V cn p l e R s m args below meth c D ad cA G nL Q σ loc (pc) (.inl y :: .inl x :: st) := by
  intro H locs ls hH hS hL hl hs
  exact lv_iadd C.1 C.2.1 d (k H locs ls hH hS hL hl (ty_oks.cons trivial hs.tl.tl))
theorem v_isub (C : ty_CX cn p s m args meth c D ad cA own cc nL) {x y : Int32} (d : decode cc pc = .ok (.isub, 1)) (k : ty_V cn p l e R s m args below meth c D ad cA G nL Q σ loc (pc + 1) (.inl (x - y) :: st)) : ty_V cn p l e R s m args below meth c D ad cA G nL Q σ loc (pc) (.inl y :: .inl x :: st) := by
  intro H locs ls hH hS hL hl hs
  exact lv_isub C.1 C.2.1 d (k H locs ls hH hS hL hl (ty_oks.cons trivial hs.tl.tl))
theorem v_imul (C : ty_CX cn p s m args meth c D ad cA own cc nL) {x y : Int32} (d : decode cc pc = .ok (.imul, 1)) (k : ty_V cn p l e R s m args below meth c D ad cA G nL Q σ loc (pc + 1) (.inl (x * y) :: st)) : ty_V cn p l e R s m args below meth c D ad cA G nL Q σ loc (pc) (.inl y :: .inl x :: st) := by
  intro H locs ls hH hS hL hl hs
  exact lv_imul C.1 C.2.1 d (k H locs ls hH hS hL hl (ty_oks.cons trivial hs.tl.tl))
theorem v_iand (C : ty_CX cn p s m args meth c D ad cA own cc nL) {x y : Int32} (d : decode cc pc = .ok (.iand, 1)) (k : ty_V cn p l e R s m args below meth c D ad cA G nL Q σ loc (pc + 1) (.inl (x &&& y) :: st)) : ty_V cn p l e R s m args below meth c D ad cA G nL Q σ loc (pc) (.inl y :: .inl x :: st) := by
  intro H locs ls hH hS hL hl hs
  exact lv_iand C.1 C.2.1 d (k H locs ls hH hS hL hl (ty_oks.cons trivial hs.tl.tl))
theorem v_ior (C : ty_CX cn p s m args meth c D ad cA own cc nL) {x y : Int32} (d : decode cc pc = .ok (.ior, 1)) (k : ty_V cn p l e R s m args below meth c D ad cA G nL Q σ loc (pc + 1) (.inl (x ||| y) :: st)) : ty_V cn p l e R s m args below meth c D ad cA G nL Q σ loc (pc) (.inl y :: .inl x :: st) := by
  intro H locs ls hH hS hL hl hs
  exact lv_ior C.1 C.2.1 d (k H locs ls hH hS hL hl (ty_oks.cons trivial hs.tl.tl))
theorem v_ixor (C : ty_CX cn p s m args meth c D ad cA own cc nL) {x y : Int32} (d : decode cc pc = .ok (.ixor, 1)) (k : ty_V cn p l e R s m args below meth c D ad cA G nL Q σ loc (pc + 1) (.inl (x ^^^ y) :: st)) : ty_V cn p l e R s m args below meth c D ad cA G nL Q σ loc (pc) (.inl y :: .inl x :: st) := by
  intro H locs ls hH hS hL hl hs
  exact lv_ixor C.1 C.2.1 d (k H locs ls hH hS hL hl (ty_oks.cons trivial hs.tl.tl))
theorem v_ishl (C : ty_CX cn p s m args meth c D ad cA own cc nL) {x y : Int32} (d : decode cc pc = .ok (.ishl, 1)) (k : ty_V cn p l e R s m args below meth c D ad cA G nL Q σ loc (pc + 1) (.inl (x <<< (y &&& 31)) :: st)) : ty_V cn p l e R s m args below meth c D ad cA G nL Q σ loc (pc) (.inl y :: .inl x :: st) := by
  intro H locs ls hH hS hL hl hs
  exact lv_ishl C.1 C.2.1 d (k H locs ls hH hS hL hl (ty_oks.cons trivial hs.tl.tl))
theorem v_ishr (C : ty_CX cn p s m args meth c D ad cA own cc nL) {x y : Int32} (d : decode cc pc = .ok (.ishr, 1)) (k : ty_V cn p l e R s m args below meth c D ad cA G nL Q σ loc (pc + 1) (.inl (x >>> (y &&& 31)) :: st)) : ty_V cn p l e R s m args below meth c D ad cA G nL Q σ loc (pc) (.inl y :: .inl x :: st) := by
  intro H locs ls hH hS hL hl hs
  exact lv_ishr C.1 C.2.1 d (k H locs ls hH hS hL hl (ty_oks.cons trivial hs.tl.tl))
theorem v_iushr (C : ty_CX cn p s m args meth c D ad cA own cc nL) {x y v : Int32} (d : decode cc pc = .ok (.iushr, 1)) (hv : (x.toUInt32 >>> (y.toUInt32 &&& Int32.toUInt32 31)).toInt32 = v) (k : ty_V cn p l e R s m args below meth c D ad cA G nL Q σ loc (pc + 1) (.inl v :: st)) : ty_V cn p l e R s m args below meth c D ad cA G nL Q σ loc (pc) (.inl y :: .inl x :: st) := by
  intro H locs ls hH hS hL hl hs
  exact lv_iushr C.1 C.2.1 d hv (k H locs ls hH hS hL hl (ty_oks.cons trivial hs.tl.tl))
theorem v_idiv (C : ty_CX cn p s m args meth c D ad cA own cc nL) {x y : Int32} (d : decode cc pc = .ok (.idiv, 1)) (hne : ¬ y = 0) (k : ty_V cn p l e R s m args below meth c D ad cA G nL Q σ loc (pc + 1) (.inl (x / y) :: st)) : ty_V cn p l e R s m args below meth c D ad cA G nL Q σ loc (pc) (.inl y :: .inl x :: st) := by
  intro H locs ls hH hS hL hl hs
  exact lv_idiv C.1 C.2.1 d hne (k H locs ls hH hS hL hl (ty_oks.cons trivial hs.tl.tl))
theorem v_irem (C : ty_CX cn p s m args meth c D ad cA own cc nL) {x y : Int32} (d : decode cc pc = .ok (.irem, 1)) (hne : ¬ y = 0) (k : ty_V cn p l e R s m args below meth c D ad cA G nL Q σ loc (pc + 1) (.inl (x - x / y * y) :: st)) : ty_V cn p l e R s m args below meth c D ad cA G nL Q σ loc (pc) (.inl y :: .inl x :: st) := by
  intro H locs ls hH hS hL hl hs
  exact lv_irem C.1 C.2.1 d hne (k H locs ls hH hS hL hl (ty_oks.cons trivial hs.tl.tl))
theorem v_ineg (C : ty_CX cn p s m args meth c D ad cA own cc nL) {x : Int32} (d : decode cc pc = .ok (.ineg, 1)) (k : ty_V cn p l e R s m args below meth c D ad cA G nL Q σ loc (pc + 1) (.inl (-x) :: st)) : ty_V cn p l e R s m args below meth c D ad cA G nL Q σ loc (pc) (.inl x :: st) := by
  intro H locs ls hH hS hL hl hs
  exact lv_ineg C.1 C.2.1 d (k H locs ls hH hS hL hl (ty_oks.cons trivial hs.tl))
theorem v_forget (C : ty_CX cn p s m args meth c D ad cA own cc nL) (j : Nat) (k : ty_V cn p l e R s m args below meth c D ad cA G nL Q σ (loc.set j none) (pc) (st)) : ty_V cn p l e R s m args below meth c D ad cA G nL Q σ loc (pc) (st) := by
  intro H locs ls hH hS hL hl hs
  have h0 : ∀ (i : Nat) (v : ty_SV), (loc.set j none)[i]? = some (some v) → loc[i]? = some (some v) := by
    intro i v h
    by_cases e : i = j
    · subst e
      have hl : i < loc.length := by
        have := (List.getElem?_eq_some_iff.mp h).1
        simpa using this
      rw [List.getElem?_set_self hl] at h
      cases h
    · rw [List.getElem?_set_ne (Ne.symm e)] at h
      exact h
  obtain ⟨lv, h1, h2⟩ := hL
  exact k H locs ls hH hS ⟨lv, h1, fun i v hi => h2 i v (h0 i v hi)⟩ (fun i v hi => hl i v (h0 i v hi)) hs
theorem v_clean (C : ty_CX cn p s m args meth c D ad cA own cc nL) (k : ty_V cn p l e R s m args below meth c D ad cA (ty_Gd cn ad s) nL Q σ loc (pc) (st)) : ty_V cn p l e R s m args below meth c D ad cA (ty_Gc s) nL Q σ loc (pc) (st) := by
  intro H locs ls hH hS hL hl hs
  obtain ⟨rfl, rfl⟩ := hS
  exact k s.heap [] ls hH va_S.rf hL hl hs
theorem v_dup (C : ty_CX cn p s m args meth c D ad cA own cc nL) {v : ty_SV} (d : decode cc pc = .ok (.dup, 1)) (k : ty_V cn p l e R s m args below meth c D ad cA G nL Q σ loc (pc + 1) (v :: v :: st)) : ty_V cn p l e R s m args below meth c D ad cA G nL Q σ loc (pc) (v :: st) := by
  intro H locs ls hH hS hL hl hs
  exact lv_dup C.1 C.2.1 d (ty_cat ad v) (k H locs ls hH hS hL hl (ty_oks.cons hs.hd hs))
theorem v_pop (C : ty_CX cn p s m args meth c D ad cA own cc nL) {v : ty_SV} (d : decode cc pc = .ok (.pop, 1)) (k : ty_V cn p l e R s m args below meth c D ad cA G nL Q σ loc (pc + 1) (st)) : ty_V cn p l e R s m args below meth c D ad cA G nL Q σ loc (pc) (v :: st) := by
  intro H locs ls hH hS hL hl hs
  exact lv_pop C.1 C.2.1 d (ty_cat ad v) (k H locs ls hH hS hL hl hs.tl)
theorem v_dup_x1 (C : ty_CX cn p s m args meth c D ad cA own cc nL) {v w : ty_SV} (d : decode cc pc = .ok (.dup_x1, 1)) (k : ty_V cn p l e R s m args below meth c D ad cA G nL Q σ loc (pc + 1) (v :: w :: v :: st)) : ty_V cn p l e R s m args below meth c D ad cA G nL Q σ loc (pc) (v :: w :: st) := by
  intro H locs ls hH hS hL hl hs
  exact lv_dup_x1 C.1 C.2.1 d (ty_cat ad v) (ty_cat ad w) (k H locs ls hH hS hL hl (ty_oks.cons hs.hd (ty_oks.cons hs.tl.hd (ty_oks.cons hs.hd hs.tl.tl))))
theorem v_dup_x2 (C : ty_CX cn p s m args meth c D ad cA own cc nL) {v w u : ty_SV} (d : decode cc pc = .ok (.dup_x2, 1)) (k : ty_V cn p l e R s m args below meth c D ad cA G nL Q σ loc (pc + 1) (v :: w :: u :: v :: st)) : ty_V cn p l e R s m args below meth c D ad cA G nL Q σ loc (pc) (v :: w :: u :: st) := by
  intro H locs ls hH hS hL hl hs
  exact lv_dup_x2 C.1 C.2.1 d (ty_cat ad v) (ty_cat ad w) (ty_cat ad u) (k H locs ls hH hS hL hl (ty_oks.cons hs.hd (ty_oks.cons hs.tl.hd (ty_oks.cons hs.tl.tl.hd (ty_oks.cons hs.hd hs.tl.tl.tl)))))
theorem v_dup2 (C : ty_CX cn p s m args meth c D ad cA own cc nL) {v w : ty_SV} (d : decode cc pc = .ok (.dup2, 1)) (k : ty_V cn p l e R s m args below meth c D ad cA G nL Q σ loc (pc + 1) (v :: w :: v :: w :: st)) : ty_V cn p l e R s m args below meth c D ad cA G nL Q σ loc (pc) (v :: w :: st) := by
  intro H locs ls hH hS hL hl hs
  exact lv_dup2_11 C.1 C.2.1 d (ty_cat ad v) (ty_cat ad w) (k H locs ls hH hS hL hl (ty_oks.cons hs.hd (ty_oks.cons hs.tl.hd hs)))
theorem v_if_eq (C : ty_CX cn p s m args meth c D ad cA own cc nL) {x : Int32} {off : Int} {tgt : Nat} (d : decode cc pc = .ok (.ifCond .eq off, 3)) (ht : (pc : Int) + off = (tgt : Int)) (k1 : x = 0 → ty_V cn p l e R s m args below meth c D ad cA G nL Q σ loc (tgt) (st)) (k2 : ¬ (x = 0) → ty_V cn p l e R s m args below meth c D ad cA G nL Q σ loc (pc + 3) (st)) : ty_V cn p l e R s m args below meth c D ad cA G nL Q σ loc (pc) (.inl x :: st) := by
  intro H locs ls hH hS hL hl hs
  exact lv_if_eq C.1 C.2.1 d ht (fun h => k1 h H locs ls hH hS hL hl hs.tl) (fun h => k2 h H locs ls hH hS hL hl hs.tl)
theorem v_icmp_eq (C : ty_CX cn p s m args meth c D ad cA own cc nL) {x y : Int32} {off : Int} {tgt : Nat} (d : decode cc pc = .ok (.if_icmp .eq off, 3)) (ht : (pc : Int) + off = (tgt : Int)) (k1 : x = y → ty_V cn p l e R s m args below meth c D ad cA G nL Q σ loc (tgt) (st)) (k2 : ¬ (x = y) → ty_V cn p l e R s m args below meth c D ad cA G nL Q σ loc (pc + 3) (st)) : ty_V cn p l e R s m args below meth c D ad cA G nL Q σ loc (pc) (.inl y :: .inl x :: st) := by
  intro H locs ls hH hS hL hl hs
  exact lv_icmp_eq C.1 C.2.1 d ht (fun h => k1 h H locs ls hH hS hL hl hs.tl.tl) (fun h => k2 h H locs ls hH hS hL hl hs.tl.tl)
theorem v_if_ne (C : ty_CX cn p s m args meth c D ad cA own cc nL) {x : Int32} {off : Int} {tgt : Nat} (d : decode cc pc = .ok (.ifCond .ne off, 3)) (ht : (pc : Int) + off = (tgt : Int)) (k1 : ¬ x = 0 → ty_V cn p l e R s m args below meth c D ad cA G nL Q σ loc (tgt) (st)) (k2 : x = 0 → ty_V cn p l e R s m args below meth c D ad cA G nL Q σ loc (pc + 3) (st)) : ty_V cn p l e R s m args below meth c D ad cA G nL Q σ loc (pc) (.inl x :: st) := by
  intro H locs ls hH hS hL hl hs
  exact lv_if_ne C.1 C.2.1 d ht (fun h => k1 h H locs ls hH hS hL hl hs.tl) (fun h => k2 h H locs ls hH hS hL hl hs.tl)
theorem v_icmp_ne (C : ty_CX cn p s m args meth c D ad cA own cc nL) {x y : Int32} {off : Int} {tgt : Nat} (d : decode cc pc = .ok (.if_icmp .ne off, 3)) (ht : (pc : Int) + off = (tgt : Int)) (k1 : ¬ x = y → ty_V cn p l e R s m args below meth c D ad cA G nL Q σ loc (tgt) (st)) (k2 : x = y → ty_V cn p l e R s m args below meth c D ad cA G nL Q σ loc (pc + 3) (st)) : ty_V cn p l e R s m args below meth c D ad cA G nL Q σ loc (pc) (.inl y :: .inl x :: st) := by
  intro H locs ls hH hS hL hl hs
  exact lv_icmp_ne C.1 C.2.1 d ht (fun h => k1 h H locs ls hH hS hL hl hs.tl.tl) (fun h => k2 h H locs ls hH hS hL hl hs.tl.tl)
theorem v_if_lt (C : ty_CX cn p s m args meth c D ad cA own cc nL) {x : Int32} {off : Int} {tgt : Nat} (d : decode cc pc = .ok (.ifCond .lt off, 3)) (ht : (pc : Int) + off = (tgt : Int)) (k1 : x < 0 → ty_V cn p l e R s m args below meth c D ad cA G nL Q σ loc (tgt) (st)) (k2 : ¬ (x < 0) → ty_V cn p l e R s m args below meth c D ad cA G nL Q σ loc (pc + 3) (st)) : ty_V cn p l e R s m args below meth c D ad cA G nL Q σ loc (pc) (.inl x :: st) := by
  intro H locs ls hH hS hL hl hs
  exact lv_if_lt C.1 C.2.1 d ht (fun h => k1 h H locs ls hH hS hL hl hs.tl) (fun h => k2 h H locs ls hH hS hL hl hs.tl)
theorem v_icmp_lt (C : ty_CX cn p s m args meth c D ad cA own cc nL) {x y : Int32} {off : Int} {tgt : Nat} (d : decode cc pc = .ok (.if_icmp .lt off, 3)) (ht : (pc : Int) + off = (tgt : Int)) (k1 : x < y → ty_V cn p l e R s m args below meth c D ad cA G nL Q σ loc (tgt) (st)) (k2 : ¬ (x < y) → ty_V cn p l e R s m args below meth c D ad cA G nL Q σ loc (pc + 3) (st)) : ty_V cn p l e R s m args below meth c D ad cA G nL Q σ loc (pc) (.inl y :: .inl x :: st) := by
  intro H locs ls hH hS hL hl hs
  exact lv_icmp_lt C.1 C.2.1 d ht (fun h => k1 h H locs ls hH hS hL hl hs.tl.tl) (fun h => k2 h H locs ls hH hS hL hl hs.tl.tl)
theorem v_if_ge (C : ty_CX cn p s m args meth c D ad cA own cc nL) {x : Int32} {off : Int} {tgt : Nat} (d : decode cc pc = .ok (.ifCond .ge off, 3)) (ht : (pc : Int) + off = (tgt : Int)) (k1 : 0 ≤ x → ty_V cn p l e R s m args below meth c D ad cA G nL Q σ loc (tgt) (st)) (k2 : ¬ (0 ≤ x) → ty_V cn p l e R s m args below meth c D ad cA G nL Q σ loc (pc + 3) (st)) : ty_V cn p l e R s m args below meth c D ad cA G nL Q σ loc (pc) (.inl x :: st) := by
  intro H locs ls hH hS hL hl hs
  exact lv_if_ge C.1 C.2.1 d ht (fun h => k1 h H locs ls hH hS hL hl hs.tl) (fun h => k2 h H locs ls hH hS hL hl hs.tl)
theorem v_icmp_ge (C : ty_CX cn p s m args meth c D ad cA own cc nL) {x y : Int32} {off : Int} {tgt : Nat} (d : decode cc pc = .ok (.if_icmp .ge off, 3)) (ht : (pc : Int) + off = (tgt : Int)) (k1 : y ≤ x → ty_V cn p l e R s m args below meth c D ad cA G nL Q σ loc (tgt) (st)) (k2 : ¬ (y ≤ x) → ty_V cn p l e R s m args below meth c D ad cA G nL Q σ loc (pc + 3) (st)) : ty_V cn p l e R s m args below meth c D ad cA G nL Q σ loc (pc) (.inl y :: .inl x :: st) := by
  intro H locs ls hH hS hL hl hs
  exact lv_icmp_ge C.1 C.2.1 d ht (fun h => k1 h H locs ls hH hS hL hl hs.tl.tl) (fun h => k2 h H locs ls hH hS hL hl hs.tl.tl)
theorem v_if_gt (C : ty_CX cn p s m args meth c D ad cA own cc nL) {x : Int32} {off : Int} {tgt : Nat} (d : decode cc pc = .ok (.ifCond .gt off, 3)) (ht : (pc : Int) + off = (tgt : Int)) (k1 : 0 < x → ty_V cn p l e R s m args below meth c D ad cA G nL Q σ loc (tgt) (st)) (k2 : ¬ (0 < x) → ty_V cn p l e R s m args below meth c D ad cA G nL Q σ loc (pc + 3) (st)) : ty_V cn p l e R s m args below meth c D ad cA G nL Q σ loc (pc) (.inl x :: st) := by
  intro H locs ls hH hS hL hl hs
  exact lv_if_gt C.1 C.2.1 d ht (fun h => k1 h H locs ls hH hS hL hl hs.tl) (fun h => k2 h H locs ls hH hS hL hl hs.tl)
theorem v_icmp_gt (C : ty_CX cn p s m args meth c D ad cA own cc nL) {x y : Int32} {off : Int} {tgt : Nat} (d : decode cc pc = .ok (.if_icmp .gt off, 3)) (ht : (pc : Int) + off = (tgt : Int)) (k1 : y < x → ty_V cn p l e R s m args below meth c D ad cA G nL Q σ loc (tgt) (st)) (k2 : ¬ (y < x) → ty_V cn p l e R s m args below meth c D ad cA G nL Q σ loc (pc + 3) (st)) : ty_V cn p l e R s m args below meth c D ad cA G nL Q σ loc (pc) (.inl y :: .inl x :: st) := by
  intro H locs ls hH hS hL hl hs
  exact lv_icmp_gt C.1 C.2.1 d ht (fun h => k1 h H locs ls hH hS hL hl hs.tl.tl) (fun h => k2 h H locs ls hH hS hL hl hs.tl.tl)
theorem v_if_le (C : ty_CX cn p s m args meth c D ad cA own cc nL) {x : Int32} {off : Int} {tgt : Nat} (d : decode cc pc = .ok (.ifCond .le off, 3)) (ht : (pc : Int) + off = (tgt : Int)) (k1 : x ≤ 0 → ty_V cn p l e R s m args below meth c D ad cA G nL Q σ loc (tgt) (st)) (k2 : ¬ (x ≤ 0) → ty_V cn p l e R s m args below meth c D ad cA G nL Q σ loc (pc + 3) (st)) : ty_V cn p l e R s m args below meth c D ad cA G nL Q σ loc (pc) (.inl x :: st) := by
  intro H locs ls hH hS hL hl hs
  exact lv_if_le C.1 C.2.1 d ht (fun h => k1 h H locs ls hH hS hL hl hs.tl) (fun h => k2 h H locs ls hH hS hL hl hs.tl)
theorem v_icmp_le (C : ty_CX cn p s m args meth c D ad cA own cc nL) {x y : Int32} {off : Int} {tgt : Nat} (d : decode cc pc = .ok (.if_icmp .le off, 3)) (ht : (pc : Int) + off = (tgt : Int)) (k1 : x ≤ y → ty_V cn p l e R s m args below meth c D ad cA G nL Q σ loc (tgt) (st)) (k2 : ¬ (x ≤ y) → ty_V cn p l e R s m args below meth c D ad cA G nL Q σ loc (pc + 3) (st)) : ty_V cn p l e R s m args below meth c D ad cA G nL Q σ loc (pc) (.inl y :: .inl x :: st) := by
  intro H locs ls hH hS hL hl hs
  exact lv_icmp_le C.1 C.2.1 d ht (fun h => k1 h H locs ls hH hS hL hl hs.tl.tl) (fun h => k2 h H locs ls hH hS hL hl hs.tl.tl)
theorem v_goto (C : ty_CX cn p s m args meth c D ad cA own cc nL) {off : Int} {tgt : Nat} (d : decode cc pc = .ok (.goto off, 3)) (ht : (pc : Int) + off = (tgt : Int)) (k : ty_V cn p l e R s m args below meth c D ad cA G nL Q σ loc (tgt) (st)) : ty_V cn p l e R s m args below meth c D ad cA G nL Q σ loc (pc) (st) := by
  intro H locs ls hH hS hL hl hs
  exact lv_goto C.1 C.2.1 d ht (k H locs ls hH hS hL hl hs)
theorem v_tabOut (C : ty_CX cn p s m args meth c D ad cA own cc nL) {dflt lo hi : Int} {offs : Array Int} {len : Nat} {x : Int32} {tgt : Nat} (d : decode cc pc = .ok (.tableswitch dflt lo hi offs, len)) (h : x.toInt < lo ∨ hi < x.toInt) (ht : (pc : Int) + dflt = (tgt : Int)) (k : ty_V cn p l e R s m args below meth c D ad cA G nL Q σ loc (tgt) (st)) : ty_V cn p l e R s m args below meth c D ad cA G nL Q σ loc (pc) (.inl x :: st) := by
  intro H locs ls hH hS hL hl hs
  exact lv_tableOut C.1 C.2.1 d h ht (k H locs ls hH hS hL hl hs.tl)
theorem v_tabIn (C : ty_CX cn p s m args meth c D ad cA own cc nL) {dflt lo hi : Int} {offs : Array Int} {len : Nat} {x : Int32} {off : Int} {tgt : Nat} (d : decode cc pc = .ok (.tableswitch dflt lo hi offs, len)) (h1 : ¬ x.toInt < lo) (h2 : ¬ hi < x.toInt) (ho : offs[(x.toInt - lo).toNat]? = some off) (ht : (pc : Int) + off = (tgt : Int)) (k : ty_V cn p l e R s m args below meth c D ad cA G nL Q σ loc (tgt) (st)) : ty_V cn p l e R s m args below meth c D ad cA G nL Q σ loc (pc) (.inl x :: st) := by
  intro H locs ls hH hS hL hl hs
  exact lv_tableIn C.1 C.2.1 d h1 h2 ho ht (k H locs ls hH hS hL hl hs.tl)
theorem v_lookup (C : ty_CX cn p s m args meth c D ad cA own cc nL) {dflt : Int} {ps : Array (Int × Int)} {len : Nat} {x : Int32} {off : Int} {tgt : Nat} (d : decode cc pc = .ok (.lookupswitch dflt ps, len)) (hp : (ps.toList.zip (ps.toList.drop 1)).all (fun (a, next) => a.1 < next.1) = true) (ho : Op.lookupswitch.offset ps.toList dflt x.toInt = off) (ht : (pc : Int) + off = (tgt : Int)) (k : ty_V cn p l e R s m args below meth c D ad cA G nL Q σ loc (tgt) (st)) : ty_V cn p l e R s m args below meth c D ad cA G nL Q σ loc (pc) (.inl x :: st) := by
  intro H locs ls hH hS hL hl hs
  exact lv_lookup C.1 C.2.1 d hp ho ht (k H locs ls hH hS hL hl hs.tl)
theorem ty_oksl (hlay : ∀ a i ci fl, ty_ki a i = .inl (ci, fl) → ∀ b z, some (b, z) ∈ fl → i < cn a → z.getD i < cn b) {a i k : Nat} {f : Nat → Int32} {fl : List (Option (Nat × Option Nat))} {ci : Nat} {q : Option (Nat × Option Nat)} (hki : ty_ki a i = .inl (ci, fl)) (hq : fl[k]? = some q) (hi : i < cn a) : ty_okv cn (ty_sl f i k q) := by
  match q with
  | none => trivial
  | some (b, none) => exact hlay a i ci fl hki b none (List.mem_of_getElem? hq) hi
  | some (b, some z) => exact hlay a i ci fl hki b (some z) (List.mem_of_getElem? hq) hi
theorem v_get (C : ty_CX cn p s m args meth c D ad cA own cc nL) {a i k idx ci N : Nat} {fl : List (Option (Nat × Option Nat))} {q : Option (Nat × Option Nat)} {Cn ref : String} {T : u_T} (hki : ty_ki a i = .inl (ci, fl)) (hq : fl[k]? = some q) (hcl : classes[ci]? = some (Cn, T, N)) (hkN : k < N) (hin : ∀ w ∈ u_ws Cn T N, w ∈ ty_w) (hlk : Cond.fieldLink own idx ref (T k).2.1 (T k).2.2.1 ∈ ty_w) (href : (T k).1 = ref) (d : decode cc pc = .ok (.getfield idx, 3)) (kk : ty_V cn p l e R s m args below meth c D ad cA G nL Q σ loc (pc + 3) (ty_sl (σ a i) i k q :: st)) : ty_V cn p l e R s m args below meth c D ad cA G nL Q σ loc (pc) (.inr (a, i) :: st) := by
  intro H locs ls hH hS hL hl hs
  have hi : i < cn a := hs.hd
  have he : ty_en ad cA (σ a i) a i = .inr (ci, ty_fs ad (σ a i) i 0 fl) := by unfold ty_en; rw [hki]
  have hP : va_P D classes [(ad a i, .inr (ci, ty_fs ad (σ a i) i 0 fl))] H := ty_one (by rw [← he]; exact hH a i hi)
  have hv := ty_fs_get ad (σ a i) i fl 0 k q hq
  rw [Nat.zero_add] at hv
  exact va_get (ws := [(ad a i, .inr (ci, ty_fs ad (σ a i) i 0 fl))]) C.1 C.2.1 C.2.2.2.2.1 hin C.2.2.2.1 C.2.2.2.2.2.1 hP 0 rfl hcl k hkN (C.2.2.2.2.1 _ hlk) (fun x hx => by rw [← href]; exact hx) hv d (kk H locs ls hH hS hL hl (ty_oks.cons (ty_oksl C.2.2.2.2.2.2.2.1 hki hq hi) hs.tl))
theorem v_put (C : ty_CX cn p s m args meth c D ad cA own cc nL) {a i k idx ci N : Nat} {x : Int32} {fl : List (Option (Nat × Option Nat))} {Cn ref : String} {T : u_T} {ty0 : Nat → FieldType} {ty : FieldType} (hki : ty_ki a i = .inl (ci, fl)) (hq : fl[k]? = some none) (hcl : classes[ci]? = some (Cn, T, N)) (hkN : k < N) (hin : ∀ w ∈ u_ws Cn T N, w ∈ ty_w) (hty : ∀ k, k < N → parseFieldDescriptor (T k).2.2.1 = some (ty0 k)) (hnm : ∀ a, a < N → ∀ b, b < N → a ≠ b → (T a).2.1 ≠ (T b).2.1) (hlk : Cond.fieldLink own idx ref (T k).2.1 (T k).2.2.1 ∈ ty_w) (href : (T k).1 = ref) (hfin : (T k).2.2.2 = false) (hd : parseFieldDescriptor (T k).2.2.1 = some ty) (hn : narrow ty (.int x) = .int x) (hfit : fits ty (.int x) = true) (d : decode cc pc = .ok (.putfield idx, 3)) (kk : ty_V cn p l e R s m args below meth c D ad cA (ty_Gd cn ad s) nL Q (ty_up σ a i k x) loc (pc + 3) (st)) : ty_V cn p l e R s m args below meth c D ad cA (ty_Gd cn ad s) nL Q σ loc (pc) (.inl x :: .inr (a, i) :: st) := by
  intro H locs ls hH hS hL hl hs
  have hi : i < cn a := hs.tl.hd
  have he : ∀ f, ty_en ad cA f a i = .inr (ci, ty_fs ad f i 0 fl) := fun f => by unfold ty_en; rw [hki]
  have hP : va_at D classes (ad a i, .inr (ci, ty_fs ad (σ a i) i 0 fl)) H := by
    rw [← he]; exact hH a i hi
  have hl0 : k < (ty_fs ad (σ a i) i 0 fl).length := by rw [ty_fs_len]; exact (List.getElem?_eq_some_iff.mp hq).1
  refine ty_putS C.1 C.2.1 C.2.2.2.2.1 hin ty0 hty hnm C.2.2.2.1 C.2.2.2.2.2.1 hP hS ⟨a, i, hi, rfl⟩ hcl k hkN (C.2.2.2.2.1 _ hlk) (fun x hx => by rw [← href]; exact hx) hfin hd hn hfit hl0 d (fun H1 locs1 hP1 oq hS1 => ?_)
  have h1 : va_at D classes (ad a i, ty_en ad cA (upd (σ a i) k x) a i) H1 := by
    have h2 : va_at D classes (ad a i, .inr (ci, (ty_fs ad (σ a i) i 0 fl).set k (.int x))) H1 := hP1
    rw [ty_fs_set ad (σ a i) i x fl 0 k hq, Nat.zero_add] at h2
    rw [he]; exact h2
  exact kk H1 locs1 ls (hH.set C.2.2.2.2.2.2.1 hi h1 (fun q _ hq => oq q hq)) hS1 hL hl hs.tl.tl
theorem v_mmax (C : ty_CX cn p s m args meth c D ad cA own cc nL) {x y : Int32} {idx : Nat} (hw : Cond.methodLink own idx Lib.Math.max.name ∈ ty_w ∧ Cond.static Lib.Math.max.name ∈ ty_w ∧ Cond.initialized "java/lang/Math" ∈ ty_w ∧ Cond.code Lib.Math.max.name Lib.Math.max.code 2 (some .int) ∈ ty_w) (hf : 1 ≤ R.frames) (hlo : st.length + 13 ≤ R.locals) (d : decode cc pc = .ok (.invokestatic idx, 3)) (kk : ty_V cn p l e R s m args below meth c D ad cA G nL Q σ loc (pc + 3) (.inl (if x < y then y else x) :: st)) : ty_V cn p l e R s m args below meth c D ad cA G nL Q σ loc (pc) (.inl y :: .inl x :: st) := by
  intro H locs ls hH hS hL hl hs
  obtain ⟨hx, hb, hml, hown, hts, hK, -⟩ := id C
  have e8 : ((st.map (ty_sv ad)).map fun v => v.category).sum = st.length := ty_len
  exact va_mmax hx hb (by rw [hml, hL.size]) hown (hts _ hw.1) (hts _ hw.2.1) (hts _ hw.2.2.1) (hts _ hw.2.2.2) hf (by rw [e8]; exact hlo) (Nat.zero_le _) (Nat.zero_le _) d (kk H locs ls hH hS hL hl (ty_oks.cons trivial hs.tl.tl))
theorem v_mmin (C : ty_CX cn p s m args meth c D ad cA own cc nL) {x y : Int32} {idx : Nat} (hw : Cond.methodLink own idx Lib.Math.min.name ∈ ty_w ∧ Cond.static Lib.Math.min.name ∈ ty_w ∧ Cond.initialized "java/lang/Math" ∈ ty_w ∧ Cond.code Lib.Math.min.name Lib.Math.min.code 2 (some .int) ∈ ty_w) (hf : 1 ≤ R.frames) (hlo : st.length + 13 ≤ R.locals) (d : decode cc pc = .ok (.invokestatic idx, 3)) (kk : ty_V cn p l e R s m args below meth c D ad cA G nL Q σ loc (pc + 3) (.inl (if y < x then y else x) :: st)) : ty_V cn p l e R s m args below meth c D ad cA G nL Q σ loc (pc) (.inl y :: .inl x :: st) := by
  intro H locs ls hH hS hL hl hs
  obtain ⟨hx, hb, hml, hown, hts, hK, -⟩ := id C
  have e8 : ((st.map (ty_sv ad)).map fun v => v.category).sum = st.length := ty_len
  exact va_mmin hx hb (by rw [hml, hL.size]) hown (hts _ hw.1) (hts _ hw.2.1) (hts _ hw.2.2.1) (hts _ hw.2.2.2) hf (by rw [e8]; exact hlo) (Nat.zero_le _) (Nat.zero_le _) d (kk H locs ls hH hS hL hl (ty_oks.cons trivial hs.tl.tl))
theorem v_iaload (C : ty_CX cn p s m args meth c D ad cA own cc nL) {a i t n : Nat} {x : Int32} (hki : ty_ki a i = .inr (t, n, none)) (ht : (ty_tys cA)[t]? = some (cA t, .int)) (hin : vp_in x n) (d : decode cc pc = .ok (.iaload, 1)) (kk : ty_V cn p l e R s m args below meth c D ad cA G nL Q σ loc (pc + 1) (.inl (σ a i x.toNatClampNeg) :: st)) : ty_V cn p l e R s m args below meth c D ad cA G nL Q σ loc (pc) (.inl x :: .inr (a, i) :: st) := by
  intro H locs ls hH hS hL hl hs
  have hi : i < cn a := hs.tl.hd
  have he : ∀ f, ty_en ad cA f a i = .inl (cA t, n, .inl f) := fun f => by unfold ty_en; rw [hki]
  have hP : va_P D classes [(ad a i, .inl (cA t, n, .inl (σ a i)))] H := ty_one (by rw [← he]; exact hH a i hi)
  exact va_iald C.1 C.2.1 C.2.2.2.2.2.1 hP 0 t rfl ht hin d (kk H locs ls hH hS hL hl (ty_oks.cons trivial hs.tl.tl))
theorem v_iastore (C : ty_CX cn p s m args meth c D ad cA own cc nL) {a i t n : Nat} {x y : Int32} (hki : ty_ki a i = .inr (t, n, none)) (ht : (ty_tys cA)[t]? = some (cA t, .int)) (hin : vp_in x n) (d : decode cc pc = .ok (.iastore, 1)) (kk : ty_V cn p l e R s m args below meth c D ad cA (ty_Gd cn ad s) nL Q (ty_up σ a i x.toNatClampNeg y) loc (pc + 1) (st)) : ty_V cn p l e R s m args below meth c D ad cA (ty_Gd cn ad s) nL Q σ loc (pc) (.inl y :: .inl x :: .inr (a, i) :: st) := by
  intro H locs ls hH hS hL hl hs
  have hi : i < cn a := hs.tl.tl.hd
  have he : ∀ f, ty_en ad cA f a i = .inl (cA t, n, .inl f) := fun f => by unfold ty_en; rw [hki]
  have h0 : va_at D classes (ad a i, .inl (cA t, n, .inl (σ a i))) H := by rw [← he]; exact hH a i hi
  refine W.iast C.1 C.2.1 h0 ((C.2.2.2.2.2.1.2 t _ ht).1 n (fun j => .int (σ a i j))) (fun q => by cases q) (by show ¬ (x < 0 ∨ (arrV _ _ _).slots.size ≤ _); rw [arrV_size]; exact hin) rfl rfl d fun H1 e1 z oq => ?_
  have h1 : va_at D classes (ad a i, ty_en ad cA (upd (σ a i) x.toNatClampNeg y) a i) H1 := by
    rw [he]
    show H1[ad a i]? = some (vp_cell _ _)
    rw [e1]
    rw [vp_cell_i, vp_cell_i, arrV_store]
    congr 2
    funext q
    by_cases hq : q = x.toNatClampNeg
    · subst hq
      simp [updV, upd]
    · simp [updV, upd, hq]
  exact kk H1 _ ls (hH.set C.2.2.2.2.2.2.1 hi h1 (fun q _ hq => oq q hq)) (hS.put z oq ⟨a, i, hi, rfl⟩) hL hl hs.tl.tl.tl
theorem v_baload (C : ty_CX cn p s m args meth c D ad cA own cc nL) {a i t n : Nat} {x : Int32} (hki : ty_ki a i = .inr (t, n, none)) (ht : (ty_tys cA)[t]? = some (cA t, .boolean)) (hin : vp_in x n) (d : decode cc pc = .ok (.baload, 1)) (kk : ty_V cn p l e R s m args below meth c D ad cA G nL Q σ loc (pc + 1) (.inl (σ a i x.toNatClampNeg) :: st)) : ty_V cn p l e R s m args below meth c D ad cA G nL Q σ loc (pc) (.inl x :: .inr (a, i) :: st) := by
  intro H locs ls hH hS hL hl hs
  have hi : i < cn a := hs.tl.hd
  have he : ∀ f, ty_en ad cA f a i = .inl (cA t, n, .inl f) := fun f => by unfold ty_en; rw [hki]
  have hP : va_P D classes [(ad a i, .inl (cA t, n, .inl (σ a i)))] H := ty_one (by rw [← he]; exact hH a i hi)
  exact va_zald C.1 C.2.1 C.2.2.2.2.2.1 hP 0 t rfl ht hin d (kk H locs ls hH hS hL hl (ty_oks.cons trivial hs.tl.tl))
theorem v_bastore (C : ty_CX cn p s m args meth c D ad cA own cc nL) {a i t n : Nat} {x y : Int32} (hki : ty_ki a i = .inr (t, n, none)) (ht : (ty_tys cA)[t]? = some (cA t, .boolean)) (hin : vp_in x n) (hy : narrow .boolean (.int y) = .int y) (d : decode cc pc = .ok (.bastore, 1)) (kk : ty_V cn p l e R s m args below meth c D ad cA (ty_Gd cn ad s) nL Q (ty_up σ a i x.toNatClampNeg y) loc (pc + 1) (st)) : ty_V cn p l e R s m args below meth c D ad cA (ty_Gd cn ad s) nL Q σ loc (pc) (.inl y :: .inl x :: .inr (a, i) :: st) := by
  intro H locs ls hH hS hL hl hs
  have hi : i < cn a := hs.tl.tl.hd
  have he : ∀ f, ty_en ad cA f a i = .inl (cA t, n, .inl f) := fun f => by unfold ty_en; rw [hki]
  have h0 : va_at D classes (ad a i, .inl (cA t, n, .inl (σ a i))) H := by rw [← he]; exact hH a i hi
  refine W.zast C.1 C.2.1 h0 ((C.2.2.2.2.2.1.2 t _ ht).1 n (fun j => .int (σ a i j))) (fun q => by cases q) (by show ¬ (x < 0 ∨ (arrV _ _ _).slots.size ≤ _); rw [arrV_size]; exact hin) rfl rfl d fun H1 e1 z oq => ?_
  have h1 : va_at D classes (ad a i, ty_en ad cA (upd (σ a i) x.toNatClampNeg y) a i) H1 := by
    rw [he]
    show H1[ad a i]? = some (vp_cell _ _)
    rw [e1, hy]
    rw [vp_cell_i, vp_cell_i, arrV_store]
    congr 2
    funext q
    by_cases hq : q = x.toNatClampNeg
    · subst hq
      simp [updV, upd]
    · simp [updV, upd, hq]
  exact kk H1 _ ls (hH.set C.2.2.2.2.2.2.1 hi h1 (fun q _ hq => oq q hq)) (hS.put z oq ⟨a, i, hi, rfl⟩) hL hl hs.tl.tl.tl
theorem v_aaload (C : ty_CX cn p s m args meth c D ad cA own cc nL) {a i t n b : Nat} {x : Int32} {Cn : String} (hki : ty_ki a i = .inr (t, n, some b)) (ht : (ty_tys cA)[t]? = some (cA t, .object Cn)) (hnb : n ≤ cn b) (hin : vp_in x n) (d : decode cc pc = .ok (.aaload, 1)) (kk : ty_V cn p l e R s m args below meth c D ad cA G nL Q σ loc (pc + 1) (.inr (b, x.toNatClampNeg) :: st)) : ty_V cn p l e R s m args below meth c D ad cA G nL Q σ loc (pc) (.inl x :: .inr (a, i) :: st) := by
  intro H locs ls hH hS hL hl hs
  have hi : i < cn a := hs.tl.hd
  have he : ∀ f, ty_en ad cA f a i = .inl (cA t, n, .inr (.inr (.inr (.inr fun j => some (ad b j))))) := fun f => by unfold ty_en; rw [hki]
  have hP : va_P D classes [(ad a i, .inl (cA t, n, .inr (.inr (.inr (.inr fun j => some (ad b j))))))] H := ty_one (by rw [← he (σ a i)]; exact hH a i hi)
  have hlt : x.toNatClampNeg < n := Nat.not_le.mp fun q => hin (Or.inr q)
  exact va_aldq (f := fun j => some (ad b j)) C.1 C.2.1 C.2.2.2.2.2.1 hP 0 t rfl ht hin d (kk H locs ls hH hS hL hl (ty_oks.cons (Nat.lt_of_lt_of_le hlt hnb) hs.tl.tl))
theorem v_alen (C : ty_CX cn p s m args meth c D ad cA own cc nL) {a i t n : Nat} {b : Option Nat} {ty : FieldType} {v : Int32} (hki : ty_ki a i = .inr (t, n, b)) (ht : (ty_tys cA)[t]? = some (cA t, ty)) (hv : Int32.ofNat n = v) (d : decode cc pc = .ok (.arraylength, 1)) (kk : ty_V cn p l e R s m args below meth c D ad cA G nL Q σ loc (pc + 1) (.inl v :: st)) : ty_V cn p l e R s m args below meth c D ad cA G nL Q σ loc (pc) (.inr (a, i) :: st) := by
  intro H locs ls hH hS hL hl hs
  have hi : i < cn a := hs.hd
  obtain ⟨y, he⟩ : ∃ y : vp_A, y.1 = n ∧ ty_en ad cA (σ a i) a i = .inl (cA t, y) := by
    unfold ty_en; rw [hki]
    cases b with
    | none => exact ⟨_, rfl, rfl⟩
    | some b => exact ⟨_, rfl, rfl⟩
  have hP : va_P D classes [(ad a i, .inl (cA t, y))] H := ty_one (by rw [← he.2]; exact hH a i hi)
  exact va_alen C.1 C.2.1 C.2.2.2.2.2.1 hP 0 t rfl ht (by rw [he.1]; exact hv) d (kk H locs ls hH hS hL hl (ty_oks.cons trivial hs.tl))
end TYV

/-- the end of a method: its answer and its world -/
def ty_Q (cn : Nat → Nat) (D : va_G) (ad : Nat → Nat → Nat) (cA : Nat → ClassId) (P : Option ty_SV → ty_St → Prop) (A : Nat → Prop) : Array Value → State → Outcome → State → Prop := fun _ st oc t =>
  (∃ r σ', oc = .returned (r.map (ty_sv ad)) ∧ (∀ v, r = some v → ty_okv cn v) ∧ P r σ' ∧ ty_H cn D ad cA σ' t.heap) ∧ va_F A st t
def ty_P (cn : Nat → Nat) (D : va_G) (ad : Nat → Nat → Nat) (cA : Nat → ClassId) (σ : ty_St) (As : List ty_SV) : Array Value → State → Prop := fun v U =>
  v = (As.map (ty_sv ad)).toArray ∧ ty_H cn D ad cA σ U.heap ∧ va_K D classes (ty_tys cA) U
def ty_M (l : Launch) (y : MethodName) (ws : List Cond) (rm : Room) (cn : Nat → Nat) (D : va_G) (ad : Nat → Nat → Nat) (cA : Nat → ClassId) (As : List ty_SV) (σ : ty_St) (P : Option ty_SV → ty_St → Prop) : Prop :=
  Met l y ws rm (ty_P cn D ad cA σ As) (ty_Q cn D ad cA P (ty_A cn ad)) 0 0 (ty_A cn ad)
theorem ty_P.blind {cn : Nat → Nat} {D : va_G} {ad : Nat → Nat → Nat} {cA : Nat → ClassId} {σ : ty_St} {As : List ty_SV} : FrameBlind (ty_P cn D ad cA σ As) := by
  intro a U g mk h
  obtain ⟨h1, h2, h3⟩ := h
  exact ⟨h1, h2, va_K.moved (u := U) (U := U.calling g mk a) (Vm.Alike.refl U.vm) h3⟩

section TYC
variable {cn : Nat → Nat} {p : Program} {l : Launch} {e : Env} {R : Room} {s : State} {m : MethodId} {args : Array Value} {below : List Frame} {meth : Method} {c : Code} {D : va_G} {ad : Nat → Nat → Nat} {cA : Nat → ClassId} {G : Heap → List Loc → Prop} {nL : Nat} {Q : State → Prop} {own : String} {cc : ByteArray} {σ : ty_St} {loc : List (Option ty_SV)} {pc : Nat} {st : List ty_SV}
theorem v_ireturn (C : ty_CX cn p s m args meth c D ad cA own cc nL) {P : Option ty_SV → ty_St → Prop} {r : Int32} (hr : meth.sig.returnType = some .int) (hP : P (some (.inl r)) σ) (d : decode cc pc = .ok (.ireturn, 1)) : ty_V cn p l e R s m args below meth c D ad cA (ty_Gd cn ad s) nL (MQ below (ty_Q cn D ad cA P (ty_A cn ad)) args s 0 0 (ty_A cn ad)) σ loc pc [.inl r] := by
  intro H locs ls hH hS hL hl hs
  exact W.iret C.1 C.2.1 hr (fun t ht _ => ⟨⟨some (.inl r), σ, rfl, (fun v hv => by cases hv; trivial), hP, by rw [ht]; exact hH⟩, hS.F ht⟩) hS.2.2 d C.2.2.2.2.2.2.2.2
theorem v_zreturn (C : ty_CX cn p s m args meth c D ad cA own cc nL) {P : Option ty_SV → ty_St → Prop} {r : Int32} (hr : meth.sig.returnType = some .boolean) (hn : narrow .boolean (.int r) = .int r) (hP : P (some (.inl r)) σ) (d : decode cc pc = .ok (.ireturn, 1)) : ty_V cn p l e R s m args below meth c D ad cA (ty_Gd cn ad s) nL (MQ below (ty_Q cn D ad cA P (ty_A cn ad)) args s 0 0 (ty_A cn ad)) σ loc pc [.inl r] := by
  intro H locs ls hH hS hL hl hs
  exact W.zret C.1 C.2.1 hr hn (fun t ht _ => ⟨⟨some (.inl r), σ, rfl, (fun v hv => by cases hv; trivial), hP, by rw [ht]; exact hH⟩, hS.F ht⟩) hS.2.2 d C.2.2.2.2.2.2.2.2
theorem v_return (C : ty_CX cn p s m args meth c D ad cA own cc nL) {P : Option ty_SV → ty_St → Prop} (hr : meth.sig.returnType = none) (hP : P none σ) (d : decode cc pc = .ok (.return_, 1)) : ty_V cn p l e R s m args below meth c D ad cA (ty_Gd cn ad s) nL (MQ below (ty_Q cn D ad cA P (ty_A cn ad)) args s 0 0 (ty_A cn ad)) σ loc pc [] := by
  intro H locs ls hH hS hL hl hs
  exact W.vret C.1 C.2.1 hr (fun t ht _ => ⟨⟨none, σ, rfl, (fun v hv => by cases hv), hP, by rw [ht]; exact hH⟩, hS.F ht⟩) hS.2.2 d C.2.2.2.2.2.2.2.2
theorem ty_run (C : ty_CX cn p s m args meth c D ad cA own cc nL) {P : Option ty_SV → ty_St → Prop} {a : Array Value} {stk : List ty_SV} (hst : ty_oks cn st)
    (hr : ∀ (H : Heap) (locs : List Loc) (ls : Array Slot), ty_H cn D ad cA σ H → ty_L ad ls nL loc → va_Run p l e R s m args below meth c H locs 0 0 0 0 (F0 m pc ls (stk.map (ty_sv ad))) (st.map (ty_sv ad)) (ty_Q cn D ad cA P (ty_A cn ad) a) (ty_A cn ad))
    (kk : ∀ r σ', P r σ' → ty_V cn p l e R s m args below meth c D ad cA (ty_Gd cn ad s) nL Q σ' loc (pc + 3) (r.toList ++ st)) : ty_V cn p l e R s m args below meth c D ad cA (ty_Gd cn ad s) nL Q σ loc (pc) (stk) := by
  intro H locs ls hH hS hL hl hs
  intro T hT X
  obtain ⟨v, st₀, t, T', L, h0, X', hLL, e1, e2, ⟨⟨r, σ', hv, hok, hP, hH'⟩, hz, hk⟩, stp⟩ := hr H locs ls hH hL T hT X
  have hv2 : v = r.map (ty_sv ad) := by cases hv; rfl
  subst hv2
  rw [h0] at hz hk
  have hS' : ty_Gd cn ad s T'.heap (locs ++ L) := ⟨Nat.le_trans hS.1 (by rw [e1]; exact hz), fun q h1 h2 => by
      rw [e1, hk q (Nat.lt_of_lt_of_le h1 hS.1) (fun z => h2 z)]; exact hS.2.1 q h1 h2, fun q hq => by
      rcases List.mem_append.mp hq with h | h
      · exact hS.2.2 q h
      · exact hLL q h⟩
  obtain ⟨t2, a1, b1⟩ := kk r σ' hP T'.heap (locs ++ L) ls (by rw [e1]; exact hH') hS' hL hl (fun w hw => by
      rcases List.mem_append.mp hw with h | h
      · cases r with
        | none => simp at h
        | some z => simp at h; subst h; exact hok _ rfl
      · exact hst w h) T' rfl X'
  refine ⟨t2, stp t2 ?_, b1⟩
  have e3 : (r.toList ++ st).map (ty_sv ad) = (r.map (ty_sv ad)).toList ++ st.map (ty_sv ad) := by cases r <;> simp
  rw [e3] at a1
  exact a1
theorem ty_room {n : Nat} {ls : Array Slot} {stk : List ty_SV} (h : st.length ≤ 8) : 2 * (F0 m n ls (stk.map (ty_sv ad))).monitorRoom + ((st.map (ty_sv ad)).map fun v => v.category).sum ≤ 8 := by
  refine lv_room ?_
  rw [ty_len]; exact h
theorem v_callV (C : ty_CX cn p s m args meth c D ad cA own cc nL) {P : Option ty_SV → ty_St → Prop} {y : MethodName} {bytes : ByteArray} {maxL idx n ci : Nat} {ret : Option FieldType} {rm : Room} {a i : Nat} {As stk : List ty_SV} {fl : List (Option (Nat × Option Nat))} {q : vw_C}
    (hM : ty_M l y (Cond.code y bytes maxL ret :: ty_w) rm cn D ad cA (.inr (a, i) :: As) σ P) (hki : ty_ki a i = .inl (ci, fl)) (hcl : classes[ci]? = some q) (hy : y.cls = q.1)
    (hrc : rm.cells = 0) (hrs : rm.slots = 0) (hRf : rm.frames + 1 ≤ R.frames) (hRl : 8 + (maxL + 11) + rm.locals ≤ R.locals)
    (hw : Cond.methodLink own idx y ∈ ty_w ∧ Cond.instanceMethod y ∈ ty_w ∧ Cond.selects y.cls y y ∈ ty_w ∧ Cond.initialized y.cls ∈ ty_w ∧ Cond.code y bytes maxL ret ∈ ty_w)
    (hd : y.cls ≠ "java/lang/invoke/MethodHandle" ∧ y.cls ≠ "java/lang/invoke/VarHandle" ∧ (parseMethodDescriptor y.desc).map (fun d => d.parameters.length) = some n) (hn : As.length = n) (hstk : stk = As.reverse ++ .inr (a, i) :: st) (hst8 : st.length ≤ 8)
    (d : decode cc pc = .ok (.invokevirtual idx, 3)) (kk : ∀ r σ', P r σ' → ty_V cn p l e R s m args below meth c D ad cA (ty_Gd cn ad s) nL Q σ' loc (pc + 3) (r.toList ++ st)) : ty_V cn p l e R s m args below meth c D ad cA (ty_Gd cn ad s) nL Q σ loc (pc) (stk) := by
  intro H locs ls hH hS hL hl hs
  have hi : i < cn a := hs (.inr (a, i)) (by rw [hstk]; simp)
  have hst : ty_oks cn st := fun w hw => hs w (by rw [hstk]; simp [hw])
  refine ty_run (P := P) (a := (Value.ref (ad a i) :: As.map (ty_sv ad)).toArray) C hst (fun H locs ls hH hL => ?_) kk H locs ls hH hS hL hl hs
  obtain ⟨hx, hb, hml, hown, hts, hK, -⟩ := id C
  have cw := cwV (R := R) (own := own) (index := idx) (C := y.cls) (rm := rm) n hts (GoodIn.ty (y := y) (bytes := bytes) (maxL := maxL) (ret := ret) (ws := [.methodLink own idx y, .instanceMethod y, .selects y.cls y y, .initialized y.cls]) (by
      intro w hw'
      simp only [List.mem_cons, List.not_mem_nil, or_false] at hw'
      rcases hw' with rfl | rfl | rfl | rfl
      · exact hw.1
      · exact hw.2.1
      · exact hw.2.2.1
      · exact hw.2.2.2.1) hw.2.2.2.2) rfl hrc hrs ⟨rfl, hd⟩ ⟨hRf, hRl⟩
  refine va_runV (As := As.map (ty_sv ad)) (b := ad a i) (rest := st.map (ty_sv ad)) ⟨hx, hb, hml, hown, hts⟩ hM cw ⟨ty_P.blind, ?_, fun U hU hW => ⟨rfl, by rw [hU]; exact hH, va_K.moved hW.alike hK⟩⟩ rfl (by simpa using hn) hL.size (by rw [hstk]; simp [ty_sv]) (ty_room hst8) d ⟨Nat.zero_le _, Nat.zero_le _⟩
  have he : ty_en ad cA (σ a i) a i = .inr (ci, ty_fs ad (σ a i) i 0 fl) := by unfold ty_en; rw [hki]
  have hP1 : va_P D classes [(ad a i, .inr (ci, ty_fs ad (σ a i) i 0 fl))] H := ty_one (by rw [← he]; exact hH a i hi)
  rw [hy]
  exact va_recv hK hP1 hcl (q0 := 0) rfl
theorem v_callS (C : ty_CX cn p s m args meth c D ad cA own cc nL) {P : Option ty_SV → ty_St → Prop} {y : MethodName} {bytes : ByteArray} {maxL idx n : Nat} {ret : Option FieldType} {rm : Room} {As stk : List ty_SV}
    (hM : ty_M l y (Cond.code y bytes maxL ret :: ty_w) rm cn D ad cA As σ P)
    (hrc : rm.cells = 0) (hrs : rm.slots = 0) (hRf : rm.frames + 1 ≤ R.frames) (hRl : 8 + (maxL + 11) + rm.locals ≤ R.locals)
    (hw : Cond.methodLink own idx y ∈ ty_w ∧ Cond.static y ∈ ty_w ∧ Cond.initialized y.cls ∈ ty_w ∧ Cond.code y bytes maxL ret ∈ ty_w)
    (hd : y.cls ≠ "java/lang/invoke/MethodHandle" ∧ y.cls ≠ "java/lang/invoke/VarHandle" ∧ (parseMethodDescriptor y.desc).map (fun d => d.parameters.length) = some n) (hn : As.length = n) (hstk : stk = As.reverse ++ st) (hst8 : st.length ≤ 8)
    (d : decode cc pc = .ok (.invokestatic idx, 3)) (kk : ∀ r σ', P r σ' → ty_V cn p l e R s m args below meth c D ad cA (ty_Gd cn ad s) nL Q σ' loc (pc + 3) (r.toList ++ st)) : ty_V cn p l e R s m args below meth c D ad cA (ty_Gd cn ad s) nL Q σ loc (pc) (stk) := by
  intro H locs ls hH hS hL hl hs
  have hst : ty_oks cn st := fun w hw => hs w (by rw [hstk]; simp [hw])
  refine ty_run (P := P) (a := (As.map (ty_sv ad)).toArray) C hst (fun H locs ls hH hL => ?_) kk H locs ls hH hS hL hl hs
  obtain ⟨hx, hb, hml, hown, hts, hK, -⟩ := id C
  have cw := va_cwS (R := R) (own := own) (index := idx) (rm := rm) n hts (GoodIn.ty (y := y) (bytes := bytes) (maxL := maxL) (ret := ret) (ws := [.methodLink own idx y, .static y, .initialized y.cls]) (by
      intro w hw'
      simp only [List.mem_cons, List.not_mem_nil, or_false] at hw'
      rcases hw' with rfl | rfl | rfl
      · exact hw.1
      · exact hw.2.1
      · exact hw.2.2.1) hw.2.2.2) rfl hrc hrs hd ⟨hRf, hRl⟩
  exact va_runS (As := As.map (ty_sv ad)) (rest := st.map (ty_sv ad)) ⟨hx, hb, hml, hown, hts⟩ hM cw ⟨ty_P.blind, fun U hU hW => ⟨rfl, by rw [hU]; exact hH, va_K.moved hW.alike hK⟩⟩ rfl (by simpa using hn) hL.size (by rw [hstk]; simp) (ty_room hst8) d ⟨Nat.zero_le _, Nat.zero_le _⟩
end TYC

theorem lv_args_ty (ad : Nat → Nat → Nat) : ∀ (As : List ty_SV) (n i : Nat) (v : ty_SV), As[i]? = some v → (n + i, ty_sv ad v) ∈ lv_args n (As.map (ty_sv ad))
  | [], n, i, v, h => by simp at h
  | a :: r, n, 0, v, h => by
    have : a = v := by simpa using h
    subst this
    exact List.mem_cons_self
  | a :: r, n, i + 1, v, h => by
    have h' : r[i]? = some v := by simpa using h
    have := lv_args_ty ad r (n + 1) i v h'
    rw [show n + (i + 1) = n + 1 + i by omega]
    refine List.mem_cons_of_mem _ ?_
    rw [if_neg (by rw [ty_cat]; decide)]
    exact this
theorem lg_sl_ty (ad : Nat → Nat → Nat) (As : List ty_SV) : (lg_sl (As.map (ty_sv ad))).length = As.length := by
  induction As with
  | nil => rfl
  | cons a r ih =>
    simp only [lg_sl, List.map_cons, List.flatMap_cons] at ih ⊢
    rw [if_neg (by rw [ty_cat]; decide)]
    simp at ih ⊢
    omega
/-- A CONTRACT OUT OF ITS WALK -/
theorem ty_M.of {l : Launch} {y : MethodName} {rm : Room} {cn : Nat → Nat} {D : va_G} {ad : Nat → Nat → Nat} {cA : Nat → ClassId} {As : List ty_SV} {σ : ty_St} {P : Option ty_SV → ty_St → Prop} {cc : ByteArray} {maxL : Nat} {ret : Option FieldType}
    (hy : plainName y.cls = true) (hJ : ty_J cn ad) (hlay : ∀ a i ci fl, ty_ki a i = .inl (ci, fl) → ∀ b z, some (b, z) ∈ fl → i < cn a → z.getD i < cn b) (hok : ty_oks cn As) (hlen : As.length ≤ maxL)
    (body : ∀ (p : Program) (e : Env) (s : State) (m : MethodId) (args : Array Value) (below : List Frame) (meth : Method) (c : Code), ty_CX cn p s m args meth c D ad cA y.cls cc maxL → meth.sig.returnType = ret → meth.name = y.name →
      ty_V cn p l e rm s m args below meth c D ad cA (ty_Gd cn ad s) maxL (MQ below (ty_Q cn D ad cA P (ty_A cn ad)) args s 0 0 (ty_A cn ad)) σ (As.map some ++ List.replicate (maxL - As.length) none) 0 []) :
    ty_M l y (Cond.code y cc maxL ret :: ty_w) rm cn D ad cA As σ P := by
  refine Met.ofW (cc := cc) (maxL := maxL) (ret := ret) hy rfl ?_
  intro p e s m args below meth c s₁ B hml hv
  obtain ⟨rfl, hH, hK⟩ := hv
  have hts := atoms_spec (ws := Cond.code y cc maxL ret :: ty_w) B.pre
  have hown : s.vm.findClass y.cls = some m.cls := findClass_of_methodNamed B.named
  have C : ty_CX cn p s m (As.map (ty_sv ad)).toArray meth c D ad cA y.cls cc maxL := ⟨B.exec, B.bytes, hml, hown, fun w hw => hts w (List.mem_cons_of_mem _ hw), hK, hJ, hlay, B.notSynchronized⟩
  have hl := lv_entry (As.map (ty_sv ad)) (n := maxL) (by rw [lg_sl_ty]; exact hlen)
  rw [lg_entry_eq]
  refine body p e s m _ below meth c C B.returns (name_of_methodNamed B.named B.method).1 s.heap [] _ hH va_S.rf ⟨_, hl, fun i v hi => ?_⟩ (fun i v hi => ?_) (fun v h => by cases h)
  · have h1 : As[i]? = some v := by
      by_cases hlt : i < As.length
      · rw [List.getElem?_append_left (by simpa using hlt), List.getElem?_map] at hi
        cases hq : As[i]? with
        | none => rw [hq] at hi; cases hi
        | some z => rw [hq] at hi; cases hi; rfl
      · rw [List.getElem?_append_right (by simpa using hlt)] at hi
        have := List.eq_of_mem_replicate (List.mem_of_getElem? hi)
        cases this
    have := lv_args_ty ad As 0 i v h1
    rw [Nat.zero_add] at this
    exact this
  · have h1 : As[i]? = some v := by
      by_cases hlt : i < As.length
      · rw [List.getElem?_append_left (by simpa using hlt), List.getElem?_map] at hi
        cases hq : As[i]? with
        | none => rw [hq] at hi; cases hi
        | some z => rw [hq] at hi; cases hi; rfl
      · rw [List.getElem?_append_right (by simpa using hlt)] at hi
        have := List.eq_of_mem_replicate (List.mem_of_getElem? hi)
        cases this
    exact hok v (List.mem_of_getElem? h1)

