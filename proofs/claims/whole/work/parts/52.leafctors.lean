def rmN (k cells slots : Nat) : Room := { frames := k, cells := cells, slots := slots, locals := 30 * k }
set_option maxRecDepth 100000 in
theorem ac_int : Cond.arrayClass .int ∈ ty_w := ty_any (by decide +kernel)
set_option maxRecDepth 100000 in
theorem ac_bool : Cond.arrayClass .boolean ∈ ty_w := ty_any (by decide +kernel)
set_option maxRecDepth 100000 in
theorem ac_long : Cond.arrayClass .long ∈ ty_w := ty_any (by decide +kernel)
set_option maxRecDepth 100000 in
theorem ob_i : Cond.instanceMethod Lib.objectInit ∈ ty_w := ty_any (by decide +kernel)
set_option maxRecDepth 100000 in
theorem ob_c : Cond.code Lib.objectInit ⟨#[0xb1]⟩ 1 none ∈ ty_w := ty_any (by decide +kernel)
section WRV
variable {p : Program} {l : Launch} {e : Env} {R : Room} {s : State} {m : MethodId} {args : Array Value} {below : List Frame} {meth : Method} {c : Code} {H : Heap} {locs : List Loc} {cells slots : Nat} {cc : ByteArray} {pc nL : Nat} {ls : Array Slot} {D : va_G} {ad : Nat → Nat → Nat} {cA : Nat → ClassId} {cn : Nat → Nat} {own : String} {σ : ty_St}
/-- a call into a typed world, from outside of it -/
theorem w_runV (hx : p.tables.exec = Jvm.exec) (hb : c.code = cc) (hml : c.maxLocals = nL) (hsz : ls.size = nL) (hown : s.vm.findClass own = some m.cls) (hts : ∀ w ∈ ty_w, w.before args s = true) (hK : va_K D classes (ty_tys cA) s) {P : Option ty_SV → ty_St → Prop} {y : MethodName} {bytes : ByteArray} {maxL idx n ci : Nat} {ret : Option FieldType} {rm : Room} {a i : Nat} {As : List ty_SV} {stk rest : List Value} {fl : List (Option (Nat × Option Nat))} {q : vw_C}
    (hM : ty_M l y (Cond.code y bytes maxL ret :: ty_w) rm cn D ad cA (.inr (a, i) :: As) σ P) (hki : ty_ki a i = .inl (ci, fl)) (hcl : classes[ci]? = some q) (hy : y.cls = q.1) (hH : ty_H cn D ad cA σ H) (hi : i < cn a)
    (hR : rm.cells = 0 ∧ rm.slots = 0 ∧ rm.frames + 1 ≤ R.frames ∧ 8 + (maxL + 11) + rm.locals ≤ R.locals)
    (hw : Cond.methodLink own idx y ∈ ty_w ∧ Cond.instanceMethod y ∈ ty_w ∧ Cond.selects y.cls y y ∈ ty_w ∧ Cond.initialized y.cls ∈ ty_w ∧ Cond.code y bytes maxL ret ∈ ty_w)
    (hd : y.cls ≠ "java/lang/invoke/MethodHandle" ∧ y.cls ≠ "java/lang/invoke/VarHandle" ∧ (parseMethodDescriptor y.desc).map (fun d => d.parameters.length) = some n) (hn : As.length = n) (hstk : stk = (As.map (ty_sv ad)).reverse ++ .ref (ad a i) :: rest) (hst8 : (rest.map fun v => v.category).sum ≤ 8)
    (hcs : cells ≤ R.cells ∧ slots ≤ R.slots) (d : decode cc pc = .ok (.invokevirtual idx, 3)) :
    va_Run p l e R s m args below meth c H locs cells slots 0 0 (F0 m pc ls stk) rest (ty_Q cn D ad cA P (ty_A cn ad) (Value.ref (ad a i) :: As.map (ty_sv ad)).toArray) (ty_A cn ad) := by
  have cw := cwV (R := R) (own := own) (index := idx) (C := y.cls) (rm := rm) n hts (GoodIn.ty (y := y) (bytes := bytes) (maxL := maxL) (ret := ret) (ws := [.methodLink own idx y, .instanceMethod y, .selects y.cls y y, .initialized y.cls]) (by
      intro w hw'
      simp only [List.mem_cons, List.not_mem_nil, or_false] at hw'
      rcases hw' with rfl | rfl | rfl | rfl
      · exact hw.1
      · exact hw.2.1
      · exact hw.2.2.1
      · exact hw.2.2.2.1) hw.2.2.2.2) rfl hR.1 hR.2.1 ⟨rfl, hd⟩ ⟨hR.2.2.1, hR.2.2.2⟩
  refine va_runV (As := As.map (ty_sv ad)) (b := ad a i) (rest := rest) ⟨hx, hb, hml, hown, hts⟩ hM cw ⟨ty_P.blind, ?_, fun U hU hW => ⟨rfl, by rw [hU]; exact hH, va_K.moved hW.alike hK⟩⟩ rfl (by simpa using hn) hsz hstk (by
    have : JFrame.monitorRoom (F0 m pc ls stk) = 0 := rfl
    rw [this]; omega) d hcs
  have he : ty_en ad cA (σ a i) a i = .inr (ci, ty_fs ad (σ a i) i 0 fl) := by unfold ty_en; rw [hki]
  have hP1 : va_P D classes [(ad a i, .inr (ci, ty_fs ad (σ a i) i 0 fl))] H := ty_one (by rw [← he]; exact hH a i hi)
  rw [hy]
  exact va_recv hK hP1 hcl (q0 := 0) rfl
end WRV
set_option maxRecDepth 100000 in
set_option maxHeartbeats 4000000 in
theorem n_Program_init (l : Launch) {D : va_G} {cA : Nat → ClassId} {cL : ClassId} (b h : Nat) (hbh : b < h) : Met l y_Program_init (Cond.code y_Program_init b_Program_init 1 none :: ty_w) (rmN 1 3 30) (cn_P D cA cL b h [] (fun H => va_at D classes (b, .inr (2, [.null, .null, .null, .int 0])) H)) (cn_Q b h 3 (fun H => va_at D classes (b, .inr (2, [.ref h, .ref (h + 1), .ref (h + 2), .int 0])) H ∧ va_at D classes (h + 0, .inl (cA 0, 10, .inl (fun _ => 0))) H ∧ va_at D classes (h + 1, .inl (cA 0, 10, .inl (fun _ => 0))) H ∧ va_at D classes (h + 2, .inl (cA 0, 10, .inl (fun _ => 0))) H)) 3 30 (cn_F b h) := by
  refine Met.ofW (cc := b_Program_init) (maxL := 1) (ret := none) rfl rfl ?_
  intro p e s m args below meth c s₁ B hml hv
  obtain ⟨rfl, hz, hO, hK, hM⟩ := hv
  have hts0 := atoms_spec (ws := Cond.code y_Program_init b_Program_init 1 none :: ty_w) B.pre
  have hts : ∀ w ∈ ty_w, w.before _ s = true := fun w hw => hts0 w (List.mem_cons_of_mem _ hw)
  have hown : s.vm.findClass R_Program = some m.cls := findClass_of_methodNamed B.named
  have hx := B.exec
  have hb := B.bytes
  have hr := B.returns
  have hlk := B.notSynchronized
  have hnm : meth.name = "<init>" := (name_of_methodNamed B.named B.method).1
  have hS : va_S (cn_F b h) s.heap s.heap [] := va_S.rf
  have hk : ∀ q : Nat, q < h → q ≠ b → s.heap[q]? = s.heap[q]? := fun _ _ _ => rfl
  have hl := lv_entry (.ref b :: []) (n := 1) (Nat.le_of_ble_eq_true rfl)
  rw [lg_entry_eq]
  generalize (lg_sl (.ref b :: []) ++ List.replicate (1 - (lg_sl (.ref b :: [])).length) Slot.unset).toArray = ls at hl ⊢
  have hl : lv_has ls 1 [(0, .ref b)] := hl
  refine lv_aload_n hx hb d_Program_init_0 rfl (lv_at hl 0 rfl) ?_
  refine dn_obj hx hb hml hl.1 hts hown ⟨ml_Program_3, ob_i, ob_c⟩ ⟨Nat.le_of_ble_eq_true rfl, Nat.le_of_ble_eq_true rfl⟩ d_Program_init_1 ?_
  refine lv_aload_n hx hb d_Program_init_4 rfl (lv_at hl 0 rfl) ?_
  refine lv_bipush (v := 10) hx hb d_Program_init_5 (by decide) ?_
  refine dn_newa (t := 0) (N' := 10) (ty := .int) (h := h) hx hb hts rfl ac_int (fun _ q => q) hK rfl hS (by decide) rfl (by decide) ⟨Nat.le_of_ble_eq_true rfl, Nat.le_of_ble_eq_true rfl⟩ hz d_Program_init_7 (fun H0 a0 z0 k0 hS => ?_)
  have hz : H0.size = h + 1 := z0
  have hO := hO.kept (k0 _ (by omega))
  have hk : ∀ q : Nat, q < h → q ≠ b → H0[q]? = s.heap[q]? := fun q h1 h2 => (k0 q (by omega)).trans (hk q h1 h2)
  have f0 : va_at D classes (h + 0, .inl (cA 0, 10, .inl (fun _ => 0))) H0 := a0
  refine dn_putF (ci := 2) (C := R_Program) (T := F_Program) (N := 4) hx hb hts i_Program t_Program t_Program_ok n_Program hown hK hO hS (Or.inl rfl) rfl 0 (by decide) fl_Program_9 rfl rfl hnm rfl (ty := .array .int) (v := .ref h) (by decide +kernel) rfl rfl (Nat.le_of_ble_eq_true rfl) d_Program_init_9 (fun G9 L9 hO z9p k9p hS => ?_)
  have hO : va_at D classes (b, .inr (2, [.ref h, .null, .null, .int 0])) G9 := hO
  have hz : G9.size = h + 1 := z9p.trans hz
  have hk : ∀ q : Nat, q < h → q ≠ b → G9[q]? = s.heap[q]? := fun q h1 h2 => (k9p q h2).trans (hk q h1 h2)
  have f0 := f0.kept (k9p _ (by show h + 0 ≠ b; omega))
  refine lv_aload_n hx hb d_Program_init_12 rfl (lv_at hl 0 rfl) ?_
  refine lv_bipush (v := 10) hx hb d_Program_init_13 (by decide) ?_
  refine dn_newa (t := 0) (N' := 10) (ty := .int) (h := h + 1) hx hb hts rfl ac_int (fun _ q => q) hK rfl hS (by decide) rfl (by decide) ⟨Nat.le_of_ble_eq_true rfl, Nat.le_of_ble_eq_true rfl⟩ (show _ = h + 1 from hz) d_Program_init_15 (fun H1 a1 z1 k1 hS => ?_)
  have hz : H1.size = h + 2 := z1
  have hO := hO.kept (k1 _ (by omega))
  have hk : ∀ q : Nat, q < h → q ≠ b → H1[q]? = s.heap[q]? := fun q h1 h2 => (k1 q (by omega)).trans (hk q h1 h2)
  have f0 := f0.kept (k1 _ (by show h + 0 < _; omega))
  have f1 : va_at D classes (h + 1, .inl (cA 0, 10, .inl (fun _ => 0))) H1 := a1
  refine dn_putF (ci := 2) (C := R_Program) (T := F_Program) (N := 4) hx hb hts i_Program t_Program t_Program_ok n_Program hown hK hO hS (Or.inl rfl) rfl 1 (by decide) fl_Program_15 rfl rfl hnm rfl (ty := .array .int) (v := .ref (h + 1)) (by decide +kernel) rfl rfl (Nat.le_of_ble_eq_true rfl) d_Program_init_17 (fun G17 L17 hO z17p k17p hS => ?_)
  have hO : va_at D classes (b, .inr (2, [.ref h, .ref (h + 1), .null, .int 0])) G17 := hO
  have hz : G17.size = h + 2 := z17p.trans hz
  have hk : ∀ q : Nat, q < h → q ≠ b → G17[q]? = s.heap[q]? := fun q h1 h2 => (k17p q h2).trans (hk q h1 h2)
  have f0 := f0.kept (k17p _ (by show h + 0 ≠ b; omega))
  have f1 := f1.kept (k17p _ (by show h + 1 ≠ b; omega))
  refine lv_aload_n hx hb d_Program_init_20 rfl (lv_at hl 0 rfl) ?_
  refine lv_bipush (v := 10) hx hb d_Program_init_21 (by decide) ?_
  refine dn_newa (t := 0) (N' := 10) (ty := .int) (h := h + 2) hx hb hts rfl ac_int (fun _ q => q) hK rfl hS (by decide) rfl (by decide) ⟨Nat.le_of_ble_eq_true rfl, Nat.le_of_ble_eq_true rfl⟩ (show _ = h + 2 from hz) d_Program_init_23 (fun H2 a2 z2 k2 hS => ?_)
  have hz : H2.size = h + 3 := z2
  have hO := hO.kept (k2 _ (by omega))
  have hk : ∀ q : Nat, q < h → q ≠ b → H2[q]? = s.heap[q]? := fun q h1 h2 => (k2 q (by omega)).trans (hk q h1 h2)
  have f0 := f0.kept (k2 _ (by show h + 0 < _; omega))
  have f1 := f1.kept (k2 _ (by show h + 1 < _; omega))
  have f2 : va_at D classes (h + 2, .inl (cA 0, 10, .inl (fun _ => 0))) H2 := a2
  refine dn_putF (ci := 2) (C := R_Program) (T := F_Program) (N := 4) hx hb hts i_Program t_Program t_Program_ok n_Program hown hK hO hS (Or.inl rfl) rfl 2 (by decide) fl_Program_18 rfl rfl hnm rfl (ty := .array .int) (v := .ref (h + 2)) (by decide +kernel) rfl rfl (Nat.le_of_ble_eq_true rfl) d_Program_init_25 (fun G25 L25 hO z25p k25p hS => ?_)
  have hO : va_at D classes (b, .inr (2, [.ref h, .ref (h + 1), .ref (h + 2), .int 0])) G25 := hO
  have hz : G25.size = h + 3 := z25p.trans hz
  have hk : ∀ q : Nat, q < h → q ≠ b → G25[q]? = s.heap[q]? := fun q h1 h2 => (k25p q h2).trans (hk q h1 h2)
  have f0 := f0.kept (k25p _ (by show h + 0 ≠ b; omega))
  have f1 := f1.kept (k25p _ (by show h + 1 ≠ b; omega))
  have f2 := f2.kept (k25p _ (by show h + 2 ≠ b; omega))
  exact W.vret hx hb hr (fun t ht _ => ⟨rfl, (show _ from ht.symm ▸ ⟨hO, f0, f1, f2⟩), (congrArg Array.size ht).trans hz, fun q h1 h2 => (congrArg (fun z : Heap => z[q]?) ht).trans (hk q h1 h2)⟩) hS.2.2 d_Program_init_28 hlk
set_option maxRecDepth 100000 in
set_option maxHeartbeats 4000000 in
theorem n_Log_init (l : Launch) {D : va_G} {cA : Nat → ClassId} {cL : ClassId} (N : Nat) (hN0 : ¬ nI N < 0) (hN1 : (nI N).toNatClampNeg = N) (hN2 : N * componentBytes .int ≤ 536870912) (b h : Nat) (hbh : b < h) : Met l y_Log_init (Cond.code y_Log_init b_Log_init 2 none :: ty_w) (rmN 1 1 N) (cn_P D cA cL b h [.int (nI N)] (fun H => va_at D classes (b, .inr (5, [.null, .int 0])) H)) (cn_Q b h 1 (fun H => va_at D classes (b, .inr (5, [.ref h, .int 0])) H ∧ va_at D classes (h + 0, .inl (cA 0, N, .inl (fun _ => 0))) H)) 1 N (cn_F b h) := by
  refine Met.ofW (cc := b_Log_init) (maxL := 2) (ret := none) rfl rfl ?_
  intro p e s m args below meth c s₁ B hml hv
  obtain ⟨rfl, hz, hO, hK, hM⟩ := hv
  have hts0 := atoms_spec (ws := Cond.code y_Log_init b_Log_init 2 none :: ty_w) B.pre
  have hts : ∀ w ∈ ty_w, w.before _ s = true := fun w hw => hts0 w (List.mem_cons_of_mem _ hw)
  have hown : s.vm.findClass R_Log = some m.cls := findClass_of_methodNamed B.named
  have hx := B.exec
  have hb := B.bytes
  have hr := B.returns
  have hlk := B.notSynchronized
  have hnm : meth.name = "<init>" := (name_of_methodNamed B.named B.method).1
  have hS : va_S (cn_F b h) s.heap s.heap [] := va_S.rf
  have hk : ∀ q : Nat, q < h → q ≠ b → s.heap[q]? = s.heap[q]? := fun _ _ _ => rfl
  have hl := lv_entry (.ref b :: [.int (nI N)]) (n := 2) (Nat.le_of_ble_eq_true rfl)
  rw [lg_entry_eq]
  generalize (lg_sl (.ref b :: [.int (nI N)]) ++ List.replicate (2 - (lg_sl (.ref b :: [.int (nI N)])).length) Slot.unset).toArray = ls at hl ⊢
  have hl : lv_has ls 2 [(0, .ref b), (1, .int (nI N))] := hl
  refine lv_aload_n hx hb d_Log_init_0 rfl (lv_at hl 0 rfl) ?_
  refine dn_obj hx hb hml hl.1 hts hown ⟨ml_Log_1, ob_i, ob_c⟩ ⟨Nat.le_of_ble_eq_true rfl, Nat.le_of_ble_eq_true rfl⟩ d_Log_init_1 ?_
  refine lv_aload_n hx hb d_Log_init_4 rfl (lv_at hl 0 rfl) ?_
  refine lv_iload_n hx hb d_Log_init_5 rfl (lv_at hl 1 rfl) ?_
  refine dn_newa (t := 0) (N' := N) (ty := .int) (h := h) hx hb hts rfl ac_int (fun _ q => q) hK rfl hS hN0 hN1 hN2 ⟨Nat.le_of_ble_eq_true rfl, Nat.le_of_eq (Nat.zero_add _)⟩ hz d_Log_init_6 (fun H0 a0 z0 k0 hS => ?_)
  have hz : H0.size = h + 1 := z0
  have hO := hO.kept (k0 _ (by omega))
  have hk : ∀ q : Nat, q < h → q ≠ b → H0[q]? = s.heap[q]? := fun q h1 h2 => (k0 q (by omega)).trans (hk q h1 h2)
  have f0 : va_at D classes (h + 0, .inl (cA 0, N, .inl (fun _ => 0))) H0 := a0
  refine dn_putF (ci := 5) (C := R_Log) (T := F_Log) (N := 2) hx hb hts i_Log t_Log t_Log_ok n_Log hown hK hO hS (Or.inl rfl) rfl 0 (by decide) fl_Log_7 rfl rfl hnm rfl (ty := .array .int) (v := .ref h) (by decide +kernel) rfl rfl (Nat.le_of_ble_eq_true rfl) d_Log_init_8 (fun G8 L8 hO z8p k8p hS => ?_)
  have hO : va_at D classes (b, .inr (5, [.ref h, .int 0])) G8 := hO
  have hz : G8.size = h + 1 := z8p.trans hz
  have hk : ∀ q : Nat, q < h → q ≠ b → G8[q]? = s.heap[q]? := fun q h1 h2 => (k8p q h2).trans (hk q h1 h2)
  have f0 := f0.kept (k8p _ (by show h + 0 ≠ b; omega))
  refine W.widen (k := 1) (n := N) (by omega) (by omega) ?_
  exact W.vret hx hb hr (fun t ht _ => ⟨rfl, (show _ from ht.symm ▸ ⟨hO, f0⟩), (congrArg Array.size ht).trans hz, fun q h1 h2 => (congrArg (fun z : Heap => z[q]?) ht).trans (hk q h1 h2)⟩) hS.2.2 d_Log_init_11 hlk
set_option maxRecDepth 100000 in
set_option maxHeartbeats 4000000 in
theorem n_Strand_init (l : Launch) {D : va_G} {cA : Nat → ClassId} {cL : ClassId} (b h : Nat) (hbh : b < h) : Met l y_Strand_init (Cond.code y_Strand_init b_Strand_init 1 none :: ty_w) (rmN 1 0 0) (cn_P D cA cL b h [] (fun H => va_at D classes (b, .inr (4, [.int 0, .int 0, .int 0, .int 0, .int 0, .int 0, .int 0, .int 0, .int 0, .int 0])) H)) (cn_Q b h 0 (fun H => va_at D classes (b, .inr (4, [.int 0, .int 0, .int 0, .int 0, .int 0, .int 0, .int 0, .int 0, .int 0, .int 0])) H)) 0 0 (cn_F b h) := by
  refine Met.ofW (cc := b_Strand_init) (maxL := 1) (ret := none) rfl rfl ?_
  intro p e s m args below meth c s₁ B hml hv
  obtain ⟨rfl, hz, hO, hK, hM⟩ := hv
  have hts0 := atoms_spec (ws := Cond.code y_Strand_init b_Strand_init 1 none :: ty_w) B.pre
  have hts : ∀ w ∈ ty_w, w.before _ s = true := fun w hw => hts0 w (List.mem_cons_of_mem _ hw)
  have hown : s.vm.findClass R_Strand = some m.cls := findClass_of_methodNamed B.named
  have hx := B.exec
  have hb := B.bytes
  have hr := B.returns
  have hlk := B.notSynchronized
  have hnm : meth.name = "<init>" := (name_of_methodNamed B.named B.method).1
  have hS : va_S (cn_F b h) s.heap s.heap [] := va_S.rf
  have hk : ∀ q : Nat, q < h → q ≠ b → s.heap[q]? = s.heap[q]? := fun _ _ _ => rfl
  have hl := lv_entry (.ref b :: []) (n := 1) (Nat.le_of_ble_eq_true rfl)
  rw [lg_entry_eq]
  generalize (lg_sl (.ref b :: []) ++ List.replicate (1 - (lg_sl (.ref b :: [])).length) Slot.unset).toArray = ls at hl ⊢
  have hl : lv_has ls 1 [(0, .ref b)] := hl
  refine lv_aload_n hx hb d_Strand_init_0 rfl (lv_at hl 0 rfl) ?_
  refine dn_obj hx hb hml hl.1 hts hown ⟨ml_Strand_3, ob_i, ob_c⟩ ⟨Nat.le_of_ble_eq_true rfl, Nat.le_of_ble_eq_true rfl⟩ d_Strand_init_1 ?_
  exact W.vret hx hb hr (fun t ht _ => ⟨rfl, (show _ from ht.symm ▸ hO), (congrArg Array.size ht).trans hz, fun q h1 h2 => (congrArg (fun z : Heap => z[q]?) ht).trans (hk q h1 h2)⟩) hS.2.2 d_Strand_init_4 hlk
/-- the reference's object with its first n arrays -/
def md_F (h n : Nat) : List Value := [.int 0, .int 0, .int 1, .int 0, .int 0, .int 0, .int 0, .int 0, .int 0, .int 0] ++ (List.range 28).map (fun j => if j < n then .ref (h + j) else .null)
theorem md_len (h n : Nat) : (md_F h n).length = 38 := by simp [md_F]
def md_I (D : va_G) (cA : Nat → ClassId) (b h n : Nat) (s : State) (H : Heap) (locs : List Loc) : Prop :=
  va_at D classes (b, .inr (6, md_F h n)) H ∧ H.size = h + n ∧ (∀ q : Nat, q < h → q ≠ b → H[q]? = s.heap[q]?) ∧ (∀ j, j < n → va_at D classes (h + j, ty_en (fun _ _ => 0) cA (fun _ => 0) (21 + j) 0) H) ∧ va_S (cn_F b h) s.heap H locs
section MDS
variable {p : Program} {l : Launch} {e : Env} {R : Room} {s : State} {m : MethodId} {args : Array Value} {below : List Frame} {meth : Method} {c : Code} {H : Heap} {locs : List Loc} {cells slots : Nat} {Q : State → Prop} {cc : ByteArray} {pc : Nat} {ls : Array Slot} {D : va_G} {cA : Nat → ClassId} {cL : ClassId} {b h : Nat}
set_option maxHeartbeats 4000000 in
theorem md_step (hx : p.tables.exec = Jvm.exec) (hb : c.code = cc) (hts : ∀ w ∈ ty_w, w.before args s = true) (hown : s.vm.findClass R_Model = some m.cls) (hnm : meth.name = "<init>") (hK : va_K D classes (wr_tys cA cL) s) (hbh : b < h) (n t idx : Nat) (hn : n < 28) (hset : (md_F h n).set (10 + n) (.ref (h + n)) = md_F h (n + 1)) {ty : FieldType} {atype : ArrayType} {N' : Nat} {x : Int32} (hty : newarray.typeOf atype = ty) (hac : Cond.arrayClass ty ∈ ty_w) (hRA : ∀ cT, va_RA s cT ty → s.vm.findClass ("[" ++ ty.toString) = some cT) (ht : (wr_tys cA cL)[t]? = some (cA t, ty)) (hki : ty_ki (21 + n) 0 = .inr (t, N', none)) (hdf : defaultValue ty = .int 0) (hx0 : ¬ x < 0) (hN : x.toNatClampNeg = N') (hby : N' * componentBytes ty ≤ 536870912) (hR : cells + 1 ≤ R.cells ∧ slots + N' ≤ R.slots)
    (hlink : Cond.fieldLink R_Model idx R_Model (F_Model (10 + n)).2.1 (F_Model (10 + n)).2.2.1 ∈ ty_w) (hf : (F_Model (10 + n)).1 = R_Model ∧ (F_Model (10 + n)).2.2.2 = true ∧ parseFieldDescriptor (F_Model (10 + n)).2.2.1 = some (.array ty)) (d1 : decode cc pc = .ok (.newarray atype, 2)) (d2 : decode cc (pc + 2) = .ok (.putfield idx, 3)) (hI : md_I D cA b h n s H locs)
    (kk : ∀ (H1 : Heap) (locs1 : List Loc), md_I D cA b h (n + 1) s H1 locs1 → W p l e R s m args below meth c H1 locs1 (cells + 1) (slots + N') Q (F0 m (pc + 5) ls [])) : W p l e R s m args below meth c H locs cells slots Q (F0 m pc ls [.int x, .ref b]) := by
  obtain ⟨hO, hz, hk, hF, hS⟩ := hI
  refine dn_newa (t := t) (N' := N') (ty := ty) (h := h + n) hx hb hts hty hac hRA hK ht hS hx0 hN hby hR hz d1 (fun H1 a1 z1 k1 hS1 => ?_)
  have hO1 := hO.kept (k1 b (by omega))
  refine dn_putF (ci := 6) (C := R_Model) (T := F_Model) (N := 38) hx hb hts i_Model t_Model t_Model_ok n_Model hown hK hO1 hS1 (Or.inl rfl) rfl (10 + n) (by omega) hlink hf.1 hf.2.1 hnm hf.1 (v := .ref (h + n)) hf.2.2 rfl rfl (by rw [md_len]; omega) d2 (fun H2 L2 hO2 z2 k2 hS2 => ?_)
  rw [hset] at hO2
  refine kk H2 L2 ⟨hO2, by rw [z2]; exact z1, fun q h1 h2 => (k2 q h2).trans ((k1 q (by omega)).trans (hk q h1 h2)), fun j hj => ?_, hS2⟩
  rcases Nat.lt_succ_iff_lt_or_eq.mp hj with q | q
  · exact ((hF j q).kept (k1 _ (by show h + j < _; omega))).kept (k2 _ (by show h + j ≠ b; omega))
  · subst q
    have e : ty_en (fun _ _ => 0) cA (fun _ => 0) (21 + j) 0 = .inl (cA t, N', .inl (fun _ => 0)) := by unfold ty_en; rw [hki]
    rw [e]
    show H2[h + j]? = some (arrV (cA t) N' (fun _ => .int 0))
    rw [k2 _ (by omega), a1, hdf]
end MDS
set_option maxRecDepth 100000 in
set_option maxHeartbeats 4000000 in
theorem n_Model_init (l : Launch) {D : va_G} {cA : Nat → ClassId} {cL : ClassId} (b h : Nat) (hbh : b < h) : Met l y_Model_init (Cond.code y_Model_init b_Model_init 1 none :: ty_w) (rmN 1 28 1072) (cn_P D cA cL b h [] (fun H => va_at D classes (b, .inr (6, [.int 0, .int 0, .int 0, .int 0, .int 0, .int 0, .int 0, .int 0, .int 0, .int 0, .null, .null, .null, .null, .null, .null, .null, .null, .null, .null, .null, .null, .null, .null, .null, .null, .null, .null, .null, .null, .null, .null, .null, .null, .null, .null, .null, .null])) H)) (cn_Q b h 28 (fun H => va_at D classes (b, .inr (6, md_F h 28)) H ∧ ∀ j, j < 28 → va_at D classes (h + j, ty_en (fun _ _ => 0) cA (fun _ => 0) (21 + j) 0) H)) 28 1072 (cn_F b h) := by
  refine Met.ofW (cc := b_Model_init) (maxL := 1) (ret := none) rfl rfl ?_
  intro p e s m args below meth c s₁ B hml hv
  obtain ⟨rfl, hz, hO, hK, hM⟩ := hv
  have hts0 := atoms_spec (ws := Cond.code y_Model_init b_Model_init 1 none :: ty_w) B.pre
  have hts : ∀ w ∈ ty_w, w.before _ s = true := fun w hw => hts0 w (List.mem_cons_of_mem _ hw)
  have hown : s.vm.findClass R_Model = some m.cls := findClass_of_methodNamed B.named
  have hx := B.exec
  have hb := B.bytes
  have hr := B.returns
  have hlk := B.notSynchronized
  have hnm : meth.name = "<init>" := (name_of_methodNamed B.named B.method).1
  have hS : va_S (cn_F b h) s.heap s.heap [] := va_S.rf
  have hk : ∀ q : Nat, q < h → q ≠ b → s.heap[q]? = s.heap[q]? := fun _ _ _ => rfl
  have hl := lv_entry (.ref b :: []) (n := 1) (Nat.le_of_ble_eq_true rfl)
  rw [lg_entry_eq]
  generalize (lg_sl (.ref b :: []) ++ List.replicate (1 - (lg_sl (.ref b :: [])).length) Slot.unset).toArray = ls at hl ⊢
  have hl : lv_has ls 1 [(0, .ref b)] := hl
  refine lv_aload_n hx hb d_Model_init_0 rfl (lv_at hl 0 rfl) ?_
  refine dn_obj hx hb hml hl.1 hts hown ⟨ml_Model_1, ob_i, ob_c⟩ ⟨Nat.le_of_ble_eq_true rfl, Nat.le_of_ble_eq_true rfl⟩ d_Model_init_1 ?_
  refine lv_aload_n hx hb d_Model_init_4 rfl (lv_at hl 0 rfl) ?_
  refine lv_iconst (v := 1) hx hb d_Model_init_5 (by decide) ?_
  refine dn_put (ci := 6) (C := R_Model) (T := F_Model) (N := 38) hx hb hts i_Model t_Model t_Model_ok n_Model hown hK hO hS (Or.inl rfl) rfl 2 (by decide) fl_Model_7 rfl rfl (ty := .int) (v := .int 1) (by decide +kernel) rfl rfl (Nat.le_of_ble_eq_true rfl) d_Model_init_6 (fun G L hO zp kp hS => ?_)
  have hI : md_I D cA b h 0 s G L := ⟨hO, zp.trans hz, fun q h1 h2 => kp q h2, fun j hj => absurd hj (Nat.not_lt_zero _), hS⟩
  clear hk zp kp hO hz
  refine lv_aload_n hx hb d_Model_init_9 rfl (lv_at hl 0 rfl) ?_
  refine lv_bipush (v := 100) hx hb d_Model_init_10 (by decide) ?_
  refine md_step (N' := 100) hx hb hts hown hnm hK hbh 0 0 13 (by decide) rfl (ty := .int) rfl ac_int (fun _ q => q) rfl rfl rfl (by decide) rfl (by decide) ⟨Nat.le_of_ble_eq_true rfl, Nat.le_of_ble_eq_true rfl⟩ fl_Model_13 ⟨rfl, rfl, by decide +kernel⟩ d_Model_init_12 d_Model_init_14 hI (fun H0 L0 hI0 => ?_)
  clear hI
  have hI : md_I D cA b h 1 s H0 L0 := hI0
  clear hI0
  refine lv_aload_n hx hb d_Model_init_17 rfl (lv_at hl 0 rfl) ?_
  refine lv_bipush (v := 100) hx hb d_Model_init_18 (by decide) ?_
  refine md_step (N' := 100) hx hb hts hown hnm hK hbh 1 0 17 (by decide) rfl (ty := .int) rfl ac_int (fun _ q => q) rfl rfl rfl (by decide) rfl (by decide) ⟨Nat.le_of_ble_eq_true rfl, Nat.le_of_ble_eq_true rfl⟩ fl_Model_17 ⟨rfl, rfl, by decide +kernel⟩ d_Model_init_20 d_Model_init_22 hI (fun H1 L1 hI1 => ?_)
  clear hI
  have hI : md_I D cA b h 2 s H1 L1 := hI1
  clear hI1
  refine lv_aload_n hx hb d_Model_init_25 rfl (lv_at hl 0 rfl) ?_
  refine lv_bipush (v := 10) hx hb d_Model_init_26 (by decide) ?_
  refine md_step (N' := 10) hx hb hts hown hnm hK hbh 2 0 20 (by decide) rfl (ty := .int) rfl ac_int (fun _ q => q) rfl rfl rfl (by decide) rfl (by decide) ⟨Nat.le_of_ble_eq_true rfl, Nat.le_of_ble_eq_true rfl⟩ fl_Model_20 ⟨rfl, rfl, by decide +kernel⟩ d_Model_init_28 d_Model_init_30 hI (fun H2 L2 hI2 => ?_)
  clear hI
  have hI : md_I D cA b h 3 s H2 L2 := hI2
  clear hI2
  refine lv_aload_n hx hb d_Model_init_33 rfl (lv_at hl 0 rfl) ?_
  refine lv_bipush (v := 100) hx hb d_Model_init_34 (by decide) ?_
  refine md_step (N' := 100) hx hb hts hown hnm hK hbh 3 0 23 (by decide) rfl (ty := .int) rfl ac_int (fun _ q => q) rfl rfl rfl (by decide) rfl (by decide) ⟨Nat.le_of_ble_eq_true rfl, Nat.le_of_ble_eq_true rfl⟩ fl_Model_23 ⟨rfl, rfl, by decide +kernel⟩ d_Model_init_36 d_Model_init_38 hI (fun H3 L3 hI3 => ?_)
  clear hI
  have hI : md_I D cA b h 4 s H3 L3 := hI3
  clear hI3
  refine lv_aload_n hx hb d_Model_init_41 rfl (lv_at hl 0 rfl) ?_
  refine lv_bipush (v := 12) hx hb d_Model_init_42 (by decide) ?_
  refine md_step (N' := 12) hx hb hts hown hnm hK hbh 4 0 26 (by decide) rfl (ty := .int) rfl ac_int (fun _ q => q) rfl rfl rfl (by decide) rfl (by decide) ⟨Nat.le_of_ble_eq_true rfl, Nat.le_of_ble_eq_true rfl⟩ fl_Model_26 ⟨rfl, rfl, by decide +kernel⟩ d_Model_init_44 d_Model_init_46 hI (fun H4 L4 hI4 => ?_)
  clear hI
  have hI : md_I D cA b h 5 s H4 L4 := hI4
  clear hI4
  refine lv_aload_n hx hb d_Model_init_49 rfl (lv_at hl 0 rfl) ?_
  refine lv_bipush (v := 12) hx hb d_Model_init_50 (by decide) ?_
  refine md_step (N' := 12) hx hb hts hown hnm hK hbh 5 0 29 (by decide) rfl (ty := .int) rfl ac_int (fun _ q => q) rfl rfl rfl (by decide) rfl (by decide) ⟨Nat.le_of_ble_eq_true rfl, Nat.le_of_ble_eq_true rfl⟩ fl_Model_29 ⟨rfl, rfl, by decide +kernel⟩ d_Model_init_52 d_Model_init_54 hI (fun H5 L5 hI5 => ?_)
  clear hI
  have hI : md_I D cA b h 6 s H5 L5 := hI5
  clear hI5
  refine lv_aload_n hx hb d_Model_init_57 rfl (lv_at hl 0 rfl) ?_
  refine lv_bipush (v := 12) hx hb d_Model_init_58 (by decide) ?_
  refine md_step (N' := 12) hx hb hts hown hnm hK hbh 6 0 32 (by decide) rfl (ty := .int) rfl ac_int (fun _ q => q) rfl rfl rfl (by decide) rfl (by decide) ⟨Nat.le_of_ble_eq_true rfl, Nat.le_of_ble_eq_true rfl⟩ fl_Model_32 ⟨rfl, rfl, by decide +kernel⟩ d_Model_init_60 d_Model_init_62 hI (fun H6 L6 hI6 => ?_)
  clear hI
  have hI : md_I D cA b h 7 s H6 L6 := hI6
  clear hI6
  refine lv_aload_n hx hb d_Model_init_65 rfl (lv_at hl 0 rfl) ?_
  refine lv_bipush (v := 12) hx hb d_Model_init_66 (by decide) ?_
  refine md_step (N' := 12) hx hb hts hown hnm hK hbh 7 0 35 (by decide) rfl (ty := .int) rfl ac_int (fun _ q => q) rfl rfl rfl (by decide) rfl (by decide) ⟨Nat.le_of_ble_eq_true rfl, Nat.le_of_ble_eq_true rfl⟩ fl_Model_35 ⟨rfl, rfl, by decide +kernel⟩ d_Model_init_68 d_Model_init_70 hI (fun H7 L7 hI7 => ?_)
  clear hI
  have hI : md_I D cA b h 8 s H7 L7 := hI7
  clear hI7
  refine lv_aload_n hx hb d_Model_init_73 rfl (lv_at hl 0 rfl) ?_
  refine lv_bipush (v := 12) hx hb d_Model_init_74 (by decide) ?_
  refine md_step (N' := 12) hx hb hts hown hnm hK hbh 8 0 38 (by decide) rfl (ty := .int) rfl ac_int (fun _ q => q) rfl rfl rfl (by decide) rfl (by decide) ⟨Nat.le_of_ble_eq_true rfl, Nat.le_of_ble_eq_true rfl⟩ fl_Model_38 ⟨rfl, rfl, by decide +kernel⟩ d_Model_init_76 d_Model_init_78 hI (fun H8 L8 hI8 => ?_)
  clear hI
  have hI : md_I D cA b h 9 s H8 L8 := hI8
  clear hI8
  refine lv_aload_n hx hb d_Model_init_81 rfl (lv_at hl 0 rfl) ?_
  refine lv_bipush (v := 12) hx hb d_Model_init_82 (by decide) ?_
  refine md_step (N' := 12) hx hb hts hown hnm hK hbh 9 0 41 (by decide) rfl (ty := .int) rfl ac_int (fun _ q => q) rfl rfl rfl (by decide) rfl (by decide) ⟨Nat.le_of_ble_eq_true rfl, Nat.le_of_ble_eq_true rfl⟩ fl_Model_41 ⟨rfl, rfl, by decide +kernel⟩ d_Model_init_84 d_Model_init_86 hI (fun H9 L9 hI9 => ?_)
  clear hI
  have hI : md_I D cA b h 10 s H9 L9 := hI9
  clear hI9
  refine lv_aload_n hx hb d_Model_init_89 rfl (lv_at hl 0 rfl) ?_
  refine lv_bipush (v := 12) hx hb d_Model_init_90 (by decide) ?_
  refine md_step (N' := 12) hx hb hts hown hnm hK hbh 10 0 44 (by decide) rfl (ty := .int) rfl ac_int (fun _ q => q) rfl rfl rfl (by decide) rfl (by decide) ⟨Nat.le_of_ble_eq_true rfl, Nat.le_of_ble_eq_true rfl⟩ fl_Model_44 ⟨rfl, rfl, by decide +kernel⟩ d_Model_init_92 d_Model_init_94 hI (fun H10 L10 hI10 => ?_)
  clear hI
  have hI : md_I D cA b h 11 s H10 L10 := hI10
  clear hI10
  refine lv_aload_n hx hb d_Model_init_97 rfl (lv_at hl 0 rfl) ?_
  refine lv_bipush (v := 12) hx hb d_Model_init_98 (by decide) ?_
  refine md_step (N' := 12) hx hb hts hown hnm hK hbh 11 0 47 (by decide) rfl (ty := .int) rfl ac_int (fun _ q => q) rfl rfl rfl (by decide) rfl (by decide) ⟨Nat.le_of_ble_eq_true rfl, Nat.le_of_ble_eq_true rfl⟩ fl_Model_47 ⟨rfl, rfl, by decide +kernel⟩ d_Model_init_100 d_Model_init_102 hI (fun H11 L11 hI11 => ?_)
  clear hI
  have hI : md_I D cA b h 12 s H11 L11 := hI11
  clear hI11
  refine lv_aload_n hx hb d_Model_init_105 rfl (lv_at hl 0 rfl) ?_
  refine lv_bipush (v := 12) hx hb d_Model_init_106 (by decide) ?_
  refine md_step (N' := 12) hx hb hts hown hnm hK hbh 12 0 50 (by decide) rfl (ty := .int) rfl ac_int (fun _ q => q) rfl rfl rfl (by decide) rfl (by decide) ⟨Nat.le_of_ble_eq_true rfl, Nat.le_of_ble_eq_true rfl⟩ fl_Model_50 ⟨rfl, rfl, by decide +kernel⟩ d_Model_init_108 d_Model_init_110 hI (fun H12 L12 hI12 => ?_)
  clear hI
  have hI : md_I D cA b h 13 s H12 L12 := hI12
  clear hI12
  refine lv_aload_n hx hb d_Model_init_113 rfl (lv_at hl 0 rfl) ?_
  refine lv_bipush (v := 12) hx hb d_Model_init_114 (by decide) ?_
  refine md_step (N' := 12) hx hb hts hown hnm hK hbh 13 0 53 (by decide) rfl (ty := .int) rfl ac_int (fun _ q => q) rfl rfl rfl (by decide) rfl (by decide) ⟨Nat.le_of_ble_eq_true rfl, Nat.le_of_ble_eq_true rfl⟩ fl_Model_53 ⟨rfl, rfl, by decide +kernel⟩ d_Model_init_116 d_Model_init_118 hI (fun H13 L13 hI13 => ?_)
  clear hI
  have hI : md_I D cA b h 14 s H13 L13 := hI13
  clear hI13
  refine lv_aload_n hx hb d_Model_init_121 rfl (lv_at hl 0 rfl) ?_
  refine lv_bipush (v := 12) hx hb d_Model_init_122 (by decide) ?_
  refine md_step (N' := 12) hx hb hts hown hnm hK hbh 14 0 56 (by decide) rfl (ty := .int) rfl ac_int (fun _ q => q) rfl rfl rfl (by decide) rfl (by decide) ⟨Nat.le_of_ble_eq_true rfl, Nat.le_of_ble_eq_true rfl⟩ fl_Model_56 ⟨rfl, rfl, by decide +kernel⟩ d_Model_init_124 d_Model_init_126 hI (fun H14 L14 hI14 => ?_)
  clear hI
  have hI : md_I D cA b h 15 s H14 L14 := hI14
  clear hI14
  refine lv_aload_n hx hb d_Model_init_129 rfl (lv_at hl 0 rfl) ?_
  refine lv_bipush (v := 12) hx hb d_Model_init_130 (by decide) ?_
  refine md_step (N' := 12) hx hb hts hown hnm hK hbh 15 0 59 (by decide) rfl (ty := .int) rfl ac_int (fun _ q => q) rfl rfl rfl (by decide) rfl (by decide) ⟨Nat.le_of_ble_eq_true rfl, Nat.le_of_ble_eq_true rfl⟩ fl_Model_59 ⟨rfl, rfl, by decide +kernel⟩ d_Model_init_132 d_Model_init_134 hI (fun H15 L15 hI15 => ?_)
  clear hI
  have hI : md_I D cA b h 16 s H15 L15 := hI15
  clear hI15
  refine lv_aload_n hx hb d_Model_init_137 rfl (lv_at hl 0 rfl) ?_
  refine lv_bipush (v := 12) hx hb d_Model_init_138 (by decide) ?_
  refine md_step (N' := 12) hx hb hts hown hnm hK hbh 16 4 62 (by decide) rfl (ty := .boolean) rfl ac_bool (fun _ q => q) rfl rfl rfl (by decide) rfl (by decide) ⟨Nat.le_of_ble_eq_true rfl, Nat.le_of_ble_eq_true rfl⟩ fl_Model_62 ⟨rfl, rfl, by decide +kernel⟩ d_Model_init_140 d_Model_init_142 hI (fun H16 L16 hI16 => ?_)
  clear hI
  have hI : md_I D cA b h 17 s H16 L16 := hI16
  clear hI16
  refine lv_aload_n hx hb d_Model_init_145 rfl (lv_at hl 0 rfl) ?_
  refine lv_iconst (v := 4) hx hb d_Model_init_146 (by decide) ?_
  refine md_step (N' := 4) hx hb hts hown hnm hK hbh 17 0 66 (by decide) rfl (ty := .int) rfl ac_int (fun _ q => q) rfl rfl rfl (by decide) rfl (by decide) ⟨Nat.le_of_ble_eq_true rfl, Nat.le_of_ble_eq_true rfl⟩ fl_Model_66 ⟨rfl, rfl, by decide +kernel⟩ d_Model_init_147 d_Model_init_149 hI (fun H17 L17 hI17 => ?_)
  clear hI
  have hI : md_I D cA b h 18 s H17 L17 := hI17
  clear hI17
  refine lv_aload_n hx hb d_Model_init_152 rfl (lv_at hl 0 rfl) ?_
  refine lv_bipush (v := 64) hx hb d_Model_init_153 (by decide) ?_
  refine md_step (N' := 64) hx hb hts hown hnm hK hbh 18 0 69 (by decide) rfl (ty := .int) rfl ac_int (fun _ q => q) rfl rfl rfl (by decide) rfl (by decide) ⟨Nat.le_of_ble_eq_true rfl, Nat.le_of_ble_eq_true rfl⟩ fl_Model_69 ⟨rfl, rfl, by decide +kernel⟩ d_Model_init_155 d_Model_init_157 hI (fun H18 L18 hI18 => ?_)
  clear hI
  have hI : md_I D cA b h 19 s H18 L18 := hI18
  clear hI18
  refine lv_aload_n hx hb d_Model_init_160 rfl (lv_at hl 0 rfl) ?_
  refine lv_bipush (v := 64) hx hb d_Model_init_161 (by decide) ?_
  refine md_step (N' := 64) hx hb hts hown hnm hK hbh 19 0 72 (by decide) rfl (ty := .int) rfl ac_int (fun _ q => q) rfl rfl rfl (by decide) rfl (by decide) ⟨Nat.le_of_ble_eq_true rfl, Nat.le_of_ble_eq_true rfl⟩ fl_Model_72 ⟨rfl, rfl, by decide +kernel⟩ d_Model_init_163 d_Model_init_165 hI (fun H19 L19 hI19 => ?_)
  clear hI
  have hI : md_I D cA b h 20 s H19 L19 := hI19
  clear hI19
  refine lv_aload_n hx hb d_Model_init_168 rfl (lv_at hl 0 rfl) ?_
  refine lv_bipush (v := 64) hx hb d_Model_init_169 (by decide) ?_
  refine md_step (N' := 64) hx hb hts hown hnm hK hbh 20 0 75 (by decide) rfl (ty := .int) rfl ac_int (fun _ q => q) rfl rfl rfl (by decide) rfl (by decide) ⟨Nat.le_of_ble_eq_true rfl, Nat.le_of_ble_eq_true rfl⟩ fl_Model_75 ⟨rfl, rfl, by decide +kernel⟩ d_Model_init_171 d_Model_init_173 hI (fun H20 L20 hI20 => ?_)
  clear hI
  have hI : md_I D cA b h 21 s H20 L20 := hI20
  clear hI20
  refine lv_aload_n hx hb d_Model_init_176 rfl (lv_at hl 0 rfl) ?_
  refine lv_bipush (v := 64) hx hb d_Model_init_177 (by decide) ?_
  refine md_step (N' := 64) hx hb hts hown hnm hK hbh 21 0 78 (by decide) rfl (ty := .int) rfl ac_int (fun _ q => q) rfl rfl rfl (by decide) rfl (by decide) ⟨Nat.le_of_ble_eq_true rfl, Nat.le_of_ble_eq_true rfl⟩ fl_Model_78 ⟨rfl, rfl, by decide +kernel⟩ d_Model_init_179 d_Model_init_181 hI (fun H21 L21 hI21 => ?_)
  clear hI
  have hI : md_I D cA b h 22 s H21 L21 := hI21
  clear hI21
  refine lv_aload_n hx hb d_Model_init_184 rfl (lv_at hl 0 rfl) ?_
  refine lv_bipush (v := 64) hx hb d_Model_init_185 (by decide) ?_
  refine md_step (N' := 64) hx hb hts hown hnm hK hbh 22 0 81 (by decide) rfl (ty := .int) rfl ac_int (fun _ q => q) rfl rfl rfl (by decide) rfl (by decide) ⟨Nat.le_of_ble_eq_true rfl, Nat.le_of_ble_eq_true rfl⟩ fl_Model_81 ⟨rfl, rfl, by decide +kernel⟩ d_Model_init_187 d_Model_init_189 hI (fun H22 L22 hI22 => ?_)
  clear hI
  have hI : md_I D cA b h 23 s H22 L22 := hI22
  clear hI22
  refine lv_aload_n hx hb d_Model_init_192 rfl (lv_at hl 0 rfl) ?_
  refine lv_bipush (v := 64) hx hb d_Model_init_193 (by decide) ?_
  refine md_step (N' := 64) hx hb hts hown hnm hK hbh 23 0 84 (by decide) rfl (ty := .int) rfl ac_int (fun _ q => q) rfl rfl rfl (by decide) rfl (by decide) ⟨Nat.le_of_ble_eq_true rfl, Nat.le_of_ble_eq_true rfl⟩ fl_Model_84 ⟨rfl, rfl, by decide +kernel⟩ d_Model_init_195 d_Model_init_197 hI (fun H23 L23 hI23 => ?_)
  clear hI
  have hI : md_I D cA b h 24 s H23 L23 := hI23
  clear hI23
  refine lv_aload_n hx hb d_Model_init_200 rfl (lv_at hl 0 rfl) ?_
  refine lv_bipush (v := 64) hx hb d_Model_init_201 (by decide) ?_
  refine md_step (N' := 64) hx hb hts hown hnm hK hbh 24 4 87 (by decide) rfl (ty := .boolean) rfl ac_bool (fun _ q => q) rfl rfl rfl (by decide) rfl (by decide) ⟨Nat.le_of_ble_eq_true rfl, Nat.le_of_ble_eq_true rfl⟩ fl_Model_87 ⟨rfl, rfl, by decide +kernel⟩ d_Model_init_203 d_Model_init_205 hI (fun H24 L24 hI24 => ?_)
  clear hI
  have hI : md_I D cA b h 25 s H24 L24 := hI24
  clear hI24
  refine lv_aload_n hx hb d_Model_init_208 rfl (lv_at hl 0 rfl) ?_
  refine lv_bipush (v := 64) hx hb d_Model_init_209 (by decide) ?_
  refine md_step (N' := 64) hx hb hts hown hnm hK hbh 25 4 90 (by decide) rfl (ty := .boolean) rfl ac_bool (fun _ q => q) rfl rfl rfl (by decide) rfl (by decide) ⟨Nat.le_of_ble_eq_true rfl, Nat.le_of_ble_eq_true rfl⟩ fl_Model_90 ⟨rfl, rfl, by decide +kernel⟩ d_Model_init_211 d_Model_init_213 hI (fun H25 L25 hI25 => ?_)
  clear hI
  have hI : md_I D cA b h 26 s H25 L25 := hI25
  clear hI25
  refine lv_aload_n hx hb d_Model_init_216 rfl (lv_at hl 0 rfl) ?_
  refine lv_bipush (v := 60) hx hb d_Model_init_217 (by decide) ?_
  refine md_step (N' := 60) hx hb hts hown hnm hK hbh 26 0 93 (by decide) rfl (ty := .int) rfl ac_int (fun _ q => q) rfl rfl rfl (by decide) rfl (by decide) ⟨Nat.le_of_ble_eq_true rfl, Nat.le_of_ble_eq_true rfl⟩ fl_Model_93 ⟨rfl, rfl, by decide +kernel⟩ d_Model_init_219 d_Model_init_221 hI (fun H26 L26 hI26 => ?_)
  clear hI
  have hI : md_I D cA b h 27 s H26 L26 := hI26
  clear hI26
  refine lv_aload_n hx hb d_Model_init_224 rfl (lv_at hl 0 rfl) ?_
  refine lv_bipush (v := 30) hx hb d_Model_init_225 (by decide) ?_
  refine md_step (N' := 30) hx hb hts hown hnm hK hbh 27 0 96 (by decide) rfl (ty := .int) rfl ac_int (fun _ q => q) rfl rfl rfl (by decide) rfl (by decide) ⟨Nat.le_of_ble_eq_true rfl, Nat.le_of_ble_eq_true rfl⟩ fl_Model_96 ⟨rfl, rfl, by decide +kernel⟩ d_Model_init_227 d_Model_init_229 hI (fun H27 L27 hI27 => ?_)
  clear hI
  have hI : md_I D cA b h 28 s H27 L27 := hI27
  clear hI27
  obtain ⟨hO, hz, hk, hF, hS'⟩ := hI
  exact W.vret hx hb hr (fun t ht _ => ⟨rfl, by rw [ht]; exact ⟨hO, hF⟩, (congrArg Array.size ht).trans hz, fun q h1 h2 => (congrArg (fun z : Heap => z[q]?) ht).trans (hk q h1 h2)⟩) hS'.2.2 d_Model_init_232 hlk
