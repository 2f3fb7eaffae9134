section TYK2
variable {cn : Nat → Nat} {p : Program} {l : Launch} {e : Env} {R : Room} {s : State} {m : MethodId} {args : Array Value} {below : List Frame} {meth : Method} {c : Code} {D : va_G} {ad : Nat → Nat → Nat} {cA : Nat → ClassId} {G : Heap → List Loc → Prop} {nL : Nat} {Q : State → Prop} {own : String} {cc : ByteArray} {σ : ty_St} {loc : List (Option ty_SV)} {pc : Nat} {st : List ty_SV}
theorem v_aaloadK (C : ty_CX cn p s m args meth c D ad cA own cc nL) {a i t n b k : Nat} {x : Int32} {Cn : String} (hki : ty_ki a i = .inr (t, n, some b)) (ht : (ty_tys cA)[t]? = some (cA t, .object Cn)) (hnb : n ≤ cn b) (hx : x = nI k) (hk : k < n) (hn : n < 2 ^ 31) (d : decode cc pc = .ok (.aaload, 1)) (kk : ty_V cn p l e R s m args below meth c D ad cA G nL Q σ loc (pc + 1) (.inr (b, k) :: st)) : ty_V cn p l e R s m args below meth c D ad cA G nL Q σ loc (pc) (.inl x :: .inr (a, i) :: st) := by
  subst hx
  refine v_aaload C hki ht hnb (vp_in_nI hk hn) d ?_
  rw [nI_clamp (by omega)]; exact kk
theorem v_ialoadK (C : ty_CX cn p s m args meth c D ad cA own cc nL) {a i t n k : Nat} {x : Int32} (hki : ty_ki a i = .inr (t, n, none)) (ht : (ty_tys cA)[t]? = some (cA t, .int)) (hx : x = nI k) (hk : k < n) (hn : n < 2 ^ 31) (d : decode cc pc = .ok (.iaload, 1)) (kk : ty_V cn p l e R s m args below meth c D ad cA G nL Q σ loc (pc + 1) (.inl (σ a i k) :: st)) : ty_V cn p l e R s m args below meth c D ad cA G nL Q σ loc (pc) (.inl x :: .inr (a, i) :: st) := by
  subst hx
  refine v_iaload C hki ht (vp_in_nI hk hn) d ?_
  rw [nI_clamp (by omega)]; exact kk
theorem v_baloadK (C : ty_CX cn p s m args meth c D ad cA own cc nL) {a i t n k : Nat} {x : Int32} (hki : ty_ki a i = .inr (t, n, none)) (ht : (ty_tys cA)[t]? = some (cA t, .boolean)) (hx : x = nI k) (hk : k < n) (hn : n < 2 ^ 31) (d : decode cc pc = .ok (.baload, 1)) (kk : ty_V cn p l e R s m args below meth c D ad cA G nL Q σ loc (pc + 1) (.inl (σ a i k) :: st)) : ty_V cn p l e R s m args below meth c D ad cA G nL Q σ loc (pc) (.inl x :: .inr (a, i) :: st) := by
  subst hx
  refine v_baload C hki ht (vp_in_nI hk hn) d ?_
  rw [nI_clamp (by omega)]; exact kk
theorem v_iastoreK (C : ty_CX cn p s m args meth c D ad cA own cc nL) {a i t n k : Nat} {x y : Int32} (hki : ty_ki a i = .inr (t, n, none)) (ht : (ty_tys cA)[t]? = some (cA t, .int)) (hx : x = nI k) (hk : k < n) (hn : n < 2 ^ 31) (d : decode cc pc = .ok (.iastore, 1)) (kk : ty_V cn p l e R s m args below meth c D ad cA (ty_Gd cn ad s) nL Q (ty_up σ a i k y) loc (pc + 1) (st)) : ty_V cn p l e R s m args below meth c D ad cA (ty_Gd cn ad s) nL Q σ loc (pc) (.inl y :: .inl x :: .inr (a, i) :: st) := by
  subst hx
  refine v_iastore C hki ht (vp_in_nI hk hn) d ?_
  rw [nI_clamp (by omega)]; exact kk
theorem v_bastoreK (C : ty_CX cn p s m args meth c D ad cA own cc nL) {a i t n k : Nat} {x y : Int32} (hki : ty_ki a i = .inr (t, n, none)) (ht : (ty_tys cA)[t]? = some (cA t, .boolean)) (hx : x = nI k) (hk : k < n) (hn : n < 2 ^ 31) (hy : narrow .boolean (.int y) = .int y) (d : decode cc pc = .ok (.bastore, 1)) (kk : ty_V cn p l e R s m args below meth c D ad cA (ty_Gd cn ad s) nL Q (ty_up σ a i k y) loc (pc + 1) (st)) : ty_V cn p l e R s m args below meth c D ad cA (ty_Gd cn ad s) nL Q σ loc (pc) (.inl y :: .inl x :: .inr (a, i) :: st) := by
  subst hx
  refine v_bastore C hki ht (vp_in_nI hk hn) hy d ?_
  rw [nI_clamp (by omega)]; exact kk
end TYK2
