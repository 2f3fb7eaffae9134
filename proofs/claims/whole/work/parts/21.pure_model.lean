/-! WHAT THE REFERENCE'S METHODS DO. Kind 20: err 0, tests 1, workers 2, time 3, noted 4, warned 5, left 6, most 7, threads 8, passed 9. Arrays: ops 21, as 22, sizes 23, ends 24, program 25, timeout 26, reading 27, writing 28, verdict 29, with 30, began 31, told 32, worker 33, leader 34, died 35, many 36, abandoned 37, takes 38, test 39, starter 40, code 41, at 42, state 43, until 44, marked 45, keeps 46, notes 47, warnings 48 -/
theorem layM : ∀ a i ci fl, ty_ki a i = .inl (ci, fl) → ∀ b z, some (b, z) ∈ fl → i < cnM a → z.getD i < cnM b := by
  intro a i ci fl h b z hm hi
  unfold ty_ki at h
  split at h <;> cases h
  · simp [cnM] at hi
  · simp [cnM] at hi
  · simp [cnM] at hi
  · simp [cnM] at hi
  · simp [cnM] at hi
  · simp [cnM] at hi
  · simp only [List.mem_cons, List.not_mem_nil, or_false, reduceCtorEq, Option.some.injEq, Prod.mk.injEq, false_or] at hm
    have hz : z = some 0 := by
      rcases hm with ⟨_, h⟩ | ⟨_, h⟩ | ⟨_, h⟩ | ⟨_, h⟩ | ⟨_, h⟩ | ⟨_, h⟩ | ⟨_, h⟩ | ⟨_, h⟩ | ⟨_, h⟩ | ⟨_, h⟩ | ⟨_, h⟩ | ⟨_, h⟩ | ⟨_, h⟩ | ⟨_, h⟩ | ⟨_, h⟩ | ⟨_, h⟩ | ⟨_, h⟩ | ⟨_, h⟩ | ⟨_, h⟩ | ⟨_, h⟩ | ⟨_, h⟩ | ⟨_, h⟩ | ⟨_, h⟩ | ⟨_, h⟩ | ⟨_, h⟩ | ⟨_, h⟩ | ⟨_, h⟩ | ⟨_, h⟩ <;> exact h
    have hb : 21 ≤ b ∧ b < 49 := by omega
    rw [hz]
    show 0 < cnM b
    unfold cnM
    rw [if_pos (by omega)]
    omega
def gLeast (a b : Int32) : Int32 := if a < b then a else b
def gJudged (τ : ty_St) (t : Nat) (v why : Int32) : ty_St := ty_up (ty_up (ty_up τ 29 0 t v) 30 0 t why) 32 0 t (τ 20 0 3)
def gWarns (τ : ty_St) (t why : Int32) : ty_St :=
  let τ1 := if τ 20 0 5 < 8 then ty_up τ 48 0 (nn (τ 20 0 5)) (1000 * t + why) else τ
  ty_up τ1 20 0 5 (τ1 20 0 5 + 1)
def gEnds (τ : ty_St) (h : Nat) (why : Int32) : ty_St :=
  if ¬ τ 29 0 (nn (τ 39 0 h)) = 0 then (if 0 ≤ why ∧ τ 46 0 h = 0 then gWarns (ty_up τ 43 0 h 5) (τ 39 0 h) why else ty_up τ 43 0 h 5)
  else if τ 34 0 (nn (τ 39 0 h)) = nI h then
    gJudged (ty_up τ 43 0 h 5) (nn (τ 39 0 h)) (if 0 ≤ (if 0 ≤ why then why else τ 35 0 (nn (τ 39 0 h))) then 2 else 1) (if 0 ≤ why then why else τ 35 0 (nn (τ 39 0 h)))
  else if 0 ≤ why ∧ τ 46 0 h = 0 ∧ τ 35 0 (nn (τ 39 0 h)) < 0 then ty_up (ty_up τ 43 0 h 5) 35 0 (nn (τ 39 0 h)) why else ty_up τ 43 0 h 5
def gStarts (τ : ty_St) (t : Nat) (q b : Int32) : ty_St :=
  let h := nn (τ 20 0 8)
  ty_up (ty_up (ty_up (ty_up (ty_up (ty_up (ty_up (ty_up (ty_up τ 20 0 8 (τ 20 0 8 + 1)) 39 0 h (nI t)) 40 0 h b) 41 0 h q) 42 0 h 0) 43 0 h 0) 45 0 h 0) 46 0 h 0) 36 0 t (τ 36 0 t + 1)
def gGin (τ : ty_St) (p k : Nat) (e : Int32) : Nat → Int32
  | 0 => e
  | o + 1 => if τ 21 0 (10 * p + o) = 4 ∧ nI k ≤ τ 24 0 (10 * p + o) then gLeast (gGin τ p k e o) (τ 24 0 (10 * p + o)) else gGin τ p k e o
def gG1 (τ : ty_St) (p k : Nat) : ty_St := if τ 21 0 (10 * p + k) = 4 then ty_up τ 24 0 (10 * p + k) (gGin τ p k (gLeast (nI k + τ 22 0 (10 * p + k)) (τ 23 0 p - 1)) k) else τ
def gGp (τ : ty_St) (p : Nat) : Nat → ty_St
  | 0 => τ
  | k + 1 => gG1 (gGp τ p k) p k
def gGs (τ : ty_St) : Nat → ty_St
  | 0 => τ
  | p + 1 => gGp (gGs τ p) p (nn (τ 23 0 p))
def gInner (τ : ty_St) (b : Nat) (pl : Int32) : Nat → Int32
  | 0 => -1
  | g + 1 => if τ 21 0 (b + g) = 4 ∧ pl ≤ τ 24 0 (b + g) then nI g else gInner τ b pl g
def gInterrupts (τ : ty_St) (h pl : Nat) : ty_St :=
  if gInner τ (10 * nn (τ 41 0 h)) (nI pl) pl < 0 then gEnds (ty_up τ 45 0 h 0) h 100
  else ty_up (ty_up (ty_up τ 45 0 h 0) 43 0 h 0) 42 0 h (τ 24 0 (10 * nn (τ 41 0 h) + nn (gInner τ (10 * nn (τ 41 0 h)) (nI pl) pl)) + 1)
def gJoined (τ : ty_St) (h : Nat) : Nat → Bool
  | 0 => true
  | o + 1 => gJoined τ h o && !decide (τ 40 0 o = nI h ∧ ¬ τ 43 0 o = 5)
def gSays (τ : ty_St) (h : Nat) (n : Int32) : ty_St :=
  let τ1 := if τ 20 0 4 < 12 then ty_up τ 47 0 (nn (τ 20 0 4)) (100 * τ 39 0 h + n) else τ
  ty_up τ1 20 0 4 (τ1 20 0 4 + 1)
def gWaits (τ : ty_St) (h : Nat) (how ticks : Int32) : ty_St :=
  if ¬ how = 1 ∧ ¬ τ 45 0 h = 0 then gInterrupts τ h (nn (τ 42 0 h - 1)) else ty_up (ty_up τ 43 0 h how) 44 0 h (τ 20 0 3 + ticks)
def gMarks (τ : ty_St) (h : Nat) : Nat → ty_St
  | 0 => τ
  | o + 1 => if (gMarks τ h o) 40 0 o = nI h ∧ ¬ (gMarks τ h o) 43 0 o = 5 then ty_up (gMarks τ h o) 45 0 o 1 else gMarks τ h o
def gAct (τ : ty_St) (h : Nat) (op a : Int32) : ty_St :=
  if op = 0 then gWaits τ h 1 a else if op = 1 then gWaits τ h 2 a else if op = 2 then gWaits τ h 3 0 else if op = 3 then gEnds τ h a
  else if op = 5 then (if τ 20 0 8 < 40 then gStarts τ (nn (τ 39 0 h)) a (nI h) else τ)
  else if op = 6 then gSays τ h a
  else if op = 7 then (if τ 45 0 h = 0 ∧ gJoined τ h (nn (τ 20 0 8)) = true then τ else gWaits τ h 4 0)
  else if op = 8 then ty_up (gSays τ h (if ¬ τ 45 0 h = 0 then 1 else 0)) 45 0 h 0
  else if op = 9 then ty_up τ 46 0 h 1
  else if op = 10 then gEnds τ h (-1)
  else if op = 11 then gMarks τ h (nn (τ 20 0 8))
  else τ
def gActs (τ : ty_St) (h k : Nat) : ty_St := gAct (ty_up τ 42 0 h (τ 42 0 h + 1)) h (τ 21 0 k) (τ 22 0 k)
def gTurn0 (τ : ty_St) (h : Nat) : ty_St :=
  if ¬ τ 43 0 h = 0 ∧ ¬ τ 43 0 h = 1 ∧ ¬ τ 45 0 h = 0 then gInterrupts τ h (nn (τ 42 0 h - 1))
  else if ((τ 43 0 h = 1 ∨ τ 43 0 h = 2) ∧ τ 44 0 h ≤ τ 20 0 3) ∨ (τ 43 0 h = 4 ∧ gJoined τ h (nn (τ 20 0 8)) = true) then ty_up τ 43 0 h 0 else τ
def gStep (τ : ty_St) (h : Nat) : ty_St :=
  if τ 23 0 (nn (τ 41 0 h)) ≤ τ 42 0 h then gEnds τ h (-1) else gActs τ h (10 * nn (τ 41 0 h) + nn (τ 42 0 h))
def gLoop (h : Nat) : Nat → ty_St → ty_St
  | 0, τ => τ
  | k + 1, τ => if τ 43 0 h = 0 then gLoop h k (gStep τ h) else τ
def gTurn (τ : ty_St) (h : Nat) : ty_St := gLoop h 12 (gTurn0 τ h)
def gFree (τ : ty_St) (w : Nat) : Bool :=
  decide (τ 38 0 w < 0 ∨ τ 43 0 (nn (τ 34 0 (nn (τ 38 0 w)))) = 5 ∨ (τ 29 0 (nn (τ 38 0 w)) = 3 ∧ τ 32 0 (nn (τ 38 0 w)) + 3 ≤ τ 20 0 3))
def gCan (τ : ty_St) (t : Nat) : Nat → Bool
  | 0 => true
  | o + 1 => gCan τ t o && !decide ((0 ≤ τ 31 0 o ∧ τ 29 0 o = 0) ∧ (¬ τ 28 0 t &&& (τ 27 0 o ||| τ 28 0 o) = 0 ∨ ¬ τ 27 0 t &&& τ 28 0 o = 0))
/-- the first of the tests from i on, k of them -/
def gNext (τ : ty_St) (n : Nat) : Nat → Nat → Int32
  | 0, _ => -1
  | k + 1, i => if τ 31 0 i < 0 ∧ gCan τ i n = true then nI i else gNext τ n k (i + 1)
def gLook1 (τ : ty_St) (t : Nat) : ty_St :=
  if 0 ≤ τ 31 0 t ∧ τ 29 0 t = 0 ∧ 0 < τ 26 0 t ∧ τ 31 0 t + τ 26 0 t ≤ τ 20 0 3 then ty_up (gJudged τ t 3 (-1)) 45 0 (nn (τ 34 0 t)) 1 else τ
def gLooks (τ : ty_St) : Nat → ty_St
  | 0 => τ
  | n + 1 => gLook1 (gLooks τ n) n
def gAband1 (τ : ty_St) (w : Nat) : ty_St :=
  if 0 ≤ τ 38 0 w ∧ gFree τ w = true ∧ ¬ τ 43 0 (nn (τ 34 0 (nn (τ 38 0 w)))) = 5 then ty_up τ 37 0 (nn (τ 38 0 w)) 1 else τ
def gAband (τ : ty_St) : Nat → ty_St
  | 0 => τ
  | n + 1 => gAband1 (gAband τ n) n
/-- the first free worker from i on, k of them; i + k if none -/
def gWorker (τ : ty_St) : Nat → Nat → Nat
  | 0, i => i
  | k + 1, i => if gFree τ i = true then i else gWorker τ k (i + 1)
def gBegin (τ : ty_St) (w t : Nat) : ty_St :=
  let τ1 := ty_up (ty_up (ty_up (ty_up τ 38 0 w (nI t)) 33 0 t (nI w)) 31 0 t (τ 20 0 3)) 35 0 t (-1)
  ty_up (gStarts τ1 t (τ 25 0 t) (-1)) 34 0 t (τ 20 0 8)
def gBegins : Nat → ty_St → ty_St
  | 0, τ => τ
  | k + 1, τ =>
    if gWorker τ (nn (τ 20 0 2)) 0 < nn (τ 20 0 2) ∧ 0 ≤ gNext τ (nn (τ 20 0 1)) (nn (τ 20 0 1)) 0 then
      gBegins k (gBegin τ (gWorker τ (nn (τ 20 0 2)) 0) (nn (gNext τ (nn (τ 20 0 1)) (nn (τ 20 0 1)) 0)))
    else τ
def gNow (τ : ty_St) : Nat → Int32
  | 0 => 0
  | n + 1 => if 0 ≤ τ 31 0 n ∧ τ 29 0 n = 0 then gNow τ n + 1 else gNow τ n
