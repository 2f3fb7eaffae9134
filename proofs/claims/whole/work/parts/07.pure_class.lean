/-! WHAT THE CLASS'S METHODS DO, as functions of its ints. Kinds: 0 yard, 1 course, 2 program, 3 trial, 4 strand, 5 log, 6 ops, 7 arguments, 8 guardEnds, 9 kept, 10 trialOfWorker -/
abbrev nn (x : Int32) : Nat := x.toNatClampNeg
def kIn (x lo hi : Int32) : Int32 := if lo ≤ x ∧ x ≤ hi then 1 else 0
def kAct (op a : Int32) : Int32 :=
  if op = 0 ∨ op = 1 then kIn a 1 20 else if op = 3 ∨ op = 6 then kIn a 0 99 else if op = 4 ∨ op = 5 then kIn a 0 9 else kIn op 0 11
/-- the end of the innermost guard among the first n places that reaches beyond z -/
def kEga (g : Nat → Int32) (z : Int32) : Nat → Int32
  | 0 => -1
  | n + 1 => if z < g n then g n else kEga g z n
def kGuard (g : Nat → Int32) (z len : Int32) : Int32 := if kEga g z (nn z) = -1 then z + 1 + len else if kEga g z (nn z) < z + 1 + len then kEga g z (nn z) else z + 1 + len
def kAdd (σ : ty_St) (q : Nat) (op a : Int32) : ty_St :=
  let n := nn (σ 2 q 3)
  ty_up (ty_up (ty_up (ty_up σ 6 q n op) 7 q n a) 8 q n (if op = 4 then kGuard (σ 8 q) (σ 2 q 3) a else 0)) 2 q 3 (σ 2 q 3 + 1)
def kDef (σ : ty_St) (t : Nat) (p to r w : Int32) : ty_St := ty_up (ty_up (ty_up (ty_up σ 3 t 0 p) 3 t 1 to) 3 t 2 r) 3 t 3 w
def kForgetT (σ : ty_St) (t : Nat) : ty_St :=
  ty_up (ty_up (ty_up (ty_up (ty_up (ty_up (ty_up (ty_up (ty_up σ 3 t 4 0) 3 t 5 (-1)) 3 t 6 (-1)) 3 t 7 (-1)) 3 t 8 (-1)) 3 t 9 0) 3 t 10 0) 3 t 11 (-1)) 3 t 12 (-1)
def kRunning (σ : ty_St) (t : Nat) : Int32 := if ¬ σ 3 t 6 = -1 ∧ σ 3 t 4 = 0 then 1 else 0
def kOverruns (σ : ty_St) (t : Nat) (time : Int32) : Int32 := if (¬ σ 3 t 6 = -1 ∧ σ 3 t 4 = 0) ∧ ¬ σ 3 t 1 = 0 ∧ σ 3 t 6 + σ 3 t 1 ≤ time then 1 else 0
def kHinders (σ : ty_St) (t u : Nat) : Int32 := if ¬ σ 3 t 3 &&& (σ 3 u 2 ||| σ 3 u 3) = 0 ∨ ¬ σ 3 t 2 &&& σ 3 u 3 = 0 then 1 else 0
def kDecide (σ : ty_St) (t : Nat) (v time : Int32) : ty_St := ty_up (ty_up σ 3 t 4 v) 3 t 7 time
def kByDeath (σ : ty_St) (t : Nat) (death time : Int32) : ty_St :=
  let f := if ¬ death = -1 then death else σ 3 t 12
  kDecide (ty_up σ 3 t 5 f) t (if ¬ f = -1 then 2 else 1) time
def kStart (σ : ty_St) (n : Nat) (p t st : Int32) : ty_St :=
  ty_up (ty_up (ty_up (ty_up (ty_up (ty_up (ty_up (ty_up (ty_up (ty_up σ 4 n 0 p) 4 n 1 t) 4 n 2 st) 4 n 3 0) 4 n 4 0) 4 n 5 0) 4 n 6 0) 4 n 7 0) 4 n 8 0) 4 n 9 (-1)
def kEnd (σ : ty_St) (n : Nat) (d : Int32) : ty_St := ty_up (ty_up σ 4 n 8 1) 4 n 9 d
def kTake (σ : ty_St) (n : Nat) : ty_St := ty_up σ 4 n 6 0
/-- the log i (0: the notes, 12 are kept; 1: the warnings, 8) is told x -/
def kCap (i : Nat) : Int32 := if i = 0 then 12 else 8
def kLog (σ : ty_St) (i : Nat) (x : Int32) : ty_St :=
  let σ1 := if σ 5 i 1 < kCap i then ty_up σ 9 i (nn (σ 5 i 1)) x else σ
  ty_up σ1 5 i 1 (σ1 5 i 1 + 1)
def kKeeps (σ : ty_St) (i : Nat) (k : Int32) : Int32 := if 0 ≤ k ∧ k < σ 5 i 1 ∧ k < kCap i then 1 else 0
/-- the first n of the trials that the run has: all passed -/
def kAllPassed (σ : ty_St) : Nat → Bool
  | 0 => true
  | n + 1 => kAllPassed σ n && decide (σ 3 n 4 = 1)
def kForgets (σ : ty_St) : Nat → ty_St
  | 0 => σ
  | n + 1 => kForgetT (kForgets σ n) n
def kFreeW (σ : ty_St) : Nat → ty_St
  | 0 => σ
  | n + 1 => ty_up (kFreeW σ n) 10 0 n (-1)
def kForgetRun (σ : ty_St) : ty_St :=
  ty_up (ty_up (ty_up (ty_up (ty_up (ty_up (kFreeW (kForgets σ (nn (σ 1 0 6))) 4) 5 0 1 0) 5 1 1 0) 1 0 8 0) 1 0 9 0) 1 0 10 0) 1 0 11 0
def kStop1 (σ : ty_St) (t : Nat) : ty_St :=
  if kOverruns σ t (σ 1 0 11) = 1 then ty_up (kDecide σ t 3 (σ 1 0 11)) 4 (nn (σ 3 t 11)) 6 1 else σ
def kStop (σ : ty_St) : Nat → ty_St
  | 0 => σ
  | n + 1 => kStop1 (kStop σ n) n
def kReleaseIf (σ : ty_St) (w : Nat) (t : Nat) : ty_St :=
  if ¬ σ 4 (nn (σ 3 t 11)) 8 = 0 then ty_up σ 10 0 w (-1)
  else if σ 3 t 4 = 3 ∧ 3 ≤ σ 1 0 11 - σ 3 t 7 then ty_up (ty_up σ 3 t 9 1) 10 0 w (-1) else σ
def kRelease1 (σ : ty_St) (w : Nat) : ty_St := if ¬ σ 10 0 w = -1 then kReleaseIf σ w (nn (σ 10 0 w)) else σ
def kRelease (σ : ty_St) : Nat → ty_St
  | 0 => σ
  | n + 1 => kRelease1 (kRelease σ n) n
/-- the lowest free worker from i on, of n -/
def kLowest (σ : ty_St) : Nat → Nat → Int32
  | 0, _ => -1
  | k + 1, i => if σ 10 0 i = -1 then nI i else kLowest σ k (i + 1)
/-- nobody among the first n hinders t -/
def kCan (σ : ty_St) (t : Nat) : Nat → Bool
  | 0 => true
  | n + 1 => kCan σ t n && !decide (kRunning σ n = 1 ∧ kHinders σ n t = 1)
def kStartS (σ : ty_St) (p t st : Int32) : ty_St :=
  if σ 1 0 8 < 52 then
    let σ1 := kStart σ (nn (σ 1 0 8)) p t st
    let σ2 := ty_up σ1 1 0 8 (σ1 1 0 8 + 1)
    ty_up σ2 3 (nn t) 10 (σ2 3 (nn t) 10 + 1)
  else σ
def kBegin (σ : ty_St) (t : Nat) (w : Int32) : ty_St :=
  let σ1 := ty_up (ty_up (ty_up σ 3 t 6 (σ 1 0 11)) 3 t 8 w) 3 t 11 (σ 1 0 8)
  let σ2 := ty_up σ1 10 0 (nn w) (nI t)
  kStartS σ2 (σ2 3 t 0) (nI t) (-1)
def kBegin1 (σ : ty_St) (i : Nat) : ty_St :=
  if ¬ kLowest σ (nn (σ 1 0 7)) 0 = -1 ∧ σ 3 i 6 = -1 ∧ kCan σ i (nn (σ 1 0 6)) = true then kBegin σ i (kLowest σ (nn (σ 1 0 7)) 0) else σ
def kBegins (σ : ty_St) : Nat → ty_St
  | 0 => σ
  | n + 1 => kBegin1 (kBegins σ n) n
def kCount (σ : ty_St) : Nat → Int32
  | 0 => 0
  | n + 1 => if kRunning σ n = 1 then kCount σ n + 1 else kCount σ n
def kDone (σ : ty_St) : Nat → Bool
  | 0 => true
  | n + 1 => kDone σ n && !decide (σ 3 n 4 = 0)
def kIdle (σ : ty_St) : Nat → Bool
  | 0 => true
  | n + 1 => kIdle σ n && decide (σ 10 0 n = -1)
def kFinished (σ : ty_St) : Bool := kDone σ (nn (σ 1 0 6)) && kIdle σ (nn (σ 1 0 7))
def kOver (σ : ty_St) (n : Nat) : Nat → Bool
  | 0 => true
  | k + 1 => kOver σ n k && !decide (σ 4 k 2 = nI n ∧ σ 4 k 8 = 0)
def kMark (σ : ty_St) (n : Nat) : Nat → ty_St
  | 0 => σ
  | k + 1 => if (kMark σ n k) 4 k 2 = nI n ∧ (kMark σ n k) 4 k 8 = 0 then ty_up (kMark σ n k) 4 k 6 1 else kMark σ n k
def kInterrupt (σ : ty_St) (n : Nat) : Int32 × ty_St :=
  let σ1 := ty_up σ 4 n 4 0
  let b := kEga (σ1 8 (nn (σ1 4 n 0))) (σ1 4 n 3) (nn (σ1 4 n 3))
  if b = -1 then (0, kEnd σ1 n 100) else (1, ty_up σ1 4 n 3 b)
def kAt (σ : ty_St) (n : Nat) : ty_St := ty_up σ 4 n 3 (σ 4 n 3 + 1)
def kWait0 (σ : ty_St) (n : Nat) (a : Int32) : ty_St := if σ 4 n 4 = 0 then ty_up (ty_up σ 4 n 4 1) 4 n 5 (σ 1 0 11 + a) else σ
def kReady (σ : ty_St) (n : Nat) (op : Int32) : Bool := if op = 7 then kOver σ n (nn (σ 1 0 8)) else decide (¬ op = 2 ∧ σ 4 n 5 ≤ σ 1 0 11)
def kWait1 (σ : ty_St) (n : Nat) (op : Int32) : Int32 × ty_St := if kReady σ n op = true then (1, kAt (ty_up σ 4 n 4 0) n) else (0, σ)
def kWait (σ : ty_St) (n : Nat) (op a : Int32) : Int32 × ty_St :=
  if op = 0 then kWait1 (kWait0 σ n a) n op
  else if ¬ (kWait0 σ n a) 4 n 6 = 0 then kInterrupt (kTake (kWait0 σ n a) n) n
  else kWait1 (kTake (kWait0 σ n a) n) n op
def kAtOnce (σ : ty_St) (n : Nat) (op a : Int32) : ty_St :=
  if op = 5 then (if σ 1 0 8 < 40 then kStartS σ a (σ 4 n 1) (nI n) else σ)
  else if op = 6 then kLog σ 0 (100 * σ 4 n 1 + a)
  else if op = 8 then kLog (kTake σ n) 0 (100 * σ 4 n 1 + (if ¬ σ 4 n 6 = 0 then 1 else 0))
  else if op = 9 then ty_up σ 4 n 7 1
  else if op = 11 then kMark σ n (nn (σ 1 0 8))
  else σ
def kAction (σ : ty_St) (n : Nat) : Int32 × ty_St :=
  let q := nn (σ 4 n 0)
  if σ 2 q 3 ≤ σ 4 n 3 then (0, kEnd σ n (-1))
  else
    let op := σ 6 q (nn (σ 4 n 3))
    let a := σ 7 q (nn (σ 4 n 3))
    if op = 0 ∨ op = 1 ∨ op = 2 ∨ op = 7 then kWait σ n op a
    else if op = 3 then (0, kEnd σ n a)
    else if op = 10 then (0, kEnd σ n (-1))
    else (1, kAt (kAtOnce σ n op a) n)
/-- at most k further actions of the strand n -/
def kSteps (n : Nat) : Nat → ty_St → ty_St
  | 0, σ => σ
  | k + 1, σ => if (kAction σ n).1 = 0 then (kAction σ n).2 else kSteps n k (kAction σ n).2
def kTell (σ : ty_St) (n : Nat) : ty_St :=
  let t := nn (σ 4 n 1)
  if ¬ σ 3 t 4 = 0 then (if ¬ σ 4 n 9 = -1 ∧ σ 4 n 7 = 0 then kLog σ 1 (1000 * σ 4 n 1 + σ 4 n 9) else σ)
  else if nI n = σ 3 t 11 then kByDeath σ t (σ 4 n 9) (σ 1 0 11)
  else if (¬ σ 4 n 9 = -1 ∧ σ 4 n 7 = 0) ∧ σ 3 t 12 = -1 then ty_up σ 3 t 12 (σ 4 n 9) else σ
def kTurn (σ : ty_St) (n : Nat) : ty_St := if ¬ (kSteps n 11 σ) 4 n 8 = 0 then kTell (kSteps n 11 σ) n else kSteps n 11 σ
def kTurns (σ : ty_St) : Nat → ty_St
  | 0 => σ
  | k + 1 => if (kTurns σ k) 4 k 8 = 0 then kTurn (kTurns σ k) k else kTurns σ k
def kUntried (σ : ty_St) : Nat → ty_St
  | 0 => σ
  | k + 1 => if (kUntried σ k) 3 k 4 = 0 then kDecide (kUntried σ k) k 4 (σ 1 0 11) else kUntried σ k
def kLeft (σ : ty_St) : Nat → ty_St
  | 0 => σ
  | k + 1 => if (kLeft σ k) 4 k 8 = 0 then ty_up (kLeft σ k) 1 0 9 ((kLeft σ k) 1 0 9 + 1) else kLeft σ k
def kLeave (σ : ty_St) : ty_St := kLeft (kUntried σ (nn (σ 1 0 6))) (nn (σ 1 0 8))
def kTick0 (σ : ty_St) : ty_St :=
  let σ1 := kStop σ (nn (σ 1 0 6))
  let σ2 := kRelease σ1 (nn (σ1 1 0 7))
  let σ3 := kBegins σ2 (nn (σ2 1 0 6))
  ty_up σ3 1 0 10 (if σ3 1 0 10 < kCount σ3 (nn (σ3 1 0 6)) then kCount σ3 (nn (σ3 1 0 6)) else σ3 1 0 10)
def kTick1 (σ : ty_St) : ty_St := let σ1 := kTurns σ (nn (σ 1 0 8)); ty_up σ1 1 0 11 (σ1 1 0 11 + 1)
def kTicks : Nat → ty_St → ty_St
  | 0, σ => σ
  | k + 1, σ => if kFinished (kTick0 σ) = true then kTick0 σ else kTicks k (kTick1 (kTick0 σ))
def kPerform (σ : ty_St) (tc wc : Int32) : ty_St := kLeave (kTicks 150 (kForgetRun (ty_up (ty_up σ 1 0 6 tc) 1 0 7 wc)))
