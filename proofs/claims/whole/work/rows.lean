section
-- ===== PART A: goes FIRST, ahead of the names: the tables' words, and 'selects' of the private methods out of them =====
/-- a private method of a class that the tables say can be made, by its rows of tables_1 -/
def lw_okq (q : MethodName × Nat) : Prop := (q.1.cls ≠ "java/lang/invoke/MethodHandle" ∧ q.1.cls ≠ "java/lang/invoke/VarHandle") ∧ Cond.instantiable q.1.cls q.2 ∈ tables_1 ∧ Cond.privateMethod q.1 ∈ tables_1 ∧ Cond.instanceMethod q.1 ∈ tables_1
theorem lw_p0 : lw_okq (⟨"TimeoutYard$Course", "forgetRun", "()V"⟩, 12) := ⟨⟨by decide +kernel, by decide +kernel⟩, List.mem_of_getElem? (i := 23) (by decide +kernel), List.mem_of_getElem? (i := 247) (by decide +kernel), List.mem_of_getElem? (i := 248) (by decide +kernel)⟩
theorem lw_p1 : lw_okq (⟨"TimeoutYard$Course", "stopOverruns", "()V"⟩, 12) := ⟨⟨by decide +kernel, by decide +kernel⟩, List.mem_of_getElem? (i := 23) (by decide +kernel), List.mem_of_getElem? (i := 252) (by decide +kernel), List.mem_of_getElem? (i := 253) (by decide +kernel)⟩
theorem lw_p2 : lw_okq (⟨"TimeoutYard$Course", "releaseWorkers", "()V"⟩, 12) := ⟨⟨by decide +kernel, by decide +kernel⟩, List.mem_of_getElem? (i := 23) (by decide +kernel), List.mem_of_getElem? (i := 268) (by decide +kernel), List.mem_of_getElem? (i := 269) (by decide +kernel)⟩
theorem lw_p3 : lw_okq (⟨"TimeoutYard$Course", "releaseIfDone", "(ILTimeoutYard$Trial;)V"⟩, 12) := ⟨⟨by decide +kernel, by decide +kernel⟩, List.mem_of_getElem? (i := 23) (by decide +kernel), List.mem_of_getElem? (i := 272) (by decide +kernel), List.mem_of_getElem? (i := 273) (by decide +kernel)⟩
theorem lw_p4 : lw_okq (⟨"TimeoutYard$Course", "beginTrials", "()V"⟩, 12) := ⟨⟨by decide +kernel, by decide +kernel⟩, List.mem_of_getElem? (i := 23) (by decide +kernel), List.mem_of_getElem? (i := 276) (by decide +kernel), List.mem_of_getElem? (i := 277) (by decide +kernel)⟩
theorem lw_p5 : lw_okq (⟨"TimeoutYard$Course", "lowestFreeWorker", "()I"⟩, 12) := ⟨⟨by decide +kernel, by decide +kernel⟩, List.mem_of_getElem? (i := 23) (by decide +kernel), List.mem_of_getElem? (i := 280) (by decide +kernel), List.mem_of_getElem? (i := 281) (by decide +kernel)⟩
theorem lw_p6 : lw_okq (⟨"TimeoutYard$Course", "canHaveLocks", "(LTimeoutYard$Trial;)Z"⟩, 12) := ⟨⟨by decide +kernel, by decide +kernel⟩, List.mem_of_getElem? (i := 23) (by decide +kernel), List.mem_of_getElem? (i := 284) (by decide +kernel), List.mem_of_getElem? (i := 285) (by decide +kernel)⟩
theorem lw_p7 : lw_okq (⟨"TimeoutYard$Course", "begin", "(II)V"⟩, 12) := ⟨⟨by decide +kernel, by decide +kernel⟩, List.mem_of_getElem? (i := 23) (by decide +kernel), List.mem_of_getElem? (i := 293) (by decide +kernel), List.mem_of_getElem? (i := 294) (by decide +kernel)⟩
theorem lw_p8 : lw_okq (⟨"TimeoutYard$Course", "startStrand", "(III)V"⟩, 12) := ⟨⟨by decide +kernel, by decide +kernel⟩, List.mem_of_getElem? (i := 23) (by decide +kernel), List.mem_of_getElem? (i := 297) (by decide +kernel), List.mem_of_getElem? (i := 298) (by decide +kernel)⟩
theorem lw_p9 : lw_okq (⟨"TimeoutYard$Course", "countRunning", "()I"⟩, 12) := ⟨⟨by decide +kernel, by decide +kernel⟩, List.mem_of_getElem? (i := 23) (by decide +kernel), List.mem_of_getElem? (i := 305) (by decide +kernel), List.mem_of_getElem? (i := 306) (by decide +kernel)⟩
theorem lw_p10 : lw_okq (⟨"TimeoutYard$Course", "isFinished", "()Z"⟩, 12) := ⟨⟨by decide +kernel, by decide +kernel⟩, List.mem_of_getElem? (i := 23) (by decide +kernel), List.mem_of_getElem? (i := 312) (by decide +kernel), List.mem_of_getElem? (i := 313) (by decide +kernel)⟩
theorem lw_p11 : lw_okq (⟨"TimeoutYard$Course", "takeTurns", "()V"⟩, 12) := ⟨⟨by decide +kernel, by decide +kernel⟩, List.mem_of_getElem? (i := 23) (by decide +kernel), List.mem_of_getElem? (i := 316) (by decide +kernel), List.mem_of_getElem? (i := 317) (by decide +kernel)⟩
theorem lw_p12 : lw_okq (⟨"TimeoutYard$Course", "takeTurn", "(I)V"⟩, 12) := ⟨⟨by decide +kernel, by decide +kernel⟩, List.mem_of_getElem? (i := 23) (by decide +kernel), List.mem_of_getElem? (i := 320) (by decide +kernel), List.mem_of_getElem? (i := 321) (by decide +kernel)⟩
theorem lw_p13 : lw_okq (⟨"TimeoutYard$Course", "doAction", "(I)Z"⟩, 12) := ⟨⟨by decide +kernel, by decide +kernel⟩, List.mem_of_getElem? (i := 23) (by decide +kernel), List.mem_of_getElem? (i := 324) (by decide +kernel), List.mem_of_getElem? (i := 325) (by decide +kernel)⟩
theorem lw_p14 : lw_okq (⟨"TimeoutYard$Course", "waitIn", "(III)Z"⟩, 12) := ⟨⟨by decide +kernel, by decide +kernel⟩, List.mem_of_getElem? (i := 23) (by decide +kernel), List.mem_of_getElem? (i := 332) (by decide +kernel), List.mem_of_getElem? (i := 333) (by decide +kernel)⟩
theorem lw_p15 : lw_okq (⟨"TimeoutYard$Course", "interrupt", "(LTimeoutYard$Strand;)Z"⟩, 12) := ⟨⟨by decide +kernel, by decide +kernel⟩, List.mem_of_getElem? (i := 23) (by decide +kernel), List.mem_of_getElem? (i := 340) (by decide +kernel), List.mem_of_getElem? (i := 341) (by decide +kernel)⟩
def lw_privs_1 : List (MethodName × Nat) := [(⟨"TimeoutYard$Course", "forgetRun", "()V"⟩, 12), (⟨"TimeoutYard$Course", "stopOverruns", "()V"⟩, 12), (⟨"TimeoutYard$Course", "releaseWorkers", "()V"⟩, 12), (⟨"TimeoutYard$Course", "releaseIfDone", "(ILTimeoutYard$Trial;)V"⟩, 12), (⟨"TimeoutYard$Course", "beginTrials", "()V"⟩, 12), (⟨"TimeoutYard$Course", "lowestFreeWorker", "()I"⟩, 12), (⟨"TimeoutYard$Course", "canHaveLocks", "(LTimeoutYard$Trial;)Z"⟩, 12), (⟨"TimeoutYard$Course", "begin", "(II)V"⟩, 12), (⟨"TimeoutYard$Course", "startStrand", "(III)V"⟩, 12), (⟨"TimeoutYard$Course", "countRunning", "()I"⟩, 12), (⟨"TimeoutYard$Course", "isFinished", "()Z"⟩, 12), (⟨"TimeoutYard$Course", "takeTurns", "()V"⟩, 12), (⟨"TimeoutYard$Course", "takeTurn", "(I)V"⟩, 12), (⟨"TimeoutYard$Course", "doAction", "(I)Z"⟩, 12), (⟨"TimeoutYard$Course", "waitIn", "(III)Z"⟩, 12), (⟨"TimeoutYard$Course", "interrupt", "(LTimeoutYard$Strand;)Z"⟩, 12)]
theorem lw_r1 : ∀ q ∈ lw_privs_1, lw_okq q := List.forall_mem_cons.mpr ⟨lw_p0, List.forall_mem_cons.mpr ⟨lw_p1, List.forall_mem_cons.mpr ⟨lw_p2, List.forall_mem_cons.mpr ⟨lw_p3, List.forall_mem_cons.mpr ⟨lw_p4, List.forall_mem_cons.mpr ⟨lw_p5, List.forall_mem_cons.mpr ⟨lw_p6, List.forall_mem_cons.mpr ⟨lw_p7, List.forall_mem_cons.mpr ⟨lw_p8, List.forall_mem_cons.mpr ⟨lw_p9, List.forall_mem_cons.mpr ⟨lw_p10, List.forall_mem_cons.mpr ⟨lw_p11, List.forall_mem_cons.mpr ⟨lw_p12, List.forall_mem_cons.mpr ⟨lw_p13, List.forall_mem_cons.mpr ⟨lw_p14, List.forall_mem_cons.mpr ⟨lw_p15, fun _ h => absurd h List.not_mem_nil⟩⟩⟩⟩⟩⟩⟩⟩⟩⟩⟩⟩⟩⟩⟩⟩
theorem lw_p16 : lw_okq (⟨"TimeoutYard$Course", "areStartedOver", "(I)Z"⟩, 12) := ⟨⟨by decide +kernel, by decide +kernel⟩, List.mem_of_getElem? (i := 23) (by decide +kernel), List.mem_of_getElem? (i := 348) (by decide +kernel), List.mem_of_getElem? (i := 349) (by decide +kernel)⟩
theorem lw_p17 : lw_okq (⟨"TimeoutYard$Course", "actAtOnce", "(III)V"⟩, 12) := ⟨⟨by decide +kernel, by decide +kernel⟩, List.mem_of_getElem? (i := 23) (by decide +kernel), List.mem_of_getElem? (i := 352) (by decide +kernel), List.mem_of_getElem? (i := 353) (by decide +kernel)⟩
theorem lw_p18 : lw_okq (⟨"TimeoutYard$Course", "markStartedBy", "(I)V"⟩, 12) := ⟨⟨by decide +kernel, by decide +kernel⟩, List.mem_of_getElem? (i := 23) (by decide +kernel), List.mem_of_getElem? (i := 360) (by decide +kernel), List.mem_of_getElem? (i := 361) (by decide +kernel)⟩
theorem lw_p19 : lw_okq (⟨"TimeoutYard$Course", "tellEnd", "(I)V"⟩, 12) := ⟨⟨by decide +kernel, by decide +kernel⟩, List.mem_of_getElem? (i := 23) (by decide +kernel), List.mem_of_getElem? (i := 364) (by decide +kernel), List.mem_of_getElem? (i := 365) (by decide +kernel)⟩
theorem lw_p20 : lw_okq (⟨"TimeoutYard$Course", "leaveRest", "()V"⟩, 12) := ⟨⟨by decide +kernel, by decide +kernel⟩, List.mem_of_getElem? (i := 23) (by decide +kernel), List.mem_of_getElem? (i := 373) (by decide +kernel), List.mem_of_getElem? (i := 374) (by decide +kernel)⟩
theorem lw_p21 : lw_okq (⟨"java/lang/Throwable", "fillInStackTrace", "(I)Ljava/lang/Throwable;"⟩, 6) := ⟨⟨by decide +kernel, by decide +kernel⟩, List.mem_of_getElem? (i := 429) (by decide +kernel), List.mem_of_getElem? (i := 427) (by decide +kernel), List.mem_of_getElem? (i := 428) (by decide +kernel)⟩
theorem lw_p22 : lw_okq (⟨"TimeoutYard$Program", "endOfGuard", "(II)I"⟩, 4) := ⟨⟨by decide +kernel, by decide +kernel⟩, List.mem_of_getElem? (i := 51) (by decide +kernel), List.mem_of_getElem? (i := 473) (by decide +kernel), List.mem_of_getElem? (i := 474) (by decide +kernel)⟩
theorem lw_p23 : lw_okq (⟨"TimeoutYardModel", "fails", "(ZI)Z"⟩, 38) := ⟨⟨by decide +kernel, by decide +kernel⟩, List.mem_of_getElem? (i := 535) (by decide +kernel), List.mem_of_getElem? (i := 671) (by decide +kernel), List.mem_of_getElem? (i := 672) (by decide +kernel)⟩
theorem lw_p24 : lw_okq (⟨"TimeoutYardModel", "guards", "()V"⟩, 38) := ⟨⟨by decide +kernel, by decide +kernel⟩, List.mem_of_getElem? (i := 535) (by decide +kernel), List.mem_of_getElem? (i := 687) (by decide +kernel), List.mem_of_getElem? (i := 688) (by decide +kernel)⟩
theorem lw_p25 : lw_okq (⟨"TimeoutYardModel", "looksAtTimes", "()V"⟩, 38) := ⟨⟨by decide +kernel, by decide +kernel⟩, List.mem_of_getElem? (i := 535) (by decide +kernel), List.mem_of_getElem? (i := 694) (by decide +kernel), List.mem_of_getElem? (i := 695) (by decide +kernel)⟩
theorem lw_p26 : lw_okq (⟨"TimeoutYardModel", "judged", "(III)V"⟩, 38) := ⟨⟨by decide +kernel, by decide +kernel⟩, List.mem_of_getElem? (i := 535) (by decide +kernel), List.mem_of_getElem? (i := 698) (by decide +kernel), List.mem_of_getElem? (i := 699) (by decide +kernel)⟩
theorem lw_p27 : lw_okq (⟨"TimeoutYardModel", "begins", "()V"⟩, 38) := ⟨⟨by decide +kernel, by decide +kernel⟩, List.mem_of_getElem? (i := 535) (by decide +kernel), List.mem_of_getElem? (i := 702) (by decide +kernel), List.mem_of_getElem? (i := 703) (by decide +kernel)⟩
theorem lw_p28 : lw_okq (⟨"TimeoutYardModel", "isFree", "(I)Z"⟩, 38) := ⟨⟨by decide +kernel, by decide +kernel⟩, List.mem_of_getElem? (i := 535) (by decide +kernel), List.mem_of_getElem? (i := 706) (by decide +kernel), List.mem_of_getElem? (i := 707) (by decide +kernel)⟩
theorem lw_p29 : lw_okq (⟨"TimeoutYardModel", "nextTest", "()I"⟩, 38) := ⟨⟨by decide +kernel, by decide +kernel⟩, List.mem_of_getElem? (i := 535) (by decide +kernel), List.mem_of_getElem? (i := 710) (by decide +kernel), List.mem_of_getElem? (i := 711) (by decide +kernel)⟩
theorem lw_p30 : lw_okq (⟨"TimeoutYardModel", "canHave", "(I)Z"⟩, 38) := ⟨⟨by decide +kernel, by decide +kernel⟩, List.mem_of_getElem? (i := 535) (by decide +kernel), List.mem_of_getElem? (i := 714) (by decide +kernel), List.mem_of_getElem? (i := 715) (by decide +kernel)⟩
theorem lw_p31 : lw_okq (⟨"TimeoutYardModel", "starts", "(III)I"⟩, 38) := ⟨⟨by decide +kernel, by decide +kernel⟩, List.mem_of_getElem? (i := 535) (by decide +kernel), List.mem_of_getElem? (i := 718) (by decide +kernel), List.mem_of_getElem? (i := 719) (by decide +kernel)⟩
def lw_privs_2 : List (MethodName × Nat) := [(⟨"TimeoutYard$Course", "areStartedOver", "(I)Z"⟩, 12), (⟨"TimeoutYard$Course", "actAtOnce", "(III)V"⟩, 12), (⟨"TimeoutYard$Course", "markStartedBy", "(I)V"⟩, 12), (⟨"TimeoutYard$Course", "tellEnd", "(I)V"⟩, 12), (⟨"TimeoutYard$Course", "leaveRest", "()V"⟩, 12), (⟨"java/lang/Throwable", "fillInStackTrace", "(I)Ljava/lang/Throwable;"⟩, 6), (⟨"TimeoutYard$Program", "endOfGuard", "(II)I"⟩, 4), (⟨"TimeoutYardModel", "fails", "(ZI)Z"⟩, 38), (⟨"TimeoutYardModel", "guards", "()V"⟩, 38), (⟨"TimeoutYardModel", "looksAtTimes", "()V"⟩, 38), (⟨"TimeoutYardModel", "judged", "(III)V"⟩, 38), (⟨"TimeoutYardModel", "begins", "()V"⟩, 38), (⟨"TimeoutYardModel", "isFree", "(I)Z"⟩, 38), (⟨"TimeoutYardModel", "nextTest", "()I"⟩, 38), (⟨"TimeoutYardModel", "canHave", "(I)Z"⟩, 38), (⟨"TimeoutYardModel", "starts", "(III)I"⟩, 38)]
theorem lw_r2 : ∀ q ∈ lw_privs_2, lw_okq q := List.forall_mem_cons.mpr ⟨lw_p16, List.forall_mem_cons.mpr ⟨lw_p17, List.forall_mem_cons.mpr ⟨lw_p18, List.forall_mem_cons.mpr ⟨lw_p19, List.forall_mem_cons.mpr ⟨lw_p20, List.forall_mem_cons.mpr ⟨lw_p21, List.forall_mem_cons.mpr ⟨lw_p22, List.forall_mem_cons.mpr ⟨lw_p23, List.forall_mem_cons.mpr ⟨lw_p24, List.forall_mem_cons.mpr ⟨lw_p25, List.forall_mem_cons.mpr ⟨lw_p26, List.forall_mem_cons.mpr ⟨lw_p27, List.forall_mem_cons.mpr ⟨lw_p28, List.forall_mem_cons.mpr ⟨lw_p29, List.forall_mem_cons.mpr ⟨lw_p30, List.forall_mem_cons.mpr ⟨lw_p31, fun _ h => absurd h List.not_mem_nil⟩⟩⟩⟩⟩⟩⟩⟩⟩⟩⟩⟩⟩⟩⟩⟩
theorem lw_p32 : lw_okq (⟨"TimeoutYardModel", "isDone", "()Z"⟩, 38) := ⟨⟨by decide +kernel, by decide +kernel⟩, List.mem_of_getElem? (i := 535) (by decide +kernel), List.mem_of_getElem? (i := 722) (by decide +kernel), List.mem_of_getElem? (i := 723) (by decide +kernel)⟩
theorem lw_p33 : lw_okq (⟨"TimeoutYardModel", "turn", "(I)V"⟩, 38) := ⟨⟨by decide +kernel, by decide +kernel⟩, List.mem_of_getElem? (i := 535) (by decide +kernel), List.mem_of_getElem? (i := 726) (by decide +kernel), List.mem_of_getElem? (i := 727) (by decide +kernel)⟩
theorem lw_p34 : lw_okq (⟨"TimeoutYardModel", "interrupts", "(II)V"⟩, 38) := ⟨⟨by decide +kernel, by decide +kernel⟩, List.mem_of_getElem? (i := 535) (by decide +kernel), List.mem_of_getElem? (i := 730) (by decide +kernel), List.mem_of_getElem? (i := 731) (by decide +kernel)⟩
theorem lw_p35 : lw_okq (⟨"TimeoutYardModel", "ends", "(II)V"⟩, 38) := ⟨⟨by decide +kernel, by decide +kernel⟩, List.mem_of_getElem? (i := 535) (by decide +kernel), List.mem_of_getElem? (i := 734) (by decide +kernel), List.mem_of_getElem? (i := 735) (by decide +kernel)⟩
theorem lw_p36 : lw_okq (⟨"TimeoutYardModel", "warns", "(II)V"⟩, 38) := ⟨⟨by decide +kernel, by decide +kernel⟩, List.mem_of_getElem? (i := 535) (by decide +kernel), List.mem_of_getElem? (i := 738) (by decide +kernel), List.mem_of_getElem? (i := 739) (by decide +kernel)⟩
theorem lw_p37 : lw_okq (⟨"TimeoutYardModel", "joined", "(I)Z"⟩, 38) := ⟨⟨by decide +kernel, by decide +kernel⟩, List.mem_of_getElem? (i := 535) (by decide +kernel), List.mem_of_getElem? (i := 742) (by decide +kernel), List.mem_of_getElem? (i := 743) (by decide +kernel)⟩
theorem lw_p38 : lw_okq (⟨"TimeoutYardModel", "acts", "(II)V"⟩, 38) := ⟨⟨by decide +kernel, by decide +kernel⟩, List.mem_of_getElem? (i := 535) (by decide +kernel), List.mem_of_getElem? (i := 746) (by decide +kernel), List.mem_of_getElem? (i := 747) (by decide +kernel)⟩
theorem lw_p39 : lw_okq (⟨"TimeoutYardModel", "waits", "(III)V"⟩, 38) := ⟨⟨by decide +kernel, by decide +kernel⟩, List.mem_of_getElem? (i := 535) (by decide +kernel), List.mem_of_getElem? (i := 750) (by decide +kernel), List.mem_of_getElem? (i := 751) (by decide +kernel)⟩
theorem lw_p40 : lw_okq (⟨"TimeoutYardModel", "says", "(II)V"⟩, 38) := ⟨⟨by decide +kernel, by decide +kernel⟩, List.mem_of_getElem? (i := 535) (by decide +kernel), List.mem_of_getElem? (i := 754) (by decide +kernel), List.mem_of_getElem? (i := 755) (by decide +kernel)⟩
def lw_privs_3 : List (MethodName × Nat) := [(⟨"TimeoutYardModel", "isDone", "()Z"⟩, 38), (⟨"TimeoutYardModel", "turn", "(I)V"⟩, 38), (⟨"TimeoutYardModel", "interrupts", "(II)V"⟩, 38), (⟨"TimeoutYardModel", "ends", "(II)V"⟩, 38), (⟨"TimeoutYardModel", "warns", "(II)V"⟩, 38), (⟨"TimeoutYardModel", "joined", "(I)Z"⟩, 38), (⟨"TimeoutYardModel", "acts", "(II)V"⟩, 38), (⟨"TimeoutYardModel", "waits", "(III)V"⟩, 38), (⟨"TimeoutYardModel", "says", "(II)V"⟩, 38)]
theorem lw_r3 : ∀ q ∈ lw_privs_3, lw_okq q := List.forall_mem_cons.mpr ⟨lw_p32, List.forall_mem_cons.mpr ⟨lw_p33, List.forall_mem_cons.mpr ⟨lw_p34, List.forall_mem_cons.mpr ⟨lw_p35, List.forall_mem_cons.mpr ⟨lw_p36, List.forall_mem_cons.mpr ⟨lw_p37, List.forall_mem_cons.mpr ⟨lw_p38, List.forall_mem_cons.mpr ⟨lw_p39, List.forall_mem_cons.mpr ⟨lw_p40, fun _ h => absurd h List.not_mem_nil⟩⟩⟩⟩⟩⟩⟩⟩⟩
def lw_privs : List (MethodName × Nat) := lw_privs_1 ++ (lw_privs_2 ++ (lw_privs_3))
def lw_tbl : List Cond := k2_sels lw_privs ++ tables_1
theorem lw_privs_ok : ∀ q ∈ lw_privs, lw_okq q := by
  show ∀ q ∈ lw_privs_1 ++ (lw_privs_2 ++ (lw_privs_3)), lw_okq q
  exact List.forall_mem_append.mpr ⟨lw_r1, List.forall_mem_append.mpr ⟨lw_r2, lw_r3⟩⟩
end
section
-- NAMES: by program (gen_names.py) out of the claim
def R_Yard : String := "TimeoutYard"
def F_Yard : u_T := fun k => match k with
  | 0 => ("TimeoutYard", "course", "LTimeoutYard$Course;", true)
  | 1 => ("TimeoutYard", "trialCount", "I", false)
  | _ => ("TimeoutYard", "workerCount", "I", false)
def t_Yard : Nat → FieldType := fun k => match k with
  | 0 => .object "TimeoutYard$Course"
  | 1 => .int
  | _ => .int
theorem n_Yard : ∀ a, a < 3 → ∀ b, b < 3 → a ≠ b → (F_Yard a).2.1 ≠ (F_Yard b).2.1 := by decide +kernel
theorem t_Yard_ok : ∀ k, k < 3 → parseFieldDescriptor (F_Yard k).2.2.1 = some (t_Yard k) := by decide +kernel
def R_Course : String := "TimeoutYard$Course"
def F_Course : u_T := fun k => match k with
  | 0 => ("TimeoutYard$Course", "programs", "[LTimeoutYard$Program;", true)
  | 1 => ("TimeoutYard$Course", "trials", "[LTimeoutYard$Trial;", true)
  | 2 => ("TimeoutYard$Course", "strands", "[LTimeoutYard$Strand;", true)
  | 3 => ("TimeoutYard$Course", "trialOfWorker", "[I", true)
  | 4 => ("TimeoutYard$Course", "notes", "LTimeoutYard$Log;", true)
  | 5 => ("TimeoutYard$Course", "warnings", "LTimeoutYard$Log;", true)
  | 6 => ("TimeoutYard$Course", "trialCount", "I", false)
  | 7 => ("TimeoutYard$Course", "workerCount", "I", false)
  | 8 => ("TimeoutYard$Course", "strandCount", "I", false)
  | 9 => ("TimeoutYard$Course", "leftCount", "I", false)
  | 10 => ("TimeoutYard$Course", "mostAtOnce", "I", false)
  | _ => ("TimeoutYard$Course", "time", "I", false)
def t_Course : Nat → FieldType := fun k => match k with
  | 0 => .array (.object "TimeoutYard$Program")
  | 1 => .array (.object "TimeoutYard$Trial")
  | 2 => .array (.object "TimeoutYard$Strand")
  | 3 => .array .int
  | 4 => .object "TimeoutYard$Log"
  | 5 => .object "TimeoutYard$Log"
  | 6 => .int
  | 7 => .int
  | 8 => .int
  | 9 => .int
  | 10 => .int
  | _ => .int
theorem n_Course : ∀ a, a < 12 → ∀ b, b < 12 → a ≠ b → (F_Course a).2.1 ≠ (F_Course b).2.1 := by decide +kernel
theorem t_Course_ok : ∀ k, k < 12 → parseFieldDescriptor (F_Course k).2.2.1 = some (t_Course k) := by decide +kernel
def R_Program : String := "TimeoutYard$Program"
def F_Program : u_T := fun k => match k with
  | 0 => ("TimeoutYard$Program", "ops", "[I", true)
  | 1 => ("TimeoutYard$Program", "arguments", "[I", true)
  | 2 => ("TimeoutYard$Program", "guardEnds", "[I", true)
  | _ => ("TimeoutYard$Program", "size", "I", false)
def t_Program : Nat → FieldType := fun k => match k with
  | 0 => .array .int
  | 1 => .array .int
  | 2 => .array .int
  | _ => .int
theorem n_Program : ∀ a, a < 4 → ∀ b, b < 4 → a ≠ b → (F_Program a).2.1 ≠ (F_Program b).2.1 := by decide +kernel
theorem t_Program_ok : ∀ k, k < 4 → parseFieldDescriptor (F_Program k).2.2.1 = some (t_Program k) := by decide +kernel
def R_Trial : String := "TimeoutYard$Trial"
def F_Trial : u_T := fun k => match k with
  | 0 => ("TimeoutYard$Trial", "program", "I", false)
  | 1 => ("TimeoutYard$Trial", "timeout", "I", false)
  | 2 => ("TimeoutYard$Trial", "reading", "I", false)
  | 3 => ("TimeoutYard$Trial", "writing", "I", false)
  | 4 => ("TimeoutYard$Trial", "verdict", "I", false)
  | 5 => ("TimeoutYard$Trial", "failure", "I", false)
  | 6 => ("TimeoutYard$Trial", "beginning", "I", false)
  | 7 => ("TimeoutYard$Trial", "verdictTime", "I", false)
  | 8 => ("TimeoutYard$Trial", "worker", "I", false)
  | 9 => ("TimeoutYard$Trial", "isAbandoned", "Z", false)
  | 10 => ("TimeoutYard$Trial", "strandCount", "I", false)
  | 11 => ("TimeoutYard$Trial", "firstStrand", "I", false)
  | _ => ("TimeoutYard$Trial", "strayDeath", "I", false)
def t_Trial : Nat → FieldType := fun k => match k with
  | 0 => .int
  | 1 => .int
  | 2 => .int
  | 3 => .int
  | 4 => .int
  | 5 => .int
  | 6 => .int
  | 7 => .int
  | 8 => .int
  | 9 => .boolean
  | 10 => .int
  | 11 => .int
  | _ => .int
theorem n_Trial : ∀ a, a < 13 → ∀ b, b < 13 → a ≠ b → (F_Trial a).2.1 ≠ (F_Trial b).2.1 := by decide +kernel
theorem t_Trial_ok : ∀ k, k < 13 → parseFieldDescriptor (F_Trial k).2.2.1 = some (t_Trial k) := by decide +kernel
def R_Strand : String := "TimeoutYard$Strand"
def F_Strand : u_T := fun k => match k with
  | 0 => ("TimeoutYard$Strand", "program", "I", false)
  | 1 => ("TimeoutYard$Strand", "trial", "I", false)
  | 2 => ("TimeoutYard$Strand", "starter", "I", false)
  | 3 => ("TimeoutYard$Strand", "at", "I", false)
  | 4 => ("TimeoutYard$Strand", "isWaiting", "Z", false)
  | 5 => ("TimeoutYard$Strand", "wakeTime", "I", false)
  | 6 => ("TimeoutYard$Strand", "isMarked", "Z", false)
  | 7 => ("TimeoutYard$Strand", "isSilent", "Z", false)
  | 8 => ("TimeoutYard$Strand", "isOver", "Z", false)
  | _ => ("TimeoutYard$Strand", "death", "I", false)
def t_Strand : Nat → FieldType := fun k => match k with
  | 0 => .int
  | 1 => .int
  | 2 => .int
  | 3 => .int
  | 4 => .boolean
  | 5 => .int
  | 6 => .boolean
  | 7 => .boolean
  | 8 => .boolean
  | _ => .int
theorem n_Strand : ∀ a, a < 10 → ∀ b, b < 10 → a ≠ b → (F_Strand a).2.1 ≠ (F_Strand b).2.1 := by decide +kernel
theorem t_Strand_ok : ∀ k, k < 10 → parseFieldDescriptor (F_Strand k).2.2.1 = some (t_Strand k) := by decide +kernel
def R_Log : String := "TimeoutYard$Log"
def F_Log : u_T := fun k => match k with
  | 0 => ("TimeoutYard$Log", "kept", "[I", true)
  | _ => ("TimeoutYard$Log", "size", "I", false)
def t_Log : Nat → FieldType := fun k => match k with
  | 0 => .array .int
  | _ => .int
theorem n_Log : ∀ a, a < 2 → ∀ b, b < 2 → a ≠ b → (F_Log a).2.1 ≠ (F_Log b).2.1 := by decide +kernel
theorem t_Log_ok : ∀ k, k < 2 → parseFieldDescriptor (F_Log k).2.2.1 = some (t_Log k) := by decide +kernel
def R_Model : String := "TimeoutYardModel"
def F_Model : u_T := fun k => match k with
  | 0 => ("TimeoutYardModel", "err", "I", false)
  | 1 => ("TimeoutYardModel", "tests", "I", false)
  | 2 => ("TimeoutYardModel", "workers", "I", false)
  | 3 => ("TimeoutYardModel", "time", "I", false)
  | 4 => ("TimeoutYardModel", "noted", "I", false)
  | 5 => ("TimeoutYardModel", "warned", "I", false)
  | 6 => ("TimeoutYardModel", "left", "I", false)
  | 7 => ("TimeoutYardModel", "most", "I", false)
  | 8 => ("TimeoutYardModel", "threads", "I", false)
  | 9 => ("TimeoutYardModel", "passed", "I", false)
  | 10 => ("TimeoutYardModel", "ops", "[I", true)
  | 11 => ("TimeoutYardModel", "as", "[I", true)
  | 12 => ("TimeoutYardModel", "sizes", "[I", true)
  | 13 => ("TimeoutYardModel", "ends", "[I", true)
  | 14 => ("TimeoutYardModel", "program", "[I", true)
  | 15 => ("TimeoutYardModel", "timeout", "[I", true)
  | 16 => ("TimeoutYardModel", "reading", "[I", true)
  | 17 => ("TimeoutYardModel", "writing", "[I", true)
  | 18 => ("TimeoutYardModel", "verdict", "[I", true)
  | 19 => ("TimeoutYardModel", "with", "[I", true)
  | 20 => ("TimeoutYardModel", "began", "[I", true)
  | 21 => ("TimeoutYardModel", "told", "[I", true)
  | 22 => ("TimeoutYardModel", "worker", "[I", true)
  | 23 => ("TimeoutYardModel", "leader", "[I", true)
  | 24 => ("TimeoutYardModel", "died", "[I", true)
  | 25 => ("TimeoutYardModel", "many", "[I", true)
  | 26 => ("TimeoutYardModel", "abandoned", "[Z", true)
  | 27 => ("TimeoutYardModel", "takes", "[I", true)
  | 28 => ("TimeoutYardModel", "test", "[I", true)
  | 29 => ("TimeoutYardModel", "starter", "[I", true)
  | 30 => ("TimeoutYardModel", "code", "[I", true)
  | 31 => ("TimeoutYardModel", "at", "[I", true)
  | 32 => ("TimeoutYardModel", "state", "[I", true)
  | 33 => ("TimeoutYardModel", "until", "[I", true)
  | 34 => ("TimeoutYardModel", "marked", "[Z", true)
  | 35 => ("TimeoutYardModel", "keeps", "[Z", true)
  | 36 => ("TimeoutYardModel", "notes", "[I", true)
  | _ => ("TimeoutYardModel", "warnings", "[I", true)
def t_Model : Nat → FieldType := fun k => match k with
  | 0 => .int
  | 1 => .int
  | 2 => .int
  | 3 => .int
  | 4 => .int
  | 5 => .int
  | 6 => .int
  | 7 => .int
  | 8 => .int
  | 9 => .int
  | 10 => .array .int
  | 11 => .array .int
  | 12 => .array .int
  | 13 => .array .int
  | 14 => .array .int
  | 15 => .array .int
  | 16 => .array .int
  | 17 => .array .int
  | 18 => .array .int
  | 19 => .array .int
  | 20 => .array .int
  | 21 => .array .int
  | 22 => .array .int
  | 23 => .array .int
  | 24 => .array .int
  | 25 => .array .int
  | 26 => .array .boolean
  | 27 => .array .int
  | 28 => .array .int
  | 29 => .array .int
  | 30 => .array .int
  | 31 => .array .int
  | 32 => .array .int
  | 33 => .array .int
  | 34 => .array .boolean
  | 35 => .array .boolean
  | 36 => .array .int
  | _ => .array .int
theorem n_Model : ∀ a, a < 38 → ∀ b, b < 38 → a ≠ b → (F_Model a).2.1 ≠ (F_Model b).2.1 := by decide +kernel
theorem t_Model_ok : ∀ k, k < 38 → parseFieldDescriptor (F_Model k).2.2.1 = some (t_Model k) := by decide +kernel
abbrev classes : List vw_C := [(R_Yard, F_Yard, 3), (R_Course, F_Course, 12), (R_Program, F_Program, 4), (R_Trial, F_Trial, 13), (R_Strand, F_Strand, 10), (R_Log, F_Log, 2), (R_Model, F_Model, 38)]
def ty_w : List Cond := lw_tbl.filter goodWord
theorem ty_in {w : Cond} (h : w ∈ lw_tbl) (g : goodWord w = true) : w ∈ ty_w := List.mem_filter.mpr ⟨h, g⟩
theorem ty_it {w : Cond} (i : Nat) (h : tables_1[i]? = some w) (g : goodWord w = true) : w ∈ ty_w := ty_in (List.mem_append_right _ (List.mem_of_getElem? h)) g
theorem i_Yard : ∀ w ∈ u_ws R_Yard F_Yard 3, w ∈ ty_w := by
  intro w hw
  obtain ⟨k, hk, rfl⟩ := List.mem_map.mp hw
  have hk := List.mem_range.mp hk
  match k, hk with
  | 0, _ => exact ty_it 231 (by decide +kernel) rfl
  | 1, _ => exact ty_it 233 (by decide +kernel) rfl
  | 2, _ => exact ty_it 235 (by decide +kernel) rfl
  | k + 3, h => exact absurd h (by omega)
theorem i_Course : ∀ w ∈ u_ws R_Course F_Course 12, w ∈ ty_w := by
  intro w hw
  obtain ⟨k, hk, rfl⟩ := List.mem_map.mp hw
  have hk := List.mem_range.mp hk
  match k, hk with
  | 0, _ => exact ty_it 203 (by decide +kernel) rfl
  | 1, _ => exact ty_it 205 (by decide +kernel) rfl
  | 2, _ => exact ty_it 207 (by decide +kernel) rfl
  | 3, _ => exact ty_it 209 (by decide +kernel) rfl
  | 4, _ => exact ty_it 211 (by decide +kernel) rfl
  | 5, _ => exact ty_it 213 (by decide +kernel) rfl
  | 6, _ => exact ty_it 215 (by decide +kernel) rfl
  | 7, _ => exact ty_it 217 (by decide +kernel) rfl
  | 8, _ => exact ty_it 219 (by decide +kernel) rfl
  | 9, _ => exact ty_it 221 (by decide +kernel) rfl
  | 10, _ => exact ty_it 223 (by decide +kernel) rfl
  | 11, _ => exact ty_it 225 (by decide +kernel) rfl
  | k + 12, h => exact absurd h (by omega)
theorem i_Program : ∀ w ∈ u_ws R_Program F_Program 4, w ∈ ty_w := by
  intro w hw
  obtain ⟨k, hk, rfl⟩ := List.mem_map.mp hw
  have hk := List.mem_range.mp hk
  match k, hk with
  | 0, _ => exact ty_it 64 (by decide +kernel) rfl
  | 1, _ => exact ty_it 66 (by decide +kernel) rfl
  | 2, _ => exact ty_it 68 (by decide +kernel) rfl
  | 3, _ => exact ty_it 70 (by decide +kernel) rfl
  | k + 4, h => exact absurd h (by omega)
theorem i_Trial : ∀ w ∈ u_ws R_Trial F_Trial 13, w ∈ ty_w := by
  intro w hw
  obtain ⟨k, hk, rfl⟩ := List.mem_map.mp hw
  have hk := List.mem_range.mp hk
  match k, hk with
  | 0, _ => exact ty_it 111 (by decide +kernel) rfl
  | 1, _ => exact ty_it 113 (by decide +kernel) rfl
  | 2, _ => exact ty_it 115 (by decide +kernel) rfl
  | 3, _ => exact ty_it 117 (by decide +kernel) rfl
  | 4, _ => exact ty_it 119 (by decide +kernel) rfl
  | 5, _ => exact ty_it 121 (by decide +kernel) rfl
  | 6, _ => exact ty_it 123 (by decide +kernel) rfl
  | 7, _ => exact ty_it 125 (by decide +kernel) rfl
  | 8, _ => exact ty_it 127 (by decide +kernel) rfl
  | 9, _ => exact ty_it 129 (by decide +kernel) rfl
  | 10, _ => exact ty_it 131 (by decide +kernel) rfl
  | 11, _ => exact ty_it 133 (by decide +kernel) rfl
  | 12, _ => exact ty_it 135 (by decide +kernel) rfl
  | k + 13, h => exact absurd h (by omega)
theorem i_Strand : ∀ w ∈ u_ws R_Strand F_Strand 10, w ∈ ty_w := by
  intro w hw
  obtain ⟨k, hk, rfl⟩ := List.mem_map.mp hw
  have hk := List.mem_range.mp hk
  match k, hk with
  | 0, _ => exact ty_it 163 (by decide +kernel) rfl
  | 1, _ => exact ty_it 165 (by decide +kernel) rfl
  | 2, _ => exact ty_it 167 (by decide +kernel) rfl
  | 3, _ => exact ty_it 169 (by decide +kernel) rfl
  | 4, _ => exact ty_it 171 (by decide +kernel) rfl
  | 5, _ => exact ty_it 173 (by decide +kernel) rfl
  | 6, _ => exact ty_it 175 (by decide +kernel) rfl
  | 7, _ => exact ty_it 177 (by decide +kernel) rfl
  | 8, _ => exact ty_it 179 (by decide +kernel) rfl
  | 9, _ => exact ty_it 181 (by decide +kernel) rfl
  | k + 10, h => exact absurd h (by omega)
theorem i_Log : ∀ w ∈ u_ws R_Log F_Log 2, w ∈ ty_w := by
  intro w hw
  obtain ⟨k, hk, rfl⟩ := List.mem_map.mp hw
  have hk := List.mem_range.mp hk
  match k, hk with
  | 0, _ => exact ty_it 45 (by decide +kernel) rfl
  | 1, _ => exact ty_it 47 (by decide +kernel) rfl
  | k + 2, h => exact absurd h (by omega)
theorem i_Model : ∀ w ∈ u_ws R_Model F_Model 38, w ∈ ty_w := by
  intro w hw
  obtain ⟨k, hk, rfl⟩ := List.mem_map.mp hw
  have hk := List.mem_range.mp hk
  match k, hk with
  | 0, _ => exact ty_it 578 (by decide +kernel) rfl
  | 1, _ => exact ty_it 580 (by decide +kernel) rfl
  | 2, _ => exact ty_it 582 (by decide +kernel) rfl
  | 3, _ => exact ty_it 584 (by decide +kernel) rfl
  | 4, _ => exact ty_it 586 (by decide +kernel) rfl
  | 5, _ => exact ty_it 588 (by decide +kernel) rfl
  | 6, _ => exact ty_it 590 (by decide +kernel) rfl
  | 7, _ => exact ty_it 592 (by decide +kernel) rfl
  | 8, _ => exact ty_it 594 (by decide +kernel) rfl
  | 9, _ => exact ty_it 596 (by decide +kernel) rfl
  | 10, _ => exact ty_it 598 (by decide +kernel) rfl
  | 11, _ => exact ty_it 600 (by decide +kernel) rfl
  | 12, _ => exact ty_it 602 (by decide +kernel) rfl
  | 13, _ => exact ty_it 604 (by decide +kernel) rfl
  | 14, _ => exact ty_it 606 (by decide +kernel) rfl
  | 15, _ => exact ty_it 608 (by decide +kernel) rfl
  | 16, _ => exact ty_it 610 (by decide +kernel) rfl
  | 17, _ => exact ty_it 612 (by decide +kernel) rfl
  | 18, _ => exact ty_it 614 (by decide +kernel) rfl
  | 19, _ => exact ty_it 616 (by decide +kernel) rfl
  | 20, _ => exact ty_it 618 (by decide +kernel) rfl
  | 21, _ => exact ty_it 620 (by decide +kernel) rfl
  | 22, _ => exact ty_it 622 (by decide +kernel) rfl
  | 23, _ => exact ty_it 624 (by decide +kernel) rfl
  | 24, _ => exact ty_it 626 (by decide +kernel) rfl
  | 25, _ => exact ty_it 628 (by decide +kernel) rfl
  | 26, _ => exact ty_it 630 (by decide +kernel) rfl
  | 27, _ => exact ty_it 632 (by decide +kernel) rfl
  | 28, _ => exact ty_it 634 (by decide +kernel) rfl
  | 29, _ => exact ty_it 636 (by decide +kernel) rfl
  | 30, _ => exact ty_it 638 (by decide +kernel) rfl
  | 31, _ => exact ty_it 640 (by decide +kernel) rfl
  | 32, _ => exact ty_it 642 (by decide +kernel) rfl
  | 33, _ => exact ty_it 644 (by decide +kernel) rfl
  | 34, _ => exact ty_it 646 (by decide +kernel) rfl
  | 35, _ => exact ty_it 648 (by decide +kernel) rfl
  | 36, _ => exact ty_it 650 (by decide +kernel) rfl
  | 37, _ => exact ty_it 652 (by decide +kernel) rfl
  | k + 38, h => exact absurd h (by omega)
/-- what a cell of kind a, number i is: an object (its class, its slots), or an array (its type, its length, the kind of what it refers to) -/
def ty_ki (a i : Nat) : (Nat × List (Option (Nat × Option Nat))) ⊕ (Nat × Nat × Option Nat) := match a with
  | 0 => .inl (0, [some (1, some 0), none, none])
  | 1 => .inl (1, [some (11, some 0), some (12, some 0), some (13, some 0), some (10, some 0), some (5, some 0), some (5, some 1), none, none, none, none, none, none])
  | 2 => .inl (2, [some (6, none), some (7, none), some (8, none), none])
  | 3 => .inl (3, [none, none, none, none, none, none, none, none, none, none, none, none, none])
  | 4 => .inl (4, [none, none, none, none, none, none, none, none, none, none])
  | 5 => .inl (5, [some (9, none), none])
  | 20 => .inl (6, [none, none, none, none, none, none, none, none, none, none, some (21, some 0), some (22, some 0), some (23, some 0), some (24, some 0), some (25, some 0), some (26, some 0), some (27, some 0), some (28, some 0), some (29, some 0), some (30, some 0), some (31, some 0), some (32, some 0), some (33, some 0), some (34, some 0), some (35, some 0), some (36, some 0), some (37, some 0), some (38, some 0), some (39, some 0), some (40, some 0), some (41, some 0), some (42, some 0), some (43, some 0), some (44, some 0), some (45, some 0), some (46, some 0), some (47, some 0), some (48, some 0)])
  | 6 => .inr (0, 10, none)
  | 7 => .inr (0, 10, none)
  | 8 => .inr (0, 10, none)
  | 9 => .inr (0, (if i = 0 then 12 else 8), none)
  | 10 => .inr (0, 4, none)
  | 11 => .inr (1, 10, some 2)
  | 12 => .inr (2, 12, some 3)
  | 13 => .inr (3, 52, some 4)
  | 21 => .inr (0, 100, none) -- ops
  | 22 => .inr (0, 100, none) -- as
  | 23 => .inr (0, 10, none) -- sizes
  | 24 => .inr (0, 100, none) -- ends
  | 25 => .inr (0, 12, none) -- program
  | 26 => .inr (0, 12, none) -- timeout
  | 27 => .inr (0, 12, none) -- reading
  | 28 => .inr (0, 12, none) -- writing
  | 29 => .inr (0, 12, none) -- verdict
  | 30 => .inr (0, 12, none) -- with
  | 31 => .inr (0, 12, none) -- began
  | 32 => .inr (0, 12, none) -- told
  | 33 => .inr (0, 12, none) -- worker
  | 34 => .inr (0, 12, none) -- leader
  | 35 => .inr (0, 12, none) -- died
  | 36 => .inr (0, 12, none) -- many
  | 37 => .inr (4, 12, none) -- abandoned
  | 38 => .inr (0, 4, none) -- takes
  | 39 => .inr (0, 64, none) -- test
  | 40 => .inr (0, 64, none) -- starter
  | 41 => .inr (0, 64, none) -- code
  | 42 => .inr (0, 64, none) -- at
  | 43 => .inr (0, 64, none) -- state
  | 44 => .inr (0, 64, none) -- until
  | 45 => .inr (4, 64, none) -- marked
  | 46 => .inr (4, 64, none) -- keeps
  | 47 => .inr (0, 60, none) -- notes
  | 48 => .inr (0, 30, none) -- warnings
  | _ => .inr (0, 0, none)
def ty_tys (cA : Nat → ClassId) : List (ClassId × FieldType) := [(cA 0, .int), (cA 1, .object "TimeoutYard$Program"), (cA 2, .object "TimeoutYard$Trial"), (cA 3, .object "TimeoutYard$Strand"), (cA 4, .boolean)]
def cnC (a : Nat) : Nat := match a with
  | 0 => 1
  | 1 => 1
  | 2 => 10
  | 3 => 12
  | 4 => 52
  | 5 => 2
  | 6 => 10
  | 7 => 10
  | 8 => 10
  | 9 => 2
  | 10 => 1
  | 11 => 1
  | 12 => 1
  | 13 => 1
  | _ => 0
def cnM (a : Nat) : Nat := if 20 ≤ a ∧ a < 49 then 1 else 0
abbrev b_Yard_init : ByteArray := prog_1_method_1_code
def y_Yard_init : MethodName := ⟨R_Yard, "<init>", "()V"⟩
abbrev b_Yard_action : ByteArray := prog_1_method_2_code
def y_Yard_action : MethodName := ⟨R_Yard, "action", "(III)I"⟩
abbrev b_Yard_test : ByteArray := prog_1_method_3_code
def y_Yard_test : MethodName := ⟨R_Yard, "test", "(IIII)I"⟩
abbrev b_Yard_workers : ByteArray := prog_1_method_4_code
def y_Yard_workers : MethodName := ⟨R_Yard, "workers", "(I)I"⟩
abbrev b_Yard_run : ByteArray := prog_1_method_5_code
def y_Yard_run : MethodName := ⟨R_Yard, "run", "()I"⟩
abbrev b_Yard_look : ByteArray := prog_1_method_6_code
def y_Yard_look : MethodName := ⟨R_Yard, "look", "(II)I"⟩
abbrev b_Yard_note : ByteArray := prog_1_method_7_code
def y_Yard_note : MethodName := ⟨R_Yard, "note", "(I)I"⟩
abbrev b_Yard_warning : ByteArray := prog_1_method_8_code
def y_Yard_warning : MethodName := ⟨R_Yard, "warning", "(I)I"⟩
abbrev b_Yard_count : ByteArray := prog_1_method_9_code
def y_Yard_count : MethodName := ⟨R_Yard, "count", "(I)I"⟩
abbrev b_Yard_isWithin : ByteArray := prog_1_method_10_code
def y_Yard_isWithin : MethodName := ⟨R_Yard, "isWithin", "(III)Z"⟩
abbrev b_Yard_isAction : ByteArray := prog_1_method_11_code
def y_Yard_isAction : MethodName := ⟨R_Yard, "isAction", "(II)Z"⟩
abbrev b_Model_init : ByteArray := prog_8_method_1_code
def y_Model_init : MethodName := ⟨R_Model, "<init>", "()V"⟩
abbrev b_Model_thrown : ByteArray := prog_8_method_2_code
def y_Model_thrown : MethodName := ⟨R_Model, "thrown", "()I"⟩
abbrev b_Model_in : ByteArray := prog_8_method_3_code
def y_Model_in : MethodName := ⟨R_Model, "in", "(III)Z"⟩
abbrev b_Model_fails : ByteArray := prog_8_method_4_code
def y_Model_fails : MethodName := ⟨R_Model, "fails", "(ZI)Z"⟩
abbrev b_Model_fits : ByteArray := prog_8_method_5_code
def y_Model_fits : MethodName := ⟨R_Model, "fits", "(II)Z"⟩
abbrev b_Model_action : ByteArray := prog_8_method_6_code
def y_Model_action : MethodName := ⟨R_Model, "action", "(III)I"⟩
abbrev b_Model_test : ByteArray := prog_8_method_7_code
def y_Model_test : MethodName := ⟨R_Model, "test", "(IIII)I"⟩
abbrev b_Model_workers : ByteArray := prog_8_method_8_code
def y_Model_workers : MethodName := ⟨R_Model, "workers", "(I)I"⟩
abbrev b_Model_judged : ByteArray := prog_8_method_9_code
def y_Model_judged : MethodName := ⟨R_Model, "judged", "(III)V"⟩
abbrev b_Model_warns : ByteArray := prog_8_method_10_code
def y_Model_warns : MethodName := ⟨R_Model, "warns", "(II)V"⟩
abbrev b_Model_ends : ByteArray := prog_8_method_11_code
def y_Model_ends : MethodName := ⟨R_Model, "ends", "(II)V"⟩
abbrev b_Model_starts : ByteArray := prog_8_method_12_code
def y_Model_starts : MethodName := ⟨R_Model, "starts", "(III)I"⟩
abbrev b_Model_guards : ByteArray := prog_8_method_13_code
def y_Model_guards : MethodName := ⟨R_Model, "guards", "()V"⟩
abbrev b_Model_least : ByteArray := prog_8_method_14_code
def y_Model_least : MethodName := ⟨R_Model, "least", "(II)I"⟩
abbrev b_Model_interrupts : ByteArray := prog_8_method_15_code
def y_Model_interrupts : MethodName := ⟨R_Model, "interrupts", "(II)V"⟩
abbrev b_Model_joined : ByteArray := prog_8_method_16_code
def y_Model_joined : MethodName := ⟨R_Model, "joined", "(I)Z"⟩
abbrev b_Model_turn : ByteArray := prog_8_method_17_code
def y_Model_turn : MethodName := ⟨R_Model, "turn", "(I)V"⟩
abbrev b_Model_says : ByteArray := prog_8_method_18_code
def y_Model_says : MethodName := ⟨R_Model, "says", "(II)V"⟩
abbrev b_Model_waits : ByteArray := prog_8_method_19_code
def y_Model_waits : MethodName := ⟨R_Model, "waits", "(III)V"⟩
abbrev b_Model_acts : ByteArray := prog_8_method_20_code
def y_Model_acts : MethodName := ⟨R_Model, "acts", "(II)V"⟩
abbrev b_Model_isFree : ByteArray := prog_8_method_21_code
def y_Model_isFree : MethodName := ⟨R_Model, "isFree", "(I)Z"⟩
abbrev b_Model_canHave : ByteArray := prog_8_method_22_code
def y_Model_canHave : MethodName := ⟨R_Model, "canHave", "(I)Z"⟩
abbrev b_Model_nextTest : ByteArray := prog_8_method_23_code
def y_Model_nextTest : MethodName := ⟨R_Model, "nextTest", "()I"⟩
abbrev b_Model_looksAtTimes : ByteArray := prog_8_method_24_code
def y_Model_looksAtTimes : MethodName := ⟨R_Model, "looksAtTimes", "()V"⟩
abbrev b_Model_begins : ByteArray := prog_8_method_25_code
def y_Model_begins : MethodName := ⟨R_Model, "begins", "()V"⟩
abbrev b_Model_isDone : ByteArray := prog_8_method_26_code
def y_Model_isDone : MethodName := ⟨R_Model, "isDone", "()Z"⟩
abbrev b_Model_run : ByteArray := prog_8_method_27_code
def y_Model_run : MethodName := ⟨R_Model, "run", "()I"⟩
abbrev b_Model_look : ByteArray := prog_8_method_28_code
def y_Model_look : MethodName := ⟨R_Model, "look", "(II)I"⟩
abbrev b_Model_note : ByteArray := prog_8_method_29_code
def y_Model_note : MethodName := ⟨R_Model, "note", "(I)I"⟩
abbrev b_Model_warning : ByteArray := prog_8_method_30_code
def y_Model_warning : MethodName := ⟨R_Model, "warning", "(I)I"⟩
abbrev b_Model_count : ByteArray := prog_8_method_31_code
def y_Model_count : MethodName := ⟨R_Model, "count", "(I)I"⟩
abbrev b_Course_init : ByteArray := prog_2_method_1_code
def y_Course_init : MethodName := ⟨R_Course, "<init>", "()V"⟩
abbrev b_Course_perform : ByteArray := prog_2_method_2_code
def y_Course_perform : MethodName := ⟨R_Course, "perform", "(II)I"⟩
abbrev b_Course_allPassed : ByteArray := prog_2_method_3_code
def y_Course_allPassed : MethodName := ⟨R_Course, "allPassed", "()Z"⟩
abbrev b_Course_forgetRun : ByteArray := prog_2_method_4_code
def y_Course_forgetRun : MethodName := ⟨R_Course, "forgetRun", "()V"⟩
abbrev b_Course_stopOverruns : ByteArray := prog_2_method_5_code
def y_Course_stopOverruns : MethodName := ⟨R_Course, "stopOverruns", "()V"⟩
abbrev b_Course_releaseWorkers : ByteArray := prog_2_method_6_code
def y_Course_releaseWorkers : MethodName := ⟨R_Course, "releaseWorkers", "()V"⟩
abbrev b_Course_releaseIfDone : ByteArray := prog_2_method_7_code
def y_Course_releaseIfDone : MethodName := ⟨R_Course, "releaseIfDone", "(ILTimeoutYard$Trial;)V"⟩
abbrev b_Course_beginTrials : ByteArray := prog_2_method_8_code
def y_Course_beginTrials : MethodName := ⟨R_Course, "beginTrials", "()V"⟩
abbrev b_Course_lowestFreeWorker : ByteArray := prog_2_method_9_code
def y_Course_lowestFreeWorker : MethodName := ⟨R_Course, "lowestFreeWorker", "()I"⟩
abbrev b_Course_canHaveLocks : ByteArray := prog_2_method_10_code
def y_Course_canHaveLocks : MethodName := ⟨R_Course, "canHaveLocks", "(LTimeoutYard$Trial;)Z"⟩
abbrev b_Course_begin : ByteArray := prog_2_method_11_code
def y_Course_begin : MethodName := ⟨R_Course, "begin", "(II)V"⟩
abbrev b_Course_startStrand : ByteArray := prog_2_method_12_code
def y_Course_startStrand : MethodName := ⟨R_Course, "startStrand", "(III)V"⟩
abbrev b_Course_countRunning : ByteArray := prog_2_method_13_code
def y_Course_countRunning : MethodName := ⟨R_Course, "countRunning", "()I"⟩
abbrev b_Course_isFinished : ByteArray := prog_2_method_14_code
def y_Course_isFinished : MethodName := ⟨R_Course, "isFinished", "()Z"⟩
abbrev b_Course_takeTurns : ByteArray := prog_2_method_15_code
def y_Course_takeTurns : MethodName := ⟨R_Course, "takeTurns", "()V"⟩
abbrev b_Course_takeTurn : ByteArray := prog_2_method_16_code
def y_Course_takeTurn : MethodName := ⟨R_Course, "takeTurn", "(I)V"⟩
abbrev b_Course_doAction : ByteArray := prog_2_method_17_code
def y_Course_doAction : MethodName := ⟨R_Course, "doAction", "(I)Z"⟩
abbrev b_Course_actAtOnce : ByteArray := prog_2_method_18_code
def y_Course_actAtOnce : MethodName := ⟨R_Course, "actAtOnce", "(III)V"⟩
abbrev b_Course_waitIn : ByteArray := prog_2_method_19_code
def y_Course_waitIn : MethodName := ⟨R_Course, "waitIn", "(III)Z"⟩
abbrev b_Course_interrupt : ByteArray := prog_2_method_20_code
def y_Course_interrupt : MethodName := ⟨R_Course, "interrupt", "(LTimeoutYard$Strand;)Z"⟩
abbrev b_Course_areStartedOver : ByteArray := prog_2_method_21_code
def y_Course_areStartedOver : MethodName := ⟨R_Course, "areStartedOver", "(I)Z"⟩
abbrev b_Course_markStartedBy : ByteArray := prog_2_method_22_code
def y_Course_markStartedBy : MethodName := ⟨R_Course, "markStartedBy", "(I)V"⟩
abbrev b_Course_tellEnd : ByteArray := prog_2_method_23_code
def y_Course_tellEnd : MethodName := ⟨R_Course, "tellEnd", "(I)V"⟩
abbrev b_Course_leaveRest : ByteArray := prog_2_method_24_code
def y_Course_leaveRest : MethodName := ⟨R_Course, "leaveRest", "()V"⟩
abbrev b_Log_init : ByteArray := prog_3_method_1_code
def y_Log_init : MethodName := ⟨R_Log, "<init>", "(I)V"⟩
abbrev b_Log_add : ByteArray := prog_3_method_2_code
def y_Log_add : MethodName := ⟨R_Log, "add", "(I)V"⟩
abbrev b_Log_keeps : ByteArray := prog_3_method_3_code
def y_Log_keeps : MethodName := ⟨R_Log, "keeps", "(I)Z"⟩
abbrev b_Program_init : ByteArray := prog_4_method_1_code
def y_Program_init : MethodName := ⟨R_Program, "<init>", "()V"⟩
abbrev b_Program_add : ByteArray := prog_4_method_2_code
def y_Program_add : MethodName := ⟨R_Program, "add", "(II)V"⟩
abbrev b_Program_endOfGuard : ByteArray := prog_4_method_3_code
def y_Program_endOfGuard : MethodName := ⟨R_Program, "endOfGuard", "(II)I"⟩
abbrev b_Program_endOfGuardAround : ByteArray := prog_4_method_4_code
def y_Program_endOfGuardAround : MethodName := ⟨R_Program, "endOfGuardAround", "(I)I"⟩
abbrev b_Strand_init : ByteArray := prog_5_method_1_code
def y_Strand_init : MethodName := ⟨R_Strand, "<init>", "()V"⟩
abbrev b_Strand_start : ByteArray := prog_5_method_2_code
def y_Strand_start : MethodName := ⟨R_Strand, "start", "(III)V"⟩
abbrev b_Strand_end : ByteArray := prog_5_method_3_code
def y_Strand_end : MethodName := ⟨R_Strand, "end", "(I)V"⟩
abbrev b_Strand_takeMark : ByteArray := prog_5_method_4_code
def y_Strand_takeMark : MethodName := ⟨R_Strand, "takeMark", "()Z"⟩
abbrev b_Trial_init : ByteArray := prog_6_method_1_code
def y_Trial_init : MethodName := ⟨R_Trial, "<init>", "()V"⟩
abbrev b_Trial_define : ByteArray := prog_6_method_2_code
def y_Trial_define : MethodName := ⟨R_Trial, "define", "(IIII)V"⟩
abbrev b_Trial_forgetRun : ByteArray := prog_6_method_3_code
def y_Trial_forgetRun : MethodName := ⟨R_Trial, "forgetRun", "()V"⟩
abbrev b_Trial_isRunning : ByteArray := prog_6_method_4_code
def y_Trial_isRunning : MethodName := ⟨R_Trial, "isRunning", "()Z"⟩
abbrev b_Trial_overrunsAt : ByteArray := prog_6_method_5_code
def y_Trial_overrunsAt : MethodName := ⟨R_Trial, "overrunsAt", "(I)Z"⟩
abbrev b_Trial_hindersLocksOf : ByteArray := prog_6_method_6_code
def y_Trial_hindersLocksOf : MethodName := ⟨R_Trial, "hindersLocksOf", "(LTimeoutYard$Trial;)Z"⟩
abbrev b_Trial_decide : ByteArray := prog_6_method_7_code
def y_Trial_decide : MethodName := ⟨R_Trial, "decide", "(II)V"⟩
abbrev b_Trial_decideByDeath : ByteArray := prog_6_method_8_code
def y_Trial_decideByDeath : MethodName := ⟨R_Trial, "decideByDeath", "(II)V"⟩
abbrev b_law_action : ByteArray := method_3_code
def y_law_action : MethodName := ⟨"TimeoutYardLaw", "action", "(LTimeoutYard;III[J)I"⟩
abbrev b_law_test : ByteArray := method_4_code
def y_law_test : MethodName := ⟨"TimeoutYardLaw", "test", "(LTimeoutYard;IIII[J)I"⟩
abbrev b_law_workers : ByteArray := method_5_code
def y_law_workers : MethodName := ⟨"TimeoutYardLaw", "workers", "(LTimeoutYard;I[J)I"⟩
abbrev b_law_look : ByteArray := method_6_code
def y_law_look : MethodName := ⟨"TimeoutYardLaw", "look", "(LTimeoutYard;II[J)I"⟩
abbrev b_law_note : ByteArray := method_7_code
def y_law_note : MethodName := ⟨"TimeoutYardLaw", "note", "(LTimeoutYard;I[J)I"⟩
abbrev b_law_warning : ByteArray := method_8_code
def y_law_warning : MethodName := ⟨"TimeoutYardLaw", "warning", "(LTimeoutYard;I[J)I"⟩
abbrev b_law_count : ByteArray := method_9_code
def y_law_count : MethodName := ⟨"TimeoutYardLaw", "count", "(LTimeoutYard;I[J)I"⟩
theorem wc_Yard_init : Cond.code y_Yard_init b_Yard_init 1 none ∈ ty_w := ty_it 18 (by decide +kernel) rfl
theorem wi_Yard_init : Cond.instanceMethod y_Yard_init ∈ ty_w := ty_it 17 (by decide +kernel) rfl
theorem wc_Yard_action : Cond.code y_Yard_action b_Yard_action 5 (some .int) ∈ ty_w := ty_it 384 (by decide +kernel) rfl
theorem wi_Yard_action : Cond.instanceMethod y_Yard_action ∈ ty_w := ty_it 382 (by decide +kernel) rfl
theorem ws_Yard_action : Cond.selects y_Yard_action.cls y_Yard_action y_Yard_action ∈ ty_w := ty_it 383 (by decide +kernel) rfl
theorem wc_Yard_test : Cond.code y_Yard_test b_Yard_test 5 (some .int) ∈ ty_w := ty_it 486 (by decide +kernel) rfl
theorem wi_Yard_test : Cond.instanceMethod y_Yard_test ∈ ty_w := ty_it 484 (by decide +kernel) rfl
theorem ws_Yard_test : Cond.selects y_Yard_test.cls y_Yard_test y_Yard_test ∈ ty_w := ty_it 485 (by decide +kernel) rfl
theorem wc_Yard_workers : Cond.code y_Yard_workers b_Yard_workers 3 (some .int) ∈ ty_w := ty_it 497 (by decide +kernel) rfl
theorem wi_Yard_workers : Cond.instanceMethod y_Yard_workers ∈ ty_w := ty_it 495 (by decide +kernel) rfl
theorem ws_Yard_workers : Cond.selects y_Yard_workers.cls y_Yard_workers y_Yard_workers ∈ ty_w := ty_it 496 (by decide +kernel) rfl
theorem wc_Yard_run : Cond.code y_Yard_run b_Yard_run 1 (some .int) ∈ ty_w := ty_it 241 (by decide +kernel) rfl
theorem wi_Yard_run : Cond.instanceMethod y_Yard_run ∈ ty_w := ty_it 239 (by decide +kernel) rfl
theorem ws_Yard_run : Cond.selects y_Yard_run.cls y_Yard_run y_Yard_run ∈ ty_w := ty_it 240 (by decide +kernel) rfl
theorem wc_Yard_look : Cond.code y_Yard_look b_Yard_look 4 (some .int) ∈ ty_w := ty_it 504 (by decide +kernel) rfl
theorem wi_Yard_look : Cond.instanceMethod y_Yard_look ∈ ty_w := ty_it 502 (by decide +kernel) rfl
theorem ws_Yard_look : Cond.selects y_Yard_look.cls y_Yard_look y_Yard_look ∈ ty_w := ty_it 503 (by decide +kernel) rfl
theorem wc_Yard_note : Cond.code y_Yard_note b_Yard_note 2 (some .int) ∈ ty_w := ty_it 511 (by decide +kernel) rfl
theorem wi_Yard_note : Cond.instanceMethod y_Yard_note ∈ ty_w := ty_it 509 (by decide +kernel) rfl
theorem ws_Yard_note : Cond.selects y_Yard_note.cls y_Yard_note y_Yard_note ∈ ty_w := ty_it 510 (by decide +kernel) rfl
theorem wc_Yard_warning : Cond.code y_Yard_warning b_Yard_warning 2 (some .int) ∈ ty_w := ty_it 522 (by decide +kernel) rfl
theorem wi_Yard_warning : Cond.instanceMethod y_Yard_warning ∈ ty_w := ty_it 520 (by decide +kernel) rfl
theorem ws_Yard_warning : Cond.selects y_Yard_warning.cls y_Yard_warning y_Yard_warning ∈ ty_w := ty_it 521 (by decide +kernel) rfl
theorem wc_Yard_count : Cond.code y_Yard_count b_Yard_count 2 (some .int) ∈ ty_w := ty_it 529 (by decide +kernel) rfl
theorem wi_Yard_count : Cond.instanceMethod y_Yard_count ∈ ty_w := ty_it 527 (by decide +kernel) rfl
theorem ws_Yard_count : Cond.selects y_Yard_count.cls y_Yard_count y_Yard_count ∈ ty_w := ty_it 528 (by decide +kernel) rfl
theorem wc_Yard_isWithin : Cond.code y_Yard_isWithin b_Yard_isWithin 3 (some .boolean) ∈ ty_w := ty_it 387 (by decide +kernel) rfl
theorem wt_Yard_isWithin : Cond.static y_Yard_isWithin ∈ ty_w := ty_it 386 (by decide +kernel) rfl
theorem wc_Yard_isAction : Cond.code y_Yard_isAction b_Yard_isAction 2 (some .boolean) ∈ ty_w := ty_it 390 (by decide +kernel) rfl
theorem wt_Yard_isAction : Cond.static y_Yard_isAction ∈ ty_w := ty_it 389 (by decide +kernel) rfl
theorem wc_Model_init : Cond.code y_Model_init b_Model_init 1 none ∈ ty_w := ty_it 538 (by decide +kernel) rfl
theorem wi_Model_init : Cond.instanceMethod y_Model_init ∈ ty_w := ty_it 537 (by decide +kernel) rfl
theorem wc_Model_thrown : Cond.code y_Model_thrown b_Model_thrown 1 (some .int) ∈ ty_w := ty_it 659 (by decide +kernel) rfl
theorem wi_Model_thrown : Cond.instanceMethod y_Model_thrown ∈ ty_w := ty_it 657 (by decide +kernel) rfl
theorem ws_Model_thrown : Cond.selects y_Model_thrown.cls y_Model_thrown y_Model_thrown ∈ ty_w := ty_it 658 (by decide +kernel) rfl
theorem wc_Model_in : Cond.code y_Model_in b_Model_in 3 (some .boolean) ∈ ty_w := ty_it 666 (by decide +kernel) rfl
theorem wt_Model_in : Cond.static y_Model_in ∈ ty_w := ty_it 665 (by decide +kernel) rfl
theorem wc_Model_fails : Cond.code y_Model_fails b_Model_fails 3 (some .boolean) ∈ ty_w := ty_it 673 (by decide +kernel) rfl
theorem wi_Model_fails : Cond.instanceMethod y_Model_fails ∈ ty_w := ty_it 672 (by decide +kernel) rfl
theorem ws_Model_fails : Cond.selects y_Model_fails.cls y_Model_fails y_Model_fails ∈ ty_w := ty_in (List.mem_append_left _ (by decide +kernel)) rfl
theorem wc_Model_fits : Cond.code y_Model_fits b_Model_fits 2 (some .boolean) ∈ ty_w := ty_it 669 (by decide +kernel) rfl
theorem wt_Model_fits : Cond.static y_Model_fits ∈ ty_w := ty_it 668 (by decide +kernel) rfl
theorem wc_Model_action : Cond.code y_Model_action b_Model_action 4 (some .int) ∈ ty_w := ty_it 663 (by decide +kernel) rfl
theorem wi_Model_action : Cond.instanceMethod y_Model_action ∈ ty_w := ty_it 661 (by decide +kernel) rfl
theorem ws_Model_action : Cond.selects y_Model_action.cls y_Model_action y_Model_action ∈ ty_w := ty_it 662 (by decide +kernel) rfl
theorem wc_Model_test : Cond.code y_Model_test b_Model_test 6 (some .int) ∈ ty_w := ty_it 677 (by decide +kernel) rfl
theorem wi_Model_test : Cond.instanceMethod y_Model_test ∈ ty_w := ty_it 675 (by decide +kernel) rfl
theorem ws_Model_test : Cond.selects y_Model_test.cls y_Model_test y_Model_test ∈ ty_w := ty_it 676 (by decide +kernel) rfl
theorem wc_Model_workers : Cond.code y_Model_workers b_Model_workers 3 (some .int) ∈ ty_w := ty_it 681 (by decide +kernel) rfl
theorem wi_Model_workers : Cond.instanceMethod y_Model_workers ∈ ty_w := ty_it 679 (by decide +kernel) rfl
theorem ws_Model_workers : Cond.selects y_Model_workers.cls y_Model_workers y_Model_workers ∈ ty_w := ty_it 680 (by decide +kernel) rfl
theorem wc_Model_judged : Cond.code y_Model_judged b_Model_judged 4 none ∈ ty_w := ty_it 700 (by decide +kernel) rfl
theorem wi_Model_judged : Cond.instanceMethod y_Model_judged ∈ ty_w := ty_it 699 (by decide +kernel) rfl
theorem ws_Model_judged : Cond.selects y_Model_judged.cls y_Model_judged y_Model_judged ∈ ty_w := ty_in (List.mem_append_left _ (by decide +kernel)) rfl
theorem wc_Model_warns : Cond.code y_Model_warns b_Model_warns 3 none ∈ ty_w := ty_it 740 (by decide +kernel) rfl
theorem wi_Model_warns : Cond.instanceMethod y_Model_warns ∈ ty_w := ty_it 739 (by decide +kernel) rfl
theorem ws_Model_warns : Cond.selects y_Model_warns.cls y_Model_warns y_Model_warns ∈ ty_w := ty_in (List.mem_append_left _ (by decide +kernel)) rfl
theorem wc_Model_ends : Cond.code y_Model_ends b_Model_ends 5 none ∈ ty_w := ty_it 736 (by decide +kernel) rfl
theorem wi_Model_ends : Cond.instanceMethod y_Model_ends ∈ ty_w := ty_it 735 (by decide +kernel) rfl
theorem ws_Model_ends : Cond.selects y_Model_ends.cls y_Model_ends y_Model_ends ∈ ty_w := ty_in (List.mem_append_left _ (by decide +kernel)) rfl
theorem wc_Model_starts : Cond.code y_Model_starts b_Model_starts 5 (some .int) ∈ ty_w := ty_it 720 (by decide +kernel) rfl
theorem wi_Model_starts : Cond.instanceMethod y_Model_starts ∈ ty_w := ty_it 719 (by decide +kernel) rfl
theorem ws_Model_starts : Cond.selects y_Model_starts.cls y_Model_starts y_Model_starts ∈ ty_w := ty_in (List.mem_append_left _ (by decide +kernel)) rfl
theorem wc_Model_guards : Cond.code y_Model_guards b_Model_guards 5 none ∈ ty_w := ty_it 689 (by decide +kernel) rfl
theorem wi_Model_guards : Cond.instanceMethod y_Model_guards ∈ ty_w := ty_it 688 (by decide +kernel) rfl
theorem ws_Model_guards : Cond.selects y_Model_guards.cls y_Model_guards y_Model_guards ∈ ty_w := ty_in (List.mem_append_left _ (by decide +kernel)) rfl
theorem wc_Model_least : Cond.code y_Model_least b_Model_least 2 (some .int) ∈ ty_w := ty_it 692 (by decide +kernel) rfl
theorem wt_Model_least : Cond.static y_Model_least ∈ ty_w := ty_it 691 (by decide +kernel) rfl
theorem wc_Model_interrupts : Cond.code y_Model_interrupts b_Model_interrupts 6 none ∈ ty_w := ty_it 732 (by decide +kernel) rfl
theorem wi_Model_interrupts : Cond.instanceMethod y_Model_interrupts ∈ ty_w := ty_it 731 (by decide +kernel) rfl
theorem ws_Model_interrupts : Cond.selects y_Model_interrupts.cls y_Model_interrupts y_Model_interrupts ∈ ty_w := ty_in (List.mem_append_left _ (by decide +kernel)) rfl
theorem wc_Model_joined : Cond.code y_Model_joined b_Model_joined 3 (some .boolean) ∈ ty_w := ty_it 744 (by decide +kernel) rfl
theorem wi_Model_joined : Cond.instanceMethod y_Model_joined ∈ ty_w := ty_it 743 (by decide +kernel) rfl
theorem ws_Model_joined : Cond.selects y_Model_joined.cls y_Model_joined y_Model_joined ∈ ty_w := ty_in (List.mem_append_left _ (by decide +kernel)) rfl
theorem wc_Model_turn : Cond.code y_Model_turn b_Model_turn 3 none ∈ ty_w := ty_it 728 (by decide +kernel) rfl
theorem wi_Model_turn : Cond.instanceMethod y_Model_turn ∈ ty_w := ty_it 727 (by decide +kernel) rfl
theorem ws_Model_turn : Cond.selects y_Model_turn.cls y_Model_turn y_Model_turn ∈ ty_w := ty_in (List.mem_append_left _ (by decide +kernel)) rfl
theorem wc_Model_says : Cond.code y_Model_says b_Model_says 3 none ∈ ty_w := ty_it 756 (by decide +kernel) rfl
theorem wi_Model_says : Cond.instanceMethod y_Model_says ∈ ty_w := ty_it 755 (by decide +kernel) rfl
theorem ws_Model_says : Cond.selects y_Model_says.cls y_Model_says y_Model_says ∈ ty_w := ty_in (List.mem_append_left _ (by decide +kernel)) rfl
theorem wc_Model_waits : Cond.code y_Model_waits b_Model_waits 4 none ∈ ty_w := ty_it 752 (by decide +kernel) rfl
theorem wi_Model_waits : Cond.instanceMethod y_Model_waits ∈ ty_w := ty_it 751 (by decide +kernel) rfl
theorem ws_Model_waits : Cond.selects y_Model_waits.cls y_Model_waits y_Model_waits ∈ ty_w := ty_in (List.mem_append_left _ (by decide +kernel)) rfl
theorem wc_Model_acts : Cond.code y_Model_acts b_Model_acts 5 none ∈ ty_w := ty_it 748 (by decide +kernel) rfl
theorem wi_Model_acts : Cond.instanceMethod y_Model_acts ∈ ty_w := ty_it 747 (by decide +kernel) rfl
theorem ws_Model_acts : Cond.selects y_Model_acts.cls y_Model_acts y_Model_acts ∈ ty_w := ty_in (List.mem_append_left _ (by decide +kernel)) rfl
theorem wc_Model_isFree : Cond.code y_Model_isFree b_Model_isFree 3 (some .boolean) ∈ ty_w := ty_it 708 (by decide +kernel) rfl
theorem wi_Model_isFree : Cond.instanceMethod y_Model_isFree ∈ ty_w := ty_it 707 (by decide +kernel) rfl
theorem ws_Model_isFree : Cond.selects y_Model_isFree.cls y_Model_isFree y_Model_isFree ∈ ty_w := ty_in (List.mem_append_left _ (by decide +kernel)) rfl
theorem wc_Model_canHave : Cond.code y_Model_canHave b_Model_canHave 3 (some .boolean) ∈ ty_w := ty_it 716 (by decide +kernel) rfl
theorem wi_Model_canHave : Cond.instanceMethod y_Model_canHave ∈ ty_w := ty_it 715 (by decide +kernel) rfl
theorem ws_Model_canHave : Cond.selects y_Model_canHave.cls y_Model_canHave y_Model_canHave ∈ ty_w := ty_in (List.mem_append_left _ (by decide +kernel)) rfl
theorem wc_Model_nextTest : Cond.code y_Model_nextTest b_Model_nextTest 2 (some .int) ∈ ty_w := ty_it 712 (by decide +kernel) rfl
theorem wi_Model_nextTest : Cond.instanceMethod y_Model_nextTest ∈ ty_w := ty_it 711 (by decide +kernel) rfl
theorem ws_Model_nextTest : Cond.selects y_Model_nextTest.cls y_Model_nextTest y_Model_nextTest ∈ ty_w := ty_in (List.mem_append_left _ (by decide +kernel)) rfl
theorem wc_Model_looksAtTimes : Cond.code y_Model_looksAtTimes b_Model_looksAtTimes 2 none ∈ ty_w := ty_it 696 (by decide +kernel) rfl
theorem wi_Model_looksAtTimes : Cond.instanceMethod y_Model_looksAtTimes ∈ ty_w := ty_it 695 (by decide +kernel) rfl
theorem ws_Model_looksAtTimes : Cond.selects y_Model_looksAtTimes.cls y_Model_looksAtTimes y_Model_looksAtTimes ∈ ty_w := ty_in (List.mem_append_left _ (by decide +kernel)) rfl
theorem wc_Model_begins : Cond.code y_Model_begins b_Model_begins 4 none ∈ ty_w := ty_it 704 (by decide +kernel) rfl
theorem wi_Model_begins : Cond.instanceMethod y_Model_begins ∈ ty_w := ty_it 703 (by decide +kernel) rfl
theorem ws_Model_begins : Cond.selects y_Model_begins.cls y_Model_begins y_Model_begins ∈ ty_w := ty_in (List.mem_append_left _ (by decide +kernel)) rfl
theorem wc_Model_isDone : Cond.code y_Model_isDone b_Model_isDone 2 (some .boolean) ∈ ty_w := ty_it 724 (by decide +kernel) rfl
theorem wi_Model_isDone : Cond.instanceMethod y_Model_isDone ∈ ty_w := ty_it 723 (by decide +kernel) rfl
theorem ws_Model_isDone : Cond.selects y_Model_isDone.cls y_Model_isDone y_Model_isDone ∈ ty_w := ty_in (List.mem_append_left _ (by decide +kernel)) rfl
theorem wc_Model_run : Cond.code y_Model_run b_Model_run 4 (some .int) ∈ ty_w := ty_it 685 (by decide +kernel) rfl
theorem wi_Model_run : Cond.instanceMethod y_Model_run ∈ ty_w := ty_it 683 (by decide +kernel) rfl
theorem ws_Model_run : Cond.selects y_Model_run.cls y_Model_run y_Model_run ∈ ty_w := ty_it 684 (by decide +kernel) rfl
theorem wc_Model_look : Cond.code y_Model_look b_Model_look 3 (some .int) ∈ ty_w := ty_it 760 (by decide +kernel) rfl
theorem wi_Model_look : Cond.instanceMethod y_Model_look ∈ ty_w := ty_it 758 (by decide +kernel) rfl
theorem ws_Model_look : Cond.selects y_Model_look.cls y_Model_look y_Model_look ∈ ty_w := ty_it 759 (by decide +kernel) rfl
theorem wc_Model_note : Cond.code y_Model_note b_Model_note 2 (some .int) ∈ ty_w := ty_it 764 (by decide +kernel) rfl
theorem wi_Model_note : Cond.instanceMethod y_Model_note ∈ ty_w := ty_it 762 (by decide +kernel) rfl
theorem ws_Model_note : Cond.selects y_Model_note.cls y_Model_note y_Model_note ∈ ty_w := ty_it 763 (by decide +kernel) rfl
theorem wc_Model_warning : Cond.code y_Model_warning b_Model_warning 2 (some .int) ∈ ty_w := ty_it 768 (by decide +kernel) rfl
theorem wi_Model_warning : Cond.instanceMethod y_Model_warning ∈ ty_w := ty_it 766 (by decide +kernel) rfl
theorem ws_Model_warning : Cond.selects y_Model_warning.cls y_Model_warning y_Model_warning ∈ ty_w := ty_it 767 (by decide +kernel) rfl
theorem wc_Model_count : Cond.code y_Model_count b_Model_count 2 (some .int) ∈ ty_w := ty_it 772 (by decide +kernel) rfl
theorem wi_Model_count : Cond.instanceMethod y_Model_count ∈ ty_w := ty_it 770 (by decide +kernel) rfl
theorem ws_Model_count : Cond.selects y_Model_count.cls y_Model_count y_Model_count ∈ ty_w := ty_it 771 (by decide +kernel) rfl
theorem wc_Course_init : Cond.code y_Course_init b_Course_init 2 none ∈ ty_w := ty_it 26 (by decide +kernel) rfl
theorem wi_Course_init : Cond.instanceMethod y_Course_init ∈ ty_w := ty_it 25 (by decide +kernel) rfl
theorem wc_Course_perform : Cond.code y_Course_perform b_Course_perform 4 (some .int) ∈ ty_w := ty_it 245 (by decide +kernel) rfl
theorem wi_Course_perform : Cond.instanceMethod y_Course_perform ∈ ty_w := ty_it 243 (by decide +kernel) rfl
theorem ws_Course_perform : Cond.selects y_Course_perform.cls y_Course_perform y_Course_perform ∈ ty_w := ty_it 244 (by decide +kernel) rfl
theorem wc_Course_allPassed : Cond.code y_Course_allPassed b_Course_allPassed 2 (some .boolean) ∈ ty_w := ty_it 533 (by decide +kernel) rfl
theorem wi_Course_allPassed : Cond.instanceMethod y_Course_allPassed ∈ ty_w := ty_it 531 (by decide +kernel) rfl
theorem ws_Course_allPassed : Cond.selects y_Course_allPassed.cls y_Course_allPassed y_Course_allPassed ∈ ty_w := ty_it 532 (by decide +kernel) rfl
theorem wc_Course_forgetRun : Cond.code y_Course_forgetRun b_Course_forgetRun 2 none ∈ ty_w := ty_it 249 (by decide +kernel) rfl
theorem wi_Course_forgetRun : Cond.instanceMethod y_Course_forgetRun ∈ ty_w := ty_it 248 (by decide +kernel) rfl
theorem ws_Course_forgetRun : Cond.selects y_Course_forgetRun.cls y_Course_forgetRun y_Course_forgetRun ∈ ty_w := ty_in (List.mem_append_left _ (by decide +kernel)) rfl
theorem wc_Course_stopOverruns : Cond.code y_Course_stopOverruns b_Course_stopOverruns 3 none ∈ ty_w := ty_it 254 (by decide +kernel) rfl
theorem wi_Course_stopOverruns : Cond.instanceMethod y_Course_stopOverruns ∈ ty_w := ty_it 253 (by decide +kernel) rfl
theorem ws_Course_stopOverruns : Cond.selects y_Course_stopOverruns.cls y_Course_stopOverruns y_Course_stopOverruns ∈ ty_w := ty_in (List.mem_append_left _ (by decide +kernel)) rfl
theorem wc_Course_releaseWorkers : Cond.code y_Course_releaseWorkers b_Course_releaseWorkers 2 none ∈ ty_w := ty_it 270 (by decide +kernel) rfl
theorem wi_Course_releaseWorkers : Cond.instanceMethod y_Course_releaseWorkers ∈ ty_w := ty_it 269 (by decide +kernel) rfl
theorem ws_Course_releaseWorkers : Cond.selects y_Course_releaseWorkers.cls y_Course_releaseWorkers y_Course_releaseWorkers ∈ ty_w := ty_in (List.mem_append_left _ (by decide +kernel)) rfl
theorem wc_Course_releaseIfDone : Cond.code y_Course_releaseIfDone b_Course_releaseIfDone 3 none ∈ ty_w := ty_it 274 (by decide +kernel) rfl
theorem wi_Course_releaseIfDone : Cond.instanceMethod y_Course_releaseIfDone ∈ ty_w := ty_it 273 (by decide +kernel) rfl
theorem ws_Course_releaseIfDone : Cond.selects y_Course_releaseIfDone.cls y_Course_releaseIfDone y_Course_releaseIfDone ∈ ty_w := ty_in (List.mem_append_left _ (by decide +kernel)) rfl
theorem wc_Course_beginTrials : Cond.code y_Course_beginTrials b_Course_beginTrials 3 none ∈ ty_w := ty_it 278 (by decide +kernel) rfl
theorem wi_Course_beginTrials : Cond.instanceMethod y_Course_beginTrials ∈ ty_w := ty_it 277 (by decide +kernel) rfl
theorem ws_Course_beginTrials : Cond.selects y_Course_beginTrials.cls y_Course_beginTrials y_Course_beginTrials ∈ ty_w := ty_in (List.mem_append_left _ (by decide +kernel)) rfl
theorem wc_Course_lowestFreeWorker : Cond.code y_Course_lowestFreeWorker b_Course_lowestFreeWorker 2 (some .int) ∈ ty_w := ty_it 282 (by decide +kernel) rfl
theorem wi_Course_lowestFreeWorker : Cond.instanceMethod y_Course_lowestFreeWorker ∈ ty_w := ty_it 281 (by decide +kernel) rfl
theorem ws_Course_lowestFreeWorker : Cond.selects y_Course_lowestFreeWorker.cls y_Course_lowestFreeWorker y_Course_lowestFreeWorker ∈ ty_w := ty_in (List.mem_append_left _ (by decide +kernel)) rfl
theorem wc_Course_canHaveLocks : Cond.code y_Course_canHaveLocks b_Course_canHaveLocks 3 (some .boolean) ∈ ty_w := ty_it 286 (by decide +kernel) rfl
theorem wi_Course_canHaveLocks : Cond.instanceMethod y_Course_canHaveLocks ∈ ty_w := ty_it 285 (by decide +kernel) rfl
theorem ws_Course_canHaveLocks : Cond.selects y_Course_canHaveLocks.cls y_Course_canHaveLocks y_Course_canHaveLocks ∈ ty_w := ty_in (List.mem_append_left _ (by decide +kernel)) rfl
theorem wc_Course_begin : Cond.code y_Course_begin b_Course_begin 4 none ∈ ty_w := ty_it 295 (by decide +kernel) rfl
theorem wi_Course_begin : Cond.instanceMethod y_Course_begin ∈ ty_w := ty_it 294 (by decide +kernel) rfl
theorem ws_Course_begin : Cond.selects y_Course_begin.cls y_Course_begin y_Course_begin ∈ ty_w := ty_in (List.mem_append_left _ (by decide +kernel)) rfl
theorem wc_Course_startStrand : Cond.code y_Course_startStrand b_Course_startStrand 4 none ∈ ty_w := ty_it 299 (by decide +kernel) rfl
theorem wi_Course_startStrand : Cond.instanceMethod y_Course_startStrand ∈ ty_w := ty_it 298 (by decide +kernel) rfl
theorem ws_Course_startStrand : Cond.selects y_Course_startStrand.cls y_Course_startStrand y_Course_startStrand ∈ ty_w := ty_in (List.mem_append_left _ (by decide +kernel)) rfl
theorem wc_Course_countRunning : Cond.code y_Course_countRunning b_Course_countRunning 3 (some .int) ∈ ty_w := ty_it 307 (by decide +kernel) rfl
theorem wi_Course_countRunning : Cond.instanceMethod y_Course_countRunning ∈ ty_w := ty_it 306 (by decide +kernel) rfl
theorem ws_Course_countRunning : Cond.selects y_Course_countRunning.cls y_Course_countRunning y_Course_countRunning ∈ ty_w := ty_in (List.mem_append_left _ (by decide +kernel)) rfl
theorem wc_Course_isFinished : Cond.code y_Course_isFinished b_Course_isFinished 2 (some .boolean) ∈ ty_w := ty_it 314 (by decide +kernel) rfl
theorem wi_Course_isFinished : Cond.instanceMethod y_Course_isFinished ∈ ty_w := ty_it 313 (by decide +kernel) rfl
theorem ws_Course_isFinished : Cond.selects y_Course_isFinished.cls y_Course_isFinished y_Course_isFinished ∈ ty_w := ty_in (List.mem_append_left _ (by decide +kernel)) rfl
theorem wc_Course_takeTurns : Cond.code y_Course_takeTurns b_Course_takeTurns 3 none ∈ ty_w := ty_it 318 (by decide +kernel) rfl
theorem wi_Course_takeTurns : Cond.instanceMethod y_Course_takeTurns ∈ ty_w := ty_it 317 (by decide +kernel) rfl
theorem ws_Course_takeTurns : Cond.selects y_Course_takeTurns.cls y_Course_takeTurns y_Course_takeTurns ∈ ty_w := ty_in (List.mem_append_left _ (by decide +kernel)) rfl
theorem wc_Course_takeTurn : Cond.code y_Course_takeTurn b_Course_takeTurn 4 none ∈ ty_w := ty_it 322 (by decide +kernel) rfl
theorem wi_Course_takeTurn : Cond.instanceMethod y_Course_takeTurn ∈ ty_w := ty_it 321 (by decide +kernel) rfl
theorem ws_Course_takeTurn : Cond.selects y_Course_takeTurn.cls y_Course_takeTurn y_Course_takeTurn ∈ ty_w := ty_in (List.mem_append_left _ (by decide +kernel)) rfl
theorem wc_Course_doAction : Cond.code y_Course_doAction b_Course_doAction 6 (some .boolean) ∈ ty_w := ty_it 326 (by decide +kernel) rfl
theorem wi_Course_doAction : Cond.instanceMethod y_Course_doAction ∈ ty_w := ty_it 325 (by decide +kernel) rfl
theorem ws_Course_doAction : Cond.selects y_Course_doAction.cls y_Course_doAction y_Course_doAction ∈ ty_w := ty_in (List.mem_append_left _ (by decide +kernel)) rfl
theorem wc_Course_actAtOnce : Cond.code y_Course_actAtOnce b_Course_actAtOnce 5 none ∈ ty_w := ty_it 354 (by decide +kernel) rfl
theorem wi_Course_actAtOnce : Cond.instanceMethod y_Course_actAtOnce ∈ ty_w := ty_it 353 (by decide +kernel) rfl
theorem ws_Course_actAtOnce : Cond.selects y_Course_actAtOnce.cls y_Course_actAtOnce y_Course_actAtOnce ∈ ty_w := ty_in (List.mem_append_left _ (by decide +kernel)) rfl
theorem wc_Course_waitIn : Cond.code y_Course_waitIn b_Course_waitIn 6 (some .boolean) ∈ ty_w := ty_it 334 (by decide +kernel) rfl
theorem wi_Course_waitIn : Cond.instanceMethod y_Course_waitIn ∈ ty_w := ty_it 333 (by decide +kernel) rfl
theorem ws_Course_waitIn : Cond.selects y_Course_waitIn.cls y_Course_waitIn y_Course_waitIn ∈ ty_w := ty_in (List.mem_append_left _ (by decide +kernel)) rfl
theorem wc_Course_interrupt : Cond.code y_Course_interrupt b_Course_interrupt 3 (some .boolean) ∈ ty_w := ty_it 342 (by decide +kernel) rfl
theorem wi_Course_interrupt : Cond.instanceMethod y_Course_interrupt ∈ ty_w := ty_it 341 (by decide +kernel) rfl
theorem ws_Course_interrupt : Cond.selects y_Course_interrupt.cls y_Course_interrupt y_Course_interrupt ∈ ty_w := ty_in (List.mem_append_left _ (by decide +kernel)) rfl
theorem wc_Course_areStartedOver : Cond.code y_Course_areStartedOver b_Course_areStartedOver 3 (some .boolean) ∈ ty_w := ty_it 350 (by decide +kernel) rfl
theorem wi_Course_areStartedOver : Cond.instanceMethod y_Course_areStartedOver ∈ ty_w := ty_it 349 (by decide +kernel) rfl
theorem ws_Course_areStartedOver : Cond.selects y_Course_areStartedOver.cls y_Course_areStartedOver y_Course_areStartedOver ∈ ty_w := ty_in (List.mem_append_left _ (by decide +kernel)) rfl
theorem wc_Course_markStartedBy : Cond.code y_Course_markStartedBy b_Course_markStartedBy 3 none ∈ ty_w := ty_it 362 (by decide +kernel) rfl
theorem wi_Course_markStartedBy : Cond.instanceMethod y_Course_markStartedBy ∈ ty_w := ty_it 361 (by decide +kernel) rfl
theorem ws_Course_markStartedBy : Cond.selects y_Course_markStartedBy.cls y_Course_markStartedBy y_Course_markStartedBy ∈ ty_w := ty_in (List.mem_append_left _ (by decide +kernel)) rfl
theorem wc_Course_tellEnd : Cond.code y_Course_tellEnd b_Course_tellEnd 5 none ∈ ty_w := ty_it 366 (by decide +kernel) rfl
theorem wi_Course_tellEnd : Cond.instanceMethod y_Course_tellEnd ∈ ty_w := ty_it 365 (by decide +kernel) rfl
theorem ws_Course_tellEnd : Cond.selects y_Course_tellEnd.cls y_Course_tellEnd y_Course_tellEnd ∈ ty_w := ty_in (List.mem_append_left _ (by decide +kernel)) rfl
theorem wc_Course_leaveRest : Cond.code y_Course_leaveRest b_Course_leaveRest 2 none ∈ ty_w := ty_it 375 (by decide +kernel) rfl
theorem wi_Course_leaveRest : Cond.instanceMethod y_Course_leaveRest ∈ ty_w := ty_it 374 (by decide +kernel) rfl
theorem ws_Course_leaveRest : Cond.selects y_Course_leaveRest.cls y_Course_leaveRest y_Course_leaveRest ∈ ty_w := ty_in (List.mem_append_left _ (by decide +kernel)) rfl
theorem wc_Log_init : Cond.code y_Log_init b_Log_init 2 none ∈ ty_w := ty_it 38 (by decide +kernel) rfl
theorem wi_Log_init : Cond.instanceMethod y_Log_init ∈ ty_w := ty_it 37 (by decide +kernel) rfl
theorem wc_Log_add : Cond.code y_Log_add b_Log_add 2 none ∈ ty_w := ty_it 358 (by decide +kernel) rfl
theorem wi_Log_add : Cond.instanceMethod y_Log_add ∈ ty_w := ty_it 356 (by decide +kernel) rfl
theorem ws_Log_add : Cond.selects y_Log_add.cls y_Log_add y_Log_add ∈ ty_w := ty_it 357 (by decide +kernel) rfl
theorem wc_Log_keeps : Cond.code y_Log_keeps b_Log_keeps 2 (some .boolean) ∈ ty_w := ty_it 515 (by decide +kernel) rfl
theorem wi_Log_keeps : Cond.instanceMethod y_Log_keeps ∈ ty_w := ty_it 513 (by decide +kernel) rfl
theorem ws_Log_keeps : Cond.selects y_Log_keeps.cls y_Log_keeps y_Log_keeps ∈ ty_w := ty_it 514 (by decide +kernel) rfl
theorem wc_Program_init : Cond.code y_Program_init b_Program_init 1 none ∈ ty_w := ty_it 54 (by decide +kernel) rfl
theorem wi_Program_init : Cond.instanceMethod y_Program_init ∈ ty_w := ty_it 53 (by decide +kernel) rfl
theorem wc_Program_add : Cond.code y_Program_add b_Program_add 3 none ∈ ty_w := ty_it 471 (by decide +kernel) rfl
theorem wi_Program_add : Cond.instanceMethod y_Program_add ∈ ty_w := ty_it 469 (by decide +kernel) rfl
theorem ws_Program_add : Cond.selects y_Program_add.cls y_Program_add y_Program_add ∈ ty_w := ty_it 470 (by decide +kernel) rfl
theorem wc_Program_endOfGuard : Cond.code y_Program_endOfGuard b_Program_endOfGuard 5 (some .int) ∈ ty_w := ty_it 475 (by decide +kernel) rfl
theorem wi_Program_endOfGuard : Cond.instanceMethod y_Program_endOfGuard ∈ ty_w := ty_it 474 (by decide +kernel) rfl
theorem ws_Program_endOfGuard : Cond.selects y_Program_endOfGuard.cls y_Program_endOfGuard y_Program_endOfGuard ∈ ty_w := ty_in (List.mem_append_left _ (by decide +kernel)) rfl
theorem wc_Program_endOfGuardAround : Cond.code y_Program_endOfGuardAround b_Program_endOfGuardAround 3 (some .int) ∈ ty_w := ty_it 346 (by decide +kernel) rfl
theorem wi_Program_endOfGuardAround : Cond.instanceMethod y_Program_endOfGuardAround ∈ ty_w := ty_it 344 (by decide +kernel) rfl
theorem ws_Program_endOfGuardAround : Cond.selects y_Program_endOfGuardAround.cls y_Program_endOfGuardAround y_Program_endOfGuardAround ∈ ty_w := ty_it 345 (by decide +kernel) rfl
theorem wc_Strand_init : Cond.code y_Strand_init b_Strand_init 1 none ∈ ty_w := ty_it 141 (by decide +kernel) rfl
theorem wi_Strand_init : Cond.instanceMethod y_Strand_init ∈ ty_w := ty_it 140 (by decide +kernel) rfl
theorem wc_Strand_start : Cond.code y_Strand_start b_Strand_start 4 none ∈ ty_w := ty_it 303 (by decide +kernel) rfl
theorem wi_Strand_start : Cond.instanceMethod y_Strand_start ∈ ty_w := ty_it 301 (by decide +kernel) rfl
theorem ws_Strand_start : Cond.selects y_Strand_start.cls y_Strand_start y_Strand_start ∈ ty_w := ty_it 302 (by decide +kernel) rfl
theorem wc_Strand_end : Cond.code y_Strand_end b_Strand_end 2 none ∈ ty_w := ty_it 330 (by decide +kernel) rfl
theorem wi_Strand_end : Cond.instanceMethod y_Strand_end ∈ ty_w := ty_it 328 (by decide +kernel) rfl
theorem ws_Strand_end : Cond.selects y_Strand_end.cls y_Strand_end y_Strand_end ∈ ty_w := ty_it 329 (by decide +kernel) rfl
theorem wc_Strand_takeMark : Cond.code y_Strand_takeMark b_Strand_takeMark 2 (some .boolean) ∈ ty_w := ty_it 338 (by decide +kernel) rfl
theorem wi_Strand_takeMark : Cond.instanceMethod y_Strand_takeMark ∈ ty_w := ty_it 336 (by decide +kernel) rfl
theorem ws_Strand_takeMark : Cond.selects y_Strand_takeMark.cls y_Strand_takeMark y_Strand_takeMark ∈ ty_w := ty_it 337 (by decide +kernel) rfl
theorem wc_Trial_init : Cond.code y_Trial_init b_Trial_init 1 none ∈ ty_w := ty_it 76 (by decide +kernel) rfl
theorem wi_Trial_init : Cond.instanceMethod y_Trial_init ∈ ty_w := ty_it 75 (by decide +kernel) rfl
theorem wc_Trial_define : Cond.code y_Trial_define b_Trial_define 5 none ∈ ty_w := ty_it 490 (by decide +kernel) rfl
theorem wi_Trial_define : Cond.instanceMethod y_Trial_define ∈ ty_w := ty_it 488 (by decide +kernel) rfl
theorem ws_Trial_define : Cond.selects y_Trial_define.cls y_Trial_define y_Trial_define ∈ ty_w := ty_it 489 (by decide +kernel) rfl
theorem wc_Trial_forgetRun : Cond.code y_Trial_forgetRun b_Trial_forgetRun 1 none ∈ ty_w := ty_it 81 (by decide +kernel) rfl
theorem wi_Trial_forgetRun : Cond.instanceMethod y_Trial_forgetRun ∈ ty_w := ty_it 79 (by decide +kernel) rfl
theorem ws_Trial_forgetRun : Cond.selects y_Trial_forgetRun.cls y_Trial_forgetRun y_Trial_forgetRun ∈ ty_w := ty_it 80 (by decide +kernel) rfl
theorem wc_Trial_isRunning : Cond.code y_Trial_isRunning b_Trial_isRunning 1 (some .boolean) ∈ ty_w := ty_it 262 (by decide +kernel) rfl
theorem wi_Trial_isRunning : Cond.instanceMethod y_Trial_isRunning ∈ ty_w := ty_it 260 (by decide +kernel) rfl
theorem ws_Trial_isRunning : Cond.selects y_Trial_isRunning.cls y_Trial_isRunning y_Trial_isRunning ∈ ty_w := ty_it 261 (by decide +kernel) rfl
theorem wc_Trial_overrunsAt : Cond.code y_Trial_overrunsAt b_Trial_overrunsAt 2 (some .boolean) ∈ ty_w := ty_it 258 (by decide +kernel) rfl
theorem wi_Trial_overrunsAt : Cond.instanceMethod y_Trial_overrunsAt ∈ ty_w := ty_it 256 (by decide +kernel) rfl
theorem ws_Trial_overrunsAt : Cond.selects y_Trial_overrunsAt.cls y_Trial_overrunsAt y_Trial_overrunsAt ∈ ty_w := ty_it 257 (by decide +kernel) rfl
theorem wc_Trial_hindersLocksOf : Cond.code y_Trial_hindersLocksOf b_Trial_hindersLocksOf 2 (some .boolean) ∈ ty_w := ty_it 291 (by decide +kernel) rfl
theorem wi_Trial_hindersLocksOf : Cond.instanceMethod y_Trial_hindersLocksOf ∈ ty_w := ty_it 289 (by decide +kernel) rfl
theorem ws_Trial_hindersLocksOf : Cond.selects y_Trial_hindersLocksOf.cls y_Trial_hindersLocksOf y_Trial_hindersLocksOf ∈ ty_w := ty_it 290 (by decide +kernel) rfl
theorem wc_Trial_decide : Cond.code y_Trial_decide b_Trial_decide 3 none ∈ ty_w := ty_it 266 (by decide +kernel) rfl
theorem wi_Trial_decide : Cond.instanceMethod y_Trial_decide ∈ ty_w := ty_it 264 (by decide +kernel) rfl
theorem ws_Trial_decide : Cond.selects y_Trial_decide.cls y_Trial_decide y_Trial_decide ∈ ty_w := ty_it 265 (by decide +kernel) rfl
theorem wc_Trial_decideByDeath : Cond.code y_Trial_decideByDeath b_Trial_decideByDeath 3 none ∈ ty_w := ty_it 370 (by decide +kernel) rfl
theorem wi_Trial_decideByDeath : Cond.instanceMethod y_Trial_decideByDeath ∈ ty_w := ty_it 368 (by decide +kernel) rfl
theorem ws_Trial_decideByDeath : Cond.selects y_Trial_decideByDeath.cls y_Trial_decideByDeath y_Trial_decideByDeath ∈ ty_w := ty_it 369 (by decide +kernel) rfl
theorem wn_Yard : Cond.initialized R_Yard ∈ ty_w := ty_it 1 (by decide +kernel) rfl
theorem wn_Course : Cond.initialized R_Course ∈ ty_w := ty_it 2 (by decide +kernel) rfl
theorem wn_Program : Cond.initialized R_Program ∈ ty_w := ty_it 4 (by decide +kernel) rfl
theorem wn_Trial : Cond.initialized R_Trial ∈ ty_w := ty_it 5 (by decide +kernel) rfl
theorem wn_Strand : Cond.initialized R_Strand ∈ ty_w := ty_it 6 (by decide +kernel) rfl
theorem wn_Log : Cond.initialized R_Log ∈ ty_w := ty_it 3 (by decide +kernel) rfl
theorem wn_Model : Cond.initialized R_Model ∈ ty_w := ty_it 7 (by decide +kernel) rfl
theorem ml_Yard_3 : Cond.methodLink R_Yard 3 ⟨"java/lang/Object", "<init>", "()V"⟩ ∈ ty_w := ty_it 19 (by decide +kernel) rfl
theorem ml_Yard_11 : Cond.methodLink R_Yard 11 y_Course_init ∈ ty_w := ty_it 24 (by decide +kernel) rfl
theorem fl_Yard_12 : Cond.fieldLink R_Yard 12 R_Yard (F_Yard 0).2.1 (F_Yard 0).2.2.1 ∈ ty_w := ty_it 228 (by decide +kernel) rfl
theorem fl_Yard_16 : Cond.fieldLink R_Yard 16 R_Yard (F_Yard 1).2.1 (F_Yard 1).2.2.1 ∈ ty_w := ty_it 229 (by decide +kernel) rfl
theorem fl_Yard_20 : Cond.fieldLink R_Yard 20 R_Yard (F_Yard 2).2.1 (F_Yard 2).2.2.1 ∈ ty_w := ty_it 230 (by decide +kernel) rfl
theorem ml_Yard_23 : Cond.methodLink R_Yard 23 y_Yard_isWithin ∈ ty_w := ty_it 385 (by decide +kernel) rfl
theorem ml_Yard_27 : Cond.methodLink R_Yard 27 y_Yard_isAction ∈ ty_w := ty_it 388 (by decide +kernel) rfl
theorem ml_Yard_33 : Cond.methodLink R_Yard 33 ⟨"java/lang/IllegalArgumentException", "<init>", "()V"⟩ ∈ ty_w := ty_it 431 (by decide +kernel) rfl
theorem fl_Yard_34 : Cond.fieldLink R_Yard 34 R_Course (F_Course 0).2.1 (F_Course 0).2.2.1 ∈ ty_w := ty_it 185 (by decide +kernel) rfl
theorem fl_Yard_38 : Cond.fieldLink R_Yard 38 R_Program (F_Program 3).2.1 (F_Program 3).2.2.1 ∈ ty_w := ty_it 62 (by decide +kernel) rfl
theorem ml_Yard_45 : Cond.methodLink R_Yard 45 ⟨"java/lang/IndexOutOfBoundsException", "<init>", "()V"⟩ ∈ ty_w := ty_it 462 (by decide +kernel) rfl
theorem ml_Yard_46 : Cond.methodLink R_Yard 46 y_Program_add ∈ ty_w := ty_it 468 (by decide +kernel) rfl
theorem fl_Yard_50 : Cond.fieldLink R_Yard 50 R_Course (F_Course 1).2.1 (F_Course 1).2.2.1 ∈ ty_w := ty_it 187 (by decide +kernel) rfl
theorem ml_Yard_54 : Cond.methodLink R_Yard 54 y_Trial_define ∈ ty_w := ty_it 487 (by decide +kernel) rfl
theorem ml_Yard_60 : Cond.methodLink R_Yard 60 y_Course_perform ∈ ty_w := ty_it 242 (by decide +kernel) rfl
theorem fl_Yard_64 : Cond.fieldLink R_Yard 64 R_Trial (F_Trial 4).2.1 (F_Trial 4).2.2.1 ∈ ty_w := ty_it 89 (by decide +kernel) rfl
theorem fl_Yard_67 : Cond.fieldLink R_Yard 67 R_Trial (F_Trial 5).2.1 (F_Trial 5).2.2.1 ∈ ty_w := ty_it 91 (by decide +kernel) rfl
theorem fl_Yard_70 : Cond.fieldLink R_Yard 70 R_Trial (F_Trial 6).2.1 (F_Trial 6).2.2.1 ∈ ty_w := ty_it 93 (by decide +kernel) rfl
theorem fl_Yard_73 : Cond.fieldLink R_Yard 73 R_Trial (F_Trial 7).2.1 (F_Trial 7).2.2.1 ∈ ty_w := ty_it 96 (by decide +kernel) rfl
theorem fl_Yard_76 : Cond.fieldLink R_Yard 76 R_Trial (F_Trial 8).2.1 (F_Trial 8).2.2.1 ∈ ty_w := ty_it 99 (by decide +kernel) rfl
theorem fl_Yard_79 : Cond.fieldLink R_Yard 79 R_Trial (F_Trial 9).2.1 (F_Trial 9).2.2.1 ∈ ty_w := ty_it 102 (by decide +kernel) rfl
theorem fl_Yard_83 : Cond.fieldLink R_Yard 83 R_Trial (F_Trial 10).2.1 (F_Trial 10).2.2.1 ∈ ty_w := ty_it 105 (by decide +kernel) rfl
theorem fl_Yard_86 : Cond.fieldLink R_Yard 86 R_Course (F_Course 4).2.1 (F_Course 4).2.2.1 ∈ ty_w := ty_it 191 (by decide +kernel) rfl
theorem ml_Yard_90 : Cond.methodLink R_Yard 90 y_Log_keeps ∈ ty_w := ty_it 512 (by decide +kernel) rfl
theorem fl_Yard_96 : Cond.fieldLink R_Yard 96 R_Log (F_Log 0).2.1 (F_Log 0).2.2.1 ∈ ty_w := ty_it 41 (by decide +kernel) rfl
theorem fl_Yard_100 : Cond.fieldLink R_Yard 100 R_Course (F_Course 5).2.1 (F_Course 5).2.2.1 ∈ ty_w := ty_it 193 (by decide +kernel) rfl
theorem fl_Yard_103 : Cond.fieldLink R_Yard 103 R_Log (F_Log 1).2.1 (F_Log 1).2.2.1 ∈ ty_w := ty_it 44 (by decide +kernel) rfl
theorem fl_Yard_104 : Cond.fieldLink R_Yard 104 R_Course (F_Course 9).2.1 (F_Course 9).2.2.1 ∈ ty_w := ty_it 199 (by decide +kernel) rfl
theorem fl_Yard_107 : Cond.fieldLink R_Yard 107 R_Course (F_Course 8).2.1 (F_Course 8).2.2.1 ∈ ty_w := ty_it 197 (by decide +kernel) rfl
theorem fl_Yard_108 : Cond.fieldLink R_Yard 108 R_Course (F_Course 10).2.1 (F_Course 10).2.2.1 ∈ ty_w := ty_it 201 (by decide +kernel) rfl
theorem ml_Yard_111 : Cond.methodLink R_Yard 111 y_Course_allPassed ∈ ty_w := ty_it 530 (by decide +kernel) rfl
theorem ml_Model_1 : Cond.methodLink R_Model 1 ⟨"java/lang/Object", "<init>", "()V"⟩ ∈ ty_w := ty_it 539 (by decide +kernel) rfl
theorem fl_Model_7 : Cond.fieldLink R_Model 7 R_Model (F_Model 2).2.1 (F_Model 2).2.2.1 ∈ ty_w := ty_it 542 (by decide +kernel) rfl
theorem fl_Model_13 : Cond.fieldLink R_Model 13 R_Model (F_Model 10).2.1 (F_Model 10).2.2.1 ∈ ty_w := ty_it 550 (by decide +kernel) rfl
theorem fl_Model_17 : Cond.fieldLink R_Model 17 R_Model (F_Model 11).2.1 (F_Model 11).2.2.1 ∈ ty_w := ty_it 551 (by decide +kernel) rfl
theorem fl_Model_20 : Cond.fieldLink R_Model 20 R_Model (F_Model 12).2.1 (F_Model 12).2.2.1 ∈ ty_w := ty_it 552 (by decide +kernel) rfl
theorem fl_Model_23 : Cond.fieldLink R_Model 23 R_Model (F_Model 13).2.1 (F_Model 13).2.2.1 ∈ ty_w := ty_it 553 (by decide +kernel) rfl
theorem fl_Model_26 : Cond.fieldLink R_Model 26 R_Model (F_Model 14).2.1 (F_Model 14).2.2.1 ∈ ty_w := ty_it 554 (by decide +kernel) rfl
theorem fl_Model_29 : Cond.fieldLink R_Model 29 R_Model (F_Model 15).2.1 (F_Model 15).2.2.1 ∈ ty_w := ty_it 555 (by decide +kernel) rfl
theorem fl_Model_32 : Cond.fieldLink R_Model 32 R_Model (F_Model 16).2.1 (F_Model 16).2.2.1 ∈ ty_w := ty_it 556 (by decide +kernel) rfl
theorem fl_Model_35 : Cond.fieldLink R_Model 35 R_Model (F_Model 17).2.1 (F_Model 17).2.2.1 ∈ ty_w := ty_it 557 (by decide +kernel) rfl
theorem fl_Model_38 : Cond.fieldLink R_Model 38 R_Model (F_Model 18).2.1 (F_Model 18).2.2.1 ∈ ty_w := ty_it 558 (by decide +kernel) rfl
theorem fl_Model_41 : Cond.fieldLink R_Model 41 R_Model (F_Model 19).2.1 (F_Model 19).2.2.1 ∈ ty_w := ty_it 559 (by decide +kernel) rfl
theorem fl_Model_44 : Cond.fieldLink R_Model 44 R_Model (F_Model 20).2.1 (F_Model 20).2.2.1 ∈ ty_w := ty_it 560 (by decide +kernel) rfl
theorem fl_Model_47 : Cond.fieldLink R_Model 47 R_Model (F_Model 21).2.1 (F_Model 21).2.2.1 ∈ ty_w := ty_it 561 (by decide +kernel) rfl
theorem fl_Model_50 : Cond.fieldLink R_Model 50 R_Model (F_Model 22).2.1 (F_Model 22).2.2.1 ∈ ty_w := ty_it 562 (by decide +kernel) rfl
theorem fl_Model_53 : Cond.fieldLink R_Model 53 R_Model (F_Model 23).2.1 (F_Model 23).2.2.1 ∈ ty_w := ty_it 563 (by decide +kernel) rfl
theorem fl_Model_56 : Cond.fieldLink R_Model 56 R_Model (F_Model 24).2.1 (F_Model 24).2.2.1 ∈ ty_w := ty_it 564 (by decide +kernel) rfl
theorem fl_Model_59 : Cond.fieldLink R_Model 59 R_Model (F_Model 25).2.1 (F_Model 25).2.2.1 ∈ ty_w := ty_it 565 (by decide +kernel) rfl
theorem fl_Model_62 : Cond.fieldLink R_Model 62 R_Model (F_Model 26).2.1 (F_Model 26).2.2.1 ∈ ty_w := ty_it 566 (by decide +kernel) rfl
theorem fl_Model_66 : Cond.fieldLink R_Model 66 R_Model (F_Model 27).2.1 (F_Model 27).2.2.1 ∈ ty_w := ty_it 567 (by decide +kernel) rfl
theorem fl_Model_69 : Cond.fieldLink R_Model 69 R_Model (F_Model 28).2.1 (F_Model 28).2.2.1 ∈ ty_w := ty_it 568 (by decide +kernel) rfl
theorem fl_Model_72 : Cond.fieldLink R_Model 72 R_Model (F_Model 29).2.1 (F_Model 29).2.2.1 ∈ ty_w := ty_it 569 (by decide +kernel) rfl
theorem fl_Model_75 : Cond.fieldLink R_Model 75 R_Model (F_Model 30).2.1 (F_Model 30).2.2.1 ∈ ty_w := ty_it 570 (by decide +kernel) rfl
theorem fl_Model_78 : Cond.fieldLink R_Model 78 R_Model (F_Model 31).2.1 (F_Model 31).2.2.1 ∈ ty_w := ty_it 571 (by decide +kernel) rfl
theorem fl_Model_81 : Cond.fieldLink R_Model 81 R_Model (F_Model 32).2.1 (F_Model 32).2.2.1 ∈ ty_w := ty_it 572 (by decide +kernel) rfl
theorem fl_Model_84 : Cond.fieldLink R_Model 84 R_Model (F_Model 33).2.1 (F_Model 33).2.2.1 ∈ ty_w := ty_it 573 (by decide +kernel) rfl
theorem fl_Model_87 : Cond.fieldLink R_Model 87 R_Model (F_Model 34).2.1 (F_Model 34).2.2.1 ∈ ty_w := ty_it 574 (by decide +kernel) rfl
theorem fl_Model_90 : Cond.fieldLink R_Model 90 R_Model (F_Model 35).2.1 (F_Model 35).2.2.1 ∈ ty_w := ty_it 575 (by decide +kernel) rfl
theorem fl_Model_93 : Cond.fieldLink R_Model 93 R_Model (F_Model 36).2.1 (F_Model 36).2.2.1 ∈ ty_w := ty_it 576 (by decide +kernel) rfl
theorem fl_Model_96 : Cond.fieldLink R_Model 96 R_Model (F_Model 37).2.1 (F_Model 37).2.2.1 ∈ ty_w := ty_it 577 (by decide +kernel) rfl
theorem fl_Model_99 : Cond.fieldLink R_Model 99 R_Model (F_Model 0).2.1 (F_Model 0).2.2.1 ∈ ty_w := ty_it 540 (by decide +kernel) rfl
theorem ml_Model_102 : Cond.methodLink R_Model 102 y_Model_in ∈ ty_w := ty_it 664 (by decide +kernel) rfl
theorem ml_Model_106 : Cond.methodLink R_Model 106 y_Model_fits ∈ ty_w := ty_it 667 (by decide +kernel) rfl
theorem ml_Model_110 : Cond.methodLink R_Model 110 y_Model_fails ∈ ty_w := ty_it 670 (by decide +kernel) rfl
theorem fl_Model_114 : Cond.fieldLink R_Model 114 R_Model (F_Model 1).2.1 (F_Model 1).2.2.1 ∈ ty_w := ty_it 541 (by decide +kernel) rfl
theorem fl_Model_117 : Cond.fieldLink R_Model 117 R_Model (F_Model 3).2.1 (F_Model 3).2.2.1 ∈ ty_w := ty_it 543 (by decide +kernel) rfl
theorem fl_Model_120 : Cond.fieldLink R_Model 120 R_Model (F_Model 5).2.1 (F_Model 5).2.2.1 ∈ ty_w := ty_it 545 (by decide +kernel) rfl
theorem ml_Model_123 : Cond.methodLink R_Model 123 y_Model_warns ∈ ty_w := ty_it 737 (by decide +kernel) rfl
theorem ml_Model_127 : Cond.methodLink R_Model 127 y_Model_judged ∈ ty_w := ty_it 697 (by decide +kernel) rfl
theorem fl_Model_131 : Cond.fieldLink R_Model 131 R_Model (F_Model 8).2.1 (F_Model 8).2.2.1 ∈ ty_w := ty_it 548 (by decide +kernel) rfl
theorem ml_Model_134 : Cond.methodLink R_Model 134 y_Model_least ∈ ty_w := ty_it 690 (by decide +kernel) rfl
theorem ml_Model_138 : Cond.methodLink R_Model 138 y_Model_ends ∈ ty_w := ty_it 733 (by decide +kernel) rfl
theorem ml_Model_140 : Cond.methodLink R_Model 140 y_Model_interrupts ∈ ty_w := ty_it 729 (by decide +kernel) rfl
theorem ml_Model_143 : Cond.methodLink R_Model 143 y_Model_joined ∈ ty_w := ty_it 741 (by decide +kernel) rfl
theorem ml_Model_147 : Cond.methodLink R_Model 147 y_Model_acts ∈ ty_w := ty_it 745 (by decide +kernel) rfl
theorem fl_Model_150 : Cond.fieldLink R_Model 150 R_Model (F_Model 4).2.1 (F_Model 4).2.2.1 ∈ ty_w := ty_it 544 (by decide +kernel) rfl
theorem ml_Model_153 : Cond.methodLink R_Model 153 y_Model_waits ∈ ty_w := ty_it 749 (by decide +kernel) rfl
theorem ml_Model_156 : Cond.methodLink R_Model 156 y_Model_starts ∈ ty_w := ty_it 717 (by decide +kernel) rfl
theorem ml_Model_160 : Cond.methodLink R_Model 160 y_Model_says ∈ ty_w := ty_it 753 (by decide +kernel) rfl
theorem ml_Model_163 : Cond.methodLink R_Model 163 y_Model_canHave ∈ ty_w := ty_it 713 (by decide +kernel) rfl
theorem ml_Model_166 : Cond.methodLink R_Model 166 y_Model_isFree ∈ ty_w := ty_it 705 (by decide +kernel) rfl
theorem ml_Model_169 : Cond.methodLink R_Model 169 y_Model_nextTest ∈ ty_w := ty_it 709 (by decide +kernel) rfl
theorem fl_Model_173 : Cond.fieldLink R_Model 173 R_Model (F_Model 7).2.1 (F_Model 7).2.2.1 ∈ ty_w := ty_it 547 (by decide +kernel) rfl
theorem fl_Model_176 : Cond.fieldLink R_Model 176 R_Model (F_Model 6).2.1 (F_Model 6).2.2.1 ∈ ty_w := ty_it 546 (by decide +kernel) rfl
theorem ml_Model_179 : Cond.methodLink R_Model 179 y_Model_guards ∈ ty_w := ty_it 686 (by decide +kernel) rfl
theorem ml_Model_182 : Cond.methodLink R_Model 182 y_Model_looksAtTimes ∈ ty_w := ty_it 693 (by decide +kernel) rfl
theorem ml_Model_185 : Cond.methodLink R_Model 185 y_Model_begins ∈ ty_w := ty_it 701 (by decide +kernel) rfl
theorem ml_Model_188 : Cond.methodLink R_Model 188 y_Model_isDone ∈ ty_w := ty_it 721 (by decide +kernel) rfl
theorem ml_Model_192 : Cond.methodLink R_Model 192 y_Model_turn ∈ ty_w := ty_it 725 (by decide +kernel) rfl
theorem fl_Model_196 : Cond.fieldLink R_Model 196 R_Model (F_Model 9).2.1 (F_Model 9).2.2.1 ∈ ty_w := ty_it 549 (by decide +kernel) rfl
theorem ml_Course_3 : Cond.methodLink R_Course 3 ⟨"java/lang/Object", "<init>", "()V"⟩ ∈ ty_w := ty_it 27 (by decide +kernel) rfl
theorem fl_Course_11 : Cond.fieldLink R_Course 11 R_Course (F_Course 0).2.1 (F_Course 0).2.2.1 ∈ ty_w := ty_it 184 (by decide +kernel) rfl
theorem fl_Course_19 : Cond.fieldLink R_Course 19 R_Course (F_Course 1).2.1 (F_Course 1).2.2.1 ∈ ty_w := ty_it 186 (by decide +kernel) rfl
theorem fl_Course_25 : Cond.fieldLink R_Course 25 R_Course (F_Course 2).2.1 (F_Course 2).2.2.1 ∈ ty_w := ty_it 188 (by decide +kernel) rfl
theorem fl_Course_29 : Cond.fieldLink R_Course 29 R_Course (F_Course 3).2.1 (F_Course 3).2.2.1 ∈ ty_w := ty_it 189 (by decide +kernel) rfl
theorem ml_Course_35 : Cond.methodLink R_Course 35 y_Log_init ∈ ty_w := ty_it 36 (by decide +kernel) rfl
theorem fl_Course_38 : Cond.fieldLink R_Course 38 R_Course (F_Course 4).2.1 (F_Course 4).2.2.1 ∈ ty_w := ty_it 190 (by decide +kernel) rfl
theorem fl_Course_42 : Cond.fieldLink R_Course 42 R_Course (F_Course 5).2.1 (F_Course 5).2.2.1 ∈ ty_w := ty_it 192 (by decide +kernel) rfl
theorem ml_Course_46 : Cond.methodLink R_Course 46 y_Trial_init ∈ ty_w := ty_it 74 (by decide +kernel) rfl
theorem fl_Course_48 : Cond.fieldLink R_Course 48 R_Course (F_Course 6).2.1 (F_Course 6).2.2.1 ∈ ty_w := ty_it 194 (by decide +kernel) rfl
theorem fl_Course_52 : Cond.fieldLink R_Course 52 R_Course (F_Course 7).2.1 (F_Course 7).2.2.1 ∈ ty_w := ty_it 195 (by decide +kernel) rfl
theorem ml_Course_55 : Cond.methodLink R_Course 55 y_Course_forgetRun ∈ ty_w := ty_it 246 (by decide +kernel) rfl
theorem ml_Course_58 : Cond.methodLink R_Course 58 y_Course_stopOverruns ∈ ty_w := ty_it 251 (by decide +kernel) rfl
theorem ml_Course_61 : Cond.methodLink R_Course 61 y_Course_releaseWorkers ∈ ty_w := ty_it 267 (by decide +kernel) rfl
theorem ml_Course_64 : Cond.methodLink R_Course 64 y_Course_beginTrials ∈ ty_w := ty_it 275 (by decide +kernel) rfl
theorem fl_Course_67 : Cond.fieldLink R_Course 67 R_Course (F_Course 10).2.1 (F_Course 10).2.2.1 ∈ ty_w := ty_it 200 (by decide +kernel) rfl
theorem ml_Course_70 : Cond.methodLink R_Course 70 y_Course_countRunning ∈ ty_w := ty_it 304 (by decide +kernel) rfl
theorem ml_Course_74 : Cond.methodLink R_Course 74 ⟨"java/lang/Math", "max", "(II)I"⟩ ∈ ty_w := ty_it 308 (by decide +kernel) rfl
theorem ml_Course_80 : Cond.methodLink R_Course 80 y_Course_isFinished ∈ ty_w := ty_it 311 (by decide +kernel) rfl
theorem ml_Course_84 : Cond.methodLink R_Course 84 y_Course_takeTurns ∈ ty_w := ty_it 315 (by decide +kernel) rfl
theorem fl_Course_87 : Cond.fieldLink R_Course 87 R_Course (F_Course 11).2.1 (F_Course 11).2.2.1 ∈ ty_w := ty_it 202 (by decide +kernel) rfl
theorem ml_Course_90 : Cond.methodLink R_Course 90 y_Course_leaveRest ∈ ty_w := ty_it 372 (by decide +kernel) rfl
theorem fl_Course_93 : Cond.fieldLink R_Course 93 R_Trial (F_Trial 4).2.1 (F_Trial 4).2.2.1 ∈ ty_w := ty_it 88 (by decide +kernel) rfl
theorem ml_Course_96 : Cond.methodLink R_Course 96 y_Trial_forgetRun ∈ ty_w := ty_it 250 (by decide +kernel) rfl
theorem fl_Course_97 : Cond.fieldLink R_Course 97 R_Log (F_Log 1).2.1 (F_Log 1).2.2.1 ∈ ty_w := ty_it 43 (by decide +kernel) rfl
theorem fl_Course_100 : Cond.fieldLink R_Course 100 R_Course (F_Course 8).2.1 (F_Course 8).2.2.1 ∈ ty_w := ty_it 196 (by decide +kernel) rfl
theorem fl_Course_103 : Cond.fieldLink R_Course 103 R_Course (F_Course 9).2.1 (F_Course 9).2.2.1 ∈ ty_w := ty_it 198 (by decide +kernel) rfl
theorem ml_Course_106 : Cond.methodLink R_Course 106 y_Trial_overrunsAt ∈ ty_w := ty_it 255 (by decide +kernel) rfl
theorem ml_Course_110 : Cond.methodLink R_Course 110 y_Trial_decide ∈ ty_w := ty_it 263 (by decide +kernel) rfl
theorem fl_Course_114 : Cond.fieldLink R_Course 114 R_Trial (F_Trial 11).2.1 (F_Trial 11).2.2.1 ∈ ty_w := ty_it 108 (by decide +kernel) rfl
theorem fl_Course_117 : Cond.fieldLink R_Course 117 R_Strand (F_Strand 6).2.1 (F_Strand 6).2.2.1 ∈ ty_w := ty_it 156 (by decide +kernel) rfl
theorem ml_Course_121 : Cond.methodLink R_Course 121 y_Course_releaseIfDone ∈ ty_w := ty_it 271 (by decide +kernel) rfl
theorem fl_Course_125 : Cond.fieldLink R_Course 125 R_Strand (F_Strand 8).2.1 (F_Strand 8).2.2.1 ∈ ty_w := ty_it 160 (by decide +kernel) rfl
theorem fl_Course_128 : Cond.fieldLink R_Course 128 R_Trial (F_Trial 7).2.1 (F_Trial 7).2.2.1 ∈ ty_w := ty_it 97 (by decide +kernel) rfl
theorem fl_Course_131 : Cond.fieldLink R_Course 131 R_Trial (F_Trial 9).2.1 (F_Trial 9).2.2.1 ∈ ty_w := ty_it 103 (by decide +kernel) rfl
theorem ml_Course_134 : Cond.methodLink R_Course 134 y_Course_lowestFreeWorker ∈ ty_w := ty_it 279 (by decide +kernel) rfl
theorem fl_Course_137 : Cond.fieldLink R_Course 137 R_Trial (F_Trial 6).2.1 (F_Trial 6).2.2.1 ∈ ty_w := ty_it 94 (by decide +kernel) rfl
theorem ml_Course_140 : Cond.methodLink R_Course 140 y_Course_canHaveLocks ∈ ty_w := ty_it 283 (by decide +kernel) rfl
theorem ml_Course_144 : Cond.methodLink R_Course 144 y_Course_begin ∈ ty_w := ty_it 292 (by decide +kernel) rfl
theorem ml_Course_147 : Cond.methodLink R_Course 147 y_Trial_isRunning ∈ ty_w := ty_it 287 (by decide +kernel) rfl
theorem ml_Course_150 : Cond.methodLink R_Course 150 y_Trial_hindersLocksOf ∈ ty_w := ty_it 288 (by decide +kernel) rfl
theorem fl_Course_153 : Cond.fieldLink R_Course 153 R_Trial (F_Trial 8).2.1 (F_Trial 8).2.2.1 ∈ ty_w := ty_it 100 (by decide +kernel) rfl
theorem fl_Course_156 : Cond.fieldLink R_Course 156 R_Trial (F_Trial 0).2.1 (F_Trial 0).2.2.1 ∈ ty_w := ty_it 83 (by decide +kernel) rfl
theorem ml_Course_159 : Cond.methodLink R_Course 159 y_Course_startStrand ∈ ty_w := ty_it 296 (by decide +kernel) rfl
theorem ml_Course_163 : Cond.methodLink R_Course 163 y_Strand_start ∈ ty_w := ty_it 300 (by decide +kernel) rfl
theorem fl_Course_166 : Cond.fieldLink R_Course 166 R_Trial (F_Trial 10).2.1 (F_Trial 10).2.2.1 ∈ ty_w := ty_it 106 (by decide +kernel) rfl
theorem ml_Course_167 : Cond.methodLink R_Course 167 y_Course_takeTurn ∈ ty_w := ty_it 319 (by decide +kernel) rfl
theorem ml_Course_170 : Cond.methodLink R_Course 170 y_Course_doAction ∈ ty_w := ty_it 323 (by decide +kernel) rfl
theorem ml_Course_173 : Cond.methodLink R_Course 173 y_Course_tellEnd ∈ ty_w := ty_it 363 (by decide +kernel) rfl
theorem fl_Course_176 : Cond.fieldLink R_Course 176 R_Strand (F_Strand 0).2.1 (F_Strand 0).2.2.1 ∈ ty_w := ty_it 144 (by decide +kernel) rfl
theorem fl_Course_177 : Cond.fieldLink R_Course 177 R_Strand (F_Strand 3).2.1 (F_Strand 3).2.2.1 ∈ ty_w := ty_it 150 (by decide +kernel) rfl
theorem fl_Course_180 : Cond.fieldLink R_Course 180 R_Program (F_Program 3).2.1 (F_Program 3).2.2.1 ∈ ty_w := ty_it 63 (by decide +kernel) rfl
theorem ml_Course_181 : Cond.methodLink R_Course 181 y_Strand_end ∈ ty_w := ty_it 327 (by decide +kernel) rfl
theorem fl_Course_184 : Cond.fieldLink R_Course 184 R_Program (F_Program 0).2.1 (F_Program 0).2.2.1 ∈ ty_w := ty_it 57 (by decide +kernel) rfl
theorem fl_Course_187 : Cond.fieldLink R_Course 187 R_Program (F_Program 1).2.1 (F_Program 1).2.2.1 ∈ ty_w := ty_it 59 (by decide +kernel) rfl
theorem ml_Course_190 : Cond.methodLink R_Course 190 y_Course_waitIn ∈ ty_w := ty_it 331 (by decide +kernel) rfl
theorem ml_Course_194 : Cond.methodLink R_Course 194 y_Course_actAtOnce ∈ ty_w := ty_it 351 (by decide +kernel) rfl
theorem fl_Course_197 : Cond.fieldLink R_Course 197 R_Strand (F_Strand 1).2.1 (F_Strand 1).2.2.1 ∈ ty_w := ty_it 146 (by decide +kernel) rfl
theorem ml_Course_200 : Cond.methodLink R_Course 200 y_Log_add ∈ ty_w := ty_it 355 (by decide +kernel) rfl
theorem ml_Course_203 : Cond.methodLink R_Course 203 y_Strand_takeMark ∈ ty_w := ty_it 335 (by decide +kernel) rfl
theorem fl_Course_206 : Cond.fieldLink R_Course 206 R_Strand (F_Strand 7).2.1 (F_Strand 7).2.2.1 ∈ ty_w := ty_it 158 (by decide +kernel) rfl
theorem ml_Course_209 : Cond.methodLink R_Course 209 y_Course_markStartedBy ∈ ty_w := ty_it 359 (by decide +kernel) rfl
theorem fl_Course_212 : Cond.fieldLink R_Course 212 R_Strand (F_Strand 4).2.1 (F_Strand 4).2.2.1 ∈ ty_w := ty_it 152 (by decide +kernel) rfl
theorem fl_Course_215 : Cond.fieldLink R_Course 215 R_Strand (F_Strand 5).2.1 (F_Strand 5).2.2.1 ∈ ty_w := ty_it 154 (by decide +kernel) rfl
theorem ml_Course_218 : Cond.methodLink R_Course 218 y_Course_interrupt ∈ ty_w := ty_it 339 (by decide +kernel) rfl
theorem ml_Course_222 : Cond.methodLink R_Course 222 y_Course_areStartedOver ∈ ty_w := ty_it 347 (by decide +kernel) rfl
theorem ml_Course_225 : Cond.methodLink R_Course 225 y_Program_endOfGuardAround ∈ ty_w := ty_it 343 (by decide +kernel) rfl
theorem fl_Course_229 : Cond.fieldLink R_Course 229 R_Strand (F_Strand 2).2.1 (F_Strand 2).2.2.1 ∈ ty_w := ty_it 148 (by decide +kernel) rfl
theorem fl_Course_232 : Cond.fieldLink R_Course 232 R_Strand (F_Strand 9).2.1 (F_Strand 9).2.2.1 ∈ ty_w := ty_it 162 (by decide +kernel) rfl
theorem ml_Course_235 : Cond.methodLink R_Course 235 y_Trial_decideByDeath ∈ ty_w := ty_it 367 (by decide +kernel) rfl
theorem fl_Course_238 : Cond.fieldLink R_Course 238 R_Trial (F_Trial 12).2.1 (F_Trial 12).2.2.1 ∈ ty_w := ty_it 110 (by decide +kernel) rfl
theorem ml_Log_1 : Cond.methodLink R_Log 1 ⟨"java/lang/Object", "<init>", "()V"⟩ ∈ ty_w := ty_it 39 (by decide +kernel) rfl
theorem fl_Log_7 : Cond.fieldLink R_Log 7 R_Log (F_Log 0).2.1 (F_Log 0).2.2.1 ∈ ty_w := ty_it 40 (by decide +kernel) rfl
theorem fl_Log_13 : Cond.fieldLink R_Log 13 R_Log (F_Log 1).2.1 (F_Log 1).2.2.1 ∈ ty_w := ty_it 42 (by decide +kernel) rfl
theorem ml_Program_3 : Cond.methodLink R_Program 3 ⟨"java/lang/Object", "<init>", "()V"⟩ ∈ ty_w := ty_it 55 (by decide +kernel) rfl
theorem fl_Program_9 : Cond.fieldLink R_Program 9 R_Program (F_Program 0).2.1 (F_Program 0).2.2.1 ∈ ty_w := ty_it 56 (by decide +kernel) rfl
theorem fl_Program_15 : Cond.fieldLink R_Program 15 R_Program (F_Program 1).2.1 (F_Program 1).2.2.1 ∈ ty_w := ty_it 58 (by decide +kernel) rfl
theorem fl_Program_18 : Cond.fieldLink R_Program 18 R_Program (F_Program 2).2.1 (F_Program 2).2.2.1 ∈ ty_w := ty_it 60 (by decide +kernel) rfl
theorem fl_Program_21 : Cond.fieldLink R_Program 21 R_Program (F_Program 3).2.1 (F_Program 3).2.2.1 ∈ ty_w := ty_it 61 (by decide +kernel) rfl
theorem ml_Program_25 : Cond.methodLink R_Program 25 y_Program_endOfGuard ∈ ty_w := ty_it 472 (by decide +kernel) rfl
theorem ml_Program_29 : Cond.methodLink R_Program 29 y_Program_endOfGuardAround ∈ ty_w := ty_it 476 (by decide +kernel) rfl
theorem ml_Program_33 : Cond.methodLink R_Program 33 ⟨"java/lang/Math", "min", "(II)I"⟩ ∈ ty_w := ty_it 477 (by decide +kernel) rfl
theorem ml_Strand_3 : Cond.methodLink R_Strand 3 ⟨"java/lang/Object", "<init>", "()V"⟩ ∈ ty_w := ty_it 142 (by decide +kernel) rfl
theorem fl_Strand_9 : Cond.fieldLink R_Strand 9 R_Strand (F_Strand 0).2.1 (F_Strand 0).2.2.1 ∈ ty_w := ty_it 143 (by decide +kernel) rfl
theorem fl_Strand_15 : Cond.fieldLink R_Strand 15 R_Strand (F_Strand 1).2.1 (F_Strand 1).2.2.1 ∈ ty_w := ty_it 145 (by decide +kernel) rfl
theorem fl_Strand_18 : Cond.fieldLink R_Strand 18 R_Strand (F_Strand 2).2.1 (F_Strand 2).2.2.1 ∈ ty_w := ty_it 147 (by decide +kernel) rfl
theorem fl_Strand_21 : Cond.fieldLink R_Strand 21 R_Strand (F_Strand 3).2.1 (F_Strand 3).2.2.1 ∈ ty_w := ty_it 149 (by decide +kernel) rfl
theorem fl_Strand_24 : Cond.fieldLink R_Strand 24 R_Strand (F_Strand 4).2.1 (F_Strand 4).2.2.1 ∈ ty_w := ty_it 151 (by decide +kernel) rfl
theorem fl_Strand_28 : Cond.fieldLink R_Strand 28 R_Strand (F_Strand 5).2.1 (F_Strand 5).2.2.1 ∈ ty_w := ty_it 153 (by decide +kernel) rfl
theorem fl_Strand_31 : Cond.fieldLink R_Strand 31 R_Strand (F_Strand 6).2.1 (F_Strand 6).2.2.1 ∈ ty_w := ty_it 155 (by decide +kernel) rfl
theorem fl_Strand_34 : Cond.fieldLink R_Strand 34 R_Strand (F_Strand 7).2.1 (F_Strand 7).2.2.1 ∈ ty_w := ty_it 157 (by decide +kernel) rfl
theorem fl_Strand_37 : Cond.fieldLink R_Strand 37 R_Strand (F_Strand 8).2.1 (F_Strand 8).2.2.1 ∈ ty_w := ty_it 159 (by decide +kernel) rfl
theorem fl_Strand_40 : Cond.fieldLink R_Strand 40 R_Strand (F_Strand 9).2.1 (F_Strand 9).2.2.1 ∈ ty_w := ty_it 161 (by decide +kernel) rfl
theorem ml_Trial_3 : Cond.methodLink R_Trial 3 ⟨"java/lang/Object", "<init>", "()V"⟩ ∈ ty_w := ty_it 77 (by decide +kernel) rfl
theorem ml_Trial_9 : Cond.methodLink R_Trial 9 y_Trial_forgetRun ∈ ty_w := ty_it 78 (by decide +kernel) rfl
theorem fl_Trial_14 : Cond.fieldLink R_Trial 14 R_Trial (F_Trial 0).2.1 (F_Trial 0).2.2.1 ∈ ty_w := ty_it 82 (by decide +kernel) rfl
theorem fl_Trial_18 : Cond.fieldLink R_Trial 18 R_Trial (F_Trial 1).2.1 (F_Trial 1).2.2.1 ∈ ty_w := ty_it 84 (by decide +kernel) rfl
theorem fl_Trial_21 : Cond.fieldLink R_Trial 21 R_Trial (F_Trial 2).2.1 (F_Trial 2).2.2.1 ∈ ty_w := ty_it 85 (by decide +kernel) rfl
theorem fl_Trial_24 : Cond.fieldLink R_Trial 24 R_Trial (F_Trial 3).2.1 (F_Trial 3).2.2.1 ∈ ty_w := ty_it 86 (by decide +kernel) rfl
theorem fl_Trial_27 : Cond.fieldLink R_Trial 27 R_Trial (F_Trial 4).2.1 (F_Trial 4).2.2.1 ∈ ty_w := ty_it 87 (by decide +kernel) rfl
theorem fl_Trial_30 : Cond.fieldLink R_Trial 30 R_Trial (F_Trial 5).2.1 (F_Trial 5).2.2.1 ∈ ty_w := ty_it 90 (by decide +kernel) rfl
theorem fl_Trial_33 : Cond.fieldLink R_Trial 33 R_Trial (F_Trial 6).2.1 (F_Trial 6).2.2.1 ∈ ty_w := ty_it 92 (by decide +kernel) rfl
theorem fl_Trial_36 : Cond.fieldLink R_Trial 36 R_Trial (F_Trial 7).2.1 (F_Trial 7).2.2.1 ∈ ty_w := ty_it 95 (by decide +kernel) rfl
theorem fl_Trial_39 : Cond.fieldLink R_Trial 39 R_Trial (F_Trial 8).2.1 (F_Trial 8).2.2.1 ∈ ty_w := ty_it 98 (by decide +kernel) rfl
theorem fl_Trial_42 : Cond.fieldLink R_Trial 42 R_Trial (F_Trial 9).2.1 (F_Trial 9).2.2.1 ∈ ty_w := ty_it 101 (by decide +kernel) rfl
theorem fl_Trial_46 : Cond.fieldLink R_Trial 46 R_Trial (F_Trial 10).2.1 (F_Trial 10).2.2.1 ∈ ty_w := ty_it 104 (by decide +kernel) rfl
theorem fl_Trial_49 : Cond.fieldLink R_Trial 49 R_Trial (F_Trial 11).2.1 (F_Trial 11).2.2.1 ∈ ty_w := ty_it 107 (by decide +kernel) rfl
theorem fl_Trial_52 : Cond.fieldLink R_Trial 52 R_Trial (F_Trial 12).2.1 (F_Trial 12).2.2.1 ∈ ty_w := ty_it 109 (by decide +kernel) rfl
theorem ml_Trial_55 : Cond.methodLink R_Trial 55 y_Trial_isRunning ∈ ty_w := ty_it 259 (by decide +kernel) rfl
theorem ml_Trial_59 : Cond.methodLink R_Trial 59 y_Trial_decide ∈ ty_w := ty_it 371 (by decide +kernel) rfl
theorem ml_law_7 : Cond.methodLink "TimeoutYardLaw" 7 y_Yard_action ∈ ty_w := ty_it 381 (by decide +kernel) rfl
theorem ml_law_17 : Cond.methodLink "TimeoutYardLaw" 17 y_Yard_test ∈ ty_w := ty_it 483 (by decide +kernel) rfl
theorem ml_law_21 : Cond.methodLink "TimeoutYardLaw" 21 y_Yard_workers ∈ ty_w := ty_it 494 (by decide +kernel) rfl
theorem ml_law_25 : Cond.methodLink "TimeoutYardLaw" 25 y_Yard_look ∈ ty_w := ty_it 501 (by decide +kernel) rfl
theorem ml_law_29 : Cond.methodLink "TimeoutYardLaw" 29 y_Yard_note ∈ ty_w := ty_it 508 (by decide +kernel) rfl
theorem ml_law_32 : Cond.methodLink "TimeoutYardLaw" 32 y_Yard_warning ∈ ty_w := ty_it 519 (by decide +kernel) rfl
theorem ml_law_35 : Cond.methodLink "TimeoutYardLaw" 35 y_Yard_count ∈ ty_w := ty_it 526 (by decide +kernel) rfl
end
section
theorem d_Yard_init_0 : decode b_Yard_init 0 = .ok (.aload_n 0, 1) := by decide +kernel
theorem d_Yard_init_1 : decode b_Yard_init 1 = .ok (.invokespecial 3, 3) := by decide +kernel
theorem d_Yard_init_4 : decode b_Yard_init 4 = .ok (.aload_n 0, 1) := by decide +kernel
theorem d_Yard_init_5 : decode b_Yard_init 5 = .ok (.new 9, 3) := by decide +kernel
theorem d_Yard_init_8 : decode b_Yard_init 8 = .ok (.dup, 1) := by decide +kernel
theorem d_Yard_init_9 : decode b_Yard_init 9 = .ok (.invokespecial 11, 3) := by decide +kernel
theorem d_Yard_init_12 : decode b_Yard_init 12 = .ok (.putfield 12, 3) := by decide +kernel
theorem d_Yard_init_15 : decode b_Yard_init 15 = .ok (.aload_n 0, 1) := by decide +kernel
theorem d_Yard_init_16 : decode b_Yard_init 16 = .ok (.iconst 0, 1) := by decide +kernel
theorem d_Yard_init_17 : decode b_Yard_init 17 = .ok (.putfield 16, 3) := by decide +kernel
theorem d_Yard_init_20 : decode b_Yard_init 20 = .ok (.aload_n 0, 1) := by decide +kernel
theorem d_Yard_init_21 : decode b_Yard_init 21 = .ok (.iconst 1, 1) := by decide +kernel
theorem d_Yard_init_22 : decode b_Yard_init 22 = .ok (.putfield 20, 3) := by decide +kernel
theorem d_Yard_init_25 : decode b_Yard_init 25 = .ok (.return_, 1) := by decide +kernel
theorem d_Yard_action_0 : decode b_Yard_action 0 = .ok (.iload_n 1, 1) := by decide +kernel
theorem d_Yard_action_1 : decode b_Yard_action 1 = .ok (.iconst 0, 1) := by decide +kernel
theorem d_Yard_action_2 : decode b_Yard_action 2 = .ok (.bipush 9, 2) := by decide +kernel
theorem d_Yard_action_4 : decode b_Yard_action 4 = .ok (.invokestatic 23, 3) := by decide +kernel
theorem d_Yard_action_7 : decode b_Yard_action 7 = .ok (.ifCond .eq 11, 3) := by decide +kernel
theorem d_Yard_action_10 : decode b_Yard_action 10 = .ok (.iload_n 2, 1) := by decide +kernel
theorem d_Yard_action_11 : decode b_Yard_action 11 = .ok (.iload_n 3, 1) := by decide +kernel
theorem d_Yard_action_12 : decode b_Yard_action 12 = .ok (.invokestatic 27, 3) := by decide +kernel
theorem d_Yard_action_15 : decode b_Yard_action 15 = .ok (.ifCond .ne 11, 3) := by decide +kernel
theorem d_Yard_action_18 : decode b_Yard_action 18 = .ok (.new 31, 3) := by decide +kernel
theorem d_Yard_action_21 : decode b_Yard_action 21 = .ok (.dup, 1) := by decide +kernel
theorem d_Yard_action_22 : decode b_Yard_action 22 = .ok (.invokespecial 33, 3) := by decide +kernel
theorem d_Yard_action_25 : decode b_Yard_action 25 = .ok (.athrow, 1) := by decide +kernel
theorem d_Yard_action_26 : decode b_Yard_action 26 = .ok (.aload_n 0, 1) := by decide +kernel
theorem d_Yard_action_27 : decode b_Yard_action 27 = .ok (.getfield 12, 3) := by decide +kernel
theorem d_Yard_action_30 : decode b_Yard_action 30 = .ok (.getfield 34, 3) := by decide +kernel
theorem d_Yard_action_33 : decode b_Yard_action 33 = .ok (.iload_n 1, 1) := by decide +kernel
theorem d_Yard_action_34 : decode b_Yard_action 34 = .ok (.aaload, 1) := by decide +kernel
theorem d_Yard_action_35 : decode b_Yard_action 35 = .ok (.astore 4, 2) := by decide +kernel
theorem d_Yard_action_37 : decode b_Yard_action 37 = .ok (.aload 4, 2) := by decide +kernel
theorem d_Yard_action_39 : decode b_Yard_action 39 = .ok (.getfield 38, 3) := by decide +kernel
theorem d_Yard_action_42 : decode b_Yard_action 42 = .ok (.bipush 10, 2) := by decide +kernel
theorem d_Yard_action_44 : decode b_Yard_action 44 = .ok (.if_icmp .lt 11, 3) := by decide +kernel
theorem d_Yard_action_47 : decode b_Yard_action 47 = .ok (.new 43, 3) := by decide +kernel
theorem d_Yard_action_50 : decode b_Yard_action 50 = .ok (.dup, 1) := by decide +kernel
theorem d_Yard_action_51 : decode b_Yard_action 51 = .ok (.invokespecial 45, 3) := by decide +kernel
theorem d_Yard_action_54 : decode b_Yard_action 54 = .ok (.athrow, 1) := by decide +kernel
theorem d_Yard_action_55 : decode b_Yard_action 55 = .ok (.aload 4, 2) := by decide +kernel
theorem d_Yard_action_57 : decode b_Yard_action 57 = .ok (.iload_n 2, 1) := by decide +kernel
theorem d_Yard_action_58 : decode b_Yard_action 58 = .ok (.iload_n 3, 1) := by decide +kernel
theorem d_Yard_action_59 : decode b_Yard_action 59 = .ok (.invokevirtual 46, 3) := by decide +kernel
theorem d_Yard_action_62 : decode b_Yard_action 62 = .ok (.aload 4, 2) := by decide +kernel
theorem d_Yard_action_64 : decode b_Yard_action 64 = .ok (.getfield 38, 3) := by decide +kernel
theorem d_Yard_action_67 : decode b_Yard_action 67 = .ok (.ireturn, 1) := by decide +kernel
theorem d_Yard_test_0 : decode b_Yard_test 0 = .ok (.iload_n 1, 1) := by decide +kernel
theorem d_Yard_test_1 : decode b_Yard_test 1 = .ok (.iconst 0, 1) := by decide +kernel
theorem d_Yard_test_2 : decode b_Yard_test 2 = .ok (.bipush 9, 2) := by decide +kernel
theorem d_Yard_test_4 : decode b_Yard_test 4 = .ok (.invokestatic 23, 3) := by decide +kernel
theorem d_Yard_test_7 : decode b_Yard_test 7 = .ok (.ifCond .eq 34, 3) := by decide +kernel
theorem d_Yard_test_10 : decode b_Yard_test 10 = .ok (.iload_n 2, 1) := by decide +kernel
theorem d_Yard_test_11 : decode b_Yard_test 11 = .ok (.iconst 0, 1) := by decide +kernel
theorem d_Yard_test_12 : decode b_Yard_test 12 = .ok (.bipush 50, 2) := by decide +kernel
theorem d_Yard_test_14 : decode b_Yard_test 14 = .ok (.invokestatic 23, 3) := by decide +kernel
theorem d_Yard_test_17 : decode b_Yard_test 17 = .ok (.ifCond .eq 24, 3) := by decide +kernel
theorem d_Yard_test_20 : decode b_Yard_test 20 = .ok (.iload_n 3, 1) := by decide +kernel
theorem d_Yard_test_21 : decode b_Yard_test 21 = .ok (.iconst 0, 1) := by decide +kernel
theorem d_Yard_test_22 : decode b_Yard_test 22 = .ok (.bipush 15, 2) := by decide +kernel
theorem d_Yard_test_24 : decode b_Yard_test 24 = .ok (.invokestatic 23, 3) := by decide +kernel
theorem d_Yard_test_27 : decode b_Yard_test 27 = .ok (.ifCond .eq 14, 3) := by decide +kernel
theorem d_Yard_test_30 : decode b_Yard_test 30 = .ok (.iload 4, 2) := by decide +kernel
theorem d_Yard_test_32 : decode b_Yard_test 32 = .ok (.iconst 0, 1) := by decide +kernel
theorem d_Yard_test_33 : decode b_Yard_test 33 = .ok (.bipush 15, 2) := by decide +kernel
theorem d_Yard_test_35 : decode b_Yard_test 35 = .ok (.invokestatic 23, 3) := by decide +kernel
theorem d_Yard_test_38 : decode b_Yard_test 38 = .ok (.ifCond .ne 11, 3) := by decide +kernel
theorem d_Yard_test_41 : decode b_Yard_test 41 = .ok (.new 31, 3) := by decide +kernel
theorem d_Yard_test_44 : decode b_Yard_test 44 = .ok (.dup, 1) := by decide +kernel
theorem d_Yard_test_45 : decode b_Yard_test 45 = .ok (.invokespecial 33, 3) := by decide +kernel
theorem d_Yard_test_48 : decode b_Yard_test 48 = .ok (.athrow, 1) := by decide +kernel
theorem d_Yard_test_49 : decode b_Yard_test 49 = .ok (.aload_n 0, 1) := by decide +kernel
theorem d_Yard_test_50 : decode b_Yard_test 50 = .ok (.getfield 16, 3) := by decide +kernel
theorem d_Yard_test_53 : decode b_Yard_test 53 = .ok (.bipush 12, 2) := by decide +kernel
theorem d_Yard_test_55 : decode b_Yard_test 55 = .ok (.if_icmp .lt 11, 3) := by decide +kernel
theorem d_Yard_test_58 : decode b_Yard_test 58 = .ok (.new 43, 3) := by decide +kernel
theorem d_Yard_test_61 : decode b_Yard_test 61 = .ok (.dup, 1) := by decide +kernel
theorem d_Yard_test_62 : decode b_Yard_test 62 = .ok (.invokespecial 45, 3) := by decide +kernel
theorem d_Yard_test_65 : decode b_Yard_test 65 = .ok (.athrow, 1) := by decide +kernel
theorem d_Yard_test_66 : decode b_Yard_test 66 = .ok (.aload_n 0, 1) := by decide +kernel
theorem d_Yard_test_67 : decode b_Yard_test 67 = .ok (.getfield 12, 3) := by decide +kernel
theorem d_Yard_test_70 : decode b_Yard_test 70 = .ok (.getfield 50, 3) := by decide +kernel
theorem d_Yard_test_73 : decode b_Yard_test 73 = .ok (.aload_n 0, 1) := by decide +kernel
theorem d_Yard_test_74 : decode b_Yard_test 74 = .ok (.getfield 16, 3) := by decide +kernel
theorem d_Yard_test_77 : decode b_Yard_test 77 = .ok (.aaload, 1) := by decide +kernel
theorem d_Yard_test_78 : decode b_Yard_test 78 = .ok (.iload_n 1, 1) := by decide +kernel
theorem d_Yard_test_79 : decode b_Yard_test 79 = .ok (.iload_n 2, 1) := by decide +kernel
theorem d_Yard_test_80 : decode b_Yard_test 80 = .ok (.iload_n 3, 1) := by decide +kernel
theorem d_Yard_test_81 : decode b_Yard_test 81 = .ok (.iload 4, 2) := by decide +kernel
theorem d_Yard_test_83 : decode b_Yard_test 83 = .ok (.invokevirtual 54, 3) := by decide +kernel
theorem d_Yard_test_86 : decode b_Yard_test 86 = .ok (.aload_n 0, 1) := by decide +kernel
theorem d_Yard_test_87 : decode b_Yard_test 87 = .ok (.dup, 1) := by decide +kernel
theorem d_Yard_test_88 : decode b_Yard_test 88 = .ok (.getfield 16, 3) := by decide +kernel
theorem d_Yard_test_91 : decode b_Yard_test 91 = .ok (.iconst 1, 1) := by decide +kernel
theorem d_Yard_test_92 : decode b_Yard_test 92 = .ok (.iadd, 1) := by decide +kernel
theorem d_Yard_test_93 : decode b_Yard_test 93 = .ok (.putfield 16, 3) := by decide +kernel
theorem d_Yard_test_96 : decode b_Yard_test 96 = .ok (.aload_n 0, 1) := by decide +kernel
theorem d_Yard_test_97 : decode b_Yard_test 97 = .ok (.getfield 16, 3) := by decide +kernel
theorem d_Yard_test_100 : decode b_Yard_test 100 = .ok (.iconst 1, 1) := by decide +kernel
theorem d_Yard_test_101 : decode b_Yard_test 101 = .ok (.isub, 1) := by decide +kernel
theorem d_Yard_test_102 : decode b_Yard_test 102 = .ok (.ireturn, 1) := by decide +kernel
theorem d_Yard_workers_0 : decode b_Yard_workers 0 = .ok (.iload_n 1, 1) := by decide +kernel
theorem d_Yard_workers_1 : decode b_Yard_workers 1 = .ok (.iconst 1, 1) := by decide +kernel
theorem d_Yard_workers_2 : decode b_Yard_workers 2 = .ok (.iconst 4, 1) := by decide +kernel
theorem d_Yard_workers_3 : decode b_Yard_workers 3 = .ok (.invokestatic 23, 3) := by decide +kernel
theorem d_Yard_workers_6 : decode b_Yard_workers 6 = .ok (.ifCond .ne 11, 3) := by decide +kernel
theorem d_Yard_workers_9 : decode b_Yard_workers 9 = .ok (.new 31, 3) := by decide +kernel
theorem d_Yard_workers_12 : decode b_Yard_workers 12 = .ok (.dup, 1) := by decide +kernel
theorem d_Yard_workers_13 : decode b_Yard_workers 13 = .ok (.invokespecial 33, 3) := by decide +kernel
theorem d_Yard_workers_16 : decode b_Yard_workers 16 = .ok (.athrow, 1) := by decide +kernel
theorem d_Yard_workers_17 : decode b_Yard_workers 17 = .ok (.aload_n 0, 1) := by decide +kernel
theorem d_Yard_workers_18 : decode b_Yard_workers 18 = .ok (.getfield 20, 3) := by decide +kernel
theorem d_Yard_workers_21 : decode b_Yard_workers 21 = .ok (.istore_n 2, 1) := by decide +kernel
theorem d_Yard_workers_22 : decode b_Yard_workers 22 = .ok (.aload_n 0, 1) := by decide +kernel
theorem d_Yard_workers_23 : decode b_Yard_workers 23 = .ok (.iload_n 1, 1) := by decide +kernel
theorem d_Yard_workers_24 : decode b_Yard_workers 24 = .ok (.putfield 20, 3) := by decide +kernel
theorem d_Yard_workers_27 : decode b_Yard_workers 27 = .ok (.iload_n 2, 1) := by decide +kernel
theorem d_Yard_workers_28 : decode b_Yard_workers 28 = .ok (.ireturn, 1) := by decide +kernel
theorem d_Yard_run_0 : decode b_Yard_run 0 = .ok (.aload_n 0, 1) := by decide +kernel
theorem d_Yard_run_1 : decode b_Yard_run 1 = .ok (.getfield 12, 3) := by decide +kernel
theorem d_Yard_run_4 : decode b_Yard_run 4 = .ok (.aload_n 0, 1) := by decide +kernel
theorem d_Yard_run_5 : decode b_Yard_run 5 = .ok (.getfield 16, 3) := by decide +kernel
theorem d_Yard_run_8 : decode b_Yard_run 8 = .ok (.aload_n 0, 1) := by decide +kernel
theorem d_Yard_run_9 : decode b_Yard_run 9 = .ok (.getfield 20, 3) := by decide +kernel
theorem d_Yard_run_12 : decode b_Yard_run 12 = .ok (.invokevirtual 60, 3) := by decide +kernel
theorem d_Yard_run_15 : decode b_Yard_run 15 = .ok (.ireturn, 1) := by decide +kernel
theorem d_Yard_look_0 : decode b_Yard_look 0 = .ok (.iload_n 1, 1) := by decide +kernel
theorem d_Yard_look_1 : decode b_Yard_look 1 = .ok (.iconst 0, 1) := by decide +kernel
theorem d_Yard_look_2 : decode b_Yard_look 2 = .ok (.aload_n 0, 1) := by decide +kernel
theorem d_Yard_look_3 : decode b_Yard_look 3 = .ok (.getfield 16, 3) := by decide +kernel
theorem d_Yard_look_6 : decode b_Yard_look 6 = .ok (.iconst 1, 1) := by decide +kernel
theorem d_Yard_look_7 : decode b_Yard_look 7 = .ok (.isub, 1) := by decide +kernel
theorem d_Yard_look_8 : decode b_Yard_look 8 = .ok (.invokestatic 23, 3) := by decide +kernel
theorem d_Yard_look_11 : decode b_Yard_look 11 = .ok (.ifCond .ne 11, 3) := by decide +kernel
theorem d_Yard_look_14 : decode b_Yard_look 14 = .ok (.new 31, 3) := by decide +kernel
theorem d_Yard_look_17 : decode b_Yard_look 17 = .ok (.dup, 1) := by decide +kernel
theorem d_Yard_look_18 : decode b_Yard_look 18 = .ok (.invokespecial 33, 3) := by decide +kernel
theorem d_Yard_look_21 : decode b_Yard_look 21 = .ok (.athrow, 1) := by decide +kernel
theorem d_Yard_look_22 : decode b_Yard_look 22 = .ok (.aload_n 0, 1) := by decide +kernel
theorem d_Yard_look_23 : decode b_Yard_look 23 = .ok (.getfield 12, 3) := by decide +kernel
theorem d_Yard_look_26 : decode b_Yard_look 26 = .ok (.getfield 50, 3) := by decide +kernel
theorem d_Yard_look_29 : decode b_Yard_look 29 = .ok (.iload_n 1, 1) := by decide +kernel
theorem d_Yard_look_30 : decode b_Yard_look 30 = .ok (.aaload, 1) := by decide +kernel
theorem d_Yard_look_31 : decode b_Yard_look 31 = .ok (.astore_n 3, 1) := by decide +kernel
theorem d_Yard_look_32 : decode b_Yard_look 32 = .ok (.iload_n 2, 1) := by decide +kernel
theorem d_Yard_look_33 : decode b_Yard_look 33 = .ok (.tableswitch 86 0 6 #[43, 48, 53, 58, 63, 68, 81], 43) := by decide +kernel
theorem d_Yard_look_76 : decode b_Yard_look 76 = .ok (.aload_n 3, 1) := by decide +kernel
theorem d_Yard_look_77 : decode b_Yard_look 77 = .ok (.getfield 64, 3) := by decide +kernel
theorem d_Yard_look_80 : decode b_Yard_look 80 = .ok (.ireturn, 1) := by decide +kernel
theorem d_Yard_look_81 : decode b_Yard_look 81 = .ok (.aload_n 3, 1) := by decide +kernel
theorem d_Yard_look_82 : decode b_Yard_look 82 = .ok (.getfield 67, 3) := by decide +kernel
theorem d_Yard_look_85 : decode b_Yard_look 85 = .ok (.ireturn, 1) := by decide +kernel
theorem d_Yard_look_86 : decode b_Yard_look 86 = .ok (.aload_n 3, 1) := by decide +kernel
theorem d_Yard_look_87 : decode b_Yard_look 87 = .ok (.getfield 70, 3) := by decide +kernel
theorem d_Yard_look_90 : decode b_Yard_look 90 = .ok (.ireturn, 1) := by decide +kernel
theorem d_Yard_look_91 : decode b_Yard_look 91 = .ok (.aload_n 3, 1) := by decide +kernel
theorem d_Yard_look_92 : decode b_Yard_look 92 = .ok (.getfield 73, 3) := by decide +kernel
theorem d_Yard_look_95 : decode b_Yard_look 95 = .ok (.ireturn, 1) := by decide +kernel
theorem d_Yard_look_96 : decode b_Yard_look 96 = .ok (.aload_n 3, 1) := by decide +kernel
theorem d_Yard_look_97 : decode b_Yard_look 97 = .ok (.getfield 76, 3) := by decide +kernel
theorem d_Yard_look_100 : decode b_Yard_look 100 = .ok (.ireturn, 1) := by decide +kernel
theorem d_Yard_look_101 : decode b_Yard_look 101 = .ok (.aload_n 3, 1) := by decide +kernel
theorem d_Yard_look_102 : decode b_Yard_look 102 = .ok (.getfield 79, 3) := by decide +kernel
theorem d_Yard_look_105 : decode b_Yard_look 105 = .ok (.ifCond .eq 7, 3) := by decide +kernel
theorem d_Yard_look_108 : decode b_Yard_look 108 = .ok (.iconst 1, 1) := by decide +kernel
theorem d_Yard_look_109 : decode b_Yard_look 109 = .ok (.goto 4, 3) := by decide +kernel
theorem d_Yard_look_112 : decode b_Yard_look 112 = .ok (.iconst 0, 1) := by decide +kernel
theorem d_Yard_look_113 : decode b_Yard_look 113 = .ok (.ireturn, 1) := by decide +kernel
theorem d_Yard_look_114 : decode b_Yard_look 114 = .ok (.aload_n 3, 1) := by decide +kernel
theorem d_Yard_look_115 : decode b_Yard_look 115 = .ok (.getfield 83, 3) := by decide +kernel
theorem d_Yard_look_118 : decode b_Yard_look 118 = .ok (.ireturn, 1) := by decide +kernel
theorem d_Yard_look_119 : decode b_Yard_look 119 = .ok (.new 31, 3) := by decide +kernel
theorem d_Yard_look_122 : decode b_Yard_look 122 = .ok (.dup, 1) := by decide +kernel
theorem d_Yard_look_123 : decode b_Yard_look 123 = .ok (.invokespecial 33, 3) := by decide +kernel
theorem d_Yard_look_126 : decode b_Yard_look 126 = .ok (.athrow, 1) := by decide +kernel
theorem d_Yard_note_0 : decode b_Yard_note 0 = .ok (.aload_n 0, 1) := by decide +kernel
theorem d_Yard_note_1 : decode b_Yard_note 1 = .ok (.getfield 12, 3) := by decide +kernel
theorem d_Yard_note_4 : decode b_Yard_note 4 = .ok (.getfield 86, 3) := by decide +kernel
theorem d_Yard_note_7 : decode b_Yard_note 7 = .ok (.iload_n 1, 1) := by decide +kernel
theorem d_Yard_note_8 : decode b_Yard_note 8 = .ok (.invokevirtual 90, 3) := by decide +kernel
theorem d_Yard_note_11 : decode b_Yard_note 11 = .ok (.ifCond .ne 11, 3) := by decide +kernel
theorem d_Yard_note_14 : decode b_Yard_note 14 = .ok (.new 43, 3) := by decide +kernel
theorem d_Yard_note_17 : decode b_Yard_note 17 = .ok (.dup, 1) := by decide +kernel
theorem d_Yard_note_18 : decode b_Yard_note 18 = .ok (.invokespecial 45, 3) := by decide +kernel
theorem d_Yard_note_21 : decode b_Yard_note 21 = .ok (.athrow, 1) := by decide +kernel
theorem d_Yard_note_22 : decode b_Yard_note 22 = .ok (.aload_n 0, 1) := by decide +kernel
theorem d_Yard_note_23 : decode b_Yard_note 23 = .ok (.getfield 12, 3) := by decide +kernel
theorem d_Yard_note_26 : decode b_Yard_note 26 = .ok (.getfield 86, 3) := by decide +kernel
theorem d_Yard_note_29 : decode b_Yard_note 29 = .ok (.getfield 96, 3) := by decide +kernel
theorem d_Yard_note_32 : decode b_Yard_note 32 = .ok (.iload_n 1, 1) := by decide +kernel
theorem d_Yard_note_33 : decode b_Yard_note 33 = .ok (.iaload, 1) := by decide +kernel
theorem d_Yard_note_34 : decode b_Yard_note 34 = .ok (.ireturn, 1) := by decide +kernel
theorem d_Yard_warning_0 : decode b_Yard_warning 0 = .ok (.aload_n 0, 1) := by decide +kernel
theorem d_Yard_warning_1 : decode b_Yard_warning 1 = .ok (.getfield 12, 3) := by decide +kernel
theorem d_Yard_warning_4 : decode b_Yard_warning 4 = .ok (.getfield 100, 3) := by decide +kernel
theorem d_Yard_warning_7 : decode b_Yard_warning 7 = .ok (.iload_n 1, 1) := by decide +kernel
theorem d_Yard_warning_8 : decode b_Yard_warning 8 = .ok (.invokevirtual 90, 3) := by decide +kernel
theorem d_Yard_warning_11 : decode b_Yard_warning 11 = .ok (.ifCond .ne 11, 3) := by decide +kernel
theorem d_Yard_warning_14 : decode b_Yard_warning 14 = .ok (.new 43, 3) := by decide +kernel
theorem d_Yard_warning_17 : decode b_Yard_warning 17 = .ok (.dup, 1) := by decide +kernel
theorem d_Yard_warning_18 : decode b_Yard_warning 18 = .ok (.invokespecial 45, 3) := by decide +kernel
theorem d_Yard_warning_21 : decode b_Yard_warning 21 = .ok (.athrow, 1) := by decide +kernel
theorem d_Yard_warning_22 : decode b_Yard_warning 22 = .ok (.aload_n 0, 1) := by decide +kernel
theorem d_Yard_warning_23 : decode b_Yard_warning 23 = .ok (.getfield 12, 3) := by decide +kernel
theorem d_Yard_warning_26 : decode b_Yard_warning 26 = .ok (.getfield 100, 3) := by decide +kernel
theorem d_Yard_warning_29 : decode b_Yard_warning 29 = .ok (.getfield 96, 3) := by decide +kernel
theorem d_Yard_warning_32 : decode b_Yard_warning 32 = .ok (.iload_n 1, 1) := by decide +kernel
theorem d_Yard_warning_33 : decode b_Yard_warning 33 = .ok (.iaload, 1) := by decide +kernel
theorem d_Yard_warning_34 : decode b_Yard_warning 34 = .ok (.ireturn, 1) := by decide +kernel
theorem d_Yard_count_0 : decode b_Yard_count 0 = .ok (.iload_n 1, 1) := by decide +kernel
theorem d_Yard_count_1 : decode b_Yard_count 1 = .ok (.tableswitch 110 0 6 #[43, 48, 59, 70, 78, 86, 94], 43) := by decide +kernel
theorem d_Yard_count_44 : decode b_Yard_count 44 = .ok (.aload_n 0, 1) := by decide +kernel
theorem d_Yard_count_45 : decode b_Yard_count 45 = .ok (.getfield 16, 3) := by decide +kernel
theorem d_Yard_count_48 : decode b_Yard_count 48 = .ok (.ireturn, 1) := by decide +kernel
theorem d_Yard_count_49 : decode b_Yard_count 49 = .ok (.aload_n 0, 1) := by decide +kernel
theorem d_Yard_count_50 : decode b_Yard_count 50 = .ok (.getfield 12, 3) := by decide +kernel
theorem d_Yard_count_53 : decode b_Yard_count 53 = .ok (.getfield 86, 3) := by decide +kernel
theorem d_Yard_count_56 : decode b_Yard_count 56 = .ok (.getfield 103, 3) := by decide +kernel
theorem d_Yard_count_59 : decode b_Yard_count 59 = .ok (.ireturn, 1) := by decide +kernel
theorem d_Yard_count_60 : decode b_Yard_count 60 = .ok (.aload_n 0, 1) := by decide +kernel
theorem d_Yard_count_61 : decode b_Yard_count 61 = .ok (.getfield 12, 3) := by decide +kernel
theorem d_Yard_count_64 : decode b_Yard_count 64 = .ok (.getfield 100, 3) := by decide +kernel
theorem d_Yard_count_67 : decode b_Yard_count 67 = .ok (.getfield 103, 3) := by decide +kernel
theorem d_Yard_count_70 : decode b_Yard_count 70 = .ok (.ireturn, 1) := by decide +kernel
theorem d_Yard_count_71 : decode b_Yard_count 71 = .ok (.aload_n 0, 1) := by decide +kernel
theorem d_Yard_count_72 : decode b_Yard_count 72 = .ok (.getfield 12, 3) := by decide +kernel
theorem d_Yard_count_75 : decode b_Yard_count 75 = .ok (.getfield 104, 3) := by decide +kernel
theorem d_Yard_count_78 : decode b_Yard_count 78 = .ok (.ireturn, 1) := by decide +kernel
theorem d_Yard_count_79 : decode b_Yard_count 79 = .ok (.aload_n 0, 1) := by decide +kernel
theorem d_Yard_count_80 : decode b_Yard_count 80 = .ok (.getfield 12, 3) := by decide +kernel
theorem d_Yard_count_83 : decode b_Yard_count 83 = .ok (.getfield 107, 3) := by decide +kernel
theorem d_Yard_count_86 : decode b_Yard_count 86 = .ok (.ireturn, 1) := by decide +kernel
theorem d_Yard_count_87 : decode b_Yard_count 87 = .ok (.aload_n 0, 1) := by decide +kernel
theorem d_Yard_count_88 : decode b_Yard_count 88 = .ok (.getfield 12, 3) := by decide +kernel
theorem d_Yard_count_91 : decode b_Yard_count 91 = .ok (.getfield 108, 3) := by decide +kernel
theorem d_Yard_count_94 : decode b_Yard_count 94 = .ok (.ireturn, 1) := by decide +kernel
theorem d_Yard_count_95 : decode b_Yard_count 95 = .ok (.aload_n 0, 1) := by decide +kernel
theorem d_Yard_count_96 : decode b_Yard_count 96 = .ok (.getfield 12, 3) := by decide +kernel
theorem d_Yard_count_99 : decode b_Yard_count 99 = .ok (.invokevirtual 111, 3) := by decide +kernel
theorem d_Yard_count_102 : decode b_Yard_count 102 = .ok (.ifCond .eq 7, 3) := by decide +kernel
theorem d_Yard_count_105 : decode b_Yard_count 105 = .ok (.iconst 0, 1) := by decide +kernel
theorem d_Yard_count_106 : decode b_Yard_count 106 = .ok (.goto 4, 3) := by decide +kernel
theorem d_Yard_count_109 : decode b_Yard_count 109 = .ok (.iconst 1, 1) := by decide +kernel
theorem d_Yard_count_110 : decode b_Yard_count 110 = .ok (.ireturn, 1) := by decide +kernel
theorem d_Yard_count_111 : decode b_Yard_count 111 = .ok (.new 31, 3) := by decide +kernel
theorem d_Yard_count_114 : decode b_Yard_count 114 = .ok (.dup, 1) := by decide +kernel
theorem d_Yard_count_115 : decode b_Yard_count 115 = .ok (.invokespecial 33, 3) := by decide +kernel
theorem d_Yard_count_118 : decode b_Yard_count 118 = .ok (.athrow, 1) := by decide +kernel
theorem d_Yard_isWithin_0 : decode b_Yard_isWithin 0 = .ok (.iload_n 1, 1) := by decide +kernel
theorem d_Yard_isWithin_1 : decode b_Yard_isWithin 1 = .ok (.iload_n 0, 1) := by decide +kernel
theorem d_Yard_isWithin_2 : decode b_Yard_isWithin 2 = .ok (.if_icmp .gt 12, 3) := by decide +kernel
theorem d_Yard_isWithin_5 : decode b_Yard_isWithin 5 = .ok (.iload_n 0, 1) := by decide +kernel
theorem d_Yard_isWithin_6 : decode b_Yard_isWithin 6 = .ok (.iload_n 2, 1) := by decide +kernel
theorem d_Yard_isWithin_7 : decode b_Yard_isWithin 7 = .ok (.if_icmp .gt 7, 3) := by decide +kernel
theorem d_Yard_isWithin_10 : decode b_Yard_isWithin 10 = .ok (.iconst 1, 1) := by decide +kernel
theorem d_Yard_isWithin_11 : decode b_Yard_isWithin 11 = .ok (.goto 4, 3) := by decide +kernel
theorem d_Yard_isWithin_14 : decode b_Yard_isWithin 14 = .ok (.iconst 0, 1) := by decide +kernel
theorem d_Yard_isWithin_15 : decode b_Yard_isWithin 15 = .ok (.ireturn, 1) := by decide +kernel
theorem d_Yard_isAction_0 : decode b_Yard_isAction 0 = .ok (.iload_n 0, 1) := by decide +kernel
theorem d_Yard_isAction_1 : decode b_Yard_isAction 1 = .ok (.tableswitch 75 0 6 #[43, 43, 75, 51, 59, 67, 51], 43) := by decide +kernel
theorem d_Yard_isAction_44 : decode b_Yard_isAction 44 = .ok (.iload_n 1, 1) := by decide +kernel
theorem d_Yard_isAction_45 : decode b_Yard_isAction 45 = .ok (.iconst 1, 1) := by decide +kernel
theorem d_Yard_isAction_46 : decode b_Yard_isAction 46 = .ok (.bipush 20, 2) := by decide +kernel
theorem d_Yard_isAction_48 : decode b_Yard_isAction 48 = .ok (.invokestatic 23, 3) := by decide +kernel
theorem d_Yard_isAction_51 : decode b_Yard_isAction 51 = .ok (.ireturn, 1) := by decide +kernel
theorem d_Yard_isAction_52 : decode b_Yard_isAction 52 = .ok (.iload_n 1, 1) := by decide +kernel
theorem d_Yard_isAction_53 : decode b_Yard_isAction 53 = .ok (.iconst 0, 1) := by decide +kernel
theorem d_Yard_isAction_54 : decode b_Yard_isAction 54 = .ok (.bipush 99, 2) := by decide +kernel
theorem d_Yard_isAction_56 : decode b_Yard_isAction 56 = .ok (.invokestatic 23, 3) := by decide +kernel
theorem d_Yard_isAction_59 : decode b_Yard_isAction 59 = .ok (.ireturn, 1) := by decide +kernel
theorem d_Yard_isAction_60 : decode b_Yard_isAction 60 = .ok (.iload_n 1, 1) := by decide +kernel
theorem d_Yard_isAction_61 : decode b_Yard_isAction 61 = .ok (.iconst 0, 1) := by decide +kernel
theorem d_Yard_isAction_62 : decode b_Yard_isAction 62 = .ok (.bipush 9, 2) := by decide +kernel
theorem d_Yard_isAction_64 : decode b_Yard_isAction 64 = .ok (.invokestatic 23, 3) := by decide +kernel
theorem d_Yard_isAction_67 : decode b_Yard_isAction 67 = .ok (.ireturn, 1) := by decide +kernel
theorem d_Yard_isAction_68 : decode b_Yard_isAction 68 = .ok (.iload_n 1, 1) := by decide +kernel
theorem d_Yard_isAction_69 : decode b_Yard_isAction 69 = .ok (.iconst 0, 1) := by decide +kernel
theorem d_Yard_isAction_70 : decode b_Yard_isAction 70 = .ok (.bipush 9, 2) := by decide +kernel
theorem d_Yard_isAction_72 : decode b_Yard_isAction 72 = .ok (.invokestatic 23, 3) := by decide +kernel
theorem d_Yard_isAction_75 : decode b_Yard_isAction 75 = .ok (.ireturn, 1) := by decide +kernel
theorem d_Yard_isAction_76 : decode b_Yard_isAction 76 = .ok (.iload_n 0, 1) := by decide +kernel
theorem d_Yard_isAction_77 : decode b_Yard_isAction 77 = .ok (.iconst 0, 1) := by decide +kernel
theorem d_Yard_isAction_78 : decode b_Yard_isAction 78 = .ok (.bipush 11, 2) := by decide +kernel
theorem d_Yard_isAction_80 : decode b_Yard_isAction 80 = .ok (.invokestatic 23, 3) := by decide +kernel
theorem d_Yard_isAction_83 : decode b_Yard_isAction 83 = .ok (.ireturn, 1) := by decide +kernel
theorem d_Course_init_0 : decode b_Course_init 0 = .ok (.aload_n 0, 1) := by decide +kernel
theorem d_Course_init_1 : decode b_Course_init 1 = .ok (.invokespecial 3, 3) := by decide +kernel
theorem d_Course_init_4 : decode b_Course_init 4 = .ok (.aload_n 0, 1) := by decide +kernel
theorem d_Course_init_5 : decode b_Course_init 5 = .ok (.bipush 10, 2) := by decide +kernel
theorem d_Course_init_7 : decode b_Course_init 7 = .ok (.anewarray 9, 3) := by decide +kernel
theorem d_Course_init_10 : decode b_Course_init 10 = .ok (.putfield 11, 3) := by decide +kernel
theorem d_Course_init_13 : decode b_Course_init 13 = .ok (.aload_n 0, 1) := by decide +kernel
theorem d_Course_init_14 : decode b_Course_init 14 = .ok (.bipush 12, 2) := by decide +kernel
theorem d_Course_init_16 : decode b_Course_init 16 = .ok (.anewarray 17, 3) := by decide +kernel
theorem d_Course_init_19 : decode b_Course_init 19 = .ok (.putfield 19, 3) := by decide +kernel
theorem d_Course_init_22 : decode b_Course_init 22 = .ok (.aload_n 0, 1) := by decide +kernel
theorem d_Course_init_23 : decode b_Course_init 23 = .ok (.bipush 52, 2) := by decide +kernel
theorem d_Course_init_25 : decode b_Course_init 25 = .ok (.anewarray 23, 3) := by decide +kernel
theorem d_Course_init_28 : decode b_Course_init 28 = .ok (.putfield 25, 3) := by decide +kernel
theorem d_Course_init_31 : decode b_Course_init 31 = .ok (.aload_n 0, 1) := by decide +kernel
theorem d_Course_init_32 : decode b_Course_init 32 = .ok (.iconst 4, 1) := by decide +kernel
theorem d_Course_init_33 : decode b_Course_init 33 = .ok (.newarray .int, 2) := by decide +kernel
theorem d_Course_init_35 : decode b_Course_init 35 = .ok (.putfield 29, 3) := by decide +kernel
theorem d_Course_init_38 : decode b_Course_init 38 = .ok (.aload_n 0, 1) := by decide +kernel
theorem d_Course_init_39 : decode b_Course_init 39 = .ok (.new 33, 3) := by decide +kernel
theorem d_Course_init_42 : decode b_Course_init 42 = .ok (.dup, 1) := by decide +kernel
theorem d_Course_init_43 : decode b_Course_init 43 = .ok (.bipush 12, 2) := by decide +kernel
theorem d_Course_init_45 : decode b_Course_init 45 = .ok (.invokespecial 35, 3) := by decide +kernel
theorem d_Course_init_48 : decode b_Course_init 48 = .ok (.putfield 38, 3) := by decide +kernel
theorem d_Course_init_51 : decode b_Course_init 51 = .ok (.aload_n 0, 1) := by decide +kernel
theorem d_Course_init_52 : decode b_Course_init 52 = .ok (.new 33, 3) := by decide +kernel
theorem d_Course_init_55 : decode b_Course_init 55 = .ok (.dup, 1) := by decide +kernel
theorem d_Course_init_56 : decode b_Course_init 56 = .ok (.bipush 8, 2) := by decide +kernel
theorem d_Course_init_58 : decode b_Course_init 58 = .ok (.invokespecial 35, 3) := by decide +kernel
theorem d_Course_init_61 : decode b_Course_init 61 = .ok (.putfield 42, 3) := by decide +kernel
theorem d_Course_init_64 : decode b_Course_init 64 = .ok (.iconst 0, 1) := by decide +kernel
theorem d_Course_init_65 : decode b_Course_init 65 = .ok (.istore_n 1, 1) := by decide +kernel
theorem d_Course_init_66 : decode b_Course_init 66 = .ok (.iload_n 1, 1) := by decide +kernel
theorem d_Course_init_67 : decode b_Course_init 67 = .ok (.bipush 10, 2) := by decide +kernel
theorem d_Course_init_69 : decode b_Course_init 69 = .ok (.if_icmp .ge 22, 3) := by decide +kernel
theorem d_Course_init_72 : decode b_Course_init 72 = .ok (.aload_n 0, 1) := by decide +kernel
theorem d_Course_init_73 : decode b_Course_init 73 = .ok (.getfield 11, 3) := by decide +kernel
theorem d_Course_init_76 : decode b_Course_init 76 = .ok (.iload_n 1, 1) := by decide +kernel
theorem d_Course_init_77 : decode b_Course_init 77 = .ok (.new 9, 3) := by decide +kernel
theorem d_Course_init_80 : decode b_Course_init 80 = .ok (.dup, 1) := by decide +kernel
theorem d_Course_init_81 : decode b_Course_init 81 = .ok (.invokespecial 45, 3) := by decide +kernel
theorem d_Course_init_84 : decode b_Course_init 84 = .ok (.aastore, 1) := by decide +kernel
theorem d_Course_init_85 : decode b_Course_init 85 = .ok (.iinc 1 1, 3) := by decide +kernel
theorem d_Course_init_88 : decode b_Course_init 88 = .ok (.goto (-22), 3) := by decide +kernel
theorem d_Course_init_91 : decode b_Course_init 91 = .ok (.iconst 0, 1) := by decide +kernel
theorem d_Course_init_92 : decode b_Course_init 92 = .ok (.istore_n 1, 1) := by decide +kernel
theorem d_Course_init_93 : decode b_Course_init 93 = .ok (.iload_n 1, 1) := by decide +kernel
theorem d_Course_init_94 : decode b_Course_init 94 = .ok (.bipush 12, 2) := by decide +kernel
theorem d_Course_init_96 : decode b_Course_init 96 = .ok (.if_icmp .ge 22, 3) := by decide +kernel
theorem d_Course_init_99 : decode b_Course_init 99 = .ok (.aload_n 0, 1) := by decide +kernel
theorem d_Course_init_100 : decode b_Course_init 100 = .ok (.getfield 19, 3) := by decide +kernel
theorem d_Course_init_103 : decode b_Course_init 103 = .ok (.iload_n 1, 1) := by decide +kernel
theorem d_Course_init_104 : decode b_Course_init 104 = .ok (.new 17, 3) := by decide +kernel
theorem d_Course_init_107 : decode b_Course_init 107 = .ok (.dup, 1) := by decide +kernel
theorem d_Course_init_108 : decode b_Course_init 108 = .ok (.invokespecial 46, 3) := by decide +kernel
theorem d_Course_init_111 : decode b_Course_init 111 = .ok (.aastore, 1) := by decide +kernel
theorem d_Course_init_112 : decode b_Course_init 112 = .ok (.iinc 1 1, 3) := by decide +kernel
theorem d_Course_init_115 : decode b_Course_init 115 = .ok (.goto (-22), 3) := by decide +kernel
theorem d_Course_init_118 : decode b_Course_init 118 = .ok (.iconst 0, 1) := by decide +kernel
theorem d_Course_init_119 : decode b_Course_init 119 = .ok (.istore_n 1, 1) := by decide +kernel
theorem d_Course_init_120 : decode b_Course_init 120 = .ok (.iload_n 1, 1) := by decide +kernel
theorem d_Course_init_121 : decode b_Course_init 121 = .ok (.bipush 52, 2) := by decide +kernel
theorem d_Course_init_123 : decode b_Course_init 123 = .ok (.if_icmp .ge 22, 3) := by decide +kernel
theorem d_Course_init_126 : decode b_Course_init 126 = .ok (.aload_n 0, 1) := by decide +kernel
theorem d_Course_init_127 : decode b_Course_init 127 = .ok (.getfield 25, 3) := by decide +kernel
theorem d_Course_init_130 : decode b_Course_init 130 = .ok (.iload_n 1, 1) := by decide +kernel
theorem d_Course_init_131 : decode b_Course_init 131 = .ok (.new 23, 3) := by decide +kernel
theorem d_Course_init_134 : decode b_Course_init 134 = .ok (.dup, 1) := by decide +kernel
theorem d_Course_init_135 : decode b_Course_init 135 = .ok (.invokespecial 47, 3) := by decide +kernel
theorem d_Course_init_138 : decode b_Course_init 138 = .ok (.aastore, 1) := by decide +kernel
theorem d_Course_init_139 : decode b_Course_init 139 = .ok (.iinc 1 1, 3) := by decide +kernel
theorem d_Course_init_142 : decode b_Course_init 142 = .ok (.goto (-22), 3) := by decide +kernel
theorem d_Course_init_145 : decode b_Course_init 145 = .ok (.return_, 1) := by decide +kernel
theorem d_Course_perform_0 : decode b_Course_perform 0 = .ok (.aload_n 0, 1) := by decide +kernel
theorem d_Course_perform_1 : decode b_Course_perform 1 = .ok (.iload_n 1, 1) := by decide +kernel
theorem d_Course_perform_2 : decode b_Course_perform 2 = .ok (.putfield 48, 3) := by decide +kernel
theorem d_Course_perform_5 : decode b_Course_perform 5 = .ok (.aload_n 0, 1) := by decide +kernel
theorem d_Course_perform_6 : decode b_Course_perform 6 = .ok (.iload_n 2, 1) := by decide +kernel
theorem d_Course_perform_7 : decode b_Course_perform 7 = .ok (.putfield 52, 3) := by decide +kernel
theorem d_Course_perform_10 : decode b_Course_perform 10 = .ok (.aload_n 0, 1) := by decide +kernel
theorem d_Course_perform_11 : decode b_Course_perform 11 = .ok (.invokevirtual 55, 3) := by decide +kernel
theorem d_Course_perform_14 : decode b_Course_perform 14 = .ok (.iconst 0, 1) := by decide +kernel
theorem d_Course_perform_15 : decode b_Course_perform 15 = .ok (.istore_n 3, 1) := by decide +kernel
theorem d_Course_perform_16 : decode b_Course_perform 16 = .ok (.iload_n 3, 1) := by decide +kernel
theorem d_Course_perform_17 : decode b_Course_perform 17 = .ok (.sipush 150, 3) := by decide +kernel
theorem d_Course_perform_20 : decode b_Course_perform 20 = .ok (.if_icmp .ge 60, 3) := by decide +kernel
theorem d_Course_perform_23 : decode b_Course_perform 23 = .ok (.aload_n 0, 1) := by decide +kernel
theorem d_Course_perform_24 : decode b_Course_perform 24 = .ok (.invokevirtual 58, 3) := by decide +kernel
theorem d_Course_perform_27 : decode b_Course_perform 27 = .ok (.aload_n 0, 1) := by decide +kernel
theorem d_Course_perform_28 : decode b_Course_perform 28 = .ok (.invokevirtual 61, 3) := by decide +kernel
theorem d_Course_perform_31 : decode b_Course_perform 31 = .ok (.aload_n 0, 1) := by decide +kernel
theorem d_Course_perform_32 : decode b_Course_perform 32 = .ok (.invokevirtual 64, 3) := by decide +kernel
theorem d_Course_perform_35 : decode b_Course_perform 35 = .ok (.aload_n 0, 1) := by decide +kernel
theorem d_Course_perform_36 : decode b_Course_perform 36 = .ok (.aload_n 0, 1) := by decide +kernel
theorem d_Course_perform_37 : decode b_Course_perform 37 = .ok (.getfield 67, 3) := by decide +kernel
theorem d_Course_perform_40 : decode b_Course_perform 40 = .ok (.aload_n 0, 1) := by decide +kernel
theorem d_Course_perform_41 : decode b_Course_perform 41 = .ok (.invokevirtual 70, 3) := by decide +kernel
theorem d_Course_perform_44 : decode b_Course_perform 44 = .ok (.invokestatic 74, 3) := by decide +kernel
theorem d_Course_perform_47 : decode b_Course_perform 47 = .ok (.putfield 67, 3) := by decide +kernel
theorem d_Course_perform_50 : decode b_Course_perform 50 = .ok (.aload_n 0, 1) := by decide +kernel
theorem d_Course_perform_51 : decode b_Course_perform 51 = .ok (.invokevirtual 80, 3) := by decide +kernel
theorem d_Course_perform_54 : decode b_Course_perform 54 = .ok (.ifCond .eq 6, 3) := by decide +kernel
theorem d_Course_perform_57 : decode b_Course_perform 57 = .ok (.goto 23, 3) := by decide +kernel
theorem d_Course_perform_60 : decode b_Course_perform 60 = .ok (.aload_n 0, 1) := by decide +kernel
theorem d_Course_perform_61 : decode b_Course_perform 61 = .ok (.invokevirtual 84, 3) := by decide +kernel
theorem d_Course_perform_64 : decode b_Course_perform 64 = .ok (.aload_n 0, 1) := by decide +kernel
theorem d_Course_perform_65 : decode b_Course_perform 65 = .ok (.dup, 1) := by decide +kernel
theorem d_Course_perform_66 : decode b_Course_perform 66 = .ok (.getfield 87, 3) := by decide +kernel
theorem d_Course_perform_69 : decode b_Course_perform 69 = .ok (.iconst 1, 1) := by decide +kernel
theorem d_Course_perform_70 : decode b_Course_perform 70 = .ok (.iadd, 1) := by decide +kernel
theorem d_Course_perform_71 : decode b_Course_perform 71 = .ok (.putfield 87, 3) := by decide +kernel
theorem d_Course_perform_74 : decode b_Course_perform 74 = .ok (.iinc 3 1, 3) := by decide +kernel
theorem d_Course_perform_77 : decode b_Course_perform 77 = .ok (.goto (-61), 3) := by decide +kernel
theorem d_Course_perform_80 : decode b_Course_perform 80 = .ok (.aload_n 0, 1) := by decide +kernel
theorem d_Course_perform_81 : decode b_Course_perform 81 = .ok (.invokevirtual 90, 3) := by decide +kernel
theorem d_Course_perform_84 : decode b_Course_perform 84 = .ok (.aload_n 0, 1) := by decide +kernel
theorem d_Course_perform_85 : decode b_Course_perform 85 = .ok (.getfield 87, 3) := by decide +kernel
theorem d_Course_perform_88 : decode b_Course_perform 88 = .ok (.ireturn, 1) := by decide +kernel
theorem d_Course_allPassed_0 : decode b_Course_allPassed 0 = .ok (.iconst 0, 1) := by decide +kernel
theorem d_Course_allPassed_1 : decode b_Course_allPassed 1 = .ok (.istore_n 1, 1) := by decide +kernel
theorem d_Course_allPassed_2 : decode b_Course_allPassed 2 = .ok (.iload_n 1, 1) := by decide +kernel
theorem d_Course_allPassed_3 : decode b_Course_allPassed 3 = .ok (.aload_n 0, 1) := by decide +kernel
theorem d_Course_allPassed_4 : decode b_Course_allPassed 4 = .ok (.getfield 48, 3) := by decide +kernel
theorem d_Course_allPassed_7 : decode b_Course_allPassed 7 = .ok (.if_icmp .ge 24, 3) := by decide +kernel
theorem d_Course_allPassed_10 : decode b_Course_allPassed 10 = .ok (.aload_n 0, 1) := by decide +kernel
theorem d_Course_allPassed_11 : decode b_Course_allPassed 11 = .ok (.getfield 19, 3) := by decide +kernel
theorem d_Course_allPassed_14 : decode b_Course_allPassed 14 = .ok (.iload_n 1, 1) := by decide +kernel
theorem d_Course_allPassed_15 : decode b_Course_allPassed 15 = .ok (.aaload, 1) := by decide +kernel
theorem d_Course_allPassed_16 : decode b_Course_allPassed 16 = .ok (.getfield 93, 3) := by decide +kernel
theorem d_Course_allPassed_19 : decode b_Course_allPassed 19 = .ok (.iconst 1, 1) := by decide +kernel
theorem d_Course_allPassed_20 : decode b_Course_allPassed 20 = .ok (.if_icmp .eq 5, 3) := by decide +kernel
theorem d_Course_allPassed_23 : decode b_Course_allPassed 23 = .ok (.iconst 0, 1) := by decide +kernel
theorem d_Course_allPassed_24 : decode b_Course_allPassed 24 = .ok (.ireturn, 1) := by decide +kernel
theorem d_Course_allPassed_25 : decode b_Course_allPassed 25 = .ok (.iinc 1 1, 3) := by decide +kernel
theorem d_Course_allPassed_28 : decode b_Course_allPassed 28 = .ok (.goto (-26), 3) := by decide +kernel
theorem d_Course_allPassed_31 : decode b_Course_allPassed 31 = .ok (.iconst 1, 1) := by decide +kernel
theorem d_Course_allPassed_32 : decode b_Course_allPassed 32 = .ok (.ireturn, 1) := by decide +kernel
theorem d_Course_forgetRun_0 : decode b_Course_forgetRun 0 = .ok (.iconst 0, 1) := by decide +kernel
theorem d_Course_forgetRun_1 : decode b_Course_forgetRun 1 = .ok (.istore_n 1, 1) := by decide +kernel
theorem d_Course_forgetRun_2 : decode b_Course_forgetRun 2 = .ok (.iload_n 1, 1) := by decide +kernel
theorem d_Course_forgetRun_3 : decode b_Course_forgetRun 3 = .ok (.aload_n 0, 1) := by decide +kernel
theorem d_Course_forgetRun_4 : decode b_Course_forgetRun 4 = .ok (.getfield 48, 3) := by decide +kernel
theorem d_Course_forgetRun_7 : decode b_Course_forgetRun 7 = .ok (.if_icmp .ge 18, 3) := by decide +kernel
theorem d_Course_forgetRun_10 : decode b_Course_forgetRun 10 = .ok (.aload_n 0, 1) := by decide +kernel
theorem d_Course_forgetRun_11 : decode b_Course_forgetRun 11 = .ok (.getfield 19, 3) := by decide +kernel
theorem d_Course_forgetRun_14 : decode b_Course_forgetRun 14 = .ok (.iload_n 1, 1) := by decide +kernel
theorem d_Course_forgetRun_15 : decode b_Course_forgetRun 15 = .ok (.aaload, 1) := by decide +kernel
theorem d_Course_forgetRun_16 : decode b_Course_forgetRun 16 = .ok (.invokevirtual 96, 3) := by decide +kernel
theorem d_Course_forgetRun_19 : decode b_Course_forgetRun 19 = .ok (.iinc 1 1, 3) := by decide +kernel
theorem d_Course_forgetRun_22 : decode b_Course_forgetRun 22 = .ok (.goto (-20), 3) := by decide +kernel
theorem d_Course_forgetRun_25 : decode b_Course_forgetRun 25 = .ok (.iconst 0, 1) := by decide +kernel
theorem d_Course_forgetRun_26 : decode b_Course_forgetRun 26 = .ok (.istore_n 1, 1) := by decide +kernel
theorem d_Course_forgetRun_27 : decode b_Course_forgetRun 27 = .ok (.iload_n 1, 1) := by decide +kernel
theorem d_Course_forgetRun_28 : decode b_Course_forgetRun 28 = .ok (.iconst 4, 1) := by decide +kernel
theorem d_Course_forgetRun_29 : decode b_Course_forgetRun 29 = .ok (.if_icmp .ge 16, 3) := by decide +kernel
theorem d_Course_forgetRun_32 : decode b_Course_forgetRun 32 = .ok (.aload_n 0, 1) := by decide +kernel
theorem d_Course_forgetRun_33 : decode b_Course_forgetRun 33 = .ok (.getfield 29, 3) := by decide +kernel
theorem d_Course_forgetRun_36 : decode b_Course_forgetRun 36 = .ok (.iload_n 1, 1) := by decide +kernel
theorem d_Course_forgetRun_37 : decode b_Course_forgetRun 37 = .ok (.iconst (-1), 1) := by decide +kernel
theorem d_Course_forgetRun_38 : decode b_Course_forgetRun 38 = .ok (.iastore, 1) := by decide +kernel
theorem d_Course_forgetRun_39 : decode b_Course_forgetRun 39 = .ok (.iinc 1 1, 3) := by decide +kernel
theorem d_Course_forgetRun_42 : decode b_Course_forgetRun 42 = .ok (.goto (-15), 3) := by decide +kernel
theorem d_Course_forgetRun_45 : decode b_Course_forgetRun 45 = .ok (.aload_n 0, 1) := by decide +kernel
theorem d_Course_forgetRun_46 : decode b_Course_forgetRun 46 = .ok (.getfield 38, 3) := by decide +kernel
theorem d_Course_forgetRun_49 : decode b_Course_forgetRun 49 = .ok (.iconst 0, 1) := by decide +kernel
theorem d_Course_forgetRun_50 : decode b_Course_forgetRun 50 = .ok (.putfield 97, 3) := by decide +kernel
theorem d_Course_forgetRun_53 : decode b_Course_forgetRun 53 = .ok (.aload_n 0, 1) := by decide +kernel
theorem d_Course_forgetRun_54 : decode b_Course_forgetRun 54 = .ok (.getfield 42, 3) := by decide +kernel
theorem d_Course_forgetRun_57 : decode b_Course_forgetRun 57 = .ok (.iconst 0, 1) := by decide +kernel
theorem d_Course_forgetRun_58 : decode b_Course_forgetRun 58 = .ok (.putfield 97, 3) := by decide +kernel
theorem d_Course_forgetRun_61 : decode b_Course_forgetRun 61 = .ok (.aload_n 0, 1) := by decide +kernel
theorem d_Course_forgetRun_62 : decode b_Course_forgetRun 62 = .ok (.iconst 0, 1) := by decide +kernel
theorem d_Course_forgetRun_63 : decode b_Course_forgetRun 63 = .ok (.putfield 100, 3) := by decide +kernel
theorem d_Course_forgetRun_66 : decode b_Course_forgetRun 66 = .ok (.aload_n 0, 1) := by decide +kernel
theorem d_Course_forgetRun_67 : decode b_Course_forgetRun 67 = .ok (.iconst 0, 1) := by decide +kernel
theorem d_Course_forgetRun_68 : decode b_Course_forgetRun 68 = .ok (.putfield 103, 3) := by decide +kernel
theorem d_Course_forgetRun_71 : decode b_Course_forgetRun 71 = .ok (.aload_n 0, 1) := by decide +kernel
theorem d_Course_forgetRun_72 : decode b_Course_forgetRun 72 = .ok (.iconst 0, 1) := by decide +kernel
theorem d_Course_forgetRun_73 : decode b_Course_forgetRun 73 = .ok (.putfield 67, 3) := by decide +kernel
theorem d_Course_forgetRun_76 : decode b_Course_forgetRun 76 = .ok (.aload_n 0, 1) := by decide +kernel
theorem d_Course_forgetRun_77 : decode b_Course_forgetRun 77 = .ok (.iconst 0, 1) := by decide +kernel
theorem d_Course_forgetRun_78 : decode b_Course_forgetRun 78 = .ok (.putfield 87, 3) := by decide +kernel
theorem d_Course_forgetRun_81 : decode b_Course_forgetRun 81 = .ok (.return_, 1) := by decide +kernel
theorem d_Course_stopOverruns_0 : decode b_Course_stopOverruns 0 = .ok (.iconst 0, 1) := by decide +kernel
theorem d_Course_stopOverruns_1 : decode b_Course_stopOverruns 1 = .ok (.istore_n 1, 1) := by decide +kernel
theorem d_Course_stopOverruns_2 : decode b_Course_stopOverruns 2 = .ok (.iload_n 1, 1) := by decide +kernel
theorem d_Course_stopOverruns_3 : decode b_Course_stopOverruns 3 = .ok (.aload_n 0, 1) := by decide +kernel
theorem d_Course_stopOverruns_4 : decode b_Course_stopOverruns 4 = .ok (.getfield 48, 3) := by decide +kernel
theorem d_Course_stopOverruns_7 : decode b_Course_stopOverruns 7 = .ok (.if_icmp .ge 49, 3) := by decide +kernel
theorem d_Course_stopOverruns_10 : decode b_Course_stopOverruns 10 = .ok (.aload_n 0, 1) := by decide +kernel
theorem d_Course_stopOverruns_11 : decode b_Course_stopOverruns 11 = .ok (.getfield 19, 3) := by decide +kernel
theorem d_Course_stopOverruns_14 : decode b_Course_stopOverruns 14 = .ok (.iload_n 1, 1) := by decide +kernel
theorem d_Course_stopOverruns_15 : decode b_Course_stopOverruns 15 = .ok (.aaload, 1) := by decide +kernel
theorem d_Course_stopOverruns_16 : decode b_Course_stopOverruns 16 = .ok (.astore_n 2, 1) := by decide +kernel
theorem d_Course_stopOverruns_17 : decode b_Course_stopOverruns 17 = .ok (.aload_n 2, 1) := by decide +kernel
theorem d_Course_stopOverruns_18 : decode b_Course_stopOverruns 18 = .ok (.aload_n 0, 1) := by decide +kernel
theorem d_Course_stopOverruns_19 : decode b_Course_stopOverruns 19 = .ok (.getfield 87, 3) := by decide +kernel
theorem d_Course_stopOverruns_22 : decode b_Course_stopOverruns 22 = .ok (.invokevirtual 106, 3) := by decide +kernel
theorem d_Course_stopOverruns_25 : decode b_Course_stopOverruns 25 = .ok (.ifCond .eq 25, 3) := by decide +kernel
theorem d_Course_stopOverruns_28 : decode b_Course_stopOverruns 28 = .ok (.aload_n 2, 1) := by decide +kernel
theorem d_Course_stopOverruns_29 : decode b_Course_stopOverruns 29 = .ok (.iconst 3, 1) := by decide +kernel
theorem d_Course_stopOverruns_30 : decode b_Course_stopOverruns 30 = .ok (.aload_n 0, 1) := by decide +kernel
theorem d_Course_stopOverruns_31 : decode b_Course_stopOverruns 31 = .ok (.getfield 87, 3) := by decide +kernel
theorem d_Course_stopOverruns_34 : decode b_Course_stopOverruns 34 = .ok (.invokevirtual 110, 3) := by decide +kernel
theorem d_Course_stopOverruns_37 : decode b_Course_stopOverruns 37 = .ok (.aload_n 0, 1) := by decide +kernel
theorem d_Course_stopOverruns_38 : decode b_Course_stopOverruns 38 = .ok (.getfield 25, 3) := by decide +kernel
theorem d_Course_stopOverruns_41 : decode b_Course_stopOverruns 41 = .ok (.aload_n 2, 1) := by decide +kernel
theorem d_Course_stopOverruns_42 : decode b_Course_stopOverruns 42 = .ok (.getfield 114, 3) := by decide +kernel
theorem d_Course_stopOverruns_45 : decode b_Course_stopOverruns 45 = .ok (.aaload, 1) := by decide +kernel
theorem d_Course_stopOverruns_46 : decode b_Course_stopOverruns 46 = .ok (.iconst 1, 1) := by decide +kernel
theorem d_Course_stopOverruns_47 : decode b_Course_stopOverruns 47 = .ok (.putfield 117, 3) := by decide +kernel
theorem d_Course_stopOverruns_50 : decode b_Course_stopOverruns 50 = .ok (.iinc 1 1, 3) := by decide +kernel
theorem d_Course_stopOverruns_53 : decode b_Course_stopOverruns 53 = .ok (.goto (-51), 3) := by decide +kernel
theorem d_Course_stopOverruns_56 : decode b_Course_stopOverruns 56 = .ok (.return_, 1) := by decide +kernel
theorem d_Course_releaseWorkers_0 : decode b_Course_releaseWorkers 0 = .ok (.iconst 0, 1) := by decide +kernel
theorem d_Course_releaseWorkers_1 : decode b_Course_releaseWorkers 1 = .ok (.istore_n 1, 1) := by decide +kernel
theorem d_Course_releaseWorkers_2 : decode b_Course_releaseWorkers 2 = .ok (.iload_n 1, 1) := by decide +kernel
theorem d_Course_releaseWorkers_3 : decode b_Course_releaseWorkers 3 = .ok (.aload_n 0, 1) := by decide +kernel
theorem d_Course_releaseWorkers_4 : decode b_Course_releaseWorkers 4 = .ok (.getfield 52, 3) := by decide +kernel
theorem d_Course_releaseWorkers_7 : decode b_Course_releaseWorkers 7 = .ok (.if_icmp .ge 35, 3) := by decide +kernel
theorem d_Course_releaseWorkers_10 : decode b_Course_releaseWorkers 10 = .ok (.aload_n 0, 1) := by decide +kernel
theorem d_Course_releaseWorkers_11 : decode b_Course_releaseWorkers 11 = .ok (.getfield 29, 3) := by decide +kernel
theorem d_Course_releaseWorkers_14 : decode b_Course_releaseWorkers 14 = .ok (.iload_n 1, 1) := by decide +kernel
theorem d_Course_releaseWorkers_15 : decode b_Course_releaseWorkers 15 = .ok (.iaload, 1) := by decide +kernel
theorem d_Course_releaseWorkers_16 : decode b_Course_releaseWorkers 16 = .ok (.iconst (-1), 1) := by decide +kernel
theorem d_Course_releaseWorkers_17 : decode b_Course_releaseWorkers 17 = .ok (.if_icmp .eq 19, 3) := by decide +kernel
theorem d_Course_releaseWorkers_20 : decode b_Course_releaseWorkers 20 = .ok (.aload_n 0, 1) := by decide +kernel
theorem d_Course_releaseWorkers_21 : decode b_Course_releaseWorkers 21 = .ok (.iload_n 1, 1) := by decide +kernel
theorem d_Course_releaseWorkers_22 : decode b_Course_releaseWorkers 22 = .ok (.aload_n 0, 1) := by decide +kernel
theorem d_Course_releaseWorkers_23 : decode b_Course_releaseWorkers 23 = .ok (.getfield 19, 3) := by decide +kernel
theorem d_Course_releaseWorkers_26 : decode b_Course_releaseWorkers 26 = .ok (.aload_n 0, 1) := by decide +kernel
theorem d_Course_releaseWorkers_27 : decode b_Course_releaseWorkers 27 = .ok (.getfield 29, 3) := by decide +kernel
theorem d_Course_releaseWorkers_30 : decode b_Course_releaseWorkers 30 = .ok (.iload_n 1, 1) := by decide +kernel
theorem d_Course_releaseWorkers_31 : decode b_Course_releaseWorkers 31 = .ok (.iaload, 1) := by decide +kernel
theorem d_Course_releaseWorkers_32 : decode b_Course_releaseWorkers 32 = .ok (.aaload, 1) := by decide +kernel
theorem d_Course_releaseWorkers_33 : decode b_Course_releaseWorkers 33 = .ok (.invokevirtual 121, 3) := by decide +kernel
theorem d_Course_releaseWorkers_36 : decode b_Course_releaseWorkers 36 = .ok (.iinc 1 1, 3) := by decide +kernel
theorem d_Course_releaseWorkers_39 : decode b_Course_releaseWorkers 39 = .ok (.goto (-37), 3) := by decide +kernel
theorem d_Course_releaseWorkers_42 : decode b_Course_releaseWorkers 42 = .ok (.return_, 1) := by decide +kernel
theorem d_Course_releaseIfDone_0 : decode b_Course_releaseIfDone 0 = .ok (.aload_n 0, 1) := by decide +kernel
theorem d_Course_releaseIfDone_1 : decode b_Course_releaseIfDone 1 = .ok (.getfield 25, 3) := by decide +kernel
theorem d_Course_releaseIfDone_4 : decode b_Course_releaseIfDone 4 = .ok (.aload_n 2, 1) := by decide +kernel
theorem d_Course_releaseIfDone_5 : decode b_Course_releaseIfDone 5 = .ok (.getfield 114, 3) := by decide +kernel
theorem d_Course_releaseIfDone_8 : decode b_Course_releaseIfDone 8 = .ok (.aaload, 1) := by decide +kernel
theorem d_Course_releaseIfDone_9 : decode b_Course_releaseIfDone 9 = .ok (.getfield 125, 3) := by decide +kernel
theorem d_Course_releaseIfDone_12 : decode b_Course_releaseIfDone 12 = .ok (.ifCond .eq 13, 3) := by decide +kernel
theorem d_Course_releaseIfDone_15 : decode b_Course_releaseIfDone 15 = .ok (.aload_n 0, 1) := by decide +kernel
theorem d_Course_releaseIfDone_16 : decode b_Course_releaseIfDone 16 = .ok (.getfield 29, 3) := by decide +kernel
theorem d_Course_releaseIfDone_19 : decode b_Course_releaseIfDone 19 = .ok (.iload_n 1, 1) := by decide +kernel
theorem d_Course_releaseIfDone_20 : decode b_Course_releaseIfDone 20 = .ok (.iconst (-1), 1) := by decide +kernel
theorem d_Course_releaseIfDone_21 : decode b_Course_releaseIfDone 21 = .ok (.iastore, 1) := by decide +kernel
theorem d_Course_releaseIfDone_22 : decode b_Course_releaseIfDone 22 = .ok (.goto 36, 3) := by decide +kernel
theorem d_Course_releaseIfDone_25 : decode b_Course_releaseIfDone 25 = .ok (.aload_n 2, 1) := by decide +kernel
theorem d_Course_releaseIfDone_26 : decode b_Course_releaseIfDone 26 = .ok (.getfield 93, 3) := by decide +kernel
theorem d_Course_releaseIfDone_29 : decode b_Course_releaseIfDone 29 = .ok (.iconst 3, 1) := by decide +kernel
theorem d_Course_releaseIfDone_30 : decode b_Course_releaseIfDone 30 = .ok (.if_icmp .ne 28, 3) := by decide +kernel
theorem d_Course_releaseIfDone_33 : decode b_Course_releaseIfDone 33 = .ok (.aload_n 0, 1) := by decide +kernel
theorem d_Course_releaseIfDone_34 : decode b_Course_releaseIfDone 34 = .ok (.getfield 87, 3) := by decide +kernel
theorem d_Course_releaseIfDone_37 : decode b_Course_releaseIfDone 37 = .ok (.aload_n 2, 1) := by decide +kernel
theorem d_Course_releaseIfDone_38 : decode b_Course_releaseIfDone 38 = .ok (.getfield 128, 3) := by decide +kernel
theorem d_Course_releaseIfDone_41 : decode b_Course_releaseIfDone 41 = .ok (.isub, 1) := by decide +kernel
theorem d_Course_releaseIfDone_42 : decode b_Course_releaseIfDone 42 = .ok (.iconst 3, 1) := by decide +kernel
theorem d_Course_releaseIfDone_43 : decode b_Course_releaseIfDone 43 = .ok (.if_icmp .lt 15, 3) := by decide +kernel
theorem d_Course_releaseIfDone_46 : decode b_Course_releaseIfDone 46 = .ok (.aload_n 2, 1) := by decide +kernel
theorem d_Course_releaseIfDone_47 : decode b_Course_releaseIfDone 47 = .ok (.iconst 1, 1) := by decide +kernel
theorem d_Course_releaseIfDone_48 : decode b_Course_releaseIfDone 48 = .ok (.putfield 131, 3) := by decide +kernel
theorem d_Course_releaseIfDone_51 : decode b_Course_releaseIfDone 51 = .ok (.aload_n 0, 1) := by decide +kernel
theorem d_Course_releaseIfDone_52 : decode b_Course_releaseIfDone 52 = .ok (.getfield 29, 3) := by decide +kernel
theorem d_Course_releaseIfDone_55 : decode b_Course_releaseIfDone 55 = .ok (.iload_n 1, 1) := by decide +kernel
theorem d_Course_releaseIfDone_56 : decode b_Course_releaseIfDone 56 = .ok (.iconst (-1), 1) := by decide +kernel
theorem d_Course_releaseIfDone_57 : decode b_Course_releaseIfDone 57 = .ok (.iastore, 1) := by decide +kernel
theorem d_Course_releaseIfDone_58 : decode b_Course_releaseIfDone 58 = .ok (.return_, 1) := by decide +kernel
theorem d_Course_beginTrials_0 : decode b_Course_beginTrials 0 = .ok (.iconst 0, 1) := by decide +kernel
theorem d_Course_beginTrials_1 : decode b_Course_beginTrials 1 = .ok (.istore_n 1, 1) := by decide +kernel
theorem d_Course_beginTrials_2 : decode b_Course_beginTrials 2 = .ok (.iload_n 1, 1) := by decide +kernel
theorem d_Course_beginTrials_3 : decode b_Course_beginTrials 3 = .ok (.aload_n 0, 1) := by decide +kernel
theorem d_Course_beginTrials_4 : decode b_Course_beginTrials 4 = .ok (.getfield 48, 3) := by decide +kernel
theorem d_Course_beginTrials_7 : decode b_Course_beginTrials 7 = .ok (.if_icmp .ge 51, 3) := by decide +kernel
theorem d_Course_beginTrials_10 : decode b_Course_beginTrials 10 = .ok (.aload_n 0, 1) := by decide +kernel
theorem d_Course_beginTrials_11 : decode b_Course_beginTrials 11 = .ok (.invokevirtual 134, 3) := by decide +kernel
theorem d_Course_beginTrials_14 : decode b_Course_beginTrials 14 = .ok (.istore_n 2, 1) := by decide +kernel
theorem d_Course_beginTrials_15 : decode b_Course_beginTrials 15 = .ok (.iload_n 2, 1) := by decide +kernel
theorem d_Course_beginTrials_16 : decode b_Course_beginTrials 16 = .ok (.iconst (-1), 1) := by decide +kernel
theorem d_Course_beginTrials_17 : decode b_Course_beginTrials 17 = .ok (.if_icmp .eq 35, 3) := by decide +kernel
theorem d_Course_beginTrials_20 : decode b_Course_beginTrials 20 = .ok (.aload_n 0, 1) := by decide +kernel
theorem d_Course_beginTrials_21 : decode b_Course_beginTrials 21 = .ok (.getfield 19, 3) := by decide +kernel
theorem d_Course_beginTrials_24 : decode b_Course_beginTrials 24 = .ok (.iload_n 1, 1) := by decide +kernel
theorem d_Course_beginTrials_25 : decode b_Course_beginTrials 25 = .ok (.aaload, 1) := by decide +kernel
theorem d_Course_beginTrials_26 : decode b_Course_beginTrials 26 = .ok (.getfield 137, 3) := by decide +kernel
theorem d_Course_beginTrials_29 : decode b_Course_beginTrials 29 = .ok (.iconst (-1), 1) := by decide +kernel
theorem d_Course_beginTrials_30 : decode b_Course_beginTrials 30 = .ok (.if_icmp .ne 22, 3) := by decide +kernel
theorem d_Course_beginTrials_33 : decode b_Course_beginTrials 33 = .ok (.aload_n 0, 1) := by decide +kernel
theorem d_Course_beginTrials_34 : decode b_Course_beginTrials 34 = .ok (.aload_n 0, 1) := by decide +kernel
theorem d_Course_beginTrials_35 : decode b_Course_beginTrials 35 = .ok (.getfield 19, 3) := by decide +kernel
theorem d_Course_beginTrials_38 : decode b_Course_beginTrials 38 = .ok (.iload_n 1, 1) := by decide +kernel
theorem d_Course_beginTrials_39 : decode b_Course_beginTrials 39 = .ok (.aaload, 1) := by decide +kernel
theorem d_Course_beginTrials_40 : decode b_Course_beginTrials 40 = .ok (.invokevirtual 140, 3) := by decide +kernel
theorem d_Course_beginTrials_43 : decode b_Course_beginTrials 43 = .ok (.ifCond .eq 9, 3) := by decide +kernel
theorem d_Course_beginTrials_46 : decode b_Course_beginTrials 46 = .ok (.aload_n 0, 1) := by decide +kernel
theorem d_Course_beginTrials_47 : decode b_Course_beginTrials 47 = .ok (.iload_n 1, 1) := by decide +kernel
theorem d_Course_beginTrials_48 : decode b_Course_beginTrials 48 = .ok (.iload_n 2, 1) := by decide +kernel
theorem d_Course_beginTrials_49 : decode b_Course_beginTrials 49 = .ok (.invokevirtual 144, 3) := by decide +kernel
theorem d_Course_beginTrials_52 : decode b_Course_beginTrials 52 = .ok (.iinc 1 1, 3) := by decide +kernel
theorem d_Course_beginTrials_55 : decode b_Course_beginTrials 55 = .ok (.goto (-53), 3) := by decide +kernel
theorem d_Course_beginTrials_58 : decode b_Course_beginTrials 58 = .ok (.return_, 1) := by decide +kernel
theorem d_Course_lowestFreeWorker_0 : decode b_Course_lowestFreeWorker 0 = .ok (.iconst 0, 1) := by decide +kernel
theorem d_Course_lowestFreeWorker_1 : decode b_Course_lowestFreeWorker 1 = .ok (.istore_n 1, 1) := by decide +kernel
theorem d_Course_lowestFreeWorker_2 : decode b_Course_lowestFreeWorker 2 = .ok (.iload_n 1, 1) := by decide +kernel
theorem d_Course_lowestFreeWorker_3 : decode b_Course_lowestFreeWorker 3 = .ok (.aload_n 0, 1) := by decide +kernel
theorem d_Course_lowestFreeWorker_4 : decode b_Course_lowestFreeWorker 4 = .ok (.getfield 52, 3) := by decide +kernel
theorem d_Course_lowestFreeWorker_7 : decode b_Course_lowestFreeWorker 7 = .ok (.if_icmp .ge 21, 3) := by decide +kernel
theorem d_Course_lowestFreeWorker_10 : decode b_Course_lowestFreeWorker 10 = .ok (.aload_n 0, 1) := by decide +kernel
theorem d_Course_lowestFreeWorker_11 : decode b_Course_lowestFreeWorker 11 = .ok (.getfield 29, 3) := by decide +kernel
theorem d_Course_lowestFreeWorker_14 : decode b_Course_lowestFreeWorker 14 = .ok (.iload_n 1, 1) := by decide +kernel
theorem d_Course_lowestFreeWorker_15 : decode b_Course_lowestFreeWorker 15 = .ok (.iaload, 1) := by decide +kernel
theorem d_Course_lowestFreeWorker_16 : decode b_Course_lowestFreeWorker 16 = .ok (.iconst (-1), 1) := by decide +kernel
theorem d_Course_lowestFreeWorker_17 : decode b_Course_lowestFreeWorker 17 = .ok (.if_icmp .ne 5, 3) := by decide +kernel
theorem d_Course_lowestFreeWorker_20 : decode b_Course_lowestFreeWorker 20 = .ok (.iload_n 1, 1) := by decide +kernel
theorem d_Course_lowestFreeWorker_21 : decode b_Course_lowestFreeWorker 21 = .ok (.ireturn, 1) := by decide +kernel
theorem d_Course_lowestFreeWorker_22 : decode b_Course_lowestFreeWorker 22 = .ok (.iinc 1 1, 3) := by decide +kernel
theorem d_Course_lowestFreeWorker_25 : decode b_Course_lowestFreeWorker 25 = .ok (.goto (-23), 3) := by decide +kernel
theorem d_Course_lowestFreeWorker_28 : decode b_Course_lowestFreeWorker 28 = .ok (.iconst (-1), 1) := by decide +kernel
theorem d_Course_lowestFreeWorker_29 : decode b_Course_lowestFreeWorker 29 = .ok (.ireturn, 1) := by decide +kernel
theorem d_Course_canHaveLocks_0 : decode b_Course_canHaveLocks 0 = .ok (.iconst 0, 1) := by decide +kernel
theorem d_Course_canHaveLocks_1 : decode b_Course_canHaveLocks 1 = .ok (.istore_n 2, 1) := by decide +kernel
theorem d_Course_canHaveLocks_2 : decode b_Course_canHaveLocks 2 = .ok (.iload_n 2, 1) := by decide +kernel
theorem d_Course_canHaveLocks_3 : decode b_Course_canHaveLocks 3 = .ok (.aload_n 0, 1) := by decide +kernel
theorem d_Course_canHaveLocks_4 : decode b_Course_canHaveLocks 4 = .ok (.getfield 48, 3) := by decide +kernel
theorem d_Course_canHaveLocks_7 : decode b_Course_canHaveLocks 7 = .ok (.if_icmp .ge 36, 3) := by decide +kernel
theorem d_Course_canHaveLocks_10 : decode b_Course_canHaveLocks 10 = .ok (.aload_n 0, 1) := by decide +kernel
theorem d_Course_canHaveLocks_11 : decode b_Course_canHaveLocks 11 = .ok (.getfield 19, 3) := by decide +kernel
theorem d_Course_canHaveLocks_14 : decode b_Course_canHaveLocks 14 = .ok (.iload_n 2, 1) := by decide +kernel
theorem d_Course_canHaveLocks_15 : decode b_Course_canHaveLocks 15 = .ok (.aaload, 1) := by decide +kernel
theorem d_Course_canHaveLocks_16 : decode b_Course_canHaveLocks 16 = .ok (.invokevirtual 147, 3) := by decide +kernel
theorem d_Course_canHaveLocks_19 : decode b_Course_canHaveLocks 19 = .ok (.ifCond .eq 18, 3) := by decide +kernel
theorem d_Course_canHaveLocks_22 : decode b_Course_canHaveLocks 22 = .ok (.aload_n 0, 1) := by decide +kernel
theorem d_Course_canHaveLocks_23 : decode b_Course_canHaveLocks 23 = .ok (.getfield 19, 3) := by decide +kernel
theorem d_Course_canHaveLocks_26 : decode b_Course_canHaveLocks 26 = .ok (.iload_n 2, 1) := by decide +kernel
theorem d_Course_canHaveLocks_27 : decode b_Course_canHaveLocks 27 = .ok (.aaload, 1) := by decide +kernel
theorem d_Course_canHaveLocks_28 : decode b_Course_canHaveLocks 28 = .ok (.aload_n 1, 1) := by decide +kernel
theorem d_Course_canHaveLocks_29 : decode b_Course_canHaveLocks 29 = .ok (.invokevirtual 150, 3) := by decide +kernel
theorem d_Course_canHaveLocks_32 : decode b_Course_canHaveLocks 32 = .ok (.ifCond .eq 5, 3) := by decide +kernel
theorem d_Course_canHaveLocks_35 : decode b_Course_canHaveLocks 35 = .ok (.iconst 0, 1) := by decide +kernel
theorem d_Course_canHaveLocks_36 : decode b_Course_canHaveLocks 36 = .ok (.ireturn, 1) := by decide +kernel
theorem d_Course_canHaveLocks_37 : decode b_Course_canHaveLocks 37 = .ok (.iinc 2 1, 3) := by decide +kernel
theorem d_Course_canHaveLocks_40 : decode b_Course_canHaveLocks 40 = .ok (.goto (-38), 3) := by decide +kernel
theorem d_Course_canHaveLocks_43 : decode b_Course_canHaveLocks 43 = .ok (.iconst 1, 1) := by decide +kernel
theorem d_Course_canHaveLocks_44 : decode b_Course_canHaveLocks 44 = .ok (.ireturn, 1) := by decide +kernel
theorem d_Course_begin_0 : decode b_Course_begin 0 = .ok (.aload_n 0, 1) := by decide +kernel
theorem d_Course_begin_1 : decode b_Course_begin 1 = .ok (.getfield 19, 3) := by decide +kernel
theorem d_Course_begin_4 : decode b_Course_begin 4 = .ok (.iload_n 1, 1) := by decide +kernel
theorem d_Course_begin_5 : decode b_Course_begin 5 = .ok (.aaload, 1) := by decide +kernel
theorem d_Course_begin_6 : decode b_Course_begin 6 = .ok (.astore_n 3, 1) := by decide +kernel
theorem d_Course_begin_7 : decode b_Course_begin 7 = .ok (.aload_n 3, 1) := by decide +kernel
theorem d_Course_begin_8 : decode b_Course_begin 8 = .ok (.aload_n 0, 1) := by decide +kernel
theorem d_Course_begin_9 : decode b_Course_begin 9 = .ok (.getfield 87, 3) := by decide +kernel
theorem d_Course_begin_12 : decode b_Course_begin 12 = .ok (.putfield 137, 3) := by decide +kernel
theorem d_Course_begin_15 : decode b_Course_begin 15 = .ok (.aload_n 3, 1) := by decide +kernel
theorem d_Course_begin_16 : decode b_Course_begin 16 = .ok (.iload_n 2, 1) := by decide +kernel
theorem d_Course_begin_17 : decode b_Course_begin 17 = .ok (.putfield 153, 3) := by decide +kernel
theorem d_Course_begin_20 : decode b_Course_begin 20 = .ok (.aload_n 3, 1) := by decide +kernel
theorem d_Course_begin_21 : decode b_Course_begin 21 = .ok (.aload_n 0, 1) := by decide +kernel
theorem d_Course_begin_22 : decode b_Course_begin 22 = .ok (.getfield 100, 3) := by decide +kernel
theorem d_Course_begin_25 : decode b_Course_begin 25 = .ok (.putfield 114, 3) := by decide +kernel
theorem d_Course_begin_28 : decode b_Course_begin 28 = .ok (.aload_n 0, 1) := by decide +kernel
theorem d_Course_begin_29 : decode b_Course_begin 29 = .ok (.getfield 29, 3) := by decide +kernel
theorem d_Course_begin_32 : decode b_Course_begin 32 = .ok (.iload_n 2, 1) := by decide +kernel
theorem d_Course_begin_33 : decode b_Course_begin 33 = .ok (.iload_n 1, 1) := by decide +kernel
theorem d_Course_begin_34 : decode b_Course_begin 34 = .ok (.iastore, 1) := by decide +kernel
theorem d_Course_begin_35 : decode b_Course_begin 35 = .ok (.aload_n 0, 1) := by decide +kernel
theorem d_Course_begin_36 : decode b_Course_begin 36 = .ok (.aload_n 3, 1) := by decide +kernel
theorem d_Course_begin_37 : decode b_Course_begin 37 = .ok (.getfield 156, 3) := by decide +kernel
theorem d_Course_begin_40 : decode b_Course_begin 40 = .ok (.iload_n 1, 1) := by decide +kernel
theorem d_Course_begin_41 : decode b_Course_begin 41 = .ok (.iconst (-1), 1) := by decide +kernel
theorem d_Course_begin_42 : decode b_Course_begin 42 = .ok (.invokevirtual 159, 3) := by decide +kernel
theorem d_Course_begin_45 : decode b_Course_begin 45 = .ok (.return_, 1) := by decide +kernel
theorem d_Course_startStrand_0 : decode b_Course_startStrand 0 = .ok (.aload_n 0, 1) := by decide +kernel
theorem d_Course_startStrand_1 : decode b_Course_startStrand 1 = .ok (.getfield 100, 3) := by decide +kernel
theorem d_Course_startStrand_4 : decode b_Course_startStrand 4 = .ok (.bipush 52, 2) := by decide +kernel
theorem d_Course_startStrand_6 : decode b_Course_startStrand 6 = .ok (.if_icmp .ge 43, 3) := by decide +kernel
theorem d_Course_startStrand_9 : decode b_Course_startStrand 9 = .ok (.aload_n 0, 1) := by decide +kernel
theorem d_Course_startStrand_10 : decode b_Course_startStrand 10 = .ok (.getfield 25, 3) := by decide +kernel
theorem d_Course_startStrand_13 : decode b_Course_startStrand 13 = .ok (.aload_n 0, 1) := by decide +kernel
theorem d_Course_startStrand_14 : decode b_Course_startStrand 14 = .ok (.getfield 100, 3) := by decide +kernel
theorem d_Course_startStrand_17 : decode b_Course_startStrand 17 = .ok (.aaload, 1) := by decide +kernel
theorem d_Course_startStrand_18 : decode b_Course_startStrand 18 = .ok (.iload_n 1, 1) := by decide +kernel
theorem d_Course_startStrand_19 : decode b_Course_startStrand 19 = .ok (.iload_n 2, 1) := by decide +kernel
theorem d_Course_startStrand_20 : decode b_Course_startStrand 20 = .ok (.iload_n 3, 1) := by decide +kernel
theorem d_Course_startStrand_21 : decode b_Course_startStrand 21 = .ok (.invokevirtual 163, 3) := by decide +kernel
theorem d_Course_startStrand_24 : decode b_Course_startStrand 24 = .ok (.aload_n 0, 1) := by decide +kernel
theorem d_Course_startStrand_25 : decode b_Course_startStrand 25 = .ok (.dup, 1) := by decide +kernel
theorem d_Course_startStrand_26 : decode b_Course_startStrand 26 = .ok (.getfield 100, 3) := by decide +kernel
theorem d_Course_startStrand_29 : decode b_Course_startStrand 29 = .ok (.iconst 1, 1) := by decide +kernel
theorem d_Course_startStrand_30 : decode b_Course_startStrand 30 = .ok (.iadd, 1) := by decide +kernel
theorem d_Course_startStrand_31 : decode b_Course_startStrand 31 = .ok (.putfield 100, 3) := by decide +kernel
theorem d_Course_startStrand_34 : decode b_Course_startStrand 34 = .ok (.aload_n 0, 1) := by decide +kernel
theorem d_Course_startStrand_35 : decode b_Course_startStrand 35 = .ok (.getfield 19, 3) := by decide +kernel
theorem d_Course_startStrand_38 : decode b_Course_startStrand 38 = .ok (.iload_n 2, 1) := by decide +kernel
theorem d_Course_startStrand_39 : decode b_Course_startStrand 39 = .ok (.aaload, 1) := by decide +kernel
theorem d_Course_startStrand_40 : decode b_Course_startStrand 40 = .ok (.dup, 1) := by decide +kernel
theorem d_Course_startStrand_41 : decode b_Course_startStrand 41 = .ok (.getfield 166, 3) := by decide +kernel
theorem d_Course_startStrand_44 : decode b_Course_startStrand 44 = .ok (.iconst 1, 1) := by decide +kernel
theorem d_Course_startStrand_45 : decode b_Course_startStrand 45 = .ok (.iadd, 1) := by decide +kernel
theorem d_Course_startStrand_46 : decode b_Course_startStrand 46 = .ok (.putfield 166, 3) := by decide +kernel
theorem d_Course_startStrand_49 : decode b_Course_startStrand 49 = .ok (.return_, 1) := by decide +kernel
theorem d_Course_countRunning_0 : decode b_Course_countRunning 0 = .ok (.iconst 0, 1) := by decide +kernel
theorem d_Course_countRunning_1 : decode b_Course_countRunning 1 = .ok (.istore_n 1, 1) := by decide +kernel
theorem d_Course_countRunning_2 : decode b_Course_countRunning 2 = .ok (.iconst 0, 1) := by decide +kernel
theorem d_Course_countRunning_3 : decode b_Course_countRunning 3 = .ok (.istore_n 2, 1) := by decide +kernel
theorem d_Course_countRunning_4 : decode b_Course_countRunning 4 = .ok (.iload_n 2, 1) := by decide +kernel
theorem d_Course_countRunning_5 : decode b_Course_countRunning 5 = .ok (.aload_n 0, 1) := by decide +kernel
theorem d_Course_countRunning_6 : decode b_Course_countRunning 6 = .ok (.getfield 48, 3) := by decide +kernel
theorem d_Course_countRunning_9 : decode b_Course_countRunning 9 = .ok (.if_icmp .ge 24, 3) := by decide +kernel
theorem d_Course_countRunning_12 : decode b_Course_countRunning 12 = .ok (.aload_n 0, 1) := by decide +kernel
theorem d_Course_countRunning_13 : decode b_Course_countRunning 13 = .ok (.getfield 19, 3) := by decide +kernel
theorem d_Course_countRunning_16 : decode b_Course_countRunning 16 = .ok (.iload_n 2, 1) := by decide +kernel
theorem d_Course_countRunning_17 : decode b_Course_countRunning 17 = .ok (.aaload, 1) := by decide +kernel
theorem d_Course_countRunning_18 : decode b_Course_countRunning 18 = .ok (.invokevirtual 147, 3) := by decide +kernel
theorem d_Course_countRunning_21 : decode b_Course_countRunning 21 = .ok (.ifCond .eq 6, 3) := by decide +kernel
theorem d_Course_countRunning_24 : decode b_Course_countRunning 24 = .ok (.iinc 1 1, 3) := by decide +kernel
theorem d_Course_countRunning_27 : decode b_Course_countRunning 27 = .ok (.iinc 2 1, 3) := by decide +kernel
theorem d_Course_countRunning_30 : decode b_Course_countRunning 30 = .ok (.goto (-26), 3) := by decide +kernel
theorem d_Course_countRunning_33 : decode b_Course_countRunning 33 = .ok (.iload_n 1, 1) := by decide +kernel
theorem d_Course_countRunning_34 : decode b_Course_countRunning 34 = .ok (.ireturn, 1) := by decide +kernel
theorem d_Course_isFinished_0 : decode b_Course_isFinished 0 = .ok (.iconst 0, 1) := by decide +kernel
theorem d_Course_isFinished_1 : decode b_Course_isFinished 1 = .ok (.istore_n 1, 1) := by decide +kernel
theorem d_Course_isFinished_2 : decode b_Course_isFinished 2 = .ok (.iload_n 1, 1) := by decide +kernel
theorem d_Course_isFinished_3 : decode b_Course_isFinished 3 = .ok (.aload_n 0, 1) := by decide +kernel
theorem d_Course_isFinished_4 : decode b_Course_isFinished 4 = .ok (.getfield 48, 3) := by decide +kernel
theorem d_Course_isFinished_7 : decode b_Course_isFinished 7 = .ok (.if_icmp .ge 23, 3) := by decide +kernel
theorem d_Course_isFinished_10 : decode b_Course_isFinished 10 = .ok (.aload_n 0, 1) := by decide +kernel
theorem d_Course_isFinished_11 : decode b_Course_isFinished 11 = .ok (.getfield 19, 3) := by decide +kernel
theorem d_Course_isFinished_14 : decode b_Course_isFinished 14 = .ok (.iload_n 1, 1) := by decide +kernel
theorem d_Course_isFinished_15 : decode b_Course_isFinished 15 = .ok (.aaload, 1) := by decide +kernel
theorem d_Course_isFinished_16 : decode b_Course_isFinished 16 = .ok (.getfield 93, 3) := by decide +kernel
theorem d_Course_isFinished_19 : decode b_Course_isFinished 19 = .ok (.ifCond .ne 5, 3) := by decide +kernel
theorem d_Course_isFinished_22 : decode b_Course_isFinished 22 = .ok (.iconst 0, 1) := by decide +kernel
theorem d_Course_isFinished_23 : decode b_Course_isFinished 23 = .ok (.ireturn, 1) := by decide +kernel
theorem d_Course_isFinished_24 : decode b_Course_isFinished 24 = .ok (.iinc 1 1, 3) := by decide +kernel
theorem d_Course_isFinished_27 : decode b_Course_isFinished 27 = .ok (.goto (-25), 3) := by decide +kernel
theorem d_Course_isFinished_30 : decode b_Course_isFinished 30 = .ok (.iconst 0, 1) := by decide +kernel
theorem d_Course_isFinished_31 : decode b_Course_isFinished 31 = .ok (.istore_n 1, 1) := by decide +kernel
theorem d_Course_isFinished_32 : decode b_Course_isFinished 32 = .ok (.iload_n 1, 1) := by decide +kernel
theorem d_Course_isFinished_33 : decode b_Course_isFinished 33 = .ok (.aload_n 0, 1) := by decide +kernel
theorem d_Course_isFinished_34 : decode b_Course_isFinished 34 = .ok (.getfield 52, 3) := by decide +kernel
theorem d_Course_isFinished_37 : decode b_Course_isFinished 37 = .ok (.if_icmp .ge 21, 3) := by decide +kernel
theorem d_Course_isFinished_40 : decode b_Course_isFinished 40 = .ok (.aload_n 0, 1) := by decide +kernel
theorem d_Course_isFinished_41 : decode b_Course_isFinished 41 = .ok (.getfield 29, 3) := by decide +kernel
theorem d_Course_isFinished_44 : decode b_Course_isFinished 44 = .ok (.iload_n 1, 1) := by decide +kernel
theorem d_Course_isFinished_45 : decode b_Course_isFinished 45 = .ok (.iaload, 1) := by decide +kernel
theorem d_Course_isFinished_46 : decode b_Course_isFinished 46 = .ok (.iconst (-1), 1) := by decide +kernel
theorem d_Course_isFinished_47 : decode b_Course_isFinished 47 = .ok (.if_icmp .eq 5, 3) := by decide +kernel
theorem d_Course_isFinished_50 : decode b_Course_isFinished 50 = .ok (.iconst 0, 1) := by decide +kernel
theorem d_Course_isFinished_51 : decode b_Course_isFinished 51 = .ok (.ireturn, 1) := by decide +kernel
theorem d_Course_isFinished_52 : decode b_Course_isFinished 52 = .ok (.iinc 1 1, 3) := by decide +kernel
theorem d_Course_isFinished_55 : decode b_Course_isFinished 55 = .ok (.goto (-23), 3) := by decide +kernel
theorem d_Course_isFinished_58 : decode b_Course_isFinished 58 = .ok (.iconst 1, 1) := by decide +kernel
theorem d_Course_isFinished_59 : decode b_Course_isFinished 59 = .ok (.ireturn, 1) := by decide +kernel
theorem d_Course_takeTurns_0 : decode b_Course_takeTurns 0 = .ok (.aload_n 0, 1) := by decide +kernel
theorem d_Course_takeTurns_1 : decode b_Course_takeTurns 1 = .ok (.getfield 100, 3) := by decide +kernel
theorem d_Course_takeTurns_4 : decode b_Course_takeTurns 4 = .ok (.istore_n 1, 1) := by decide +kernel
theorem d_Course_takeTurns_5 : decode b_Course_takeTurns 5 = .ok (.iconst 0, 1) := by decide +kernel
theorem d_Course_takeTurns_6 : decode b_Course_takeTurns 6 = .ok (.istore_n 2, 1) := by decide +kernel
theorem d_Course_takeTurns_7 : decode b_Course_takeTurns 7 = .ok (.iload_n 2, 1) := by decide +kernel
theorem d_Course_takeTurns_8 : decode b_Course_takeTurns 8 = .ok (.iload_n 1, 1) := by decide +kernel
theorem d_Course_takeTurns_9 : decode b_Course_takeTurns 9 = .ok (.if_icmp .ge 26, 3) := by decide +kernel
theorem d_Course_takeTurns_12 : decode b_Course_takeTurns 12 = .ok (.aload_n 0, 1) := by decide +kernel
theorem d_Course_takeTurns_13 : decode b_Course_takeTurns 13 = .ok (.getfield 25, 3) := by decide +kernel
theorem d_Course_takeTurns_16 : decode b_Course_takeTurns 16 = .ok (.iload_n 2, 1) := by decide +kernel
theorem d_Course_takeTurns_17 : decode b_Course_takeTurns 17 = .ok (.aaload, 1) := by decide +kernel
theorem d_Course_takeTurns_18 : decode b_Course_takeTurns 18 = .ok (.getfield 125, 3) := by decide +kernel
theorem d_Course_takeTurns_21 : decode b_Course_takeTurns 21 = .ok (.ifCond .ne 8, 3) := by decide +kernel
theorem d_Course_takeTurns_24 : decode b_Course_takeTurns 24 = .ok (.aload_n 0, 1) := by decide +kernel
theorem d_Course_takeTurns_25 : decode b_Course_takeTurns 25 = .ok (.iload_n 2, 1) := by decide +kernel
theorem d_Course_takeTurns_26 : decode b_Course_takeTurns 26 = .ok (.invokevirtual 167, 3) := by decide +kernel
theorem d_Course_takeTurns_29 : decode b_Course_takeTurns 29 = .ok (.iinc 2 1, 3) := by decide +kernel
theorem d_Course_takeTurns_32 : decode b_Course_takeTurns 32 = .ok (.goto (-25), 3) := by decide +kernel
theorem d_Course_takeTurns_35 : decode b_Course_takeTurns 35 = .ok (.return_, 1) := by decide +kernel
theorem d_Course_takeTurn_0 : decode b_Course_takeTurn 0 = .ok (.iconst 1, 1) := by decide +kernel
theorem d_Course_takeTurn_1 : decode b_Course_takeTurn 1 = .ok (.istore_n 2, 1) := by decide +kernel
theorem d_Course_takeTurn_2 : decode b_Course_takeTurn 2 = .ok (.iconst 0, 1) := by decide +kernel
theorem d_Course_takeTurn_3 : decode b_Course_takeTurn 3 = .ok (.istore_n 3, 1) := by decide +kernel
theorem d_Course_takeTurn_4 : decode b_Course_takeTurn 4 = .ok (.iload_n 3, 1) := by decide +kernel
theorem d_Course_takeTurn_5 : decode b_Course_takeTurn 5 = .ok (.bipush 10, 2) := by decide +kernel
theorem d_Course_takeTurn_7 : decode b_Course_takeTurn 7 = .ok (.if_icmp .gt 19, 3) := by decide +kernel
theorem d_Course_takeTurn_10 : decode b_Course_takeTurn 10 = .ok (.iload_n 2, 1) := by decide +kernel
theorem d_Course_takeTurn_11 : decode b_Course_takeTurn 11 = .ok (.ifCond .eq 15, 3) := by decide +kernel
theorem d_Course_takeTurn_14 : decode b_Course_takeTurn 14 = .ok (.aload_n 0, 1) := by decide +kernel
theorem d_Course_takeTurn_15 : decode b_Course_takeTurn 15 = .ok (.iload_n 1, 1) := by decide +kernel
theorem d_Course_takeTurn_16 : decode b_Course_takeTurn 16 = .ok (.invokevirtual 170, 3) := by decide +kernel
theorem d_Course_takeTurn_19 : decode b_Course_takeTurn 19 = .ok (.istore_n 2, 1) := by decide +kernel
theorem d_Course_takeTurn_20 : decode b_Course_takeTurn 20 = .ok (.iinc 3 1, 3) := by decide +kernel
theorem d_Course_takeTurn_23 : decode b_Course_takeTurn 23 = .ok (.goto (-19), 3) := by decide +kernel
theorem d_Course_takeTurn_26 : decode b_Course_takeTurn 26 = .ok (.aload_n 0, 1) := by decide +kernel
theorem d_Course_takeTurn_27 : decode b_Course_takeTurn 27 = .ok (.getfield 25, 3) := by decide +kernel
theorem d_Course_takeTurn_30 : decode b_Course_takeTurn 30 = .ok (.iload_n 1, 1) := by decide +kernel
theorem d_Course_takeTurn_31 : decode b_Course_takeTurn 31 = .ok (.aaload, 1) := by decide +kernel
theorem d_Course_takeTurn_32 : decode b_Course_takeTurn 32 = .ok (.getfield 125, 3) := by decide +kernel
theorem d_Course_takeTurn_35 : decode b_Course_takeTurn 35 = .ok (.ifCond .eq 8, 3) := by decide +kernel
theorem d_Course_takeTurn_38 : decode b_Course_takeTurn 38 = .ok (.aload_n 0, 1) := by decide +kernel
theorem d_Course_takeTurn_39 : decode b_Course_takeTurn 39 = .ok (.iload_n 1, 1) := by decide +kernel
theorem d_Course_takeTurn_40 : decode b_Course_takeTurn 40 = .ok (.invokevirtual 173, 3) := by decide +kernel
theorem d_Course_takeTurn_43 : decode b_Course_takeTurn 43 = .ok (.return_, 1) := by decide +kernel
theorem d_Course_doAction_0 : decode b_Course_doAction 0 = .ok (.aload_n 0, 1) := by decide +kernel
theorem d_Course_doAction_1 : decode b_Course_doAction 1 = .ok (.getfield 25, 3) := by decide +kernel
theorem d_Course_doAction_4 : decode b_Course_doAction 4 = .ok (.iload_n 1, 1) := by decide +kernel
theorem d_Course_doAction_5 : decode b_Course_doAction 5 = .ok (.aaload, 1) := by decide +kernel
theorem d_Course_doAction_6 : decode b_Course_doAction 6 = .ok (.astore_n 2, 1) := by decide +kernel
theorem d_Course_doAction_7 : decode b_Course_doAction 7 = .ok (.aload_n 0, 1) := by decide +kernel
theorem d_Course_doAction_8 : decode b_Course_doAction 8 = .ok (.getfield 11, 3) := by decide +kernel
theorem d_Course_doAction_11 : decode b_Course_doAction 11 = .ok (.aload_n 2, 1) := by decide +kernel
theorem d_Course_doAction_12 : decode b_Course_doAction 12 = .ok (.getfield 176, 3) := by decide +kernel
theorem d_Course_doAction_15 : decode b_Course_doAction 15 = .ok (.aaload, 1) := by decide +kernel
theorem d_Course_doAction_16 : decode b_Course_doAction 16 = .ok (.astore_n 3, 1) := by decide +kernel
theorem d_Course_doAction_17 : decode b_Course_doAction 17 = .ok (.aload_n 2, 1) := by decide +kernel
theorem d_Course_doAction_18 : decode b_Course_doAction 18 = .ok (.getfield 177, 3) := by decide +kernel
theorem d_Course_doAction_21 : decode b_Course_doAction 21 = .ok (.aload_n 3, 1) := by decide +kernel
theorem d_Course_doAction_22 : decode b_Course_doAction 22 = .ok (.getfield 180, 3) := by decide +kernel
theorem d_Course_doAction_25 : decode b_Course_doAction 25 = .ok (.if_icmp .lt 10, 3) := by decide +kernel
theorem d_Course_doAction_28 : decode b_Course_doAction 28 = .ok (.aload_n 2, 1) := by decide +kernel
theorem d_Course_doAction_29 : decode b_Course_doAction 29 = .ok (.iconst (-1), 1) := by decide +kernel
theorem d_Course_doAction_30 : decode b_Course_doAction 30 = .ok (.invokevirtual 181, 3) := by decide +kernel
theorem d_Course_doAction_33 : decode b_Course_doAction 33 = .ok (.iconst 0, 1) := by decide +kernel
theorem d_Course_doAction_34 : decode b_Course_doAction 34 = .ok (.ireturn, 1) := by decide +kernel
theorem d_Course_doAction_35 : decode b_Course_doAction 35 = .ok (.aload_n 3, 1) := by decide +kernel
theorem d_Course_doAction_36 : decode b_Course_doAction 36 = .ok (.getfield 184, 3) := by decide +kernel
theorem d_Course_doAction_39 : decode b_Course_doAction 39 = .ok (.aload_n 2, 1) := by decide +kernel
theorem d_Course_doAction_40 : decode b_Course_doAction 40 = .ok (.getfield 177, 3) := by decide +kernel
theorem d_Course_doAction_43 : decode b_Course_doAction 43 = .ok (.iaload, 1) := by decide +kernel
theorem d_Course_doAction_44 : decode b_Course_doAction 44 = .ok (.istore 4, 2) := by decide +kernel
theorem d_Course_doAction_46 : decode b_Course_doAction 46 = .ok (.aload_n 3, 1) := by decide +kernel
theorem d_Course_doAction_47 : decode b_Course_doAction 47 = .ok (.getfield 187, 3) := by decide +kernel
theorem d_Course_doAction_50 : decode b_Course_doAction 50 = .ok (.aload_n 2, 1) := by decide +kernel
theorem d_Course_doAction_51 : decode b_Course_doAction 51 = .ok (.getfield 177, 3) := by decide +kernel
theorem d_Course_doAction_54 : decode b_Course_doAction 54 = .ok (.iaload, 1) := by decide +kernel
theorem d_Course_doAction_55 : decode b_Course_doAction 55 = .ok (.istore 5, 2) := by decide +kernel
theorem d_Course_doAction_57 : decode b_Course_doAction 57 = .ok (.iload 4, 2) := by decide +kernel
theorem d_Course_doAction_59 : decode b_Course_doAction 59 = .ok (.tableswitch 82 0 10 #[57, 57, 57, 67, 82, 82, 82, 57, 82, 82, 75], 57) := by decide +kernel
theorem d_Course_doAction_116 : decode b_Course_doAction 116 = .ok (.aload_n 0, 1) := by decide +kernel
theorem d_Course_doAction_117 : decode b_Course_doAction 117 = .ok (.iload_n 1, 1) := by decide +kernel
theorem d_Course_doAction_118 : decode b_Course_doAction 118 = .ok (.iload 4, 2) := by decide +kernel
theorem d_Course_doAction_120 : decode b_Course_doAction 120 = .ok (.iload 5, 2) := by decide +kernel
theorem d_Course_doAction_122 : decode b_Course_doAction 122 = .ok (.invokevirtual 190, 3) := by decide +kernel
theorem d_Course_doAction_125 : decode b_Course_doAction 125 = .ok (.ireturn, 1) := by decide +kernel
theorem d_Course_doAction_126 : decode b_Course_doAction 126 = .ok (.aload_n 2, 1) := by decide +kernel
theorem d_Course_doAction_127 : decode b_Course_doAction 127 = .ok (.iload 5, 2) := by decide +kernel
theorem d_Course_doAction_129 : decode b_Course_doAction 129 = .ok (.invokevirtual 181, 3) := by decide +kernel
theorem d_Course_doAction_132 : decode b_Course_doAction 132 = .ok (.iconst 0, 1) := by decide +kernel
theorem d_Course_doAction_133 : decode b_Course_doAction 133 = .ok (.ireturn, 1) := by decide +kernel
theorem d_Course_doAction_134 : decode b_Course_doAction 134 = .ok (.aload_n 2, 1) := by decide +kernel
theorem d_Course_doAction_135 : decode b_Course_doAction 135 = .ok (.iconst (-1), 1) := by decide +kernel
theorem d_Course_doAction_136 : decode b_Course_doAction 136 = .ok (.invokevirtual 181, 3) := by decide +kernel
theorem d_Course_doAction_139 : decode b_Course_doAction 139 = .ok (.iconst 0, 1) := by decide +kernel
theorem d_Course_doAction_140 : decode b_Course_doAction 140 = .ok (.ireturn, 1) := by decide +kernel
theorem d_Course_doAction_141 : decode b_Course_doAction 141 = .ok (.aload_n 0, 1) := by decide +kernel
theorem d_Course_doAction_142 : decode b_Course_doAction 142 = .ok (.iload_n 1, 1) := by decide +kernel
theorem d_Course_doAction_143 : decode b_Course_doAction 143 = .ok (.iload 4, 2) := by decide +kernel
theorem d_Course_doAction_145 : decode b_Course_doAction 145 = .ok (.iload 5, 2) := by decide +kernel
theorem d_Course_doAction_147 : decode b_Course_doAction 147 = .ok (.invokevirtual 194, 3) := by decide +kernel
theorem d_Course_doAction_150 : decode b_Course_doAction 150 = .ok (.aload_n 2, 1) := by decide +kernel
theorem d_Course_doAction_151 : decode b_Course_doAction 151 = .ok (.dup, 1) := by decide +kernel
theorem d_Course_doAction_152 : decode b_Course_doAction 152 = .ok (.getfield 177, 3) := by decide +kernel
theorem d_Course_doAction_155 : decode b_Course_doAction 155 = .ok (.iconst 1, 1) := by decide +kernel
theorem d_Course_doAction_156 : decode b_Course_doAction 156 = .ok (.iadd, 1) := by decide +kernel
theorem d_Course_doAction_157 : decode b_Course_doAction 157 = .ok (.putfield 177, 3) := by decide +kernel
theorem d_Course_doAction_160 : decode b_Course_doAction 160 = .ok (.iconst 1, 1) := by decide +kernel
theorem d_Course_doAction_161 : decode b_Course_doAction 161 = .ok (.ireturn, 1) := by decide +kernel
theorem d_Course_actAtOnce_0 : decode b_Course_actAtOnce 0 = .ok (.aload_n 0, 1) := by decide +kernel
theorem d_Course_actAtOnce_1 : decode b_Course_actAtOnce 1 = .ok (.getfield 25, 3) := by decide +kernel
theorem d_Course_actAtOnce_4 : decode b_Course_actAtOnce 4 = .ok (.iload_n 1, 1) := by decide +kernel
theorem d_Course_actAtOnce_5 : decode b_Course_actAtOnce 5 = .ok (.aaload, 1) := by decide +kernel
theorem d_Course_actAtOnce_6 : decode b_Course_actAtOnce 6 = .ok (.astore 4, 2) := by decide +kernel
theorem d_Course_actAtOnce_8 : decode b_Course_actAtOnce 8 = .ok (.iload_n 2, 1) := by decide +kernel
theorem d_Course_actAtOnce_9 : decode b_Course_actAtOnce 9 = .ok (.tableswitch 135 5 11 #[43, 66, 135, 86, 118, 135, 127], 43) := by decide +kernel
theorem d_Course_actAtOnce_52 : decode b_Course_actAtOnce 52 = .ok (.aload_n 0, 1) := by decide +kernel
theorem d_Course_actAtOnce_53 : decode b_Course_actAtOnce 53 = .ok (.getfield 100, 3) := by decide +kernel
theorem d_Course_actAtOnce_56 : decode b_Course_actAtOnce 56 = .ok (.bipush 40, 2) := by decide +kernel
theorem d_Course_actAtOnce_58 : decode b_Course_actAtOnce 58 = .ok (.if_icmp .ge 86, 3) := by decide +kernel
theorem d_Course_actAtOnce_61 : decode b_Course_actAtOnce 61 = .ok (.aload_n 0, 1) := by decide +kernel
theorem d_Course_actAtOnce_62 : decode b_Course_actAtOnce 62 = .ok (.iload_n 3, 1) := by decide +kernel
theorem d_Course_actAtOnce_63 : decode b_Course_actAtOnce 63 = .ok (.aload 4, 2) := by decide +kernel
theorem d_Course_actAtOnce_65 : decode b_Course_actAtOnce 65 = .ok (.getfield 197, 3) := by decide +kernel
theorem d_Course_actAtOnce_68 : decode b_Course_actAtOnce 68 = .ok (.iload_n 1, 1) := by decide +kernel
theorem d_Course_actAtOnce_69 : decode b_Course_actAtOnce 69 = .ok (.invokevirtual 159, 3) := by decide +kernel
theorem d_Course_actAtOnce_72 : decode b_Course_actAtOnce 72 = .ok (.goto 72, 3) := by decide +kernel
theorem d_Course_actAtOnce_75 : decode b_Course_actAtOnce 75 = .ok (.aload_n 0, 1) := by decide +kernel
theorem d_Course_actAtOnce_76 : decode b_Course_actAtOnce 76 = .ok (.getfield 38, 3) := by decide +kernel
theorem d_Course_actAtOnce_79 : decode b_Course_actAtOnce 79 = .ok (.bipush 100, 2) := by decide +kernel
theorem d_Course_actAtOnce_81 : decode b_Course_actAtOnce 81 = .ok (.aload 4, 2) := by decide +kernel
theorem d_Course_actAtOnce_83 : decode b_Course_actAtOnce 83 = .ok (.getfield 197, 3) := by decide +kernel
theorem d_Course_actAtOnce_86 : decode b_Course_actAtOnce 86 = .ok (.imul, 1) := by decide +kernel
theorem d_Course_actAtOnce_87 : decode b_Course_actAtOnce 87 = .ok (.iload_n 3, 1) := by decide +kernel
theorem d_Course_actAtOnce_88 : decode b_Course_actAtOnce 88 = .ok (.iadd, 1) := by decide +kernel
theorem d_Course_actAtOnce_89 : decode b_Course_actAtOnce 89 = .ok (.invokevirtual 200, 3) := by decide +kernel
theorem d_Course_actAtOnce_92 : decode b_Course_actAtOnce 92 = .ok (.goto 52, 3) := by decide +kernel
theorem d_Course_actAtOnce_95 : decode b_Course_actAtOnce 95 = .ok (.aload_n 0, 1) := by decide +kernel
theorem d_Course_actAtOnce_96 : decode b_Course_actAtOnce 96 = .ok (.getfield 38, 3) := by decide +kernel
theorem d_Course_actAtOnce_99 : decode b_Course_actAtOnce 99 = .ok (.bipush 100, 2) := by decide +kernel
theorem d_Course_actAtOnce_101 : decode b_Course_actAtOnce 101 = .ok (.aload 4, 2) := by decide +kernel
theorem d_Course_actAtOnce_103 : decode b_Course_actAtOnce 103 = .ok (.getfield 197, 3) := by decide +kernel
theorem d_Course_actAtOnce_106 : decode b_Course_actAtOnce 106 = .ok (.imul, 1) := by decide +kernel
theorem d_Course_actAtOnce_107 : decode b_Course_actAtOnce 107 = .ok (.aload 4, 2) := by decide +kernel
theorem d_Course_actAtOnce_109 : decode b_Course_actAtOnce 109 = .ok (.invokevirtual 203, 3) := by decide +kernel
theorem d_Course_actAtOnce_112 : decode b_Course_actAtOnce 112 = .ok (.ifCond .eq 7, 3) := by decide +kernel
theorem d_Course_actAtOnce_115 : decode b_Course_actAtOnce 115 = .ok (.iconst 1, 1) := by decide +kernel
theorem d_Course_actAtOnce_116 : decode b_Course_actAtOnce 116 = .ok (.goto 4, 3) := by decide +kernel
theorem d_Course_actAtOnce_119 : decode b_Course_actAtOnce 119 = .ok (.iconst 0, 1) := by decide +kernel
theorem d_Course_actAtOnce_120 : decode b_Course_actAtOnce 120 = .ok (.iadd, 1) := by decide +kernel
theorem d_Course_actAtOnce_121 : decode b_Course_actAtOnce 121 = .ok (.invokevirtual 200, 3) := by decide +kernel
theorem d_Course_actAtOnce_124 : decode b_Course_actAtOnce 124 = .ok (.goto 20, 3) := by decide +kernel
theorem d_Course_actAtOnce_127 : decode b_Course_actAtOnce 127 = .ok (.aload 4, 2) := by decide +kernel
theorem d_Course_actAtOnce_129 : decode b_Course_actAtOnce 129 = .ok (.iconst 1, 1) := by decide +kernel
theorem d_Course_actAtOnce_130 : decode b_Course_actAtOnce 130 = .ok (.putfield 206, 3) := by decide +kernel
theorem d_Course_actAtOnce_133 : decode b_Course_actAtOnce 133 = .ok (.goto 11, 3) := by decide +kernel
theorem d_Course_actAtOnce_136 : decode b_Course_actAtOnce 136 = .ok (.aload_n 0, 1) := by decide +kernel
theorem d_Course_actAtOnce_137 : decode b_Course_actAtOnce 137 = .ok (.iload_n 1, 1) := by decide +kernel
theorem d_Course_actAtOnce_138 : decode b_Course_actAtOnce 138 = .ok (.invokevirtual 209, 3) := by decide +kernel
theorem d_Course_actAtOnce_141 : decode b_Course_actAtOnce 141 = .ok (.goto 3, 3) := by decide +kernel
theorem d_Course_actAtOnce_144 : decode b_Course_actAtOnce 144 = .ok (.return_, 1) := by decide +kernel
theorem d_Course_waitIn_0 : decode b_Course_waitIn 0 = .ok (.aload_n 0, 1) := by decide +kernel
theorem d_Course_waitIn_1 : decode b_Course_waitIn 1 = .ok (.getfield 25, 3) := by decide +kernel
theorem d_Course_waitIn_4 : decode b_Course_waitIn 4 = .ok (.iload_n 1, 1) := by decide +kernel
theorem d_Course_waitIn_5 : decode b_Course_waitIn 5 = .ok (.aaload, 1) := by decide +kernel
theorem d_Course_waitIn_6 : decode b_Course_waitIn 6 = .ok (.astore 4, 2) := by decide +kernel
theorem d_Course_waitIn_8 : decode b_Course_waitIn 8 = .ok (.aload 4, 2) := by decide +kernel
theorem d_Course_waitIn_10 : decode b_Course_waitIn 10 = .ok (.getfield 212, 3) := by decide +kernel
theorem d_Course_waitIn_13 : decode b_Course_waitIn 13 = .ok (.ifCond .ne 20, 3) := by decide +kernel
theorem d_Course_waitIn_16 : decode b_Course_waitIn 16 = .ok (.aload 4, 2) := by decide +kernel
theorem d_Course_waitIn_18 : decode b_Course_waitIn 18 = .ok (.iconst 1, 1) := by decide +kernel
theorem d_Course_waitIn_19 : decode b_Course_waitIn 19 = .ok (.putfield 212, 3) := by decide +kernel
theorem d_Course_waitIn_22 : decode b_Course_waitIn 22 = .ok (.aload 4, 2) := by decide +kernel
theorem d_Course_waitIn_24 : decode b_Course_waitIn 24 = .ok (.aload_n 0, 1) := by decide +kernel
theorem d_Course_waitIn_25 : decode b_Course_waitIn 25 = .ok (.getfield 87, 3) := by decide +kernel
theorem d_Course_waitIn_28 : decode b_Course_waitIn 28 = .ok (.iload_n 3, 1) := by decide +kernel
theorem d_Course_waitIn_29 : decode b_Course_waitIn 29 = .ok (.iadd, 1) := by decide +kernel
theorem d_Course_waitIn_30 : decode b_Course_waitIn 30 = .ok (.putfield 215, 3) := by decide +kernel
theorem d_Course_waitIn_33 : decode b_Course_waitIn 33 = .ok (.iload_n 2, 1) := by decide +kernel
theorem d_Course_waitIn_34 : decode b_Course_waitIn 34 = .ok (.ifCond .eq 18, 3) := by decide +kernel
theorem d_Course_waitIn_37 : decode b_Course_waitIn 37 = .ok (.aload 4, 2) := by decide +kernel
theorem d_Course_waitIn_39 : decode b_Course_waitIn 39 = .ok (.invokevirtual 203, 3) := by decide +kernel
theorem d_Course_waitIn_42 : decode b_Course_waitIn 42 = .ok (.ifCond .eq 10, 3) := by decide +kernel
theorem d_Course_waitIn_45 : decode b_Course_waitIn 45 = .ok (.aload_n 0, 1) := by decide +kernel
theorem d_Course_waitIn_46 : decode b_Course_waitIn 46 = .ok (.aload 4, 2) := by decide +kernel
theorem d_Course_waitIn_48 : decode b_Course_waitIn 48 = .ok (.invokevirtual 218, 3) := by decide +kernel
theorem d_Course_waitIn_51 : decode b_Course_waitIn 51 = .ok (.ireturn, 1) := by decide +kernel
theorem d_Course_waitIn_52 : decode b_Course_waitIn 52 = .ok (.iload_n 2, 1) := by decide +kernel
theorem d_Course_waitIn_53 : decode b_Course_waitIn 53 = .ok (.bipush 7, 2) := by decide +kernel
theorem d_Course_waitIn_55 : decode b_Course_waitIn 55 = .ok (.if_icmp .ne 11, 3) := by decide +kernel
theorem d_Course_waitIn_58 : decode b_Course_waitIn 58 = .ok (.aload_n 0, 1) := by decide +kernel
theorem d_Course_waitIn_59 : decode b_Course_waitIn 59 = .ok (.iload_n 1, 1) := by decide +kernel
theorem d_Course_waitIn_60 : decode b_Course_waitIn 60 = .ok (.invokevirtual 222, 3) := by decide +kernel
theorem d_Course_waitIn_63 : decode b_Course_waitIn 63 = .ok (.goto 25, 3) := by decide +kernel
theorem d_Course_waitIn_66 : decode b_Course_waitIn 66 = .ok (.iload_n 2, 1) := by decide +kernel
theorem d_Course_waitIn_67 : decode b_Course_waitIn 67 = .ok (.iconst 2, 1) := by decide +kernel
theorem d_Course_waitIn_68 : decode b_Course_waitIn 68 = .ok (.if_icmp .eq 19, 3) := by decide +kernel
theorem d_Course_waitIn_71 : decode b_Course_waitIn 71 = .ok (.aload_n 0, 1) := by decide +kernel
theorem d_Course_waitIn_72 : decode b_Course_waitIn 72 = .ok (.getfield 87, 3) := by decide +kernel
theorem d_Course_waitIn_75 : decode b_Course_waitIn 75 = .ok (.aload 4, 2) := by decide +kernel
theorem d_Course_waitIn_77 : decode b_Course_waitIn 77 = .ok (.getfield 215, 3) := by decide +kernel
theorem d_Course_waitIn_80 : decode b_Course_waitIn 80 = .ok (.if_icmp .lt 7, 3) := by decide +kernel
theorem d_Course_waitIn_83 : decode b_Course_waitIn 83 = .ok (.iconst 1, 1) := by decide +kernel
theorem d_Course_waitIn_84 : decode b_Course_waitIn 84 = .ok (.goto 4, 3) := by decide +kernel
theorem d_Course_waitIn_87 : decode b_Course_waitIn 87 = .ok (.iconst 0, 1) := by decide +kernel
theorem d_Course_waitIn_88 : decode b_Course_waitIn 88 = .ok (.istore 5, 2) := by decide +kernel
theorem d_Course_waitIn_90 : decode b_Course_waitIn 90 = .ok (.iload 5, 2) := by decide +kernel
theorem d_Course_waitIn_92 : decode b_Course_waitIn 92 = .ok (.ifCond .ne 5, 3) := by decide +kernel
theorem d_Course_waitIn_95 : decode b_Course_waitIn 95 = .ok (.iconst 0, 1) := by decide +kernel
theorem d_Course_waitIn_96 : decode b_Course_waitIn 96 = .ok (.ireturn, 1) := by decide +kernel
theorem d_Course_waitIn_97 : decode b_Course_waitIn 97 = .ok (.aload 4, 2) := by decide +kernel
theorem d_Course_waitIn_99 : decode b_Course_waitIn 99 = .ok (.iconst 0, 1) := by decide +kernel
theorem d_Course_waitIn_100 : decode b_Course_waitIn 100 = .ok (.putfield 212, 3) := by decide +kernel
theorem d_Course_waitIn_103 : decode b_Course_waitIn 103 = .ok (.aload 4, 2) := by decide +kernel
theorem d_Course_waitIn_105 : decode b_Course_waitIn 105 = .ok (.dup, 1) := by decide +kernel
theorem d_Course_waitIn_106 : decode b_Course_waitIn 106 = .ok (.getfield 177, 3) := by decide +kernel
theorem d_Course_waitIn_109 : decode b_Course_waitIn 109 = .ok (.iconst 1, 1) := by decide +kernel
theorem d_Course_waitIn_110 : decode b_Course_waitIn 110 = .ok (.iadd, 1) := by decide +kernel
theorem d_Course_waitIn_111 : decode b_Course_waitIn 111 = .ok (.putfield 177, 3) := by decide +kernel
theorem d_Course_waitIn_114 : decode b_Course_waitIn 114 = .ok (.iconst 1, 1) := by decide +kernel
theorem d_Course_waitIn_115 : decode b_Course_waitIn 115 = .ok (.ireturn, 1) := by decide +kernel
theorem d_Course_interrupt_0 : decode b_Course_interrupt 0 = .ok (.aload_n 1, 1) := by decide +kernel
theorem d_Course_interrupt_1 : decode b_Course_interrupt 1 = .ok (.iconst 0, 1) := by decide +kernel
theorem d_Course_interrupt_2 : decode b_Course_interrupt 2 = .ok (.putfield 212, 3) := by decide +kernel
theorem d_Course_interrupt_5 : decode b_Course_interrupt 5 = .ok (.aload_n 0, 1) := by decide +kernel
theorem d_Course_interrupt_6 : decode b_Course_interrupt 6 = .ok (.getfield 11, 3) := by decide +kernel
theorem d_Course_interrupt_9 : decode b_Course_interrupt 9 = .ok (.aload_n 1, 1) := by decide +kernel
theorem d_Course_interrupt_10 : decode b_Course_interrupt 10 = .ok (.getfield 176, 3) := by decide +kernel
theorem d_Course_interrupt_13 : decode b_Course_interrupt 13 = .ok (.aaload, 1) := by decide +kernel
theorem d_Course_interrupt_14 : decode b_Course_interrupt 14 = .ok (.aload_n 1, 1) := by decide +kernel
theorem d_Course_interrupt_15 : decode b_Course_interrupt 15 = .ok (.getfield 177, 3) := by decide +kernel
theorem d_Course_interrupt_18 : decode b_Course_interrupt 18 = .ok (.invokevirtual 225, 3) := by decide +kernel
theorem d_Course_interrupt_21 : decode b_Course_interrupt 21 = .ok (.istore_n 2, 1) := by decide +kernel
theorem d_Course_interrupt_22 : decode b_Course_interrupt 22 = .ok (.iload_n 2, 1) := by decide +kernel
theorem d_Course_interrupt_23 : decode b_Course_interrupt 23 = .ok (.iconst (-1), 1) := by decide +kernel
theorem d_Course_interrupt_24 : decode b_Course_interrupt 24 = .ok (.if_icmp .ne 11, 3) := by decide +kernel
theorem d_Course_interrupt_27 : decode b_Course_interrupt 27 = .ok (.aload_n 1, 1) := by decide +kernel
theorem d_Course_interrupt_28 : decode b_Course_interrupt 28 = .ok (.bipush 100, 2) := by decide +kernel
theorem d_Course_interrupt_30 : decode b_Course_interrupt 30 = .ok (.invokevirtual 181, 3) := by decide +kernel
theorem d_Course_interrupt_33 : decode b_Course_interrupt 33 = .ok (.iconst 0, 1) := by decide +kernel
theorem d_Course_interrupt_34 : decode b_Course_interrupt 34 = .ok (.ireturn, 1) := by decide +kernel
theorem d_Course_interrupt_35 : decode b_Course_interrupt 35 = .ok (.aload_n 1, 1) := by decide +kernel
theorem d_Course_interrupt_36 : decode b_Course_interrupt 36 = .ok (.iload_n 2, 1) := by decide +kernel
theorem d_Course_interrupt_37 : decode b_Course_interrupt 37 = .ok (.putfield 177, 3) := by decide +kernel
theorem d_Course_interrupt_40 : decode b_Course_interrupt 40 = .ok (.iconst 1, 1) := by decide +kernel
theorem d_Course_interrupt_41 : decode b_Course_interrupt 41 = .ok (.ireturn, 1) := by decide +kernel
theorem d_Course_areStartedOver_0 : decode b_Course_areStartedOver 0 = .ok (.iconst 0, 1) := by decide +kernel
theorem d_Course_areStartedOver_1 : decode b_Course_areStartedOver 1 = .ok (.istore_n 2, 1) := by decide +kernel
theorem d_Course_areStartedOver_2 : decode b_Course_areStartedOver 2 = .ok (.iload_n 2, 1) := by decide +kernel
theorem d_Course_areStartedOver_3 : decode b_Course_areStartedOver 3 = .ok (.aload_n 0, 1) := by decide +kernel
theorem d_Course_areStartedOver_4 : decode b_Course_areStartedOver 4 = .ok (.getfield 100, 3) := by decide +kernel
theorem d_Course_areStartedOver_7 : decode b_Course_areStartedOver 7 = .ok (.if_icmp .ge 36, 3) := by decide +kernel
theorem d_Course_areStartedOver_10 : decode b_Course_areStartedOver 10 = .ok (.aload_n 0, 1) := by decide +kernel
theorem d_Course_areStartedOver_11 : decode b_Course_areStartedOver 11 = .ok (.getfield 25, 3) := by decide +kernel
theorem d_Course_areStartedOver_14 : decode b_Course_areStartedOver 14 = .ok (.iload_n 2, 1) := by decide +kernel
theorem d_Course_areStartedOver_15 : decode b_Course_areStartedOver 15 = .ok (.aaload, 1) := by decide +kernel
theorem d_Course_areStartedOver_16 : decode b_Course_areStartedOver 16 = .ok (.getfield 229, 3) := by decide +kernel
theorem d_Course_areStartedOver_19 : decode b_Course_areStartedOver 19 = .ok (.iload_n 1, 1) := by decide +kernel
theorem d_Course_areStartedOver_20 : decode b_Course_areStartedOver 20 = .ok (.if_icmp .ne 17, 3) := by decide +kernel
theorem d_Course_areStartedOver_23 : decode b_Course_areStartedOver 23 = .ok (.aload_n 0, 1) := by decide +kernel
theorem d_Course_areStartedOver_24 : decode b_Course_areStartedOver 24 = .ok (.getfield 25, 3) := by decide +kernel
theorem d_Course_areStartedOver_27 : decode b_Course_areStartedOver 27 = .ok (.iload_n 2, 1) := by decide +kernel
theorem d_Course_areStartedOver_28 : decode b_Course_areStartedOver 28 = .ok (.aaload, 1) := by decide +kernel
theorem d_Course_areStartedOver_29 : decode b_Course_areStartedOver 29 = .ok (.getfield 125, 3) := by decide +kernel
theorem d_Course_areStartedOver_32 : decode b_Course_areStartedOver 32 = .ok (.ifCond .ne 5, 3) := by decide +kernel
theorem d_Course_areStartedOver_35 : decode b_Course_areStartedOver 35 = .ok (.iconst 0, 1) := by decide +kernel
theorem d_Course_areStartedOver_36 : decode b_Course_areStartedOver 36 = .ok (.ireturn, 1) := by decide +kernel
theorem d_Course_areStartedOver_37 : decode b_Course_areStartedOver 37 = .ok (.iinc 2 1, 3) := by decide +kernel
theorem d_Course_areStartedOver_40 : decode b_Course_areStartedOver 40 = .ok (.goto (-38), 3) := by decide +kernel
theorem d_Course_areStartedOver_43 : decode b_Course_areStartedOver 43 = .ok (.iconst 1, 1) := by decide +kernel
theorem d_Course_areStartedOver_44 : decode b_Course_areStartedOver 44 = .ok (.ireturn, 1) := by decide +kernel
theorem d_Course_markStartedBy_0 : decode b_Course_markStartedBy 0 = .ok (.iconst 0, 1) := by decide +kernel
theorem d_Course_markStartedBy_1 : decode b_Course_markStartedBy 1 = .ok (.istore_n 2, 1) := by decide +kernel
theorem d_Course_markStartedBy_2 : decode b_Course_markStartedBy 2 = .ok (.iload_n 2, 1) := by decide +kernel
theorem d_Course_markStartedBy_3 : decode b_Course_markStartedBy 3 = .ok (.aload_n 0, 1) := by decide +kernel
theorem d_Course_markStartedBy_4 : decode b_Course_markStartedBy 4 = .ok (.getfield 100, 3) := by decide +kernel
theorem d_Course_markStartedBy_7 : decode b_Course_markStartedBy 7 = .ok (.if_icmp .ge 44, 3) := by decide +kernel
theorem d_Course_markStartedBy_10 : decode b_Course_markStartedBy 10 = .ok (.aload_n 0, 1) := by decide +kernel
theorem d_Course_markStartedBy_11 : decode b_Course_markStartedBy 11 = .ok (.getfield 25, 3) := by decide +kernel
theorem d_Course_markStartedBy_14 : decode b_Course_markStartedBy 14 = .ok (.iload_n 2, 1) := by decide +kernel
theorem d_Course_markStartedBy_15 : decode b_Course_markStartedBy 15 = .ok (.aaload, 1) := by decide +kernel
theorem d_Course_markStartedBy_16 : decode b_Course_markStartedBy 16 = .ok (.getfield 229, 3) := by decide +kernel
theorem d_Course_markStartedBy_19 : decode b_Course_markStartedBy 19 = .ok (.iload_n 1, 1) := by decide +kernel
theorem d_Course_markStartedBy_20 : decode b_Course_markStartedBy 20 = .ok (.if_icmp .ne 25, 3) := by decide +kernel
theorem d_Course_markStartedBy_23 : decode b_Course_markStartedBy 23 = .ok (.aload_n 0, 1) := by decide +kernel
theorem d_Course_markStartedBy_24 : decode b_Course_markStartedBy 24 = .ok (.getfield 25, 3) := by decide +kernel
theorem d_Course_markStartedBy_27 : decode b_Course_markStartedBy 27 = .ok (.iload_n 2, 1) := by decide +kernel
theorem d_Course_markStartedBy_28 : decode b_Course_markStartedBy 28 = .ok (.aaload, 1) := by decide +kernel
theorem d_Course_markStartedBy_29 : decode b_Course_markStartedBy 29 = .ok (.getfield 125, 3) := by decide +kernel
theorem d_Course_markStartedBy_32 : decode b_Course_markStartedBy 32 = .ok (.ifCond .ne 13, 3) := by decide +kernel
theorem d_Course_markStartedBy_35 : decode b_Course_markStartedBy 35 = .ok (.aload_n 0, 1) := by decide +kernel
theorem d_Course_markStartedBy_36 : decode b_Course_markStartedBy 36 = .ok (.getfield 25, 3) := by decide +kernel
theorem d_Course_markStartedBy_39 : decode b_Course_markStartedBy 39 = .ok (.iload_n 2, 1) := by decide +kernel
theorem d_Course_markStartedBy_40 : decode b_Course_markStartedBy 40 = .ok (.aaload, 1) := by decide +kernel
theorem d_Course_markStartedBy_41 : decode b_Course_markStartedBy 41 = .ok (.iconst 1, 1) := by decide +kernel
theorem d_Course_markStartedBy_42 : decode b_Course_markStartedBy 42 = .ok (.putfield 117, 3) := by decide +kernel
theorem d_Course_markStartedBy_45 : decode b_Course_markStartedBy 45 = .ok (.iinc 2 1, 3) := by decide +kernel
theorem d_Course_markStartedBy_48 : decode b_Course_markStartedBy 48 = .ok (.goto (-46), 3) := by decide +kernel
theorem d_Course_markStartedBy_51 : decode b_Course_markStartedBy 51 = .ok (.return_, 1) := by decide +kernel
theorem d_Course_tellEnd_0 : decode b_Course_tellEnd 0 = .ok (.aload_n 0, 1) := by decide +kernel
theorem d_Course_tellEnd_1 : decode b_Course_tellEnd 1 = .ok (.getfield 25, 3) := by decide +kernel
theorem d_Course_tellEnd_4 : decode b_Course_tellEnd 4 = .ok (.iload_n 1, 1) := by decide +kernel
theorem d_Course_tellEnd_5 : decode b_Course_tellEnd 5 = .ok (.aaload, 1) := by decide +kernel
theorem d_Course_tellEnd_6 : decode b_Course_tellEnd 6 = .ok (.astore_n 2, 1) := by decide +kernel
theorem d_Course_tellEnd_7 : decode b_Course_tellEnd 7 = .ok (.aload_n 0, 1) := by decide +kernel
theorem d_Course_tellEnd_8 : decode b_Course_tellEnd 8 = .ok (.getfield 19, 3) := by decide +kernel
theorem d_Course_tellEnd_11 : decode b_Course_tellEnd 11 = .ok (.aload_n 2, 1) := by decide +kernel
theorem d_Course_tellEnd_12 : decode b_Course_tellEnd 12 = .ok (.getfield 197, 3) := by decide +kernel
theorem d_Course_tellEnd_15 : decode b_Course_tellEnd 15 = .ok (.aaload, 1) := by decide +kernel
theorem d_Course_tellEnd_16 : decode b_Course_tellEnd 16 = .ok (.astore_n 3, 1) := by decide +kernel
theorem d_Course_tellEnd_17 : decode b_Course_tellEnd 17 = .ok (.aload_n 2, 1) := by decide +kernel
theorem d_Course_tellEnd_18 : decode b_Course_tellEnd 18 = .ok (.getfield 232, 3) := by decide +kernel
theorem d_Course_tellEnd_21 : decode b_Course_tellEnd 21 = .ok (.iconst (-1), 1) := by decide +kernel
theorem d_Course_tellEnd_22 : decode b_Course_tellEnd 22 = .ok (.if_icmp .eq 14, 3) := by decide +kernel
theorem d_Course_tellEnd_25 : decode b_Course_tellEnd 25 = .ok (.aload_n 2, 1) := by decide +kernel
theorem d_Course_tellEnd_26 : decode b_Course_tellEnd 26 = .ok (.getfield 206, 3) := by decide +kernel
theorem d_Course_tellEnd_29 : decode b_Course_tellEnd 29 = .ok (.ifCond .ne 7, 3) := by decide +kernel
theorem d_Course_tellEnd_32 : decode b_Course_tellEnd 32 = .ok (.iconst 1, 1) := by decide +kernel
theorem d_Course_tellEnd_33 : decode b_Course_tellEnd 33 = .ok (.goto 4, 3) := by decide +kernel
theorem d_Course_tellEnd_36 : decode b_Course_tellEnd 36 = .ok (.iconst 0, 1) := by decide +kernel
theorem d_Course_tellEnd_37 : decode b_Course_tellEnd 37 = .ok (.istore 4, 2) := by decide +kernel
theorem d_Course_tellEnd_39 : decode b_Course_tellEnd 39 = .ok (.aload_n 3, 1) := by decide +kernel
theorem d_Course_tellEnd_40 : decode b_Course_tellEnd 40 = .ok (.getfield 93, 3) := by decide +kernel
theorem d_Course_tellEnd_43 : decode b_Course_tellEnd 43 = .ok (.ifCond .eq 31, 3) := by decide +kernel
theorem d_Course_tellEnd_46 : decode b_Course_tellEnd 46 = .ok (.iload 4, 2) := by decide +kernel
theorem d_Course_tellEnd_48 : decode b_Course_tellEnd 48 = .ok (.ifCond .eq 70, 3) := by decide +kernel
theorem d_Course_tellEnd_51 : decode b_Course_tellEnd 51 = .ok (.aload_n 0, 1) := by decide +kernel
theorem d_Course_tellEnd_52 : decode b_Course_tellEnd 52 = .ok (.getfield 42, 3) := by decide +kernel
theorem d_Course_tellEnd_55 : decode b_Course_tellEnd 55 = .ok (.sipush 1000, 3) := by decide +kernel
theorem d_Course_tellEnd_58 : decode b_Course_tellEnd 58 = .ok (.aload_n 2, 1) := by decide +kernel
theorem d_Course_tellEnd_59 : decode b_Course_tellEnd 59 = .ok (.getfield 197, 3) := by decide +kernel
theorem d_Course_tellEnd_62 : decode b_Course_tellEnd 62 = .ok (.imul, 1) := by decide +kernel
theorem d_Course_tellEnd_63 : decode b_Course_tellEnd 63 = .ok (.aload_n 2, 1) := by decide +kernel
theorem d_Course_tellEnd_64 : decode b_Course_tellEnd 64 = .ok (.getfield 232, 3) := by decide +kernel
theorem d_Course_tellEnd_67 : decode b_Course_tellEnd 67 = .ok (.iadd, 1) := by decide +kernel
theorem d_Course_tellEnd_68 : decode b_Course_tellEnd 68 = .ok (.invokevirtual 200, 3) := by decide +kernel
theorem d_Course_tellEnd_71 : decode b_Course_tellEnd 71 = .ok (.goto 47, 3) := by decide +kernel
theorem d_Course_tellEnd_74 : decode b_Course_tellEnd 74 = .ok (.iload_n 1, 1) := by decide +kernel
theorem d_Course_tellEnd_75 : decode b_Course_tellEnd 75 = .ok (.aload_n 3, 1) := by decide +kernel
theorem d_Course_tellEnd_76 : decode b_Course_tellEnd 76 = .ok (.getfield 114, 3) := by decide +kernel
theorem d_Course_tellEnd_79 : decode b_Course_tellEnd 79 = .ok (.if_icmp .ne 18, 3) := by decide +kernel
theorem d_Course_tellEnd_82 : decode b_Course_tellEnd 82 = .ok (.aload_n 3, 1) := by decide +kernel
theorem d_Course_tellEnd_83 : decode b_Course_tellEnd 83 = .ok (.aload_n 2, 1) := by decide +kernel
theorem d_Course_tellEnd_84 : decode b_Course_tellEnd 84 = .ok (.getfield 232, 3) := by decide +kernel
theorem d_Course_tellEnd_87 : decode b_Course_tellEnd 87 = .ok (.aload_n 0, 1) := by decide +kernel
theorem d_Course_tellEnd_88 : decode b_Course_tellEnd 88 = .ok (.getfield 87, 3) := by decide +kernel
theorem d_Course_tellEnd_91 : decode b_Course_tellEnd 91 = .ok (.invokevirtual 235, 3) := by decide +kernel
theorem d_Course_tellEnd_94 : decode b_Course_tellEnd 94 = .ok (.goto 24, 3) := by decide +kernel
theorem d_Course_tellEnd_97 : decode b_Course_tellEnd 97 = .ok (.iload 4, 2) := by decide +kernel
theorem d_Course_tellEnd_99 : decode b_Course_tellEnd 99 = .ok (.ifCond .eq 19, 3) := by decide +kernel
theorem d_Course_tellEnd_102 : decode b_Course_tellEnd 102 = .ok (.aload_n 3, 1) := by decide +kernel
theorem d_Course_tellEnd_103 : decode b_Course_tellEnd 103 = .ok (.getfield 238, 3) := by decide +kernel
theorem d_Course_tellEnd_106 : decode b_Course_tellEnd 106 = .ok (.iconst (-1), 1) := by decide +kernel
theorem d_Course_tellEnd_107 : decode b_Course_tellEnd 107 = .ok (.if_icmp .ne 11, 3) := by decide +kernel
theorem d_Course_tellEnd_110 : decode b_Course_tellEnd 110 = .ok (.aload_n 3, 1) := by decide +kernel
theorem d_Course_tellEnd_111 : decode b_Course_tellEnd 111 = .ok (.aload_n 2, 1) := by decide +kernel
theorem d_Course_tellEnd_112 : decode b_Course_tellEnd 112 = .ok (.getfield 232, 3) := by decide +kernel
theorem d_Course_tellEnd_115 : decode b_Course_tellEnd 115 = .ok (.putfield 238, 3) := by decide +kernel
theorem d_Course_tellEnd_118 : decode b_Course_tellEnd 118 = .ok (.return_, 1) := by decide +kernel
theorem d_Course_leaveRest_0 : decode b_Course_leaveRest 0 = .ok (.iconst 0, 1) := by decide +kernel
theorem d_Course_leaveRest_1 : decode b_Course_leaveRest 1 = .ok (.istore_n 1, 1) := by decide +kernel
theorem d_Course_leaveRest_2 : decode b_Course_leaveRest 2 = .ok (.iload_n 1, 1) := by decide +kernel
theorem d_Course_leaveRest_3 : decode b_Course_leaveRest 3 = .ok (.aload_n 0, 1) := by decide +kernel
theorem d_Course_leaveRest_4 : decode b_Course_leaveRest 4 = .ok (.getfield 48, 3) := by decide +kernel
theorem d_Course_leaveRest_7 : decode b_Course_leaveRest 7 = .ok (.if_icmp .ge 35, 3) := by decide +kernel
theorem d_Course_leaveRest_10 : decode b_Course_leaveRest 10 = .ok (.aload_n 0, 1) := by decide +kernel
theorem d_Course_leaveRest_11 : decode b_Course_leaveRest 11 = .ok (.getfield 19, 3) := by decide +kernel
theorem d_Course_leaveRest_14 : decode b_Course_leaveRest 14 = .ok (.iload_n 1, 1) := by decide +kernel
theorem d_Course_leaveRest_15 : decode b_Course_leaveRest 15 = .ok (.aaload, 1) := by decide +kernel
theorem d_Course_leaveRest_16 : decode b_Course_leaveRest 16 = .ok (.getfield 93, 3) := by decide +kernel
theorem d_Course_leaveRest_19 : decode b_Course_leaveRest 19 = .ok (.ifCond .ne 17, 3) := by decide +kernel
theorem d_Course_leaveRest_22 : decode b_Course_leaveRest 22 = .ok (.aload_n 0, 1) := by decide +kernel
theorem d_Course_leaveRest_23 : decode b_Course_leaveRest 23 = .ok (.getfield 19, 3) := by decide +kernel
theorem d_Course_leaveRest_26 : decode b_Course_leaveRest 26 = .ok (.iload_n 1, 1) := by decide +kernel
theorem d_Course_leaveRest_27 : decode b_Course_leaveRest 27 = .ok (.aaload, 1) := by decide +kernel
theorem d_Course_leaveRest_28 : decode b_Course_leaveRest 28 = .ok (.iconst 4, 1) := by decide +kernel
theorem d_Course_leaveRest_29 : decode b_Course_leaveRest 29 = .ok (.aload_n 0, 1) := by decide +kernel
theorem d_Course_leaveRest_30 : decode b_Course_leaveRest 30 = .ok (.getfield 87, 3) := by decide +kernel
theorem d_Course_leaveRest_33 : decode b_Course_leaveRest 33 = .ok (.invokevirtual 110, 3) := by decide +kernel
theorem d_Course_leaveRest_36 : decode b_Course_leaveRest 36 = .ok (.iinc 1 1, 3) := by decide +kernel
theorem d_Course_leaveRest_39 : decode b_Course_leaveRest 39 = .ok (.goto (-37), 3) := by decide +kernel
theorem d_Course_leaveRest_42 : decode b_Course_leaveRest 42 = .ok (.iconst 0, 1) := by decide +kernel
theorem d_Course_leaveRest_43 : decode b_Course_leaveRest 43 = .ok (.istore_n 1, 1) := by decide +kernel
theorem d_Course_leaveRest_44 : decode b_Course_leaveRest 44 = .ok (.iload_n 1, 1) := by decide +kernel
theorem d_Course_leaveRest_45 : decode b_Course_leaveRest 45 = .ok (.aload_n 0, 1) := by decide +kernel
theorem d_Course_leaveRest_46 : decode b_Course_leaveRest 46 = .ok (.getfield 100, 3) := by decide +kernel
theorem d_Course_leaveRest_49 : decode b_Course_leaveRest 49 = .ok (.if_icmp .ge 31, 3) := by decide +kernel
theorem d_Course_leaveRest_52 : decode b_Course_leaveRest 52 = .ok (.aload_n 0, 1) := by decide +kernel
theorem d_Course_leaveRest_53 : decode b_Course_leaveRest 53 = .ok (.getfield 25, 3) := by decide +kernel
theorem d_Course_leaveRest_56 : decode b_Course_leaveRest 56 = .ok (.iload_n 1, 1) := by decide +kernel
theorem d_Course_leaveRest_57 : decode b_Course_leaveRest 57 = .ok (.aaload, 1) := by decide +kernel
theorem d_Course_leaveRest_58 : decode b_Course_leaveRest 58 = .ok (.getfield 125, 3) := by decide +kernel
theorem d_Course_leaveRest_61 : decode b_Course_leaveRest 61 = .ok (.ifCond .ne 13, 3) := by decide +kernel
theorem d_Course_leaveRest_64 : decode b_Course_leaveRest 64 = .ok (.aload_n 0, 1) := by decide +kernel
theorem d_Course_leaveRest_65 : decode b_Course_leaveRest 65 = .ok (.dup, 1) := by decide +kernel
theorem d_Course_leaveRest_66 : decode b_Course_leaveRest 66 = .ok (.getfield 103, 3) := by decide +kernel
theorem d_Course_leaveRest_69 : decode b_Course_leaveRest 69 = .ok (.iconst 1, 1) := by decide +kernel
theorem d_Course_leaveRest_70 : decode b_Course_leaveRest 70 = .ok (.iadd, 1) := by decide +kernel
theorem d_Course_leaveRest_71 : decode b_Course_leaveRest 71 = .ok (.putfield 103, 3) := by decide +kernel
theorem d_Course_leaveRest_74 : decode b_Course_leaveRest 74 = .ok (.iinc 1 1, 3) := by decide +kernel
theorem d_Course_leaveRest_77 : decode b_Course_leaveRest 77 = .ok (.goto (-33), 3) := by decide +kernel
theorem d_Course_leaveRest_80 : decode b_Course_leaveRest 80 = .ok (.return_, 1) := by decide +kernel
theorem d_Log_init_0 : decode b_Log_init 0 = .ok (.aload_n 0, 1) := by decide +kernel
theorem d_Log_init_1 : decode b_Log_init 1 = .ok (.invokespecial 1, 3) := by decide +kernel
theorem d_Log_init_4 : decode b_Log_init 4 = .ok (.aload_n 0, 1) := by decide +kernel
theorem d_Log_init_5 : decode b_Log_init 5 = .ok (.iload_n 1, 1) := by decide +kernel
theorem d_Log_init_6 : decode b_Log_init 6 = .ok (.newarray .int, 2) := by decide +kernel
theorem d_Log_init_8 : decode b_Log_init 8 = .ok (.putfield 7, 3) := by decide +kernel
theorem d_Log_init_11 : decode b_Log_init 11 = .ok (.return_, 1) := by decide +kernel
theorem d_Log_add_0 : decode b_Log_add 0 = .ok (.aload_n 0, 1) := by decide +kernel
theorem d_Log_add_1 : decode b_Log_add 1 = .ok (.getfield 13, 3) := by decide +kernel
theorem d_Log_add_4 : decode b_Log_add 4 = .ok (.aload_n 0, 1) := by decide +kernel
theorem d_Log_add_5 : decode b_Log_add 5 = .ok (.getfield 7, 3) := by decide +kernel
theorem d_Log_add_8 : decode b_Log_add 8 = .ok (.arraylength, 1) := by decide +kernel
theorem d_Log_add_9 : decode b_Log_add 9 = .ok (.if_icmp .ge 13, 3) := by decide +kernel
theorem d_Log_add_12 : decode b_Log_add 12 = .ok (.aload_n 0, 1) := by decide +kernel
theorem d_Log_add_13 : decode b_Log_add 13 = .ok (.getfield 7, 3) := by decide +kernel
theorem d_Log_add_16 : decode b_Log_add 16 = .ok (.aload_n 0, 1) := by decide +kernel
theorem d_Log_add_17 : decode b_Log_add 17 = .ok (.getfield 13, 3) := by decide +kernel
theorem d_Log_add_20 : decode b_Log_add 20 = .ok (.iload_n 1, 1) := by decide +kernel
theorem d_Log_add_21 : decode b_Log_add 21 = .ok (.iastore, 1) := by decide +kernel
theorem d_Log_add_22 : decode b_Log_add 22 = .ok (.aload_n 0, 1) := by decide +kernel
theorem d_Log_add_23 : decode b_Log_add 23 = .ok (.dup, 1) := by decide +kernel
theorem d_Log_add_24 : decode b_Log_add 24 = .ok (.getfield 13, 3) := by decide +kernel
theorem d_Log_add_27 : decode b_Log_add 27 = .ok (.iconst 1, 1) := by decide +kernel
theorem d_Log_add_28 : decode b_Log_add 28 = .ok (.iadd, 1) := by decide +kernel
theorem d_Log_add_29 : decode b_Log_add 29 = .ok (.putfield 13, 3) := by decide +kernel
theorem d_Log_add_32 : decode b_Log_add 32 = .ok (.return_, 1) := by decide +kernel
theorem d_Log_keeps_0 : decode b_Log_keeps 0 = .ok (.iload_n 1, 1) := by decide +kernel
theorem d_Log_keeps_1 : decode b_Log_keeps 1 = .ok (.ifCond .lt 24, 3) := by decide +kernel
theorem d_Log_keeps_4 : decode b_Log_keeps 4 = .ok (.iload_n 1, 1) := by decide +kernel
theorem d_Log_keeps_5 : decode b_Log_keeps 5 = .ok (.aload_n 0, 1) := by decide +kernel
theorem d_Log_keeps_6 : decode b_Log_keeps 6 = .ok (.getfield 13, 3) := by decide +kernel
theorem d_Log_keeps_9 : decode b_Log_keeps 9 = .ok (.if_icmp .ge 16, 3) := by decide +kernel
theorem d_Log_keeps_12 : decode b_Log_keeps 12 = .ok (.iload_n 1, 1) := by decide +kernel
theorem d_Log_keeps_13 : decode b_Log_keeps 13 = .ok (.aload_n 0, 1) := by decide +kernel
theorem d_Log_keeps_14 : decode b_Log_keeps 14 = .ok (.getfield 7, 3) := by decide +kernel
theorem d_Log_keeps_17 : decode b_Log_keeps 17 = .ok (.arraylength, 1) := by decide +kernel
theorem d_Log_keeps_18 : decode b_Log_keeps 18 = .ok (.if_icmp .ge 7, 3) := by decide +kernel
theorem d_Log_keeps_21 : decode b_Log_keeps 21 = .ok (.iconst 1, 1) := by decide +kernel
theorem d_Log_keeps_22 : decode b_Log_keeps 22 = .ok (.goto 4, 3) := by decide +kernel
theorem d_Log_keeps_25 : decode b_Log_keeps 25 = .ok (.iconst 0, 1) := by decide +kernel
theorem d_Log_keeps_26 : decode b_Log_keeps 26 = .ok (.ireturn, 1) := by decide +kernel
theorem d_Program_init_0 : decode b_Program_init 0 = .ok (.aload_n 0, 1) := by decide +kernel
theorem d_Program_init_1 : decode b_Program_init 1 = .ok (.invokespecial 3, 3) := by decide +kernel
theorem d_Program_init_4 : decode b_Program_init 4 = .ok (.aload_n 0, 1) := by decide +kernel
theorem d_Program_init_5 : decode b_Program_init 5 = .ok (.bipush 10, 2) := by decide +kernel
theorem d_Program_init_7 : decode b_Program_init 7 = .ok (.newarray .int, 2) := by decide +kernel
theorem d_Program_init_9 : decode b_Program_init 9 = .ok (.putfield 9, 3) := by decide +kernel
theorem d_Program_init_12 : decode b_Program_init 12 = .ok (.aload_n 0, 1) := by decide +kernel
theorem d_Program_init_13 : decode b_Program_init 13 = .ok (.bipush 10, 2) := by decide +kernel
theorem d_Program_init_15 : decode b_Program_init 15 = .ok (.newarray .int, 2) := by decide +kernel
theorem d_Program_init_17 : decode b_Program_init 17 = .ok (.putfield 15, 3) := by decide +kernel
theorem d_Program_init_20 : decode b_Program_init 20 = .ok (.aload_n 0, 1) := by decide +kernel
theorem d_Program_init_21 : decode b_Program_init 21 = .ok (.bipush 10, 2) := by decide +kernel
theorem d_Program_init_23 : decode b_Program_init 23 = .ok (.newarray .int, 2) := by decide +kernel
theorem d_Program_init_25 : decode b_Program_init 25 = .ok (.putfield 18, 3) := by decide +kernel
theorem d_Program_init_28 : decode b_Program_init 28 = .ok (.return_, 1) := by decide +kernel
theorem d_Program_add_0 : decode b_Program_add 0 = .ok (.aload_n 0, 1) := by decide +kernel
theorem d_Program_add_1 : decode b_Program_add 1 = .ok (.getfield 9, 3) := by decide +kernel
theorem d_Program_add_4 : decode b_Program_add 4 = .ok (.aload_n 0, 1) := by decide +kernel
theorem d_Program_add_5 : decode b_Program_add 5 = .ok (.getfield 21, 3) := by decide +kernel
theorem d_Program_add_8 : decode b_Program_add 8 = .ok (.iload_n 1, 1) := by decide +kernel
theorem d_Program_add_9 : decode b_Program_add 9 = .ok (.iastore, 1) := by decide +kernel
theorem d_Program_add_10 : decode b_Program_add 10 = .ok (.aload_n 0, 1) := by decide +kernel
theorem d_Program_add_11 : decode b_Program_add 11 = .ok (.getfield 15, 3) := by decide +kernel
theorem d_Program_add_14 : decode b_Program_add 14 = .ok (.aload_n 0, 1) := by decide +kernel
theorem d_Program_add_15 : decode b_Program_add 15 = .ok (.getfield 21, 3) := by decide +kernel
theorem d_Program_add_18 : decode b_Program_add 18 = .ok (.iload_n 2, 1) := by decide +kernel
theorem d_Program_add_19 : decode b_Program_add 19 = .ok (.iastore, 1) := by decide +kernel
theorem d_Program_add_20 : decode b_Program_add 20 = .ok (.aload_n 0, 1) := by decide +kernel
theorem d_Program_add_21 : decode b_Program_add 21 = .ok (.getfield 18, 3) := by decide +kernel
theorem d_Program_add_24 : decode b_Program_add 24 = .ok (.aload_n 0, 1) := by decide +kernel
theorem d_Program_add_25 : decode b_Program_add 25 = .ok (.getfield 21, 3) := by decide +kernel
theorem d_Program_add_28 : decode b_Program_add 28 = .ok (.iload_n 1, 1) := by decide +kernel
theorem d_Program_add_29 : decode b_Program_add 29 = .ok (.iconst 4, 1) := by decide +kernel
theorem d_Program_add_30 : decode b_Program_add 30 = .ok (.if_icmp .ne 15, 3) := by decide +kernel
theorem d_Program_add_33 : decode b_Program_add 33 = .ok (.aload_n 0, 1) := by decide +kernel
theorem d_Program_add_34 : decode b_Program_add 34 = .ok (.aload_n 0, 1) := by decide +kernel
theorem d_Program_add_35 : decode b_Program_add 35 = .ok (.getfield 21, 3) := by decide +kernel
theorem d_Program_add_38 : decode b_Program_add 38 = .ok (.iload_n 2, 1) := by decide +kernel
theorem d_Program_add_39 : decode b_Program_add 39 = .ok (.invokevirtual 25, 3) := by decide +kernel
theorem d_Program_add_42 : decode b_Program_add 42 = .ok (.goto 4, 3) := by decide +kernel
theorem d_Program_add_45 : decode b_Program_add 45 = .ok (.iconst 0, 1) := by decide +kernel
theorem d_Program_add_46 : decode b_Program_add 46 = .ok (.iastore, 1) := by decide +kernel
theorem d_Program_add_47 : decode b_Program_add 47 = .ok (.aload_n 0, 1) := by decide +kernel
theorem d_Program_add_48 : decode b_Program_add 48 = .ok (.dup, 1) := by decide +kernel
theorem d_Program_add_49 : decode b_Program_add 49 = .ok (.getfield 21, 3) := by decide +kernel
theorem d_Program_add_52 : decode b_Program_add 52 = .ok (.iconst 1, 1) := by decide +kernel
theorem d_Program_add_53 : decode b_Program_add 53 = .ok (.iadd, 1) := by decide +kernel
theorem d_Program_add_54 : decode b_Program_add 54 = .ok (.putfield 21, 3) := by decide +kernel
theorem d_Program_add_57 : decode b_Program_add 57 = .ok (.return_, 1) := by decide +kernel
theorem d_Program_endOfGuard_0 : decode b_Program_endOfGuard 0 = .ok (.iload_n 1, 1) := by decide +kernel
theorem d_Program_endOfGuard_1 : decode b_Program_endOfGuard 1 = .ok (.iconst 1, 1) := by decide +kernel
theorem d_Program_endOfGuard_2 : decode b_Program_endOfGuard 2 = .ok (.iadd, 1) := by decide +kernel
theorem d_Program_endOfGuard_3 : decode b_Program_endOfGuard 3 = .ok (.iload_n 2, 1) := by decide +kernel
theorem d_Program_endOfGuard_4 : decode b_Program_endOfGuard 4 = .ok (.iadd, 1) := by decide +kernel
theorem d_Program_endOfGuard_5 : decode b_Program_endOfGuard 5 = .ok (.istore_n 3, 1) := by decide +kernel
theorem d_Program_endOfGuard_6 : decode b_Program_endOfGuard 6 = .ok (.aload_n 0, 1) := by decide +kernel
theorem d_Program_endOfGuard_7 : decode b_Program_endOfGuard 7 = .ok (.iload_n 1, 1) := by decide +kernel
theorem d_Program_endOfGuard_8 : decode b_Program_endOfGuard 8 = .ok (.invokevirtual 29, 3) := by decide +kernel
theorem d_Program_endOfGuard_11 : decode b_Program_endOfGuard 11 = .ok (.istore 4, 2) := by decide +kernel
theorem d_Program_endOfGuard_13 : decode b_Program_endOfGuard 13 = .ok (.iload 4, 2) := by decide +kernel
theorem d_Program_endOfGuard_15 : decode b_Program_endOfGuard 15 = .ok (.iconst (-1), 1) := by decide +kernel
theorem d_Program_endOfGuard_16 : decode b_Program_endOfGuard 16 = .ok (.if_icmp .ne 7, 3) := by decide +kernel
theorem d_Program_endOfGuard_19 : decode b_Program_endOfGuard 19 = .ok (.iload_n 3, 1) := by decide +kernel
theorem d_Program_endOfGuard_20 : decode b_Program_endOfGuard 20 = .ok (.goto 9, 3) := by decide +kernel
theorem d_Program_endOfGuard_23 : decode b_Program_endOfGuard 23 = .ok (.iload_n 3, 1) := by decide +kernel
theorem d_Program_endOfGuard_24 : decode b_Program_endOfGuard 24 = .ok (.iload 4, 2) := by decide +kernel
theorem d_Program_endOfGuard_26 : decode b_Program_endOfGuard 26 = .ok (.invokestatic 33, 3) := by decide +kernel
theorem d_Program_endOfGuard_29 : decode b_Program_endOfGuard 29 = .ok (.ireturn, 1) := by decide +kernel
theorem d_Program_endOfGuardAround_0 : decode b_Program_endOfGuardAround 0 = .ok (.iload_n 1, 1) := by decide +kernel
theorem d_Program_endOfGuardAround_1 : decode b_Program_endOfGuardAround 1 = .ok (.iconst 1, 1) := by decide +kernel
theorem d_Program_endOfGuardAround_2 : decode b_Program_endOfGuardAround 2 = .ok (.isub, 1) := by decide +kernel
theorem d_Program_endOfGuardAround_3 : decode b_Program_endOfGuardAround 3 = .ok (.istore_n 2, 1) := by decide +kernel
theorem d_Program_endOfGuardAround_4 : decode b_Program_endOfGuardAround 4 = .ok (.iload_n 2, 1) := by decide +kernel
theorem d_Program_endOfGuardAround_5 : decode b_Program_endOfGuardAround 5 = .ok (.ifCond .lt 26, 3) := by decide +kernel
theorem d_Program_endOfGuardAround_8 : decode b_Program_endOfGuardAround 8 = .ok (.aload_n 0, 1) := by decide +kernel
theorem d_Program_endOfGuardAround_9 : decode b_Program_endOfGuardAround 9 = .ok (.getfield 18, 3) := by decide +kernel
theorem d_Program_endOfGuardAround_12 : decode b_Program_endOfGuardAround 12 = .ok (.iload_n 2, 1) := by decide +kernel
theorem d_Program_endOfGuardAround_13 : decode b_Program_endOfGuardAround 13 = .ok (.iaload, 1) := by decide +kernel
theorem d_Program_endOfGuardAround_14 : decode b_Program_endOfGuardAround 14 = .ok (.iload_n 1, 1) := by decide +kernel
theorem d_Program_endOfGuardAround_15 : decode b_Program_endOfGuardAround 15 = .ok (.if_icmp .le 10, 3) := by decide +kernel
theorem d_Program_endOfGuardAround_18 : decode b_Program_endOfGuardAround 18 = .ok (.aload_n 0, 1) := by decide +kernel
theorem d_Program_endOfGuardAround_19 : decode b_Program_endOfGuardAround 19 = .ok (.getfield 18, 3) := by decide +kernel
theorem d_Program_endOfGuardAround_22 : decode b_Program_endOfGuardAround 22 = .ok (.iload_n 2, 1) := by decide +kernel
theorem d_Program_endOfGuardAround_23 : decode b_Program_endOfGuardAround 23 = .ok (.iaload, 1) := by decide +kernel
theorem d_Program_endOfGuardAround_24 : decode b_Program_endOfGuardAround 24 = .ok (.ireturn, 1) := by decide +kernel
theorem d_Program_endOfGuardAround_25 : decode b_Program_endOfGuardAround 25 = .ok (.iinc 2 (-1), 3) := by decide +kernel
theorem d_Program_endOfGuardAround_28 : decode b_Program_endOfGuardAround 28 = .ok (.goto (-24), 3) := by decide +kernel
theorem d_Program_endOfGuardAround_31 : decode b_Program_endOfGuardAround 31 = .ok (.iconst (-1), 1) := by decide +kernel
theorem d_Program_endOfGuardAround_32 : decode b_Program_endOfGuardAround 32 = .ok (.ireturn, 1) := by decide +kernel
theorem d_Strand_init_0 : decode b_Strand_init 0 = .ok (.aload_n 0, 1) := by decide +kernel
theorem d_Strand_init_1 : decode b_Strand_init 1 = .ok (.invokespecial 3, 3) := by decide +kernel
theorem d_Strand_init_4 : decode b_Strand_init 4 = .ok (.return_, 1) := by decide +kernel
theorem d_Strand_start_0 : decode b_Strand_start 0 = .ok (.aload_n 0, 1) := by decide +kernel
theorem d_Strand_start_1 : decode b_Strand_start 1 = .ok (.iload_n 1, 1) := by decide +kernel
theorem d_Strand_start_2 : decode b_Strand_start 2 = .ok (.putfield 9, 3) := by decide +kernel
theorem d_Strand_start_5 : decode b_Strand_start 5 = .ok (.aload_n 0, 1) := by decide +kernel
theorem d_Strand_start_6 : decode b_Strand_start 6 = .ok (.iload_n 2, 1) := by decide +kernel
theorem d_Strand_start_7 : decode b_Strand_start 7 = .ok (.putfield 15, 3) := by decide +kernel
theorem d_Strand_start_10 : decode b_Strand_start 10 = .ok (.aload_n 0, 1) := by decide +kernel
theorem d_Strand_start_11 : decode b_Strand_start 11 = .ok (.iload_n 3, 1) := by decide +kernel
theorem d_Strand_start_12 : decode b_Strand_start 12 = .ok (.putfield 18, 3) := by decide +kernel
theorem d_Strand_start_15 : decode b_Strand_start 15 = .ok (.aload_n 0, 1) := by decide +kernel
theorem d_Strand_start_16 : decode b_Strand_start 16 = .ok (.iconst 0, 1) := by decide +kernel
theorem d_Strand_start_17 : decode b_Strand_start 17 = .ok (.putfield 21, 3) := by decide +kernel
theorem d_Strand_start_20 : decode b_Strand_start 20 = .ok (.aload_n 0, 1) := by decide +kernel
theorem d_Strand_start_21 : decode b_Strand_start 21 = .ok (.iconst 0, 1) := by decide +kernel
theorem d_Strand_start_22 : decode b_Strand_start 22 = .ok (.putfield 24, 3) := by decide +kernel
theorem d_Strand_start_25 : decode b_Strand_start 25 = .ok (.aload_n 0, 1) := by decide +kernel
theorem d_Strand_start_26 : decode b_Strand_start 26 = .ok (.iconst 0, 1) := by decide +kernel
theorem d_Strand_start_27 : decode b_Strand_start 27 = .ok (.putfield 28, 3) := by decide +kernel
theorem d_Strand_start_30 : decode b_Strand_start 30 = .ok (.aload_n 0, 1) := by decide +kernel
theorem d_Strand_start_31 : decode b_Strand_start 31 = .ok (.iconst 0, 1) := by decide +kernel
theorem d_Strand_start_32 : decode b_Strand_start 32 = .ok (.putfield 31, 3) := by decide +kernel
theorem d_Strand_start_35 : decode b_Strand_start 35 = .ok (.aload_n 0, 1) := by decide +kernel
theorem d_Strand_start_36 : decode b_Strand_start 36 = .ok (.iconst 0, 1) := by decide +kernel
theorem d_Strand_start_37 : decode b_Strand_start 37 = .ok (.putfield 34, 3) := by decide +kernel
theorem d_Strand_start_40 : decode b_Strand_start 40 = .ok (.aload_n 0, 1) := by decide +kernel
theorem d_Strand_start_41 : decode b_Strand_start 41 = .ok (.iconst 0, 1) := by decide +kernel
theorem d_Strand_start_42 : decode b_Strand_start 42 = .ok (.putfield 37, 3) := by decide +kernel
theorem d_Strand_start_45 : decode b_Strand_start 45 = .ok (.aload_n 0, 1) := by decide +kernel
theorem d_Strand_start_46 : decode b_Strand_start 46 = .ok (.iconst (-1), 1) := by decide +kernel
theorem d_Strand_start_47 : decode b_Strand_start 47 = .ok (.putfield 40, 3) := by decide +kernel
theorem d_Strand_start_50 : decode b_Strand_start 50 = .ok (.return_, 1) := by decide +kernel
theorem d_Strand_end_0 : decode b_Strand_end 0 = .ok (.aload_n 0, 1) := by decide +kernel
theorem d_Strand_end_1 : decode b_Strand_end 1 = .ok (.iconst 1, 1) := by decide +kernel
theorem d_Strand_end_2 : decode b_Strand_end 2 = .ok (.putfield 37, 3) := by decide +kernel
theorem d_Strand_end_5 : decode b_Strand_end 5 = .ok (.aload_n 0, 1) := by decide +kernel
theorem d_Strand_end_6 : decode b_Strand_end 6 = .ok (.iload_n 1, 1) := by decide +kernel
theorem d_Strand_end_7 : decode b_Strand_end 7 = .ok (.putfield 40, 3) := by decide +kernel
theorem d_Strand_end_10 : decode b_Strand_end 10 = .ok (.return_, 1) := by decide +kernel
theorem d_Strand_takeMark_0 : decode b_Strand_takeMark 0 = .ok (.aload_n 0, 1) := by decide +kernel
theorem d_Strand_takeMark_1 : decode b_Strand_takeMark 1 = .ok (.getfield 31, 3) := by decide +kernel
theorem d_Strand_takeMark_4 : decode b_Strand_takeMark 4 = .ok (.istore_n 1, 1) := by decide +kernel
theorem d_Strand_takeMark_5 : decode b_Strand_takeMark 5 = .ok (.aload_n 0, 1) := by decide +kernel
theorem d_Strand_takeMark_6 : decode b_Strand_takeMark 6 = .ok (.iconst 0, 1) := by decide +kernel
theorem d_Strand_takeMark_7 : decode b_Strand_takeMark 7 = .ok (.putfield 31, 3) := by decide +kernel
theorem d_Strand_takeMark_10 : decode b_Strand_takeMark 10 = .ok (.iload_n 1, 1) := by decide +kernel
theorem d_Strand_takeMark_11 : decode b_Strand_takeMark 11 = .ok (.ireturn, 1) := by decide +kernel
theorem d_Trial_init_0 : decode b_Trial_init 0 = .ok (.aload_n 0, 1) := by decide +kernel
theorem d_Trial_init_1 : decode b_Trial_init 1 = .ok (.invokespecial 3, 3) := by decide +kernel
theorem d_Trial_init_4 : decode b_Trial_init 4 = .ok (.aload_n 0, 1) := by decide +kernel
theorem d_Trial_init_5 : decode b_Trial_init 5 = .ok (.invokevirtual 9, 3) := by decide +kernel
theorem d_Trial_init_8 : decode b_Trial_init 8 = .ok (.return_, 1) := by decide +kernel
theorem d_Trial_define_0 : decode b_Trial_define 0 = .ok (.aload_n 0, 1) := by decide +kernel
theorem d_Trial_define_1 : decode b_Trial_define 1 = .ok (.iload_n 1, 1) := by decide +kernel
theorem d_Trial_define_2 : decode b_Trial_define 2 = .ok (.putfield 14, 3) := by decide +kernel
theorem d_Trial_define_5 : decode b_Trial_define 5 = .ok (.aload_n 0, 1) := by decide +kernel
theorem d_Trial_define_6 : decode b_Trial_define 6 = .ok (.iload_n 2, 1) := by decide +kernel
theorem d_Trial_define_7 : decode b_Trial_define 7 = .ok (.putfield 18, 3) := by decide +kernel
theorem d_Trial_define_10 : decode b_Trial_define 10 = .ok (.aload_n 0, 1) := by decide +kernel
theorem d_Trial_define_11 : decode b_Trial_define 11 = .ok (.iload_n 3, 1) := by decide +kernel
theorem d_Trial_define_12 : decode b_Trial_define 12 = .ok (.putfield 21, 3) := by decide +kernel
theorem d_Trial_define_15 : decode b_Trial_define 15 = .ok (.aload_n 0, 1) := by decide +kernel
theorem d_Trial_define_16 : decode b_Trial_define 16 = .ok (.iload 4, 2) := by decide +kernel
theorem d_Trial_define_18 : decode b_Trial_define 18 = .ok (.putfield 24, 3) := by decide +kernel
theorem d_Trial_define_21 : decode b_Trial_define 21 = .ok (.return_, 1) := by decide +kernel
theorem d_Trial_forgetRun_0 : decode b_Trial_forgetRun 0 = .ok (.aload_n 0, 1) := by decide +kernel
theorem d_Trial_forgetRun_1 : decode b_Trial_forgetRun 1 = .ok (.iconst 0, 1) := by decide +kernel
theorem d_Trial_forgetRun_2 : decode b_Trial_forgetRun 2 = .ok (.putfield 27, 3) := by decide +kernel
theorem d_Trial_forgetRun_5 : decode b_Trial_forgetRun 5 = .ok (.aload_n 0, 1) := by decide +kernel
theorem d_Trial_forgetRun_6 : decode b_Trial_forgetRun 6 = .ok (.iconst (-1), 1) := by decide +kernel
theorem d_Trial_forgetRun_7 : decode b_Trial_forgetRun 7 = .ok (.putfield 30, 3) := by decide +kernel
theorem d_Trial_forgetRun_10 : decode b_Trial_forgetRun 10 = .ok (.aload_n 0, 1) := by decide +kernel
theorem d_Trial_forgetRun_11 : decode b_Trial_forgetRun 11 = .ok (.iconst (-1), 1) := by decide +kernel
theorem d_Trial_forgetRun_12 : decode b_Trial_forgetRun 12 = .ok (.putfield 33, 3) := by decide +kernel
theorem d_Trial_forgetRun_15 : decode b_Trial_forgetRun 15 = .ok (.aload_n 0, 1) := by decide +kernel
theorem d_Trial_forgetRun_16 : decode b_Trial_forgetRun 16 = .ok (.iconst (-1), 1) := by decide +kernel
theorem d_Trial_forgetRun_17 : decode b_Trial_forgetRun 17 = .ok (.putfield 36, 3) := by decide +kernel
theorem d_Trial_forgetRun_20 : decode b_Trial_forgetRun 20 = .ok (.aload_n 0, 1) := by decide +kernel
theorem d_Trial_forgetRun_21 : decode b_Trial_forgetRun 21 = .ok (.iconst (-1), 1) := by decide +kernel
theorem d_Trial_forgetRun_22 : decode b_Trial_forgetRun 22 = .ok (.putfield 39, 3) := by decide +kernel
theorem d_Trial_forgetRun_25 : decode b_Trial_forgetRun 25 = .ok (.aload_n 0, 1) := by decide +kernel
theorem d_Trial_forgetRun_26 : decode b_Trial_forgetRun 26 = .ok (.iconst 0, 1) := by decide +kernel
theorem d_Trial_forgetRun_27 : decode b_Trial_forgetRun 27 = .ok (.putfield 42, 3) := by decide +kernel
theorem d_Trial_forgetRun_30 : decode b_Trial_forgetRun 30 = .ok (.aload_n 0, 1) := by decide +kernel
theorem d_Trial_forgetRun_31 : decode b_Trial_forgetRun 31 = .ok (.iconst 0, 1) := by decide +kernel
theorem d_Trial_forgetRun_32 : decode b_Trial_forgetRun 32 = .ok (.putfield 46, 3) := by decide +kernel
theorem d_Trial_forgetRun_35 : decode b_Trial_forgetRun 35 = .ok (.aload_n 0, 1) := by decide +kernel
theorem d_Trial_forgetRun_36 : decode b_Trial_forgetRun 36 = .ok (.iconst (-1), 1) := by decide +kernel
theorem d_Trial_forgetRun_37 : decode b_Trial_forgetRun 37 = .ok (.putfield 49, 3) := by decide +kernel
theorem d_Trial_forgetRun_40 : decode b_Trial_forgetRun 40 = .ok (.aload_n 0, 1) := by decide +kernel
theorem d_Trial_forgetRun_41 : decode b_Trial_forgetRun 41 = .ok (.iconst (-1), 1) := by decide +kernel
theorem d_Trial_forgetRun_42 : decode b_Trial_forgetRun 42 = .ok (.putfield 52, 3) := by decide +kernel
theorem d_Trial_forgetRun_45 : decode b_Trial_forgetRun 45 = .ok (.return_, 1) := by decide +kernel
theorem d_Trial_isRunning_0 : decode b_Trial_isRunning 0 = .ok (.aload_n 0, 1) := by decide +kernel
theorem d_Trial_isRunning_1 : decode b_Trial_isRunning 1 = .ok (.getfield 33, 3) := by decide +kernel
theorem d_Trial_isRunning_4 : decode b_Trial_isRunning 4 = .ok (.iconst (-1), 1) := by decide +kernel
theorem d_Trial_isRunning_5 : decode b_Trial_isRunning 5 = .ok (.if_icmp .eq 14, 3) := by decide +kernel
theorem d_Trial_isRunning_8 : decode b_Trial_isRunning 8 = .ok (.aload_n 0, 1) := by decide +kernel
theorem d_Trial_isRunning_9 : decode b_Trial_isRunning 9 = .ok (.getfield 27, 3) := by decide +kernel
theorem d_Trial_isRunning_12 : decode b_Trial_isRunning 12 = .ok (.ifCond .ne 7, 3) := by decide +kernel
theorem d_Trial_isRunning_15 : decode b_Trial_isRunning 15 = .ok (.iconst 1, 1) := by decide +kernel
theorem d_Trial_isRunning_16 : decode b_Trial_isRunning 16 = .ok (.goto 4, 3) := by decide +kernel
theorem d_Trial_isRunning_19 : decode b_Trial_isRunning 19 = .ok (.iconst 0, 1) := by decide +kernel
theorem d_Trial_isRunning_20 : decode b_Trial_isRunning 20 = .ok (.ireturn, 1) := by decide +kernel
theorem d_Trial_overrunsAt_0 : decode b_Trial_overrunsAt 0 = .ok (.aload_n 0, 1) := by decide +kernel
theorem d_Trial_overrunsAt_1 : decode b_Trial_overrunsAt 1 = .ok (.invokevirtual 55, 3) := by decide +kernel
theorem d_Trial_overrunsAt_4 : decode b_Trial_overrunsAt 4 = .ok (.ifCond .eq 27, 3) := by decide +kernel
theorem d_Trial_overrunsAt_7 : decode b_Trial_overrunsAt 7 = .ok (.aload_n 0, 1) := by decide +kernel
theorem d_Trial_overrunsAt_8 : decode b_Trial_overrunsAt 8 = .ok (.getfield 18, 3) := by decide +kernel
theorem d_Trial_overrunsAt_11 : decode b_Trial_overrunsAt 11 = .ok (.ifCond .eq 20, 3) := by decide +kernel
theorem d_Trial_overrunsAt_14 : decode b_Trial_overrunsAt 14 = .ok (.iload_n 1, 1) := by decide +kernel
theorem d_Trial_overrunsAt_15 : decode b_Trial_overrunsAt 15 = .ok (.aload_n 0, 1) := by decide +kernel
theorem d_Trial_overrunsAt_16 : decode b_Trial_overrunsAt 16 = .ok (.getfield 33, 3) := by decide +kernel
theorem d_Trial_overrunsAt_19 : decode b_Trial_overrunsAt 19 = .ok (.aload_n 0, 1) := by decide +kernel
theorem d_Trial_overrunsAt_20 : decode b_Trial_overrunsAt 20 = .ok (.getfield 18, 3) := by decide +kernel
theorem d_Trial_overrunsAt_23 : decode b_Trial_overrunsAt 23 = .ok (.iadd, 1) := by decide +kernel
theorem d_Trial_overrunsAt_24 : decode b_Trial_overrunsAt 24 = .ok (.if_icmp .lt 7, 3) := by decide +kernel
theorem d_Trial_overrunsAt_27 : decode b_Trial_overrunsAt 27 = .ok (.iconst 1, 1) := by decide +kernel
theorem d_Trial_overrunsAt_28 : decode b_Trial_overrunsAt 28 = .ok (.goto 4, 3) := by decide +kernel
theorem d_Trial_overrunsAt_31 : decode b_Trial_overrunsAt 31 = .ok (.iconst 0, 1) := by decide +kernel
theorem d_Trial_overrunsAt_32 : decode b_Trial_overrunsAt 32 = .ok (.ireturn, 1) := by decide +kernel
theorem d_Trial_hindersLocksOf_0 : decode b_Trial_hindersLocksOf 0 = .ok (.aload_n 0, 1) := by decide +kernel
theorem d_Trial_hindersLocksOf_1 : decode b_Trial_hindersLocksOf 1 = .ok (.getfield 24, 3) := by decide +kernel
theorem d_Trial_hindersLocksOf_4 : decode b_Trial_hindersLocksOf 4 = .ok (.aload_n 1, 1) := by decide +kernel
theorem d_Trial_hindersLocksOf_5 : decode b_Trial_hindersLocksOf 5 = .ok (.getfield 21, 3) := by decide +kernel
theorem d_Trial_hindersLocksOf_8 : decode b_Trial_hindersLocksOf 8 = .ok (.aload_n 1, 1) := by decide +kernel
theorem d_Trial_hindersLocksOf_9 : decode b_Trial_hindersLocksOf 9 = .ok (.getfield 24, 3) := by decide +kernel
theorem d_Trial_hindersLocksOf_12 : decode b_Trial_hindersLocksOf 12 = .ok (.ior, 1) := by decide +kernel
theorem d_Trial_hindersLocksOf_13 : decode b_Trial_hindersLocksOf 13 = .ok (.iand, 1) := by decide +kernel
theorem d_Trial_hindersLocksOf_14 : decode b_Trial_hindersLocksOf 14 = .ok (.ifCond .ne 15, 3) := by decide +kernel
theorem d_Trial_hindersLocksOf_17 : decode b_Trial_hindersLocksOf 17 = .ok (.aload_n 0, 1) := by decide +kernel
theorem d_Trial_hindersLocksOf_18 : decode b_Trial_hindersLocksOf 18 = .ok (.getfield 21, 3) := by decide +kernel
theorem d_Trial_hindersLocksOf_21 : decode b_Trial_hindersLocksOf 21 = .ok (.aload_n 1, 1) := by decide +kernel
theorem d_Trial_hindersLocksOf_22 : decode b_Trial_hindersLocksOf 22 = .ok (.getfield 24, 3) := by decide +kernel
theorem d_Trial_hindersLocksOf_25 : decode b_Trial_hindersLocksOf 25 = .ok (.iand, 1) := by decide +kernel
theorem d_Trial_hindersLocksOf_26 : decode b_Trial_hindersLocksOf 26 = .ok (.ifCond .eq 7, 3) := by decide +kernel
theorem d_Trial_hindersLocksOf_29 : decode b_Trial_hindersLocksOf 29 = .ok (.iconst 1, 1) := by decide +kernel
theorem d_Trial_hindersLocksOf_30 : decode b_Trial_hindersLocksOf 30 = .ok (.goto 4, 3) := by decide +kernel
theorem d_Trial_hindersLocksOf_33 : decode b_Trial_hindersLocksOf 33 = .ok (.iconst 0, 1) := by decide +kernel
theorem d_Trial_hindersLocksOf_34 : decode b_Trial_hindersLocksOf 34 = .ok (.ireturn, 1) := by decide +kernel
theorem d_Trial_decide_0 : decode b_Trial_decide 0 = .ok (.aload_n 0, 1) := by decide +kernel
theorem d_Trial_decide_1 : decode b_Trial_decide 1 = .ok (.iload_n 1, 1) := by decide +kernel
theorem d_Trial_decide_2 : decode b_Trial_decide 2 = .ok (.putfield 27, 3) := by decide +kernel
theorem d_Trial_decide_5 : decode b_Trial_decide 5 = .ok (.aload_n 0, 1) := by decide +kernel
theorem d_Trial_decide_6 : decode b_Trial_decide 6 = .ok (.iload_n 2, 1) := by decide +kernel
theorem d_Trial_decide_7 : decode b_Trial_decide 7 = .ok (.putfield 36, 3) := by decide +kernel
theorem d_Trial_decide_10 : decode b_Trial_decide 10 = .ok (.return_, 1) := by decide +kernel
theorem d_Trial_decideByDeath_0 : decode b_Trial_decideByDeath 0 = .ok (.aload_n 0, 1) := by decide +kernel
theorem d_Trial_decideByDeath_1 : decode b_Trial_decideByDeath 1 = .ok (.iload_n 1, 1) := by decide +kernel
theorem d_Trial_decideByDeath_2 : decode b_Trial_decideByDeath 2 = .ok (.iconst (-1), 1) := by decide +kernel
theorem d_Trial_decideByDeath_3 : decode b_Trial_decideByDeath 3 = .ok (.if_icmp .eq 7, 3) := by decide +kernel
theorem d_Trial_decideByDeath_6 : decode b_Trial_decideByDeath 6 = .ok (.iload_n 1, 1) := by decide +kernel
theorem d_Trial_decideByDeath_7 : decode b_Trial_decideByDeath 7 = .ok (.goto 7, 3) := by decide +kernel
theorem d_Trial_decideByDeath_10 : decode b_Trial_decideByDeath 10 = .ok (.aload_n 0, 1) := by decide +kernel
theorem d_Trial_decideByDeath_11 : decode b_Trial_decideByDeath 11 = .ok (.getfield 52, 3) := by decide +kernel
theorem d_Trial_decideByDeath_14 : decode b_Trial_decideByDeath 14 = .ok (.putfield 30, 3) := by decide +kernel
theorem d_Trial_decideByDeath_17 : decode b_Trial_decideByDeath 17 = .ok (.aload_n 0, 1) := by decide +kernel
theorem d_Trial_decideByDeath_18 : decode b_Trial_decideByDeath 18 = .ok (.aload_n 0, 1) := by decide +kernel
theorem d_Trial_decideByDeath_19 : decode b_Trial_decideByDeath 19 = .ok (.getfield 30, 3) := by decide +kernel
theorem d_Trial_decideByDeath_22 : decode b_Trial_decideByDeath 22 = .ok (.iconst (-1), 1) := by decide +kernel
theorem d_Trial_decideByDeath_23 : decode b_Trial_decideByDeath 23 = .ok (.if_icmp .eq 7, 3) := by decide +kernel
theorem d_Trial_decideByDeath_26 : decode b_Trial_decideByDeath 26 = .ok (.iconst 2, 1) := by decide +kernel
theorem d_Trial_decideByDeath_27 : decode b_Trial_decideByDeath 27 = .ok (.goto 4, 3) := by decide +kernel
theorem d_Trial_decideByDeath_30 : decode b_Trial_decideByDeath 30 = .ok (.iconst 1, 1) := by decide +kernel
theorem d_Trial_decideByDeath_31 : decode b_Trial_decideByDeath 31 = .ok (.iload_n 2, 1) := by decide +kernel
theorem d_Trial_decideByDeath_32 : decode b_Trial_decideByDeath 32 = .ok (.invokevirtual 59, 3) := by decide +kernel
theorem d_Trial_decideByDeath_35 : decode b_Trial_decideByDeath 35 = .ok (.return_, 1) := by decide +kernel
end
section
/-! THE FRAME: one typed world; a judgement V over it; a row an instruction -/
abbrev ty_SV : Type := Int32 ⊕ (Nat × Nat)
abbrev ty_St : Type := Nat → Nat → Nat → Int32
def ty_sv (ad : Nat → Nat → Nat) : ty_SV → Value
  | .inl x => .int x
  | .inr q => .ref (ad q.1 q.2)
theorem ty_cat (ad : Nat → Nat → Nat) (v : ty_SV) : (ty_sv ad v).category = 1 := by cases v <;> rfl
/-- a slot of an object: an int, or a reference that stays -/
def ty_sl (f : Nat → Int32) (i j : Nat) : Option (Nat × Option Nat) → ty_SV
  | none => .inl (f j)
  | some (a, none) => .inr (a, i)
  | some (a, some k) => .inr (a, k)
def ty_fs (ad : Nat → Nat → Nat) (f : Nat → Int32) (i : Nat) : Nat → List (Option (Nat × Option Nat)) → List Value
  | _, [] => []
  | j, q :: r => ty_sv ad (ty_sl f i j q) :: ty_fs ad f i (j + 1) r
theorem ty_fs_len (ad : Nat → Nat → Nat) (f : Nat → Int32) (i : Nat) : ∀ (fl : List (Option (Nat × Option Nat))) (j : Nat), (ty_fs ad f i j fl).length = fl.length
  | [], _ => rfl
  | _ :: r, j => by simp [ty_fs, ty_fs_len ad f i r (j + 1)]
theorem ty_fs_get (ad : Nat → Nat → Nat) (f : Nat → Int32) (i : Nat) : ∀ (fl : List (Option (Nat × Option Nat))) (j k : Nat) (q : Option (Nat × Option Nat)), fl[k]? = some q → (ty_fs ad f i j fl)[k]? = some (ty_sv ad (ty_sl f i (j + k) q))
  | [], _, k, q, h => by simp at h
  | a :: r, j, 0, q, h => by simp at h; subst h; rfl
  | a :: r, j, k + 1, q, h => by
    have h' : r[k]? = some q := by simpa using h
    have := ty_fs_get ad f i r (j + 1) k q h'
    rw [show j + (k + 1) = j + 1 + k by omega]
    simpa [ty_fs] using this
theorem ty_fs_low (ad : Nat → Nat → Nat) (f : Nat → Int32) (i : Nat) (n : Nat) (x : Int32) : ∀ (fl : List (Option (Nat × Option Nat))) (j : Nat), n < j → ty_fs ad (upd f n x) i j fl = ty_fs ad f i j fl
  | [], _, _ => rfl
  | q :: r, j, h => by
    have hq : ty_sl (upd f n x) i j q = ty_sl f i j q := by
      match q with
      | none => show Sum.inl (upd f n x j) = Sum.inl (f j); rw [pk_un (by omega)]
      | some (a, none) => rfl
      | some (a, some k) => rfl
    show _ :: _ = _ :: _
    rw [hq, ty_fs_low ad f i n x r (j + 1) (by omega)]
theorem ty_fs_set (ad : Nat → Nat → Nat) (f : Nat → Int32) (i : Nat) (x : Int32) : ∀ (fl : List (Option (Nat × Option Nat))) (j k : Nat), fl[k]? = some none → (ty_fs ad f i j fl).set k (.int x) = ty_fs ad (upd f (j + k) x) i j fl
  | [], _, k, h => by simp at h
  | a :: r, j, 0, h => by
    have h' : a = none := by simpa using h
    subst h'
    show Value.int x :: ty_fs ad f i (j + 1) r = ty_sv ad (.inl (upd f (j + 0) x j)) :: ty_fs ad (upd f (j + 0) x) i (j + 1) r
    rw [ty_fs_low ad f i (j + 0) x r (j + 1) (by omega)]
    simp [ty_sv, upd]
  | a :: r, j, k + 1, h => by
    have h' : r[k]? = some none := by simpa using h
    have ih := ty_fs_set ad f i x r (j + 1) k h'
    have hq : ty_sl (upd f (j + (k + 1)) x) i j a = ty_sl f i j a := by
      match a with
      | none => show Sum.inl (upd f _ x j) = Sum.inl (f j); rw [pk_un (by omega)]
      | some (b, none) => rfl
      | some (b, some q) => rfl
    show ty_sv ad (ty_sl f i j a) :: (ty_fs ad f i (j + 1) r).set k (.int x) = ty_sv ad (ty_sl (upd f (j + (k + 1)) x) i j a) :: ty_fs ad (upd f (j + (k + 1)) x) i (j + 1) r
    rw [hq, ih, show j + 1 + k = j + (k + 1) by omega]
/-- the cell of kind a, number i, whose ints are f -/
def ty_en (ad : Nat → Nat → Nat) (cA : Nat → ClassId) (f : Nat → Int32) (a i : Nat) : va_E := match ty_ki a i with
  | .inl (ci, fl) => .inr (ci, ty_fs ad f i 0 fl)
  | .inr (t, n, none) => .inl (cA t, n, .inl f)
  | .inr (t, n, some b) => .inl (cA t, n, .inr (.inr (.inr (.inr fun j => some (ad b j)))))
def ty_up (σ : ty_St) (a i j : Nat) (x : Int32) : ty_St := fun a' i' => if a' = a ∧ i' = i then upd (σ a i) j x else σ a' i'
def ty_H (cn : Nat → Nat) (D : va_G) (ad : Nat → Nat → Nat) (cA : Nat → ClassId) (σ : ty_St) (H : Heap) : Prop := ∀ a i, i < cn a → va_at D classes (ad a i, ty_en ad cA (σ a i) a i) H
def ty_J (cn : Nat → Nat) (ad : Nat → Nat → Nat) : Prop := ∀ a i a' i', i < cn a → i' < cn a' → ad a i = ad a' i' → a = a' ∧ i = i'
def ty_A (cn : Nat → Nat) (ad : Nat → Nat → Nat) : Nat → Prop := fun q => ∃ a i, i < cn a ∧ q = ad a i
def ty_okv (cn : Nat → Nat) : ty_SV → Prop
  | .inl _ => True
  | .inr q => q.2 < cn q.1
theorem ty_H.set {cn : Nat → Nat} {D : va_G} {ad : Nat → Nat → Nat} {cA : Nat → ClassId} {σ : ty_St} {H H1 : Heap} {a i j : Nat} {x : Int32} (hH : ty_H cn D ad cA σ H) (hJ : ty_J cn ad) (hi : i < cn a) (h1 : va_at D classes (ad a i, ty_en ad cA (upd (σ a i) j x) a i) H1) (oq : ∀ q : Nat, q < H.size → q ≠ ad a i → H1[q]? = H[q]?) : ty_H cn D ad cA (ty_up σ a i j x) H1 := by
  intro a' i' hi'
  by_cases h : a' = a ∧ i' = i
  · obtain ⟨rfl, rfl⟩ := h
    have e : ty_up σ a' i' j x a' i' = upd (σ a' i') j x := by simp [ty_up]
    rw [e]; exact h1
  · have e : ty_up σ a i j x a' i' = σ a' i' := by simp only [ty_up]; exact if_neg h
    rw [e]
    have h2 := hH a' i' hi'
    refine h2.kept (oq _ h2.lt (fun q => h ?_))
    exact hJ a' i' a i hi' hi q
theorem ty_H.kept {cn : Nat → Nat} {D : va_G} {ad : Nat → Nat → Nat} {cA : Nat → ClassId} {σ : ty_St} {H H1 : Heap} (hH : ty_H cn D ad cA σ H) (oq : ∀ q : Nat, q < H.size → ty_A cn ad q → H1[q]? = H[q]?) : ty_H cn D ad cA σ H1 :=
  fun a i hi => (hH a i hi).kept (oq _ (hH a i hi).lt ⟨a, i, hi, rfl⟩)
/-- the locals -/
def ty_L (ad : Nat → Nat → Nat) (ls : Array Slot) (nL : Nat) (loc : List (Option ty_SV)) : Prop := ∃ lv : List (Nat × Value), lv_has ls nL lv ∧ ∀ i v, loc[i]? = some (some v) → (i, ty_sv ad v) ∈ lv
theorem ty_L.at {ad : Nat → Nat → Nat} {ls : Array Slot} {nL : Nat} {loc : List (Option ty_SV)} (h : ty_L ad ls nL loc) {i : Nat} {v : ty_SV} (hi : loc[i]? = some (some v)) : ls[i]? = some (.val (ty_sv ad v)) := by
  obtain ⟨lv, h1, h2⟩ := h
  exact h1.2.2 _ (h2 i v hi)
theorem ty_L.size {ad : Nat → Nat → Nat} {ls : Array Slot} {nL : Nat} {loc : List (Option ty_SV)} (h : ty_L ad ls nL loc) : ls.size = nL := h.choose_spec.1.1
theorem ty_L.put {ad : Nat → Nat → Nat} {ls : Array Slot} {nL : Nat} {loc : List (Option ty_SV)} {lv : List (Nat × Value)} {i : Nat} {v : ty_SV} (hm : ∀ j w, loc[j]? = some (some w) → (j, ty_sv ad w) ∈ lv)
    (h : lv_has ls nL ((i, ty_sv ad v) :: lv.filter (fun q => !(q.1 == i) && !(q.1 + 1 == i && q.2.category == 2)))) : ty_L ad ls nL (loc.set i (some v)) := by
  refine ⟨_, h, fun j w hj => ?_⟩
  by_cases e : j = i
  · subst e
    have hl : j < loc.length := by
      have := (List.getElem?_eq_some_iff.mp hj).1
      simpa using this
    rw [List.getElem?_set_self hl] at hj
    cases hj
    exact List.mem_cons_self
  · rw [List.getElem?_set_ne (Ne.symm e)] at hj
    refine List.mem_cons_of_mem _ (List.mem_filter.mpr ⟨hm j w hj, ?_⟩)
    simp [e, ty_cat]
def ty_okl (cn : Nat → Nat) (loc : List (Option ty_SV)) : Prop := ∀ (i : Nat) (v : ty_SV), loc[i]? = some (some v) → ty_okv cn v
def ty_oks (cn : Nat → Nat) (st : List ty_SV) : Prop := ∀ v ∈ st, ty_okv cn v
theorem ty_oks.cons {cn : Nat → Nat} {v : ty_SV} {st : List ty_SV} (hv : ty_okv cn v) (h : ty_oks cn st) : ty_oks cn (v :: st) := fun w hw => by
  rcases List.mem_cons.mp hw with e | e
  · rw [e]; exact hv
  · exact h w e
theorem ty_oks.tl {cn : Nat → Nat} {v : ty_SV} {st : List ty_SV} (h : ty_oks cn (v :: st)) : ty_oks cn st := fun w hw => h w (List.mem_cons_of_mem _ hw)
theorem ty_oks.hd {cn : Nat → Nat} {v : ty_SV} {st : List ty_SV} (h : ty_oks cn (v :: st)) : ty_okv cn v := h v List.mem_cons_self
theorem ty_okl.put {cn : Nat → Nat} {loc : List (Option ty_SV)} {i : Nat} {v : ty_SV} (h : ty_okl cn loc) (hv : ty_okv cn v) : ty_okl cn (loc.set i (some v)) := by
  intro j w hj
  by_cases e : j = i
  · subst e
    have hl : j < loc.length := by
      have := (List.getElem?_eq_some_iff.mp hj).1
      simpa using this
    rw [List.getElem?_set_self hl] at hj
    cases hj
    exact hv
  · rw [List.getElem?_set_ne (Ne.symm e)] at hj
    exact h j w hj
def ty_CX (cn : Nat → Nat) (p : Program) (s : State) (m : MethodId) (args : Array Value) (meth : Method) (c : Code) (D : va_G) (ad : Nat → Nat → Nat) (cA : Nat → ClassId) (own : String) (cc : ByteArray) (nL : Nat) : Prop :=
  p.tables.exec = Jvm.exec ∧ c.code = cc ∧ c.maxLocals = nL ∧ s.vm.findClass own = some m.cls ∧ (∀ w ∈ ty_w, w.before args s = true) ∧ va_K D classes (ty_tys cA) s ∧ ty_J cn ad ∧ (∀ a i ci fl, ty_ki a i = .inl (ci, fl) → ∀ b z, some (b, z) ∈ fl → i < cn a → z.getD i < cn b) ∧ meth.locks = false
/-- the heap may have changed in the world's cells; or: nothing has changed yet -/
def ty_Gd (cn : Nat → Nat) (ad : Nat → Nat → Nat) (s : State) : Heap → List Loc → Prop := fun H locs => va_S (ty_A cn ad) s.heap H locs
def ty_Gc (s : State) : Heap → List Loc → Prop := fun H locs => H = s.heap ∧ locs = []
def ty_V (cn : Nat → Nat) (p : Program) (l : Launch) (e : Env) (R : Room) (s : State) (m : MethodId) (args : Array Value) (below : List Frame) (meth : Method) (c : Code) (D : va_G) (ad : Nat → Nat → Nat) (cA : Nat → ClassId) (G : Heap → List Loc → Prop) (nL : Nat) (Q : State → Prop) (σ : ty_St) (loc : List (Option ty_SV)) (pc : Nat) (st : List ty_SV) : Prop :=
  ∀ (H : Heap) (locs : List Loc) (ls : Array Slot), ty_H cn D ad cA σ H → G H locs → ty_L ad ls nL loc → ty_okl cn loc → ty_oks cn st → W p l e R s m args below meth c H locs 0 0 Q (F0 m pc ls (st.map (ty_sv ad)))
theorem ty_good : ∀ w ∈ ty_w, (w.onTables && w.keeps) = true ∨ ∃ ty, w = .arrayClass ty := fun w hw => good_of_word (List.mem_filter.mp hw).2
theorem GoodIn.ty {y : MethodName} {bytes : ByteArray} {maxL : Nat} {ret : Option FieldType} {ws : List Cond} (h : ∀ w ∈ ws, w ∈ ty_w) (hc : Cond.code y bytes maxL ret ∈ ty_w) : GoodIn ty_w (ws ++ (Cond.code y bytes maxL ret :: ty_w)) := by
  have key : ∀ w ∈ ws ++ (Cond.code y bytes maxL ret :: ty_w), w ∈ ty_w := by
    intro w hw
    rcases List.mem_append.mp hw with h1 | h1
    · exact h w h1
    · rcases List.mem_cons.mp h1 with h2 | h2
      · rw [h2]; exact hc
      · exact h2
  exact fun w hw => ⟨key w hw, ty_good w (key w hw)⟩
section TYP
variable {p : Program} {l : Launch} {e : Env} {R : Room} {s : State} {m : MethodId} {args : Array Value} {below : List Frame} {meth : Method} {c : Code} {H : Heap} {locs : List Loc} {cells slots : Nat} {Q : State → Prop}
variable {cc : ByteArray} {pc : Nat} {ls : Array Slot} {rest : List Value} {D : va_G} {cl : List vw_C} {A : Nat → Prop} {a : Nat} {tys : List (ClassId × FieldType)} {H0 : Heap}
theorem ty_putS (hexec : p.tables.exec = Jvm.exec) (hb : c.code = cc) {own ref C : String} {T : u_T} {N ci index : Nat} {Ts : List Cond} (hts : ∀ w ∈ Ts, w.before args s = true) (hin : ∀ w ∈ u_ws C T N, w ∈ Ts) (ty0 : Nat → FieldType) (hty : ∀ k, k < N → parseFieldDescriptor (T k).2.2.1 = some (ty0 k)) (hnm : ∀ a, a < N → ∀ b, b < N → a ≠ b → (T a).2.1 ≠ (T b).2.1) (hown : s.vm.findClass own = some m.cls) (hK : va_K D cl tys s) {fs : List Value} (hat : va_at D cl (a, .inr (ci, fs)) H) (hS0 : va_S A H0 H locs) (hAa : A a) (hc : cl[ci]? = some (C, T, N)) (k : Nat) (hk : k < N) (hlink : (Cond.fieldLink own index ref (T k).2.1 (T k).2.2.1).before args s = true) (hsame : ∀ x, s.fieldFound? (T k).1 (T k).2.1 (T k).2.2.1 = some x → s.fieldFound? ref (T k).2.1 (T k).2.2.1 = some x) (hfin : (T k).2.2.2 = false) {ty : FieldType} {v : Value} (hd : parseFieldDescriptor (T k).2.2.1 = some ty) (hn : narrow ty v = v) (hfit : fits ty v = true) (hl : k < fs.length)
    (hdg : decode cc pc = .ok (.putfield index, 3)) (kk : ∀ (H1 : Heap) (locs1 : List Loc), va_at D cl (a, .inr (ci, fs.set k v)) H1 → (∀ q : Nat, q ≠ a → H1[q]? = H[q]?) → va_S A H0 H1 locs1 → W p l e R s m args below meth c H1 locs1 cells slots Q (F0 m (pc + 3) ls rest)) : W p l e R s m args below meth c H locs cells slots Q (F0 m pc ls (v :: .ref a :: rest)) := by
  have hap := va_apart (own := own) hts hin ty0 hty hnm hK hc
  obtain ⟨r, h1, cell, q1, q2, q3, q4⟩ := hat
  have hr : r = (C, T, N) := Option.some.inj (h1.symm.trans hc)
  subst hr
  obtain ⟨hS, hfc, kC, hkC, hkind⟩ := hK.1 ci _ hc
  obtain ⟨cf, kf, fi, f, hi, hsl⟩ := hS k hk
  have hlay := hts _ (hin _ (u_in_lay hk))
  unfold u_lay at hlay
  rw [if_neg (by rw [hfin]; decide)] at hlay
  have hst := (u_facts hfc hkC (u_lays hts hin hk) hi).1
  have h6 := u_store hfc hkC hkind hlay hi hd hn hfit
  refine W.putK hexec hb (f := f) ⟨hown, hlink, ⟨_, _, _, hsame _ hi⟩, hst⟩ (by rw [q2]; exact h6) q1 q3 (by rw [hsl]; exact k2_hasslot (q4 k hk)) rfl rfl hdg fun H' e1 e2 e3 => ?_
  rw [hsl] at e1 ⊢
  exact kk H' _ ⟨_, hc, t_OB.to (V := updV (vp_V fs) k v) ⟨_, e1, q2, q3, t_set q4 hap hk v⟩ (fun j _ => vp_updV_set hl v j)⟩ e3 (hS0.put e2 e3 hAa)
theorem ty_len {ad : Nat → Nat → Nat} {st : List ty_SV} : ((st.map (ty_sv ad)).map fun v => v.category).sum = st.length := by
  induction st with
  | nil => rfl
  | cons v r ih => simp [ty_cat] at ih ⊢; omega
theorem ty_one {D : va_G} {cl : List vw_C} {q : Nat × va_E} {H : Heap} (h : va_at D cl q H) : va_P D cl [q] H := by
  intro n x hx
  have hn : n < 1 := (List.getElem?_eq_some_iff.mp hx).1
  rw [show n = 0 by omega] at hx
  cases hx
  exact h
end TYP
section TYV
variable {cn : Nat → Nat} {p : Program} {l : Launch} {e : Env} {R : Room} {s : State} {m : MethodId} {args : Array Value} {below : List Frame} {meth : Method} {c : Code} {D : va_G} {ad : Nat → Nat → Nat} {cA : Nat → ClassId} {G : Heap → List Loc → Prop} {nL : Nat} {Q : State → Prop} {own : String} {cc : ByteArray} {σ : ty_St} {loc : List (Option ty_SV)} {pc : Nat} {st : List ty_SV}
theorem v_iconst (C : ty_CX cn p s m args meth c D ad cA own cc nL) {n : Int} {v : Int32} (d : decode cc pc = .ok (.iconst n, 1)) (hv : Int32.ofInt n = v) (k : ty_V cn p l e R s m args below meth c D ad cA G nL Q σ loc (pc + 1) (.inl v :: st)) : ty_V cn p l e R s m args below meth c D ad cA G nL Q σ loc (pc) (st) := by
  intro H locs ls hH hS hL hl hs
  exact lv_iconst C.1 C.2.1 d hv (k H locs ls hH hS hL hl (ty_oks.cons trivial hs))
theorem v_bipush (C : ty_CX cn p s m args meth c D ad cA own cc nL) {n : Int} {v : Int32} (d : decode cc pc = .ok (.bipush n, 2)) (hv : (Int8.ofInt n).toInt32 = v) (k : ty_V cn p l e R s m args below meth c D ad cA G nL Q σ loc (pc + 2) (.inl v :: st)) : ty_V cn p l e R s m args below meth c D ad cA G nL Q σ loc (pc) (st) := by
  intro H locs ls hH hS hL hl hs
  exact lv_bipush C.1 C.2.1 d hv (k H locs ls hH hS hL hl (ty_oks.cons trivial hs))
theorem v_sipush (C : ty_CX cn p s m args meth c D ad cA own cc nL) {n : Int} {v : Int32} (d : decode cc pc = .ok (.sipush n, 3)) (hv : (Int16.ofInt n).toInt32 = v) (k : ty_V cn p l e R s m args below meth c D ad cA G nL Q σ loc (pc + 3) (.inl v :: st)) : ty_V cn p l e R s m args below meth c D ad cA G nL Q σ loc (pc) (st) := by
  intro H locs ls hH hS hL hl hs
  exact lv_sipush C.1 C.2.1 d hv (k H locs ls hH hS hL hl (ty_oks.cons trivial hs))
theorem v_iload (C : ty_CX cn p s m args meth c D ad cA own cc nL) {i : Nat} {x : Int32} (d : decode cc pc = .ok (.iload i, 2)) (h : loc[i]? = some (some (.inl x))) (k : ty_V cn p l e R s m args below meth c D ad cA G nL Q σ loc (pc + 2) (.inl x :: st)) : ty_V cn p l e R s m args below meth c D ad cA G nL Q σ loc (pc) (st) := by
  intro H locs ls hH hS hL hl hs
  exact lv_iload C.1 C.2.1 d (hL.at h) (k H locs ls hH hS hL hl (ty_oks.cons (hl _ _ h) hs))
theorem v_iload_n (C : ty_CX cn p s m args meth c D ad cA own cc nL) {j : Fin 4} {i : Nat} {x : Int32} (d : decode cc pc = .ok (.iload_n j, 1)) (hi : (j : Nat) = i) (h : loc[i]? = some (some (.inl x))) (k : ty_V cn p l e R s m args below meth c D ad cA G nL Q σ loc (pc + 1) (.inl x :: st)) : ty_V cn p l e R s m args below meth c D ad cA G nL Q σ loc (pc) (st) := by
  intro H locs ls hH hS hL hl hs
  exact lv_iload_n C.1 C.2.1 d hi (hL.at h) (k H locs ls hH hS hL hl (ty_oks.cons (hl _ _ h) hs))
theorem v_aload (C : ty_CX cn p s m args meth c D ad cA own cc nL) {i : Nat} {x : Nat × Nat} (d : decode cc pc = .ok (.aload i, 2)) (h : loc[i]? = some (some (.inr x))) (k : ty_V cn p l e R s m args below meth c D ad cA G nL Q σ loc (pc + 2) (.inr x :: st)) : ty_V cn p l e R s m args below meth c D ad cA G nL Q σ loc (pc) (st) := by
  intro H locs ls hH hS hL hl hs
  exact lv_aload C.1 C.2.1 d (hL.at h) (k H locs ls hH hS hL hl (ty_oks.cons (hl _ _ h) hs))
theorem v_aload_n (C : ty_CX cn p s m args meth c D ad cA own cc nL) {j : Fin 4} {i : Nat} {x : Nat × Nat} (d : decode cc pc = .ok (.aload_n j, 1)) (hi : (j : Nat) = i) (h : loc[i]? = some (some (.inr x))) (k : ty_V cn p l e R s m args below meth c D ad cA G nL Q σ loc (pc + 1) (.inr x :: st)) : ty_V cn p l e R s m args below meth c D ad cA G nL Q σ loc (pc) (st) := by
  intro H locs ls hH hS hL hl hs
  exact lv_aload_n C.1 C.2.1 d hi (hL.at h) (k H locs ls hH hS hL hl (ty_oks.cons (hl _ _ h) hs))
theorem v_istore (C : ty_CX cn p s m args meth c D ad cA own cc nL) {i : Nat} {x : Int32} (d : decode cc pc = .ok (.istore i, 2)) (hn : i < nL) (k : ty_V cn p l e R s m args below meth c D ad cA G nL Q σ (loc.set i (some (.inl x))) (pc + 2) (st)) : ty_V cn p l e R s m args below meth c D ad cA G nL Q σ loc (pc) (.inl x :: st) := by
  intro H locs ls hH hS hL hl hs
  obtain ⟨lv, h1, h2⟩ := hL
  exact lv_istore C.1 C.2.1 d h1 hn rfl (fun ls' h' => k H locs ls' hH hS (ty_L.put (v := .inl x) h2 h') (hl.put hs.hd) hs.tl)
theorem v_istore_n (C : ty_CX cn p s m args meth c D ad cA own cc nL) {j : Fin 4} {i : Nat} {x : Int32} (d : decode cc pc = .ok (.istore_n j, 1)) (hi : (j : Nat) = i) (hn : i < nL) (k : ty_V cn p l e R s m args below meth c D ad cA G nL Q σ (loc.set i (some (.inl x))) (pc + 1) (st)) : ty_V cn p l e R s m args below meth c D ad cA G nL Q σ loc (pc) (.inl x :: st) := by
  intro H locs ls hH hS hL hl hs
  obtain ⟨lv, h1, h2⟩ := hL
  exact lv_istore_n C.1 C.2.1 d hi h1 hn rfl (fun ls' h' => k H locs ls' hH hS (ty_L.put (v := .inl x) h2 h') (hl.put hs.hd) hs.tl)
theorem v_astore (C : ty_CX cn p s m args meth c D ad cA own cc nL) {i : Nat} {x : Nat × Nat} (d : decode cc pc = .ok (.astore i, 2)) (hn : i < nL) (k : ty_V cn p l e R s m args below meth c D ad cA G nL Q σ (loc.set i (some (.inr x))) (pc + 2) (st)) : ty_V cn p l e R s m args below meth c D ad cA G nL Q σ loc (pc) (.inr x :: st) := by
  intro H locs ls hH hS hL hl hs
  obtain ⟨lv, h1, h2⟩ := hL
  exact lv_astore C.1 C.2.1 d h1 hn rfl (fun ls' h' => k H locs ls' hH hS (ty_L.put (v := .inr x) h2 h') (hl.put hs.hd) hs.tl)
theorem v_astore_n (C : ty_CX cn p s m args meth c D ad cA own cc nL) {j : Fin 4} {i : Nat} {x : Nat × Nat} (d : decode cc pc = .ok (.astore_n j, 1)) (hi : (j : Nat) = i) (hn : i < nL) (k : ty_V cn p l e R s m args below meth c D ad cA G nL Q σ (loc.set i (some (.inr x))) (pc + 1) (st)) : ty_V cn p l e R s m args below meth c D ad cA G nL Q σ loc (pc) (.inr x :: st) := by
  intro H locs ls hH hS hL hl hs
  obtain ⟨lv, h1, h2⟩ := hL
  exact lv_astore_n C.1 C.2.1 d hi h1 hn rfl (fun ls' h' => k H locs ls' hH hS (ty_L.put (v := .inr x) h2 h') (hl.put hs.hd) hs.tl)
theorem v_iinc (C : ty_CX cn p s m args meth c D ad cA own cc nL) {i : Nat} {n : Int} {x v : Int32} (d : decode cc pc = .ok (.iinc i n, 3)) (h : loc[i]? = some (some (.inl x))) (hv : x + Int32.ofInt n = v) (hn : i < nL) (k : ty_V cn p l e R s m args below meth c D ad cA G nL Q σ (loc.set i (some (.inl v))) (pc + 3) (st)) : ty_V cn p l e R s m args below meth c D ad cA G nL Q σ loc (pc) (st) := by
  intro H locs ls hH hS hL hl hs
  obtain ⟨lv, h1, h2⟩ := hL
  obtain ⟨q, hq⟩ := List.getElem?_of_mem (h2 i _ h)
  exact lv_iinc C.1 C.2.1 d h1 hq hv hn rfl (fun ls' h' => k H locs ls' hH hS (ty_L.put (v := .inl v) h2 h') (hl.put trivial) hs)
theorem v_iadd (C : ty_CX cn p s m args meth c D ad cA own cc nL) {x y : Int32} (d : decode cc pc = .ok (.iadd, 1)) (k : ty_V cn p l e R s m args below meth c D ad cA G nL Q σ loc (pc + 1) (.inl (x + y) :: st)) : ty_V cn p l e R s m args below meth c D ad cA G nL Q σ loc (pc) (.inl y :: .inl x :: st) := by
  intro H locs ls hH hS hL hl hs
  exact lv_iadd C.1 C.2.1 d (k H locs ls hH hS hL hl (ty_oks.cons trivial hs.tl.tl))
theorem v_isub (C : ty_CX cn p s m args meth c D ad cA own cc nL) {x y : Int32} (d : decode cc pc = .ok (.isub, 1)) (k : ty_V cn p l e R s m args below meth c D ad cA G nL Q σ loc (pc + 1) (.inl (x - y) :: st)) : ty_V cn p l e R s m args below meth c D ad cA G nL Q σ loc (pc) (.inl y :: .inl x :: st) := by
  intro H locs ls hH hS hL hl hs
  exact lv_isub C.1 C.2.1 d (k H locs ls hH hS hL hl (ty_oks.cons trivial hs.tl.tl))
theorem v_imul (C : ty_CX cn p s m args meth c D ad cA own cc nL) {x y : Int32} (d : decode cc pc = .ok (.imul, 1)) (k : ty_V cn p l e R s m args below meth c D ad cA G nL Q σ loc (pc + 1) (.inl (x * y) :: st)) : ty_V cn p l e R s m args below meth c D ad cA G nL Q σ loc (pc) (.inl y :: .inl x :: st) := by
  intro H locs ls hH hS hL hl hs
  exact lv_imul C.1 C.2.1 d (k H locs ls hH hS hL hl (ty_oks.cons trivial hs.tl.tl))
theorem v_iand (C : ty_CX cn p s m args meth c D ad cA own cc nL) {x y : Int32} (d : decode cc pc = .ok (.iand, 1)) (k : ty_V cn p l e R s m args below meth c D ad cA G nL Q σ loc (pc + 1) (.inl (x &&& y) :: st)) : ty_V cn p l e R s m args below meth c D ad cA G nL Q σ loc (pc) (.inl y :: .inl x :: st) := by
  intro H locs ls hH hS hL hl hs
  exact lv_iand C.1 C.2.1 d (k H locs ls hH hS hL hl (ty_oks.cons trivial hs.tl.tl))
theorem v_ior (C : ty_CX cn p s m args meth c D ad cA own cc nL) {x y : Int32} (d : decode cc pc = .ok (.ior, 1)) (k : ty_V cn p l e R s m args below meth c D ad cA G nL Q σ loc (pc + 1) (.inl (x ||| y) :: st)) : ty_V cn p l e R s m args below meth c D ad cA G nL Q σ loc (pc) (.inl y :: .inl x :: st) := by
  intro H locs ls hH hS hL hl hs
  exact lv_ior C.1 C.2.1 d (k H locs ls hH hS hL hl (ty_oks.cons trivial hs.tl.tl))
theorem v_ixor (C : ty_CX cn p s m args meth c D ad cA own cc nL) {x y : Int32} (d : decode cc pc = .ok (.ixor, 1)) (k : ty_V cn p l e R s m args below meth c D ad cA G nL Q σ loc (pc + 1) (.inl (x ^^^ y) :: st)) : ty_V cn p l e R s m args below meth c D ad cA G nL Q σ loc (pc) (.inl y :: .inl x :: st) := by
  intro H locs ls hH hS hL hl hs
  exact lv_ixor C.1 C.2.1 d (k H locs ls hH hS hL hl (ty_oks.cons trivial hs.tl.tl))
theorem v_ishl (C : ty_CX cn p s m args meth c D ad cA own cc nL) {x y : Int32} (d : decode cc pc = .ok (.ishl, 1)) (k : ty_V cn p l e R s m args below meth c D ad cA G nL Q σ loc (pc + 1) (.inl (x <<< (y &&& 31)) :: st)) : ty_V cn p l e R s m args below meth c D ad cA G nL Q σ loc (pc) (.inl y :: .inl x :: st) := by
  intro H locs ls hH hS hL hl hs
  exact lv_ishl C.1 C.2.1 d (k H locs ls hH hS hL hl (ty_oks.cons trivial hs.tl.tl))
theorem v_ishr (C : ty_CX cn p s m args meth c D ad cA own cc nL) {x y : Int32} (d : decode cc pc = .ok (.ishr, 1)) (k : ty_V cn p l e R s m args below meth c D ad cA G nL Q σ loc (pc + 1) (.inl (x >>> (y &&& 31)) :: st)) : ty_V cn p l e R s m args below meth c D ad cA G nL Q σ loc (pc) (.inl y :: .inl x :: st) := by
  intro H locs ls hH hS hL hl hs
  exact lv_ishr C.1 C.2.1 d (k H locs ls hH hS hL hl (ty_oks.cons trivial hs.tl.tl))
theorem v_iushr (C : ty_CX cn p s m args meth c D ad cA own cc nL) {x y v : Int32} (d : decode cc pc = .ok (.iushr, 1)) (hv : (x.toUInt32 >>> (y.toUInt32 &&& Int32.toUInt32 31)).toInt32 = v) (k : ty_V cn p l e R s m args below meth c D ad cA G nL Q σ loc (pc + 1) (.inl v :: st)) : ty_V cn p l e R s m args below meth c D ad cA G nL Q σ loc (pc) (.inl y :: .inl x :: st) := by
  intro H locs ls hH hS hL hl hs
  exact lv_iushr C.1 C.2.1 d hv (k H locs ls hH hS hL hl (ty_oks.cons trivial hs.tl.tl))
theorem v_idiv (C : ty_CX cn p s m args meth c D ad cA own cc nL) {x y : Int32} (d : decode cc pc = .ok (.idiv, 1)) (hne : ¬ y = 0) (k : ty_V cn p l e R s m args below meth c D ad cA G nL Q σ loc (pc + 1) (.inl (x / y) :: st)) : ty_V cn p l e R s m args below meth c D ad cA G nL Q σ loc (pc) (.inl y :: .inl x :: st) := by
  intro H locs ls hH hS hL hl hs
  exact lv_idiv C.1 C.2.1 d hne (k H locs ls hH hS hL hl (ty_oks.cons trivial hs.tl.tl))
theorem v_irem (C : ty_CX cn p s m args meth c D ad cA own cc nL) {x y : Int32} (d : decode cc pc = .ok (.irem, 1)) (hne : ¬ y = 0) (k : ty_V cn p l e R s m args below meth c D ad cA G nL Q σ loc (pc + 1) (.inl (x - x / y * y) :: st)) : ty_V cn p l e R s m args below meth c D ad cA G nL Q σ loc (pc) (.inl y :: .inl x :: st) := by
  intro H locs ls hH hS hL hl hs
  exact lv_irem C.1 C.2.1 d hne (k H locs ls hH hS hL hl (ty_oks.cons trivial hs.tl.tl))
theorem v_ineg (C : ty_CX cn p s m args meth c D ad cA own cc nL) {x : Int32} (d : decode cc pc = .ok (.ineg, 1)) (k : ty_V cn p l e R s m args below meth c D ad cA G nL Q σ loc (pc + 1) (.inl (-x) :: st)) : ty_V cn p l e R s m args below meth c D ad cA G nL Q σ loc (pc) (.inl x :: st) := by
  intro H locs ls hH hS hL hl hs
  exact lv_ineg C.1 C.2.1 d (k H locs ls hH hS hL hl (ty_oks.cons trivial hs.tl))
theorem v_forget (C : ty_CX cn p s m args meth c D ad cA own cc nL) (j : Nat) (k : ty_V cn p l e R s m args below meth c D ad cA G nL Q σ (loc.set j none) (pc) (st)) : ty_V cn p l e R s m args below meth c D ad cA G nL Q σ loc (pc) (st) := by
  intro H locs ls hH hS hL hl hs
  have h0 : ∀ (i : Nat) (v : ty_SV), (loc.set j none)[i]? = some (some v) → loc[i]? = some (some v) := by
    intro i v h
    by_cases e : i = j
    · subst e
      have hl : i < loc.length := by
        have := (List.getElem?_eq_some_iff.mp h).1
        simpa using this
      rw [List.getElem?_set_self hl] at h
      cases h
    · rw [List.getElem?_set_ne (Ne.symm e)] at h
      exact h
  obtain ⟨lv, h1, h2⟩ := hL
  exact k H locs ls hH hS ⟨lv, h1, fun i v hi => h2 i v (h0 i v hi)⟩ (fun i v hi => hl i v (h0 i v hi)) hs
theorem v_clean (C : ty_CX cn p s m args meth c D ad cA own cc nL) (k : ty_V cn p l e R s m args below meth c D ad cA (ty_Gd cn ad s) nL Q σ loc (pc) (st)) : ty_V cn p l e R s m args below meth c D ad cA (ty_Gc s) nL Q σ loc (pc) (st) := by
  intro H locs ls hH hS hL hl hs
  obtain ⟨rfl, rfl⟩ := hS
  exact k s.heap [] ls hH va_S.rf hL hl hs
theorem v_dup (C : ty_CX cn p s m args meth c D ad cA own cc nL) {v : ty_SV} (d : decode cc pc = .ok (.dup, 1)) (k : ty_V cn p l e R s m args below meth c D ad cA G nL Q σ loc (pc + 1) (v :: v :: st)) : ty_V cn p l e R s m args below meth c D ad cA G nL Q σ loc (pc) (v :: st) := by
  intro H locs ls hH hS hL hl hs
  exact lv_dup C.1 C.2.1 d (ty_cat ad v) (k H locs ls hH hS hL hl (ty_oks.cons hs.hd hs))
theorem v_pop (C : ty_CX cn p s m args meth c D ad cA own cc nL) {v : ty_SV} (d : decode cc pc = .ok (.pop, 1)) (k : ty_V cn p l e R s m args below meth c D ad cA G nL Q σ loc (pc + 1) (st)) : ty_V cn p l e R s m args below meth c D ad cA G nL Q σ loc (pc) (v :: st) := by
  intro H locs ls hH hS hL hl hs
  exact lv_pop C.1 C.2.1 d (ty_cat ad v) (k H locs ls hH hS hL hl hs.tl)
theorem v_dup_x1 (C : ty_CX cn p s m args meth c D ad cA own cc nL) {v w : ty_SV} (d : decode cc pc = .ok (.dup_x1, 1)) (k : ty_V cn p l e R s m args below meth c D ad cA G nL Q σ loc (pc + 1) (v :: w :: v :: st)) : ty_V cn p l e R s m args below meth c D ad cA G nL Q σ loc (pc) (v :: w :: st) := by
  intro H locs ls hH hS hL hl hs
  exact lv_dup_x1 C.1 C.2.1 d (ty_cat ad v) (ty_cat ad w) (k H locs ls hH hS hL hl (ty_oks.cons hs.hd (ty_oks.cons hs.tl.hd (ty_oks.cons hs.hd hs.tl.tl))))
theorem v_dup_x2 (C : ty_CX cn p s m args meth c D ad cA own cc nL) {v w u : ty_SV} (d : decode cc pc = .ok (.dup_x2, 1)) (k : ty_V cn p l e R s m args below meth c D ad cA G nL Q σ loc (pc + 1) (v :: w :: u :: v :: st)) : ty_V cn p l e R s m args below meth c D ad cA G nL Q σ loc (pc) (v :: w :: u :: st) := by
  intro H locs ls hH hS hL hl hs
  exact lv_dup_x2 C.1 C.2.1 d (ty_cat ad v) (ty_cat ad w) (ty_cat ad u) (k H locs ls hH hS hL hl (ty_oks.cons hs.hd (ty_oks.cons hs.tl.hd (ty_oks.cons hs.tl.tl.hd (ty_oks.cons hs.hd hs.tl.tl.tl)))))
theorem v_dup2 (C : ty_CX cn p s m args meth c D ad cA own cc nL) {v w : ty_SV} (d : decode cc pc = .ok (.dup2, 1)) (k : ty_V cn p l e R s m args below meth c D ad cA G nL Q σ loc (pc + 1) (v :: w :: v :: w :: st)) : ty_V cn p l e R s m args below meth c D ad cA G nL Q σ loc (pc) (v :: w :: st) := by
  intro H locs ls hH hS hL hl hs
  exact lv_dup2_11 C.1 C.2.1 d (ty_cat ad v) (ty_cat ad w) (k H locs ls hH hS hL hl (ty_oks.cons hs.hd (ty_oks.cons hs.tl.hd hs)))
theorem v_if_eq (C : ty_CX cn p s m args meth c D ad cA own cc nL) {x : Int32} {off : Int} {tgt : Nat} (d : decode cc pc = .ok (.ifCond .eq off, 3)) (ht : (pc : Int) + off = (tgt : Int)) (k1 : x = 0 → ty_V cn p l e R s m args below meth c D ad cA G nL Q σ loc (tgt) (st)) (k2 : ¬ (x = 0) → ty_V cn p l e R s m args below meth c D ad cA G nL Q σ loc (pc + 3) (st)) : ty_V cn p l e R s m args below meth c D ad cA G nL Q σ loc (pc) (.inl x :: st) := by
  intro H locs ls hH hS hL hl hs
  exact lv_if_eq C.1 C.2.1 d ht (fun h => k1 h H locs ls hH hS hL hl hs.tl) (fun h => k2 h H locs ls hH hS hL hl hs.tl)
theorem v_icmp_eq (C : ty_CX cn p s m args meth c D ad cA own cc nL) {x y : Int32} {off : Int} {tgt : Nat} (d : decode cc pc = .ok (.if_icmp .eq off, 3)) (ht : (pc : Int) + off = (tgt : Int)) (k1 : x = y → ty_V cn p l e R s m args below meth c D ad cA G nL Q σ loc (tgt) (st)) (k2 : ¬ (x = y) → ty_V cn p l e R s m args below meth c D ad cA G nL Q σ loc (pc + 3) (st)) : ty_V cn p l e R s m args below meth c D ad cA G nL Q σ loc (pc) (.inl y :: .inl x :: st) := by
  intro H locs ls hH hS hL hl hs
  exact lv_icmp_eq C.1 C.2.1 d ht (fun h => k1 h H locs ls hH hS hL hl hs.tl.tl) (fun h => k2 h H locs ls hH hS hL hl hs.tl.tl)
theorem v_if_ne (C : ty_CX cn p s m args meth c D ad cA own cc nL) {x : Int32} {off : Int} {tgt : Nat} (d : decode cc pc = .ok (.ifCond .ne off, 3)) (ht : (pc : Int) + off = (tgt : Int)) (k1 : ¬ x = 0 → ty_V cn p l e R s m args below meth c D ad cA G nL Q σ loc (tgt) (st)) (k2 : x = 0 → ty_V cn p l e R s m args below meth c D ad cA G nL Q σ loc (pc + 3) (st)) : ty_V cn p l e R s m args below meth c D ad cA G nL Q σ loc (pc) (.inl x :: st) := by
  intro H locs ls hH hS hL hl hs
  exact lv_if_ne C.1 C.2.1 d ht (fun h => k1 h H locs ls hH hS hL hl hs.tl) (fun h => k2 h H locs ls hH hS hL hl hs.tl)
theorem v_icmp_ne (C : ty_CX cn p s m args meth c D ad cA own cc nL) {x y : Int32} {off : Int} {tgt : Nat} (d : decode cc pc = .ok (.if_icmp .ne off, 3)) (ht : (pc : Int) + off = (tgt : Int)) (k1 : ¬ x = y → ty_V cn p l e R s m args below meth c D ad cA G nL Q σ loc (tgt) (st)) (k2 : x = y → ty_V cn p l e R s m args below meth c D ad cA G nL Q σ loc (pc + 3) (st)) : ty_V cn p l e R s m args below meth c D ad cA G nL Q σ loc (pc) (.inl y :: .inl x :: st) := by
  intro H locs ls hH hS hL hl hs
  exact lv_icmp_ne C.1 C.2.1 d ht (fun h => k1 h H locs ls hH hS hL hl hs.tl.tl) (fun h => k2 h H locs ls hH hS hL hl hs.tl.tl)
theorem v_if_lt (C : ty_CX cn p s m args meth c D ad cA own cc nL) {x : Int32} {off : Int} {tgt : Nat} (d : decode cc pc = .ok (.ifCond .lt off, 3)) (ht : (pc : Int) + off = (tgt : Int)) (k1 : x < 0 → ty_V cn p l e R s m args below meth c D ad cA G nL Q σ loc (tgt) (st)) (k2 : ¬ (x < 0) → ty_V cn p l e R s m args below meth c D ad cA G nL Q σ loc (pc + 3) (st)) : ty_V cn p l e R s m args below meth c D ad cA G nL Q σ loc (pc) (.inl x :: st) := by
  intro H locs ls hH hS hL hl hs
  exact lv_if_lt C.1 C.2.1 d ht (fun h => k1 h H locs ls hH hS hL hl hs.tl) (fun h => k2 h H locs ls hH hS hL hl hs.tl)
theorem v_icmp_lt (C : ty_CX cn p s m args meth c D ad cA own cc nL) {x y : Int32} {off : Int} {tgt : Nat} (d : decode cc pc = .ok (.if_icmp .lt off, 3)) (ht : (pc : Int) + off = (tgt : Int)) (k1 : x < y → ty_V cn p l e R s m args below meth c D ad cA G nL Q σ loc (tgt) (st)) (k2 : ¬ (x < y) → ty_V cn p l e R s m args below meth c D ad cA G nL Q σ loc (pc + 3) (st)) : ty_V cn p l e R s m args below meth c D ad cA G nL Q σ loc (pc) (.inl y :: .inl x :: st) := by
  intro H locs ls hH hS hL hl hs
  exact lv_icmp_lt C.1 C.2.1 d ht (fun h => k1 h H locs ls hH hS hL hl hs.tl.tl) (fun h => k2 h H locs ls hH hS hL hl hs.tl.tl)
theorem v_if_ge (C : ty_CX cn p s m args meth c D ad cA own cc nL) {x : Int32} {off : Int} {tgt : Nat} (d : decode cc pc = .ok (.ifCond .ge off, 3)) (ht : (pc : Int) + off = (tgt : Int)) (k1 : 0 ≤ x → ty_V cn p l e R s m args below meth c D ad cA G nL Q σ loc (tgt) (st)) (k2 : ¬ (0 ≤ x) → ty_V cn p l e R s m args below meth c D ad cA G nL Q σ loc (pc + 3) (st)) : ty_V cn p l e R s m args below meth c D ad cA G nL Q σ loc (pc) (.inl x :: st) := by
  intro H locs ls hH hS hL hl hs
  exact lv_if_ge C.1 C.2.1 d ht (fun h => k1 h H locs ls hH hS hL hl hs.tl) (fun h => k2 h H locs ls hH hS hL hl hs.tl)
theorem v_icmp_ge (C : ty_CX cn p s m args meth c D ad cA own cc nL) {x y : Int32} {off : Int} {tgt : Nat} (d : decode cc pc = .ok (.if_icmp .ge off, 3)) (ht : (pc : Int) + off = (tgt : Int)) (k1 : y ≤ x → ty_V cn p l e R s m args below meth c D ad cA G nL Q σ loc (tgt) (st)) (k2 : ¬ (y ≤ x) → ty_V cn p l e R s m args below meth c D ad cA G nL Q σ loc (pc + 3) (st)) : ty_V cn p l e R s m args below meth c D ad cA G nL Q σ loc (pc) (.inl y :: .inl x :: st) := by
  intro H locs ls hH hS hL hl hs
  exact lv_icmp_ge C.1 C.2.1 d ht (fun h => k1 h H locs ls hH hS hL hl hs.tl.tl) (fun h => k2 h H locs ls hH hS hL hl hs.tl.tl)
theorem v_if_gt (C : ty_CX cn p s m args meth c D ad cA own cc nL) {x : Int32} {off : Int} {tgt : Nat} (d : decode cc pc = .ok (.ifCond .gt off, 3)) (ht : (pc : Int) + off = (tgt : Int)) (k1 : 0 < x → ty_V cn p l e R s m args below meth c D ad cA G nL Q σ loc (tgt) (st)) (k2 : ¬ (0 < x) → ty_V cn p l e R s m args below meth c D ad cA G nL Q σ loc (pc + 3) (st)) : ty_V cn p l e R s m args below meth c D ad cA G nL Q σ loc (pc) (.inl x :: st) := by
  intro H locs ls hH hS hL hl hs
  exact lv_if_gt C.1 C.2.1 d ht (fun h => k1 h H locs ls hH hS hL hl hs.tl) (fun h => k2 h H locs ls hH hS hL hl hs.tl)
theorem v_icmp_gt (C : ty_CX cn p s m args meth c D ad cA own cc nL) {x y : Int32} {off : Int} {tgt : Nat} (d : decode cc pc = .ok (.if_icmp .gt off, 3)) (ht : (pc : Int) + off = (tgt : Int)) (k1 : y < x → ty_V cn p l e R s m args below meth c D ad cA G nL Q σ loc (tgt) (st)) (k2 : ¬ (y < x) → ty_V cn p l e R s m args below meth c D ad cA G nL Q σ loc (pc + 3) (st)) : ty_V cn p l e R s m args below meth c D ad cA G nL Q σ loc (pc) (.inl y :: .inl x :: st) := by
  intro H locs ls hH hS hL hl hs
  exact lv_icmp_gt C.1 C.2.1 d ht (fun h => k1 h H locs ls hH hS hL hl hs.tl.tl) (fun h => k2 h H locs ls hH hS hL hl hs.tl.tl)
theorem v_if_le (C : ty_CX cn p s m args meth c D ad cA own cc nL) {x : Int32} {off : Int} {tgt : Nat} (d : decode cc pc = .ok (.ifCond .le off, 3)) (ht : (pc : Int) + off = (tgt : Int)) (k1 : x ≤ 0 → ty_V cn p l e R s m args below meth c D ad cA G nL Q σ loc (tgt) (st)) (k2 : ¬ (x ≤ 0) → ty_V cn p l e R s m args below meth c D ad cA G nL Q σ loc (pc + 3) (st)) : ty_V cn p l e R s m args below meth c D ad cA G nL Q σ loc (pc) (.inl x :: st) := by
  intro H locs ls hH hS hL hl hs
  exact lv_if_le C.1 C.2.1 d ht (fun h => k1 h H locs ls hH hS hL hl hs.tl) (fun h => k2 h H locs ls hH hS hL hl hs.tl)
theorem v_icmp_le (C : ty_CX cn p s m args meth c D ad cA own cc nL) {x y : Int32} {off : Int} {tgt : Nat} (d : decode cc pc = .ok (.if_icmp .le off, 3)) (ht : (pc : Int) + off = (tgt : Int)) (k1 : x ≤ y → ty_V cn p l e R s m args below meth c D ad cA G nL Q σ loc (tgt) (st)) (k2 : ¬ (x ≤ y) → ty_V cn p l e R s m args below meth c D ad cA G nL Q σ loc (pc + 3) (st)) : ty_V cn p l e R s m args below meth c D ad cA G nL Q σ loc (pc) (.inl y :: .inl x :: st) := by
  intro H locs ls hH hS hL hl hs
  exact lv_icmp_le C.1 C.2.1 d ht (fun h => k1 h H locs ls hH hS hL hl hs.tl.tl) (fun h => k2 h H locs ls hH hS hL hl hs.tl.tl)
theorem v_goto (C : ty_CX cn p s m args meth c D ad cA own cc nL) {off : Int} {tgt : Nat} (d : decode cc pc = .ok (.goto off, 3)) (ht : (pc : Int) + off = (tgt : Int)) (k : ty_V cn p l e R s m args below meth c D ad cA G nL Q σ loc (tgt) (st)) : ty_V cn p l e R s m args below meth c D ad cA G nL Q σ loc (pc) (st) := by
  intro H locs ls hH hS hL hl hs
  exact lv_goto C.1 C.2.1 d ht (k H locs ls hH hS hL hl hs)
theorem v_tabOut (C : ty_CX cn p s m args meth c D ad cA own cc nL) {dflt lo hi : Int} {offs : Array Int} {len : Nat} {x : Int32} {tgt : Nat} (d : decode cc pc = .ok (.tableswitch dflt lo hi offs, len)) (h : x.toInt < lo ∨ hi < x.toInt) (ht : (pc : Int) + dflt = (tgt : Int)) (k : ty_V cn p l e R s m args below meth c D ad cA G nL Q σ loc (tgt) (st)) : ty_V cn p l e R s m args below meth c D ad cA G nL Q σ loc (pc) (.inl x :: st) := by
  intro H locs ls hH hS hL hl hs
  exact lv_tableOut C.1 C.2.1 d h ht (k H locs ls hH hS hL hl hs.tl)
theorem v_tabIn (C : ty_CX cn p s m args meth c D ad cA own cc nL) {dflt lo hi : Int} {offs : Array Int} {len : Nat} {x : Int32} {off : Int} {tgt : Nat} (d : decode cc pc = .ok (.tableswitch dflt lo hi offs, len)) (h1 : ¬ x.toInt < lo) (h2 : ¬ hi < x.toInt) (ho : offs[(x.toInt - lo).toNat]? = some off) (ht : (pc : Int) + off = (tgt : Int)) (k : ty_V cn p l e R s m args below meth c D ad cA G nL Q σ loc (tgt) (st)) : ty_V cn p l e R s m args below meth c D ad cA G nL Q σ loc (pc) (.inl x :: st) := by
  intro H locs ls hH hS hL hl hs
  exact lv_tableIn C.1 C.2.1 d h1 h2 ho ht (k H locs ls hH hS hL hl hs.tl)
theorem v_lookup (C : ty_CX cn p s m args meth c D ad cA own cc nL) {dflt : Int} {ps : Array (Int × Int)} {len : Nat} {x : Int32} {off : Int} {tgt : Nat} (d : decode cc pc = .ok (.lookupswitch dflt ps, len)) (hp : (ps.toList.zip (ps.toList.drop 1)).all (fun (a, next) => a.1 < next.1) = true) (ho : Op.lookupswitch.offset ps.toList dflt x.toInt = off) (ht : (pc : Int) + off = (tgt : Int)) (k : ty_V cn p l e R s m args below meth c D ad cA G nL Q σ loc (tgt) (st)) : ty_V cn p l e R s m args below meth c D ad cA G nL Q σ loc (pc) (.inl x :: st) := by
  intro H locs ls hH hS hL hl hs
  exact lv_lookup C.1 C.2.1 d hp ho ht (k H locs ls hH hS hL hl hs.tl)
theorem ty_oksl (hlay : ∀ a i ci fl, ty_ki a i = .inl (ci, fl) → ∀ b z, some (b, z) ∈ fl → i < cn a → z.getD i < cn b) {a i k : Nat} {f : Nat → Int32} {fl : List (Option (Nat × Option Nat))} {ci : Nat} {q : Option (Nat × Option Nat)} (hki : ty_ki a i = .inl (ci, fl)) (hq : fl[k]? = some q) (hi : i < cn a) : ty_okv cn (ty_sl f i k q) := by
  match q with
  | none => trivial
  | some (b, none) => exact hlay a i ci fl hki b none (List.mem_of_getElem? hq) hi
  | some (b, some z) => exact hlay a i ci fl hki b (some z) (List.mem_of_getElem? hq) hi
theorem v_get (C : ty_CX cn p s m args meth c D ad cA own cc nL) {a i k idx ci N : Nat} {fl : List (Option (Nat × Option Nat))} {q : Option (Nat × Option Nat)} {Cn ref : String} {T : u_T} (hki : ty_ki a i = .inl (ci, fl)) (hq : fl[k]? = some q) (hcl : classes[ci]? = some (Cn, T, N)) (hkN : k < N) (hin : ∀ w ∈ u_ws Cn T N, w ∈ ty_w) (hlk : Cond.fieldLink own idx ref (T k).2.1 (T k).2.2.1 ∈ ty_w) (href : (T k).1 = ref) (d : decode cc pc = .ok (.getfield idx, 3)) (kk : ty_V cn p l e R s m args below meth c D ad cA G nL Q σ loc (pc + 3) (ty_sl (σ a i) i k q :: st)) : ty_V cn p l e R s m args below meth c D ad cA G nL Q σ loc (pc) (.inr (a, i) :: st) := by
  intro H locs ls hH hS hL hl hs
  have hi : i < cn a := hs.hd
  have he : ty_en ad cA (σ a i) a i = .inr (ci, ty_fs ad (σ a i) i 0 fl) := by unfold ty_en; rw [hki]
  have hP : va_P D classes [(ad a i, .inr (ci, ty_fs ad (σ a i) i 0 fl))] H := ty_one (by rw [← he]; exact hH a i hi)
  have hv := ty_fs_get ad (σ a i) i fl 0 k q hq
  rw [Nat.zero_add] at hv
  exact va_get (ws := [(ad a i, .inr (ci, ty_fs ad (σ a i) i 0 fl))]) C.1 C.2.1 C.2.2.2.2.1 hin C.2.2.2.1 C.2.2.2.2.2.1 hP 0 rfl hcl k hkN (C.2.2.2.2.1 _ hlk) (fun x hx => by rw [← href]; exact hx) hv d (kk H locs ls hH hS hL hl (ty_oks.cons (ty_oksl C.2.2.2.2.2.2.2.1 hki hq hi) hs.tl))
theorem v_put (C : ty_CX cn p s m args meth c D ad cA own cc nL) {a i k idx ci N : Nat} {x : Int32} {fl : List (Option (Nat × Option Nat))} {Cn ref : String} {T : u_T} {ty0 : Nat → FieldType} {ty : FieldType} (hki : ty_ki a i = .inl (ci, fl)) (hq : fl[k]? = some none) (hcl : classes[ci]? = some (Cn, T, N)) (hkN : k < N) (hin : ∀ w ∈ u_ws Cn T N, w ∈ ty_w) (hty : ∀ k, k < N → parseFieldDescriptor (T k).2.2.1 = some (ty0 k)) (hnm : ∀ a, a < N → ∀ b, b < N → a ≠ b → (T a).2.1 ≠ (T b).2.1) (hlk : Cond.fieldLink own idx ref (T k).2.1 (T k).2.2.1 ∈ ty_w) (href : (T k).1 = ref) (hfin : (T k).2.2.2 = false) (hd : parseFieldDescriptor (T k).2.2.1 = some ty) (hn : narrow ty (.int x) = .int x) (hfit : fits ty (.int x) = true) (d : decode cc pc = .ok (.putfield idx, 3)) (kk : ty_V cn p l e R s m args below meth c D ad cA (ty_Gd cn ad s) nL Q (ty_up σ a i k x) loc (pc + 3) (st)) : ty_V cn p l e R s m args below meth c D ad cA (ty_Gd cn ad s) nL Q σ loc (pc) (.inl x :: .inr (a, i) :: st) := by
  intro H locs ls hH hS hL hl hs
  have hi : i < cn a := hs.tl.hd
  have he : ∀ f, ty_en ad cA f a i = .inr (ci, ty_fs ad f i 0 fl) := fun f => by unfold ty_en; rw [hki]
  have hP : va_at D classes (ad a i, .inr (ci, ty_fs ad (σ a i) i 0 fl)) H := by
    rw [← he]; exact hH a i hi
  have hl0 : k < (ty_fs ad (σ a i) i 0 fl).length := by rw [ty_fs_len]; exact (List.getElem?_eq_some_iff.mp hq).1
  refine ty_putS C.1 C.2.1 C.2.2.2.2.1 hin ty0 hty hnm C.2.2.2.1 C.2.2.2.2.2.1 hP hS ⟨a, i, hi, rfl⟩ hcl k hkN (C.2.2.2.2.1 _ hlk) (fun x hx => by rw [← href]; exact hx) hfin hd hn hfit hl0 d (fun H1 locs1 hP1 oq hS1 => ?_)
  have h1 : va_at D classes (ad a i, ty_en ad cA (upd (σ a i) k x) a i) H1 := by
    have h2 : va_at D classes (ad a i, .inr (ci, (ty_fs ad (σ a i) i 0 fl).set k (.int x))) H1 := hP1
    rw [ty_fs_set ad (σ a i) i x fl 0 k hq, Nat.zero_add] at h2
    rw [he]; exact h2
  exact kk H1 locs1 ls (hH.set C.2.2.2.2.2.2.1 hi h1 (fun q _ hq => oq q hq)) hS1 hL hl hs.tl.tl
theorem v_mmax (C : ty_CX cn p s m args meth c D ad cA own cc nL) {x y : Int32} {idx : Nat} (hw : Cond.methodLink own idx Lib.Math.max.name ∈ ty_w ∧ Cond.static Lib.Math.max.name ∈ ty_w ∧ Cond.initialized "java/lang/Math" ∈ ty_w ∧ Cond.code Lib.Math.max.name Lib.Math.max.code 2 (some .int) ∈ ty_w) (hf : 1 ≤ R.frames) (hlo : st.length + 13 ≤ R.locals) (d : decode cc pc = .ok (.invokestatic idx, 3)) (kk : ty_V cn p l e R s m args below meth c D ad cA G nL Q σ loc (pc + 3) (.inl (if x < y then y else x) :: st)) : ty_V cn p l e R s m args below meth c D ad cA G nL Q σ loc (pc) (.inl y :: .inl x :: st) := by
  intro H locs ls hH hS hL hl hs
  obtain ⟨hx, hb, hml, hown, hts, hK, -⟩ := id C
  have e8 : ((st.map (ty_sv ad)).map fun v => v.category).sum = st.length := ty_len
  exact va_mmax hx hb (by rw [hml, hL.size]) hown (hts _ hw.1) (hts _ hw.2.1) (hts _ hw.2.2.1) (hts _ hw.2.2.2) hf (by rw [e8]; exact hlo) (Nat.zero_le _) (Nat.zero_le _) d (kk H locs ls hH hS hL hl (ty_oks.cons trivial hs.tl.tl))
theorem v_mmin (C : ty_CX cn p s m args meth c D ad cA own cc nL) {x y : Int32} {idx : Nat} (hw : Cond.methodLink own idx Lib.Math.min.name ∈ ty_w ∧ Cond.static Lib.Math.min.name ∈ ty_w ∧ Cond.initialized "java/lang/Math" ∈ ty_w ∧ Cond.code Lib.Math.min.name Lib.Math.min.code 2 (some .int) ∈ ty_w) (hf : 1 ≤ R.frames) (hlo : st.length + 13 ≤ R.locals) (d : decode cc pc = .ok (.invokestatic idx, 3)) (kk : ty_V cn p l e R s m args below meth c D ad cA G nL Q σ loc (pc + 3) (.inl (if y < x then y else x) :: st)) : ty_V cn p l e R s m args below meth c D ad cA G nL Q σ loc (pc) (.inl y :: .inl x :: st) := by
  intro H locs ls hH hS hL hl hs
  obtain ⟨hx, hb, hml, hown, hts, hK, -⟩ := id C
  have e8 : ((st.map (ty_sv ad)).map fun v => v.category).sum = st.length := ty_len
  exact va_mmin hx hb (by rw [hml, hL.size]) hown (hts _ hw.1) (hts _ hw.2.1) (hts _ hw.2.2.1) (hts _ hw.2.2.2) hf (by rw [e8]; exact hlo) (Nat.zero_le _) (Nat.zero_le _) d (kk H locs ls hH hS hL hl (ty_oks.cons trivial hs.tl.tl))
theorem v_iaload (C : ty_CX cn p s m args meth c D ad cA own cc nL) {a i t n : Nat} {x : Int32} (hki : ty_ki a i = .inr (t, n, none)) (ht : (ty_tys cA)[t]? = some (cA t, .int)) (hin : vp_in x n) (d : decode cc pc = .ok (.iaload, 1)) (kk : ty_V cn p l e R s m args below meth c D ad cA G nL Q σ loc (pc + 1) (.inl (σ a i x.toNatClampNeg) :: st)) : ty_V cn p l e R s m args below meth c D ad cA G nL Q σ loc (pc) (.inl x :: .inr (a, i) :: st) := by
  intro H locs ls hH hS hL hl hs
  have hi : i < cn a := hs.tl.hd
  have he : ∀ f, ty_en ad cA f a i = .inl (cA t, n, .inl f) := fun f => by unfold ty_en; rw [hki]
  have hP : va_P D classes [(ad a i, .inl (cA t, n, .inl (σ a i)))] H := ty_one (by rw [← he]; exact hH a i hi)
  exact va_iald C.1 C.2.1 C.2.2.2.2.2.1 hP 0 t rfl ht hin d (kk H locs ls hH hS hL hl (ty_oks.cons trivial hs.tl.tl))
theorem v_iastore (C : ty_CX cn p s m args meth c D ad cA own cc nL) {a i t n : Nat} {x y : Int32} (hki : ty_ki a i = .inr (t, n, none)) (ht : (ty_tys cA)[t]? = some (cA t, .int)) (hin : vp_in x n) (d : decode cc pc = .ok (.iastore, 1)) (kk : ty_V cn p l e R s m args below meth c D ad cA (ty_Gd cn ad s) nL Q (ty_up σ a i x.toNatClampNeg y) loc (pc + 1) (st)) : ty_V cn p l e R s m args below meth c D ad cA (ty_Gd cn ad s) nL Q σ loc (pc) (.inl y :: .inl x :: .inr (a, i) :: st) := by
  intro H locs ls hH hS hL hl hs
  have hi : i < cn a := hs.tl.tl.hd
  have he : ∀ f, ty_en ad cA f a i = .inl (cA t, n, .inl f) := fun f => by unfold ty_en; rw [hki]
  have h0 : va_at D classes (ad a i, .inl (cA t, n, .inl (σ a i))) H := by rw [← he]; exact hH a i hi
  refine W.iast C.1 C.2.1 h0 ((C.2.2.2.2.2.1.2 t _ ht).1 n (fun j => .int (σ a i j))) (fun q => by cases q) (by show ¬ (x < 0 ∨ (arrV _ _ _).slots.size ≤ _); rw [arrV_size]; exact hin) rfl rfl d fun H1 e1 z oq => ?_
  have h1 : va_at D classes (ad a i, ty_en ad cA (upd (σ a i) x.toNatClampNeg y) a i) H1 := by
    rw [he]
    show H1[ad a i]? = some (vp_cell _ _)
    rw [e1]
    rw [vp_cell_i, vp_cell_i, arrV_store]
    congr 2
    funext q
    by_cases hq : q = x.toNatClampNeg
    · subst hq
      simp [updV, upd]
    · simp [updV, upd, hq]
  exact kk H1 _ ls (hH.set C.2.2.2.2.2.2.1 hi h1 (fun q _ hq => oq q hq)) (hS.put z oq ⟨a, i, hi, rfl⟩) hL hl hs.tl.tl.tl
theorem v_baload (C : ty_CX cn p s m args meth c D ad cA own cc nL) {a i t n : Nat} {x : Int32} (hki : ty_ki a i = .inr (t, n, none)) (ht : (ty_tys cA)[t]? = some (cA t, .boolean)) (hin : vp_in x n) (d : decode cc pc = .ok (.baload, 1)) (kk : ty_V cn p l e R s m args below meth c D ad cA G nL Q σ loc (pc + 1) (.inl (σ a i x.toNatClampNeg) :: st)) : ty_V cn p l e R s m args below meth c D ad cA G nL Q σ loc (pc) (.inl x :: .inr (a, i) :: st) := by
  intro H locs ls hH hS hL hl hs
  have hi : i < cn a := hs.tl.hd
  have he : ∀ f, ty_en ad cA f a i = .inl (cA t, n, .inl f) := fun f => by unfold ty_en; rw [hki]
  have hP : va_P D classes [(ad a i, .inl (cA t, n, .inl (σ a i)))] H := ty_one (by rw [← he]; exact hH a i hi)
  exact va_zald C.1 C.2.1 C.2.2.2.2.2.1 hP 0 t rfl ht hin d (kk H locs ls hH hS hL hl (ty_oks.cons trivial hs.tl.tl))
theorem v_bastore (C : ty_CX cn p s m args meth c D ad cA own cc nL) {a i t n : Nat} {x y : Int32} (hki : ty_ki a i = .inr (t, n, none)) (ht : (ty_tys cA)[t]? = some (cA t, .boolean)) (hin : vp_in x n) (hy : narrow .boolean (.int y) = .int y) (d : decode cc pc = .ok (.bastore, 1)) (kk : ty_V cn p l e R s m args below meth c D ad cA (ty_Gd cn ad s) nL Q (ty_up σ a i x.toNatClampNeg y) loc (pc + 1) (st)) : ty_V cn p l e R s m args below meth c D ad cA (ty_Gd cn ad s) nL Q σ loc (pc) (.inl y :: .inl x :: .inr (a, i) :: st) := by
  intro H locs ls hH hS hL hl hs
  have hi : i < cn a := hs.tl.tl.hd
  have he : ∀ f, ty_en ad cA f a i = .inl (cA t, n, .inl f) := fun f => by unfold ty_en; rw [hki]
  have h0 : va_at D classes (ad a i, .inl (cA t, n, .inl (σ a i))) H := by rw [← he]; exact hH a i hi
  refine W.zast C.1 C.2.1 h0 ((C.2.2.2.2.2.1.2 t _ ht).1 n (fun j => .int (σ a i j))) (fun q => by cases q) (by show ¬ (x < 0 ∨ (arrV _ _ _).slots.size ≤ _); rw [arrV_size]; exact hin) rfl rfl d fun H1 e1 z oq => ?_
  have h1 : va_at D classes (ad a i, ty_en ad cA (upd (σ a i) x.toNatClampNeg y) a i) H1 := by
    rw [he]
    show H1[ad a i]? = some (vp_cell _ _)
    rw [e1, hy]
    rw [vp_cell_i, vp_cell_i, arrV_store]
    congr 2
    funext q
    by_cases hq : q = x.toNatClampNeg
    · subst hq
      simp [updV, upd]
    · simp [updV, upd, hq]
  exact kk H1 _ ls (hH.set C.2.2.2.2.2.2.1 hi h1 (fun q _ hq => oq q hq)) (hS.put z oq ⟨a, i, hi, rfl⟩) hL hl hs.tl.tl.tl
theorem v_aaload (C : ty_CX cn p s m args meth c D ad cA own cc nL) {a i t n b : Nat} {x : Int32} {Cn : String} (hki : ty_ki a i = .inr (t, n, some b)) (ht : (ty_tys cA)[t]? = some (cA t, .object Cn)) (hnb : n ≤ cn b) (hin : vp_in x n) (d : decode cc pc = .ok (.aaload, 1)) (kk : ty_V cn p l e R s m args below meth c D ad cA G nL Q σ loc (pc + 1) (.inr (b, x.toNatClampNeg) :: st)) : ty_V cn p l e R s m args below meth c D ad cA G nL Q σ loc (pc) (.inl x :: .inr (a, i) :: st) := by
  intro H locs ls hH hS hL hl hs
  have hi : i < cn a := hs.tl.hd
  have he : ∀ f, ty_en ad cA f a i = .inl (cA t, n, .inr (.inr (.inr (.inr fun j => some (ad b j))))) := fun f => by unfold ty_en; rw [hki]
  have hP : va_P D classes [(ad a i, .inl (cA t, n, .inr (.inr (.inr (.inr fun j => some (ad b j))))))] H := ty_one (by rw [← he (σ a i)]; exact hH a i hi)
  have hlt : x.toNatClampNeg < n := Nat.not_le.mp fun q => hin (Or.inr q)
  exact va_aldq (f := fun j => some (ad b j)) C.1 C.2.1 C.2.2.2.2.2.1 hP 0 t rfl ht hin d (kk H locs ls hH hS hL hl (ty_oks.cons (Nat.lt_of_lt_of_le hlt hnb) hs.tl.tl))
theorem v_alen (C : ty_CX cn p s m args meth c D ad cA own cc nL) {a i t n : Nat} {b : Option Nat} {ty : FieldType} {v : Int32} (hki : ty_ki a i = .inr (t, n, b)) (ht : (ty_tys cA)[t]? = some (cA t, ty)) (hv : Int32.ofNat n = v) (d : decode cc pc = .ok (.arraylength, 1)) (kk : ty_V cn p l e R s m args below meth c D ad cA G nL Q σ loc (pc + 1) (.inl v :: st)) : ty_V cn p l e R s m args below meth c D ad cA G nL Q σ loc (pc) (.inr (a, i) :: st) := by
  intro H locs ls hH hS hL hl hs
  have hi : i < cn a := hs.hd
  obtain ⟨y, he⟩ : ∃ y : vp_A, y.1 = n ∧ ty_en ad cA (σ a i) a i = .inl (cA t, y) := by
    unfold ty_en; rw [hki]
    cases b with
    | none => exact ⟨_, rfl, rfl⟩
    | some b => exact ⟨_, rfl, rfl⟩
  have hP : va_P D classes [(ad a i, .inl (cA t, y))] H := ty_one (by rw [← he.2]; exact hH a i hi)
  exact va_alen C.1 C.2.1 C.2.2.2.2.2.1 hP 0 t rfl ht (by rw [he.1]; exact hv) d (kk H locs ls hH hS hL hl (ty_oks.cons trivial hs.tl))
end TYV

/-- the end of a method: its answer and its world -/
def ty_Q (cn : Nat → Nat) (D : va_G) (ad : Nat → Nat → Nat) (cA : Nat → ClassId) (P : Option ty_SV → ty_St → Prop) (A : Nat → Prop) : Array Value → State → Outcome → State → Prop := fun _ st oc t =>
  (∃ r σ', oc = .returned (r.map (ty_sv ad)) ∧ (∀ v, r = some v → ty_okv cn v) ∧ P r σ' ∧ ty_H cn D ad cA σ' t.heap) ∧ va_F A st t
def ty_P (cn : Nat → Nat) (D : va_G) (ad : Nat → Nat → Nat) (cA : Nat → ClassId) (σ : ty_St) (As : List ty_SV) : Array Value → State → Prop := fun v U =>
  v = (As.map (ty_sv ad)).toArray ∧ ty_H cn D ad cA σ U.heap ∧ va_K D classes (ty_tys cA) U
def ty_M (l : Launch) (y : MethodName) (ws : List Cond) (rm : Room) (cn : Nat → Nat) (D : va_G) (ad : Nat → Nat → Nat) (cA : Nat → ClassId) (As : List ty_SV) (σ : ty_St) (P : Option ty_SV → ty_St → Prop) : Prop :=
  Met l y ws rm (ty_P cn D ad cA σ As) (ty_Q cn D ad cA P (ty_A cn ad)) 0 0 (ty_A cn ad)
theorem ty_P.blind {cn : Nat → Nat} {D : va_G} {ad : Nat → Nat → Nat} {cA : Nat → ClassId} {σ : ty_St} {As : List ty_SV} : FrameBlind (ty_P cn D ad cA σ As) := by
  intro a U g mk h
  obtain ⟨h1, h2, h3⟩ := h
  exact ⟨h1, h2, va_K.moved (u := U) (U := U.calling g mk a) (Vm.Alike.refl U.vm) h3⟩

section TYC
variable {cn : Nat → Nat} {p : Program} {l : Launch} {e : Env} {R : Room} {s : State} {m : MethodId} {args : Array Value} {below : List Frame} {meth : Method} {c : Code} {D : va_G} {ad : Nat → Nat → Nat} {cA : Nat → ClassId} {G : Heap → List Loc → Prop} {nL : Nat} {Q : State → Prop} {own : String} {cc : ByteArray} {σ : ty_St} {loc : List (Option ty_SV)} {pc : Nat} {st : List ty_SV}
theorem v_ireturn (C : ty_CX cn p s m args meth c D ad cA own cc nL) {P : Option ty_SV → ty_St → Prop} {r : Int32} (hr : meth.sig.returnType = some .int) (hP : P (some (.inl r)) σ) (d : decode cc pc = .ok (.ireturn, 1)) : ty_V cn p l e R s m args below meth c D ad cA (ty_Gd cn ad s) nL (MQ below (ty_Q cn D ad cA P (ty_A cn ad)) args s 0 0 (ty_A cn ad)) σ loc pc [.inl r] := by
  intro H locs ls hH hS hL hl hs
  exact W.iret C.1 C.2.1 hr (fun t ht _ => ⟨⟨some (.inl r), σ, rfl, (fun v hv => by cases hv; trivial), hP, by rw [ht]; exact hH⟩, hS.F ht⟩) hS.2.2 d C.2.2.2.2.2.2.2.2
theorem v_zreturn (C : ty_CX cn p s m args meth c D ad cA own cc nL) {P : Option ty_SV → ty_St → Prop} {r : Int32} (hr : meth.sig.returnType = some .boolean) (hn : narrow .boolean (.int r) = .int r) (hP : P (some (.inl r)) σ) (d : decode cc pc = .ok (.ireturn, 1)) : ty_V cn p l e R s m args below meth c D ad cA (ty_Gd cn ad s) nL (MQ below (ty_Q cn D ad cA P (ty_A cn ad)) args s 0 0 (ty_A cn ad)) σ loc pc [.inl r] := by
  intro H locs ls hH hS hL hl hs
  exact W.zret C.1 C.2.1 hr hn (fun t ht _ => ⟨⟨some (.inl r), σ, rfl, (fun v hv => by cases hv; trivial), hP, by rw [ht]; exact hH⟩, hS.F ht⟩) hS.2.2 d C.2.2.2.2.2.2.2.2
theorem v_return (C : ty_CX cn p s m args meth c D ad cA own cc nL) {P : Option ty_SV → ty_St → Prop} (hr : meth.sig.returnType = none) (hP : P none σ) (d : decode cc pc = .ok (.return_, 1)) : ty_V cn p l e R s m args below meth c D ad cA (ty_Gd cn ad s) nL (MQ below (ty_Q cn D ad cA P (ty_A cn ad)) args s 0 0 (ty_A cn ad)) σ loc pc [] := by
  intro H locs ls hH hS hL hl hs
  exact W.vret C.1 C.2.1 hr (fun t ht _ => ⟨⟨none, σ, rfl, (fun v hv => by cases hv), hP, by rw [ht]; exact hH⟩, hS.F ht⟩) hS.2.2 d C.2.2.2.2.2.2.2.2
theorem ty_run (C : ty_CX cn p s m args meth c D ad cA own cc nL) {P : Option ty_SV → ty_St → Prop} {a : Array Value} {stk : List ty_SV} (hst : ty_oks cn st)
    (hr : ∀ (H : Heap) (locs : List Loc) (ls : Array Slot), ty_H cn D ad cA σ H → ty_L ad ls nL loc → va_Run p l e R s m args below meth c H locs 0 0 0 0 (F0 m pc ls (stk.map (ty_sv ad))) (st.map (ty_sv ad)) (ty_Q cn D ad cA P (ty_A cn ad) a) (ty_A cn ad))
    (kk : ∀ r σ', P r σ' → ty_V cn p l e R s m args below meth c D ad cA (ty_Gd cn ad s) nL Q σ' loc (pc + 3) (r.toList ++ st)) : ty_V cn p l e R s m args below meth c D ad cA (ty_Gd cn ad s) nL Q σ loc (pc) (stk) := by
  intro H locs ls hH hS hL hl hs
  intro T hT X
  obtain ⟨v, st₀, t, T', L, h0, X', hLL, e1, e2, ⟨⟨r, σ', hv, hok, hP, hH'⟩, hz, hk⟩, stp⟩ := hr H locs ls hH hL T hT X
  have hv2 : v = r.map (ty_sv ad) := by cases hv; rfl
  subst hv2
  rw [h0] at hz hk
  have hS' : ty_Gd cn ad s T'.heap (locs ++ L) := ⟨Nat.le_trans hS.1 (by rw [e1]; exact hz), fun q h1 h2 => by
      rw [e1, hk q (Nat.lt_of_lt_of_le h1 hS.1) (fun z => h2 z)]; exact hS.2.1 q h1 h2, fun q hq => by
      rcases List.mem_append.mp hq with h | h
      · exact hS.2.2 q h
      · exact hLL q h⟩
  obtain ⟨t2, a1, b1⟩ := kk r σ' hP T'.heap (locs ++ L) ls (by rw [e1]; exact hH') hS' hL hl (fun w hw => by
      rcases List.mem_append.mp hw with h | h
      · cases r with
        | none => simp at h
        | some z => simp at h; subst h; exact hok _ rfl
      · exact hst w h) T' rfl X'
  refine ⟨t2, stp t2 ?_, b1⟩
  have e3 : (r.toList ++ st).map (ty_sv ad) = (r.map (ty_sv ad)).toList ++ st.map (ty_sv ad) := by cases r <;> simp
  rw [e3] at a1
  exact a1
theorem ty_room {n : Nat} {ls : Array Slot} {stk : List ty_SV} (h : st.length ≤ 8) : 2 * (F0 m n ls (stk.map (ty_sv ad))).monitorRoom + ((st.map (ty_sv ad)).map fun v => v.category).sum ≤ 8 := by
  refine lv_room ?_
  rw [ty_len]; exact h
theorem v_callV (C : ty_CX cn p s m args meth c D ad cA own cc nL) {P : Option ty_SV → ty_St → Prop} {y : MethodName} {bytes : ByteArray} {maxL idx n ci : Nat} {ret : Option FieldType} {rm : Room} {a i : Nat} {As stk : List ty_SV} {fl : List (Option (Nat × Option Nat))} {q : vw_C}
    (hM : ty_M l y (Cond.code y bytes maxL ret :: ty_w) rm cn D ad cA (.inr (a, i) :: As) σ P) (hki : ty_ki a i = .inl (ci, fl)) (hcl : classes[ci]? = some q) (hy : y.cls = q.1)
    (hrc : rm.cells = 0) (hrs : rm.slots = 0) (hRf : rm.frames + 1 ≤ R.frames) (hRl : 8 + (maxL + 11) + rm.locals ≤ R.locals)
    (hw : Cond.methodLink own idx y ∈ ty_w ∧ Cond.instanceMethod y ∈ ty_w ∧ Cond.selects y.cls y y ∈ ty_w ∧ Cond.initialized y.cls ∈ ty_w ∧ Cond.code y bytes maxL ret ∈ ty_w)
    (hd : y.cls ≠ "java/lang/invoke/MethodHandle" ∧ y.cls ≠ "java/lang/invoke/VarHandle" ∧ (parseMethodDescriptor y.desc).map (fun d => d.parameters.length) = some n) (hn : As.length = n) (hstk : stk = As.reverse ++ .inr (a, i) :: st) (hst8 : st.length ≤ 8)
    (d : decode cc pc = .ok (.invokevirtual idx, 3)) (kk : ∀ r σ', P r σ' → ty_V cn p l e R s m args below meth c D ad cA (ty_Gd cn ad s) nL Q σ' loc (pc + 3) (r.toList ++ st)) : ty_V cn p l e R s m args below meth c D ad cA (ty_Gd cn ad s) nL Q σ loc (pc) (stk) := by
  intro H locs ls hH hS hL hl hs
  have hi : i < cn a := hs (.inr (a, i)) (by rw [hstk]; simp)
  have hst : ty_oks cn st := fun w hw => hs w (by rw [hstk]; simp [hw])
  refine ty_run (P := P) (a := (Value.ref (ad a i) :: As.map (ty_sv ad)).toArray) C hst (fun H locs ls hH hL => ?_) kk H locs ls hH hS hL hl hs
  obtain ⟨hx, hb, hml, hown, hts, hK, -⟩ := id C
  have cw := cwV (R := R) (own := own) (index := idx) (C := y.cls) (rm := rm) n hts (GoodIn.ty (y := y) (bytes := bytes) (maxL := maxL) (ret := ret) (ws := [.methodLink own idx y, .instanceMethod y, .selects y.cls y y, .initialized y.cls]) (by
      intro w hw'
      simp only [List.mem_cons, List.not_mem_nil, or_false] at hw'
      rcases hw' with rfl | rfl | rfl | rfl
      · exact hw.1
      · exact hw.2.1
      · exact hw.2.2.1
      · exact hw.2.2.2.1) hw.2.2.2.2) rfl hrc hrs ⟨rfl, hd⟩ ⟨hRf, hRl⟩
  refine va_runV (As := As.map (ty_sv ad)) (b := ad a i) (rest := st.map (ty_sv ad)) ⟨hx, hb, hml, hown, hts⟩ hM cw ⟨ty_P.blind, ?_, fun U hU hW => ⟨rfl, by rw [hU]; exact hH, va_K.moved hW.alike hK⟩⟩ rfl (by simpa using hn) hL.size (by rw [hstk]; simp [ty_sv]) (ty_room hst8) d ⟨Nat.zero_le _, Nat.zero_le _⟩
  have he : ty_en ad cA (σ a i) a i = .inr (ci, ty_fs ad (σ a i) i 0 fl) := by unfold ty_en; rw [hki]
  have hP1 : va_P D classes [(ad a i, .inr (ci, ty_fs ad (σ a i) i 0 fl))] H := ty_one (by rw [← he]; exact hH a i hi)
  rw [hy]
  exact va_recv hK hP1 hcl (q0 := 0) rfl
theorem v_callS (C : ty_CX cn p s m args meth c D ad cA own cc nL) {P : Option ty_SV → ty_St → Prop} {y : MethodName} {bytes : ByteArray} {maxL idx n : Nat} {ret : Option FieldType} {rm : Room} {As stk : List ty_SV}
    (hM : ty_M l y (Cond.code y bytes maxL ret :: ty_w) rm cn D ad cA As σ P)
    (hrc : rm.cells = 0) (hrs : rm.slots = 0) (hRf : rm.frames + 1 ≤ R.frames) (hRl : 8 + (maxL + 11) + rm.locals ≤ R.locals)
    (hw : Cond.methodLink own idx y ∈ ty_w ∧ Cond.static y ∈ ty_w ∧ Cond.initialized y.cls ∈ ty_w ∧ Cond.code y bytes maxL ret ∈ ty_w)
    (hd : y.cls ≠ "java/lang/invoke/MethodHandle" ∧ y.cls ≠ "java/lang/invoke/VarHandle" ∧ (parseMethodDescriptor y.desc).map (fun d => d.parameters.length) = some n) (hn : As.length = n) (hstk : stk = As.reverse ++ st) (hst8 : st.length ≤ 8)
    (d : decode cc pc = .ok (.invokestatic idx, 3)) (kk : ∀ r σ', P r σ' → ty_V cn p l e R s m args below meth c D ad cA (ty_Gd cn ad s) nL Q σ' loc (pc + 3) (r.toList ++ st)) : ty_V cn p l e R s m args below meth c D ad cA (ty_Gd cn ad s) nL Q σ loc (pc) (stk) := by
  intro H locs ls hH hS hL hl hs
  have hst : ty_oks cn st := fun w hw => hs w (by rw [hstk]; simp [hw])
  refine ty_run (P := P) (a := (As.map (ty_sv ad)).toArray) C hst (fun H locs ls hH hL => ?_) kk H locs ls hH hS hL hl hs
  obtain ⟨hx, hb, hml, hown, hts, hK, -⟩ := id C
  have cw := va_cwS (R := R) (own := own) (index := idx) (rm := rm) n hts (GoodIn.ty (y := y) (bytes := bytes) (maxL := maxL) (ret := ret) (ws := [.methodLink own idx y, .static y, .initialized y.cls]) (by
      intro w hw'
      simp only [List.mem_cons, List.not_mem_nil, or_false] at hw'
      rcases hw' with rfl | rfl | rfl
      · exact hw.1
      · exact hw.2.1
      · exact hw.2.2.1) hw.2.2.2) rfl hrc hrs hd ⟨hRf, hRl⟩
  exact va_runS (As := As.map (ty_sv ad)) (rest := st.map (ty_sv ad)) ⟨hx, hb, hml, hown, hts⟩ hM cw ⟨ty_P.blind, fun U hU hW => ⟨rfl, by rw [hU]; exact hH, va_K.moved hW.alike hK⟩⟩ rfl (by simpa using hn) hL.size (by rw [hstk]; simp) (ty_room hst8) d ⟨Nat.zero_le _, Nat.zero_le _⟩
end TYC

theorem lv_args_ty (ad : Nat → Nat → Nat) : ∀ (As : List ty_SV) (n i : Nat) (v : ty_SV), As[i]? = some v → (n + i, ty_sv ad v) ∈ lv_args n (As.map (ty_sv ad))
  | [], n, i, v, h => by simp at h
  | a :: r, n, 0, v, h => by
    have : a = v := by simpa using h
    subst this
    exact List.mem_cons_self
  | a :: r, n, i + 1, v, h => by
    have h' : r[i]? = some v := by simpa using h
    have := lv_args_ty ad r (n + 1) i v h'
    rw [show n + (i + 1) = n + 1 + i by omega]
    refine List.mem_cons_of_mem _ ?_
    rw [if_neg (by rw [ty_cat]; decide)]
    exact this
theorem lg_sl_ty (ad : Nat → Nat → Nat) (As : List ty_SV) : (lg_sl (As.map (ty_sv ad))).length = As.length := by
  induction As with
  | nil => rfl
  | cons a r ih =>
    simp only [lg_sl, List.map_cons, List.flatMap_cons] at ih ⊢
    rw [if_neg (by rw [ty_cat]; decide)]
    simp at ih ⊢
    omega
/-- A CONTRACT OUT OF ITS WALK -/
theorem ty_M.of {l : Launch} {y : MethodName} {rm : Room} {cn : Nat → Nat} {D : va_G} {ad : Nat → Nat → Nat} {cA : Nat → ClassId} {As : List ty_SV} {σ : ty_St} {P : Option ty_SV → ty_St → Prop} {cc : ByteArray} {maxL : Nat} {ret : Option FieldType}
    (hy : plainName y.cls = true) (hJ : ty_J cn ad) (hlay : ∀ a i ci fl, ty_ki a i = .inl (ci, fl) → ∀ b z, some (b, z) ∈ fl → i < cn a → z.getD i < cn b) (hok : ty_oks cn As) (hlen : As.length ≤ maxL)
    (body : ∀ (p : Program) (e : Env) (s : State) (m : MethodId) (args : Array Value) (below : List Frame) (meth : Method) (c : Code), ty_CX cn p s m args meth c D ad cA y.cls cc maxL → meth.sig.returnType = ret → meth.name = y.name →
      ty_V cn p l e rm s m args below meth c D ad cA (ty_Gd cn ad s) maxL (MQ below (ty_Q cn D ad cA P (ty_A cn ad)) args s 0 0 (ty_A cn ad)) σ (As.map some ++ List.replicate (maxL - As.length) none) 0 []) :
    ty_M l y (Cond.code y cc maxL ret :: ty_w) rm cn D ad cA As σ P := by
  refine Met.ofW (cc := cc) (maxL := maxL) (ret := ret) hy rfl ?_
  intro p e s m args below meth c s₁ B hml hv
  obtain ⟨rfl, hH, hK⟩ := hv
  have hts := atoms_spec (ws := Cond.code y cc maxL ret :: ty_w) B.pre
  have hown : s.vm.findClass y.cls = some m.cls := findClass_of_methodNamed B.named
  have C : ty_CX cn p s m (As.map (ty_sv ad)).toArray meth c D ad cA y.cls cc maxL := ⟨B.exec, B.bytes, hml, hown, fun w hw => hts w (List.mem_cons_of_mem _ hw), hK, hJ, hlay, B.notSynchronized⟩
  have hl := lv_entry (As.map (ty_sv ad)) (n := maxL) (by rw [lg_sl_ty]; exact hlen)
  rw [lg_entry_eq]
  refine body p e s m _ below meth c C B.returns (name_of_methodNamed B.named B.method).1 s.heap [] _ hH va_S.rf ⟨_, hl, fun i v hi => ?_⟩ (fun i v hi => ?_) (fun v h => by cases h)
  · have h1 : As[i]? = some v := by
      by_cases hlt : i < As.length
      · rw [List.getElem?_append_left (by simpa using hlt), List.getElem?_map] at hi
        cases hq : As[i]? with
        | none => rw [hq] at hi; cases hi
        | some z => rw [hq] at hi; cases hi; rfl
      · rw [List.getElem?_append_right (by simpa using hlt)] at hi
        have := List.eq_of_mem_replicate (List.mem_of_getElem? hi)
        cases this
    have := lv_args_ty ad As 0 i v h1
    rw [Nat.zero_add] at this
    exact this
  · have h1 : As[i]? = some v := by
      by_cases hlt : i < As.length
      · rw [List.getElem?_append_left (by simpa using hlt), List.getElem?_map] at hi
        cases hq : As[i]? with
        | none => rw [hq] at hi; cases hi
        | some z => rw [hq] at hi; cases hi; rfl
      · rw [List.getElem?_append_right (by simpa using hlt)] at hi
        have := List.eq_of_mem_replicate (List.mem_of_getElem? hi)
        cases this
    exact hok v (List.mem_of_getElem? h1)
end
section
section TYF
variable {cn : Nat → Nat} {p : Program} {l : Launch} {e : Env} {R : Room} {s : State} {m : MethodId} {args : Array Value} {below : List Frame} {meth : Method} {c : Code} {D : va_G} {ad : Nat → Nat → Nat} {cA : Nat → ClassId} {G : Heap → List Loc → Prop} {nL : Nat} {Q : State → Prop} {cc : ByteArray} {σ : ty_St} {loc : List (Option ty_SV)} {pc : Nat} {st : List ty_SV} {i : Nat} {x : Int32}
theorem gf_Yard_12 (C : ty_CX cn p s m args meth c D ad cA R_Yard cc nL) (d : decode cc pc = .ok (.getfield 12, 3)) (kk : ty_V cn p l e R s m args below meth c D ad cA G nL Q σ loc (pc + 3) (.inr (1, 0) :: st)) : ty_V cn p l e R s m args below meth c D ad cA G nL Q σ loc (pc) (.inr (0, i) :: st) := v_get C (a := 0) (ci := 0) (k := 0) (T := F_Yard) (N := 3) rfl rfl rfl (by decide) i_Yard fl_Yard_12 rfl d kk
theorem gf_Yard_16 (C : ty_CX cn p s m args meth c D ad cA R_Yard cc nL) (d : decode cc pc = .ok (.getfield 16, 3)) (kk : ty_V cn p l e R s m args below meth c D ad cA G nL Q σ loc (pc + 3) (.inl (σ 0 i 1) :: st)) : ty_V cn p l e R s m args below meth c D ad cA G nL Q σ loc (pc) (.inr (0, i) :: st) := v_get C (a := 0) (ci := 0) (k := 1) (T := F_Yard) (N := 3) rfl rfl rfl (by decide) i_Yard fl_Yard_16 rfl d kk
theorem pf_Yard_16 (C : ty_CX cn p s m args meth c D ad cA R_Yard cc nL) (d : decode cc pc = .ok (.putfield 16, 3)) (kk : ty_V cn p l e R s m args below meth c D ad cA (ty_Gd cn ad s) nL Q (ty_up σ 0 i 1 x) loc (pc + 3) (st)) : ty_V cn p l e R s m args below meth c D ad cA (ty_Gd cn ad s) nL Q σ loc (pc) (.inl x :: .inr (0, i) :: st) := v_put C (a := 0) (ci := 0) (k := 1) (T := F_Yard) (N := 3) (ty0 := t_Yard) (ty := .int) rfl rfl rfl (by decide) i_Yard t_Yard_ok n_Yard fl_Yard_16 rfl rfl (by decide +kernel) rfl rfl d kk
theorem gf_Yard_20 (C : ty_CX cn p s m args meth c D ad cA R_Yard cc nL) (d : decode cc pc = .ok (.getfield 20, 3)) (kk : ty_V cn p l e R s m args below meth c D ad cA G nL Q σ loc (pc + 3) (.inl (σ 0 i 2) :: st)) : ty_V cn p l e R s m args below meth c D ad cA G nL Q σ loc (pc) (.inr (0, i) :: st) := v_get C (a := 0) (ci := 0) (k := 2) (T := F_Yard) (N := 3) rfl rfl rfl (by decide) i_Yard fl_Yard_20 rfl d kk
theorem pf_Yard_20 (C : ty_CX cn p s m args meth c D ad cA R_Yard cc nL) (d : decode cc pc = .ok (.putfield 20, 3)) (kk : ty_V cn p l e R s m args below meth c D ad cA (ty_Gd cn ad s) nL Q (ty_up σ 0 i 2 x) loc (pc + 3) (st)) : ty_V cn p l e R s m args below meth c D ad cA (ty_Gd cn ad s) nL Q σ loc (pc) (.inl x :: .inr (0, i) :: st) := v_put C (a := 0) (ci := 0) (k := 2) (T := F_Yard) (N := 3) (ty0 := t_Yard) (ty := .int) rfl rfl rfl (by decide) i_Yard t_Yard_ok n_Yard fl_Yard_20 rfl rfl (by decide +kernel) rfl rfl d kk
theorem gf_Yard_34 (C : ty_CX cn p s m args meth c D ad cA R_Yard cc nL) (d : decode cc pc = .ok (.getfield 34, 3)) (kk : ty_V cn p l e R s m args below meth c D ad cA G nL Q σ loc (pc + 3) (.inr (11, 0) :: st)) : ty_V cn p l e R s m args below meth c D ad cA G nL Q σ loc (pc) (.inr (1, i) :: st) := v_get C (a := 1) (ci := 1) (k := 0) (T := F_Course) (N := 12) rfl rfl rfl (by decide) i_Course fl_Yard_34 rfl d kk
theorem gf_Yard_38 (C : ty_CX cn p s m args meth c D ad cA R_Yard cc nL) (d : decode cc pc = .ok (.getfield 38, 3)) (kk : ty_V cn p l e R s m args below meth c D ad cA G nL Q σ loc (pc + 3) (.inl (σ 2 i 3) :: st)) : ty_V cn p l e R s m args below meth c D ad cA G nL Q σ loc (pc) (.inr (2, i) :: st) := v_get C (a := 2) (ci := 2) (k := 3) (T := F_Program) (N := 4) rfl rfl rfl (by decide) i_Program fl_Yard_38 rfl d kk
theorem gf_Yard_50 (C : ty_CX cn p s m args meth c D ad cA R_Yard cc nL) (d : decode cc pc = .ok (.getfield 50, 3)) (kk : ty_V cn p l e R s m args below meth c D ad cA G nL Q σ loc (pc + 3) (.inr (12, 0) :: st)) : ty_V cn p l e R s m args below meth c D ad cA G nL Q σ loc (pc) (.inr (1, i) :: st) := v_get C (a := 1) (ci := 1) (k := 1) (T := F_Course) (N := 12) rfl rfl rfl (by decide) i_Course fl_Yard_50 rfl d kk
theorem gf_Yard_64 (C : ty_CX cn p s m args meth c D ad cA R_Yard cc nL) (d : decode cc pc = .ok (.getfield 64, 3)) (kk : ty_V cn p l e R s m args below meth c D ad cA G nL Q σ loc (pc + 3) (.inl (σ 3 i 4) :: st)) : ty_V cn p l e R s m args below meth c D ad cA G nL Q σ loc (pc) (.inr (3, i) :: st) := v_get C (a := 3) (ci := 3) (k := 4) (T := F_Trial) (N := 13) rfl rfl rfl (by decide) i_Trial fl_Yard_64 rfl d kk
theorem gf_Yard_67 (C : ty_CX cn p s m args meth c D ad cA R_Yard cc nL) (d : decode cc pc = .ok (.getfield 67, 3)) (kk : ty_V cn p l e R s m args below meth c D ad cA G nL Q σ loc (pc + 3) (.inl (σ 3 i 5) :: st)) : ty_V cn p l e R s m args below meth c D ad cA G nL Q σ loc (pc) (.inr (3, i) :: st) := v_get C (a := 3) (ci := 3) (k := 5) (T := F_Trial) (N := 13) rfl rfl rfl (by decide) i_Trial fl_Yard_67 rfl d kk
theorem gf_Yard_70 (C : ty_CX cn p s m args meth c D ad cA R_Yard cc nL) (d : decode cc pc = .ok (.getfield 70, 3)) (kk : ty_V cn p l e R s m args below meth c D ad cA G nL Q σ loc (pc + 3) (.inl (σ 3 i 6) :: st)) : ty_V cn p l e R s m args below meth c D ad cA G nL Q σ loc (pc) (.inr (3, i) :: st) := v_get C (a := 3) (ci := 3) (k := 6) (T := F_Trial) (N := 13) rfl rfl rfl (by decide) i_Trial fl_Yard_70 rfl d kk
theorem gf_Yard_73 (C : ty_CX cn p s m args meth c D ad cA R_Yard cc nL) (d : decode cc pc = .ok (.getfield 73, 3)) (kk : ty_V cn p l e R s m args below meth c D ad cA G nL Q σ loc (pc + 3) (.inl (σ 3 i 7) :: st)) : ty_V cn p l e R s m args below meth c D ad cA G nL Q σ loc (pc) (.inr (3, i) :: st) := v_get C (a := 3) (ci := 3) (k := 7) (T := F_Trial) (N := 13) rfl rfl rfl (by decide) i_Trial fl_Yard_73 rfl d kk
theorem gf_Yard_76 (C : ty_CX cn p s m args meth c D ad cA R_Yard cc nL) (d : decode cc pc = .ok (.getfield 76, 3)) (kk : ty_V cn p l e R s m args below meth c D ad cA G nL Q σ loc (pc + 3) (.inl (σ 3 i 8) :: st)) : ty_V cn p l e R s m args below meth c D ad cA G nL Q σ loc (pc) (.inr (3, i) :: st) := v_get C (a := 3) (ci := 3) (k := 8) (T := F_Trial) (N := 13) rfl rfl rfl (by decide) i_Trial fl_Yard_76 rfl d kk
theorem gf_Yard_79 (C : ty_CX cn p s m args meth c D ad cA R_Yard cc nL) (d : decode cc pc = .ok (.getfield 79, 3)) (kk : ty_V cn p l e R s m args below meth c D ad cA G nL Q σ loc (pc + 3) (.inl (σ 3 i 9) :: st)) : ty_V cn p l e R s m args below meth c D ad cA G nL Q σ loc (pc) (.inr (3, i) :: st) := v_get C (a := 3) (ci := 3) (k := 9) (T := F_Trial) (N := 13) rfl rfl rfl (by decide) i_Trial fl_Yard_79 rfl d kk
theorem gf_Yard_83 (C : ty_CX cn p s m args meth c D ad cA R_Yard cc nL) (d : decode cc pc = .ok (.getfield 83, 3)) (kk : ty_V cn p l e R s m args below meth c D ad cA G nL Q σ loc (pc + 3) (.inl (σ 3 i 10) :: st)) : ty_V cn p l e R s m args below meth c D ad cA G nL Q σ loc (pc) (.inr (3, i) :: st) := v_get C (a := 3) (ci := 3) (k := 10) (T := F_Trial) (N := 13) rfl rfl rfl (by decide) i_Trial fl_Yard_83 rfl d kk
theorem gf_Yard_86 (C : ty_CX cn p s m args meth c D ad cA R_Yard cc nL) (d : decode cc pc = .ok (.getfield 86, 3)) (kk : ty_V cn p l e R s m args below meth c D ad cA G nL Q σ loc (pc + 3) (.inr (5, 0) :: st)) : ty_V cn p l e R s m args below meth c D ad cA G nL Q σ loc (pc) (.inr (1, i) :: st) := v_get C (a := 1) (ci := 1) (k := 4) (T := F_Course) (N := 12) rfl rfl rfl (by decide) i_Course fl_Yard_86 rfl d kk
theorem gf_Yard_96 (C : ty_CX cn p s m args meth c D ad cA R_Yard cc nL) (d : decode cc pc = .ok (.getfield 96, 3)) (kk : ty_V cn p l e R s m args below meth c D ad cA G nL Q σ loc (pc + 3) (.inr (9, i) :: st)) : ty_V cn p l e R s m args below meth c D ad cA G nL Q σ loc (pc) (.inr (5, i) :: st) := v_get C (a := 5) (ci := 5) (k := 0) (T := F_Log) (N := 2) rfl rfl rfl (by decide) i_Log fl_Yard_96 rfl d kk
theorem gf_Yard_100 (C : ty_CX cn p s m args meth c D ad cA R_Yard cc nL) (d : decode cc pc = .ok (.getfield 100, 3)) (kk : ty_V cn p l e R s m args below meth c D ad cA G nL Q σ loc (pc + 3) (.inr (5, 1) :: st)) : ty_V cn p l e R s m args below meth c D ad cA G nL Q σ loc (pc) (.inr (1, i) :: st) := v_get C (a := 1) (ci := 1) (k := 5) (T := F_Course) (N := 12) rfl rfl rfl (by decide) i_Course fl_Yard_100 rfl d kk
theorem gf_Yard_103 (C : ty_CX cn p s m args meth c D ad cA R_Yard cc nL) (d : decode cc pc = .ok (.getfield 103, 3)) (kk : ty_V cn p l e R s m args below meth c D ad cA G nL Q σ loc (pc + 3) (.inl (σ 5 i 1) :: st)) : ty_V cn p l e R s m args below meth c D ad cA G nL Q σ loc (pc) (.inr (5, i) :: st) := v_get C (a := 5) (ci := 5) (k := 1) (T := F_Log) (N := 2) rfl rfl rfl (by decide) i_Log fl_Yard_103 rfl d kk
theorem gf_Yard_104 (C : ty_CX cn p s m args meth c D ad cA R_Yard cc nL) (d : decode cc pc = .ok (.getfield 104, 3)) (kk : ty_V cn p l e R s m args below meth c D ad cA G nL Q σ loc (pc + 3) (.inl (σ 1 i 9) :: st)) : ty_V cn p l e R s m args below meth c D ad cA G nL Q σ loc (pc) (.inr (1, i) :: st) := v_get C (a := 1) (ci := 1) (k := 9) (T := F_Course) (N := 12) rfl rfl rfl (by decide) i_Course fl_Yard_104 rfl d kk
theorem gf_Yard_107 (C : ty_CX cn p s m args meth c D ad cA R_Yard cc nL) (d : decode cc pc = .ok (.getfield 107, 3)) (kk : ty_V cn p l e R s m args below meth c D ad cA G nL Q σ loc (pc + 3) (.inl (σ 1 i 8) :: st)) : ty_V cn p l e R s m args below meth c D ad cA G nL Q σ loc (pc) (.inr (1, i) :: st) := v_get C (a := 1) (ci := 1) (k := 8) (T := F_Course) (N := 12) rfl rfl rfl (by decide) i_Course fl_Yard_107 rfl d kk
theorem gf_Yard_108 (C : ty_CX cn p s m args meth c D ad cA R_Yard cc nL) (d : decode cc pc = .ok (.getfield 108, 3)) (kk : ty_V cn p l e R s m args below meth c D ad cA G nL Q σ loc (pc + 3) (.inl (σ 1 i 10) :: st)) : ty_V cn p l e R s m args below meth c D ad cA G nL Q σ loc (pc) (.inr (1, i) :: st) := v_get C (a := 1) (ci := 1) (k := 10) (T := F_Course) (N := 12) rfl rfl rfl (by decide) i_Course fl_Yard_108 rfl d kk
theorem gf_Model_7 (C : ty_CX cn p s m args meth c D ad cA R_Model cc nL) (d : decode cc pc = .ok (.getfield 7, 3)) (kk : ty_V cn p l e R s m args below meth c D ad cA G nL Q σ loc (pc + 3) (.inl (σ 20 i 2) :: st)) : ty_V cn p l e R s m args below meth c D ad cA G nL Q σ loc (pc) (.inr (20, i) :: st) := v_get C (a := 20) (ci := 6) (k := 2) (T := F_Model) (N := 38) rfl rfl rfl (by decide) i_Model fl_Model_7 rfl d kk
theorem pf_Model_7 (C : ty_CX cn p s m args meth c D ad cA R_Model cc nL) (d : decode cc pc = .ok (.putfield 7, 3)) (kk : ty_V cn p l e R s m args below meth c D ad cA (ty_Gd cn ad s) nL Q (ty_up σ 20 i 2 x) loc (pc + 3) (st)) : ty_V cn p l e R s m args below meth c D ad cA (ty_Gd cn ad s) nL Q σ loc (pc) (.inl x :: .inr (20, i) :: st) := v_put C (a := 20) (ci := 6) (k := 2) (T := F_Model) (N := 38) (ty0 := t_Model) (ty := .int) rfl rfl rfl (by decide) i_Model t_Model_ok n_Model fl_Model_7 rfl rfl (by decide +kernel) rfl rfl d kk
theorem gf_Model_13 (C : ty_CX cn p s m args meth c D ad cA R_Model cc nL) (d : decode cc pc = .ok (.getfield 13, 3)) (kk : ty_V cn p l e R s m args below meth c D ad cA G nL Q σ loc (pc + 3) (.inr (21, 0) :: st)) : ty_V cn p l e R s m args below meth c D ad cA G nL Q σ loc (pc) (.inr (20, i) :: st) := v_get C (a := 20) (ci := 6) (k := 10) (T := F_Model) (N := 38) rfl rfl rfl (by decide) i_Model fl_Model_13 rfl d kk
theorem gf_Model_17 (C : ty_CX cn p s m args meth c D ad cA R_Model cc nL) (d : decode cc pc = .ok (.getfield 17, 3)) (kk : ty_V cn p l e R s m args below meth c D ad cA G nL Q σ loc (pc + 3) (.inr (22, 0) :: st)) : ty_V cn p l e R s m args below meth c D ad cA G nL Q σ loc (pc) (.inr (20, i) :: st) := v_get C (a := 20) (ci := 6) (k := 11) (T := F_Model) (N := 38) rfl rfl rfl (by decide) i_Model fl_Model_17 rfl d kk
theorem gf_Model_20 (C : ty_CX cn p s m args meth c D ad cA R_Model cc nL) (d : decode cc pc = .ok (.getfield 20, 3)) (kk : ty_V cn p l e R s m args below meth c D ad cA G nL Q σ loc (pc + 3) (.inr (23, 0) :: st)) : ty_V cn p l e R s m args below meth c D ad cA G nL Q σ loc (pc) (.inr (20, i) :: st) := v_get C (a := 20) (ci := 6) (k := 12) (T := F_Model) (N := 38) rfl rfl rfl (by decide) i_Model fl_Model_20 rfl d kk
theorem gf_Model_23 (C : ty_CX cn p s m args meth c D ad cA R_Model cc nL) (d : decode cc pc = .ok (.getfield 23, 3)) (kk : ty_V cn p l e R s m args below meth c D ad cA G nL Q σ loc (pc + 3) (.inr (24, 0) :: st)) : ty_V cn p l e R s m args below meth c D ad cA G nL Q σ loc (pc) (.inr (20, i) :: st) := v_get C (a := 20) (ci := 6) (k := 13) (T := F_Model) (N := 38) rfl rfl rfl (by decide) i_Model fl_Model_23 rfl d kk
theorem gf_Model_26 (C : ty_CX cn p s m args meth c D ad cA R_Model cc nL) (d : decode cc pc = .ok (.getfield 26, 3)) (kk : ty_V cn p l e R s m args below meth c D ad cA G nL Q σ loc (pc + 3) (.inr (25, 0) :: st)) : ty_V cn p l e R s m args below meth c D ad cA G nL Q σ loc (pc) (.inr (20, i) :: st) := v_get C (a := 20) (ci := 6) (k := 14) (T := F_Model) (N := 38) rfl rfl rfl (by decide) i_Model fl_Model_26 rfl d kk
theorem gf_Model_29 (C : ty_CX cn p s m args meth c D ad cA R_Model cc nL) (d : decode cc pc = .ok (.getfield 29, 3)) (kk : ty_V cn p l e R s m args below meth c D ad cA G nL Q σ loc (pc + 3) (.inr (26, 0) :: st)) : ty_V cn p l e R s m args below meth c D ad cA G nL Q σ loc (pc) (.inr (20, i) :: st) := v_get C (a := 20) (ci := 6) (k := 15) (T := F_Model) (N := 38) rfl rfl rfl (by decide) i_Model fl_Model_29 rfl d kk
theorem gf_Model_32 (C : ty_CX cn p s m args meth c D ad cA R_Model cc nL) (d : decode cc pc = .ok (.getfield 32, 3)) (kk : ty_V cn p l e R s m args below meth c D ad cA G nL Q σ loc (pc + 3) (.inr (27, 0) :: st)) : ty_V cn p l e R s m args below meth c D ad cA G nL Q σ loc (pc) (.inr (20, i) :: st) := v_get C (a := 20) (ci := 6) (k := 16) (T := F_Model) (N := 38) rfl rfl rfl (by decide) i_Model fl_Model_32 rfl d kk
theorem gf_Model_35 (C : ty_CX cn p s m args meth c D ad cA R_Model cc nL) (d : decode cc pc = .ok (.getfield 35, 3)) (kk : ty_V cn p l e R s m args below meth c D ad cA G nL Q σ loc (pc + 3) (.inr (28, 0) :: st)) : ty_V cn p l e R s m args below meth c D ad cA G nL Q σ loc (pc) (.inr (20, i) :: st) := v_get C (a := 20) (ci := 6) (k := 17) (T := F_Model) (N := 38) rfl rfl rfl (by decide) i_Model fl_Model_35 rfl d kk
theorem gf_Model_38 (C : ty_CX cn p s m args meth c D ad cA R_Model cc nL) (d : decode cc pc = .ok (.getfield 38, 3)) (kk : ty_V cn p l e R s m args below meth c D ad cA G nL Q σ loc (pc + 3) (.inr (29, 0) :: st)) : ty_V cn p l e R s m args below meth c D ad cA G nL Q σ loc (pc) (.inr (20, i) :: st) := v_get C (a := 20) (ci := 6) (k := 18) (T := F_Model) (N := 38) rfl rfl rfl (by decide) i_Model fl_Model_38 rfl d kk
theorem gf_Model_41 (C : ty_CX cn p s m args meth c D ad cA R_Model cc nL) (d : decode cc pc = .ok (.getfield 41, 3)) (kk : ty_V cn p l e R s m args below meth c D ad cA G nL Q σ loc (pc + 3) (.inr (30, 0) :: st)) : ty_V cn p l e R s m args below meth c D ad cA G nL Q σ loc (pc) (.inr (20, i) :: st) := v_get C (a := 20) (ci := 6) (k := 19) (T := F_Model) (N := 38) rfl rfl rfl (by decide) i_Model fl_Model_41 rfl d kk
theorem gf_Model_44 (C : ty_CX cn p s m args meth c D ad cA R_Model cc nL) (d : decode cc pc = .ok (.getfield 44, 3)) (kk : ty_V cn p l e R s m args below meth c D ad cA G nL Q σ loc (pc + 3) (.inr (31, 0) :: st)) : ty_V cn p l e R s m args below meth c D ad cA G nL Q σ loc (pc) (.inr (20, i) :: st) := v_get C (a := 20) (ci := 6) (k := 20) (T := F_Model) (N := 38) rfl rfl rfl (by decide) i_Model fl_Model_44 rfl d kk
theorem gf_Model_47 (C : ty_CX cn p s m args meth c D ad cA R_Model cc nL) (d : decode cc pc = .ok (.getfield 47, 3)) (kk : ty_V cn p l e R s m args below meth c D ad cA G nL Q σ loc (pc + 3) (.inr (32, 0) :: st)) : ty_V cn p l e R s m args below meth c D ad cA G nL Q σ loc (pc) (.inr (20, i) :: st) := v_get C (a := 20) (ci := 6) (k := 21) (T := F_Model) (N := 38) rfl rfl rfl (by decide) i_Model fl_Model_47 rfl d kk
theorem gf_Model_50 (C : ty_CX cn p s m args meth c D ad cA R_Model cc nL) (d : decode cc pc = .ok (.getfield 50, 3)) (kk : ty_V cn p l e R s m args below meth c D ad cA G nL Q σ loc (pc + 3) (.inr (33, 0) :: st)) : ty_V cn p l e R s m args below meth c D ad cA G nL Q σ loc (pc) (.inr (20, i) :: st) := v_get C (a := 20) (ci := 6) (k := 22) (T := F_Model) (N := 38) rfl rfl rfl (by decide) i_Model fl_Model_50 rfl d kk
theorem gf_Model_53 (C : ty_CX cn p s m args meth c D ad cA R_Model cc nL) (d : decode cc pc = .ok (.getfield 53, 3)) (kk : ty_V cn p l e R s m args below meth c D ad cA G nL Q σ loc (pc + 3) (.inr (34, 0) :: st)) : ty_V cn p l e R s m args below meth c D ad cA G nL Q σ loc (pc) (.inr (20, i) :: st) := v_get C (a := 20) (ci := 6) (k := 23) (T := F_Model) (N := 38) rfl rfl rfl (by decide) i_Model fl_Model_53 rfl d kk
theorem gf_Model_56 (C : ty_CX cn p s m args meth c D ad cA R_Model cc nL) (d : decode cc pc = .ok (.getfield 56, 3)) (kk : ty_V cn p l e R s m args below meth c D ad cA G nL Q σ loc (pc + 3) (.inr (35, 0) :: st)) : ty_V cn p l e R s m args below meth c D ad cA G nL Q σ loc (pc) (.inr (20, i) :: st) := v_get C (a := 20) (ci := 6) (k := 24) (T := F_Model) (N := 38) rfl rfl rfl (by decide) i_Model fl_Model_56 rfl d kk
theorem gf_Model_59 (C : ty_CX cn p s m args meth c D ad cA R_Model cc nL) (d : decode cc pc = .ok (.getfield 59, 3)) (kk : ty_V cn p l e R s m args below meth c D ad cA G nL Q σ loc (pc + 3) (.inr (36, 0) :: st)) : ty_V cn p l e R s m args below meth c D ad cA G nL Q σ loc (pc) (.inr (20, i) :: st) := v_get C (a := 20) (ci := 6) (k := 25) (T := F_Model) (N := 38) rfl rfl rfl (by decide) i_Model fl_Model_59 rfl d kk
theorem gf_Model_62 (C : ty_CX cn p s m args meth c D ad cA R_Model cc nL) (d : decode cc pc = .ok (.getfield 62, 3)) (kk : ty_V cn p l e R s m args below meth c D ad cA G nL Q σ loc (pc + 3) (.inr (37, 0) :: st)) : ty_V cn p l e R s m args below meth c D ad cA G nL Q σ loc (pc) (.inr (20, i) :: st) := v_get C (a := 20) (ci := 6) (k := 26) (T := F_Model) (N := 38) rfl rfl rfl (by decide) i_Model fl_Model_62 rfl d kk
theorem gf_Model_66 (C : ty_CX cn p s m args meth c D ad cA R_Model cc nL) (d : decode cc pc = .ok (.getfield 66, 3)) (kk : ty_V cn p l e R s m args below meth c D ad cA G nL Q σ loc (pc + 3) (.inr (38, 0) :: st)) : ty_V cn p l e R s m args below meth c D ad cA G nL Q σ loc (pc) (.inr (20, i) :: st) := v_get C (a := 20) (ci := 6) (k := 27) (T := F_Model) (N := 38) rfl rfl rfl (by decide) i_Model fl_Model_66 rfl d kk
theorem gf_Model_69 (C : ty_CX cn p s m args meth c D ad cA R_Model cc nL) (d : decode cc pc = .ok (.getfield 69, 3)) (kk : ty_V cn p l e R s m args below meth c D ad cA G nL Q σ loc (pc + 3) (.inr (39, 0) :: st)) : ty_V cn p l e R s m args below meth c D ad cA G nL Q σ loc (pc) (.inr (20, i) :: st) := v_get C (a := 20) (ci := 6) (k := 28) (T := F_Model) (N := 38) rfl rfl rfl (by decide) i_Model fl_Model_69 rfl d kk
theorem gf_Model_72 (C : ty_CX cn p s m args meth c D ad cA R_Model cc nL) (d : decode cc pc = .ok (.getfield 72, 3)) (kk : ty_V cn p l e R s m args below meth c D ad cA G nL Q σ loc (pc + 3) (.inr (40, 0) :: st)) : ty_V cn p l e R s m args below meth c D ad cA G nL Q σ loc (pc) (.inr (20, i) :: st) := v_get C (a := 20) (ci := 6) (k := 29) (T := F_Model) (N := 38) rfl rfl rfl (by decide) i_Model fl_Model_72 rfl d kk
theorem gf_Model_75 (C : ty_CX cn p s m args meth c D ad cA R_Model cc nL) (d : decode cc pc = .ok (.getfield 75, 3)) (kk : ty_V cn p l e R s m args below meth c D ad cA G nL Q σ loc (pc + 3) (.inr (41, 0) :: st)) : ty_V cn p l e R s m args below meth c D ad cA G nL Q σ loc (pc) (.inr (20, i) :: st) := v_get C (a := 20) (ci := 6) (k := 30) (T := F_Model) (N := 38) rfl rfl rfl (by decide) i_Model fl_Model_75 rfl d kk
theorem gf_Model_78 (C : ty_CX cn p s m args meth c D ad cA R_Model cc nL) (d : decode cc pc = .ok (.getfield 78, 3)) (kk : ty_V cn p l e R s m args below meth c D ad cA G nL Q σ loc (pc + 3) (.inr (42, 0) :: st)) : ty_V cn p l e R s m args below meth c D ad cA G nL Q σ loc (pc) (.inr (20, i) :: st) := v_get C (a := 20) (ci := 6) (k := 31) (T := F_Model) (N := 38) rfl rfl rfl (by decide) i_Model fl_Model_78 rfl d kk
theorem gf_Model_81 (C : ty_CX cn p s m args meth c D ad cA R_Model cc nL) (d : decode cc pc = .ok (.getfield 81, 3)) (kk : ty_V cn p l e R s m args below meth c D ad cA G nL Q σ loc (pc + 3) (.inr (43, 0) :: st)) : ty_V cn p l e R s m args below meth c D ad cA G nL Q σ loc (pc) (.inr (20, i) :: st) := v_get C (a := 20) (ci := 6) (k := 32) (T := F_Model) (N := 38) rfl rfl rfl (by decide) i_Model fl_Model_81 rfl d kk
theorem gf_Model_84 (C : ty_CX cn p s m args meth c D ad cA R_Model cc nL) (d : decode cc pc = .ok (.getfield 84, 3)) (kk : ty_V cn p l e R s m args below meth c D ad cA G nL Q σ loc (pc + 3) (.inr (44, 0) :: st)) : ty_V cn p l e R s m args below meth c D ad cA G nL Q σ loc (pc) (.inr (20, i) :: st) := v_get C (a := 20) (ci := 6) (k := 33) (T := F_Model) (N := 38) rfl rfl rfl (by decide) i_Model fl_Model_84 rfl d kk
theorem gf_Model_87 (C : ty_CX cn p s m args meth c D ad cA R_Model cc nL) (d : decode cc pc = .ok (.getfield 87, 3)) (kk : ty_V cn p l e R s m args below meth c D ad cA G nL Q σ loc (pc + 3) (.inr (45, 0) :: st)) : ty_V cn p l e R s m args below meth c D ad cA G nL Q σ loc (pc) (.inr (20, i) :: st) := v_get C (a := 20) (ci := 6) (k := 34) (T := F_Model) (N := 38) rfl rfl rfl (by decide) i_Model fl_Model_87 rfl d kk
theorem gf_Model_90 (C : ty_CX cn p s m args meth c D ad cA R_Model cc nL) (d : decode cc pc = .ok (.getfield 90, 3)) (kk : ty_V cn p l e R s m args below meth c D ad cA G nL Q σ loc (pc + 3) (.inr (46, 0) :: st)) : ty_V cn p l e R s m args below meth c D ad cA G nL Q σ loc (pc) (.inr (20, i) :: st) := v_get C (a := 20) (ci := 6) (k := 35) (T := F_Model) (N := 38) rfl rfl rfl (by decide) i_Model fl_Model_90 rfl d kk
theorem gf_Model_93 (C : ty_CX cn p s m args meth c D ad cA R_Model cc nL) (d : decode cc pc = .ok (.getfield 93, 3)) (kk : ty_V cn p l e R s m args below meth c D ad cA G nL Q σ loc (pc + 3) (.inr (47, 0) :: st)) : ty_V cn p l e R s m args below meth c D ad cA G nL Q σ loc (pc) (.inr (20, i) :: st) := v_get C (a := 20) (ci := 6) (k := 36) (T := F_Model) (N := 38) rfl rfl rfl (by decide) i_Model fl_Model_93 rfl d kk
theorem gf_Model_96 (C : ty_CX cn p s m args meth c D ad cA R_Model cc nL) (d : decode cc pc = .ok (.getfield 96, 3)) (kk : ty_V cn p l e R s m args below meth c D ad cA G nL Q σ loc (pc + 3) (.inr (48, 0) :: st)) : ty_V cn p l e R s m args below meth c D ad cA G nL Q σ loc (pc) (.inr (20, i) :: st) := v_get C (a := 20) (ci := 6) (k := 37) (T := F_Model) (N := 38) rfl rfl rfl (by decide) i_Model fl_Model_96 rfl d kk
theorem gf_Model_99 (C : ty_CX cn p s m args meth c D ad cA R_Model cc nL) (d : decode cc pc = .ok (.getfield 99, 3)) (kk : ty_V cn p l e R s m args below meth c D ad cA G nL Q σ loc (pc + 3) (.inl (σ 20 i 0) :: st)) : ty_V cn p l e R s m args below meth c D ad cA G nL Q σ loc (pc) (.inr (20, i) :: st) := v_get C (a := 20) (ci := 6) (k := 0) (T := F_Model) (N := 38) rfl rfl rfl (by decide) i_Model fl_Model_99 rfl d kk
theorem pf_Model_99 (C : ty_CX cn p s m args meth c D ad cA R_Model cc nL) (d : decode cc pc = .ok (.putfield 99, 3)) (kk : ty_V cn p l e R s m args below meth c D ad cA (ty_Gd cn ad s) nL Q (ty_up σ 20 i 0 x) loc (pc + 3) (st)) : ty_V cn p l e R s m args below meth c D ad cA (ty_Gd cn ad s) nL Q σ loc (pc) (.inl x :: .inr (20, i) :: st) := v_put C (a := 20) (ci := 6) (k := 0) (T := F_Model) (N := 38) (ty0 := t_Model) (ty := .int) rfl rfl rfl (by decide) i_Model t_Model_ok n_Model fl_Model_99 rfl rfl (by decide +kernel) rfl rfl d kk
theorem gf_Model_114 (C : ty_CX cn p s m args meth c D ad cA R_Model cc nL) (d : decode cc pc = .ok (.getfield 114, 3)) (kk : ty_V cn p l e R s m args below meth c D ad cA G nL Q σ loc (pc + 3) (.inl (σ 20 i 1) :: st)) : ty_V cn p l e R s m args below meth c D ad cA G nL Q σ loc (pc) (.inr (20, i) :: st) := v_get C (a := 20) (ci := 6) (k := 1) (T := F_Model) (N := 38) rfl rfl rfl (by decide) i_Model fl_Model_114 rfl d kk
theorem pf_Model_114 (C : ty_CX cn p s m args meth c D ad cA R_Model cc nL) (d : decode cc pc = .ok (.putfield 114, 3)) (kk : ty_V cn p l e R s m args below meth c D ad cA (ty_Gd cn ad s) nL Q (ty_up σ 20 i 1 x) loc (pc + 3) (st)) : ty_V cn p l e R s m args below meth c D ad cA (ty_Gd cn ad s) nL Q σ loc (pc) (.inl x :: .inr (20, i) :: st) := v_put C (a := 20) (ci := 6) (k := 1) (T := F_Model) (N := 38) (ty0 := t_Model) (ty := .int) rfl rfl rfl (by decide) i_Model t_Model_ok n_Model fl_Model_114 rfl rfl (by decide +kernel) rfl rfl d kk
theorem gf_Model_117 (C : ty_CX cn p s m args meth c D ad cA R_Model cc nL) (d : decode cc pc = .ok (.getfield 117, 3)) (kk : ty_V cn p l e R s m args below meth c D ad cA G nL Q σ loc (pc + 3) (.inl (σ 20 i 3) :: st)) : ty_V cn p l e R s m args below meth c D ad cA G nL Q σ loc (pc) (.inr (20, i) :: st) := v_get C (a := 20) (ci := 6) (k := 3) (T := F_Model) (N := 38) rfl rfl rfl (by decide) i_Model fl_Model_117 rfl d kk
theorem pf_Model_117 (C : ty_CX cn p s m args meth c D ad cA R_Model cc nL) (d : decode cc pc = .ok (.putfield 117, 3)) (kk : ty_V cn p l e R s m args below meth c D ad cA (ty_Gd cn ad s) nL Q (ty_up σ 20 i 3 x) loc (pc + 3) (st)) : ty_V cn p l e R s m args below meth c D ad cA (ty_Gd cn ad s) nL Q σ loc (pc) (.inl x :: .inr (20, i) :: st) := v_put C (a := 20) (ci := 6) (k := 3) (T := F_Model) (N := 38) (ty0 := t_Model) (ty := .int) rfl rfl rfl (by decide) i_Model t_Model_ok n_Model fl_Model_117 rfl rfl (by decide +kernel) rfl rfl d kk
theorem gf_Model_120 (C : ty_CX cn p s m args meth c D ad cA R_Model cc nL) (d : decode cc pc = .ok (.getfield 120, 3)) (kk : ty_V cn p l e R s m args below meth c D ad cA G nL Q σ loc (pc + 3) (.inl (σ 20 i 5) :: st)) : ty_V cn p l e R s m args below meth c D ad cA G nL Q σ loc (pc) (.inr (20, i) :: st) := v_get C (a := 20) (ci := 6) (k := 5) (T := F_Model) (N := 38) rfl rfl rfl (by decide) i_Model fl_Model_120 rfl d kk
theorem pf_Model_120 (C : ty_CX cn p s m args meth c D ad cA R_Model cc nL) (d : decode cc pc = .ok (.putfield 120, 3)) (kk : ty_V cn p l e R s m args below meth c D ad cA (ty_Gd cn ad s) nL Q (ty_up σ 20 i 5 x) loc (pc + 3) (st)) : ty_V cn p l e R s m args below meth c D ad cA (ty_Gd cn ad s) nL Q σ loc (pc) (.inl x :: .inr (20, i) :: st) := v_put C (a := 20) (ci := 6) (k := 5) (T := F_Model) (N := 38) (ty0 := t_Model) (ty := .int) rfl rfl rfl (by decide) i_Model t_Model_ok n_Model fl_Model_120 rfl rfl (by decide +kernel) rfl rfl d kk
theorem gf_Model_131 (C : ty_CX cn p s m args meth c D ad cA R_Model cc nL) (d : decode cc pc = .ok (.getfield 131, 3)) (kk : ty_V cn p l e R s m args below meth c D ad cA G nL Q σ loc (pc + 3) (.inl (σ 20 i 8) :: st)) : ty_V cn p l e R s m args below meth c D ad cA G nL Q σ loc (pc) (.inr (20, i) :: st) := v_get C (a := 20) (ci := 6) (k := 8) (T := F_Model) (N := 38) rfl rfl rfl (by decide) i_Model fl_Model_131 rfl d kk
theorem pf_Model_131 (C : ty_CX cn p s m args meth c D ad cA R_Model cc nL) (d : decode cc pc = .ok (.putfield 131, 3)) (kk : ty_V cn p l e R s m args below meth c D ad cA (ty_Gd cn ad s) nL Q (ty_up σ 20 i 8 x) loc (pc + 3) (st)) : ty_V cn p l e R s m args below meth c D ad cA (ty_Gd cn ad s) nL Q σ loc (pc) (.inl x :: .inr (20, i) :: st) := v_put C (a := 20) (ci := 6) (k := 8) (T := F_Model) (N := 38) (ty0 := t_Model) (ty := .int) rfl rfl rfl (by decide) i_Model t_Model_ok n_Model fl_Model_131 rfl rfl (by decide +kernel) rfl rfl d kk
theorem gf_Model_150 (C : ty_CX cn p s m args meth c D ad cA R_Model cc nL) (d : decode cc pc = .ok (.getfield 150, 3)) (kk : ty_V cn p l e R s m args below meth c D ad cA G nL Q σ loc (pc + 3) (.inl (σ 20 i 4) :: st)) : ty_V cn p l e R s m args below meth c D ad cA G nL Q σ loc (pc) (.inr (20, i) :: st) := v_get C (a := 20) (ci := 6) (k := 4) (T := F_Model) (N := 38) rfl rfl rfl (by decide) i_Model fl_Model_150 rfl d kk
theorem pf_Model_150 (C : ty_CX cn p s m args meth c D ad cA R_Model cc nL) (d : decode cc pc = .ok (.putfield 150, 3)) (kk : ty_V cn p l e R s m args below meth c D ad cA (ty_Gd cn ad s) nL Q (ty_up σ 20 i 4 x) loc (pc + 3) (st)) : ty_V cn p l e R s m args below meth c D ad cA (ty_Gd cn ad s) nL Q σ loc (pc) (.inl x :: .inr (20, i) :: st) := v_put C (a := 20) (ci := 6) (k := 4) (T := F_Model) (N := 38) (ty0 := t_Model) (ty := .int) rfl rfl rfl (by decide) i_Model t_Model_ok n_Model fl_Model_150 rfl rfl (by decide +kernel) rfl rfl d kk
theorem gf_Model_173 (C : ty_CX cn p s m args meth c D ad cA R_Model cc nL) (d : decode cc pc = .ok (.getfield 173, 3)) (kk : ty_V cn p l e R s m args below meth c D ad cA G nL Q σ loc (pc + 3) (.inl (σ 20 i 7) :: st)) : ty_V cn p l e R s m args below meth c D ad cA G nL Q σ loc (pc) (.inr (20, i) :: st) := v_get C (a := 20) (ci := 6) (k := 7) (T := F_Model) (N := 38) rfl rfl rfl (by decide) i_Model fl_Model_173 rfl d kk
theorem pf_Model_173 (C : ty_CX cn p s m args meth c D ad cA R_Model cc nL) (d : decode cc pc = .ok (.putfield 173, 3)) (kk : ty_V cn p l e R s m args below meth c D ad cA (ty_Gd cn ad s) nL Q (ty_up σ 20 i 7 x) loc (pc + 3) (st)) : ty_V cn p l e R s m args below meth c D ad cA (ty_Gd cn ad s) nL Q σ loc (pc) (.inl x :: .inr (20, i) :: st) := v_put C (a := 20) (ci := 6) (k := 7) (T := F_Model) (N := 38) (ty0 := t_Model) (ty := .int) rfl rfl rfl (by decide) i_Model t_Model_ok n_Model fl_Model_173 rfl rfl (by decide +kernel) rfl rfl d kk
theorem gf_Model_176 (C : ty_CX cn p s m args meth c D ad cA R_Model cc nL) (d : decode cc pc = .ok (.getfield 176, 3)) (kk : ty_V cn p l e R s m args below meth c D ad cA G nL Q σ loc (pc + 3) (.inl (σ 20 i 6) :: st)) : ty_V cn p l e R s m args below meth c D ad cA G nL Q σ loc (pc) (.inr (20, i) :: st) := v_get C (a := 20) (ci := 6) (k := 6) (T := F_Model) (N := 38) rfl rfl rfl (by decide) i_Model fl_Model_176 rfl d kk
theorem pf_Model_176 (C : ty_CX cn p s m args meth c D ad cA R_Model cc nL) (d : decode cc pc = .ok (.putfield 176, 3)) (kk : ty_V cn p l e R s m args below meth c D ad cA (ty_Gd cn ad s) nL Q (ty_up σ 20 i 6 x) loc (pc + 3) (st)) : ty_V cn p l e R s m args below meth c D ad cA (ty_Gd cn ad s) nL Q σ loc (pc) (.inl x :: .inr (20, i) :: st) := v_put C (a := 20) (ci := 6) (k := 6) (T := F_Model) (N := 38) (ty0 := t_Model) (ty := .int) rfl rfl rfl (by decide) i_Model t_Model_ok n_Model fl_Model_176 rfl rfl (by decide +kernel) rfl rfl d kk
theorem gf_Model_196 (C : ty_CX cn p s m args meth c D ad cA R_Model cc nL) (d : decode cc pc = .ok (.getfield 196, 3)) (kk : ty_V cn p l e R s m args below meth c D ad cA G nL Q σ loc (pc + 3) (.inl (σ 20 i 9) :: st)) : ty_V cn p l e R s m args below meth c D ad cA G nL Q σ loc (pc) (.inr (20, i) :: st) := v_get C (a := 20) (ci := 6) (k := 9) (T := F_Model) (N := 38) rfl rfl rfl (by decide) i_Model fl_Model_196 rfl d kk
theorem pf_Model_196 (C : ty_CX cn p s m args meth c D ad cA R_Model cc nL) (d : decode cc pc = .ok (.putfield 196, 3)) (kk : ty_V cn p l e R s m args below meth c D ad cA (ty_Gd cn ad s) nL Q (ty_up σ 20 i 9 x) loc (pc + 3) (st)) : ty_V cn p l e R s m args below meth c D ad cA (ty_Gd cn ad s) nL Q σ loc (pc) (.inl x :: .inr (20, i) :: st) := v_put C (a := 20) (ci := 6) (k := 9) (T := F_Model) (N := 38) (ty0 := t_Model) (ty := .int) rfl rfl rfl (by decide) i_Model t_Model_ok n_Model fl_Model_196 rfl rfl (by decide +kernel) rfl rfl d kk
theorem gf_Course_11 (C : ty_CX cn p s m args meth c D ad cA R_Course cc nL) (d : decode cc pc = .ok (.getfield 11, 3)) (kk : ty_V cn p l e R s m args below meth c D ad cA G nL Q σ loc (pc + 3) (.inr (11, 0) :: st)) : ty_V cn p l e R s m args below meth c D ad cA G nL Q σ loc (pc) (.inr (1, i) :: st) := v_get C (a := 1) (ci := 1) (k := 0) (T := F_Course) (N := 12) rfl rfl rfl (by decide) i_Course fl_Course_11 rfl d kk
theorem gf_Course_19 (C : ty_CX cn p s m args meth c D ad cA R_Course cc nL) (d : decode cc pc = .ok (.getfield 19, 3)) (kk : ty_V cn p l e R s m args below meth c D ad cA G nL Q σ loc (pc + 3) (.inr (12, 0) :: st)) : ty_V cn p l e R s m args below meth c D ad cA G nL Q σ loc (pc) (.inr (1, i) :: st) := v_get C (a := 1) (ci := 1) (k := 1) (T := F_Course) (N := 12) rfl rfl rfl (by decide) i_Course fl_Course_19 rfl d kk
theorem gf_Course_25 (C : ty_CX cn p s m args meth c D ad cA R_Course cc nL) (d : decode cc pc = .ok (.getfield 25, 3)) (kk : ty_V cn p l e R s m args below meth c D ad cA G nL Q σ loc (pc + 3) (.inr (13, 0) :: st)) : ty_V cn p l e R s m args below meth c D ad cA G nL Q σ loc (pc) (.inr (1, i) :: st) := v_get C (a := 1) (ci := 1) (k := 2) (T := F_Course) (N := 12) rfl rfl rfl (by decide) i_Course fl_Course_25 rfl d kk
theorem gf_Course_29 (C : ty_CX cn p s m args meth c D ad cA R_Course cc nL) (d : decode cc pc = .ok (.getfield 29, 3)) (kk : ty_V cn p l e R s m args below meth c D ad cA G nL Q σ loc (pc + 3) (.inr (10, 0) :: st)) : ty_V cn p l e R s m args below meth c D ad cA G nL Q σ loc (pc) (.inr (1, i) :: st) := v_get C (a := 1) (ci := 1) (k := 3) (T := F_Course) (N := 12) rfl rfl rfl (by decide) i_Course fl_Course_29 rfl d kk
theorem gf_Course_38 (C : ty_CX cn p s m args meth c D ad cA R_Course cc nL) (d : decode cc pc = .ok (.getfield 38, 3)) (kk : ty_V cn p l e R s m args below meth c D ad cA G nL Q σ loc (pc + 3) (.inr (5, 0) :: st)) : ty_V cn p l e R s m args below meth c D ad cA G nL Q σ loc (pc) (.inr (1, i) :: st) := v_get C (a := 1) (ci := 1) (k := 4) (T := F_Course) (N := 12) rfl rfl rfl (by decide) i_Course fl_Course_38 rfl d kk
theorem gf_Course_42 (C : ty_CX cn p s m args meth c D ad cA R_Course cc nL) (d : decode cc pc = .ok (.getfield 42, 3)) (kk : ty_V cn p l e R s m args below meth c D ad cA G nL Q σ loc (pc + 3) (.inr (5, 1) :: st)) : ty_V cn p l e R s m args below meth c D ad cA G nL Q σ loc (pc) (.inr (1, i) :: st) := v_get C (a := 1) (ci := 1) (k := 5) (T := F_Course) (N := 12) rfl rfl rfl (by decide) i_Course fl_Course_42 rfl d kk
theorem gf_Course_48 (C : ty_CX cn p s m args meth c D ad cA R_Course cc nL) (d : decode cc pc = .ok (.getfield 48, 3)) (kk : ty_V cn p l e R s m args below meth c D ad cA G nL Q σ loc (pc + 3) (.inl (σ 1 i 6) :: st)) : ty_V cn p l e R s m args below meth c D ad cA G nL Q σ loc (pc) (.inr (1, i) :: st) := v_get C (a := 1) (ci := 1) (k := 6) (T := F_Course) (N := 12) rfl rfl rfl (by decide) i_Course fl_Course_48 rfl d kk
theorem pf_Course_48 (C : ty_CX cn p s m args meth c D ad cA R_Course cc nL) (d : decode cc pc = .ok (.putfield 48, 3)) (kk : ty_V cn p l e R s m args below meth c D ad cA (ty_Gd cn ad s) nL Q (ty_up σ 1 i 6 x) loc (pc + 3) (st)) : ty_V cn p l e R s m args below meth c D ad cA (ty_Gd cn ad s) nL Q σ loc (pc) (.inl x :: .inr (1, i) :: st) := v_put C (a := 1) (ci := 1) (k := 6) (T := F_Course) (N := 12) (ty0 := t_Course) (ty := .int) rfl rfl rfl (by decide) i_Course t_Course_ok n_Course fl_Course_48 rfl rfl (by decide +kernel) rfl rfl d kk
theorem gf_Course_52 (C : ty_CX cn p s m args meth c D ad cA R_Course cc nL) (d : decode cc pc = .ok (.getfield 52, 3)) (kk : ty_V cn p l e R s m args below meth c D ad cA G nL Q σ loc (pc + 3) (.inl (σ 1 i 7) :: st)) : ty_V cn p l e R s m args below meth c D ad cA G nL Q σ loc (pc) (.inr (1, i) :: st) := v_get C (a := 1) (ci := 1) (k := 7) (T := F_Course) (N := 12) rfl rfl rfl (by decide) i_Course fl_Course_52 rfl d kk
theorem pf_Course_52 (C : ty_CX cn p s m args meth c D ad cA R_Course cc nL) (d : decode cc pc = .ok (.putfield 52, 3)) (kk : ty_V cn p l e R s m args below meth c D ad cA (ty_Gd cn ad s) nL Q (ty_up σ 1 i 7 x) loc (pc + 3) (st)) : ty_V cn p l e R s m args below meth c D ad cA (ty_Gd cn ad s) nL Q σ loc (pc) (.inl x :: .inr (1, i) :: st) := v_put C (a := 1) (ci := 1) (k := 7) (T := F_Course) (N := 12) (ty0 := t_Course) (ty := .int) rfl rfl rfl (by decide) i_Course t_Course_ok n_Course fl_Course_52 rfl rfl (by decide +kernel) rfl rfl d kk
theorem gf_Course_67 (C : ty_CX cn p s m args meth c D ad cA R_Course cc nL) (d : decode cc pc = .ok (.getfield 67, 3)) (kk : ty_V cn p l e R s m args below meth c D ad cA G nL Q σ loc (pc + 3) (.inl (σ 1 i 10) :: st)) : ty_V cn p l e R s m args below meth c D ad cA G nL Q σ loc (pc) (.inr (1, i) :: st) := v_get C (a := 1) (ci := 1) (k := 10) (T := F_Course) (N := 12) rfl rfl rfl (by decide) i_Course fl_Course_67 rfl d kk
theorem pf_Course_67 (C : ty_CX cn p s m args meth c D ad cA R_Course cc nL) (d : decode cc pc = .ok (.putfield 67, 3)) (kk : ty_V cn p l e R s m args below meth c D ad cA (ty_Gd cn ad s) nL Q (ty_up σ 1 i 10 x) loc (pc + 3) (st)) : ty_V cn p l e R s m args below meth c D ad cA (ty_Gd cn ad s) nL Q σ loc (pc) (.inl x :: .inr (1, i) :: st) := v_put C (a := 1) (ci := 1) (k := 10) (T := F_Course) (N := 12) (ty0 := t_Course) (ty := .int) rfl rfl rfl (by decide) i_Course t_Course_ok n_Course fl_Course_67 rfl rfl (by decide +kernel) rfl rfl d kk
theorem gf_Course_87 (C : ty_CX cn p s m args meth c D ad cA R_Course cc nL) (d : decode cc pc = .ok (.getfield 87, 3)) (kk : ty_V cn p l e R s m args below meth c D ad cA G nL Q σ loc (pc + 3) (.inl (σ 1 i 11) :: st)) : ty_V cn p l e R s m args below meth c D ad cA G nL Q σ loc (pc) (.inr (1, i) :: st) := v_get C (a := 1) (ci := 1) (k := 11) (T := F_Course) (N := 12) rfl rfl rfl (by decide) i_Course fl_Course_87 rfl d kk
theorem pf_Course_87 (C : ty_CX cn p s m args meth c D ad cA R_Course cc nL) (d : decode cc pc = .ok (.putfield 87, 3)) (kk : ty_V cn p l e R s m args below meth c D ad cA (ty_Gd cn ad s) nL Q (ty_up σ 1 i 11 x) loc (pc + 3) (st)) : ty_V cn p l e R s m args below meth c D ad cA (ty_Gd cn ad s) nL Q σ loc (pc) (.inl x :: .inr (1, i) :: st) := v_put C (a := 1) (ci := 1) (k := 11) (T := F_Course) (N := 12) (ty0 := t_Course) (ty := .int) rfl rfl rfl (by decide) i_Course t_Course_ok n_Course fl_Course_87 rfl rfl (by decide +kernel) rfl rfl d kk
theorem gf_Course_93 (C : ty_CX cn p s m args meth c D ad cA R_Course cc nL) (d : decode cc pc = .ok (.getfield 93, 3)) (kk : ty_V cn p l e R s m args below meth c D ad cA G nL Q σ loc (pc + 3) (.inl (σ 3 i 4) :: st)) : ty_V cn p l e R s m args below meth c D ad cA G nL Q σ loc (pc) (.inr (3, i) :: st) := v_get C (a := 3) (ci := 3) (k := 4) (T := F_Trial) (N := 13) rfl rfl rfl (by decide) i_Trial fl_Course_93 rfl d kk
theorem pf_Course_97 (C : ty_CX cn p s m args meth c D ad cA R_Course cc nL) (d : decode cc pc = .ok (.putfield 97, 3)) (kk : ty_V cn p l e R s m args below meth c D ad cA (ty_Gd cn ad s) nL Q (ty_up σ 5 i 1 x) loc (pc + 3) (st)) : ty_V cn p l e R s m args below meth c D ad cA (ty_Gd cn ad s) nL Q σ loc (pc) (.inl x :: .inr (5, i) :: st) := v_put C (a := 5) (ci := 5) (k := 1) (T := F_Log) (N := 2) (ty0 := t_Log) (ty := .int) rfl rfl rfl (by decide) i_Log t_Log_ok n_Log fl_Course_97 rfl rfl (by decide +kernel) rfl rfl d kk
theorem gf_Course_100 (C : ty_CX cn p s m args meth c D ad cA R_Course cc nL) (d : decode cc pc = .ok (.getfield 100, 3)) (kk : ty_V cn p l e R s m args below meth c D ad cA G nL Q σ loc (pc + 3) (.inl (σ 1 i 8) :: st)) : ty_V cn p l e R s m args below meth c D ad cA G nL Q σ loc (pc) (.inr (1, i) :: st) := v_get C (a := 1) (ci := 1) (k := 8) (T := F_Course) (N := 12) rfl rfl rfl (by decide) i_Course fl_Course_100 rfl d kk
theorem pf_Course_100 (C : ty_CX cn p s m args meth c D ad cA R_Course cc nL) (d : decode cc pc = .ok (.putfield 100, 3)) (kk : ty_V cn p l e R s m args below meth c D ad cA (ty_Gd cn ad s) nL Q (ty_up σ 1 i 8 x) loc (pc + 3) (st)) : ty_V cn p l e R s m args below meth c D ad cA (ty_Gd cn ad s) nL Q σ loc (pc) (.inl x :: .inr (1, i) :: st) := v_put C (a := 1) (ci := 1) (k := 8) (T := F_Course) (N := 12) (ty0 := t_Course) (ty := .int) rfl rfl rfl (by decide) i_Course t_Course_ok n_Course fl_Course_100 rfl rfl (by decide +kernel) rfl rfl d kk
theorem gf_Course_103 (C : ty_CX cn p s m args meth c D ad cA R_Course cc nL) (d : decode cc pc = .ok (.getfield 103, 3)) (kk : ty_V cn p l e R s m args below meth c D ad cA G nL Q σ loc (pc + 3) (.inl (σ 1 i 9) :: st)) : ty_V cn p l e R s m args below meth c D ad cA G nL Q σ loc (pc) (.inr (1, i) :: st) := v_get C (a := 1) (ci := 1) (k := 9) (T := F_Course) (N := 12) rfl rfl rfl (by decide) i_Course fl_Course_103 rfl d kk
theorem pf_Course_103 (C : ty_CX cn p s m args meth c D ad cA R_Course cc nL) (d : decode cc pc = .ok (.putfield 103, 3)) (kk : ty_V cn p l e R s m args below meth c D ad cA (ty_Gd cn ad s) nL Q (ty_up σ 1 i 9 x) loc (pc + 3) (st)) : ty_V cn p l e R s m args below meth c D ad cA (ty_Gd cn ad s) nL Q σ loc (pc) (.inl x :: .inr (1, i) :: st) := v_put C (a := 1) (ci := 1) (k := 9) (T := F_Course) (N := 12) (ty0 := t_Course) (ty := .int) rfl rfl rfl (by decide) i_Course t_Course_ok n_Course fl_Course_103 rfl rfl (by decide +kernel) rfl rfl d kk
theorem gf_Course_114 (C : ty_CX cn p s m args meth c D ad cA R_Course cc nL) (d : decode cc pc = .ok (.getfield 114, 3)) (kk : ty_V cn p l e R s m args below meth c D ad cA G nL Q σ loc (pc + 3) (.inl (σ 3 i 11) :: st)) : ty_V cn p l e R s m args below meth c D ad cA G nL Q σ loc (pc) (.inr (3, i) :: st) := v_get C (a := 3) (ci := 3) (k := 11) (T := F_Trial) (N := 13) rfl rfl rfl (by decide) i_Trial fl_Course_114 rfl d kk
theorem pf_Course_114 (C : ty_CX cn p s m args meth c D ad cA R_Course cc nL) (d : decode cc pc = .ok (.putfield 114, 3)) (kk : ty_V cn p l e R s m args below meth c D ad cA (ty_Gd cn ad s) nL Q (ty_up σ 3 i 11 x) loc (pc + 3) (st)) : ty_V cn p l e R s m args below meth c D ad cA (ty_Gd cn ad s) nL Q σ loc (pc) (.inl x :: .inr (3, i) :: st) := v_put C (a := 3) (ci := 3) (k := 11) (T := F_Trial) (N := 13) (ty0 := t_Trial) (ty := .int) rfl rfl rfl (by decide) i_Trial t_Trial_ok n_Trial fl_Course_114 rfl rfl (by decide +kernel) rfl rfl d kk
theorem pf_Course_117 (C : ty_CX cn p s m args meth c D ad cA R_Course cc nL) (hx : narrow .boolean (.int x) = .int x) (hf : fits .boolean (.int x) = true) (d : decode cc pc = .ok (.putfield 117, 3)) (kk : ty_V cn p l e R s m args below meth c D ad cA (ty_Gd cn ad s) nL Q (ty_up σ 4 i 6 x) loc (pc + 3) (st)) : ty_V cn p l e R s m args below meth c D ad cA (ty_Gd cn ad s) nL Q σ loc (pc) (.inl x :: .inr (4, i) :: st) := v_put C (a := 4) (ci := 4) (k := 6) (T := F_Strand) (N := 10) (ty0 := t_Strand) (ty := .boolean) rfl rfl rfl (by decide) i_Strand t_Strand_ok n_Strand fl_Course_117 rfl rfl (by decide +kernel) hx hf d kk
theorem gf_Course_125 (C : ty_CX cn p s m args meth c D ad cA R_Course cc nL) (d : decode cc pc = .ok (.getfield 125, 3)) (kk : ty_V cn p l e R s m args below meth c D ad cA G nL Q σ loc (pc + 3) (.inl (σ 4 i 8) :: st)) : ty_V cn p l e R s m args below meth c D ad cA G nL Q σ loc (pc) (.inr (4, i) :: st) := v_get C (a := 4) (ci := 4) (k := 8) (T := F_Strand) (N := 10) rfl rfl rfl (by decide) i_Strand fl_Course_125 rfl d kk
theorem gf_Course_128 (C : ty_CX cn p s m args meth c D ad cA R_Course cc nL) (d : decode cc pc = .ok (.getfield 128, 3)) (kk : ty_V cn p l e R s m args below meth c D ad cA G nL Q σ loc (pc + 3) (.inl (σ 3 i 7) :: st)) : ty_V cn p l e R s m args below meth c D ad cA G nL Q σ loc (pc) (.inr (3, i) :: st) := v_get C (a := 3) (ci := 3) (k := 7) (T := F_Trial) (N := 13) rfl rfl rfl (by decide) i_Trial fl_Course_128 rfl d kk
theorem pf_Course_131 (C : ty_CX cn p s m args meth c D ad cA R_Course cc nL) (hx : narrow .boolean (.int x) = .int x) (hf : fits .boolean (.int x) = true) (d : decode cc pc = .ok (.putfield 131, 3)) (kk : ty_V cn p l e R s m args below meth c D ad cA (ty_Gd cn ad s) nL Q (ty_up σ 3 i 9 x) loc (pc + 3) (st)) : ty_V cn p l e R s m args below meth c D ad cA (ty_Gd cn ad s) nL Q σ loc (pc) (.inl x :: .inr (3, i) :: st) := v_put C (a := 3) (ci := 3) (k := 9) (T := F_Trial) (N := 13) (ty0 := t_Trial) (ty := .boolean) rfl rfl rfl (by decide) i_Trial t_Trial_ok n_Trial fl_Course_131 rfl rfl (by decide +kernel) hx hf d kk
theorem gf_Course_137 (C : ty_CX cn p s m args meth c D ad cA R_Course cc nL) (d : decode cc pc = .ok (.getfield 137, 3)) (kk : ty_V cn p l e R s m args below meth c D ad cA G nL Q σ loc (pc + 3) (.inl (σ 3 i 6) :: st)) : ty_V cn p l e R s m args below meth c D ad cA G nL Q σ loc (pc) (.inr (3, i) :: st) := v_get C (a := 3) (ci := 3) (k := 6) (T := F_Trial) (N := 13) rfl rfl rfl (by decide) i_Trial fl_Course_137 rfl d kk
theorem pf_Course_137 (C : ty_CX cn p s m args meth c D ad cA R_Course cc nL) (d : decode cc pc = .ok (.putfield 137, 3)) (kk : ty_V cn p l e R s m args below meth c D ad cA (ty_Gd cn ad s) nL Q (ty_up σ 3 i 6 x) loc (pc + 3) (st)) : ty_V cn p l e R s m args below meth c D ad cA (ty_Gd cn ad s) nL Q σ loc (pc) (.inl x :: .inr (3, i) :: st) := v_put C (a := 3) (ci := 3) (k := 6) (T := F_Trial) (N := 13) (ty0 := t_Trial) (ty := .int) rfl rfl rfl (by decide) i_Trial t_Trial_ok n_Trial fl_Course_137 rfl rfl (by decide +kernel) rfl rfl d kk
theorem pf_Course_153 (C : ty_CX cn p s m args meth c D ad cA R_Course cc nL) (d : decode cc pc = .ok (.putfield 153, 3)) (kk : ty_V cn p l e R s m args below meth c D ad cA (ty_Gd cn ad s) nL Q (ty_up σ 3 i 8 x) loc (pc + 3) (st)) : ty_V cn p l e R s m args below meth c D ad cA (ty_Gd cn ad s) nL Q σ loc (pc) (.inl x :: .inr (3, i) :: st) := v_put C (a := 3) (ci := 3) (k := 8) (T := F_Trial) (N := 13) (ty0 := t_Trial) (ty := .int) rfl rfl rfl (by decide) i_Trial t_Trial_ok n_Trial fl_Course_153 rfl rfl (by decide +kernel) rfl rfl d kk
theorem gf_Course_156 (C : ty_CX cn p s m args meth c D ad cA R_Course cc nL) (d : decode cc pc = .ok (.getfield 156, 3)) (kk : ty_V cn p l e R s m args below meth c D ad cA G nL Q σ loc (pc + 3) (.inl (σ 3 i 0) :: st)) : ty_V cn p l e R s m args below meth c D ad cA G nL Q σ loc (pc) (.inr (3, i) :: st) := v_get C (a := 3) (ci := 3) (k := 0) (T := F_Trial) (N := 13) rfl rfl rfl (by decide) i_Trial fl_Course_156 rfl d kk
theorem gf_Course_166 (C : ty_CX cn p s m args meth c D ad cA R_Course cc nL) (d : decode cc pc = .ok (.getfield 166, 3)) (kk : ty_V cn p l e R s m args below meth c D ad cA G nL Q σ loc (pc + 3) (.inl (σ 3 i 10) :: st)) : ty_V cn p l e R s m args below meth c D ad cA G nL Q σ loc (pc) (.inr (3, i) :: st) := v_get C (a := 3) (ci := 3) (k := 10) (T := F_Trial) (N := 13) rfl rfl rfl (by decide) i_Trial fl_Course_166 rfl d kk
theorem pf_Course_166 (C : ty_CX cn p s m args meth c D ad cA R_Course cc nL) (d : decode cc pc = .ok (.putfield 166, 3)) (kk : ty_V cn p l e R s m args below meth c D ad cA (ty_Gd cn ad s) nL Q (ty_up σ 3 i 10 x) loc (pc + 3) (st)) : ty_V cn p l e R s m args below meth c D ad cA (ty_Gd cn ad s) nL Q σ loc (pc) (.inl x :: .inr (3, i) :: st) := v_put C (a := 3) (ci := 3) (k := 10) (T := F_Trial) (N := 13) (ty0 := t_Trial) (ty := .int) rfl rfl rfl (by decide) i_Trial t_Trial_ok n_Trial fl_Course_166 rfl rfl (by decide +kernel) rfl rfl d kk
theorem gf_Course_176 (C : ty_CX cn p s m args meth c D ad cA R_Course cc nL) (d : decode cc pc = .ok (.getfield 176, 3)) (kk : ty_V cn p l e R s m args below meth c D ad cA G nL Q σ loc (pc + 3) (.inl (σ 4 i 0) :: st)) : ty_V cn p l e R s m args below meth c D ad cA G nL Q σ loc (pc) (.inr (4, i) :: st) := v_get C (a := 4) (ci := 4) (k := 0) (T := F_Strand) (N := 10) rfl rfl rfl (by decide) i_Strand fl_Course_176 rfl d kk
theorem gf_Course_177 (C : ty_CX cn p s m args meth c D ad cA R_Course cc nL) (d : decode cc pc = .ok (.getfield 177, 3)) (kk : ty_V cn p l e R s m args below meth c D ad cA G nL Q σ loc (pc + 3) (.inl (σ 4 i 3) :: st)) : ty_V cn p l e R s m args below meth c D ad cA G nL Q σ loc (pc) (.inr (4, i) :: st) := v_get C (a := 4) (ci := 4) (k := 3) (T := F_Strand) (N := 10) rfl rfl rfl (by decide) i_Strand fl_Course_177 rfl d kk
theorem pf_Course_177 (C : ty_CX cn p s m args meth c D ad cA R_Course cc nL) (d : decode cc pc = .ok (.putfield 177, 3)) (kk : ty_V cn p l e R s m args below meth c D ad cA (ty_Gd cn ad s) nL Q (ty_up σ 4 i 3 x) loc (pc + 3) (st)) : ty_V cn p l e R s m args below meth c D ad cA (ty_Gd cn ad s) nL Q σ loc (pc) (.inl x :: .inr (4, i) :: st) := v_put C (a := 4) (ci := 4) (k := 3) (T := F_Strand) (N := 10) (ty0 := t_Strand) (ty := .int) rfl rfl rfl (by decide) i_Strand t_Strand_ok n_Strand fl_Course_177 rfl rfl (by decide +kernel) rfl rfl d kk
theorem gf_Course_180 (C : ty_CX cn p s m args meth c D ad cA R_Course cc nL) (d : decode cc pc = .ok (.getfield 180, 3)) (kk : ty_V cn p l e R s m args below meth c D ad cA G nL Q σ loc (pc + 3) (.inl (σ 2 i 3) :: st)) : ty_V cn p l e R s m args below meth c D ad cA G nL Q σ loc (pc) (.inr (2, i) :: st) := v_get C (a := 2) (ci := 2) (k := 3) (T := F_Program) (N := 4) rfl rfl rfl (by decide) i_Program fl_Course_180 rfl d kk
theorem gf_Course_184 (C : ty_CX cn p s m args meth c D ad cA R_Course cc nL) (d : decode cc pc = .ok (.getfield 184, 3)) (kk : ty_V cn p l e R s m args below meth c D ad cA G nL Q σ loc (pc + 3) (.inr (6, i) :: st)) : ty_V cn p l e R s m args below meth c D ad cA G nL Q σ loc (pc) (.inr (2, i) :: st) := v_get C (a := 2) (ci := 2) (k := 0) (T := F_Program) (N := 4) rfl rfl rfl (by decide) i_Program fl_Course_184 rfl d kk
theorem gf_Course_187 (C : ty_CX cn p s m args meth c D ad cA R_Course cc nL) (d : decode cc pc = .ok (.getfield 187, 3)) (kk : ty_V cn p l e R s m args below meth c D ad cA G nL Q σ loc (pc + 3) (.inr (7, i) :: st)) : ty_V cn p l e R s m args below meth c D ad cA G nL Q σ loc (pc) (.inr (2, i) :: st) := v_get C (a := 2) (ci := 2) (k := 1) (T := F_Program) (N := 4) rfl rfl rfl (by decide) i_Program fl_Course_187 rfl d kk
theorem gf_Course_197 (C : ty_CX cn p s m args meth c D ad cA R_Course cc nL) (d : decode cc pc = .ok (.getfield 197, 3)) (kk : ty_V cn p l e R s m args below meth c D ad cA G nL Q σ loc (pc + 3) (.inl (σ 4 i 1) :: st)) : ty_V cn p l e R s m args below meth c D ad cA G nL Q σ loc (pc) (.inr (4, i) :: st) := v_get C (a := 4) (ci := 4) (k := 1) (T := F_Strand) (N := 10) rfl rfl rfl (by decide) i_Strand fl_Course_197 rfl d kk
theorem gf_Course_206 (C : ty_CX cn p s m args meth c D ad cA R_Course cc nL) (d : decode cc pc = .ok (.getfield 206, 3)) (kk : ty_V cn p l e R s m args below meth c D ad cA G nL Q σ loc (pc + 3) (.inl (σ 4 i 7) :: st)) : ty_V cn p l e R s m args below meth c D ad cA G nL Q σ loc (pc) (.inr (4, i) :: st) := v_get C (a := 4) (ci := 4) (k := 7) (T := F_Strand) (N := 10) rfl rfl rfl (by decide) i_Strand fl_Course_206 rfl d kk
theorem pf_Course_206 (C : ty_CX cn p s m args meth c D ad cA R_Course cc nL) (hx : narrow .boolean (.int x) = .int x) (hf : fits .boolean (.int x) = true) (d : decode cc pc = .ok (.putfield 206, 3)) (kk : ty_V cn p l e R s m args below meth c D ad cA (ty_Gd cn ad s) nL Q (ty_up σ 4 i 7 x) loc (pc + 3) (st)) : ty_V cn p l e R s m args below meth c D ad cA (ty_Gd cn ad s) nL Q σ loc (pc) (.inl x :: .inr (4, i) :: st) := v_put C (a := 4) (ci := 4) (k := 7) (T := F_Strand) (N := 10) (ty0 := t_Strand) (ty := .boolean) rfl rfl rfl (by decide) i_Strand t_Strand_ok n_Strand fl_Course_206 rfl rfl (by decide +kernel) hx hf d kk
theorem gf_Course_212 (C : ty_CX cn p s m args meth c D ad cA R_Course cc nL) (d : decode cc pc = .ok (.getfield 212, 3)) (kk : ty_V cn p l e R s m args below meth c D ad cA G nL Q σ loc (pc + 3) (.inl (σ 4 i 4) :: st)) : ty_V cn p l e R s m args below meth c D ad cA G nL Q σ loc (pc) (.inr (4, i) :: st) := v_get C (a := 4) (ci := 4) (k := 4) (T := F_Strand) (N := 10) rfl rfl rfl (by decide) i_Strand fl_Course_212 rfl d kk
theorem pf_Course_212 (C : ty_CX cn p s m args meth c D ad cA R_Course cc nL) (hx : narrow .boolean (.int x) = .int x) (hf : fits .boolean (.int x) = true) (d : decode cc pc = .ok (.putfield 212, 3)) (kk : ty_V cn p l e R s m args below meth c D ad cA (ty_Gd cn ad s) nL Q (ty_up σ 4 i 4 x) loc (pc + 3) (st)) : ty_V cn p l e R s m args below meth c D ad cA (ty_Gd cn ad s) nL Q σ loc (pc) (.inl x :: .inr (4, i) :: st) := v_put C (a := 4) (ci := 4) (k := 4) (T := F_Strand) (N := 10) (ty0 := t_Strand) (ty := .boolean) rfl rfl rfl (by decide) i_Strand t_Strand_ok n_Strand fl_Course_212 rfl rfl (by decide +kernel) hx hf d kk
theorem gf_Course_215 (C : ty_CX cn p s m args meth c D ad cA R_Course cc nL) (d : decode cc pc = .ok (.getfield 215, 3)) (kk : ty_V cn p l e R s m args below meth c D ad cA G nL Q σ loc (pc + 3) (.inl (σ 4 i 5) :: st)) : ty_V cn p l e R s m args below meth c D ad cA G nL Q σ loc (pc) (.inr (4, i) :: st) := v_get C (a := 4) (ci := 4) (k := 5) (T := F_Strand) (N := 10) rfl rfl rfl (by decide) i_Strand fl_Course_215 rfl d kk
theorem pf_Course_215 (C : ty_CX cn p s m args meth c D ad cA R_Course cc nL) (d : decode cc pc = .ok (.putfield 215, 3)) (kk : ty_V cn p l e R s m args below meth c D ad cA (ty_Gd cn ad s) nL Q (ty_up σ 4 i 5 x) loc (pc + 3) (st)) : ty_V cn p l e R s m args below meth c D ad cA (ty_Gd cn ad s) nL Q σ loc (pc) (.inl x :: .inr (4, i) :: st) := v_put C (a := 4) (ci := 4) (k := 5) (T := F_Strand) (N := 10) (ty0 := t_Strand) (ty := .int) rfl rfl rfl (by decide) i_Strand t_Strand_ok n_Strand fl_Course_215 rfl rfl (by decide +kernel) rfl rfl d kk
theorem gf_Course_229 (C : ty_CX cn p s m args meth c D ad cA R_Course cc nL) (d : decode cc pc = .ok (.getfield 229, 3)) (kk : ty_V cn p l e R s m args below meth c D ad cA G nL Q σ loc (pc + 3) (.inl (σ 4 i 2) :: st)) : ty_V cn p l e R s m args below meth c D ad cA G nL Q σ loc (pc) (.inr (4, i) :: st) := v_get C (a := 4) (ci := 4) (k := 2) (T := F_Strand) (N := 10) rfl rfl rfl (by decide) i_Strand fl_Course_229 rfl d kk
theorem gf_Course_232 (C : ty_CX cn p s m args meth c D ad cA R_Course cc nL) (d : decode cc pc = .ok (.getfield 232, 3)) (kk : ty_V cn p l e R s m args below meth c D ad cA G nL Q σ loc (pc + 3) (.inl (σ 4 i 9) :: st)) : ty_V cn p l e R s m args below meth c D ad cA G nL Q σ loc (pc) (.inr (4, i) :: st) := v_get C (a := 4) (ci := 4) (k := 9) (T := F_Strand) (N := 10) rfl rfl rfl (by decide) i_Strand fl_Course_232 rfl d kk
theorem gf_Course_238 (C : ty_CX cn p s m args meth c D ad cA R_Course cc nL) (d : decode cc pc = .ok (.getfield 238, 3)) (kk : ty_V cn p l e R s m args below meth c D ad cA G nL Q σ loc (pc + 3) (.inl (σ 3 i 12) :: st)) : ty_V cn p l e R s m args below meth c D ad cA G nL Q σ loc (pc) (.inr (3, i) :: st) := v_get C (a := 3) (ci := 3) (k := 12) (T := F_Trial) (N := 13) rfl rfl rfl (by decide) i_Trial fl_Course_238 rfl d kk
theorem pf_Course_238 (C : ty_CX cn p s m args meth c D ad cA R_Course cc nL) (d : decode cc pc = .ok (.putfield 238, 3)) (kk : ty_V cn p l e R s m args below meth c D ad cA (ty_Gd cn ad s) nL Q (ty_up σ 3 i 12 x) loc (pc + 3) (st)) : ty_V cn p l e R s m args below meth c D ad cA (ty_Gd cn ad s) nL Q σ loc (pc) (.inl x :: .inr (3, i) :: st) := v_put C (a := 3) (ci := 3) (k := 12) (T := F_Trial) (N := 13) (ty0 := t_Trial) (ty := .int) rfl rfl rfl (by decide) i_Trial t_Trial_ok n_Trial fl_Course_238 rfl rfl (by decide +kernel) rfl rfl d kk
theorem gf_Log_7 (C : ty_CX cn p s m args meth c D ad cA R_Log cc nL) (d : decode cc pc = .ok (.getfield 7, 3)) (kk : ty_V cn p l e R s m args below meth c D ad cA G nL Q σ loc (pc + 3) (.inr (9, i) :: st)) : ty_V cn p l e R s m args below meth c D ad cA G nL Q σ loc (pc) (.inr (5, i) :: st) := v_get C (a := 5) (ci := 5) (k := 0) (T := F_Log) (N := 2) rfl rfl rfl (by decide) i_Log fl_Log_7 rfl d kk
theorem gf_Log_13 (C : ty_CX cn p s m args meth c D ad cA R_Log cc nL) (d : decode cc pc = .ok (.getfield 13, 3)) (kk : ty_V cn p l e R s m args below meth c D ad cA G nL Q σ loc (pc + 3) (.inl (σ 5 i 1) :: st)) : ty_V cn p l e R s m args below meth c D ad cA G nL Q σ loc (pc) (.inr (5, i) :: st) := v_get C (a := 5) (ci := 5) (k := 1) (T := F_Log) (N := 2) rfl rfl rfl (by decide) i_Log fl_Log_13 rfl d kk
theorem pf_Log_13 (C : ty_CX cn p s m args meth c D ad cA R_Log cc nL) (d : decode cc pc = .ok (.putfield 13, 3)) (kk : ty_V cn p l e R s m args below meth c D ad cA (ty_Gd cn ad s) nL Q (ty_up σ 5 i 1 x) loc (pc + 3) (st)) : ty_V cn p l e R s m args below meth c D ad cA (ty_Gd cn ad s) nL Q σ loc (pc) (.inl x :: .inr (5, i) :: st) := v_put C (a := 5) (ci := 5) (k := 1) (T := F_Log) (N := 2) (ty0 := t_Log) (ty := .int) rfl rfl rfl (by decide) i_Log t_Log_ok n_Log fl_Log_13 rfl rfl (by decide +kernel) rfl rfl d kk
theorem gf_Program_9 (C : ty_CX cn p s m args meth c D ad cA R_Program cc nL) (d : decode cc pc = .ok (.getfield 9, 3)) (kk : ty_V cn p l e R s m args below meth c D ad cA G nL Q σ loc (pc + 3) (.inr (6, i) :: st)) : ty_V cn p l e R s m args below meth c D ad cA G nL Q σ loc (pc) (.inr (2, i) :: st) := v_get C (a := 2) (ci := 2) (k := 0) (T := F_Program) (N := 4) rfl rfl rfl (by decide) i_Program fl_Program_9 rfl d kk
theorem gf_Program_15 (C : ty_CX cn p s m args meth c D ad cA R_Program cc nL) (d : decode cc pc = .ok (.getfield 15, 3)) (kk : ty_V cn p l e R s m args below meth c D ad cA G nL Q σ loc (pc + 3) (.inr (7, i) :: st)) : ty_V cn p l e R s m args below meth c D ad cA G nL Q σ loc (pc) (.inr (2, i) :: st) := v_get C (a := 2) (ci := 2) (k := 1) (T := F_Program) (N := 4) rfl rfl rfl (by decide) i_Program fl_Program_15 rfl d kk
theorem gf_Program_18 (C : ty_CX cn p s m args meth c D ad cA R_Program cc nL) (d : decode cc pc = .ok (.getfield 18, 3)) (kk : ty_V cn p l e R s m args below meth c D ad cA G nL Q σ loc (pc + 3) (.inr (8, i) :: st)) : ty_V cn p l e R s m args below meth c D ad cA G nL Q σ loc (pc) (.inr (2, i) :: st) := v_get C (a := 2) (ci := 2) (k := 2) (T := F_Program) (N := 4) rfl rfl rfl (by decide) i_Program fl_Program_18 rfl d kk
theorem gf_Program_21 (C : ty_CX cn p s m args meth c D ad cA R_Program cc nL) (d : decode cc pc = .ok (.getfield 21, 3)) (kk : ty_V cn p l e R s m args below meth c D ad cA G nL Q σ loc (pc + 3) (.inl (σ 2 i 3) :: st)) : ty_V cn p l e R s m args below meth c D ad cA G nL Q σ loc (pc) (.inr (2, i) :: st) := v_get C (a := 2) (ci := 2) (k := 3) (T := F_Program) (N := 4) rfl rfl rfl (by decide) i_Program fl_Program_21 rfl d kk
theorem pf_Program_21 (C : ty_CX cn p s m args meth c D ad cA R_Program cc nL) (d : decode cc pc = .ok (.putfield 21, 3)) (kk : ty_V cn p l e R s m args below meth c D ad cA (ty_Gd cn ad s) nL Q (ty_up σ 2 i 3 x) loc (pc + 3) (st)) : ty_V cn p l e R s m args below meth c D ad cA (ty_Gd cn ad s) nL Q σ loc (pc) (.inl x :: .inr (2, i) :: st) := v_put C (a := 2) (ci := 2) (k := 3) (T := F_Program) (N := 4) (ty0 := t_Program) (ty := .int) rfl rfl rfl (by decide) i_Program t_Program_ok n_Program fl_Program_21 rfl rfl (by decide +kernel) rfl rfl d kk
theorem pf_Strand_9 (C : ty_CX cn p s m args meth c D ad cA R_Strand cc nL) (d : decode cc pc = .ok (.putfield 9, 3)) (kk : ty_V cn p l e R s m args below meth c D ad cA (ty_Gd cn ad s) nL Q (ty_up σ 4 i 0 x) loc (pc + 3) (st)) : ty_V cn p l e R s m args below meth c D ad cA (ty_Gd cn ad s) nL Q σ loc (pc) (.inl x :: .inr (4, i) :: st) := v_put C (a := 4) (ci := 4) (k := 0) (T := F_Strand) (N := 10) (ty0 := t_Strand) (ty := .int) rfl rfl rfl (by decide) i_Strand t_Strand_ok n_Strand fl_Strand_9 rfl rfl (by decide +kernel) rfl rfl d kk
theorem pf_Strand_15 (C : ty_CX cn p s m args meth c D ad cA R_Strand cc nL) (d : decode cc pc = .ok (.putfield 15, 3)) (kk : ty_V cn p l e R s m args below meth c D ad cA (ty_Gd cn ad s) nL Q (ty_up σ 4 i 1 x) loc (pc + 3) (st)) : ty_V cn p l e R s m args below meth c D ad cA (ty_Gd cn ad s) nL Q σ loc (pc) (.inl x :: .inr (4, i) :: st) := v_put C (a := 4) (ci := 4) (k := 1) (T := F_Strand) (N := 10) (ty0 := t_Strand) (ty := .int) rfl rfl rfl (by decide) i_Strand t_Strand_ok n_Strand fl_Strand_15 rfl rfl (by decide +kernel) rfl rfl d kk
theorem pf_Strand_18 (C : ty_CX cn p s m args meth c D ad cA R_Strand cc nL) (d : decode cc pc = .ok (.putfield 18, 3)) (kk : ty_V cn p l e R s m args below meth c D ad cA (ty_Gd cn ad s) nL Q (ty_up σ 4 i 2 x) loc (pc + 3) (st)) : ty_V cn p l e R s m args below meth c D ad cA (ty_Gd cn ad s) nL Q σ loc (pc) (.inl x :: .inr (4, i) :: st) := v_put C (a := 4) (ci := 4) (k := 2) (T := F_Strand) (N := 10) (ty0 := t_Strand) (ty := .int) rfl rfl rfl (by decide) i_Strand t_Strand_ok n_Strand fl_Strand_18 rfl rfl (by decide +kernel) rfl rfl d kk
theorem pf_Strand_21 (C : ty_CX cn p s m args meth c D ad cA R_Strand cc nL) (d : decode cc pc = .ok (.putfield 21, 3)) (kk : ty_V cn p l e R s m args below meth c D ad cA (ty_Gd cn ad s) nL Q (ty_up σ 4 i 3 x) loc (pc + 3) (st)) : ty_V cn p l e R s m args below meth c D ad cA (ty_Gd cn ad s) nL Q σ loc (pc) (.inl x :: .inr (4, i) :: st) := v_put C (a := 4) (ci := 4) (k := 3) (T := F_Strand) (N := 10) (ty0 := t_Strand) (ty := .int) rfl rfl rfl (by decide) i_Strand t_Strand_ok n_Strand fl_Strand_21 rfl rfl (by decide +kernel) rfl rfl d kk
theorem pf_Strand_24 (C : ty_CX cn p s m args meth c D ad cA R_Strand cc nL) (hx : narrow .boolean (.int x) = .int x) (hf : fits .boolean (.int x) = true) (d : decode cc pc = .ok (.putfield 24, 3)) (kk : ty_V cn p l e R s m args below meth c D ad cA (ty_Gd cn ad s) nL Q (ty_up σ 4 i 4 x) loc (pc + 3) (st)) : ty_V cn p l e R s m args below meth c D ad cA (ty_Gd cn ad s) nL Q σ loc (pc) (.inl x :: .inr (4, i) :: st) := v_put C (a := 4) (ci := 4) (k := 4) (T := F_Strand) (N := 10) (ty0 := t_Strand) (ty := .boolean) rfl rfl rfl (by decide) i_Strand t_Strand_ok n_Strand fl_Strand_24 rfl rfl (by decide +kernel) hx hf d kk
theorem pf_Strand_28 (C : ty_CX cn p s m args meth c D ad cA R_Strand cc nL) (d : decode cc pc = .ok (.putfield 28, 3)) (kk : ty_V cn p l e R s m args below meth c D ad cA (ty_Gd cn ad s) nL Q (ty_up σ 4 i 5 x) loc (pc + 3) (st)) : ty_V cn p l e R s m args below meth c D ad cA (ty_Gd cn ad s) nL Q σ loc (pc) (.inl x :: .inr (4, i) :: st) := v_put C (a := 4) (ci := 4) (k := 5) (T := F_Strand) (N := 10) (ty0 := t_Strand) (ty := .int) rfl rfl rfl (by decide) i_Strand t_Strand_ok n_Strand fl_Strand_28 rfl rfl (by decide +kernel) rfl rfl d kk
theorem gf_Strand_31 (C : ty_CX cn p s m args meth c D ad cA R_Strand cc nL) (d : decode cc pc = .ok (.getfield 31, 3)) (kk : ty_V cn p l e R s m args below meth c D ad cA G nL Q σ loc (pc + 3) (.inl (σ 4 i 6) :: st)) : ty_V cn p l e R s m args below meth c D ad cA G nL Q σ loc (pc) (.inr (4, i) :: st) := v_get C (a := 4) (ci := 4) (k := 6) (T := F_Strand) (N := 10) rfl rfl rfl (by decide) i_Strand fl_Strand_31 rfl d kk
theorem pf_Strand_31 (C : ty_CX cn p s m args meth c D ad cA R_Strand cc nL) (hx : narrow .boolean (.int x) = .int x) (hf : fits .boolean (.int x) = true) (d : decode cc pc = .ok (.putfield 31, 3)) (kk : ty_V cn p l e R s m args below meth c D ad cA (ty_Gd cn ad s) nL Q (ty_up σ 4 i 6 x) loc (pc + 3) (st)) : ty_V cn p l e R s m args below meth c D ad cA (ty_Gd cn ad s) nL Q σ loc (pc) (.inl x :: .inr (4, i) :: st) := v_put C (a := 4) (ci := 4) (k := 6) (T := F_Strand) (N := 10) (ty0 := t_Strand) (ty := .boolean) rfl rfl rfl (by decide) i_Strand t_Strand_ok n_Strand fl_Strand_31 rfl rfl (by decide +kernel) hx hf d kk
theorem pf_Strand_34 (C : ty_CX cn p s m args meth c D ad cA R_Strand cc nL) (hx : narrow .boolean (.int x) = .int x) (hf : fits .boolean (.int x) = true) (d : decode cc pc = .ok (.putfield 34, 3)) (kk : ty_V cn p l e R s m args below meth c D ad cA (ty_Gd cn ad s) nL Q (ty_up σ 4 i 7 x) loc (pc + 3) (st)) : ty_V cn p l e R s m args below meth c D ad cA (ty_Gd cn ad s) nL Q σ loc (pc) (.inl x :: .inr (4, i) :: st) := v_put C (a := 4) (ci := 4) (k := 7) (T := F_Strand) (N := 10) (ty0 := t_Strand) (ty := .boolean) rfl rfl rfl (by decide) i_Strand t_Strand_ok n_Strand fl_Strand_34 rfl rfl (by decide +kernel) hx hf d kk
theorem pf_Strand_37 (C : ty_CX cn p s m args meth c D ad cA R_Strand cc nL) (hx : narrow .boolean (.int x) = .int x) (hf : fits .boolean (.int x) = true) (d : decode cc pc = .ok (.putfield 37, 3)) (kk : ty_V cn p l e R s m args below meth c D ad cA (ty_Gd cn ad s) nL Q (ty_up σ 4 i 8 x) loc (pc + 3) (st)) : ty_V cn p l e R s m args below meth c D ad cA (ty_Gd cn ad s) nL Q σ loc (pc) (.inl x :: .inr (4, i) :: st) := v_put C (a := 4) (ci := 4) (k := 8) (T := F_Strand) (N := 10) (ty0 := t_Strand) (ty := .boolean) rfl rfl rfl (by decide) i_Strand t_Strand_ok n_Strand fl_Strand_37 rfl rfl (by decide +kernel) hx hf d kk
theorem pf_Strand_40 (C : ty_CX cn p s m args meth c D ad cA R_Strand cc nL) (d : decode cc pc = .ok (.putfield 40, 3)) (kk : ty_V cn p l e R s m args below meth c D ad cA (ty_Gd cn ad s) nL Q (ty_up σ 4 i 9 x) loc (pc + 3) (st)) : ty_V cn p l e R s m args below meth c D ad cA (ty_Gd cn ad s) nL Q σ loc (pc) (.inl x :: .inr (4, i) :: st) := v_put C (a := 4) (ci := 4) (k := 9) (T := F_Strand) (N := 10) (ty0 := t_Strand) (ty := .int) rfl rfl rfl (by decide) i_Strand t_Strand_ok n_Strand fl_Strand_40 rfl rfl (by decide +kernel) rfl rfl d kk
theorem pf_Trial_14 (C : ty_CX cn p s m args meth c D ad cA R_Trial cc nL) (d : decode cc pc = .ok (.putfield 14, 3)) (kk : ty_V cn p l e R s m args below meth c D ad cA (ty_Gd cn ad s) nL Q (ty_up σ 3 i 0 x) loc (pc + 3) (st)) : ty_V cn p l e R s m args below meth c D ad cA (ty_Gd cn ad s) nL Q σ loc (pc) (.inl x :: .inr (3, i) :: st) := v_put C (a := 3) (ci := 3) (k := 0) (T := F_Trial) (N := 13) (ty0 := t_Trial) (ty := .int) rfl rfl rfl (by decide) i_Trial t_Trial_ok n_Trial fl_Trial_14 rfl rfl (by decide +kernel) rfl rfl d kk
theorem gf_Trial_18 (C : ty_CX cn p s m args meth c D ad cA R_Trial cc nL) (d : decode cc pc = .ok (.getfield 18, 3)) (kk : ty_V cn p l e R s m args below meth c D ad cA G nL Q σ loc (pc + 3) (.inl (σ 3 i 1) :: st)) : ty_V cn p l e R s m args below meth c D ad cA G nL Q σ loc (pc) (.inr (3, i) :: st) := v_get C (a := 3) (ci := 3) (k := 1) (T := F_Trial) (N := 13) rfl rfl rfl (by decide) i_Trial fl_Trial_18 rfl d kk
theorem pf_Trial_18 (C : ty_CX cn p s m args meth c D ad cA R_Trial cc nL) (d : decode cc pc = .ok (.putfield 18, 3)) (kk : ty_V cn p l e R s m args below meth c D ad cA (ty_Gd cn ad s) nL Q (ty_up σ 3 i 1 x) loc (pc + 3) (st)) : ty_V cn p l e R s m args below meth c D ad cA (ty_Gd cn ad s) nL Q σ loc (pc) (.inl x :: .inr (3, i) :: st) := v_put C (a := 3) (ci := 3) (k := 1) (T := F_Trial) (N := 13) (ty0 := t_Trial) (ty := .int) rfl rfl rfl (by decide) i_Trial t_Trial_ok n_Trial fl_Trial_18 rfl rfl (by decide +kernel) rfl rfl d kk
theorem gf_Trial_21 (C : ty_CX cn p s m args meth c D ad cA R_Trial cc nL) (d : decode cc pc = .ok (.getfield 21, 3)) (kk : ty_V cn p l e R s m args below meth c D ad cA G nL Q σ loc (pc + 3) (.inl (σ 3 i 2) :: st)) : ty_V cn p l e R s m args below meth c D ad cA G nL Q σ loc (pc) (.inr (3, i) :: st) := v_get C (a := 3) (ci := 3) (k := 2) (T := F_Trial) (N := 13) rfl rfl rfl (by decide) i_Trial fl_Trial_21 rfl d kk
theorem pf_Trial_21 (C : ty_CX cn p s m args meth c D ad cA R_Trial cc nL) (d : decode cc pc = .ok (.putfield 21, 3)) (kk : ty_V cn p l e R s m args below meth c D ad cA (ty_Gd cn ad s) nL Q (ty_up σ 3 i 2 x) loc (pc + 3) (st)) : ty_V cn p l e R s m args below meth c D ad cA (ty_Gd cn ad s) nL Q σ loc (pc) (.inl x :: .inr (3, i) :: st) := v_put C (a := 3) (ci := 3) (k := 2) (T := F_Trial) (N := 13) (ty0 := t_Trial) (ty := .int) rfl rfl rfl (by decide) i_Trial t_Trial_ok n_Trial fl_Trial_21 rfl rfl (by decide +kernel) rfl rfl d kk
theorem gf_Trial_24 (C : ty_CX cn p s m args meth c D ad cA R_Trial cc nL) (d : decode cc pc = .ok (.getfield 24, 3)) (kk : ty_V cn p l e R s m args below meth c D ad cA G nL Q σ loc (pc + 3) (.inl (σ 3 i 3) :: st)) : ty_V cn p l e R s m args below meth c D ad cA G nL Q σ loc (pc) (.inr (3, i) :: st) := v_get C (a := 3) (ci := 3) (k := 3) (T := F_Trial) (N := 13) rfl rfl rfl (by decide) i_Trial fl_Trial_24 rfl d kk
theorem pf_Trial_24 (C : ty_CX cn p s m args meth c D ad cA R_Trial cc nL) (d : decode cc pc = .ok (.putfield 24, 3)) (kk : ty_V cn p l e R s m args below meth c D ad cA (ty_Gd cn ad s) nL Q (ty_up σ 3 i 3 x) loc (pc + 3) (st)) : ty_V cn p l e R s m args below meth c D ad cA (ty_Gd cn ad s) nL Q σ loc (pc) (.inl x :: .inr (3, i) :: st) := v_put C (a := 3) (ci := 3) (k := 3) (T := F_Trial) (N := 13) (ty0 := t_Trial) (ty := .int) rfl rfl rfl (by decide) i_Trial t_Trial_ok n_Trial fl_Trial_24 rfl rfl (by decide +kernel) rfl rfl d kk
theorem gf_Trial_27 (C : ty_CX cn p s m args meth c D ad cA R_Trial cc nL) (d : decode cc pc = .ok (.getfield 27, 3)) (kk : ty_V cn p l e R s m args below meth c D ad cA G nL Q σ loc (pc + 3) (.inl (σ 3 i 4) :: st)) : ty_V cn p l e R s m args below meth c D ad cA G nL Q σ loc (pc) (.inr (3, i) :: st) := v_get C (a := 3) (ci := 3) (k := 4) (T := F_Trial) (N := 13) rfl rfl rfl (by decide) i_Trial fl_Trial_27 rfl d kk
theorem pf_Trial_27 (C : ty_CX cn p s m args meth c D ad cA R_Trial cc nL) (d : decode cc pc = .ok (.putfield 27, 3)) (kk : ty_V cn p l e R s m args below meth c D ad cA (ty_Gd cn ad s) nL Q (ty_up σ 3 i 4 x) loc (pc + 3) (st)) : ty_V cn p l e R s m args below meth c D ad cA (ty_Gd cn ad s) nL Q σ loc (pc) (.inl x :: .inr (3, i) :: st) := v_put C (a := 3) (ci := 3) (k := 4) (T := F_Trial) (N := 13) (ty0 := t_Trial) (ty := .int) rfl rfl rfl (by decide) i_Trial t_Trial_ok n_Trial fl_Trial_27 rfl rfl (by decide +kernel) rfl rfl d kk
theorem gf_Trial_30 (C : ty_CX cn p s m args meth c D ad cA R_Trial cc nL) (d : decode cc pc = .ok (.getfield 30, 3)) (kk : ty_V cn p l e R s m args below meth c D ad cA G nL Q σ loc (pc + 3) (.inl (σ 3 i 5) :: st)) : ty_V cn p l e R s m args below meth c D ad cA G nL Q σ loc (pc) (.inr (3, i) :: st) := v_get C (a := 3) (ci := 3) (k := 5) (T := F_Trial) (N := 13) rfl rfl rfl (by decide) i_Trial fl_Trial_30 rfl d kk
theorem pf_Trial_30 (C : ty_CX cn p s m args meth c D ad cA R_Trial cc nL) (d : decode cc pc = .ok (.putfield 30, 3)) (kk : ty_V cn p l e R s m args below meth c D ad cA (ty_Gd cn ad s) nL Q (ty_up σ 3 i 5 x) loc (pc + 3) (st)) : ty_V cn p l e R s m args below meth c D ad cA (ty_Gd cn ad s) nL Q σ loc (pc) (.inl x :: .inr (3, i) :: st) := v_put C (a := 3) (ci := 3) (k := 5) (T := F_Trial) (N := 13) (ty0 := t_Trial) (ty := .int) rfl rfl rfl (by decide) i_Trial t_Trial_ok n_Trial fl_Trial_30 rfl rfl (by decide +kernel) rfl rfl d kk
theorem gf_Trial_33 (C : ty_CX cn p s m args meth c D ad cA R_Trial cc nL) (d : decode cc pc = .ok (.getfield 33, 3)) (kk : ty_V cn p l e R s m args below meth c D ad cA G nL Q σ loc (pc + 3) (.inl (σ 3 i 6) :: st)) : ty_V cn p l e R s m args below meth c D ad cA G nL Q σ loc (pc) (.inr (3, i) :: st) := v_get C (a := 3) (ci := 3) (k := 6) (T := F_Trial) (N := 13) rfl rfl rfl (by decide) i_Trial fl_Trial_33 rfl d kk
theorem pf_Trial_33 (C : ty_CX cn p s m args meth c D ad cA R_Trial cc nL) (d : decode cc pc = .ok (.putfield 33, 3)) (kk : ty_V cn p l e R s m args below meth c D ad cA (ty_Gd cn ad s) nL Q (ty_up σ 3 i 6 x) loc (pc + 3) (st)) : ty_V cn p l e R s m args below meth c D ad cA (ty_Gd cn ad s) nL Q σ loc (pc) (.inl x :: .inr (3, i) :: st) := v_put C (a := 3) (ci := 3) (k := 6) (T := F_Trial) (N := 13) (ty0 := t_Trial) (ty := .int) rfl rfl rfl (by decide) i_Trial t_Trial_ok n_Trial fl_Trial_33 rfl rfl (by decide +kernel) rfl rfl d kk
theorem pf_Trial_36 (C : ty_CX cn p s m args meth c D ad cA R_Trial cc nL) (d : decode cc pc = .ok (.putfield 36, 3)) (kk : ty_V cn p l e R s m args below meth c D ad cA (ty_Gd cn ad s) nL Q (ty_up σ 3 i 7 x) loc (pc + 3) (st)) : ty_V cn p l e R s m args below meth c D ad cA (ty_Gd cn ad s) nL Q σ loc (pc) (.inl x :: .inr (3, i) :: st) := v_put C (a := 3) (ci := 3) (k := 7) (T := F_Trial) (N := 13) (ty0 := t_Trial) (ty := .int) rfl rfl rfl (by decide) i_Trial t_Trial_ok n_Trial fl_Trial_36 rfl rfl (by decide +kernel) rfl rfl d kk
theorem pf_Trial_39 (C : ty_CX cn p s m args meth c D ad cA R_Trial cc nL) (d : decode cc pc = .ok (.putfield 39, 3)) (kk : ty_V cn p l e R s m args below meth c D ad cA (ty_Gd cn ad s) nL Q (ty_up σ 3 i 8 x) loc (pc + 3) (st)) : ty_V cn p l e R s m args below meth c D ad cA (ty_Gd cn ad s) nL Q σ loc (pc) (.inl x :: .inr (3, i) :: st) := v_put C (a := 3) (ci := 3) (k := 8) (T := F_Trial) (N := 13) (ty0 := t_Trial) (ty := .int) rfl rfl rfl (by decide) i_Trial t_Trial_ok n_Trial fl_Trial_39 rfl rfl (by decide +kernel) rfl rfl d kk
theorem pf_Trial_42 (C : ty_CX cn p s m args meth c D ad cA R_Trial cc nL) (hx : narrow .boolean (.int x) = .int x) (hf : fits .boolean (.int x) = true) (d : decode cc pc = .ok (.putfield 42, 3)) (kk : ty_V cn p l e R s m args below meth c D ad cA (ty_Gd cn ad s) nL Q (ty_up σ 3 i 9 x) loc (pc + 3) (st)) : ty_V cn p l e R s m args below meth c D ad cA (ty_Gd cn ad s) nL Q σ loc (pc) (.inl x :: .inr (3, i) :: st) := v_put C (a := 3) (ci := 3) (k := 9) (T := F_Trial) (N := 13) (ty0 := t_Trial) (ty := .boolean) rfl rfl rfl (by decide) i_Trial t_Trial_ok n_Trial fl_Trial_42 rfl rfl (by decide +kernel) hx hf d kk
theorem pf_Trial_46 (C : ty_CX cn p s m args meth c D ad cA R_Trial cc nL) (d : decode cc pc = .ok (.putfield 46, 3)) (kk : ty_V cn p l e R s m args below meth c D ad cA (ty_Gd cn ad s) nL Q (ty_up σ 3 i 10 x) loc (pc + 3) (st)) : ty_V cn p l e R s m args below meth c D ad cA (ty_Gd cn ad s) nL Q σ loc (pc) (.inl x :: .inr (3, i) :: st) := v_put C (a := 3) (ci := 3) (k := 10) (T := F_Trial) (N := 13) (ty0 := t_Trial) (ty := .int) rfl rfl rfl (by decide) i_Trial t_Trial_ok n_Trial fl_Trial_46 rfl rfl (by decide +kernel) rfl rfl d kk
theorem pf_Trial_49 (C : ty_CX cn p s m args meth c D ad cA R_Trial cc nL) (d : decode cc pc = .ok (.putfield 49, 3)) (kk : ty_V cn p l e R s m args below meth c D ad cA (ty_Gd cn ad s) nL Q (ty_up σ 3 i 11 x) loc (pc + 3) (st)) : ty_V cn p l e R s m args below meth c D ad cA (ty_Gd cn ad s) nL Q σ loc (pc) (.inl x :: .inr (3, i) :: st) := v_put C (a := 3) (ci := 3) (k := 11) (T := F_Trial) (N := 13) (ty0 := t_Trial) (ty := .int) rfl rfl rfl (by decide) i_Trial t_Trial_ok n_Trial fl_Trial_49 rfl rfl (by decide +kernel) rfl rfl d kk
theorem gf_Trial_52 (C : ty_CX cn p s m args meth c D ad cA R_Trial cc nL) (d : decode cc pc = .ok (.getfield 52, 3)) (kk : ty_V cn p l e R s m args below meth c D ad cA G nL Q σ loc (pc + 3) (.inl (σ 3 i 12) :: st)) : ty_V cn p l e R s m args below meth c D ad cA G nL Q σ loc (pc) (.inr (3, i) :: st) := v_get C (a := 3) (ci := 3) (k := 12) (T := F_Trial) (N := 13) rfl rfl rfl (by decide) i_Trial fl_Trial_52 rfl d kk
theorem pf_Trial_52 (C : ty_CX cn p s m args meth c D ad cA R_Trial cc nL) (d : decode cc pc = .ok (.putfield 52, 3)) (kk : ty_V cn p l e R s m args below meth c D ad cA (ty_Gd cn ad s) nL Q (ty_up σ 3 i 12 x) loc (pc + 3) (st)) : ty_V cn p l e R s m args below meth c D ad cA (ty_Gd cn ad s) nL Q σ loc (pc) (.inl x :: .inr (3, i) :: st) := v_put C (a := 3) (ci := 3) (k := 12) (T := F_Trial) (N := 13) (ty0 := t_Trial) (ty := .int) rfl rfl rfl (by decide) i_Trial t_Trial_ok n_Trial fl_Trial_52 rfl rfl (by decide +kernel) rfl rfl d kk
end TYF
end
section
def rmL (k : Nat) : Room := { frames := k, cells := 0, slots := 0, locals := 30 * k }
theorem ty_oks.nil {cn : Nat → Nat} : ty_oks cn [] := fun v h => by cases h
section TYK
variable {cn : Nat → Nat} {p : Program} {l : Launch} {e : Env} {R : Room} {s : State} {m : MethodId} {args : Array Value} {below : List Frame} {meth : Method} {c : Code} {D : va_G} {ad : Nat → Nat → Nat} {cA : Nat → ClassId} {G : Heap → List Loc → Prop} {nL : Nat} {Q : State → Prop} {cc : ByteArray} {σ : ty_St} {loc : List (Option ty_SV)} {pc : Nat} {st stk : List ty_SV} {i : Nat} {rm : Room} {P : Option ty_SV → ty_St → Prop} {As : List ty_SV}
theorem cl_Yard_23 (C : ty_CX cn p s m args meth c D ad cA R_Yard cc nL) (hM : ty_M l y_Yard_isWithin (Cond.code y_Yard_isWithin b_Yard_isWithin 3 (some .boolean) :: ty_w) rm cn D ad cA As σ P) (hR : rm.cells = 0 ∧ rm.slots = 0 ∧ rm.frames + 1 ≤ R.frames ∧ 8 + (3 + 11) + rm.locals ≤ R.locals) (hn : As.length = 3) (hstk : stk = As.reverse ++ st) (h8 : st.length ≤ 8) (d : decode cc pc = .ok (.invokestatic 23, 3)) (kk : ∀ r σ', P r σ' → ty_V cn p l e R s m args below meth c D ad cA (ty_Gd cn ad s) nL Q σ' loc (pc + 3) (r.toList ++ st)) : ty_V cn p l e R s m args below meth c D ad cA (ty_Gd cn ad s) nL Q σ loc (pc) (stk) := v_callS C hM hR.1 hR.2.1 hR.2.2.1 hR.2.2.2 ⟨ml_Yard_23, wt_Yard_isWithin, wn_Yard, wc_Yard_isWithin⟩ ⟨by decide +kernel, by decide +kernel, by decide +kernel⟩ hn hstk h8 d kk
theorem cl_Yard_27 (C : ty_CX cn p s m args meth c D ad cA R_Yard cc nL) (hM : ty_M l y_Yard_isAction (Cond.code y_Yard_isAction b_Yard_isAction 2 (some .boolean) :: ty_w) rm cn D ad cA As σ P) (hR : rm.cells = 0 ∧ rm.slots = 0 ∧ rm.frames + 1 ≤ R.frames ∧ 8 + (2 + 11) + rm.locals ≤ R.locals) (hn : As.length = 2) (hstk : stk = As.reverse ++ st) (h8 : st.length ≤ 8) (d : decode cc pc = .ok (.invokestatic 27, 3)) (kk : ∀ r σ', P r σ' → ty_V cn p l e R s m args below meth c D ad cA (ty_Gd cn ad s) nL Q σ' loc (pc + 3) (r.toList ++ st)) : ty_V cn p l e R s m args below meth c D ad cA (ty_Gd cn ad s) nL Q σ loc (pc) (stk) := v_callS C hM hR.1 hR.2.1 hR.2.2.1 hR.2.2.2 ⟨ml_Yard_27, wt_Yard_isAction, wn_Yard, wc_Yard_isAction⟩ ⟨by decide +kernel, by decide +kernel, by decide +kernel⟩ hn hstk h8 d kk
theorem cl_Yard_46 (C : ty_CX cn p s m args meth c D ad cA R_Yard cc nL) (hM : ty_M l y_Program_add (Cond.code y_Program_add b_Program_add 3 none :: ty_w) rm cn D ad cA (.inr (2, i) :: As) σ P) (hR : rm.cells = 0 ∧ rm.slots = 0 ∧ rm.frames + 1 ≤ R.frames ∧ 8 + (3 + 11) + rm.locals ≤ R.locals) (hn : As.length = 2) (hstk : stk = As.reverse ++ .inr (2, i) :: st) (h8 : st.length ≤ 8) (d : decode cc pc = .ok (.invokevirtual 46, 3)) (kk : ∀ r σ', P r σ' → ty_V cn p l e R s m args below meth c D ad cA (ty_Gd cn ad s) nL Q σ' loc (pc + 3) (r.toList ++ st)) : ty_V cn p l e R s m args below meth c D ad cA (ty_Gd cn ad s) nL Q σ loc (pc) (stk) := v_callV C hM rfl rfl rfl hR.1 hR.2.1 hR.2.2.1 hR.2.2.2 ⟨ml_Yard_46, wi_Program_add, ws_Program_add, wn_Program, wc_Program_add⟩ ⟨by decide +kernel, by decide +kernel, by decide +kernel⟩ hn hstk h8 d kk
theorem cl_Yard_54 (C : ty_CX cn p s m args meth c D ad cA R_Yard cc nL) (hM : ty_M l y_Trial_define (Cond.code y_Trial_define b_Trial_define 5 none :: ty_w) rm cn D ad cA (.inr (3, i) :: As) σ P) (hR : rm.cells = 0 ∧ rm.slots = 0 ∧ rm.frames + 1 ≤ R.frames ∧ 8 + (5 + 11) + rm.locals ≤ R.locals) (hn : As.length = 4) (hstk : stk = As.reverse ++ .inr (3, i) :: st) (h8 : st.length ≤ 8) (d : decode cc pc = .ok (.invokevirtual 54, 3)) (kk : ∀ r σ', P r σ' → ty_V cn p l e R s m args below meth c D ad cA (ty_Gd cn ad s) nL Q σ' loc (pc + 3) (r.toList ++ st)) : ty_V cn p l e R s m args below meth c D ad cA (ty_Gd cn ad s) nL Q σ loc (pc) (stk) := v_callV C hM rfl rfl rfl hR.1 hR.2.1 hR.2.2.1 hR.2.2.2 ⟨ml_Yard_54, wi_Trial_define, ws_Trial_define, wn_Trial, wc_Trial_define⟩ ⟨by decide +kernel, by decide +kernel, by decide +kernel⟩ hn hstk h8 d kk
theorem cl_Yard_60 (C : ty_CX cn p s m args meth c D ad cA R_Yard cc nL) (hM : ty_M l y_Course_perform (Cond.code y_Course_perform b_Course_perform 4 (some .int) :: ty_w) rm cn D ad cA (.inr (1, i) :: As) σ P) (hR : rm.cells = 0 ∧ rm.slots = 0 ∧ rm.frames + 1 ≤ R.frames ∧ 8 + (4 + 11) + rm.locals ≤ R.locals) (hn : As.length = 2) (hstk : stk = As.reverse ++ .inr (1, i) :: st) (h8 : st.length ≤ 8) (d : decode cc pc = .ok (.invokevirtual 60, 3)) (kk : ∀ r σ', P r σ' → ty_V cn p l e R s m args below meth c D ad cA (ty_Gd cn ad s) nL Q σ' loc (pc + 3) (r.toList ++ st)) : ty_V cn p l e R s m args below meth c D ad cA (ty_Gd cn ad s) nL Q σ loc (pc) (stk) := v_callV C hM rfl rfl rfl hR.1 hR.2.1 hR.2.2.1 hR.2.2.2 ⟨ml_Yard_60, wi_Course_perform, ws_Course_perform, wn_Course, wc_Course_perform⟩ ⟨by decide +kernel, by decide +kernel, by decide +kernel⟩ hn hstk h8 d kk
theorem cl_Yard_90 (C : ty_CX cn p s m args meth c D ad cA R_Yard cc nL) (hM : ty_M l y_Log_keeps (Cond.code y_Log_keeps b_Log_keeps 2 (some .boolean) :: ty_w) rm cn D ad cA (.inr (5, i) :: As) σ P) (hR : rm.cells = 0 ∧ rm.slots = 0 ∧ rm.frames + 1 ≤ R.frames ∧ 8 + (2 + 11) + rm.locals ≤ R.locals) (hn : As.length = 1) (hstk : stk = As.reverse ++ .inr (5, i) :: st) (h8 : st.length ≤ 8) (d : decode cc pc = .ok (.invokevirtual 90, 3)) (kk : ∀ r σ', P r σ' → ty_V cn p l e R s m args below meth c D ad cA (ty_Gd cn ad s) nL Q σ' loc (pc + 3) (r.toList ++ st)) : ty_V cn p l e R s m args below meth c D ad cA (ty_Gd cn ad s) nL Q σ loc (pc) (stk) := v_callV C hM rfl rfl rfl hR.1 hR.2.1 hR.2.2.1 hR.2.2.2 ⟨ml_Yard_90, wi_Log_keeps, ws_Log_keeps, wn_Log, wc_Log_keeps⟩ ⟨by decide +kernel, by decide +kernel, by decide +kernel⟩ hn hstk h8 d kk
theorem cl_Yard_111 (C : ty_CX cn p s m args meth c D ad cA R_Yard cc nL) (hM : ty_M l y_Course_allPassed (Cond.code y_Course_allPassed b_Course_allPassed 2 (some .boolean) :: ty_w) rm cn D ad cA (.inr (1, i) :: As) σ P) (hR : rm.cells = 0 ∧ rm.slots = 0 ∧ rm.frames + 1 ≤ R.frames ∧ 8 + (2 + 11) + rm.locals ≤ R.locals) (hn : As.length = 0) (hstk : stk = As.reverse ++ .inr (1, i) :: st) (h8 : st.length ≤ 8) (d : decode cc pc = .ok (.invokevirtual 111, 3)) (kk : ∀ r σ', P r σ' → ty_V cn p l e R s m args below meth c D ad cA (ty_Gd cn ad s) nL Q σ' loc (pc + 3) (r.toList ++ st)) : ty_V cn p l e R s m args below meth c D ad cA (ty_Gd cn ad s) nL Q σ loc (pc) (stk) := v_callV C hM rfl rfl rfl hR.1 hR.2.1 hR.2.2.1 hR.2.2.2 ⟨ml_Yard_111, wi_Course_allPassed, ws_Course_allPassed, wn_Course, wc_Course_allPassed⟩ ⟨by decide +kernel, by decide +kernel, by decide +kernel⟩ hn hstk h8 d kk
theorem cl_Model_102 (C : ty_CX cn p s m args meth c D ad cA R_Model cc nL) (hM : ty_M l y_Model_in (Cond.code y_Model_in b_Model_in 3 (some .boolean) :: ty_w) rm cn D ad cA As σ P) (hR : rm.cells = 0 ∧ rm.slots = 0 ∧ rm.frames + 1 ≤ R.frames ∧ 8 + (3 + 11) + rm.locals ≤ R.locals) (hn : As.length = 3) (hstk : stk = As.reverse ++ st) (h8 : st.length ≤ 8) (d : decode cc pc = .ok (.invokestatic 102, 3)) (kk : ∀ r σ', P r σ' → ty_V cn p l e R s m args below meth c D ad cA (ty_Gd cn ad s) nL Q σ' loc (pc + 3) (r.toList ++ st)) : ty_V cn p l e R s m args below meth c D ad cA (ty_Gd cn ad s) nL Q σ loc (pc) (stk) := v_callS C hM hR.1 hR.2.1 hR.2.2.1 hR.2.2.2 ⟨ml_Model_102, wt_Model_in, wn_Model, wc_Model_in⟩ ⟨by decide +kernel, by decide +kernel, by decide +kernel⟩ hn hstk h8 d kk
theorem cl_Model_106 (C : ty_CX cn p s m args meth c D ad cA R_Model cc nL) (hM : ty_M l y_Model_fits (Cond.code y_Model_fits b_Model_fits 2 (some .boolean) :: ty_w) rm cn D ad cA As σ P) (hR : rm.cells = 0 ∧ rm.slots = 0 ∧ rm.frames + 1 ≤ R.frames ∧ 8 + (2 + 11) + rm.locals ≤ R.locals) (hn : As.length = 2) (hstk : stk = As.reverse ++ st) (h8 : st.length ≤ 8) (d : decode cc pc = .ok (.invokestatic 106, 3)) (kk : ∀ r σ', P r σ' → ty_V cn p l e R s m args below meth c D ad cA (ty_Gd cn ad s) nL Q σ' loc (pc + 3) (r.toList ++ st)) : ty_V cn p l e R s m args below meth c D ad cA (ty_Gd cn ad s) nL Q σ loc (pc) (stk) := v_callS C hM hR.1 hR.2.1 hR.2.2.1 hR.2.2.2 ⟨ml_Model_106, wt_Model_fits, wn_Model, wc_Model_fits⟩ ⟨by decide +kernel, by decide +kernel, by decide +kernel⟩ hn hstk h8 d kk
theorem cl_Model_110 (C : ty_CX cn p s m args meth c D ad cA R_Model cc nL) (hM : ty_M l y_Model_fails (Cond.code y_Model_fails b_Model_fails 3 (some .boolean) :: ty_w) rm cn D ad cA (.inr (20, i) :: As) σ P) (hR : rm.cells = 0 ∧ rm.slots = 0 ∧ rm.frames + 1 ≤ R.frames ∧ 8 + (3 + 11) + rm.locals ≤ R.locals) (hn : As.length = 2) (hstk : stk = As.reverse ++ .inr (20, i) :: st) (h8 : st.length ≤ 8) (d : decode cc pc = .ok (.invokevirtual 110, 3)) (kk : ∀ r σ', P r σ' → ty_V cn p l e R s m args below meth c D ad cA (ty_Gd cn ad s) nL Q σ' loc (pc + 3) (r.toList ++ st)) : ty_V cn p l e R s m args below meth c D ad cA (ty_Gd cn ad s) nL Q σ loc (pc) (stk) := v_callV C hM rfl rfl rfl hR.1 hR.2.1 hR.2.2.1 hR.2.2.2 ⟨ml_Model_110, wi_Model_fails, ws_Model_fails, wn_Model, wc_Model_fails⟩ ⟨by decide +kernel, by decide +kernel, by decide +kernel⟩ hn hstk h8 d kk
theorem cl_Model_123 (C : ty_CX cn p s m args meth c D ad cA R_Model cc nL) (hM : ty_M l y_Model_warns (Cond.code y_Model_warns b_Model_warns 3 none :: ty_w) rm cn D ad cA (.inr (20, i) :: As) σ P) (hR : rm.cells = 0 ∧ rm.slots = 0 ∧ rm.frames + 1 ≤ R.frames ∧ 8 + (3 + 11) + rm.locals ≤ R.locals) (hn : As.length = 2) (hstk : stk = As.reverse ++ .inr (20, i) :: st) (h8 : st.length ≤ 8) (d : decode cc pc = .ok (.invokevirtual 123, 3)) (kk : ∀ r σ', P r σ' → ty_V cn p l e R s m args below meth c D ad cA (ty_Gd cn ad s) nL Q σ' loc (pc + 3) (r.toList ++ st)) : ty_V cn p l e R s m args below meth c D ad cA (ty_Gd cn ad s) nL Q σ loc (pc) (stk) := v_callV C hM rfl rfl rfl hR.1 hR.2.1 hR.2.2.1 hR.2.2.2 ⟨ml_Model_123, wi_Model_warns, ws_Model_warns, wn_Model, wc_Model_warns⟩ ⟨by decide +kernel, by decide +kernel, by decide +kernel⟩ hn hstk h8 d kk
theorem cl_Model_127 (C : ty_CX cn p s m args meth c D ad cA R_Model cc nL) (hM : ty_M l y_Model_judged (Cond.code y_Model_judged b_Model_judged 4 none :: ty_w) rm cn D ad cA (.inr (20, i) :: As) σ P) (hR : rm.cells = 0 ∧ rm.slots = 0 ∧ rm.frames + 1 ≤ R.frames ∧ 8 + (4 + 11) + rm.locals ≤ R.locals) (hn : As.length = 3) (hstk : stk = As.reverse ++ .inr (20, i) :: st) (h8 : st.length ≤ 8) (d : decode cc pc = .ok (.invokevirtual 127, 3)) (kk : ∀ r σ', P r σ' → ty_V cn p l e R s m args below meth c D ad cA (ty_Gd cn ad s) nL Q σ' loc (pc + 3) (r.toList ++ st)) : ty_V cn p l e R s m args below meth c D ad cA (ty_Gd cn ad s) nL Q σ loc (pc) (stk) := v_callV C hM rfl rfl rfl hR.1 hR.2.1 hR.2.2.1 hR.2.2.2 ⟨ml_Model_127, wi_Model_judged, ws_Model_judged, wn_Model, wc_Model_judged⟩ ⟨by decide +kernel, by decide +kernel, by decide +kernel⟩ hn hstk h8 d kk
theorem cl_Model_134 (C : ty_CX cn p s m args meth c D ad cA R_Model cc nL) (hM : ty_M l y_Model_least (Cond.code y_Model_least b_Model_least 2 (some .int) :: ty_w) rm cn D ad cA As σ P) (hR : rm.cells = 0 ∧ rm.slots = 0 ∧ rm.frames + 1 ≤ R.frames ∧ 8 + (2 + 11) + rm.locals ≤ R.locals) (hn : As.length = 2) (hstk : stk = As.reverse ++ st) (h8 : st.length ≤ 8) (d : decode cc pc = .ok (.invokestatic 134, 3)) (kk : ∀ r σ', P r σ' → ty_V cn p l e R s m args below meth c D ad cA (ty_Gd cn ad s) nL Q σ' loc (pc + 3) (r.toList ++ st)) : ty_V cn p l e R s m args below meth c D ad cA (ty_Gd cn ad s) nL Q σ loc (pc) (stk) := v_callS C hM hR.1 hR.2.1 hR.2.2.1 hR.2.2.2 ⟨ml_Model_134, wt_Model_least, wn_Model, wc_Model_least⟩ ⟨by decide +kernel, by decide +kernel, by decide +kernel⟩ hn hstk h8 d kk
theorem cl_Model_138 (C : ty_CX cn p s m args meth c D ad cA R_Model cc nL) (hM : ty_M l y_Model_ends (Cond.code y_Model_ends b_Model_ends 5 none :: ty_w) rm cn D ad cA (.inr (20, i) :: As) σ P) (hR : rm.cells = 0 ∧ rm.slots = 0 ∧ rm.frames + 1 ≤ R.frames ∧ 8 + (5 + 11) + rm.locals ≤ R.locals) (hn : As.length = 2) (hstk : stk = As.reverse ++ .inr (20, i) :: st) (h8 : st.length ≤ 8) (d : decode cc pc = .ok (.invokevirtual 138, 3)) (kk : ∀ r σ', P r σ' → ty_V cn p l e R s m args below meth c D ad cA (ty_Gd cn ad s) nL Q σ' loc (pc + 3) (r.toList ++ st)) : ty_V cn p l e R s m args below meth c D ad cA (ty_Gd cn ad s) nL Q σ loc (pc) (stk) := v_callV C hM rfl rfl rfl hR.1 hR.2.1 hR.2.2.1 hR.2.2.2 ⟨ml_Model_138, wi_Model_ends, ws_Model_ends, wn_Model, wc_Model_ends⟩ ⟨by decide +kernel, by decide +kernel, by decide +kernel⟩ hn hstk h8 d kk
theorem cl_Model_140 (C : ty_CX cn p s m args meth c D ad cA R_Model cc nL) (hM : ty_M l y_Model_interrupts (Cond.code y_Model_interrupts b_Model_interrupts 6 none :: ty_w) rm cn D ad cA (.inr (20, i) :: As) σ P) (hR : rm.cells = 0 ∧ rm.slots = 0 ∧ rm.frames + 1 ≤ R.frames ∧ 8 + (6 + 11) + rm.locals ≤ R.locals) (hn : As.length = 2) (hstk : stk = As.reverse ++ .inr (20, i) :: st) (h8 : st.length ≤ 8) (d : decode cc pc = .ok (.invokevirtual 140, 3)) (kk : ∀ r σ', P r σ' → ty_V cn p l e R s m args below meth c D ad cA (ty_Gd cn ad s) nL Q σ' loc (pc + 3) (r.toList ++ st)) : ty_V cn p l e R s m args below meth c D ad cA (ty_Gd cn ad s) nL Q σ loc (pc) (stk) := v_callV C hM rfl rfl rfl hR.1 hR.2.1 hR.2.2.1 hR.2.2.2 ⟨ml_Model_140, wi_Model_interrupts, ws_Model_interrupts, wn_Model, wc_Model_interrupts⟩ ⟨by decide +kernel, by decide +kernel, by decide +kernel⟩ hn hstk h8 d kk
theorem cl_Model_143 (C : ty_CX cn p s m args meth c D ad cA R_Model cc nL) (hM : ty_M l y_Model_joined (Cond.code y_Model_joined b_Model_joined 3 (some .boolean) :: ty_w) rm cn D ad cA (.inr (20, i) :: As) σ P) (hR : rm.cells = 0 ∧ rm.slots = 0 ∧ rm.frames + 1 ≤ R.frames ∧ 8 + (3 + 11) + rm.locals ≤ R.locals) (hn : As.length = 1) (hstk : stk = As.reverse ++ .inr (20, i) :: st) (h8 : st.length ≤ 8) (d : decode cc pc = .ok (.invokevirtual 143, 3)) (kk : ∀ r σ', P r σ' → ty_V cn p l e R s m args below meth c D ad cA (ty_Gd cn ad s) nL Q σ' loc (pc + 3) (r.toList ++ st)) : ty_V cn p l e R s m args below meth c D ad cA (ty_Gd cn ad s) nL Q σ loc (pc) (stk) := v_callV C hM rfl rfl rfl hR.1 hR.2.1 hR.2.2.1 hR.2.2.2 ⟨ml_Model_143, wi_Model_joined, ws_Model_joined, wn_Model, wc_Model_joined⟩ ⟨by decide +kernel, by decide +kernel, by decide +kernel⟩ hn hstk h8 d kk
theorem cl_Model_147 (C : ty_CX cn p s m args meth c D ad cA R_Model cc nL) (hM : ty_M l y_Model_acts (Cond.code y_Model_acts b_Model_acts 5 none :: ty_w) rm cn D ad cA (.inr (20, i) :: As) σ P) (hR : rm.cells = 0 ∧ rm.slots = 0 ∧ rm.frames + 1 ≤ R.frames ∧ 8 + (5 + 11) + rm.locals ≤ R.locals) (hn : As.length = 2) (hstk : stk = As.reverse ++ .inr (20, i) :: st) (h8 : st.length ≤ 8) (d : decode cc pc = .ok (.invokevirtual 147, 3)) (kk : ∀ r σ', P r σ' → ty_V cn p l e R s m args below meth c D ad cA (ty_Gd cn ad s) nL Q σ' loc (pc + 3) (r.toList ++ st)) : ty_V cn p l e R s m args below meth c D ad cA (ty_Gd cn ad s) nL Q σ loc (pc) (stk) := v_callV C hM rfl rfl rfl hR.1 hR.2.1 hR.2.2.1 hR.2.2.2 ⟨ml_Model_147, wi_Model_acts, ws_Model_acts, wn_Model, wc_Model_acts⟩ ⟨by decide +kernel, by decide +kernel, by decide +kernel⟩ hn hstk h8 d kk
theorem cl_Model_153 (C : ty_CX cn p s m args meth c D ad cA R_Model cc nL) (hM : ty_M l y_Model_waits (Cond.code y_Model_waits b_Model_waits 4 none :: ty_w) rm cn D ad cA (.inr (20, i) :: As) σ P) (hR : rm.cells = 0 ∧ rm.slots = 0 ∧ rm.frames + 1 ≤ R.frames ∧ 8 + (4 + 11) + rm.locals ≤ R.locals) (hn : As.length = 3) (hstk : stk = As.reverse ++ .inr (20, i) :: st) (h8 : st.length ≤ 8) (d : decode cc pc = .ok (.invokevirtual 153, 3)) (kk : ∀ r σ', P r σ' → ty_V cn p l e R s m args below meth c D ad cA (ty_Gd cn ad s) nL Q σ' loc (pc + 3) (r.toList ++ st)) : ty_V cn p l e R s m args below meth c D ad cA (ty_Gd cn ad s) nL Q σ loc (pc) (stk) := v_callV C hM rfl rfl rfl hR.1 hR.2.1 hR.2.2.1 hR.2.2.2 ⟨ml_Model_153, wi_Model_waits, ws_Model_waits, wn_Model, wc_Model_waits⟩ ⟨by decide +kernel, by decide +kernel, by decide +kernel⟩ hn hstk h8 d kk
theorem cl_Model_156 (C : ty_CX cn p s m args meth c D ad cA R_Model cc nL) (hM : ty_M l y_Model_starts (Cond.code y_Model_starts b_Model_starts 5 (some .int) :: ty_w) rm cn D ad cA (.inr (20, i) :: As) σ P) (hR : rm.cells = 0 ∧ rm.slots = 0 ∧ rm.frames + 1 ≤ R.frames ∧ 8 + (5 + 11) + rm.locals ≤ R.locals) (hn : As.length = 3) (hstk : stk = As.reverse ++ .inr (20, i) :: st) (h8 : st.length ≤ 8) (d : decode cc pc = .ok (.invokevirtual 156, 3)) (kk : ∀ r σ', P r σ' → ty_V cn p l e R s m args below meth c D ad cA (ty_Gd cn ad s) nL Q σ' loc (pc + 3) (r.toList ++ st)) : ty_V cn p l e R s m args below meth c D ad cA (ty_Gd cn ad s) nL Q σ loc (pc) (stk) := v_callV C hM rfl rfl rfl hR.1 hR.2.1 hR.2.2.1 hR.2.2.2 ⟨ml_Model_156, wi_Model_starts, ws_Model_starts, wn_Model, wc_Model_starts⟩ ⟨by decide +kernel, by decide +kernel, by decide +kernel⟩ hn hstk h8 d kk
theorem cl_Model_160 (C : ty_CX cn p s m args meth c D ad cA R_Model cc nL) (hM : ty_M l y_Model_says (Cond.code y_Model_says b_Model_says 3 none :: ty_w) rm cn D ad cA (.inr (20, i) :: As) σ P) (hR : rm.cells = 0 ∧ rm.slots = 0 ∧ rm.frames + 1 ≤ R.frames ∧ 8 + (3 + 11) + rm.locals ≤ R.locals) (hn : As.length = 2) (hstk : stk = As.reverse ++ .inr (20, i) :: st) (h8 : st.length ≤ 8) (d : decode cc pc = .ok (.invokevirtual 160, 3)) (kk : ∀ r σ', P r σ' → ty_V cn p l e R s m args below meth c D ad cA (ty_Gd cn ad s) nL Q σ' loc (pc + 3) (r.toList ++ st)) : ty_V cn p l e R s m args below meth c D ad cA (ty_Gd cn ad s) nL Q σ loc (pc) (stk) := v_callV C hM rfl rfl rfl hR.1 hR.2.1 hR.2.2.1 hR.2.2.2 ⟨ml_Model_160, wi_Model_says, ws_Model_says, wn_Model, wc_Model_says⟩ ⟨by decide +kernel, by decide +kernel, by decide +kernel⟩ hn hstk h8 d kk
theorem cl_Model_163 (C : ty_CX cn p s m args meth c D ad cA R_Model cc nL) (hM : ty_M l y_Model_canHave (Cond.code y_Model_canHave b_Model_canHave 3 (some .boolean) :: ty_w) rm cn D ad cA (.inr (20, i) :: As) σ P) (hR : rm.cells = 0 ∧ rm.slots = 0 ∧ rm.frames + 1 ≤ R.frames ∧ 8 + (3 + 11) + rm.locals ≤ R.locals) (hn : As.length = 1) (hstk : stk = As.reverse ++ .inr (20, i) :: st) (h8 : st.length ≤ 8) (d : decode cc pc = .ok (.invokevirtual 163, 3)) (kk : ∀ r σ', P r σ' → ty_V cn p l e R s m args below meth c D ad cA (ty_Gd cn ad s) nL Q σ' loc (pc + 3) (r.toList ++ st)) : ty_V cn p l e R s m args below meth c D ad cA (ty_Gd cn ad s) nL Q σ loc (pc) (stk) := v_callV C hM rfl rfl rfl hR.1 hR.2.1 hR.2.2.1 hR.2.2.2 ⟨ml_Model_163, wi_Model_canHave, ws_Model_canHave, wn_Model, wc_Model_canHave⟩ ⟨by decide +kernel, by decide +kernel, by decide +kernel⟩ hn hstk h8 d kk
theorem cl_Model_166 (C : ty_CX cn p s m args meth c D ad cA R_Model cc nL) (hM : ty_M l y_Model_isFree (Cond.code y_Model_isFree b_Model_isFree 3 (some .boolean) :: ty_w) rm cn D ad cA (.inr (20, i) :: As) σ P) (hR : rm.cells = 0 ∧ rm.slots = 0 ∧ rm.frames + 1 ≤ R.frames ∧ 8 + (3 + 11) + rm.locals ≤ R.locals) (hn : As.length = 1) (hstk : stk = As.reverse ++ .inr (20, i) :: st) (h8 : st.length ≤ 8) (d : decode cc pc = .ok (.invokevirtual 166, 3)) (kk : ∀ r σ', P r σ' → ty_V cn p l e R s m args below meth c D ad cA (ty_Gd cn ad s) nL Q σ' loc (pc + 3) (r.toList ++ st)) : ty_V cn p l e R s m args below meth c D ad cA (ty_Gd cn ad s) nL Q σ loc (pc) (stk) := v_callV C hM rfl rfl rfl hR.1 hR.2.1 hR.2.2.1 hR.2.2.2 ⟨ml_Model_166, wi_Model_isFree, ws_Model_isFree, wn_Model, wc_Model_isFree⟩ ⟨by decide +kernel, by decide +kernel, by decide +kernel⟩ hn hstk h8 d kk
theorem cl_Model_169 (C : ty_CX cn p s m args meth c D ad cA R_Model cc nL) (hM : ty_M l y_Model_nextTest (Cond.code y_Model_nextTest b_Model_nextTest 2 (some .int) :: ty_w) rm cn D ad cA (.inr (20, i) :: As) σ P) (hR : rm.cells = 0 ∧ rm.slots = 0 ∧ rm.frames + 1 ≤ R.frames ∧ 8 + (2 + 11) + rm.locals ≤ R.locals) (hn : As.length = 0) (hstk : stk = As.reverse ++ .inr (20, i) :: st) (h8 : st.length ≤ 8) (d : decode cc pc = .ok (.invokevirtual 169, 3)) (kk : ∀ r σ', P r σ' → ty_V cn p l e R s m args below meth c D ad cA (ty_Gd cn ad s) nL Q σ' loc (pc + 3) (r.toList ++ st)) : ty_V cn p l e R s m args below meth c D ad cA (ty_Gd cn ad s) nL Q σ loc (pc) (stk) := v_callV C hM rfl rfl rfl hR.1 hR.2.1 hR.2.2.1 hR.2.2.2 ⟨ml_Model_169, wi_Model_nextTest, ws_Model_nextTest, wn_Model, wc_Model_nextTest⟩ ⟨by decide +kernel, by decide +kernel, by decide +kernel⟩ hn hstk h8 d kk
theorem cl_Model_179 (C : ty_CX cn p s m args meth c D ad cA R_Model cc nL) (hM : ty_M l y_Model_guards (Cond.code y_Model_guards b_Model_guards 5 none :: ty_w) rm cn D ad cA (.inr (20, i) :: As) σ P) (hR : rm.cells = 0 ∧ rm.slots = 0 ∧ rm.frames + 1 ≤ R.frames ∧ 8 + (5 + 11) + rm.locals ≤ R.locals) (hn : As.length = 0) (hstk : stk = As.reverse ++ .inr (20, i) :: st) (h8 : st.length ≤ 8) (d : decode cc pc = .ok (.invokevirtual 179, 3)) (kk : ∀ r σ', P r σ' → ty_V cn p l e R s m args below meth c D ad cA (ty_Gd cn ad s) nL Q σ' loc (pc + 3) (r.toList ++ st)) : ty_V cn p l e R s m args below meth c D ad cA (ty_Gd cn ad s) nL Q σ loc (pc) (stk) := v_callV C hM rfl rfl rfl hR.1 hR.2.1 hR.2.2.1 hR.2.2.2 ⟨ml_Model_179, wi_Model_guards, ws_Model_guards, wn_Model, wc_Model_guards⟩ ⟨by decide +kernel, by decide +kernel, by decide +kernel⟩ hn hstk h8 d kk
theorem cl_Model_182 (C : ty_CX cn p s m args meth c D ad cA R_Model cc nL) (hM : ty_M l y_Model_looksAtTimes (Cond.code y_Model_looksAtTimes b_Model_looksAtTimes 2 none :: ty_w) rm cn D ad cA (.inr (20, i) :: As) σ P) (hR : rm.cells = 0 ∧ rm.slots = 0 ∧ rm.frames + 1 ≤ R.frames ∧ 8 + (2 + 11) + rm.locals ≤ R.locals) (hn : As.length = 0) (hstk : stk = As.reverse ++ .inr (20, i) :: st) (h8 : st.length ≤ 8) (d : decode cc pc = .ok (.invokevirtual 182, 3)) (kk : ∀ r σ', P r σ' → ty_V cn p l e R s m args below meth c D ad cA (ty_Gd cn ad s) nL Q σ' loc (pc + 3) (r.toList ++ st)) : ty_V cn p l e R s m args below meth c D ad cA (ty_Gd cn ad s) nL Q σ loc (pc) (stk) := v_callV C hM rfl rfl rfl hR.1 hR.2.1 hR.2.2.1 hR.2.2.2 ⟨ml_Model_182, wi_Model_looksAtTimes, ws_Model_looksAtTimes, wn_Model, wc_Model_looksAtTimes⟩ ⟨by decide +kernel, by decide +kernel, by decide +kernel⟩ hn hstk h8 d kk
theorem cl_Model_185 (C : ty_CX cn p s m args meth c D ad cA R_Model cc nL) (hM : ty_M l y_Model_begins (Cond.code y_Model_begins b_Model_begins 4 none :: ty_w) rm cn D ad cA (.inr (20, i) :: As) σ P) (hR : rm.cells = 0 ∧ rm.slots = 0 ∧ rm.frames + 1 ≤ R.frames ∧ 8 + (4 + 11) + rm.locals ≤ R.locals) (hn : As.length = 0) (hstk : stk = As.reverse ++ .inr (20, i) :: st) (h8 : st.length ≤ 8) (d : decode cc pc = .ok (.invokevirtual 185, 3)) (kk : ∀ r σ', P r σ' → ty_V cn p l e R s m args below meth c D ad cA (ty_Gd cn ad s) nL Q σ' loc (pc + 3) (r.toList ++ st)) : ty_V cn p l e R s m args below meth c D ad cA (ty_Gd cn ad s) nL Q σ loc (pc) (stk) := v_callV C hM rfl rfl rfl hR.1 hR.2.1 hR.2.2.1 hR.2.2.2 ⟨ml_Model_185, wi_Model_begins, ws_Model_begins, wn_Model, wc_Model_begins⟩ ⟨by decide +kernel, by decide +kernel, by decide +kernel⟩ hn hstk h8 d kk
theorem cl_Model_188 (C : ty_CX cn p s m args meth c D ad cA R_Model cc nL) (hM : ty_M l y_Model_isDone (Cond.code y_Model_isDone b_Model_isDone 2 (some .boolean) :: ty_w) rm cn D ad cA (.inr (20, i) :: As) σ P) (hR : rm.cells = 0 ∧ rm.slots = 0 ∧ rm.frames + 1 ≤ R.frames ∧ 8 + (2 + 11) + rm.locals ≤ R.locals) (hn : As.length = 0) (hstk : stk = As.reverse ++ .inr (20, i) :: st) (h8 : st.length ≤ 8) (d : decode cc pc = .ok (.invokevirtual 188, 3)) (kk : ∀ r σ', P r σ' → ty_V cn p l e R s m args below meth c D ad cA (ty_Gd cn ad s) nL Q σ' loc (pc + 3) (r.toList ++ st)) : ty_V cn p l e R s m args below meth c D ad cA (ty_Gd cn ad s) nL Q σ loc (pc) (stk) := v_callV C hM rfl rfl rfl hR.1 hR.2.1 hR.2.2.1 hR.2.2.2 ⟨ml_Model_188, wi_Model_isDone, ws_Model_isDone, wn_Model, wc_Model_isDone⟩ ⟨by decide +kernel, by decide +kernel, by decide +kernel⟩ hn hstk h8 d kk
theorem cl_Model_192 (C : ty_CX cn p s m args meth c D ad cA R_Model cc nL) (hM : ty_M l y_Model_turn (Cond.code y_Model_turn b_Model_turn 3 none :: ty_w) rm cn D ad cA (.inr (20, i) :: As) σ P) (hR : rm.cells = 0 ∧ rm.slots = 0 ∧ rm.frames + 1 ≤ R.frames ∧ 8 + (3 + 11) + rm.locals ≤ R.locals) (hn : As.length = 1) (hstk : stk = As.reverse ++ .inr (20, i) :: st) (h8 : st.length ≤ 8) (d : decode cc pc = .ok (.invokevirtual 192, 3)) (kk : ∀ r σ', P r σ' → ty_V cn p l e R s m args below meth c D ad cA (ty_Gd cn ad s) nL Q σ' loc (pc + 3) (r.toList ++ st)) : ty_V cn p l e R s m args below meth c D ad cA (ty_Gd cn ad s) nL Q σ loc (pc) (stk) := v_callV C hM rfl rfl rfl hR.1 hR.2.1 hR.2.2.1 hR.2.2.2 ⟨ml_Model_192, wi_Model_turn, ws_Model_turn, wn_Model, wc_Model_turn⟩ ⟨by decide +kernel, by decide +kernel, by decide +kernel⟩ hn hstk h8 d kk
theorem cl_Course_55 (C : ty_CX cn p s m args meth c D ad cA R_Course cc nL) (hM : ty_M l y_Course_forgetRun (Cond.code y_Course_forgetRun b_Course_forgetRun 2 none :: ty_w) rm cn D ad cA (.inr (1, i) :: As) σ P) (hR : rm.cells = 0 ∧ rm.slots = 0 ∧ rm.frames + 1 ≤ R.frames ∧ 8 + (2 + 11) + rm.locals ≤ R.locals) (hn : As.length = 0) (hstk : stk = As.reverse ++ .inr (1, i) :: st) (h8 : st.length ≤ 8) (d : decode cc pc = .ok (.invokevirtual 55, 3)) (kk : ∀ r σ', P r σ' → ty_V cn p l e R s m args below meth c D ad cA (ty_Gd cn ad s) nL Q σ' loc (pc + 3) (r.toList ++ st)) : ty_V cn p l e R s m args below meth c D ad cA (ty_Gd cn ad s) nL Q σ loc (pc) (stk) := v_callV C hM rfl rfl rfl hR.1 hR.2.1 hR.2.2.1 hR.2.2.2 ⟨ml_Course_55, wi_Course_forgetRun, ws_Course_forgetRun, wn_Course, wc_Course_forgetRun⟩ ⟨by decide +kernel, by decide +kernel, by decide +kernel⟩ hn hstk h8 d kk
theorem cl_Course_58 (C : ty_CX cn p s m args meth c D ad cA R_Course cc nL) (hM : ty_M l y_Course_stopOverruns (Cond.code y_Course_stopOverruns b_Course_stopOverruns 3 none :: ty_w) rm cn D ad cA (.inr (1, i) :: As) σ P) (hR : rm.cells = 0 ∧ rm.slots = 0 ∧ rm.frames + 1 ≤ R.frames ∧ 8 + (3 + 11) + rm.locals ≤ R.locals) (hn : As.length = 0) (hstk : stk = As.reverse ++ .inr (1, i) :: st) (h8 : st.length ≤ 8) (d : decode cc pc = .ok (.invokevirtual 58, 3)) (kk : ∀ r σ', P r σ' → ty_V cn p l e R s m args below meth c D ad cA (ty_Gd cn ad s) nL Q σ' loc (pc + 3) (r.toList ++ st)) : ty_V cn p l e R s m args below meth c D ad cA (ty_Gd cn ad s) nL Q σ loc (pc) (stk) := v_callV C hM rfl rfl rfl hR.1 hR.2.1 hR.2.2.1 hR.2.2.2 ⟨ml_Course_58, wi_Course_stopOverruns, ws_Course_stopOverruns, wn_Course, wc_Course_stopOverruns⟩ ⟨by decide +kernel, by decide +kernel, by decide +kernel⟩ hn hstk h8 d kk
theorem cl_Course_61 (C : ty_CX cn p s m args meth c D ad cA R_Course cc nL) (hM : ty_M l y_Course_releaseWorkers (Cond.code y_Course_releaseWorkers b_Course_releaseWorkers 2 none :: ty_w) rm cn D ad cA (.inr (1, i) :: As) σ P) (hR : rm.cells = 0 ∧ rm.slots = 0 ∧ rm.frames + 1 ≤ R.frames ∧ 8 + (2 + 11) + rm.locals ≤ R.locals) (hn : As.length = 0) (hstk : stk = As.reverse ++ .inr (1, i) :: st) (h8 : st.length ≤ 8) (d : decode cc pc = .ok (.invokevirtual 61, 3)) (kk : ∀ r σ', P r σ' → ty_V cn p l e R s m args below meth c D ad cA (ty_Gd cn ad s) nL Q σ' loc (pc + 3) (r.toList ++ st)) : ty_V cn p l e R s m args below meth c D ad cA (ty_Gd cn ad s) nL Q σ loc (pc) (stk) := v_callV C hM rfl rfl rfl hR.1 hR.2.1 hR.2.2.1 hR.2.2.2 ⟨ml_Course_61, wi_Course_releaseWorkers, ws_Course_releaseWorkers, wn_Course, wc_Course_releaseWorkers⟩ ⟨by decide +kernel, by decide +kernel, by decide +kernel⟩ hn hstk h8 d kk
theorem cl_Course_64 (C : ty_CX cn p s m args meth c D ad cA R_Course cc nL) (hM : ty_M l y_Course_beginTrials (Cond.code y_Course_beginTrials b_Course_beginTrials 3 none :: ty_w) rm cn D ad cA (.inr (1, i) :: As) σ P) (hR : rm.cells = 0 ∧ rm.slots = 0 ∧ rm.frames + 1 ≤ R.frames ∧ 8 + (3 + 11) + rm.locals ≤ R.locals) (hn : As.length = 0) (hstk : stk = As.reverse ++ .inr (1, i) :: st) (h8 : st.length ≤ 8) (d : decode cc pc = .ok (.invokevirtual 64, 3)) (kk : ∀ r σ', P r σ' → ty_V cn p l e R s m args below meth c D ad cA (ty_Gd cn ad s) nL Q σ' loc (pc + 3) (r.toList ++ st)) : ty_V cn p l e R s m args below meth c D ad cA (ty_Gd cn ad s) nL Q σ loc (pc) (stk) := v_callV C hM rfl rfl rfl hR.1 hR.2.1 hR.2.2.1 hR.2.2.2 ⟨ml_Course_64, wi_Course_beginTrials, ws_Course_beginTrials, wn_Course, wc_Course_beginTrials⟩ ⟨by decide +kernel, by decide +kernel, by decide +kernel⟩ hn hstk h8 d kk
theorem cl_Course_70 (C : ty_CX cn p s m args meth c D ad cA R_Course cc nL) (hM : ty_M l y_Course_countRunning (Cond.code y_Course_countRunning b_Course_countRunning 3 (some .int) :: ty_w) rm cn D ad cA (.inr (1, i) :: As) σ P) (hR : rm.cells = 0 ∧ rm.slots = 0 ∧ rm.frames + 1 ≤ R.frames ∧ 8 + (3 + 11) + rm.locals ≤ R.locals) (hn : As.length = 0) (hstk : stk = As.reverse ++ .inr (1, i) :: st) (h8 : st.length ≤ 8) (d : decode cc pc = .ok (.invokevirtual 70, 3)) (kk : ∀ r σ', P r σ' → ty_V cn p l e R s m args below meth c D ad cA (ty_Gd cn ad s) nL Q σ' loc (pc + 3) (r.toList ++ st)) : ty_V cn p l e R s m args below meth c D ad cA (ty_Gd cn ad s) nL Q σ loc (pc) (stk) := v_callV C hM rfl rfl rfl hR.1 hR.2.1 hR.2.2.1 hR.2.2.2 ⟨ml_Course_70, wi_Course_countRunning, ws_Course_countRunning, wn_Course, wc_Course_countRunning⟩ ⟨by decide +kernel, by decide +kernel, by decide +kernel⟩ hn hstk h8 d kk
theorem cl_Course_74 {x y : Int32} (C : ty_CX cn p s m args meth c D ad cA R_Course cc nL) (hf : 1 ≤ R.frames) (hlo : st.length + 13 ≤ R.locals) (d : decode cc pc = .ok (.invokestatic 74, 3)) (kk : ty_V cn p l e R s m args below meth c D ad cA G nL Q σ loc (pc + 3) (.inl (if x < y then y else x) :: st)) : ty_V cn p l e R s m args below meth c D ad cA G nL Q σ loc (pc) (.inl y :: .inl x :: st) := v_mmax C ⟨ty_it 308 (by decide +kernel) rfl, ty_it 309 (by decide +kernel) rfl, ty_it 13 (by decide +kernel) rfl, ty_it 310 (by decide +kernel) rfl⟩ hf hlo d kk
theorem cl_Course_80 (C : ty_CX cn p s m args meth c D ad cA R_Course cc nL) (hM : ty_M l y_Course_isFinished (Cond.code y_Course_isFinished b_Course_isFinished 2 (some .boolean) :: ty_w) rm cn D ad cA (.inr (1, i) :: As) σ P) (hR : rm.cells = 0 ∧ rm.slots = 0 ∧ rm.frames + 1 ≤ R.frames ∧ 8 + (2 + 11) + rm.locals ≤ R.locals) (hn : As.length = 0) (hstk : stk = As.reverse ++ .inr (1, i) :: st) (h8 : st.length ≤ 8) (d : decode cc pc = .ok (.invokevirtual 80, 3)) (kk : ∀ r σ', P r σ' → ty_V cn p l e R s m args below meth c D ad cA (ty_Gd cn ad s) nL Q σ' loc (pc + 3) (r.toList ++ st)) : ty_V cn p l e R s m args below meth c D ad cA (ty_Gd cn ad s) nL Q σ loc (pc) (stk) := v_callV C hM rfl rfl rfl hR.1 hR.2.1 hR.2.2.1 hR.2.2.2 ⟨ml_Course_80, wi_Course_isFinished, ws_Course_isFinished, wn_Course, wc_Course_isFinished⟩ ⟨by decide +kernel, by decide +kernel, by decide +kernel⟩ hn hstk h8 d kk
theorem cl_Course_84 (C : ty_CX cn p s m args meth c D ad cA R_Course cc nL) (hM : ty_M l y_Course_takeTurns (Cond.code y_Course_takeTurns b_Course_takeTurns 3 none :: ty_w) rm cn D ad cA (.inr (1, i) :: As) σ P) (hR : rm.cells = 0 ∧ rm.slots = 0 ∧ rm.frames + 1 ≤ R.frames ∧ 8 + (3 + 11) + rm.locals ≤ R.locals) (hn : As.length = 0) (hstk : stk = As.reverse ++ .inr (1, i) :: st) (h8 : st.length ≤ 8) (d : decode cc pc = .ok (.invokevirtual 84, 3)) (kk : ∀ r σ', P r σ' → ty_V cn p l e R s m args below meth c D ad cA (ty_Gd cn ad s) nL Q σ' loc (pc + 3) (r.toList ++ st)) : ty_V cn p l e R s m args below meth c D ad cA (ty_Gd cn ad s) nL Q σ loc (pc) (stk) := v_callV C hM rfl rfl rfl hR.1 hR.2.1 hR.2.2.1 hR.2.2.2 ⟨ml_Course_84, wi_Course_takeTurns, ws_Course_takeTurns, wn_Course, wc_Course_takeTurns⟩ ⟨by decide +kernel, by decide +kernel, by decide +kernel⟩ hn hstk h8 d kk
theorem cl_Course_90 (C : ty_CX cn p s m args meth c D ad cA R_Course cc nL) (hM : ty_M l y_Course_leaveRest (Cond.code y_Course_leaveRest b_Course_leaveRest 2 none :: ty_w) rm cn D ad cA (.inr (1, i) :: As) σ P) (hR : rm.cells = 0 ∧ rm.slots = 0 ∧ rm.frames + 1 ≤ R.frames ∧ 8 + (2 + 11) + rm.locals ≤ R.locals) (hn : As.length = 0) (hstk : stk = As.reverse ++ .inr (1, i) :: st) (h8 : st.length ≤ 8) (d : decode cc pc = .ok (.invokevirtual 90, 3)) (kk : ∀ r σ', P r σ' → ty_V cn p l e R s m args below meth c D ad cA (ty_Gd cn ad s) nL Q σ' loc (pc + 3) (r.toList ++ st)) : ty_V cn p l e R s m args below meth c D ad cA (ty_Gd cn ad s) nL Q σ loc (pc) (stk) := v_callV C hM rfl rfl rfl hR.1 hR.2.1 hR.2.2.1 hR.2.2.2 ⟨ml_Course_90, wi_Course_leaveRest, ws_Course_leaveRest, wn_Course, wc_Course_leaveRest⟩ ⟨by decide +kernel, by decide +kernel, by decide +kernel⟩ hn hstk h8 d kk
theorem cl_Course_96 (C : ty_CX cn p s m args meth c D ad cA R_Course cc nL) (hM : ty_M l y_Trial_forgetRun (Cond.code y_Trial_forgetRun b_Trial_forgetRun 1 none :: ty_w) rm cn D ad cA (.inr (3, i) :: As) σ P) (hR : rm.cells = 0 ∧ rm.slots = 0 ∧ rm.frames + 1 ≤ R.frames ∧ 8 + (1 + 11) + rm.locals ≤ R.locals) (hn : As.length = 0) (hstk : stk = As.reverse ++ .inr (3, i) :: st) (h8 : st.length ≤ 8) (d : decode cc pc = .ok (.invokevirtual 96, 3)) (kk : ∀ r σ', P r σ' → ty_V cn p l e R s m args below meth c D ad cA (ty_Gd cn ad s) nL Q σ' loc (pc + 3) (r.toList ++ st)) : ty_V cn p l e R s m args below meth c D ad cA (ty_Gd cn ad s) nL Q σ loc (pc) (stk) := v_callV C hM rfl rfl rfl hR.1 hR.2.1 hR.2.2.1 hR.2.2.2 ⟨ml_Course_96, wi_Trial_forgetRun, ws_Trial_forgetRun, wn_Trial, wc_Trial_forgetRun⟩ ⟨by decide +kernel, by decide +kernel, by decide +kernel⟩ hn hstk h8 d kk
theorem cl_Course_106 (C : ty_CX cn p s m args meth c D ad cA R_Course cc nL) (hM : ty_M l y_Trial_overrunsAt (Cond.code y_Trial_overrunsAt b_Trial_overrunsAt 2 (some .boolean) :: ty_w) rm cn D ad cA (.inr (3, i) :: As) σ P) (hR : rm.cells = 0 ∧ rm.slots = 0 ∧ rm.frames + 1 ≤ R.frames ∧ 8 + (2 + 11) + rm.locals ≤ R.locals) (hn : As.length = 1) (hstk : stk = As.reverse ++ .inr (3, i) :: st) (h8 : st.length ≤ 8) (d : decode cc pc = .ok (.invokevirtual 106, 3)) (kk : ∀ r σ', P r σ' → ty_V cn p l e R s m args below meth c D ad cA (ty_Gd cn ad s) nL Q σ' loc (pc + 3) (r.toList ++ st)) : ty_V cn p l e R s m args below meth c D ad cA (ty_Gd cn ad s) nL Q σ loc (pc) (stk) := v_callV C hM rfl rfl rfl hR.1 hR.2.1 hR.2.2.1 hR.2.2.2 ⟨ml_Course_106, wi_Trial_overrunsAt, ws_Trial_overrunsAt, wn_Trial, wc_Trial_overrunsAt⟩ ⟨by decide +kernel, by decide +kernel, by decide +kernel⟩ hn hstk h8 d kk
theorem cl_Course_110 (C : ty_CX cn p s m args meth c D ad cA R_Course cc nL) (hM : ty_M l y_Trial_decide (Cond.code y_Trial_decide b_Trial_decide 3 none :: ty_w) rm cn D ad cA (.inr (3, i) :: As) σ P) (hR : rm.cells = 0 ∧ rm.slots = 0 ∧ rm.frames + 1 ≤ R.frames ∧ 8 + (3 + 11) + rm.locals ≤ R.locals) (hn : As.length = 2) (hstk : stk = As.reverse ++ .inr (3, i) :: st) (h8 : st.length ≤ 8) (d : decode cc pc = .ok (.invokevirtual 110, 3)) (kk : ∀ r σ', P r σ' → ty_V cn p l e R s m args below meth c D ad cA (ty_Gd cn ad s) nL Q σ' loc (pc + 3) (r.toList ++ st)) : ty_V cn p l e R s m args below meth c D ad cA (ty_Gd cn ad s) nL Q σ loc (pc) (stk) := v_callV C hM rfl rfl rfl hR.1 hR.2.1 hR.2.2.1 hR.2.2.2 ⟨ml_Course_110, wi_Trial_decide, ws_Trial_decide, wn_Trial, wc_Trial_decide⟩ ⟨by decide +kernel, by decide +kernel, by decide +kernel⟩ hn hstk h8 d kk
theorem cl_Course_121 (C : ty_CX cn p s m args meth c D ad cA R_Course cc nL) (hM : ty_M l y_Course_releaseIfDone (Cond.code y_Course_releaseIfDone b_Course_releaseIfDone 3 none :: ty_w) rm cn D ad cA (.inr (1, i) :: As) σ P) (hR : rm.cells = 0 ∧ rm.slots = 0 ∧ rm.frames + 1 ≤ R.frames ∧ 8 + (3 + 11) + rm.locals ≤ R.locals) (hn : As.length = 2) (hstk : stk = As.reverse ++ .inr (1, i) :: st) (h8 : st.length ≤ 8) (d : decode cc pc = .ok (.invokevirtual 121, 3)) (kk : ∀ r σ', P r σ' → ty_V cn p l e R s m args below meth c D ad cA (ty_Gd cn ad s) nL Q σ' loc (pc + 3) (r.toList ++ st)) : ty_V cn p l e R s m args below meth c D ad cA (ty_Gd cn ad s) nL Q σ loc (pc) (stk) := v_callV C hM rfl rfl rfl hR.1 hR.2.1 hR.2.2.1 hR.2.2.2 ⟨ml_Course_121, wi_Course_releaseIfDone, ws_Course_releaseIfDone, wn_Course, wc_Course_releaseIfDone⟩ ⟨by decide +kernel, by decide +kernel, by decide +kernel⟩ hn hstk h8 d kk
theorem cl_Course_134 (C : ty_CX cn p s m args meth c D ad cA R_Course cc nL) (hM : ty_M l y_Course_lowestFreeWorker (Cond.code y_Course_lowestFreeWorker b_Course_lowestFreeWorker 2 (some .int) :: ty_w) rm cn D ad cA (.inr (1, i) :: As) σ P) (hR : rm.cells = 0 ∧ rm.slots = 0 ∧ rm.frames + 1 ≤ R.frames ∧ 8 + (2 + 11) + rm.locals ≤ R.locals) (hn : As.length = 0) (hstk : stk = As.reverse ++ .inr (1, i) :: st) (h8 : st.length ≤ 8) (d : decode cc pc = .ok (.invokevirtual 134, 3)) (kk : ∀ r σ', P r σ' → ty_V cn p l e R s m args below meth c D ad cA (ty_Gd cn ad s) nL Q σ' loc (pc + 3) (r.toList ++ st)) : ty_V cn p l e R s m args below meth c D ad cA (ty_Gd cn ad s) nL Q σ loc (pc) (stk) := v_callV C hM rfl rfl rfl hR.1 hR.2.1 hR.2.2.1 hR.2.2.2 ⟨ml_Course_134, wi_Course_lowestFreeWorker, ws_Course_lowestFreeWorker, wn_Course, wc_Course_lowestFreeWorker⟩ ⟨by decide +kernel, by decide +kernel, by decide +kernel⟩ hn hstk h8 d kk
theorem cl_Course_140 (C : ty_CX cn p s m args meth c D ad cA R_Course cc nL) (hM : ty_M l y_Course_canHaveLocks (Cond.code y_Course_canHaveLocks b_Course_canHaveLocks 3 (some .boolean) :: ty_w) rm cn D ad cA (.inr (1, i) :: As) σ P) (hR : rm.cells = 0 ∧ rm.slots = 0 ∧ rm.frames + 1 ≤ R.frames ∧ 8 + (3 + 11) + rm.locals ≤ R.locals) (hn : As.length = 1) (hstk : stk = As.reverse ++ .inr (1, i) :: st) (h8 : st.length ≤ 8) (d : decode cc pc = .ok (.invokevirtual 140, 3)) (kk : ∀ r σ', P r σ' → ty_V cn p l e R s m args below meth c D ad cA (ty_Gd cn ad s) nL Q σ' loc (pc + 3) (r.toList ++ st)) : ty_V cn p l e R s m args below meth c D ad cA (ty_Gd cn ad s) nL Q σ loc (pc) (stk) := v_callV C hM rfl rfl rfl hR.1 hR.2.1 hR.2.2.1 hR.2.2.2 ⟨ml_Course_140, wi_Course_canHaveLocks, ws_Course_canHaveLocks, wn_Course, wc_Course_canHaveLocks⟩ ⟨by decide +kernel, by decide +kernel, by decide +kernel⟩ hn hstk h8 d kk
theorem cl_Course_144 (C : ty_CX cn p s m args meth c D ad cA R_Course cc nL) (hM : ty_M l y_Course_begin (Cond.code y_Course_begin b_Course_begin 4 none :: ty_w) rm cn D ad cA (.inr (1, i) :: As) σ P) (hR : rm.cells = 0 ∧ rm.slots = 0 ∧ rm.frames + 1 ≤ R.frames ∧ 8 + (4 + 11) + rm.locals ≤ R.locals) (hn : As.length = 2) (hstk : stk = As.reverse ++ .inr (1, i) :: st) (h8 : st.length ≤ 8) (d : decode cc pc = .ok (.invokevirtual 144, 3)) (kk : ∀ r σ', P r σ' → ty_V cn p l e R s m args below meth c D ad cA (ty_Gd cn ad s) nL Q σ' loc (pc + 3) (r.toList ++ st)) : ty_V cn p l e R s m args below meth c D ad cA (ty_Gd cn ad s) nL Q σ loc (pc) (stk) := v_callV C hM rfl rfl rfl hR.1 hR.2.1 hR.2.2.1 hR.2.2.2 ⟨ml_Course_144, wi_Course_begin, ws_Course_begin, wn_Course, wc_Course_begin⟩ ⟨by decide +kernel, by decide +kernel, by decide +kernel⟩ hn hstk h8 d kk
theorem cl_Course_147 (C : ty_CX cn p s m args meth c D ad cA R_Course cc nL) (hM : ty_M l y_Trial_isRunning (Cond.code y_Trial_isRunning b_Trial_isRunning 1 (some .boolean) :: ty_w) rm cn D ad cA (.inr (3, i) :: As) σ P) (hR : rm.cells = 0 ∧ rm.slots = 0 ∧ rm.frames + 1 ≤ R.frames ∧ 8 + (1 + 11) + rm.locals ≤ R.locals) (hn : As.length = 0) (hstk : stk = As.reverse ++ .inr (3, i) :: st) (h8 : st.length ≤ 8) (d : decode cc pc = .ok (.invokevirtual 147, 3)) (kk : ∀ r σ', P r σ' → ty_V cn p l e R s m args below meth c D ad cA (ty_Gd cn ad s) nL Q σ' loc (pc + 3) (r.toList ++ st)) : ty_V cn p l e R s m args below meth c D ad cA (ty_Gd cn ad s) nL Q σ loc (pc) (stk) := v_callV C hM rfl rfl rfl hR.1 hR.2.1 hR.2.2.1 hR.2.2.2 ⟨ml_Course_147, wi_Trial_isRunning, ws_Trial_isRunning, wn_Trial, wc_Trial_isRunning⟩ ⟨by decide +kernel, by decide +kernel, by decide +kernel⟩ hn hstk h8 d kk
theorem cl_Course_150 (C : ty_CX cn p s m args meth c D ad cA R_Course cc nL) (hM : ty_M l y_Trial_hindersLocksOf (Cond.code y_Trial_hindersLocksOf b_Trial_hindersLocksOf 2 (some .boolean) :: ty_w) rm cn D ad cA (.inr (3, i) :: As) σ P) (hR : rm.cells = 0 ∧ rm.slots = 0 ∧ rm.frames + 1 ≤ R.frames ∧ 8 + (2 + 11) + rm.locals ≤ R.locals) (hn : As.length = 1) (hstk : stk = As.reverse ++ .inr (3, i) :: st) (h8 : st.length ≤ 8) (d : decode cc pc = .ok (.invokevirtual 150, 3)) (kk : ∀ r σ', P r σ' → ty_V cn p l e R s m args below meth c D ad cA (ty_Gd cn ad s) nL Q σ' loc (pc + 3) (r.toList ++ st)) : ty_V cn p l e R s m args below meth c D ad cA (ty_Gd cn ad s) nL Q σ loc (pc) (stk) := v_callV C hM rfl rfl rfl hR.1 hR.2.1 hR.2.2.1 hR.2.2.2 ⟨ml_Course_150, wi_Trial_hindersLocksOf, ws_Trial_hindersLocksOf, wn_Trial, wc_Trial_hindersLocksOf⟩ ⟨by decide +kernel, by decide +kernel, by decide +kernel⟩ hn hstk h8 d kk
theorem cl_Course_159 (C : ty_CX cn p s m args meth c D ad cA R_Course cc nL) (hM : ty_M l y_Course_startStrand (Cond.code y_Course_startStrand b_Course_startStrand 4 none :: ty_w) rm cn D ad cA (.inr (1, i) :: As) σ P) (hR : rm.cells = 0 ∧ rm.slots = 0 ∧ rm.frames + 1 ≤ R.frames ∧ 8 + (4 + 11) + rm.locals ≤ R.locals) (hn : As.length = 3) (hstk : stk = As.reverse ++ .inr (1, i) :: st) (h8 : st.length ≤ 8) (d : decode cc pc = .ok (.invokevirtual 159, 3)) (kk : ∀ r σ', P r σ' → ty_V cn p l e R s m args below meth c D ad cA (ty_Gd cn ad s) nL Q σ' loc (pc + 3) (r.toList ++ st)) : ty_V cn p l e R s m args below meth c D ad cA (ty_Gd cn ad s) nL Q σ loc (pc) (stk) := v_callV C hM rfl rfl rfl hR.1 hR.2.1 hR.2.2.1 hR.2.2.2 ⟨ml_Course_159, wi_Course_startStrand, ws_Course_startStrand, wn_Course, wc_Course_startStrand⟩ ⟨by decide +kernel, by decide +kernel, by decide +kernel⟩ hn hstk h8 d kk
theorem cl_Course_163 (C : ty_CX cn p s m args meth c D ad cA R_Course cc nL) (hM : ty_M l y_Strand_start (Cond.code y_Strand_start b_Strand_start 4 none :: ty_w) rm cn D ad cA (.inr (4, i) :: As) σ P) (hR : rm.cells = 0 ∧ rm.slots = 0 ∧ rm.frames + 1 ≤ R.frames ∧ 8 + (4 + 11) + rm.locals ≤ R.locals) (hn : As.length = 3) (hstk : stk = As.reverse ++ .inr (4, i) :: st) (h8 : st.length ≤ 8) (d : decode cc pc = .ok (.invokevirtual 163, 3)) (kk : ∀ r σ', P r σ' → ty_V cn p l e R s m args below meth c D ad cA (ty_Gd cn ad s) nL Q σ' loc (pc + 3) (r.toList ++ st)) : ty_V cn p l e R s m args below meth c D ad cA (ty_Gd cn ad s) nL Q σ loc (pc) (stk) := v_callV C hM rfl rfl rfl hR.1 hR.2.1 hR.2.2.1 hR.2.2.2 ⟨ml_Course_163, wi_Strand_start, ws_Strand_start, wn_Strand, wc_Strand_start⟩ ⟨by decide +kernel, by decide +kernel, by decide +kernel⟩ hn hstk h8 d kk
theorem cl_Course_167 (C : ty_CX cn p s m args meth c D ad cA R_Course cc nL) (hM : ty_M l y_Course_takeTurn (Cond.code y_Course_takeTurn b_Course_takeTurn 4 none :: ty_w) rm cn D ad cA (.inr (1, i) :: As) σ P) (hR : rm.cells = 0 ∧ rm.slots = 0 ∧ rm.frames + 1 ≤ R.frames ∧ 8 + (4 + 11) + rm.locals ≤ R.locals) (hn : As.length = 1) (hstk : stk = As.reverse ++ .inr (1, i) :: st) (h8 : st.length ≤ 8) (d : decode cc pc = .ok (.invokevirtual 167, 3)) (kk : ∀ r σ', P r σ' → ty_V cn p l e R s m args below meth c D ad cA (ty_Gd cn ad s) nL Q σ' loc (pc + 3) (r.toList ++ st)) : ty_V cn p l e R s m args below meth c D ad cA (ty_Gd cn ad s) nL Q σ loc (pc) (stk) := v_callV C hM rfl rfl rfl hR.1 hR.2.1 hR.2.2.1 hR.2.2.2 ⟨ml_Course_167, wi_Course_takeTurn, ws_Course_takeTurn, wn_Course, wc_Course_takeTurn⟩ ⟨by decide +kernel, by decide +kernel, by decide +kernel⟩ hn hstk h8 d kk
theorem cl_Course_170 (C : ty_CX cn p s m args meth c D ad cA R_Course cc nL) (hM : ty_M l y_Course_doAction (Cond.code y_Course_doAction b_Course_doAction 6 (some .boolean) :: ty_w) rm cn D ad cA (.inr (1, i) :: As) σ P) (hR : rm.cells = 0 ∧ rm.slots = 0 ∧ rm.frames + 1 ≤ R.frames ∧ 8 + (6 + 11) + rm.locals ≤ R.locals) (hn : As.length = 1) (hstk : stk = As.reverse ++ .inr (1, i) :: st) (h8 : st.length ≤ 8) (d : decode cc pc = .ok (.invokevirtual 170, 3)) (kk : ∀ r σ', P r σ' → ty_V cn p l e R s m args below meth c D ad cA (ty_Gd cn ad s) nL Q σ' loc (pc + 3) (r.toList ++ st)) : ty_V cn p l e R s m args below meth c D ad cA (ty_Gd cn ad s) nL Q σ loc (pc) (stk) := v_callV C hM rfl rfl rfl hR.1 hR.2.1 hR.2.2.1 hR.2.2.2 ⟨ml_Course_170, wi_Course_doAction, ws_Course_doAction, wn_Course, wc_Course_doAction⟩ ⟨by decide +kernel, by decide +kernel, by decide +kernel⟩ hn hstk h8 d kk
theorem cl_Course_173 (C : ty_CX cn p s m args meth c D ad cA R_Course cc nL) (hM : ty_M l y_Course_tellEnd (Cond.code y_Course_tellEnd b_Course_tellEnd 5 none :: ty_w) rm cn D ad cA (.inr (1, i) :: As) σ P) (hR : rm.cells = 0 ∧ rm.slots = 0 ∧ rm.frames + 1 ≤ R.frames ∧ 8 + (5 + 11) + rm.locals ≤ R.locals) (hn : As.length = 1) (hstk : stk = As.reverse ++ .inr (1, i) :: st) (h8 : st.length ≤ 8) (d : decode cc pc = .ok (.invokevirtual 173, 3)) (kk : ∀ r σ', P r σ' → ty_V cn p l e R s m args below meth c D ad cA (ty_Gd cn ad s) nL Q σ' loc (pc + 3) (r.toList ++ st)) : ty_V cn p l e R s m args below meth c D ad cA (ty_Gd cn ad s) nL Q σ loc (pc) (stk) := v_callV C hM rfl rfl rfl hR.1 hR.2.1 hR.2.2.1 hR.2.2.2 ⟨ml_Course_173, wi_Course_tellEnd, ws_Course_tellEnd, wn_Course, wc_Course_tellEnd⟩ ⟨by decide +kernel, by decide +kernel, by decide +kernel⟩ hn hstk h8 d kk
theorem cl_Course_181 (C : ty_CX cn p s m args meth c D ad cA R_Course cc nL) (hM : ty_M l y_Strand_end (Cond.code y_Strand_end b_Strand_end 2 none :: ty_w) rm cn D ad cA (.inr (4, i) :: As) σ P) (hR : rm.cells = 0 ∧ rm.slots = 0 ∧ rm.frames + 1 ≤ R.frames ∧ 8 + (2 + 11) + rm.locals ≤ R.locals) (hn : As.length = 1) (hstk : stk = As.reverse ++ .inr (4, i) :: st) (h8 : st.length ≤ 8) (d : decode cc pc = .ok (.invokevirtual 181, 3)) (kk : ∀ r σ', P r σ' → ty_V cn p l e R s m args below meth c D ad cA (ty_Gd cn ad s) nL Q σ' loc (pc + 3) (r.toList ++ st)) : ty_V cn p l e R s m args below meth c D ad cA (ty_Gd cn ad s) nL Q σ loc (pc) (stk) := v_callV C hM rfl rfl rfl hR.1 hR.2.1 hR.2.2.1 hR.2.2.2 ⟨ml_Course_181, wi_Strand_end, ws_Strand_end, wn_Strand, wc_Strand_end⟩ ⟨by decide +kernel, by decide +kernel, by decide +kernel⟩ hn hstk h8 d kk
theorem cl_Course_190 (C : ty_CX cn p s m args meth c D ad cA R_Course cc nL) (hM : ty_M l y_Course_waitIn (Cond.code y_Course_waitIn b_Course_waitIn 6 (some .boolean) :: ty_w) rm cn D ad cA (.inr (1, i) :: As) σ P) (hR : rm.cells = 0 ∧ rm.slots = 0 ∧ rm.frames + 1 ≤ R.frames ∧ 8 + (6 + 11) + rm.locals ≤ R.locals) (hn : As.length = 3) (hstk : stk = As.reverse ++ .inr (1, i) :: st) (h8 : st.length ≤ 8) (d : decode cc pc = .ok (.invokevirtual 190, 3)) (kk : ∀ r σ', P r σ' → ty_V cn p l e R s m args below meth c D ad cA (ty_Gd cn ad s) nL Q σ' loc (pc + 3) (r.toList ++ st)) : ty_V cn p l e R s m args below meth c D ad cA (ty_Gd cn ad s) nL Q σ loc (pc) (stk) := v_callV C hM rfl rfl rfl hR.1 hR.2.1 hR.2.2.1 hR.2.2.2 ⟨ml_Course_190, wi_Course_waitIn, ws_Course_waitIn, wn_Course, wc_Course_waitIn⟩ ⟨by decide +kernel, by decide +kernel, by decide +kernel⟩ hn hstk h8 d kk
theorem cl_Course_194 (C : ty_CX cn p s m args meth c D ad cA R_Course cc nL) (hM : ty_M l y_Course_actAtOnce (Cond.code y_Course_actAtOnce b_Course_actAtOnce 5 none :: ty_w) rm cn D ad cA (.inr (1, i) :: As) σ P) (hR : rm.cells = 0 ∧ rm.slots = 0 ∧ rm.frames + 1 ≤ R.frames ∧ 8 + (5 + 11) + rm.locals ≤ R.locals) (hn : As.length = 3) (hstk : stk = As.reverse ++ .inr (1, i) :: st) (h8 : st.length ≤ 8) (d : decode cc pc = .ok (.invokevirtual 194, 3)) (kk : ∀ r σ', P r σ' → ty_V cn p l e R s m args below meth c D ad cA (ty_Gd cn ad s) nL Q σ' loc (pc + 3) (r.toList ++ st)) : ty_V cn p l e R s m args below meth c D ad cA (ty_Gd cn ad s) nL Q σ loc (pc) (stk) := v_callV C hM rfl rfl rfl hR.1 hR.2.1 hR.2.2.1 hR.2.2.2 ⟨ml_Course_194, wi_Course_actAtOnce, ws_Course_actAtOnce, wn_Course, wc_Course_actAtOnce⟩ ⟨by decide +kernel, by decide +kernel, by decide +kernel⟩ hn hstk h8 d kk
theorem cl_Course_200 (C : ty_CX cn p s m args meth c D ad cA R_Course cc nL) (hM : ty_M l y_Log_add (Cond.code y_Log_add b_Log_add 2 none :: ty_w) rm cn D ad cA (.inr (5, i) :: As) σ P) (hR : rm.cells = 0 ∧ rm.slots = 0 ∧ rm.frames + 1 ≤ R.frames ∧ 8 + (2 + 11) + rm.locals ≤ R.locals) (hn : As.length = 1) (hstk : stk = As.reverse ++ .inr (5, i) :: st) (h8 : st.length ≤ 8) (d : decode cc pc = .ok (.invokevirtual 200, 3)) (kk : ∀ r σ', P r σ' → ty_V cn p l e R s m args below meth c D ad cA (ty_Gd cn ad s) nL Q σ' loc (pc + 3) (r.toList ++ st)) : ty_V cn p l e R s m args below meth c D ad cA (ty_Gd cn ad s) nL Q σ loc (pc) (stk) := v_callV C hM rfl rfl rfl hR.1 hR.2.1 hR.2.2.1 hR.2.2.2 ⟨ml_Course_200, wi_Log_add, ws_Log_add, wn_Log, wc_Log_add⟩ ⟨by decide +kernel, by decide +kernel, by decide +kernel⟩ hn hstk h8 d kk
theorem cl_Course_203 (C : ty_CX cn p s m args meth c D ad cA R_Course cc nL) (hM : ty_M l y_Strand_takeMark (Cond.code y_Strand_takeMark b_Strand_takeMark 2 (some .boolean) :: ty_w) rm cn D ad cA (.inr (4, i) :: As) σ P) (hR : rm.cells = 0 ∧ rm.slots = 0 ∧ rm.frames + 1 ≤ R.frames ∧ 8 + (2 + 11) + rm.locals ≤ R.locals) (hn : As.length = 0) (hstk : stk = As.reverse ++ .inr (4, i) :: st) (h8 : st.length ≤ 8) (d : decode cc pc = .ok (.invokevirtual 203, 3)) (kk : ∀ r σ', P r σ' → ty_V cn p l e R s m args below meth c D ad cA (ty_Gd cn ad s) nL Q σ' loc (pc + 3) (r.toList ++ st)) : ty_V cn p l e R s m args below meth c D ad cA (ty_Gd cn ad s) nL Q σ loc (pc) (stk) := v_callV C hM rfl rfl rfl hR.1 hR.2.1 hR.2.2.1 hR.2.2.2 ⟨ml_Course_203, wi_Strand_takeMark, ws_Strand_takeMark, wn_Strand, wc_Strand_takeMark⟩ ⟨by decide +kernel, by decide +kernel, by decide +kernel⟩ hn hstk h8 d kk
theorem cl_Course_209 (C : ty_CX cn p s m args meth c D ad cA R_Course cc nL) (hM : ty_M l y_Course_markStartedBy (Cond.code y_Course_markStartedBy b_Course_markStartedBy 3 none :: ty_w) rm cn D ad cA (.inr (1, i) :: As) σ P) (hR : rm.cells = 0 ∧ rm.slots = 0 ∧ rm.frames + 1 ≤ R.frames ∧ 8 + (3 + 11) + rm.locals ≤ R.locals) (hn : As.length = 1) (hstk : stk = As.reverse ++ .inr (1, i) :: st) (h8 : st.length ≤ 8) (d : decode cc pc = .ok (.invokevirtual 209, 3)) (kk : ∀ r σ', P r σ' → ty_V cn p l e R s m args below meth c D ad cA (ty_Gd cn ad s) nL Q σ' loc (pc + 3) (r.toList ++ st)) : ty_V cn p l e R s m args below meth c D ad cA (ty_Gd cn ad s) nL Q σ loc (pc) (stk) := v_callV C hM rfl rfl rfl hR.1 hR.2.1 hR.2.2.1 hR.2.2.2 ⟨ml_Course_209, wi_Course_markStartedBy, ws_Course_markStartedBy, wn_Course, wc_Course_markStartedBy⟩ ⟨by decide +kernel, by decide +kernel, by decide +kernel⟩ hn hstk h8 d kk
theorem cl_Course_218 (C : ty_CX cn p s m args meth c D ad cA R_Course cc nL) (hM : ty_M l y_Course_interrupt (Cond.code y_Course_interrupt b_Course_interrupt 3 (some .boolean) :: ty_w) rm cn D ad cA (.inr (1, i) :: As) σ P) (hR : rm.cells = 0 ∧ rm.slots = 0 ∧ rm.frames + 1 ≤ R.frames ∧ 8 + (3 + 11) + rm.locals ≤ R.locals) (hn : As.length = 1) (hstk : stk = As.reverse ++ .inr (1, i) :: st) (h8 : st.length ≤ 8) (d : decode cc pc = .ok (.invokevirtual 218, 3)) (kk : ∀ r σ', P r σ' → ty_V cn p l e R s m args below meth c D ad cA (ty_Gd cn ad s) nL Q σ' loc (pc + 3) (r.toList ++ st)) : ty_V cn p l e R s m args below meth c D ad cA (ty_Gd cn ad s) nL Q σ loc (pc) (stk) := v_callV C hM rfl rfl rfl hR.1 hR.2.1 hR.2.2.1 hR.2.2.2 ⟨ml_Course_218, wi_Course_interrupt, ws_Course_interrupt, wn_Course, wc_Course_interrupt⟩ ⟨by decide +kernel, by decide +kernel, by decide +kernel⟩ hn hstk h8 d kk
theorem cl_Course_222 (C : ty_CX cn p s m args meth c D ad cA R_Course cc nL) (hM : ty_M l y_Course_areStartedOver (Cond.code y_Course_areStartedOver b_Course_areStartedOver 3 (some .boolean) :: ty_w) rm cn D ad cA (.inr (1, i) :: As) σ P) (hR : rm.cells = 0 ∧ rm.slots = 0 ∧ rm.frames + 1 ≤ R.frames ∧ 8 + (3 + 11) + rm.locals ≤ R.locals) (hn : As.length = 1) (hstk : stk = As.reverse ++ .inr (1, i) :: st) (h8 : st.length ≤ 8) (d : decode cc pc = .ok (.invokevirtual 222, 3)) (kk : ∀ r σ', P r σ' → ty_V cn p l e R s m args below meth c D ad cA (ty_Gd cn ad s) nL Q σ' loc (pc + 3) (r.toList ++ st)) : ty_V cn p l e R s m args below meth c D ad cA (ty_Gd cn ad s) nL Q σ loc (pc) (stk) := v_callV C hM rfl rfl rfl hR.1 hR.2.1 hR.2.2.1 hR.2.2.2 ⟨ml_Course_222, wi_Course_areStartedOver, ws_Course_areStartedOver, wn_Course, wc_Course_areStartedOver⟩ ⟨by decide +kernel, by decide +kernel, by decide +kernel⟩ hn hstk h8 d kk
theorem cl_Course_225 (C : ty_CX cn p s m args meth c D ad cA R_Course cc nL) (hM : ty_M l y_Program_endOfGuardAround (Cond.code y_Program_endOfGuardAround b_Program_endOfGuardAround 3 (some .int) :: ty_w) rm cn D ad cA (.inr (2, i) :: As) σ P) (hR : rm.cells = 0 ∧ rm.slots = 0 ∧ rm.frames + 1 ≤ R.frames ∧ 8 + (3 + 11) + rm.locals ≤ R.locals) (hn : As.length = 1) (hstk : stk = As.reverse ++ .inr (2, i) :: st) (h8 : st.length ≤ 8) (d : decode cc pc = .ok (.invokevirtual 225, 3)) (kk : ∀ r σ', P r σ' → ty_V cn p l e R s m args below meth c D ad cA (ty_Gd cn ad s) nL Q σ' loc (pc + 3) (r.toList ++ st)) : ty_V cn p l e R s m args below meth c D ad cA (ty_Gd cn ad s) nL Q σ loc (pc) (stk) := v_callV C hM rfl rfl rfl hR.1 hR.2.1 hR.2.2.1 hR.2.2.2 ⟨ml_Course_225, wi_Program_endOfGuardAround, ws_Program_endOfGuardAround, wn_Program, wc_Program_endOfGuardAround⟩ ⟨by decide +kernel, by decide +kernel, by decide +kernel⟩ hn hstk h8 d kk
theorem cl_Course_235 (C : ty_CX cn p s m args meth c D ad cA R_Course cc nL) (hM : ty_M l y_Trial_decideByDeath (Cond.code y_Trial_decideByDeath b_Trial_decideByDeath 3 none :: ty_w) rm cn D ad cA (.inr (3, i) :: As) σ P) (hR : rm.cells = 0 ∧ rm.slots = 0 ∧ rm.frames + 1 ≤ R.frames ∧ 8 + (3 + 11) + rm.locals ≤ R.locals) (hn : As.length = 2) (hstk : stk = As.reverse ++ .inr (3, i) :: st) (h8 : st.length ≤ 8) (d : decode cc pc = .ok (.invokevirtual 235, 3)) (kk : ∀ r σ', P r σ' → ty_V cn p l e R s m args below meth c D ad cA (ty_Gd cn ad s) nL Q σ' loc (pc + 3) (r.toList ++ st)) : ty_V cn p l e R s m args below meth c D ad cA (ty_Gd cn ad s) nL Q σ loc (pc) (stk) := v_callV C hM rfl rfl rfl hR.1 hR.2.1 hR.2.2.1 hR.2.2.2 ⟨ml_Course_235, wi_Trial_decideByDeath, ws_Trial_decideByDeath, wn_Trial, wc_Trial_decideByDeath⟩ ⟨by decide +kernel, by decide +kernel, by decide +kernel⟩ hn hstk h8 d kk
theorem cl_Program_25 (C : ty_CX cn p s m args meth c D ad cA R_Program cc nL) (hM : ty_M l y_Program_endOfGuard (Cond.code y_Program_endOfGuard b_Program_endOfGuard 5 (some .int) :: ty_w) rm cn D ad cA (.inr (2, i) :: As) σ P) (hR : rm.cells = 0 ∧ rm.slots = 0 ∧ rm.frames + 1 ≤ R.frames ∧ 8 + (5 + 11) + rm.locals ≤ R.locals) (hn : As.length = 2) (hstk : stk = As.reverse ++ .inr (2, i) :: st) (h8 : st.length ≤ 8) (d : decode cc pc = .ok (.invokevirtual 25, 3)) (kk : ∀ r σ', P r σ' → ty_V cn p l e R s m args below meth c D ad cA (ty_Gd cn ad s) nL Q σ' loc (pc + 3) (r.toList ++ st)) : ty_V cn p l e R s m args below meth c D ad cA (ty_Gd cn ad s) nL Q σ loc (pc) (stk) := v_callV C hM rfl rfl rfl hR.1 hR.2.1 hR.2.2.1 hR.2.2.2 ⟨ml_Program_25, wi_Program_endOfGuard, ws_Program_endOfGuard, wn_Program, wc_Program_endOfGuard⟩ ⟨by decide +kernel, by decide +kernel, by decide +kernel⟩ hn hstk h8 d kk
theorem cl_Program_29 (C : ty_CX cn p s m args meth c D ad cA R_Program cc nL) (hM : ty_M l y_Program_endOfGuardAround (Cond.code y_Program_endOfGuardAround b_Program_endOfGuardAround 3 (some .int) :: ty_w) rm cn D ad cA (.inr (2, i) :: As) σ P) (hR : rm.cells = 0 ∧ rm.slots = 0 ∧ rm.frames + 1 ≤ R.frames ∧ 8 + (3 + 11) + rm.locals ≤ R.locals) (hn : As.length = 1) (hstk : stk = As.reverse ++ .inr (2, i) :: st) (h8 : st.length ≤ 8) (d : decode cc pc = .ok (.invokevirtual 29, 3)) (kk : ∀ r σ', P r σ' → ty_V cn p l e R s m args below meth c D ad cA (ty_Gd cn ad s) nL Q σ' loc (pc + 3) (r.toList ++ st)) : ty_V cn p l e R s m args below meth c D ad cA (ty_Gd cn ad s) nL Q σ loc (pc) (stk) := v_callV C hM rfl rfl rfl hR.1 hR.2.1 hR.2.2.1 hR.2.2.2 ⟨ml_Program_29, wi_Program_endOfGuardAround, ws_Program_endOfGuardAround, wn_Program, wc_Program_endOfGuardAround⟩ ⟨by decide +kernel, by decide +kernel, by decide +kernel⟩ hn hstk h8 d kk
theorem cl_Program_33 {x y : Int32} (C : ty_CX cn p s m args meth c D ad cA R_Program cc nL) (hf : 1 ≤ R.frames) (hlo : st.length + 13 ≤ R.locals) (d : decode cc pc = .ok (.invokestatic 33, 3)) (kk : ty_V cn p l e R s m args below meth c D ad cA G nL Q σ loc (pc + 3) (.inl (if y < x then y else x) :: st)) : ty_V cn p l e R s m args below meth c D ad cA G nL Q σ loc (pc) (.inl y :: .inl x :: st) := v_mmin C ⟨ty_it 477 (by decide +kernel) rfl, ty_it 478 (by decide +kernel) rfl, ty_it 13 (by decide +kernel) rfl, ty_it 479 (by decide +kernel) rfl⟩ hf hlo d kk
theorem cl_Trial_9 (C : ty_CX cn p s m args meth c D ad cA R_Trial cc nL) (hM : ty_M l y_Trial_forgetRun (Cond.code y_Trial_forgetRun b_Trial_forgetRun 1 none :: ty_w) rm cn D ad cA (.inr (3, i) :: As) σ P) (hR : rm.cells = 0 ∧ rm.slots = 0 ∧ rm.frames + 1 ≤ R.frames ∧ 8 + (1 + 11) + rm.locals ≤ R.locals) (hn : As.length = 0) (hstk : stk = As.reverse ++ .inr (3, i) :: st) (h8 : st.length ≤ 8) (d : decode cc pc = .ok (.invokevirtual 9, 3)) (kk : ∀ r σ', P r σ' → ty_V cn p l e R s m args below meth c D ad cA (ty_Gd cn ad s) nL Q σ' loc (pc + 3) (r.toList ++ st)) : ty_V cn p l e R s m args below meth c D ad cA (ty_Gd cn ad s) nL Q σ loc (pc) (stk) := v_callV C hM rfl rfl rfl hR.1 hR.2.1 hR.2.2.1 hR.2.2.2 ⟨ml_Trial_9, wi_Trial_forgetRun, ws_Trial_forgetRun, wn_Trial, wc_Trial_forgetRun⟩ ⟨by decide +kernel, by decide +kernel, by decide +kernel⟩ hn hstk h8 d kk
theorem cl_Trial_55 (C : ty_CX cn p s m args meth c D ad cA R_Trial cc nL) (hM : ty_M l y_Trial_isRunning (Cond.code y_Trial_isRunning b_Trial_isRunning 1 (some .boolean) :: ty_w) rm cn D ad cA (.inr (3, i) :: As) σ P) (hR : rm.cells = 0 ∧ rm.slots = 0 ∧ rm.frames + 1 ≤ R.frames ∧ 8 + (1 + 11) + rm.locals ≤ R.locals) (hn : As.length = 0) (hstk : stk = As.reverse ++ .inr (3, i) :: st) (h8 : st.length ≤ 8) (d : decode cc pc = .ok (.invokevirtual 55, 3)) (kk : ∀ r σ', P r σ' → ty_V cn p l e R s m args below meth c D ad cA (ty_Gd cn ad s) nL Q σ' loc (pc + 3) (r.toList ++ st)) : ty_V cn p l e R s m args below meth c D ad cA (ty_Gd cn ad s) nL Q σ loc (pc) (stk) := v_callV C hM rfl rfl rfl hR.1 hR.2.1 hR.2.2.1 hR.2.2.2 ⟨ml_Trial_55, wi_Trial_isRunning, ws_Trial_isRunning, wn_Trial, wc_Trial_isRunning⟩ ⟨by decide +kernel, by decide +kernel, by decide +kernel⟩ hn hstk h8 d kk
theorem cl_Trial_59 (C : ty_CX cn p s m args meth c D ad cA R_Trial cc nL) (hM : ty_M l y_Trial_decide (Cond.code y_Trial_decide b_Trial_decide 3 none :: ty_w) rm cn D ad cA (.inr (3, i) :: As) σ P) (hR : rm.cells = 0 ∧ rm.slots = 0 ∧ rm.frames + 1 ≤ R.frames ∧ 8 + (3 + 11) + rm.locals ≤ R.locals) (hn : As.length = 2) (hstk : stk = As.reverse ++ .inr (3, i) :: st) (h8 : st.length ≤ 8) (d : decode cc pc = .ok (.invokevirtual 59, 3)) (kk : ∀ r σ', P r σ' → ty_V cn p l e R s m args below meth c D ad cA (ty_Gd cn ad s) nL Q σ' loc (pc + 3) (r.toList ++ st)) : ty_V cn p l e R s m args below meth c D ad cA (ty_Gd cn ad s) nL Q σ loc (pc) (stk) := v_callV C hM rfl rfl rfl hR.1 hR.2.1 hR.2.2.1 hR.2.2.2 ⟨ml_Trial_59, wi_Trial_decide, ws_Trial_decide, wn_Trial, wc_Trial_decide⟩ ⟨by decide +kernel, by decide +kernel, by decide +kernel⟩ hn hstk h8 d kk
end TYK
end
section
/-! WHAT THE CLASS'S METHODS DO, as functions of its ints. Kinds: 0 yard, 1 course, 2 program, 3 trial, 4 strand, 5 log, 6 ops, 7 arguments, 8 guardEnds, 9 kept, 10 trialOfWorker -/
abbrev nn (x : Int32) : Nat := x.toNatClampNeg
def kIn (x lo hi : Int32) : Int32 := if lo ≤ x ∧ x ≤ hi then 1 else 0
def kAct (op a : Int32) : Int32 :=
  if op = 0 ∨ op = 1 then kIn a 1 20 else if op = 3 ∨ op = 6 then kIn a 0 99 else if op = 4 ∨ op = 5 then kIn a 0 9 else kIn op 0 11
/-- the end of the innermost guard among the first n places that reaches beyond z -/
def kEga (g : Nat → Int32) (z : Int32) : Nat → Int32
  | 0 => -1
  | n + 1 => if z < g n then g n else kEga g z n
def kGuard (g : Nat → Int32) (z len : Int32) : Int32 := if kEga g z (nn z) = -1 then z + 1 + len else if kEga g z (nn z) < z + 1 + len then kEga g z (nn z) else z + 1 + len
def kAdd (σ : ty_St) (q : Nat) (op a : Int32) : ty_St :=
  let n := nn (σ 2 q 3)
  ty_up (ty_up (ty_up (ty_up σ 6 q n op) 7 q n a) 8 q n (if op = 4 then kGuard (σ 8 q) (σ 2 q 3) a else 0)) 2 q 3 (σ 2 q 3 + 1)
def kDef (σ : ty_St) (t : Nat) (p to r w : Int32) : ty_St := ty_up (ty_up (ty_up (ty_up σ 3 t 0 p) 3 t 1 to) 3 t 2 r) 3 t 3 w
def kForgetT (σ : ty_St) (t : Nat) : ty_St :=
  ty_up (ty_up (ty_up (ty_up (ty_up (ty_up (ty_up (ty_up (ty_up σ 3 t 4 0) 3 t 5 (-1)) 3 t 6 (-1)) 3 t 7 (-1)) 3 t 8 (-1)) 3 t 9 0) 3 t 10 0) 3 t 11 (-1)) 3 t 12 (-1)
def kRunning (σ : ty_St) (t : Nat) : Int32 := if ¬ σ 3 t 6 = -1 ∧ σ 3 t 4 = 0 then 1 else 0
def kOverruns (σ : ty_St) (t : Nat) (time : Int32) : Int32 := if (¬ σ 3 t 6 = -1 ∧ σ 3 t 4 = 0) ∧ ¬ σ 3 t 1 = 0 ∧ σ 3 t 6 + σ 3 t 1 ≤ time then 1 else 0
def kHinders (σ : ty_St) (t u : Nat) : Int32 := if ¬ σ 3 t 3 &&& (σ 3 u 2 ||| σ 3 u 3) = 0 ∨ ¬ σ 3 t 2 &&& σ 3 u 3 = 0 then 1 else 0
def kDecide (σ : ty_St) (t : Nat) (v time : Int32) : ty_St := ty_up (ty_up σ 3 t 4 v) 3 t 7 time
def kByDeath (σ : ty_St) (t : Nat) (death time : Int32) : ty_St :=
  let f := if ¬ death = -1 then death else σ 3 t 12
  kDecide (ty_up σ 3 t 5 f) t (if ¬ f = -1 then 2 else 1) time
def kStart (σ : ty_St) (n : Nat) (p t st : Int32) : ty_St :=
  ty_up (ty_up (ty_up (ty_up (ty_up (ty_up (ty_up (ty_up (ty_up (ty_up σ 4 n 0 p) 4 n 1 t) 4 n 2 st) 4 n 3 0) 4 n 4 0) 4 n 5 0) 4 n 6 0) 4 n 7 0) 4 n 8 0) 4 n 9 (-1)
def kEnd (σ : ty_St) (n : Nat) (d : Int32) : ty_St := ty_up (ty_up σ 4 n 8 1) 4 n 9 d
def kTake (σ : ty_St) (n : Nat) : ty_St := ty_up σ 4 n 6 0
/-- the log i (0: the notes, 12 are kept; 1: the warnings, 8) is told x -/
def kCap (i : Nat) : Int32 := if i = 0 then 12 else 8
def kLog (σ : ty_St) (i : Nat) (x : Int32) : ty_St :=
  let σ1 := if σ 5 i 1 < kCap i then ty_up σ 9 i (nn (σ 5 i 1)) x else σ
  ty_up σ1 5 i 1 (σ1 5 i 1 + 1)
def kKeeps (σ : ty_St) (i : Nat) (k : Int32) : Int32 := if 0 ≤ k ∧ k < σ 5 i 1 ∧ k < kCap i then 1 else 0
/-- the first n of the trials that the run has: all passed -/
def kAllPassed (σ : ty_St) : Nat → Bool
  | 0 => true
  | n + 1 => kAllPassed σ n && decide (σ 3 n 4 = 1)
def kForgets (σ : ty_St) : Nat → ty_St
  | 0 => σ
  | n + 1 => kForgetT (kForgets σ n) n
def kFreeW (σ : ty_St) : Nat → ty_St
  | 0 => σ
  | n + 1 => ty_up (kFreeW σ n) 10 0 n (-1)
def kForgetRun (σ : ty_St) : ty_St :=
  ty_up (ty_up (ty_up (ty_up (ty_up (ty_up (kFreeW (kForgets σ (nn (σ 1 0 6))) 4) 5 0 1 0) 5 1 1 0) 1 0 8 0) 1 0 9 0) 1 0 10 0) 1 0 11 0
def kStop1 (σ : ty_St) (t : Nat) : ty_St :=
  if kOverruns σ t (σ 1 0 11) = 1 then ty_up (kDecide σ t 3 (σ 1 0 11)) 4 (nn (σ 3 t 11)) 6 1 else σ
def kStop (σ : ty_St) : Nat → ty_St
  | 0 => σ
  | n + 1 => kStop1 (kStop σ n) n
def kReleaseIf (σ : ty_St) (w : Nat) (t : Nat) : ty_St :=
  if ¬ σ 4 (nn (σ 3 t 11)) 8 = 0 then ty_up σ 10 0 w (-1)
  else if σ 3 t 4 = 3 ∧ 3 ≤ σ 1 0 11 - σ 3 t 7 then ty_up (ty_up σ 3 t 9 1) 10 0 w (-1) else σ
def kRelease1 (σ : ty_St) (w : Nat) : ty_St := if ¬ σ 10 0 w = -1 then kReleaseIf σ w (nn (σ 10 0 w)) else σ
def kRelease (σ : ty_St) : Nat → ty_St
  | 0 => σ
  | n + 1 => kRelease1 (kRelease σ n) n
/-- the lowest free worker from i on, of n -/
def kLowest (σ : ty_St) : Nat → Nat → Int32
  | 0, _ => -1
  | k + 1, i => if σ 10 0 i = -1 then nI i else kLowest σ k (i + 1)
/-- nobody among the first n hinders t -/
def kCan (σ : ty_St) (t : Nat) : Nat → Bool
  | 0 => true
  | n + 1 => kCan σ t n && !decide (kRunning σ n = 1 ∧ kHinders σ n t = 1)
def kStartS (σ : ty_St) (p t st : Int32) : ty_St :=
  if σ 1 0 8 < 52 then
    let σ1 := kStart σ (nn (σ 1 0 8)) p t st
    let σ2 := ty_up σ1 1 0 8 (σ1 1 0 8 + 1)
    ty_up σ2 3 (nn t) 10 (σ2 3 (nn t) 10 + 1)
  else σ
def kBegin (σ : ty_St) (t : Nat) (w : Int32) : ty_St :=
  let σ1 := ty_up (ty_up (ty_up σ 3 t 6 (σ 1 0 11)) 3 t 8 w) 3 t 11 (σ 1 0 8)
  let σ2 := ty_up σ1 10 0 (nn w) (nI t)
  kStartS σ2 (σ2 3 t 0) (nI t) (-1)
def kBegin1 (σ : ty_St) (i : Nat) : ty_St :=
  if ¬ kLowest σ (nn (σ 1 0 7)) 0 = -1 ∧ σ 3 i 6 = -1 ∧ kCan σ i (nn (σ 1 0 6)) = true then kBegin σ i (kLowest σ (nn (σ 1 0 7)) 0) else σ
def kBegins (σ : ty_St) : Nat → ty_St
  | 0 => σ
  | n + 1 => kBegin1 (kBegins σ n) n
def kCount (σ : ty_St) : Nat → Int32
  | 0 => 0
  | n + 1 => if kRunning σ n = 1 then kCount σ n + 1 else kCount σ n
def kDone (σ : ty_St) : Nat → Bool
  | 0 => true
  | n + 1 => kDone σ n && !decide (σ 3 n 4 = 0)
def kIdle (σ : ty_St) : Nat → Bool
  | 0 => true
  | n + 1 => kIdle σ n && decide (σ 10 0 n = -1)
def kFinished (σ : ty_St) : Bool := kDone σ (nn (σ 1 0 6)) && kIdle σ (nn (σ 1 0 7))
def kOver (σ : ty_St) (n : Nat) : Nat → Bool
  | 0 => true
  | k + 1 => kOver σ n k && !decide (σ 4 k 2 = nI n ∧ σ 4 k 8 = 0)
def kMark (σ : ty_St) (n : Nat) : Nat → ty_St
  | 0 => σ
  | k + 1 => if (kMark σ n k) 4 k 2 = nI n ∧ (kMark σ n k) 4 k 8 = 0 then ty_up (kMark σ n k) 4 k 6 1 else kMark σ n k
def kInterrupt (σ : ty_St) (n : Nat) : Int32 × ty_St :=
  let σ1 := ty_up σ 4 n 4 0
  let b := kEga (σ1 8 (nn (σ1 4 n 0))) (σ1 4 n 3) (nn (σ1 4 n 3))
  if b = -1 then (0, kEnd σ1 n 100) else (1, ty_up σ1 4 n 3 b)
def kAt (σ : ty_St) (n : Nat) : ty_St := ty_up σ 4 n 3 (σ 4 n 3 + 1)
def kWait0 (σ : ty_St) (n : Nat) (a : Int32) : ty_St := if σ 4 n 4 = 0 then ty_up (ty_up σ 4 n 4 1) 4 n 5 (σ 1 0 11 + a) else σ
def kReady (σ : ty_St) (n : Nat) (op : Int32) : Bool := if op = 7 then kOver σ n (nn (σ 1 0 8)) else decide (¬ op = 2 ∧ σ 4 n 5 ≤ σ 1 0 11)
def kWait1 (σ : ty_St) (n : Nat) (op : Int32) : Int32 × ty_St := if kReady σ n op = true then (1, kAt (ty_up σ 4 n 4 0) n) else (0, σ)
def kWait (σ : ty_St) (n : Nat) (op a : Int32) : Int32 × ty_St :=
  if op = 0 then kWait1 (kWait0 σ n a) n op
  else if ¬ (kWait0 σ n a) 4 n 6 = 0 then kInterrupt (kTake (kWait0 σ n a) n) n
  else kWait1 (kTake (kWait0 σ n a) n) n op
def kAtOnce (σ : ty_St) (n : Nat) (op a : Int32) : ty_St :=
  if op = 5 then (if σ 1 0 8 < 40 then kStartS σ a (σ 4 n 1) (nI n) else σ)
  else if op = 6 then kLog σ 0 (100 * σ 4 n 1 + a)
  else if op = 8 then kLog (kTake σ n) 0 (100 * σ 4 n 1 + (if ¬ σ 4 n 6 = 0 then 1 else 0))
  else if op = 9 then ty_up σ 4 n 7 1
  else if op = 11 then kMark σ n (nn (σ 1 0 8))
  else σ
def kAction (σ : ty_St) (n : Nat) : Int32 × ty_St :=
  let q := nn (σ 4 n 0)
  if σ 2 q 3 ≤ σ 4 n 3 then (0, kEnd σ n (-1))
  else
    let op := σ 6 q (nn (σ 4 n 3))
    let a := σ 7 q (nn (σ 4 n 3))
    if op = 0 ∨ op = 1 ∨ op = 2 ∨ op = 7 then kWait σ n op a
    else if op = 3 then (0, kEnd σ n a)
    else if op = 10 then (0, kEnd σ n (-1))
    else (1, kAt (kAtOnce σ n op a) n)
/-- at most k further actions of the strand n -/
def kSteps (n : Nat) : Nat → ty_St → ty_St
  | 0, σ => σ
  | k + 1, σ => if (kAction σ n).1 = 0 then (kAction σ n).2 else kSteps n k (kAction σ n).2
def kTell (σ : ty_St) (n : Nat) : ty_St :=
  let t := nn (σ 4 n 1)
  if ¬ σ 3 t 4 = 0 then (if ¬ σ 4 n 9 = -1 ∧ σ 4 n 7 = 0 then kLog σ 1 (1000 * σ 4 n 1 + σ 4 n 9) else σ)
  else if nI n = σ 3 t 11 then kByDeath σ t (σ 4 n 9) (σ 1 0 11)
  else if (¬ σ 4 n 9 = -1 ∧ σ 4 n 7 = 0) ∧ σ 3 t 12 = -1 then ty_up σ 3 t 12 (σ 4 n 9) else σ
def kTurn (σ : ty_St) (n : Nat) : ty_St := if ¬ (kSteps n 11 σ) 4 n 8 = 0 then kTell (kSteps n 11 σ) n else kSteps n 11 σ
def kTurns (σ : ty_St) : Nat → ty_St
  | 0 => σ
  | k + 1 => if (kTurns σ k) 4 k 8 = 0 then kTurn (kTurns σ k) k else kTurns σ k
def kUntried (σ : ty_St) : Nat → ty_St
  | 0 => σ
  | k + 1 => if (kUntried σ k) 3 k 4 = 0 then kDecide (kUntried σ k) k 4 (σ 1 0 11) else kUntried σ k
def kLeft (σ : ty_St) : Nat → ty_St
  | 0 => σ
  | k + 1 => if (kLeft σ k) 4 k 8 = 0 then ty_up (kLeft σ k) 1 0 9 ((kLeft σ k) 1 0 9 + 1) else kLeft σ k
def kLeave (σ : ty_St) : ty_St := kLeft (kUntried σ (nn (σ 1 0 6))) (nn (σ 1 0 8))
def kTick0 (σ : ty_St) : ty_St :=
  let σ1 := kStop σ (nn (σ 1 0 6))
  let σ2 := kRelease σ1 (nn (σ1 1 0 7))
  let σ3 := kBegins σ2 (nn (σ2 1 0 6))
  ty_up σ3 1 0 10 (if σ3 1 0 10 < kCount σ3 (nn (σ3 1 0 6)) then kCount σ3 (nn (σ3 1 0 6)) else σ3 1 0 10)
def kTick1 (σ : ty_St) : ty_St := let σ1 := kTurns σ (nn (σ 1 0 8)); ty_up σ1 1 0 11 (σ1 1 0 11 + 1)
def kTicks : Nat → ty_St → ty_St
  | 0, σ => σ
  | k + 1, σ => if kFinished (kTick0 σ) = true then kTick0 σ else kTicks k (kTick1 (kTick0 σ))
def kPerform (σ : ty_St) (tc wc : Int32) : ty_St := kLeave (kTicks 150 (kForgetRun (ty_up (ty_up σ 1 0 6 tc) 1 0 7 wc)))
end
section
theorem layC : ∀ a i ci fl, ty_ki a i = .inl (ci, fl) → ∀ b z, some (b, z) ∈ fl → i < cnC a → z.getD i < cnC b := by
  intro a i ci fl h b z hm hi
  unfold ty_ki at h
  split at h <;> cases h
  · simp at hm; obtain ⟨rfl, rfl⟩ := hm; simp [cnC]
  · simp at hm; rcases hm with ⟨rfl, rfl⟩ | ⟨rfl, rfl⟩ | ⟨rfl, rfl⟩ | ⟨rfl, rfl⟩ | ⟨rfl, rfl⟩ | ⟨rfl, rfl⟩ <;> simp [cnC]
  · simp at hm; rcases hm with ⟨rfl, rfl⟩ | ⟨rfl, rfl⟩ | ⟨rfl, rfl⟩ <;> (simp [cnC] at hi ⊢; exact hi)
  · simp at hm
  · simp at hm
  · simp at hm; obtain ⟨rfl, rfl⟩ := hm; simp [cnC] at hi ⊢; exact hi
  · simp [cnC] at hi
theorem kIn_1 {x lo hi : Int32} (h : x < lo) : kIn x lo hi = 0 := if_neg (fun q => absurd q.1 (Int32.not_le.mpr h))
theorem kIn_2 {x lo hi : Int32} (h : hi < x) : kIn x lo hi = 0 := if_neg (fun q => absurd q.2 (Int32.not_le.mpr h))
theorem kIn_3 {x lo hi : Int32} (h : ¬ x < lo) (h2 : ¬ hi < x) : kIn x lo hi = 1 := if_pos ⟨Int32.not_lt.mp h, Int32.not_lt.mp h2⟩
set_option maxRecDepth 100000 in
theorem c_Yard_isWithin (l : Launch) {D : va_G} {ad : Nat → Nat → Nat} {cA : Nat → ClassId} (hJ : ty_J cnC ad) (σ : ty_St) (x lo hi : Int32) : ty_M l y_Yard_isWithin (Cond.code y_Yard_isWithin b_Yard_isWithin 3 (some .boolean) :: ty_w) (rmL 0) cnC D ad cA [.inl x, .inl lo, .inl hi] σ (fun r σ' => r = some (.inl (kIn x lo hi)) ∧ σ' = σ) := by
  refine ty_M.of rfl hJ layC (ty_oks.cons trivial (ty_oks.cons trivial (ty_oks.cons trivial ty_oks.nil))) (Nat.le_of_ble_eq_true rfl) ?_
  intro p e s m args below meth c C hr hnm
  refine v_iload_n (pc := 0) C d_Yard_isWithin_0 rfl rfl ?_
  refine v_iload_n (pc := 1) C d_Yard_isWithin_1 rfl rfl ?_
  refine v_icmp_gt (pc := 2) (tgt := 14) C d_Yard_isWithin_2 (by decide) (fun h2 => ?_) (fun h2 => ?_)
  · refine v_iconst (pc := 14) (v := 0) C d_Yard_isWithin_14 (by decide) ?_
    exact v_zreturn (pc := 15) C hr rfl ⟨by first | rw [kIn_1 h2] | rw [kIn_2 h7] | rw [kIn_3 h2 h7], rfl⟩ d_Yard_isWithin_15
  · refine v_iload_n (pc := 5) C d_Yard_isWithin_5 rfl rfl ?_
    refine v_iload_n (pc := 6) C d_Yard_isWithin_6 rfl rfl ?_
    refine v_icmp_gt (pc := 7) (tgt := 14) C d_Yard_isWithin_7 (by decide) (fun h7 => ?_) (fun h7 => ?_)
    · refine v_iconst (pc := 14) (v := 0) C d_Yard_isWithin_14 (by decide) ?_
      exact v_zreturn (pc := 15) C hr rfl ⟨by first | rw [kIn_1 h2] | rw [kIn_2 h7] | rw [kIn_3 h2 h7], rfl⟩ d_Yard_isWithin_15
    · refine v_iconst (pc := 10) (v := 1) C d_Yard_isWithin_10 (by decide) ?_
      refine v_goto (pc := 11) (tgt := 15) C d_Yard_isWithin_11 (by decide) ?_
      exact v_zreturn (pc := 15) C hr rfl ⟨by first | rw [kIn_1 h2] | rw [kIn_2 h7] | rw [kIn_3 h2 h7], rfl⟩ d_Yard_isWithin_15
set_option maxRecDepth 100000 in
theorem c_Trial_isRunning (l : Launch) {D : va_G} {ad : Nat → Nat → Nat} {cA : Nat → ClassId} (hJ : ty_J cnC ad) (σ : ty_St) (t : Nat) (ht : t < 12) : ty_M l y_Trial_isRunning (Cond.code y_Trial_isRunning b_Trial_isRunning 1 (some .boolean) :: ty_w) (rmL 0) cnC D ad cA [.inr (3, t)] σ (fun r σ' => r = some (.inl (kRunning σ t)) ∧ σ' = σ) := by
  refine ty_M.of rfl hJ layC (ty_oks.cons ht ty_oks.nil) (Nat.le_of_ble_eq_true rfl) ?_
  intro p e s m args below meth c C hr hnm
  refine v_aload_n (pc := 0) C d_Trial_isRunning_0 rfl rfl ?_
  refine gf_Trial_33 (pc := 1) C d_Trial_isRunning_1 ?_
  refine v_iconst (pc := 4) (v := (-1)) C d_Trial_isRunning_4 (by decide) ?_
  refine v_icmp_eq (pc := 5) (tgt := 19) C d_Trial_isRunning_5 (by decide) (fun h5 => ?_) (fun h5 => ?_)
  · refine v_iconst (pc := 19) (v := 0) C d_Trial_isRunning_19 (by decide) ?_
    exact v_zreturn (pc := 20) C hr rfl ⟨by simp_all [kRunning], rfl⟩ d_Trial_isRunning_20
  · refine v_aload_n (pc := 8) C d_Trial_isRunning_8 rfl rfl ?_
    refine gf_Trial_27 (pc := 9) C d_Trial_isRunning_9 ?_
    refine v_if_ne (pc := 12) (tgt := 19) C d_Trial_isRunning_12 (by decide) (fun h12 => ?_) (fun h12 => ?_)
    · refine v_iconst (pc := 19) (v := 0) C d_Trial_isRunning_19 (by decide) ?_
      exact v_zreturn (pc := 20) C hr rfl ⟨by simp_all [kRunning], rfl⟩ d_Trial_isRunning_20
    · refine v_iconst (pc := 15) (v := 1) C d_Trial_isRunning_15 (by decide) ?_
      refine v_goto (pc := 16) (tgt := 20) C d_Trial_isRunning_16 (by decide) ?_
      exact v_zreturn (pc := 20) C hr rfl ⟨by simp_all [kRunning], rfl⟩ d_Trial_isRunning_20
set_option maxRecDepth 100000 in
theorem c_Trial_decide (l : Launch) {D : va_G} {ad : Nat → Nat → Nat} {cA : Nat → ClassId} (hJ : ty_J cnC ad) (σ : ty_St) (t : Nat) (ht : t < 12) (v time : Int32) : ty_M l y_Trial_decide (Cond.code y_Trial_decide b_Trial_decide 3 none :: ty_w) (rmL 0) cnC D ad cA [.inr (3, t), .inl v, .inl time] σ (fun r σ' => r = none ∧ σ' = kDecide σ t v time) := by
  refine ty_M.of rfl hJ layC (ty_oks.cons ht (ty_oks.cons trivial (ty_oks.cons trivial ty_oks.nil))) (Nat.le_of_ble_eq_true rfl) ?_
  intro p e s m args below meth c C hr hnm
  refine v_aload_n (pc := 0) C d_Trial_decide_0 rfl rfl ?_
  refine v_iload_n (pc := 1) C d_Trial_decide_1 rfl rfl ?_
  refine pf_Trial_27 (pc := 2) C d_Trial_decide_2 ?_
  refine v_aload_n (pc := 5) C d_Trial_decide_5 rfl rfl ?_
  refine v_iload_n (pc := 6) C d_Trial_decide_6 rfl rfl ?_
  refine pf_Trial_36 (pc := 7) C d_Trial_decide_7 ?_
  exact v_return (pc := 10) C hr ⟨rfl, rfl⟩ d_Trial_decide_10
set_option maxRecDepth 100000 in
theorem c_Trial_define (l : Launch) {D : va_G} {ad : Nat → Nat → Nat} {cA : Nat → ClassId} (hJ : ty_J cnC ad) (σ : ty_St) (t : Nat) (ht : t < 12) (q to rd wr : Int32) : ty_M l y_Trial_define (Cond.code y_Trial_define b_Trial_define 5 none :: ty_w) (rmL 0) cnC D ad cA [.inr (3, t), .inl q, .inl to, .inl rd, .inl wr] σ (fun r σ' => r = none ∧ σ' = kDef σ t q to rd wr) := by
  refine ty_M.of rfl hJ layC (ty_oks.cons ht (ty_oks.cons trivial (ty_oks.cons trivial (ty_oks.cons trivial (ty_oks.cons trivial ty_oks.nil))))) (Nat.le_of_ble_eq_true rfl) ?_
  intro p e s m args below meth c C hr hnm
  refine v_aload_n (pc := 0) C d_Trial_define_0 rfl rfl ?_
  refine v_iload_n (pc := 1) C d_Trial_define_1 rfl rfl ?_
  refine pf_Trial_14 (pc := 2) C d_Trial_define_2 ?_
  refine v_aload_n (pc := 5) C d_Trial_define_5 rfl rfl ?_
  refine v_iload_n (pc := 6) C d_Trial_define_6 rfl rfl ?_
  refine pf_Trial_18 (pc := 7) C d_Trial_define_7 ?_
  refine v_aload_n (pc := 10) C d_Trial_define_10 rfl rfl ?_
  refine v_iload_n (pc := 11) C d_Trial_define_11 rfl rfl ?_
  refine pf_Trial_21 (pc := 12) C d_Trial_define_12 ?_
  refine v_aload_n (pc := 15) C d_Trial_define_15 rfl rfl ?_
  refine v_iload (pc := 16) C d_Trial_define_16 rfl ?_
  refine pf_Trial_24 (pc := 18) C d_Trial_define_18 ?_
  exact v_return (pc := 21) C hr ⟨rfl, rfl⟩ d_Trial_define_21
set_option maxRecDepth 100000 in
theorem c_Trial_forgetRun (l : Launch) {D : va_G} {ad : Nat → Nat → Nat} {cA : Nat → ClassId} (hJ : ty_J cnC ad) (σ : ty_St) (t : Nat) (ht : t < 12) : ty_M l y_Trial_forgetRun (Cond.code y_Trial_forgetRun b_Trial_forgetRun 1 none :: ty_w) (rmL 0) cnC D ad cA [.inr (3, t)] σ (fun r σ' => r = none ∧ σ' = kForgetT σ t) := by
  refine ty_M.of rfl hJ layC (ty_oks.cons ht ty_oks.nil) (Nat.le_of_ble_eq_true rfl) ?_
  intro p e s m args below meth c C hr hnm
  refine v_aload_n (pc := 0) C d_Trial_forgetRun_0 rfl rfl ?_
  refine v_iconst (pc := 1) (v := 0) C d_Trial_forgetRun_1 (by decide) ?_
  refine pf_Trial_27 (pc := 2) C d_Trial_forgetRun_2 ?_
  refine v_aload_n (pc := 5) C d_Trial_forgetRun_5 rfl rfl ?_
  refine v_iconst (pc := 6) (v := (-1)) C d_Trial_forgetRun_6 (by decide) ?_
  refine pf_Trial_30 (pc := 7) C d_Trial_forgetRun_7 ?_
  refine v_aload_n (pc := 10) C d_Trial_forgetRun_10 rfl rfl ?_
  refine v_iconst (pc := 11) (v := (-1)) C d_Trial_forgetRun_11 (by decide) ?_
  refine pf_Trial_33 (pc := 12) C d_Trial_forgetRun_12 ?_
  refine v_aload_n (pc := 15) C d_Trial_forgetRun_15 rfl rfl ?_
  refine v_iconst (pc := 16) (v := (-1)) C d_Trial_forgetRun_16 (by decide) ?_
  refine pf_Trial_36 (pc := 17) C d_Trial_forgetRun_17 ?_
  refine v_aload_n (pc := 20) C d_Trial_forgetRun_20 rfl rfl ?_
  refine v_iconst (pc := 21) (v := (-1)) C d_Trial_forgetRun_21 (by decide) ?_
  refine pf_Trial_39 (pc := 22) C d_Trial_forgetRun_22 ?_
  refine v_aload_n (pc := 25) C d_Trial_forgetRun_25 rfl rfl ?_
  refine v_iconst (pc := 26) (v := 0) C d_Trial_forgetRun_26 (by decide) ?_
  refine pf_Trial_42 (pc := 27) C rfl rfl d_Trial_forgetRun_27 ?_
  refine v_aload_n (pc := 30) C d_Trial_forgetRun_30 rfl rfl ?_
  refine v_iconst (pc := 31) (v := 0) C d_Trial_forgetRun_31 (by decide) ?_
  refine pf_Trial_46 (pc := 32) C d_Trial_forgetRun_32 ?_
  refine v_aload_n (pc := 35) C d_Trial_forgetRun_35 rfl rfl ?_
  refine v_iconst (pc := 36) (v := (-1)) C d_Trial_forgetRun_36 (by decide) ?_
  refine pf_Trial_49 (pc := 37) C d_Trial_forgetRun_37 ?_
  refine v_aload_n (pc := 40) C d_Trial_forgetRun_40 rfl rfl ?_
  refine v_iconst (pc := 41) (v := (-1)) C d_Trial_forgetRun_41 (by decide) ?_
  refine pf_Trial_52 (pc := 42) C d_Trial_forgetRun_42 ?_
  exact v_return (pc := 45) C hr ⟨rfl, rfl⟩ d_Trial_forgetRun_45
set_option maxRecDepth 100000 in
theorem c_Strand_start (l : Launch) {D : va_G} {ad : Nat → Nat → Nat} {cA : Nat → ClassId} (hJ : ty_J cnC ad) (σ : ty_St) (n : Nat) (hn : n < 52) (q t w : Int32) : ty_M l y_Strand_start (Cond.code y_Strand_start b_Strand_start 4 none :: ty_w) (rmL 0) cnC D ad cA [.inr (4, n), .inl q, .inl t, .inl w] σ (fun r σ' => r = none ∧ σ' = kStart σ n q t w) := by
  refine ty_M.of rfl hJ layC (ty_oks.cons hn (ty_oks.cons trivial (ty_oks.cons trivial (ty_oks.cons trivial ty_oks.nil)))) (Nat.le_of_ble_eq_true rfl) ?_
  intro p e s m args below meth c C hr hnm
  refine v_aload_n (pc := 0) C d_Strand_start_0 rfl rfl ?_
  refine v_iload_n (pc := 1) C d_Strand_start_1 rfl rfl ?_
  refine pf_Strand_9 (pc := 2) C d_Strand_start_2 ?_
  refine v_aload_n (pc := 5) C d_Strand_start_5 rfl rfl ?_
  refine v_iload_n (pc := 6) C d_Strand_start_6 rfl rfl ?_
  refine pf_Strand_15 (pc := 7) C d_Strand_start_7 ?_
  refine v_aload_n (pc := 10) C d_Strand_start_10 rfl rfl ?_
  refine v_iload_n (pc := 11) C d_Strand_start_11 rfl rfl ?_
  refine pf_Strand_18 (pc := 12) C d_Strand_start_12 ?_
  refine v_aload_n (pc := 15) C d_Strand_start_15 rfl rfl ?_
  refine v_iconst (pc := 16) (v := 0) C d_Strand_start_16 (by decide) ?_
  refine pf_Strand_21 (pc := 17) C d_Strand_start_17 ?_
  refine v_aload_n (pc := 20) C d_Strand_start_20 rfl rfl ?_
  refine v_iconst (pc := 21) (v := 0) C d_Strand_start_21 (by decide) ?_
  refine pf_Strand_24 (pc := 22) C rfl rfl d_Strand_start_22 ?_
  refine v_aload_n (pc := 25) C d_Strand_start_25 rfl rfl ?_
  refine v_iconst (pc := 26) (v := 0) C d_Strand_start_26 (by decide) ?_
  refine pf_Strand_28 (pc := 27) C d_Strand_start_27 ?_
  refine v_aload_n (pc := 30) C d_Strand_start_30 rfl rfl ?_
  refine v_iconst (pc := 31) (v := 0) C d_Strand_start_31 (by decide) ?_
  refine pf_Strand_31 (pc := 32) C rfl rfl d_Strand_start_32 ?_
  refine v_aload_n (pc := 35) C d_Strand_start_35 rfl rfl ?_
  refine v_iconst (pc := 36) (v := 0) C d_Strand_start_36 (by decide) ?_
  refine pf_Strand_34 (pc := 37) C rfl rfl d_Strand_start_37 ?_
  refine v_aload_n (pc := 40) C d_Strand_start_40 rfl rfl ?_
  refine v_iconst (pc := 41) (v := 0) C d_Strand_start_41 (by decide) ?_
  refine pf_Strand_37 (pc := 42) C rfl rfl d_Strand_start_42 ?_
  refine v_aload_n (pc := 45) C d_Strand_start_45 rfl rfl ?_
  refine v_iconst (pc := 46) (v := (-1)) C d_Strand_start_46 (by decide) ?_
  refine pf_Strand_40 (pc := 47) C d_Strand_start_47 ?_
  exact v_return (pc := 50) C hr ⟨rfl, rfl⟩ d_Strand_start_50
set_option maxRecDepth 100000 in
theorem c_Strand_end (l : Launch) {D : va_G} {ad : Nat → Nat → Nat} {cA : Nat → ClassId} (hJ : ty_J cnC ad) (σ : ty_St) (n : Nat) (hn : n < 52) (x : Int32) : ty_M l y_Strand_end (Cond.code y_Strand_end b_Strand_end 2 none :: ty_w) (rmL 0) cnC D ad cA [.inr (4, n), .inl x] σ (fun r σ' => r = none ∧ σ' = kEnd σ n x) := by
  refine ty_M.of rfl hJ layC (ty_oks.cons hn (ty_oks.cons trivial ty_oks.nil)) (Nat.le_of_ble_eq_true rfl) ?_
  intro p e s m args below meth c C hr hnm
  refine v_aload_n (pc := 0) C d_Strand_end_0 rfl rfl ?_
  refine v_iconst (pc := 1) (v := 1) C d_Strand_end_1 (by decide) ?_
  refine pf_Strand_37 (pc := 2) C rfl rfl d_Strand_end_2 ?_
  refine v_aload_n (pc := 5) C d_Strand_end_5 rfl rfl ?_
  refine v_iload_n (pc := 6) C d_Strand_end_6 rfl rfl ?_
  refine pf_Strand_40 (pc := 7) C d_Strand_end_7 ?_
  exact v_return (pc := 10) C hr ⟨rfl, rfl⟩ d_Strand_end_10
end
section
theorem up_ss {σ : ty_St} {a i j : Nat} {x : Int32} : ty_up σ a i j x a i j = x := by simp [ty_up, upd]
theorem up_sj {σ : ty_St} {a i j j' : Nat} {x : Int32} (h : ¬ j' = j) : ty_up σ a i j x a i j' = σ a i j' := by simp [ty_up, upd, h]
theorem up_i {σ : ty_St} {a i j i' : Nat} {x : Int32} (h : ¬ i' = i) : ty_up σ a i j x a i' = σ a i' := by funext k; simp [ty_up, h]
theorem up_a {σ : ty_St} {a i j a' : Nat} {x : Int32} (h : ¬ a' = a) : ty_up σ a i j x a' = σ a' := by funext i' k; simp [ty_up, h]
theorem i32_ge0 {x : Int32} {N : Nat} (h : ¬ x < 0) (h2 : x < nI N) (hN : N < 2 ^ 31) : vp_in x N := by
  obtain ⟨j, hj, rfl⟩ := nI_of h
  exact vp_in_nI ((nI_ltI hj hN).mp h2) hN
set_option maxRecDepth 100000 in
set_option maxHeartbeats 4000000 in
theorem c_Trial_overrunsAt (l : Launch) {D : va_G} {ad : Nat → Nat → Nat} {cA : Nat → ClassId} (hJ : ty_J cnC ad) (σ : ty_St) (t : Nat) (ht : t < 12) (x : Int32) : ty_M l y_Trial_overrunsAt (Cond.code y_Trial_overrunsAt b_Trial_overrunsAt 2 (some .boolean) :: ty_w) (rmL 1) cnC D ad cA [.inr (3, t), .inl x] σ (fun r σ' => r = some (.inl (kOverruns σ t x)) ∧ σ' = σ) := by
  refine ty_M.of rfl hJ layC (ty_oks.cons ht (ty_oks.cons trivial ty_oks.nil)) (Nat.le_of_ble_eq_true rfl) ?_
  intro p e s m args below meth c C hr hnm
  refine v_aload_n (pc := 0) C d_Trial_overrunsAt_0 rfl rfl ?_
  refine cl_Trial_55 (pc := 1) C (c_Trial_isRunning l hJ σ t ht) ⟨rfl, rfl, by decide, by decide⟩ rfl rfl (Nat.le_of_ble_eq_true rfl) d_Trial_overrunsAt_1 (fun r σ' hq => ?_)
  rw [hq.1, hq.2]
  refine v_if_eq (pc := 4) (tgt := 31) C d_Trial_overrunsAt_4 (by decide) (fun h4 => ?_) (fun h4 => ?_)
  · refine v_iconst (pc := 31) (v := 0) C d_Trial_overrunsAt_31 (by decide) ?_
    exact v_zreturn (pc := 32) C hr rfl ⟨by unfold kRunning at h4; simp_all [kOverruns, Int32.not_lt, Int32.not_le], rfl⟩ d_Trial_overrunsAt_32
  · refine v_aload_n (pc := 7) C d_Trial_overrunsAt_7 rfl rfl ?_
    refine gf_Trial_18 (pc := 8) C d_Trial_overrunsAt_8 ?_
    refine v_if_eq (pc := 11) (tgt := 31) C d_Trial_overrunsAt_11 (by decide) (fun h11 => ?_) (fun h11 => ?_)
    · refine v_iconst (pc := 31) (v := 0) C d_Trial_overrunsAt_31 (by decide) ?_
      exact v_zreturn (pc := 32) C hr rfl ⟨by unfold kRunning at h4; simp_all [kOverruns, Int32.not_lt, Int32.not_le], rfl⟩ d_Trial_overrunsAt_32
    · refine v_iload_n (pc := 14) C d_Trial_overrunsAt_14 rfl rfl ?_
      refine v_aload_n (pc := 15) C d_Trial_overrunsAt_15 rfl rfl ?_
      refine gf_Trial_33 (pc := 16) C d_Trial_overrunsAt_16 ?_
      refine v_aload_n (pc := 19) C d_Trial_overrunsAt_19 rfl rfl ?_
      refine gf_Trial_18 (pc := 20) C d_Trial_overrunsAt_20 ?_
      refine v_iadd (pc := 23) C d_Trial_overrunsAt_23 ?_
      refine v_icmp_lt (pc := 24) (tgt := 31) C d_Trial_overrunsAt_24 (by decide) (fun h24 => ?_) (fun h24 => ?_)
      · refine v_iconst (pc := 31) (v := 0) C d_Trial_overrunsAt_31 (by decide) ?_
        exact v_zreturn (pc := 32) C hr rfl ⟨by unfold kRunning at h4; simp_all [kOverruns, Int32.not_lt, Int32.not_le], rfl⟩ d_Trial_overrunsAt_32
      · refine v_iconst (pc := 27) (v := 1) C d_Trial_overrunsAt_27 (by decide) ?_
        refine v_goto (pc := 28) (tgt := 32) C d_Trial_overrunsAt_28 (by decide) ?_
        exact v_zreturn (pc := 32) C hr rfl ⟨by unfold kRunning at h4; simp_all [kOverruns, Int32.not_lt, Int32.not_le], rfl⟩ d_Trial_overrunsAt_32
set_option maxRecDepth 100000 in
set_option maxHeartbeats 4000000 in
theorem c_Trial_hinders (l : Launch) {D : va_G} {ad : Nat → Nat → Nat} {cA : Nat → ClassId} (hJ : ty_J cnC ad) (σ : ty_St) (t : Nat) (ht : t < 12) (u : Nat) (hu : u < 12) : ty_M l y_Trial_hindersLocksOf (Cond.code y_Trial_hindersLocksOf b_Trial_hindersLocksOf 2 (some .boolean) :: ty_w) (rmL 0) cnC D ad cA [.inr (3, t), .inr (3, u)] σ (fun r σ' => r = some (.inl (kHinders σ t u)) ∧ σ' = σ) := by
  refine ty_M.of rfl hJ layC (ty_oks.cons ht (ty_oks.cons hu ty_oks.nil)) (Nat.le_of_ble_eq_true rfl) ?_
  intro p e s m args below meth c C hr hnm
  refine v_aload_n (pc := 0) C d_Trial_hindersLocksOf_0 rfl rfl ?_
  refine gf_Trial_24 (pc := 1) C d_Trial_hindersLocksOf_1 ?_
  refine v_aload_n (pc := 4) C d_Trial_hindersLocksOf_4 rfl rfl ?_
  refine gf_Trial_21 (pc := 5) C d_Trial_hindersLocksOf_5 ?_
  refine v_aload_n (pc := 8) C d_Trial_hindersLocksOf_8 rfl rfl ?_
  refine gf_Trial_24 (pc := 9) C d_Trial_hindersLocksOf_9 ?_
  refine v_ior (pc := 12) C d_Trial_hindersLocksOf_12 ?_
  refine v_iand (pc := 13) C d_Trial_hindersLocksOf_13 ?_
  refine v_if_ne (pc := 14) (tgt := 29) C d_Trial_hindersLocksOf_14 (by decide) (fun h14 => ?_) (fun h14 => ?_)
  · refine v_iconst (pc := 29) (v := 1) C d_Trial_hindersLocksOf_29 (by decide) ?_
    refine v_goto (pc := 30) (tgt := 34) C d_Trial_hindersLocksOf_30 (by decide) ?_
    exact v_zreturn (pc := 34) C hr rfl ⟨by simp_all [kHinders], rfl⟩ d_Trial_hindersLocksOf_34
  · refine v_aload_n (pc := 17) C d_Trial_hindersLocksOf_17 rfl rfl ?_
    refine gf_Trial_21 (pc := 18) C d_Trial_hindersLocksOf_18 ?_
    refine v_aload_n (pc := 21) C d_Trial_hindersLocksOf_21 rfl rfl ?_
    refine gf_Trial_24 (pc := 22) C d_Trial_hindersLocksOf_22 ?_
    refine v_iand (pc := 25) C d_Trial_hindersLocksOf_25 ?_
    refine v_if_eq (pc := 26) (tgt := 33) C d_Trial_hindersLocksOf_26 (by decide) (fun h26 => ?_) (fun h26 => ?_)
    · refine v_iconst (pc := 33) (v := 0) C d_Trial_hindersLocksOf_33 (by decide) ?_
      exact v_zreturn (pc := 34) C hr rfl ⟨by simp_all [kHinders], rfl⟩ d_Trial_hindersLocksOf_34
    · refine v_iconst (pc := 29) (v := 1) C d_Trial_hindersLocksOf_29 (by decide) ?_
      refine v_goto (pc := 30) (tgt := 34) C d_Trial_hindersLocksOf_30 (by decide) ?_
      exact v_zreturn (pc := 34) C hr rfl ⟨by simp_all [kHinders], rfl⟩ d_Trial_hindersLocksOf_34
set_option maxRecDepth 100000 in
set_option maxHeartbeats 4000000 in
theorem c_Trial_byDeath (l : Launch) {D : va_G} {ad : Nat → Nat → Nat} {cA : Nat → ClassId} (hJ : ty_J cnC ad) (σ : ty_St) (t : Nat) (ht : t < 12) (x time : Int32) : ty_M l y_Trial_decideByDeath (Cond.code y_Trial_decideByDeath b_Trial_decideByDeath 3 none :: ty_w) (rmL 1) cnC D ad cA [.inr (3, t), .inl x, .inl time] σ (fun r σ' => r = none ∧ σ' = kByDeath σ t x time) := by
  refine ty_M.of rfl hJ layC (ty_oks.cons ht (ty_oks.cons trivial (ty_oks.cons trivial ty_oks.nil))) (Nat.le_of_ble_eq_true rfl) ?_
  intro p e s m args below meth c C hr hnm
  refine v_aload_n (pc := 0) C d_Trial_decideByDeath_0 rfl rfl ?_
  refine v_iload_n (pc := 1) C d_Trial_decideByDeath_1 rfl rfl ?_
  refine v_iconst (pc := 2) (v := (-1)) C d_Trial_decideByDeath_2 (by decide) ?_
  refine v_icmp_eq (pc := 3) (tgt := 10) C d_Trial_decideByDeath_3 (by decide) (fun h3 => ?_) (fun h3 => ?_)
  · refine v_aload_n (pc := 10) C d_Trial_decideByDeath_10 rfl rfl ?_
    refine gf_Trial_52 (pc := 11) C d_Trial_decideByDeath_11 ?_
    refine pf_Trial_30 (pc := 14) C d_Trial_decideByDeath_14 ?_
    refine v_aload_n (pc := 17) C d_Trial_decideByDeath_17 rfl rfl ?_
    refine v_aload_n (pc := 18) C d_Trial_decideByDeath_18 rfl rfl ?_
    refine gf_Trial_30 (pc := 19) C d_Trial_decideByDeath_19 ?_
    refine v_iconst (pc := 22) (v := (-1)) C d_Trial_decideByDeath_22 (by decide) ?_
    refine v_icmp_eq (pc := 23) (tgt := 30) C d_Trial_decideByDeath_23 (by decide) (fun h23 => ?_) (fun h23 => ?_)
    · refine v_iconst (pc := 30) (v := 1) C d_Trial_decideByDeath_30 (by decide) ?_
      refine v_iload_n (pc := 31) C d_Trial_decideByDeath_31 rfl rfl ?_
      refine cl_Trial_59 (pc := 32) C (c_Trial_decide l hJ _ t ht _ _) ⟨rfl, rfl, by decide, by decide⟩ rfl rfl (Nat.le_of_ble_eq_true rfl) d_Trial_decideByDeath_32 (fun r σ' hq => ?_)
      rw [hq.1, hq.2]
      exact v_return (pc := 35) C hr ⟨rfl, by simp_all [kByDeath, up_ss]⟩ d_Trial_decideByDeath_35
    · refine v_iconst (pc := 26) (v := 2) C d_Trial_decideByDeath_26 (by decide) ?_
      refine v_goto (pc := 27) (tgt := 31) C d_Trial_decideByDeath_27 (by decide) ?_
      refine v_iload_n (pc := 31) C d_Trial_decideByDeath_31 rfl rfl ?_
      refine cl_Trial_59 (pc := 32) C (c_Trial_decide l hJ _ t ht _ _) ⟨rfl, rfl, by decide, by decide⟩ rfl rfl (Nat.le_of_ble_eq_true rfl) d_Trial_decideByDeath_32 (fun r σ' hq => ?_)
      rw [hq.1, hq.2]
      exact v_return (pc := 35) C hr ⟨rfl, by simp_all [kByDeath, up_ss]⟩ d_Trial_decideByDeath_35
  · refine v_iload_n (pc := 6) C d_Trial_decideByDeath_6 rfl rfl ?_
    refine v_goto (pc := 7) (tgt := 14) C d_Trial_decideByDeath_7 (by decide) ?_
    refine pf_Trial_30 (pc := 14) C d_Trial_decideByDeath_14 ?_
    refine v_aload_n (pc := 17) C d_Trial_decideByDeath_17 rfl rfl ?_
    refine v_aload_n (pc := 18) C d_Trial_decideByDeath_18 rfl rfl ?_
    refine gf_Trial_30 (pc := 19) C d_Trial_decideByDeath_19 ?_
    refine v_iconst (pc := 22) (v := (-1)) C d_Trial_decideByDeath_22 (by decide) ?_
    refine v_icmp_eq (pc := 23) (tgt := 30) C d_Trial_decideByDeath_23 (by decide) (fun h23 => ?_) (fun h23 => ?_)
    · refine v_iconst (pc := 30) (v := 1) C d_Trial_decideByDeath_30 (by decide) ?_
      refine v_iload_n (pc := 31) C d_Trial_decideByDeath_31 rfl rfl ?_
      refine cl_Trial_59 (pc := 32) C (c_Trial_decide l hJ _ t ht _ _) ⟨rfl, rfl, by decide, by decide⟩ rfl rfl (Nat.le_of_ble_eq_true rfl) d_Trial_decideByDeath_32 (fun r σ' hq => ?_)
      rw [hq.1, hq.2]
      exact v_return (pc := 35) C hr ⟨rfl, by simp_all [kByDeath, up_ss]⟩ d_Trial_decideByDeath_35
    · refine v_iconst (pc := 26) (v := 2) C d_Trial_decideByDeath_26 (by decide) ?_
      refine v_goto (pc := 27) (tgt := 31) C d_Trial_decideByDeath_27 (by decide) ?_
      refine v_iload_n (pc := 31) C d_Trial_decideByDeath_31 rfl rfl ?_
      refine cl_Trial_59 (pc := 32) C (c_Trial_decide l hJ _ t ht _ _) ⟨rfl, rfl, by decide, by decide⟩ rfl rfl (Nat.le_of_ble_eq_true rfl) d_Trial_decideByDeath_32 (fun r σ' hq => ?_)
      rw [hq.1, hq.2]
      exact v_return (pc := 35) C hr ⟨rfl, by simp_all [kByDeath, up_ss]⟩ d_Trial_decideByDeath_35
set_option maxRecDepth 100000 in
set_option maxHeartbeats 4000000 in
theorem c_Strand_takeMark (l : Launch) {D : va_G} {ad : Nat → Nat → Nat} {cA : Nat → ClassId} (hJ : ty_J cnC ad) (σ : ty_St) (n : Nat) (hn : n < 52) (hb : σ 4 n 6 = 0 ∨ σ 4 n 6 = 1) : ty_M l y_Strand_takeMark (Cond.code y_Strand_takeMark b_Strand_takeMark 2 (some .boolean) :: ty_w) (rmL 0) cnC D ad cA [.inr (4, n)] σ (fun r σ' => r = some (.inl (σ 4 n 6)) ∧ σ' = kTake σ n) := by
  refine ty_M.of rfl hJ layC (ty_oks.cons hn ty_oks.nil) (Nat.le_of_ble_eq_true rfl) ?_
  intro p e s m args below meth c C hr hnm
  refine v_aload_n (pc := 0) C d_Strand_takeMark_0 rfl rfl ?_
  refine gf_Strand_31 (pc := 1) C d_Strand_takeMark_1 ?_
  refine v_istore_n (pc := 4) C d_Strand_takeMark_4 rfl (by decide) ?_
  refine v_aload_n (pc := 5) C d_Strand_takeMark_5 rfl rfl ?_
  refine v_iconst (pc := 6) (v := 0) C d_Strand_takeMark_6 (by decide) ?_
  refine pf_Strand_31 (pc := 7) C rfl rfl d_Strand_takeMark_7 ?_
  refine v_iload_n (pc := 10) C d_Strand_takeMark_10 rfl rfl ?_
  exact v_zreturn (pc := 11) C hr (by rcases hb with h | h <;> rw [h] <;> rfl) ⟨rfl, rfl⟩ d_Strand_takeMark_11
set_option maxRecDepth 100000 in
set_option maxHeartbeats 4000000 in
theorem c_Log_add (l : Launch) {D : va_G} {ad : Nat → Nat → Nat} {cA : Nat → ClassId} (hJ : ty_J cnC ad) (σ : ty_St) (i : Nat) (hi : i < 2) (hs : ¬ σ 5 i 1 < 0) (x : Int32) : ty_M l y_Log_add (Cond.code y_Log_add b_Log_add 2 none :: ty_w) (rmL 0) cnC D ad cA [.inr (5, i), .inl x] σ (fun r σ' => r = none ∧ σ' = kLog σ i x) := by
  refine ty_M.of rfl hJ layC (ty_oks.cons hi (ty_oks.cons trivial ty_oks.nil)) (Nat.le_of_ble_eq_true rfl) ?_
  intro p e s m args below meth c C hr hnm
  have hcap : Int32.ofNat (if i = 0 then 12 else 8) = kCap i := by unfold kCap; split <;> rfl
  refine v_aload_n (pc := 0) C d_Log_add_0 rfl rfl ?_
  refine gf_Log_13 (pc := 1) C d_Log_add_1 ?_
  refine v_aload_n (pc := 4) C d_Log_add_4 rfl rfl ?_
  refine gf_Log_7 (pc := 5) C d_Log_add_5 ?_
  refine v_alen (pc := 8) C rfl rfl rfl d_Log_add_8 ?_
  refine v_icmp_ge (pc := 9) (tgt := 22) C d_Log_add_9 (by decide) (fun h9 => ?_) (fun h9 => ?_)
  · refine v_aload_n (pc := 22) C d_Log_add_22 rfl rfl ?_
    refine v_dup (pc := 23) C d_Log_add_23 ?_
    refine gf_Log_13 (pc := 24) C d_Log_add_24 ?_
    refine v_iconst (pc := 27) (v := 1) C d_Log_add_27 (by decide) ?_
    refine v_iadd (pc := 28) C d_Log_add_28 ?_
    refine pf_Log_13 (pc := 29) C d_Log_add_29 ?_
    exact v_return (pc := 32) C hr ⟨rfl, by unfold kLog; rw [← hcap]; first | simp only [if_pos (Int32.not_le.mp h9)] | simp only [if_neg (Int32.not_lt.mpr h9)]⟩ d_Log_add_32
  · refine v_aload_n (pc := 12) C d_Log_add_12 rfl rfl ?_
    refine gf_Log_7 (pc := 13) C d_Log_add_13 ?_
    refine v_aload_n (pc := 16) C d_Log_add_16 rfl rfl ?_
    refine gf_Log_13 (pc := 17) C d_Log_add_17 ?_
    refine v_iload_n (pc := 20) C d_Log_add_20 rfl rfl ?_
    refine v_iastore (pc := 21) C rfl rfl (by refine i32_ge0 hs (N := if i = 0 then 12 else 8) ?_ (by split <;> decide); have h9b := Int32.not_le.mp h9; exact h9b) d_Log_add_21 ?_
    refine v_aload_n (pc := 22) C d_Log_add_22 rfl rfl ?_
    refine v_dup (pc := 23) C d_Log_add_23 ?_
    refine gf_Log_13 (pc := 24) C d_Log_add_24 ?_
    refine v_iconst (pc := 27) (v := 1) C d_Log_add_27 (by decide) ?_
    refine v_iadd (pc := 28) C d_Log_add_28 ?_
    refine pf_Log_13 (pc := 29) C d_Log_add_29 ?_
    exact v_return (pc := 32) C hr ⟨rfl, by unfold kLog; rw [← hcap]; first | simp only [if_pos (Int32.not_le.mp h9)] | simp only [if_neg (Int32.not_lt.mpr h9)]⟩ d_Log_add_32
set_option maxRecDepth 100000 in
set_option maxHeartbeats 4000000 in
theorem c_Log_keeps (l : Launch) {D : va_G} {ad : Nat → Nat → Nat} {cA : Nat → ClassId} (hJ : ty_J cnC ad) (σ : ty_St) (i : Nat) (hi : i < 2) (x : Int32) : ty_M l y_Log_keeps (Cond.code y_Log_keeps b_Log_keeps 2 (some .boolean) :: ty_w) (rmL 0) cnC D ad cA [.inr (5, i), .inl x] σ (fun r σ' => r = some (.inl (kKeeps σ i x)) ∧ σ' = σ) := by
  refine ty_M.of rfl hJ layC (ty_oks.cons hi (ty_oks.cons trivial ty_oks.nil)) (Nat.le_of_ble_eq_true rfl) ?_
  intro p e s m args below meth c C hr hnm
  have hcap : Int32.ofNat (if i = 0 then 12 else 8) = kCap i := by unfold kCap; split <;> rfl
  refine v_iload_n (pc := 0) C d_Log_keeps_0 rfl rfl ?_
  refine v_if_lt (pc := 1) (tgt := 25) C d_Log_keeps_1 (by decide) (fun h1 => ?_) (fun h1 => ?_)
  · refine v_iconst (pc := 25) (v := 0) C d_Log_keeps_25 (by decide) ?_
    exact v_zreturn (pc := 26) C hr rfl ⟨by unfold kKeeps; rw [← hcap]; first | rw [if_neg (fun q => absurd q.1 (Int32.not_le.mpr h1))] | rw [if_neg (fun q => absurd q.2.1 (Int32.not_lt.mpr h9))] | rw [if_neg (fun q => absurd q.2.2 (Int32.not_lt.mpr h18))] | rw [if_pos ⟨Int32.not_lt.mp h1, Int32.not_le.mp h9, Int32.not_le.mp h18⟩], rfl⟩ d_Log_keeps_26
  · refine v_iload_n (pc := 4) C d_Log_keeps_4 rfl rfl ?_
    refine v_aload_n (pc := 5) C d_Log_keeps_5 rfl rfl ?_
    refine gf_Log_13 (pc := 6) C d_Log_keeps_6 ?_
    refine v_icmp_ge (pc := 9) (tgt := 25) C d_Log_keeps_9 (by decide) (fun h9 => ?_) (fun h9 => ?_)
    · refine v_iconst (pc := 25) (v := 0) C d_Log_keeps_25 (by decide) ?_
      exact v_zreturn (pc := 26) C hr rfl ⟨by unfold kKeeps; rw [← hcap]; first | rw [if_neg (fun q => absurd q.1 (Int32.not_le.mpr h1))] | rw [if_neg (fun q => absurd q.2.1 (Int32.not_lt.mpr h9))] | rw [if_neg (fun q => absurd q.2.2 (Int32.not_lt.mpr h18))] | rw [if_pos ⟨Int32.not_lt.mp h1, Int32.not_le.mp h9, Int32.not_le.mp h18⟩], rfl⟩ d_Log_keeps_26
    · refine v_iload_n (pc := 12) C d_Log_keeps_12 rfl rfl ?_
      refine v_aload_n (pc := 13) C d_Log_keeps_13 rfl rfl ?_
      refine gf_Log_7 (pc := 14) C d_Log_keeps_14 ?_
      refine v_alen (pc := 17) C rfl rfl rfl d_Log_keeps_17 ?_
      refine v_icmp_ge (pc := 18) (tgt := 25) C d_Log_keeps_18 (by decide) (fun h18 => ?_) (fun h18 => ?_)
      · refine v_iconst (pc := 25) (v := 0) C d_Log_keeps_25 (by decide) ?_
        exact v_zreturn (pc := 26) C hr rfl ⟨by unfold kKeeps; rw [← hcap]; first | rw [if_neg (fun q => absurd q.1 (Int32.not_le.mpr h1))] | rw [if_neg (fun q => absurd q.2.1 (Int32.not_lt.mpr h9))] | rw [if_neg (fun q => absurd q.2.2 (Int32.not_lt.mpr h18))] | rw [if_pos ⟨Int32.not_lt.mp h1, Int32.not_le.mp h9, Int32.not_le.mp h18⟩], rfl⟩ d_Log_keeps_26
      · refine v_iconst (pc := 21) (v := 1) C d_Log_keeps_21 (by decide) ?_
        refine v_goto (pc := 22) (tgt := 26) C d_Log_keeps_22 (by decide) ?_
        exact v_zreturn (pc := 26) C hr rfl ⟨by unfold kKeeps; rw [← hcap]; first | rw [if_neg (fun q => absurd q.1 (Int32.not_le.mpr h1))] | rw [if_neg (fun q => absurd q.2.1 (Int32.not_lt.mpr h9))] | rw [if_neg (fun q => absurd q.2.2 (Int32.not_lt.mpr h18))] | rw [if_pos ⟨Int32.not_lt.mp h1, Int32.not_le.mp h9, Int32.not_le.mp h18⟩], rfl⟩ d_Log_keeps_26
set_option maxRecDepth 100000 in
set_option maxHeartbeats 4000000 in
theorem c_Program_ega (l : Launch) {D : va_G} {ad : Nat → Nat → Nat} {cA : Nat → ClassId} (hJ : ty_J cnC ad) (σ : ty_St) (q : Nat) (hq : q < 10) (y : Int32) (z : Nat) (hz : z ≤ 10) (hy : y = nI z) : ty_M l y_Program_endOfGuardAround (Cond.code y_Program_endOfGuardAround b_Program_endOfGuardAround 3 (some .int) :: ty_w) (rmL 0) cnC D ad cA [.inr (2, q), .inl y] σ (fun r σ' => r = some (.inl (kEga (σ 8 q) y z)) ∧ σ' = σ) := by
  refine ty_M.of rfl hJ layC (ty_oks.cons hq (ty_oks.cons trivial ty_oks.nil)) (Nat.le_of_ble_eq_true rfl) ?_
  intro p e s m args below meth c C hr hnm
  subst hy
  have loop : ∀ k, k ≤ z → ∀ x, x = nI k - 1 → kEga (σ 8 q) (nI z) k = kEga (σ 8 q) (nI z) z → ty_V cnC p l e (rmL 0) s m args below meth c D ad cA (ty_Gd cnC ad s) 3 (MQ below (ty_Q cnC D ad cA (fun r σ' => r = some (.inl (kEga (σ 8 q) (nI z) z)) ∧ σ' = σ) (ty_A cnC ad)) args s 0 0 (ty_A cnC ad)) σ [some (.inr (2, q)), some (.inl (nI z)), some (.inl x)] 4 [] := by
    intro k
    induction k with
    | zero =>
      intro hk x hx hE
      refine v_iload_n (pc := 4) C d_Program_endOfGuardAround_4 rfl rfl ?_
      refine v_if_lt (pc := 5) (tgt := 31) C d_Program_endOfGuardAround_5 (by decide) (fun h5 => ?_) (fun h5 => ?_)
      · refine v_iconst (pc := 31) (v := (-1)) C d_Program_endOfGuardAround_31 (by decide) ?_
        exact v_ireturn (pc := 32) C hr ⟨by rw [← hE]; rfl, rfl⟩ d_Program_endOfGuardAround_32
      · exact absurd (by rw [hx]; decide) h5
    | succ k ih =>
      intro hk x hx hE
      rw [nI_pred] at hx
      subst hx
      have hE2 : (if nI z < σ 8 q k then σ 8 q k else kEga (σ 8 q) (nI z) k) = kEga (σ 8 q) (nI z) z := hE
      have hkc : (nI k).toNatClampNeg = k := nI_clamp (by omega)
      have hin : vp_in (nI k) 10 := vp_in_nI (by omega) (by decide)
      refine v_iload_n (pc := 4) C d_Program_endOfGuardAround_4 rfl rfl ?_
      refine v_if_lt (pc := 5) (tgt := 31) C d_Program_endOfGuardAround_5 (by decide) (fun h5 => ?_) (fun h5 => ?_)
      · exact absurd h5 (nI_pos (by omega))
      · refine v_aload_n (pc := 8) C d_Program_endOfGuardAround_8 rfl rfl ?_
        refine gf_Program_18 (pc := 9) C d_Program_endOfGuardAround_9 ?_
        refine v_iload_n (pc := 12) C d_Program_endOfGuardAround_12 rfl rfl ?_
        refine v_iaload (pc := 13) C rfl rfl hin d_Program_endOfGuardAround_13 ?_
        refine v_iload_n (pc := 14) C d_Program_endOfGuardAround_14 rfl rfl ?_
        refine v_icmp_le (pc := 15) (tgt := 25) C d_Program_endOfGuardAround_15 (by decide) (fun h15 => ?_) (fun h15 => ?_)
        · refine v_iinc (pc := 25) C d_Program_endOfGuardAround_25 rfl (show _ + Int32.ofInt (-1) = _ + (-1) from rfl) (by decide) ?_
          refine v_goto (pc := 28) (tgt := 4) C d_Program_endOfGuardAround_28 (by decide) ?_
          refine ih (by omega) _ (Int32.sub_eq_add_neg _ _).symm ?_
          rw [← hE2, if_neg (Int32.not_lt.mpr (by rw [hkc] at h15; exact h15))]
        · refine v_aload_n (pc := 18) C d_Program_endOfGuardAround_18 rfl rfl ?_
          refine gf_Program_18 (pc := 19) C d_Program_endOfGuardAround_19 ?_
          refine v_iload_n (pc := 22) C d_Program_endOfGuardAround_22 rfl rfl ?_
          refine v_iaload (pc := 23) C rfl rfl hin d_Program_endOfGuardAround_23 ?_
          exact v_ireturn (pc := 24) C hr ⟨by rw [← hE2, hkc, if_pos (Int32.not_le.mp (by rw [hkc] at h15; exact h15))], rfl⟩ d_Program_endOfGuardAround_24
  refine v_iload_n (pc := 0) C d_Program_endOfGuardAround_0 rfl rfl ?_
  refine v_iconst (pc := 1) (v := 1) C d_Program_endOfGuardAround_1 (by decide) ?_
  refine v_isub (pc := 2) C d_Program_endOfGuardAround_2 ?_
  refine v_istore_n (pc := 3) C d_Program_endOfGuardAround_3 rfl (by decide) ?_
  exact loop z (Nat.le_refl _) _ rfl rfl
set_option maxRecDepth 100000 in
set_option maxHeartbeats 4000000 in
theorem c_Program_eog (l : Launch) {D : va_G} {ad : Nat → Nat → Nat} {cA : Nat → ClassId} (hJ : ty_J cnC ad) (σ : ty_St) (q : Nat) (hq : q < 10) (y : Int32) (z : Nat) (hz : z ≤ 10) (hy : y = nI z) (a : Int32) : ty_M l y_Program_endOfGuard (Cond.code y_Program_endOfGuard b_Program_endOfGuard 5 (some .int) :: ty_w) (rmL 1) cnC D ad cA [.inr (2, q), .inl y, .inl a] σ (fun r σ' => r = some (.inl (kGuard (σ 8 q) y a)) ∧ σ' = σ) := by
  refine ty_M.of rfl hJ layC (ty_oks.cons hq (ty_oks.cons trivial (ty_oks.cons trivial ty_oks.nil))) (Nat.le_of_ble_eq_true rfl) ?_
  intro p e s m args below meth c C hr hnm
  subst hy
  have hzc : nn (nI z) = z := nI_clamp (by omega)
  refine v_iload_n (pc := 0) C d_Program_endOfGuard_0 rfl rfl ?_
  refine v_iconst (pc := 1) (v := 1) C d_Program_endOfGuard_1 (by decide) ?_
  refine v_iadd (pc := 2) C d_Program_endOfGuard_2 ?_
  refine v_iload_n (pc := 3) C d_Program_endOfGuard_3 rfl rfl ?_
  refine v_iadd (pc := 4) C d_Program_endOfGuard_4 ?_
  refine v_istore_n (pc := 5) C d_Program_endOfGuard_5 rfl (by decide) ?_
  refine v_aload_n (pc := 6) C d_Program_endOfGuard_6 rfl rfl ?_
  refine v_iload_n (pc := 7) C d_Program_endOfGuard_7 rfl rfl ?_
  refine cl_Program_29 (pc := 8) C (c_Program_ega l hJ σ q hq _ z hz rfl) ⟨rfl, rfl, by decide, by decide⟩ rfl rfl (Nat.le_of_ble_eq_true rfl) d_Program_endOfGuard_8 (fun r σ' hq => ?_)
  rw [hq.1, hq.2]
  refine v_istore (pc := 11) C d_Program_endOfGuard_11 (by decide) ?_
  refine v_iload (pc := 13) C d_Program_endOfGuard_13 rfl ?_
  refine v_iconst (pc := 15) (v := (-1)) C d_Program_endOfGuard_15 (by decide) ?_
  refine v_icmp_ne (pc := 16) (tgt := 23) C d_Program_endOfGuard_16 (by decide) (fun h16 => ?_) (fun h16 => ?_)
  · refine v_iload_n (pc := 23) C d_Program_endOfGuard_23 rfl rfl ?_
    refine v_iload (pc := 24) C d_Program_endOfGuard_24 rfl ?_
    refine cl_Program_33 (pc := 26) C (by decide) (by decide) d_Program_endOfGuard_26 ?_
    skip
    exact v_ireturn (pc := 29) C hr ⟨by unfold kGuard; rw [hzc]; first | rw [if_pos h16] | (rw [if_neg h16]), rfl⟩ d_Program_endOfGuard_29
  · refine v_iload_n (pc := 19) C d_Program_endOfGuard_19 rfl rfl ?_
    refine v_goto (pc := 20) (tgt := 29) C d_Program_endOfGuard_20 (by decide) ?_
    exact v_ireturn (pc := 29) C hr ⟨by unfold kGuard; rw [hzc]; first | rw [if_pos h16] | (rw [if_neg h16]), rfl⟩ d_Program_endOfGuard_29
set_option maxRecDepth 100000 in
set_option maxHeartbeats 4000000 in
theorem c_Program_add (l : Launch) {D : va_G} {ad : Nat → Nat → Nat} {cA : Nat → ClassId} (hJ : ty_J cnC ad) (σ : ty_St) (q : Nat) (hq : q < 10) (z : Nat) (hz : z < 10) (hz2 : σ 2 q 3 = nI z) (op a : Int32) : ty_M l y_Program_add (Cond.code y_Program_add b_Program_add 3 none :: ty_w) (rmL 2) cnC D ad cA [.inr (2, q), .inl op, .inl a] σ (fun r σ' => r = none ∧ σ' = kAdd σ q op a) := by
  refine ty_M.of rfl hJ layC (ty_oks.cons hq (ty_oks.cons trivial (ty_oks.cons trivial ty_oks.nil))) (Nat.le_of_ble_eq_true rfl) ?_
  intro p e s m args below meth c C hr hnm
  have hzc : nn (nI z) = z := nI_clamp (by omega)
  have hin : vp_in (σ 2 q 3) 10 := by rw [hz2]; exact vp_in_nI (by omega) (by decide)
  refine v_aload_n (pc := 0) C d_Program_add_0 rfl rfl ?_
  refine gf_Program_9 (pc := 1) C d_Program_add_1 ?_
  refine v_aload_n (pc := 4) C d_Program_add_4 rfl rfl ?_
  refine gf_Program_21 (pc := 5) C d_Program_add_5 ?_
  refine v_iload_n (pc := 8) C d_Program_add_8 rfl rfl ?_
  refine v_iastore (pc := 9) C rfl rfl hin d_Program_add_9 ?_
  refine v_aload_n (pc := 10) C d_Program_add_10 rfl rfl ?_
  refine gf_Program_15 (pc := 11) C d_Program_add_11 ?_
  refine v_aload_n (pc := 14) C d_Program_add_14 rfl rfl ?_
  refine gf_Program_21 (pc := 15) C d_Program_add_15 ?_
  refine v_iload_n (pc := 18) C d_Program_add_18 rfl rfl ?_
  refine v_iastore (pc := 19) C rfl rfl hin d_Program_add_19 ?_
  refine v_aload_n (pc := 20) C d_Program_add_20 rfl rfl ?_
  refine gf_Program_18 (pc := 21) C d_Program_add_21 ?_
  refine v_aload_n (pc := 24) C d_Program_add_24 rfl rfl ?_
  refine gf_Program_21 (pc := 25) C d_Program_add_25 ?_
  refine v_iload_n (pc := 28) C d_Program_add_28 rfl rfl ?_
  refine v_iconst (pc := 29) (v := 4) C d_Program_add_29 (by decide) ?_
  refine v_icmp_ne (pc := 30) (tgt := 45) C d_Program_add_30 (by decide) (fun h30 => ?_) (fun h30 => ?_)
  · refine v_iconst (pc := 45) (v := 0) C d_Program_add_45 (by decide) ?_
    refine v_iastore (pc := 46) C rfl rfl hin d_Program_add_46 ?_
    refine v_aload_n (pc := 47) C d_Program_add_47 rfl rfl ?_
    refine v_dup (pc := 48) C d_Program_add_48 ?_
    refine gf_Program_21 (pc := 49) C d_Program_add_49 ?_
    refine v_iconst (pc := 52) (v := 1) C d_Program_add_52 (by decide) ?_
    refine v_iadd (pc := 53) C d_Program_add_53 ?_
    refine pf_Program_21 (pc := 54) C d_Program_add_54 ?_
    exact v_return (pc := 57) C hr ⟨rfl, by simp [kAdd, up_a, h30]⟩ d_Program_add_57
  · refine v_aload_n (pc := 33) C d_Program_add_33 rfl rfl ?_
    refine v_aload_n (pc := 34) C d_Program_add_34 rfl rfl ?_
    refine gf_Program_21 (pc := 35) C d_Program_add_35 ?_
    refine v_iload_n (pc := 38) C d_Program_add_38 rfl rfl ?_
    refine cl_Program_25 (pc := 39) C (c_Program_eog l hJ _ q hq _ z (by omega) hz2 a) ⟨rfl, rfl, by decide, by decide⟩ rfl rfl (Nat.le_of_ble_eq_true rfl) d_Program_add_39 (fun r σ' hq => ?_)
    rw [hq.1, hq.2]
    refine v_goto (pc := 42) (tgt := 46) C d_Program_add_42 (by decide) ?_
    refine v_iastore (pc := 46) C rfl rfl hin d_Program_add_46 ?_
    refine v_aload_n (pc := 47) C d_Program_add_47 rfl rfl ?_
    refine v_dup (pc := 48) C d_Program_add_48 ?_
    refine gf_Program_21 (pc := 49) C d_Program_add_49 ?_
    refine v_iconst (pc := 52) (v := 1) C d_Program_add_52 (by decide) ?_
    refine v_iadd (pc := 53) C d_Program_add_53 ?_
    refine pf_Program_21 (pc := 54) C d_Program_add_54 ?_
    exact v_return (pc := 57) C hr ⟨rfl, by simp [kAdd, up_a, h30]⟩ d_Program_add_57
end
section
section TYK2
variable {cn : Nat → Nat} {p : Program} {l : Launch} {e : Env} {R : Room} {s : State} {m : MethodId} {args : Array Value} {below : List Frame} {meth : Method} {c : Code} {D : va_G} {ad : Nat → Nat → Nat} {cA : Nat → ClassId} {G : Heap → List Loc → Prop} {nL : Nat} {Q : State → Prop} {own : String} {cc : ByteArray} {σ : ty_St} {loc : List (Option ty_SV)} {pc : Nat} {st : List ty_SV}
theorem v_aaloadK (C : ty_CX cn p s m args meth c D ad cA own cc nL) {a i t n b k : Nat} {x : Int32} {Cn : String} (hki : ty_ki a i = .inr (t, n, some b)) (ht : (ty_tys cA)[t]? = some (cA t, .object Cn)) (hnb : n ≤ cn b) (hx : x = nI k) (hk : k < n) (hn : n < 2 ^ 31) (d : decode cc pc = .ok (.aaload, 1)) (kk : ty_V cn p l e R s m args below meth c D ad cA G nL Q σ loc (pc + 1) (.inr (b, k) :: st)) : ty_V cn p l e R s m args below meth c D ad cA G nL Q σ loc (pc) (.inl x :: .inr (a, i) :: st) := by
  subst hx
  refine v_aaload C hki ht hnb (vp_in_nI hk hn) d ?_
  rw [nI_clamp (by omega)]; exact kk
theorem v_ialoadK (C : ty_CX cn p s m args meth c D ad cA own cc nL) {a i t n k : Nat} {x : Int32} (hki : ty_ki a i = .inr (t, n, none)) (ht : (ty_tys cA)[t]? = some (cA t, .int)) (hx : x = nI k) (hk : k < n) (hn : n < 2 ^ 31) (d : decode cc pc = .ok (.iaload, 1)) (kk : ty_V cn p l e R s m args below meth c D ad cA G nL Q σ loc (pc + 1) (.inl (σ a i k) :: st)) : ty_V cn p l e R s m args below meth c D ad cA G nL Q σ loc (pc) (.inl x :: .inr (a, i) :: st) := by
  subst hx
  refine v_iaload C hki ht (vp_in_nI hk hn) d ?_
  rw [nI_clamp (by omega)]; exact kk
theorem v_baloadK (C : ty_CX cn p s m args meth c D ad cA own cc nL) {a i t n k : Nat} {x : Int32} (hki : ty_ki a i = .inr (t, n, none)) (ht : (ty_tys cA)[t]? = some (cA t, .boolean)) (hx : x = nI k) (hk : k < n) (hn : n < 2 ^ 31) (d : decode cc pc = .ok (.baload, 1)) (kk : ty_V cn p l e R s m args below meth c D ad cA G nL Q σ loc (pc + 1) (.inl (σ a i k) :: st)) : ty_V cn p l e R s m args below meth c D ad cA G nL Q σ loc (pc) (.inl x :: .inr (a, i) :: st) := by
  subst hx
  refine v_baload C hki ht (vp_in_nI hk hn) d ?_
  rw [nI_clamp (by omega)]; exact kk
theorem v_iastoreK (C : ty_CX cn p s m args meth c D ad cA own cc nL) {a i t n k : Nat} {x y : Int32} (hki : ty_ki a i = .inr (t, n, none)) (ht : (ty_tys cA)[t]? = some (cA t, .int)) (hx : x = nI k) (hk : k < n) (hn : n < 2 ^ 31) (d : decode cc pc = .ok (.iastore, 1)) (kk : ty_V cn p l e R s m args below meth c D ad cA (ty_Gd cn ad s) nL Q (ty_up σ a i k y) loc (pc + 1) (st)) : ty_V cn p l e R s m args below meth c D ad cA (ty_Gd cn ad s) nL Q σ loc (pc) (.inl y :: .inl x :: .inr (a, i) :: st) := by
  subst hx
  refine v_iastore C hki ht (vp_in_nI hk hn) d ?_
  rw [nI_clamp (by omega)]; exact kk
theorem v_bastoreK (C : ty_CX cn p s m args meth c D ad cA own cc nL) {a i t n k : Nat} {x y : Int32} (hki : ty_ki a i = .inr (t, n, none)) (ht : (ty_tys cA)[t]? = some (cA t, .boolean)) (hx : x = nI k) (hk : k < n) (hn : n < 2 ^ 31) (hy : narrow .boolean (.int y) = .int y) (d : decode cc pc = .ok (.bastore, 1)) (kk : ty_V cn p l e R s m args below meth c D ad cA (ty_Gd cn ad s) nL Q (ty_up σ a i k y) loc (pc + 1) (st)) : ty_V cn p l e R s m args below meth c D ad cA (ty_Gd cn ad s) nL Q σ loc (pc) (.inl y :: .inl x :: .inr (a, i) :: st) := by
  subst hx
  refine v_bastore C hki ht (vp_in_nI hk hn) hy d ?_
  rw [nI_clamp (by omega)]; exact kk
end TYK2
end
section
theorem kAllPassed_mono {σ : ty_St} : ∀ {n k : Nat}, n ≤ k → kAllPassed σ k = true → kAllPassed σ n = true := by
  intro n k h
  induction k with
  | zero => intro q; rw [show n = 0 by omega]; exact q
  | succ k ih =>
    intro q
    by_cases e : n = k + 1
    · rw [e]; exact q
    · simp only [kAllPassed, Bool.and_eq_true] at q
      exact ih (by omega) q.1
set_option maxRecDepth 100000 in
set_option maxHeartbeats 4000000 in
theorem c_Course_allPassed (l : Launch) {D : va_G} {ad : Nat → Nat → Nat} {cA : Nat → ClassId} (hJ : ty_J cnC ad) (σ : ty_St) (tc : Nat) (htc : tc ≤ 12) (hc : σ 1 0 6 = nI tc) : ty_M l y_Course_allPassed (Cond.code y_Course_allPassed b_Course_allPassed 2 (some .boolean) :: ty_w) (rmL 0) cnC D ad cA [.inr (1, 0)] σ (fun r σ' => r = some (.inl (if kAllPassed σ tc = true then 1 else 0)) ∧ σ' = σ) := by
  refine ty_M.of rfl hJ layC (ty_oks.cons (show (0 : Nat) < cnC 1 by decide) ty_oks.nil) (Nat.le_of_ble_eq_true rfl) ?_
  intro p e s m args below meth c C hr hnm
  have loop : ∀ k i, i + k = tc → kAllPassed σ i = true → ty_V cnC p l e (rmL 0) s m args below meth c D ad cA (ty_Gd cnC ad s) 2 (MQ below (ty_Q cnC D ad cA (fun r σ' => r = some (.inl (if kAllPassed σ tc = true then 1 else 0)) ∧ σ' = σ) (ty_A cnC ad)) args s 0 0 (ty_A cnC ad)) σ [some (.inr (1, 0)), some (.inl (nI i))] 2 [] := by
    intro k
    induction k with
    | zero =>
      intro i hi hi0
      have hb := hc
      refine v_iload_n (pc := 2) C d_Course_allPassed_2 rfl rfl ?_
      refine v_aload_n (pc := 3) C d_Course_allPassed_3 rfl rfl ?_
      refine gf_Course_48 (pc := 4) C d_Course_allPassed_4 ?_
      refine v_icmp_ge (pc := 7) (tgt := 31) C d_Course_allPassed_7 (by decide) (fun h7 => ?_) (fun h7 => ?_)
      · refine v_iconst (pc := 31) (v := 1) C d_Course_allPassed_31 (by decide) ?_
        exact v_zreturn (pc := 32) C hr rfl ⟨by rw [show tc = i by omega, if_pos hi0], rfl⟩ d_Course_allPassed_32
      · exact absurd (by rw [hb]; exact nI_le (by omega) (by omega)) h7
    | succ k ih =>
      intro i hi hi0
      have hb := hc
      refine v_iload_n (pc := 2) C d_Course_allPassed_2 rfl rfl ?_
      refine v_aload_n (pc := 3) C d_Course_allPassed_3 rfl rfl ?_
      refine gf_Course_48 (pc := 4) C d_Course_allPassed_4 ?_
      refine v_icmp_ge (pc := 7) (tgt := 31) C d_Course_allPassed_7 (by decide) (fun h7 => ?_) (fun h7 => ?_)
      · exact absurd h7 (by rw [hb]; exact nI_ge (by omega) (by omega))
      · refine v_aload_n (pc := 10) C d_Course_allPassed_10 rfl rfl ?_
        refine gf_Course_19 (pc := 11) C d_Course_allPassed_11 ?_
        refine v_iload_n (pc := 14) C d_Course_allPassed_14 rfl rfl ?_
        refine v_aaloadK (pc := 15) C rfl rfl (by decide) (rfl) (by omega) (by decide) d_Course_allPassed_15 ?_
        refine gf_Course_93 (pc := 16) C d_Course_allPassed_16 ?_
        refine v_iconst (pc := 19) (v := 1) C d_Course_allPassed_19 (by decide) ?_
        refine v_icmp_eq (pc := 20) (tgt := 25) C d_Course_allPassed_20 (by decide) (fun h20 => ?_) (fun h20 => ?_)
        · refine v_iinc (pc := 25) C d_Course_allPassed_25 rfl (show _ + Int32.ofInt 1 = _ + 1 from rfl) (by decide) ?_
          refine v_goto (pc := 28) (tgt := 2) C d_Course_allPassed_28 (by decide) ?_
          rw [nI_1 i]
          exact ih (i + 1) (by omega) (by simp [kAllPassed, hi0, h20])
        · refine v_iconst (pc := 23) (v := 0) C d_Course_allPassed_23 (by decide) ?_
          exact v_zreturn (pc := 24) C hr rfl ⟨by
            have : ¬ kAllPassed σ tc = true := fun q => h20 (by have := kAllPassed_mono (show i + 1 ≤ tc by omega) q; simp [kAllPassed] at this; exact this.2)
            rw [if_neg this], rfl⟩ d_Course_allPassed_24
  refine v_iconst (pc := 0) (v := 0) C d_Course_allPassed_0 (by decide) ?_
  refine v_istore_n (pc := 1) C d_Course_allPassed_1 rfl (by decide) ?_
  exact loop tc 0 (by omega) rfl
set_option maxRecDepth 100000 in
set_option maxHeartbeats 4000000 in
theorem c_Course_count (l : Launch) {D : va_G} {ad : Nat → Nat → Nat} {cA : Nat → ClassId} (hJ : ty_J cnC ad) (σ : ty_St) (tc : Nat) (htc : tc ≤ 12) (hc : σ 1 0 6 = nI tc) : ty_M l y_Course_countRunning (Cond.code y_Course_countRunning b_Course_countRunning 3 (some .int) :: ty_w) (rmL 1) cnC D ad cA [.inr (1, 0)] σ (fun r σ' => r = some (.inl (kCount σ tc)) ∧ σ' = σ) := by
  refine ty_M.of rfl hJ layC (ty_oks.cons (show (0 : Nat) < cnC 1 by decide) ty_oks.nil) (Nat.le_of_ble_eq_true rfl) ?_
  intro p e s m args below meth c C hr hnm
  have loop : ∀ k i, i + k = tc → ty_V cnC p l e (rmL 1) s m args below meth c D ad cA (ty_Gd cnC ad s) 3 (MQ below (ty_Q cnC D ad cA (fun r σ' => r = some (.inl (kCount σ tc)) ∧ σ' = σ) (ty_A cnC ad)) args s 0 0 (ty_A cnC ad)) σ [some (.inr (1, 0)), some (.inl (kCount σ i)), some (.inl (nI i))] 4 [] := by
    intro k
    induction k with
    | zero =>
      intro i hi 
      have hb := hc
      refine v_iload_n (pc := 4) C d_Course_countRunning_4 rfl rfl ?_
      refine v_aload_n (pc := 5) C d_Course_countRunning_5 rfl rfl ?_
      refine gf_Course_48 (pc := 6) C d_Course_countRunning_6 ?_
      refine v_icmp_ge (pc := 9) (tgt := 33) C d_Course_countRunning_9 (by decide) (fun h9 => ?_) (fun h9 => ?_)
      · refine v_iload_n (pc := 33) C d_Course_countRunning_33 rfl rfl ?_
        exact v_ireturn (pc := 34) C hr ⟨by rw [show tc = i by omega], rfl⟩ d_Course_countRunning_34
      · exact absurd (by rw [hb]; exact nI_le (by omega) (by omega)) h9
    | succ k ih =>
      intro i hi 
      have hb := hc
      refine v_iload_n (pc := 4) C d_Course_countRunning_4 rfl rfl ?_
      refine v_aload_n (pc := 5) C d_Course_countRunning_5 rfl rfl ?_
      refine gf_Course_48 (pc := 6) C d_Course_countRunning_6 ?_
      refine v_icmp_ge (pc := 9) (tgt := 33) C d_Course_countRunning_9 (by decide) (fun h9 => ?_) (fun h9 => ?_)
      · exact absurd h9 (by rw [hb]; exact nI_ge (by omega) (by omega))
      · refine v_aload_n (pc := 12) C d_Course_countRunning_12 rfl rfl ?_
        refine gf_Course_19 (pc := 13) C d_Course_countRunning_13 ?_
        refine v_iload_n (pc := 16) C d_Course_countRunning_16 rfl rfl ?_
        refine v_aaloadK (pc := 17) C rfl rfl (by decide) (rfl) (by omega) (by decide) d_Course_countRunning_17 ?_
        refine cl_Course_147 (pc := 18) C (c_Trial_isRunning l hJ σ i (by omega)) ⟨rfl, rfl, by decide, by decide⟩ rfl rfl (Nat.le_of_ble_eq_true rfl) d_Course_countRunning_18 (fun r σ' hq => ?_)
        rw [hq.1, hq.2]
        refine v_if_eq (pc := 21) (tgt := 27) C d_Course_countRunning_21 (by decide) (fun h21 => ?_) (fun h21 => ?_)
        · refine v_iinc (pc := 27) C d_Course_countRunning_27 rfl (show _ + Int32.ofInt 1 = _ + 1 from rfl) (by decide) ?_
          refine v_goto (pc := 30) (tgt := 4) C d_Course_countRunning_30 (by decide) ?_
          rw [nI_1 i]
          have e1 : kCount σ (i + 1) = _ := rfl
          unfold kRunning at h21
          first | (rw [show kCount σ i = kCount σ (i + 1) by simp_all [kCount, kRunning]]; exact ih (i + 1) (by omega)) | (rw [show kCount σ i + 1 = kCount σ (i + 1) by simp_all [kCount, kRunning]]; exact ih (i + 1) (by omega))
        · refine v_iinc (pc := 24) C d_Course_countRunning_24 rfl (show _ + Int32.ofInt 1 = _ + 1 from rfl) (by decide) ?_
          refine v_iinc (pc := 27) C d_Course_countRunning_27 rfl (show _ + Int32.ofInt 1 = _ + 1 from rfl) (by decide) ?_
          refine v_goto (pc := 30) (tgt := 4) C d_Course_countRunning_30 (by decide) ?_
          rw [nI_1 i]
          have e1 : kCount σ (i + 1) = _ := rfl
          unfold kRunning at h21
          first | (rw [show kCount σ i = kCount σ (i + 1) by simp_all [kCount, kRunning]]; exact ih (i + 1) (by omega)) | (rw [show kCount σ i + 1 = kCount σ (i + 1) by simp_all [kCount, kRunning]]; exact ih (i + 1) (by omega))
  refine v_iconst (pc := 0) (v := 0) C d_Course_countRunning_0 (by decide) ?_
  refine v_istore_n (pc := 1) C d_Course_countRunning_1 rfl (by decide) ?_
  refine v_iconst (pc := 2) (v := 0) C d_Course_countRunning_2 (by decide) ?_
  refine v_istore_n (pc := 3) C d_Course_countRunning_3 rfl (by decide) ?_
  exact loop tc 0 (by omega)
end
section
theorem kForgets_a {σ : ty_St} {a : Nat} (h : ¬ a = 3) : ∀ n, (kForgets σ n) a = σ a
  | 0 => rfl
  | n + 1 => by
    show (kForgetT (kForgets σ n) n) a = σ a
    unfold kForgetT
    simp only [up_a h]
    exact kForgets_a h n
theorem kFreeW_a {σ : ty_St} {a : Nat} (h : ¬ a = 10) : ∀ n, (kFreeW σ n) a = σ a
  | 0 => rfl
  | n + 1 => by
    show (ty_up (kFreeW σ n) 10 0 n (-1)) a = σ a
    rw [up_a h]
    exact kFreeW_a h n
theorem kStop1_a {σ : ty_St} {a t : Nat} (h : ¬ a = 3) (h4 : ¬ a = 4) : (kStop1 σ t) a = σ a := by
  unfold kStop1 kDecide
  split
  · rw [up_a h4, up_a h, up_a h]
  · rfl
theorem kStop_a {σ : ty_St} {a : Nat} (h : ¬ a = 3) (h4 : ¬ a = 4) : ∀ n, (kStop σ n) a = σ a
  | 0 => rfl
  | n + 1 => (kStop1_a h h4).trans (kStop_a h h4 n)
theorem kStop1_3 {σ : ty_St} {t u j : Nat} (h4 : ¬ j = 4) (h7 : ¬ j = 7) : (kStop1 σ t) 3 u j = σ 3 u j := by
  unfold kStop1 kDecide
  split
  · rw [up_a (by decide)]
    by_cases e : u = t
    · subst e
      rw [up_sj h7, up_sj h4]
    · rw [up_i e, up_i e]
  · rfl
theorem kStop_3 {σ : ty_St} {u j : Nat} (h4 : ¬ j = 4) (h7 : ¬ j = 7) : ∀ n, (kStop σ n) 3 u j = σ 3 u j
  | 0 => rfl
  | n + 1 => (kStop1_3 h4 h7).trans (kStop_3 h4 h7 n)
set_option maxRecDepth 100000 in
set_option maxHeartbeats 4000000 in
theorem c_Course_forgetRun (l : Launch) {D : va_G} {ad : Nat → Nat → Nat} {cA : Nat → ClassId} (hJ : ty_J cnC ad) (σ : ty_St) (tc : Nat) (htc : tc ≤ 12) (hc : σ 1 0 6 = nI tc) : ty_M l y_Course_forgetRun (Cond.code y_Course_forgetRun b_Course_forgetRun 2 none :: ty_w) (rmL 1) cnC D ad cA [.inr (1, 0)] σ (fun r σ' => r = none ∧ σ' = kForgetRun σ) := by
  refine ty_M.of rfl hJ layC (ty_oks.cons (show (0 : Nat) < cnC 1 by decide) ty_oks.nil) (Nat.le_of_ble_eq_true rfl) ?_
  intro p e s m args below meth c C hr hnm
  have hn : nn (σ 1 0 6) = tc := by rw [hc]; exact nI_clamp (by omega)
  have loop2 : ∀ k i, i + k = 4 → ∀ τ : ty_St, τ = kFreeW (kForgets σ tc) i → ty_V cnC p l e (rmL 1) s m args below meth c D ad cA (ty_Gd cnC ad s) 2 (MQ below (ty_Q cnC D ad cA (fun r σ' => r = none ∧ σ' = kForgetRun σ) (ty_A cnC ad)) args s 0 0 (ty_A cnC ad)) τ [some (.inr (1, 0)), some (.inl (nI i))] 27 [] := by
    intro k
    induction k with
    | zero =>
      intro i hi τ hτ
      have hb := (show (4 : Int32) = nI 4 from rfl)
      refine v_iload_n (pc := 27) C d_Course_forgetRun_27 rfl rfl ?_
      refine v_iconst (pc := 28) (v := 4) C d_Course_forgetRun_28 (by decide) ?_
      refine v_icmp_ge (pc := 29) (tgt := 45) C d_Course_forgetRun_29 (by decide) (fun h29 => ?_) (fun h29 => ?_)
      · refine v_aload_n (pc := 45) C d_Course_forgetRun_45 rfl rfl ?_
        refine gf_Course_38 (pc := 46) C d_Course_forgetRun_46 ?_
        refine v_iconst (pc := 49) (v := 0) C d_Course_forgetRun_49 (by decide) ?_
        refine pf_Course_97 (pc := 50) C d_Course_forgetRun_50 ?_
        refine v_aload_n (pc := 53) C d_Course_forgetRun_53 rfl rfl ?_
        refine gf_Course_42 (pc := 54) C d_Course_forgetRun_54 ?_
        refine v_iconst (pc := 57) (v := 0) C d_Course_forgetRun_57 (by decide) ?_
        refine pf_Course_97 (pc := 58) C d_Course_forgetRun_58 ?_
        refine v_aload_n (pc := 61) C d_Course_forgetRun_61 rfl rfl ?_
        refine v_iconst (pc := 62) (v := 0) C d_Course_forgetRun_62 (by decide) ?_
        refine pf_Course_100 (pc := 63) C d_Course_forgetRun_63 ?_
        refine v_aload_n (pc := 66) C d_Course_forgetRun_66 rfl rfl ?_
        refine v_iconst (pc := 67) (v := 0) C d_Course_forgetRun_67 (by decide) ?_
        refine pf_Course_103 (pc := 68) C d_Course_forgetRun_68 ?_
        refine v_aload_n (pc := 71) C d_Course_forgetRun_71 rfl rfl ?_
        refine v_iconst (pc := 72) (v := 0) C d_Course_forgetRun_72 (by decide) ?_
        refine pf_Course_67 (pc := 73) C d_Course_forgetRun_73 ?_
        refine v_aload_n (pc := 76) C d_Course_forgetRun_76 rfl rfl ?_
        refine v_iconst (pc := 77) (v := 0) C d_Course_forgetRun_77 (by decide) ?_
        refine pf_Course_87 (pc := 78) C d_Course_forgetRun_78 ?_
        exact v_return (pc := 81) C hr ⟨rfl, by unfold kForgetRun; rw [hn, hτ, show i = 4 by omega]⟩ d_Course_forgetRun_81
      · exact absurd (by rw [hb]; exact nI_le (by omega) (by omega)) h29
    | succ k ih =>
      intro i hi τ hτ
      have hb := (show (4 : Int32) = nI 4 from rfl)
      refine v_iload_n (pc := 27) C d_Course_forgetRun_27 rfl rfl ?_
      refine v_iconst (pc := 28) (v := 4) C d_Course_forgetRun_28 (by decide) ?_
      refine v_icmp_ge (pc := 29) (tgt := 45) C d_Course_forgetRun_29 (by decide) (fun h29 => ?_) (fun h29 => ?_)
      · exact absurd h29 (by rw [hb]; exact nI_ge (by omega) (by omega))
      · refine v_aload_n (pc := 32) C d_Course_forgetRun_32 rfl rfl ?_
        refine gf_Course_29 (pc := 33) C d_Course_forgetRun_33 ?_
        refine v_iload_n (pc := 36) C d_Course_forgetRun_36 rfl rfl ?_
        refine v_iconst (pc := 37) (v := (-1)) C d_Course_forgetRun_37 (by decide) ?_
        refine v_iastoreK (pc := 38) C rfl rfl (rfl) (by omega) (by decide) d_Course_forgetRun_38 ?_
        refine v_iinc (pc := 39) C d_Course_forgetRun_39 rfl (show _ + Int32.ofInt 1 = _ + 1 from rfl) (by decide) ?_
        refine v_goto (pc := 42) (tgt := 27) C d_Course_forgetRun_42 (by decide) ?_
        rw [nI_1 i]
        exact ih (i + 1) (by omega) _ (by rw [hτ]; rfl)
  have loop1 : ∀ k i, i + k = tc → ∀ τ : ty_St, τ = kForgets σ i → ty_V cnC p l e (rmL 1) s m args below meth c D ad cA (ty_Gd cnC ad s) 2 (MQ below (ty_Q cnC D ad cA (fun r σ' => r = none ∧ σ' = kForgetRun σ) (ty_A cnC ad)) args s 0 0 (ty_A cnC ad)) τ [some (.inr (1, 0)), some (.inl (nI i))] 2 [] := by
    intro k
    induction k with
    | zero =>
      intro i hi τ hτ
      have hb := (show τ 1 0 6 = nI tc by rw [hτ, kForgets_a (by decide)]; exact hc)
      refine v_iload_n (pc := 2) C d_Course_forgetRun_2 rfl rfl ?_
      refine v_aload_n (pc := 3) C d_Course_forgetRun_3 rfl rfl ?_
      refine gf_Course_48 (pc := 4) C d_Course_forgetRun_4 ?_
      refine v_icmp_ge (pc := 7) (tgt := 25) C d_Course_forgetRun_7 (by decide) (fun h7 => ?_) (fun h7 => ?_)
      · refine v_iconst (pc := 25) (v := 0) C d_Course_forgetRun_25 (by decide) ?_
        refine v_istore_n (pc := 26) C d_Course_forgetRun_26 rfl (by decide) ?_
        exact loop2 4 0 (by omega) _ (by rw [hτ, show i = tc by omega]; rfl)
      · exact absurd (by rw [hb]; exact nI_le (by omega) (by omega)) h7
    | succ k ih =>
      intro i hi τ hτ
      have hb := (show τ 1 0 6 = nI tc by rw [hτ, kForgets_a (by decide)]; exact hc)
      refine v_iload_n (pc := 2) C d_Course_forgetRun_2 rfl rfl ?_
      refine v_aload_n (pc := 3) C d_Course_forgetRun_3 rfl rfl ?_
      refine gf_Course_48 (pc := 4) C d_Course_forgetRun_4 ?_
      refine v_icmp_ge (pc := 7) (tgt := 25) C d_Course_forgetRun_7 (by decide) (fun h7 => ?_) (fun h7 => ?_)
      · exact absurd h7 (by rw [hb]; exact nI_ge (by omega) (by omega))
      · refine v_aload_n (pc := 10) C d_Course_forgetRun_10 rfl rfl ?_
        refine gf_Course_19 (pc := 11) C d_Course_forgetRun_11 ?_
        refine v_iload_n (pc := 14) C d_Course_forgetRun_14 rfl rfl ?_
        refine v_aaloadK (pc := 15) C rfl rfl (by decide) (rfl) (by omega) (by decide) d_Course_forgetRun_15 ?_
        refine cl_Course_96 (pc := 16) C (c_Trial_forgetRun l hJ τ i (by omega)) ⟨rfl, rfl, by decide, by decide⟩ rfl rfl (Nat.le_of_ble_eq_true rfl) d_Course_forgetRun_16 (fun r σ' hq => ?_)
        rw [hq.1, hq.2]
        refine v_iinc (pc := 19) C d_Course_forgetRun_19 rfl (show _ + Int32.ofInt 1 = _ + 1 from rfl) (by decide) ?_
        refine v_goto (pc := 22) (tgt := 2) C d_Course_forgetRun_22 (by decide) ?_
        rw [nI_1 i]
        exact ih (i + 1) (by omega) _ (by rw [hτ]; rfl)
  refine v_iconst (pc := 0) (v := 0) C d_Course_forgetRun_0 (by decide) ?_
  refine v_istore_n (pc := 1) C d_Course_forgetRun_1 rfl (by decide) ?_
  exact loop1 tc 0 (by omega) _ rfl
theorem kOv_1 {σ : ty_St} {t : Nat} {x : Int32} (h : ¬ kOverruns σ t x = 0) : kOverruns σ t x = 1 := by
  unfold kOverruns at h ⊢
  split
  · rfl
  · rename_i q; rw [if_neg q] at h; exact absurd rfl h
theorem kOv_run {σ : ty_St} {t : Nat} {x : Int32} (h : ¬ kOverruns σ t x = 0) : ¬ σ 3 t 6 = -1 := by
  unfold kOverruns at h
  split at h
  · rename_i q; exact q.1.1
  · exact absurd rfl h
set_option maxRecDepth 100000 in
set_option maxHeartbeats 4000000 in
theorem c_Course_stop (l : Launch) {D : va_G} {ad : Nat → Nat → Nat} {cA : Nat → ClassId} (hJ : ty_J cnC ad) (σ : ty_St) (tc : Nat) (htc : tc ≤ 12) (hc : σ 1 0 6 = nI tc) (hfs : ∀ t, t < 12 → ¬ σ 3 t 6 = -1 → vp_in (σ 3 t 11) 52) : ty_M l y_Course_stopOverruns (Cond.code y_Course_stopOverruns b_Course_stopOverruns 3 none :: ty_w) (rmL 2) cnC D ad cA [.inr (1, 0)] σ (fun r σ' => r = none ∧ σ' = kStop σ tc) := by
  refine ty_M.of rfl hJ layC (ty_oks.cons (show (0 : Nat) < cnC 1 by decide) ty_oks.nil) (Nat.le_of_ble_eq_true rfl) ?_
  intro p e s m args below meth c C hr hnm
  have loop : ∀ k i, i + k = tc → ∀ τ : ty_St, τ = kStop σ i → ty_V cnC p l e (rmL 2) s m args below meth c D ad cA (ty_Gd cnC ad s) 3 (MQ below (ty_Q cnC D ad cA (fun r σ' => r = none ∧ σ' = kStop σ tc) (ty_A cnC ad)) args s 0 0 (ty_A cnC ad)) τ [some (.inr (1, 0)), some (.inl (nI i)), none] 2 [] := by
    intro k
    induction k with
    | zero =>
      intro i hi τ hτ
      have hb := (show τ 1 0 6 = nI tc by rw [hτ, kStop_a (by decide) (by decide)]; exact hc)
      refine v_iload_n (pc := 2) C d_Course_stopOverruns_2 rfl rfl ?_
      refine v_aload_n (pc := 3) C d_Course_stopOverruns_3 rfl rfl ?_
      refine gf_Course_48 (pc := 4) C d_Course_stopOverruns_4 ?_
      refine v_icmp_ge (pc := 7) (tgt := 56) C d_Course_stopOverruns_7 (by decide) (fun h7 => ?_) (fun h7 => ?_)
      · exact v_return (pc := 56) C hr ⟨rfl, by rw [hτ, show i = tc by omega]⟩ d_Course_stopOverruns_56
      · exact absurd (by rw [hb]; exact nI_le (by omega) (by omega)) h7
    | succ k ih =>
      intro i hi τ hτ
      have hb := (show τ 1 0 6 = nI tc by rw [hτ, kStop_a (by decide) (by decide)]; exact hc)
      have hfi : ¬ τ 3 i 6 = -1 → vp_in ((kDecide τ i 3 (τ 1 0 11)) 3 i 11) 52 := fun q => by
        have e1 : (kDecide τ i 3 (τ 1 0 11)) 3 i 11 = τ 3 i 11 := by simp [kDecide, up_sj]
        rw [e1, hτ, kStop_3 (by decide) (by decide)]
        rw [hτ, kStop_3 (by decide) (by decide)] at q
        exact hfs i (by omega) q
      refine v_iload_n (pc := 2) C d_Course_stopOverruns_2 rfl rfl ?_
      refine v_aload_n (pc := 3) C d_Course_stopOverruns_3 rfl rfl ?_
      refine gf_Course_48 (pc := 4) C d_Course_stopOverruns_4 ?_
      refine v_icmp_ge (pc := 7) (tgt := 56) C d_Course_stopOverruns_7 (by decide) (fun h7 => ?_) (fun h7 => ?_)
      · exact absurd h7 (by rw [hb]; exact nI_ge (by omega) (by omega))
      · refine v_aload_n (pc := 10) C d_Course_stopOverruns_10 rfl rfl ?_
        refine gf_Course_19 (pc := 11) C d_Course_stopOverruns_11 ?_
        refine v_iload_n (pc := 14) C d_Course_stopOverruns_14 rfl rfl ?_
        refine v_aaloadK (pc := 15) C rfl rfl (by decide) (rfl) (by omega) (by decide) d_Course_stopOverruns_15 ?_
        refine v_astore_n (pc := 16) C d_Course_stopOverruns_16 rfl (by decide) ?_
        refine v_aload_n (pc := 17) C d_Course_stopOverruns_17 rfl rfl ?_
        refine v_aload_n (pc := 18) C d_Course_stopOverruns_18 rfl rfl ?_
        refine gf_Course_87 (pc := 19) C d_Course_stopOverruns_19 ?_
        refine cl_Course_106 (pc := 22) C (c_Trial_overrunsAt l hJ τ i (by omega) _) ⟨rfl, rfl, by decide, by decide⟩ rfl rfl (Nat.le_of_ble_eq_true rfl) d_Course_stopOverruns_22 (fun r σ' hq => ?_)
        rw [hq.1, hq.2]
        refine v_if_eq (pc := 25) (tgt := 50) C d_Course_stopOverruns_25 (by decide) (fun h25 => ?_) (fun h25 => ?_)
        · refine v_iinc (pc := 50) C d_Course_stopOverruns_50 rfl (show _ + Int32.ofInt 1 = _ + 1 from rfl) (by decide) ?_
          refine v_goto (pc := 53) (tgt := 2) C d_Course_stopOverruns_53 (by decide) ?_
          refine v_forget C 2 ?_
          rw [nI_1 i]
          refine ih (i + 1) (by omega) _ ?_
          rw [kStop, ← hτ]
          unfold kStop1
          first | (rw [if_neg (by rw [h25]; decide)]) | (rw [if_pos (kOv_1 h25)]; simp [kDecide, up_sj, nn])
        · refine v_aload_n (pc := 28) C d_Course_stopOverruns_28 rfl rfl ?_
          refine v_iconst (pc := 29) (v := 3) C d_Course_stopOverruns_29 (by decide) ?_
          refine v_aload_n (pc := 30) C d_Course_stopOverruns_30 rfl rfl ?_
          refine gf_Course_87 (pc := 31) C d_Course_stopOverruns_31 ?_
          refine cl_Course_110 (pc := 34) C (c_Trial_decide l hJ τ i (by omega) _ _) ⟨rfl, rfl, by decide, by decide⟩ rfl rfl (Nat.le_of_ble_eq_true rfl) d_Course_stopOverruns_34 (fun r σ' hq => ?_)
          rw [hq.1, hq.2]
          refine v_aload_n (pc := 37) C d_Course_stopOverruns_37 rfl rfl ?_
          refine gf_Course_25 (pc := 38) C d_Course_stopOverruns_38 ?_
          refine v_aload_n (pc := 41) C d_Course_stopOverruns_41 rfl rfl ?_
          refine gf_Course_114 (pc := 42) C d_Course_stopOverruns_42 ?_
          refine v_aaload (pc := 45) C rfl rfl (by decide) (hfi (fun q => by have := kOv_run h25; exact this q)) d_Course_stopOverruns_45 ?_
          refine v_iconst (pc := 46) (v := 1) C d_Course_stopOverruns_46 (by decide) ?_
          refine pf_Course_117 (pc := 47) C rfl rfl d_Course_stopOverruns_47 ?_
          refine v_iinc (pc := 50) C d_Course_stopOverruns_50 rfl (show _ + Int32.ofInt 1 = _ + 1 from rfl) (by decide) ?_
          refine v_goto (pc := 53) (tgt := 2) C d_Course_stopOverruns_53 (by decide) ?_
          refine v_forget C 2 ?_
          rw [nI_1 i]
          refine ih (i + 1) (by omega) _ ?_
          rw [kStop, ← hτ]
          unfold kStop1
          first | (rw [if_neg (by rw [h25]; decide)]) | (rw [if_pos (kOv_1 h25)]; simp [kDecide, up_sj, nn])
  refine v_iconst (pc := 0) (v := 0) C d_Course_stopOverruns_0 (by decide) ?_
  refine v_istore_n (pc := 1) C d_Course_stopOverruns_1 rfl (by decide) ?_
  exact loop tc 0 (by omega) _ rfl
set_option maxRecDepth 100000 in
set_option maxHeartbeats 4000000 in
theorem c_Course_releaseIf (l : Launch) {D : va_G} {ad : Nat → Nat → Nat} {cA : Nat → ClassId} (hJ : ty_J cnC ad) (σ : ty_St) (w : Nat) (hw : w < 4) (t : Nat) (ht : t < 12) (hf : vp_in (σ 3 t 11) 52) : ty_M l y_Course_releaseIfDone (Cond.code y_Course_releaseIfDone b_Course_releaseIfDone 3 none :: ty_w) (rmL 0) cnC D ad cA [.inr (1, 0), .inl (nI w), .inr (3, t)] σ (fun r σ' => r = none ∧ σ' = kReleaseIf σ w t) := by
  refine ty_M.of rfl hJ layC (ty_oks.cons (show (0 : Nat) < cnC 1 by decide) (ty_oks.cons trivial (ty_oks.cons ht ty_oks.nil))) (Nat.le_of_ble_eq_true rfl) ?_
  intro p e s m args below meth c C hr hnm
  refine v_aload_n (pc := 0) C d_Course_releaseIfDone_0 rfl rfl ?_
  refine gf_Course_25 (pc := 1) C d_Course_releaseIfDone_1 ?_
  refine v_aload_n (pc := 4) C d_Course_releaseIfDone_4 rfl rfl ?_
  refine gf_Course_114 (pc := 5) C d_Course_releaseIfDone_5 ?_
  refine v_aaload (pc := 8) C rfl rfl (by decide) hf d_Course_releaseIfDone_8 ?_
  refine gf_Course_125 (pc := 9) C d_Course_releaseIfDone_9 ?_
  refine v_if_eq (pc := 12) (tgt := 25) C d_Course_releaseIfDone_12 (by decide) (fun h12 => ?_) (fun h12 => ?_)
  · refine v_aload_n (pc := 25) C d_Course_releaseIfDone_25 rfl rfl ?_
    refine gf_Course_93 (pc := 26) C d_Course_releaseIfDone_26 ?_
    refine v_iconst (pc := 29) (v := 3) C d_Course_releaseIfDone_29 (by decide) ?_
    refine v_icmp_ne (pc := 30) (tgt := 58) C d_Course_releaseIfDone_30 (by decide) (fun h30 => ?_) (fun h30 => ?_)
    · exact v_return (pc := 58) C hr ⟨rfl, by unfold kReleaseIf; first | rw [if_pos h12] | (rw [if_neg (fun q => q h12), if_neg (fun q => h30 q.1)]) | (rw [if_neg (fun q => q h12), if_neg (fun q => absurd q.2 (Int32.not_le.mpr h43))]) | (rw [if_neg (fun q => q h12), if_pos ⟨h30, Int32.not_lt.mp h43⟩])⟩ d_Course_releaseIfDone_58
    · refine v_aload_n (pc := 33) C d_Course_releaseIfDone_33 rfl rfl ?_
      refine gf_Course_87 (pc := 34) C d_Course_releaseIfDone_34 ?_
      refine v_aload_n (pc := 37) C d_Course_releaseIfDone_37 rfl rfl ?_
      refine gf_Course_128 (pc := 38) C d_Course_releaseIfDone_38 ?_
      refine v_isub (pc := 41) C d_Course_releaseIfDone_41 ?_
      refine v_iconst (pc := 42) (v := 3) C d_Course_releaseIfDone_42 (by decide) ?_
      refine v_icmp_lt (pc := 43) (tgt := 58) C d_Course_releaseIfDone_43 (by decide) (fun h43 => ?_) (fun h43 => ?_)
      · exact v_return (pc := 58) C hr ⟨rfl, by unfold kReleaseIf; first | rw [if_pos h12] | (rw [if_neg (fun q => q h12), if_neg (fun q => h30 q.1)]) | (rw [if_neg (fun q => q h12), if_neg (fun q => absurd q.2 (Int32.not_le.mpr h43))]) | (rw [if_neg (fun q => q h12), if_pos ⟨h30, Int32.not_lt.mp h43⟩])⟩ d_Course_releaseIfDone_58
      · refine v_aload_n (pc := 46) C d_Course_releaseIfDone_46 rfl rfl ?_
        refine v_iconst (pc := 47) (v := 1) C d_Course_releaseIfDone_47 (by decide) ?_
        refine pf_Course_131 (pc := 48) C rfl rfl d_Course_releaseIfDone_48 ?_
        refine v_aload_n (pc := 51) C d_Course_releaseIfDone_51 rfl rfl ?_
        refine gf_Course_29 (pc := 52) C d_Course_releaseIfDone_52 ?_
        refine v_iload_n (pc := 55) C d_Course_releaseIfDone_55 rfl rfl ?_
        refine v_iconst (pc := 56) (v := (-1)) C d_Course_releaseIfDone_56 (by decide) ?_
        refine v_iastoreK (pc := 57) C rfl rfl (rfl) (hw) (by decide) d_Course_releaseIfDone_57 ?_
        exact v_return (pc := 58) C hr ⟨rfl, by unfold kReleaseIf; first | rw [if_pos h12] | (rw [if_neg (fun q => q h12), if_neg (fun q => h30 q.1)]) | (rw [if_neg (fun q => q h12), if_neg (fun q => absurd q.2 (Int32.not_le.mpr h43))]) | (rw [if_neg (fun q => q h12), if_pos ⟨h30, Int32.not_lt.mp h43⟩])⟩ d_Course_releaseIfDone_58
  · refine v_aload_n (pc := 15) C d_Course_releaseIfDone_15 rfl rfl ?_
    refine gf_Course_29 (pc := 16) C d_Course_releaseIfDone_16 ?_
    refine v_iload_n (pc := 19) C d_Course_releaseIfDone_19 rfl rfl ?_
    refine v_iconst (pc := 20) (v := (-1)) C d_Course_releaseIfDone_20 (by decide) ?_
    refine v_iastoreK (pc := 21) C rfl rfl (rfl) (hw) (by decide) d_Course_releaseIfDone_21 ?_
    refine v_goto (pc := 22) (tgt := 58) C d_Course_releaseIfDone_22 (by decide) ?_
    exact v_return (pc := 58) C hr ⟨rfl, by unfold kReleaseIf; first | rw [if_pos h12] | (rw [if_neg (fun q => q h12), if_neg (fun q => h30 q.1)]) | (rw [if_neg (fun q => q h12), if_neg (fun q => absurd q.2 (Int32.not_le.mpr h43))]) | (rw [if_neg (fun q => q h12), if_pos ⟨h30, Int32.not_lt.mp h43⟩])⟩ d_Course_releaseIfDone_58
end
section
theorem kRelease1_a {σ : ty_St} {a w : Nat} (h : ¬ a = 3) (h4 : ¬ a = 10) : (kRelease1 σ w) a = σ a := by
  unfold kRelease1 kReleaseIf
  repeat' split
  all_goals first | rw [up_a h4, up_a h] | rw [up_a h4] | rfl
theorem kRelease_a {σ : ty_St} {a : Nat} (h : ¬ a = 3) (h4 : ¬ a = 10) : ∀ n, (kRelease σ n) a = σ a
  | 0 => rfl
  | n + 1 => (kRelease1_a h h4).trans (kRelease_a h h4 n)
theorem kRelease1_3 {σ : ty_St} {w u j : Nat} (h9 : ¬ j = 9) : (kRelease1 σ w) 3 u j = σ 3 u j := by
  unfold kRelease1 kReleaseIf
  repeat' split
  all_goals first | rfl | (rw [up_a (by decide)]; first | rfl | skip)
  by_cases e : u = nn (σ 10 0 w)
  · subst e; rw [up_sj h9]
  · rw [up_i e]
theorem kRelease_3 {σ : ty_St} {u j : Nat} (h9 : ¬ j = 9) : ∀ n, (kRelease σ n) 3 u j = σ 3 u j
  | 0 => rfl
  | n + 1 => (kRelease1_3 h9).trans (kRelease_3 h9 n)
theorem kRelease1_10 {σ : ty_St} {w u : Nat} (h : ¬ u = w) : (kRelease1 σ w) 10 0 u = σ 10 0 u := by
  unfold kRelease1 kReleaseIf
  repeat' split
  all_goals first | rfl | (rw [up_sj h]; try (rw [up_a (by decide)]))
theorem kRelease_10 {σ : ty_St} {u : Nat} : ∀ n, n ≤ u → (kRelease σ n) 10 0 u = σ 10 0 u
  | 0, _ => rfl
  | n + 1, h => (kRelease1_10 (by omega)).trans (kRelease_10 n (by omega))
theorem kLowest_in {σ : ty_St} : ∀ k i, kLowest σ k i = -1 ∨ ∃ w, i ≤ w ∧ w < i + k ∧ kLowest σ k i = nI w ∧ σ 10 0 w = -1
  | 0, i => Or.inl rfl
  | k + 1, i => by
    unfold kLowest
    split
    · rename_i h; exact Or.inr ⟨i, by omega, by omega, rfl, h⟩
    · rcases kLowest_in (σ := σ) k (i + 1) with h | ⟨w, h1, h2, h3, h4⟩
      · exact Or.inl h
      · exact Or.inr ⟨w, by omega, by omega, h3, h4⟩
theorem kCan_mono {σ : ty_St} {t : Nat} : ∀ {n k : Nat}, n ≤ k → kCan σ t k = true → kCan σ t n = true := by
  intro n k h
  induction k with
  | zero => intro q; rw [show n = 0 by omega]; exact q
  | succ k ih =>
    intro q
    by_cases e : n = k + 1
    · rw [e]; exact q
    · simp only [kCan, Bool.and_eq_true] at q
      exact ih (by omega) q.1
theorem kDone_mono {σ : ty_St} : ∀ {n k : Nat}, n ≤ k → kDone σ k = true → kDone σ n = true := by
  intro n k h
  induction k with
  | zero => intro q; rw [show n = 0 by omega]; exact q
  | succ k ih =>
    intro q
    by_cases e : n = k + 1
    · rw [e]; exact q
    · simp only [kDone, Bool.and_eq_true] at q
      exact ih (by omega) q.1
theorem kIdle_mono {σ : ty_St} : ∀ {n k : Nat}, n ≤ k → kIdle σ k = true → kIdle σ n = true := by
  intro n k h
  induction k with
  | zero => intro q; rw [show n = 0 by omega]; exact q
  | succ k ih =>
    intro q
    by_cases e : n = k + 1
    · rw [e]; exact q
    · simp only [kIdle, Bool.and_eq_true] at q
      exact ih (by omega) q.1
theorem kRunning_01 (σ : ty_St) (t : Nat) : kRunning σ t = 0 ∨ kRunning σ t = 1 := by unfold kRunning; split <;> simp
theorem kHinders_01 (σ : ty_St) (t u : Nat) : kHinders σ t u = 0 ∨ kHinders σ t u = 1 := by unfold kHinders; split <;> simp
set_option maxRecDepth 100000 in
set_option maxHeartbeats 4000000 in
theorem c_Course_release (l : Launch) {D : va_G} {ad : Nat → Nat → Nat} {cA : Nat → ClassId} (hJ : ty_J cnC ad) (σ : ty_St) (wc : Nat) (hwc : wc ≤ 4) (hw : σ 1 0 7 = nI wc) (hto : ∀ w, w < 4 → ¬ σ 10 0 w = -1 → vp_in (σ 10 0 w) 12 ∧ vp_in (σ 3 (nn (σ 10 0 w)) 11) 52) : ty_M l y_Course_releaseWorkers (Cond.code y_Course_releaseWorkers b_Course_releaseWorkers 2 none :: ty_w) (rmL 1) cnC D ad cA [.inr (1, 0)] σ (fun r σ' => r = none ∧ σ' = kRelease σ wc) := by
  refine ty_M.of rfl hJ layC (ty_oks.cons (show (0 : Nat) < cnC 1 by decide) ty_oks.nil) (Nat.le_of_ble_eq_true rfl) ?_
  intro p e s m args below meth c C hr hnm
  have loop : ∀ k i, i + k = wc → ∀ τ : ty_St, τ = kRelease σ i → ty_V cnC p l e (rmL 1) s m args below meth c D ad cA (ty_Gd cnC ad s) 2 (MQ below (ty_Q cnC D ad cA (fun r σ' => r = none ∧ σ' = kRelease σ wc) (ty_A cnC ad)) args s 0 0 (ty_A cnC ad)) τ [some (.inr (1, 0)), some (.inl (nI i))] 2 [] := by
    intro k
    induction k with
    | zero =>
      intro i hi τ hτ
      have hb := (show τ 1 0 7 = nI wc by rw [hτ, kRelease_a (by decide) (by decide)]; exact hw)
      refine v_iload_n (pc := 2) C d_Course_releaseWorkers_2 rfl rfl ?_
      refine v_aload_n (pc := 3) C d_Course_releaseWorkers_3 rfl rfl ?_
      refine gf_Course_52 (pc := 4) C d_Course_releaseWorkers_4 ?_
      refine v_icmp_ge (pc := 7) (tgt := 42) C d_Course_releaseWorkers_7 (by decide) (fun h7 => ?_) (fun h7 => ?_)
      · exact v_return (pc := 42) C hr ⟨rfl, by rw [hτ, show i = wc by omega]⟩ d_Course_releaseWorkers_42
      · exact absurd (by rw [hb]; exact nI_le (by omega) (by omega)) h7
    | succ k ih =>
      intro i hi τ hτ
      have hb := (show τ 1 0 7 = nI wc by rw [hτ, kRelease_a (by decide) (by decide)]; exact hw)
      have hti : ¬ τ 10 0 i = -1 → vp_in (τ 10 0 i) 12 ∧ nn (τ 10 0 i) < 12 ∧ vp_in (τ 3 (nn (τ 10 0 i)) 11) 52 := fun q => by
        rw [hτ, kRelease_10 i (Nat.le_refl _)] at q
        rw [hτ, kRelease_10 i (Nat.le_refl _), kRelease_3 (by decide)]
        have h1 := hto i (by omega) q
        exact ⟨h1.1, Nat.not_le.mp fun z => h1.1 (Or.inr z), h1.2⟩
      refine v_iload_n (pc := 2) C d_Course_releaseWorkers_2 rfl rfl ?_
      refine v_aload_n (pc := 3) C d_Course_releaseWorkers_3 rfl rfl ?_
      refine gf_Course_52 (pc := 4) C d_Course_releaseWorkers_4 ?_
      refine v_icmp_ge (pc := 7) (tgt := 42) C d_Course_releaseWorkers_7 (by decide) (fun h7 => ?_) (fun h7 => ?_)
      · exact absurd h7 (by rw [hb]; exact nI_ge (by omega) (by omega))
      · refine v_aload_n (pc := 10) C d_Course_releaseWorkers_10 rfl rfl ?_
        refine gf_Course_29 (pc := 11) C d_Course_releaseWorkers_11 ?_
        refine v_iload_n (pc := 14) C d_Course_releaseWorkers_14 rfl rfl ?_
        refine v_ialoadK (pc := 15) C rfl rfl (rfl) (by omega) (by decide) d_Course_releaseWorkers_15 ?_
        refine v_iconst (pc := 16) (v := (-1)) C d_Course_releaseWorkers_16 (by decide) ?_
        refine v_icmp_eq (pc := 17) (tgt := 36) C d_Course_releaseWorkers_17 (by decide) (fun h17 => ?_) (fun h17 => ?_)
        · refine v_iinc (pc := 36) C d_Course_releaseWorkers_36 rfl (show _ + Int32.ofInt 1 = _ + 1 from rfl) (by decide) ?_
          refine v_goto (pc := 39) (tgt := 2) C d_Course_releaseWorkers_39 (by decide) ?_
          rw [nI_1 i]
          refine ih (i + 1) (by omega) _ ?_
          rw [kRelease, ← hτ]
          unfold kRelease1
          first | (rw [if_pos h17]) | (rw [if_neg (fun q => q h17)])
        · refine v_aload_n (pc := 20) C d_Course_releaseWorkers_20 rfl rfl ?_
          refine v_iload_n (pc := 21) C d_Course_releaseWorkers_21 rfl rfl ?_
          refine v_aload_n (pc := 22) C d_Course_releaseWorkers_22 rfl rfl ?_
          refine gf_Course_19 (pc := 23) C d_Course_releaseWorkers_23 ?_
          refine v_aload_n (pc := 26) C d_Course_releaseWorkers_26 rfl rfl ?_
          refine gf_Course_29 (pc := 27) C d_Course_releaseWorkers_27 ?_
          refine v_iload_n (pc := 30) C d_Course_releaseWorkers_30 rfl rfl ?_
          refine v_ialoadK (pc := 31) C rfl rfl (rfl) (by omega) (by decide) d_Course_releaseWorkers_31 ?_
          refine v_aaload (pc := 32) C rfl rfl (by decide) (hti h17).1 d_Course_releaseWorkers_32 ?_
          refine cl_Course_121 (pc := 33) C (c_Course_releaseIf l hJ τ i (by omega) (nn (τ 10 0 i)) (hti h17).2.1 (hti h17).2.2) ⟨rfl, rfl, by decide, by decide⟩ rfl rfl (Nat.le_of_ble_eq_true rfl) d_Course_releaseWorkers_33 (fun r σ' hq => ?_)
          rw [hq.1, hq.2]
          refine v_iinc (pc := 36) C d_Course_releaseWorkers_36 rfl (show _ + Int32.ofInt 1 = _ + 1 from rfl) (by decide) ?_
          refine v_goto (pc := 39) (tgt := 2) C d_Course_releaseWorkers_39 (by decide) ?_
          rw [nI_1 i]
          refine ih (i + 1) (by omega) _ ?_
          rw [kRelease, ← hτ]
          unfold kRelease1
          first | (rw [if_pos h17]) | (rw [if_neg (fun q => q h17)])
  refine v_iconst (pc := 0) (v := 0) C d_Course_releaseWorkers_0 (by decide) ?_
  refine v_istore_n (pc := 1) C d_Course_releaseWorkers_1 rfl (by decide) ?_
  exact loop wc 0 (by omega) _ rfl
set_option maxRecDepth 100000 in
set_option maxHeartbeats 4000000 in
theorem c_Course_lowest (l : Launch) {D : va_G} {ad : Nat → Nat → Nat} {cA : Nat → ClassId} (hJ : ty_J cnC ad) (σ : ty_St) (wc : Nat) (hwc : wc ≤ 4) (hw : σ 1 0 7 = nI wc) : ty_M l y_Course_lowestFreeWorker (Cond.code y_Course_lowestFreeWorker b_Course_lowestFreeWorker 2 (some .int) :: ty_w) (rmL 0) cnC D ad cA [.inr (1, 0)] σ (fun r σ' => r = some (.inl (kLowest σ wc 0)) ∧ σ' = σ) := by
  refine ty_M.of rfl hJ layC (ty_oks.cons (show (0 : Nat) < cnC 1 by decide) ty_oks.nil) (Nat.le_of_ble_eq_true rfl) ?_
  intro p e s m args below meth c C hr hnm
  have loop : ∀ k i, i + k = wc → kLowest σ k i = kLowest σ wc 0 → ty_V cnC p l e (rmL 0) s m args below meth c D ad cA (ty_Gd cnC ad s) 2 (MQ below (ty_Q cnC D ad cA (fun r σ' => r = some (.inl (kLowest σ wc 0)) ∧ σ' = σ) (ty_A cnC ad)) args s 0 0 (ty_A cnC ad)) σ [some (.inr (1, 0)), some (.inl (nI i))] 2 [] := by
    intro k
    induction k with
    | zero =>
      intro i hi hL
      have hb := hw
      refine v_iload_n (pc := 2) C d_Course_lowestFreeWorker_2 rfl rfl ?_
      refine v_aload_n (pc := 3) C d_Course_lowestFreeWorker_3 rfl rfl ?_
      refine gf_Course_52 (pc := 4) C d_Course_lowestFreeWorker_4 ?_
      refine v_icmp_ge (pc := 7) (tgt := 28) C d_Course_lowestFreeWorker_7 (by decide) (fun h7 => ?_) (fun h7 => ?_)
      · refine v_iconst (pc := 28) (v := (-1)) C d_Course_lowestFreeWorker_28 (by decide) ?_
        exact v_ireturn (pc := 29) C hr ⟨by rw [← hL]; rfl, rfl⟩ d_Course_lowestFreeWorker_29
      · exact absurd (by rw [hb]; exact nI_le (by omega) (by omega)) h7
    | succ k ih =>
      intro i hi hL
      have hb := hw
      refine v_iload_n (pc := 2) C d_Course_lowestFreeWorker_2 rfl rfl ?_
      refine v_aload_n (pc := 3) C d_Course_lowestFreeWorker_3 rfl rfl ?_
      refine gf_Course_52 (pc := 4) C d_Course_lowestFreeWorker_4 ?_
      refine v_icmp_ge (pc := 7) (tgt := 28) C d_Course_lowestFreeWorker_7 (by decide) (fun h7 => ?_) (fun h7 => ?_)
      · exact absurd h7 (by rw [hb]; exact nI_ge (by omega) (by omega))
      · refine v_aload_n (pc := 10) C d_Course_lowestFreeWorker_10 rfl rfl ?_
        refine gf_Course_29 (pc := 11) C d_Course_lowestFreeWorker_11 ?_
        refine v_iload_n (pc := 14) C d_Course_lowestFreeWorker_14 rfl rfl ?_
        refine v_ialoadK (pc := 15) C rfl rfl (rfl) (by omega) (by decide) d_Course_lowestFreeWorker_15 ?_
        refine v_iconst (pc := 16) (v := (-1)) C d_Course_lowestFreeWorker_16 (by decide) ?_
        refine v_icmp_ne (pc := 17) (tgt := 22) C d_Course_lowestFreeWorker_17 (by decide) (fun h17 => ?_) (fun h17 => ?_)
        · refine v_iinc (pc := 22) C d_Course_lowestFreeWorker_22 rfl (show _ + Int32.ofInt 1 = _ + 1 from rfl) (by decide) ?_
          refine v_goto (pc := 25) (tgt := 2) C d_Course_lowestFreeWorker_25 (by decide) ?_
          rw [nI_1 i]
          refine ih (i + 1) (by omega) ?_
          have hL2 : (if σ 10 0 i = -1 then nI i else kLowest σ k (i + 1)) = kLowest σ wc 0 := hL
          rw [← hL2, if_neg h17]
        · refine v_iload_n (pc := 20) C d_Course_lowestFreeWorker_20 rfl rfl ?_
          exact v_ireturn (pc := 21) C hr ⟨by rw [← hL]; unfold kLowest; rw [if_pos h17], rfl⟩ d_Course_lowestFreeWorker_21
  refine v_iconst (pc := 0) (v := 0) C d_Course_lowestFreeWorker_0 (by decide) ?_
  refine v_istore_n (pc := 1) C d_Course_lowestFreeWorker_1 rfl (by decide) ?_
  exact loop wc 0 (by omega) rfl
set_option maxRecDepth 100000 in
set_option maxHeartbeats 4000000 in
theorem c_Course_can (l : Launch) {D : va_G} {ad : Nat → Nat → Nat} {cA : Nat → ClassId} (hJ : ty_J cnC ad) (σ : ty_St) (tc : Nat) (htc : tc ≤ 12) (hc : σ 1 0 6 = nI tc) (u : Nat) (hu : u < 12) : ty_M l y_Course_canHaveLocks (Cond.code y_Course_canHaveLocks b_Course_canHaveLocks 3 (some .boolean) :: ty_w) (rmL 1) cnC D ad cA [.inr (1, 0), .inr (3, u)] σ (fun r σ' => r = some (.inl (if kCan σ u tc = true then 1 else 0)) ∧ σ' = σ) := by
  refine ty_M.of rfl hJ layC (ty_oks.cons (show (0 : Nat) < cnC 1 by decide) (ty_oks.cons hu ty_oks.nil)) (Nat.le_of_ble_eq_true rfl) ?_
  intro p e s m args below meth c C hr hnm
  have loop : ∀ k i, i + k = tc → kCan σ u i = true → ty_V cnC p l e (rmL 1) s m args below meth c D ad cA (ty_Gd cnC ad s) 3 (MQ below (ty_Q cnC D ad cA (fun r σ' => r = some (.inl (if kCan σ u tc = true then 1 else 0)) ∧ σ' = σ) (ty_A cnC ad)) args s 0 0 (ty_A cnC ad)) σ [some (.inr (1, 0)), some (.inr (3, u)), some (.inl (nI i))] 2 [] := by
    intro k
    induction k with
    | zero =>
      intro i hi hi0
      have hb := hc
      refine v_iload_n (pc := 2) C d_Course_canHaveLocks_2 rfl rfl ?_
      refine v_aload_n (pc := 3) C d_Course_canHaveLocks_3 rfl rfl ?_
      refine gf_Course_48 (pc := 4) C d_Course_canHaveLocks_4 ?_
      refine v_icmp_ge (pc := 7) (tgt := 43) C d_Course_canHaveLocks_7 (by decide) (fun h7 => ?_) (fun h7 => ?_)
      · refine v_iconst (pc := 43) (v := 1) C d_Course_canHaveLocks_43 (by decide) ?_
        exact v_zreturn (pc := 44) C hr rfl ⟨by rw [show tc = i by omega, if_pos hi0], rfl⟩ d_Course_canHaveLocks_44
      · exact absurd (by rw [hb]; exact nI_le (by omega) (by omega)) h7
    | succ k ih =>
      intro i hi hi0
      have hb := hc
      refine v_iload_n (pc := 2) C d_Course_canHaveLocks_2 rfl rfl ?_
      refine v_aload_n (pc := 3) C d_Course_canHaveLocks_3 rfl rfl ?_
      refine gf_Course_48 (pc := 4) C d_Course_canHaveLocks_4 ?_
      refine v_icmp_ge (pc := 7) (tgt := 43) C d_Course_canHaveLocks_7 (by decide) (fun h7 => ?_) (fun h7 => ?_)
      · exact absurd h7 (by rw [hb]; exact nI_ge (by omega) (by omega))
      · refine v_aload_n (pc := 10) C d_Course_canHaveLocks_10 rfl rfl ?_
        refine gf_Course_19 (pc := 11) C d_Course_canHaveLocks_11 ?_
        refine v_iload_n (pc := 14) C d_Course_canHaveLocks_14 rfl rfl ?_
        refine v_aaloadK (pc := 15) C rfl rfl (by decide) (rfl) (by omega) (by decide) d_Course_canHaveLocks_15 ?_
        refine cl_Course_147 (pc := 16) C (c_Trial_isRunning l hJ σ i (by omega)) ⟨rfl, rfl, by decide, by decide⟩ rfl rfl (Nat.le_of_ble_eq_true rfl) d_Course_canHaveLocks_16 (fun r σ' hq => ?_)
        rw [hq.1, hq.2]
        refine v_if_eq (pc := 19) (tgt := 37) C d_Course_canHaveLocks_19 (by decide) (fun h19 => ?_) (fun h19 => ?_)
        · refine v_iinc (pc := 37) C d_Course_canHaveLocks_37 rfl (show _ + Int32.ofInt 1 = _ + 1 from rfl) (by decide) ?_
          refine v_goto (pc := 40) (tgt := 2) C d_Course_canHaveLocks_40 (by decide) ?_
          rw [nI_1 i]
          refine ih (i + 1) (by omega) ?_
          first | (simp [kCan, hi0, h19]; done) | (simp [kCan, hi0, h32]; done)
        · refine v_aload_n (pc := 22) C d_Course_canHaveLocks_22 rfl rfl ?_
          refine gf_Course_19 (pc := 23) C d_Course_canHaveLocks_23 ?_
          refine v_iload_n (pc := 26) C d_Course_canHaveLocks_26 rfl rfl ?_
          refine v_aaloadK (pc := 27) C rfl rfl (by decide) (rfl) (by omega) (by decide) d_Course_canHaveLocks_27 ?_
          refine v_aload_n (pc := 28) C d_Course_canHaveLocks_28 rfl rfl ?_
          refine cl_Course_150 (pc := 29) C (c_Trial_hinders l hJ σ i (by omega) u hu) ⟨rfl, rfl, by decide, by decide⟩ rfl rfl (Nat.le_of_ble_eq_true rfl) d_Course_canHaveLocks_29 (fun r σ' hq => ?_)
          rw [hq.1, hq.2]
          refine v_if_eq (pc := 32) (tgt := 37) C d_Course_canHaveLocks_32 (by decide) (fun h32 => ?_) (fun h32 => ?_)
          · refine v_iinc (pc := 37) C d_Course_canHaveLocks_37 rfl (show _ + Int32.ofInt 1 = _ + 1 from rfl) (by decide) ?_
            refine v_goto (pc := 40) (tgt := 2) C d_Course_canHaveLocks_40 (by decide) ?_
            rw [nI_1 i]
            refine ih (i + 1) (by omega) ?_
            first | (simp [kCan, hi0, h19]; done) | (simp [kCan, hi0, h32]; done)
          · refine v_iconst (pc := 35) (v := 0) C d_Course_canHaveLocks_35 (by decide) ?_
            exact v_zreturn (pc := 36) C hr rfl ⟨by
              have : ¬ kCan σ u tc = true := fun q => by
                have := kCan_mono (show i + 1 ≤ tc by omega) q
                have r1 := (kRunning_01 σ i).resolve_left h19
                have r2 := (kHinders_01 σ i u).resolve_left h32
                simp [kCan, r1, r2] at this
              rw [if_neg this], rfl⟩ d_Course_canHaveLocks_36
  refine v_iconst (pc := 0) (v := 0) C d_Course_canHaveLocks_0 (by decide) ?_
  refine v_istore_n (pc := 1) C d_Course_canHaveLocks_1 rfl (by decide) ?_
  exact loop tc 0 (by omega) rfl
set_option maxRecDepth 100000 in
set_option maxHeartbeats 4000000 in
theorem c_Course_finished (l : Launch) {D : va_G} {ad : Nat → Nat → Nat} {cA : Nat → ClassId} (hJ : ty_J cnC ad) (σ : ty_St) (tc : Nat) (htc : tc ≤ 12) (hc : σ 1 0 6 = nI tc) (wc : Nat) (hwc : wc ≤ 4) (hw : σ 1 0 7 = nI wc) : ty_M l y_Course_isFinished (Cond.code y_Course_isFinished b_Course_isFinished 2 (some .boolean) :: ty_w) (rmL 0) cnC D ad cA [.inr (1, 0)] σ (fun r σ' => r = some (.inl (if kDone σ tc = true ∧ kIdle σ wc = true then 1 else 0)) ∧ σ' = σ) := by
  refine ty_M.of rfl hJ layC (ty_oks.cons (show (0 : Nat) < cnC 1 by decide) ty_oks.nil) (Nat.le_of_ble_eq_true rfl) ?_
  intro p e s m args below meth c C hr hnm
  have loop2 : ∀ k i, i + k = wc → kDone σ tc = true → kIdle σ i = true → ty_V cnC p l e (rmL 0) s m args below meth c D ad cA (ty_Gd cnC ad s) 2 (MQ below (ty_Q cnC D ad cA (fun r σ' => r = some (.inl (if kDone σ tc = true ∧ kIdle σ wc = true then 1 else 0)) ∧ σ' = σ) (ty_A cnC ad)) args s 0 0 (ty_A cnC ad)) σ [some (.inr (1, 0)), some (.inl (nI i))] 32 [] := by
    intro k
    induction k with
    | zero =>
      intro i hi hD hi0
      have hb := hw
      refine v_iload_n (pc := 32) C d_Course_isFinished_32 rfl rfl ?_
      refine v_aload_n (pc := 33) C d_Course_isFinished_33 rfl rfl ?_
      refine gf_Course_52 (pc := 34) C d_Course_isFinished_34 ?_
      refine v_icmp_ge (pc := 37) (tgt := 58) C d_Course_isFinished_37 (by decide) (fun h37 => ?_) (fun h37 => ?_)
      · refine v_iconst (pc := 58) (v := 1) C d_Course_isFinished_58 (by decide) ?_
        exact v_zreturn (pc := 59) C hr rfl ⟨by rw [if_pos ⟨hD, by rw [show wc = i by omega]; exact hi0⟩], rfl⟩ d_Course_isFinished_59
      · exact absurd (by rw [hb]; exact nI_le (by omega) (by omega)) h37
    | succ k ih =>
      intro i hi hD hi0
      have hb := hw
      refine v_iload_n (pc := 32) C d_Course_isFinished_32 rfl rfl ?_
      refine v_aload_n (pc := 33) C d_Course_isFinished_33 rfl rfl ?_
      refine gf_Course_52 (pc := 34) C d_Course_isFinished_34 ?_
      refine v_icmp_ge (pc := 37) (tgt := 58) C d_Course_isFinished_37 (by decide) (fun h37 => ?_) (fun h37 => ?_)
      · exact absurd h37 (by rw [hb]; exact nI_ge (by omega) (by omega))
      · refine v_aload_n (pc := 40) C d_Course_isFinished_40 rfl rfl ?_
        refine gf_Course_29 (pc := 41) C d_Course_isFinished_41 ?_
        refine v_iload_n (pc := 44) C d_Course_isFinished_44 rfl rfl ?_
        refine v_ialoadK (pc := 45) C rfl rfl (rfl) (by omega) (by decide) d_Course_isFinished_45 ?_
        refine v_iconst (pc := 46) (v := (-1)) C d_Course_isFinished_46 (by decide) ?_
        refine v_icmp_eq (pc := 47) (tgt := 52) C d_Course_isFinished_47 (by decide) (fun h47 => ?_) (fun h47 => ?_)
        · refine v_iinc (pc := 52) C d_Course_isFinished_52 rfl (show _ + Int32.ofInt 1 = _ + 1 from rfl) (by decide) ?_
          refine v_goto (pc := 55) (tgt := 32) C d_Course_isFinished_55 (by decide) ?_
          rw [nI_1 i]
          exact ih (i + 1) (by omega) hD (by simp [kIdle, hi0, h47])
        · refine v_iconst (pc := 50) (v := 0) C d_Course_isFinished_50 (by decide) ?_
          exact v_zreturn (pc := 51) C hr rfl ⟨by
            have : ¬ kIdle σ wc = true := fun q => h47 (by have := kIdle_mono (show i + 1 ≤ wc by omega) q; simp [kIdle] at this; exact this.2)
            rw [if_neg (fun q => this q.2)], rfl⟩ d_Course_isFinished_51
  have loop1 : ∀ k i, i + k = tc → kDone σ i = true → ty_V cnC p l e (rmL 0) s m args below meth c D ad cA (ty_Gd cnC ad s) 2 (MQ below (ty_Q cnC D ad cA (fun r σ' => r = some (.inl (if kDone σ tc = true ∧ kIdle σ wc = true then 1 else 0)) ∧ σ' = σ) (ty_A cnC ad)) args s 0 0 (ty_A cnC ad)) σ [some (.inr (1, 0)), some (.inl (nI i))] 2 [] := by
    intro k
    induction k with
    | zero =>
      intro i hi hi0
      have hb := hc
      refine v_iload_n (pc := 2) C d_Course_isFinished_2 rfl rfl ?_
      refine v_aload_n (pc := 3) C d_Course_isFinished_3 rfl rfl ?_
      refine gf_Course_48 (pc := 4) C d_Course_isFinished_4 ?_
      refine v_icmp_ge (pc := 7) (tgt := 30) C d_Course_isFinished_7 (by decide) (fun h7 => ?_) (fun h7 => ?_)
      · refine v_iconst (pc := 30) (v := 0) C d_Course_isFinished_30 (by decide) ?_
        refine v_istore_n (pc := 31) C d_Course_isFinished_31 rfl (by decide) ?_
        exact loop2 wc 0 (by omega) (by rw [show tc = i by omega]; exact hi0) rfl
      · exact absurd (by rw [hb]; exact nI_le (by omega) (by omega)) h7
    | succ k ih =>
      intro i hi hi0
      have hb := hc
      refine v_iload_n (pc := 2) C d_Course_isFinished_2 rfl rfl ?_
      refine v_aload_n (pc := 3) C d_Course_isFinished_3 rfl rfl ?_
      refine gf_Course_48 (pc := 4) C d_Course_isFinished_4 ?_
      refine v_icmp_ge (pc := 7) (tgt := 30) C d_Course_isFinished_7 (by decide) (fun h7 => ?_) (fun h7 => ?_)
      · exact absurd h7 (by rw [hb]; exact nI_ge (by omega) (by omega))
      · refine v_aload_n (pc := 10) C d_Course_isFinished_10 rfl rfl ?_
        refine gf_Course_19 (pc := 11) C d_Course_isFinished_11 ?_
        refine v_iload_n (pc := 14) C d_Course_isFinished_14 rfl rfl ?_
        refine v_aaloadK (pc := 15) C rfl rfl (by decide) (rfl) (by omega) (by decide) d_Course_isFinished_15 ?_
        refine gf_Course_93 (pc := 16) C d_Course_isFinished_16 ?_
        refine v_if_ne (pc := 19) (tgt := 24) C d_Course_isFinished_19 (by decide) (fun h19 => ?_) (fun h19 => ?_)
        · refine v_iinc (pc := 24) C d_Course_isFinished_24 rfl (show _ + Int32.ofInt 1 = _ + 1 from rfl) (by decide) ?_
          refine v_goto (pc := 27) (tgt := 2) C d_Course_isFinished_27 (by decide) ?_
          rw [nI_1 i]
          exact ih (i + 1) (by omega) (by simp [kDone, hi0, h19])
        · refine v_iconst (pc := 22) (v := 0) C d_Course_isFinished_22 (by decide) ?_
          exact v_zreturn (pc := 23) C hr rfl ⟨by
            have : ¬ kDone σ tc = true := fun q => by have := kDone_mono (show i + 1 ≤ tc by omega) q; simp [kDone, h19] at this
            rw [if_neg (fun q => this q.1)], rfl⟩ d_Course_isFinished_23
  refine v_iconst (pc := 0) (v := 0) C d_Course_isFinished_0 (by decide) ?_
  refine v_istore_n (pc := 1) C d_Course_isFinished_1 rfl (by decide) ?_
  exact loop1 tc 0 (by omega) rfl
end
section
theorem vp_lt {x : Int32} {n : Nat} (h : vp_in x n) : nn x < n := Nat.not_le.mp fun z => h (Or.inr z)
theorem kMark_a {σ : ty_St} {n a : Nat} (h : ¬ a = 4) : ∀ k, (kMark σ n k) a = σ a
  | 0 => rfl
  | k + 1 => by
    unfold kMark
    split
    · rw [up_a h]; exact kMark_a h k
    · exact kMark_a h k
theorem kOver_mono {σ : ty_St} {t : Nat} : ∀ {n k : Nat}, n ≤ k → kOver σ t k = true → kOver σ t n = true := by
  intro n k h
  induction k with
  | zero => intro q; rw [show n = 0 by omega]; exact q
  | succ k ih =>
    intro q
    by_cases e : n = k + 1
    · rw [e]; exact q
    · simp only [kOver, Bool.and_eq_true] at q
      exact ih (by omega) q.1
theorem kInterrupt_01 (σ : ty_St) (n : Nat) : (kInterrupt σ n).1 = 0 ∨ (kInterrupt σ n).1 = 1 := by
  unfold kInterrupt
  dsimp only
  split <;> simp
set_option maxRecDepth 100000 in
set_option maxHeartbeats 4000000 in
theorem c_Course_startStrand (l : Launch) {D : va_G} {ad : Nat → Nat → Nat} {cA : Nat → ClassId} (hJ : ty_J cnC ad) (σ : ty_St) (hs : ¬ σ 1 0 8 < 0) (q t z : Int32) (ht : vp_in t 12) : ty_M l y_Course_startStrand (Cond.code y_Course_startStrand b_Course_startStrand 4 none :: ty_w) (rmL 1) cnC D ad cA [.inr (1, 0), .inl q, .inl t, .inl z] σ (fun r σ' => r = none ∧ σ' = kStartS σ q t z) := by
  refine ty_M.of rfl hJ layC (ty_oks.cons (show (0 : Nat) < cnC 1 by decide) (ty_oks.cons trivial (ty_oks.cons trivial (ty_oks.cons trivial ty_oks.nil)))) (Nat.le_of_ble_eq_true rfl) ?_
  intro p e s m args below meth c C hr hnm
  refine v_aload_n (pc := 0) C d_Course_startStrand_0 rfl rfl ?_
  refine gf_Course_100 (pc := 1) C d_Course_startStrand_1 ?_
  refine v_bipush (pc := 4) (v := 52) C d_Course_startStrand_4 (by decide) ?_
  refine v_icmp_ge (pc := 6) (tgt := 49) C d_Course_startStrand_6 (by decide) (fun h6 => ?_) (fun h6 => ?_)
  · exact v_return (pc := 49) C hr ⟨rfl, by unfold kStartS; first | (rw [if_neg (Int32.not_lt.mpr h6)]; done) | (rw [if_pos (Int32.not_le.mp h6)])⟩ d_Course_startStrand_49
  · refine v_aload_n (pc := 9) C d_Course_startStrand_9 rfl rfl ?_
    refine gf_Course_25 (pc := 10) C d_Course_startStrand_10 ?_
    refine v_aload_n (pc := 13) C d_Course_startStrand_13 rfl rfl ?_
    refine gf_Course_100 (pc := 14) C d_Course_startStrand_14 ?_
    refine v_aaload (pc := 17) C rfl rfl (by decide) (i32_ge0 hs (Int32.not_le.mp h6) (by decide)) d_Course_startStrand_17 ?_
    refine v_iload_n (pc := 18) C d_Course_startStrand_18 rfl rfl ?_
    refine v_iload_n (pc := 19) C d_Course_startStrand_19 rfl rfl ?_
    refine v_iload_n (pc := 20) C d_Course_startStrand_20 rfl rfl ?_
    refine cl_Course_163 (pc := 21) C (c_Strand_start l hJ σ (nn (σ 1 0 8)) (vp_lt (i32_ge0 hs (Int32.not_le.mp h6) (by decide))) q t z) ⟨rfl, rfl, by decide, by decide⟩ rfl rfl (Nat.le_of_ble_eq_true rfl) d_Course_startStrand_21 (fun r σ' hq => ?_)
    rw [hq.1, hq.2]
    refine v_aload_n (pc := 24) C d_Course_startStrand_24 rfl rfl ?_
    refine v_dup (pc := 25) C d_Course_startStrand_25 ?_
    refine gf_Course_100 (pc := 26) C d_Course_startStrand_26 ?_
    refine v_iconst (pc := 29) (v := 1) C d_Course_startStrand_29 (by decide) ?_
    refine v_iadd (pc := 30) C d_Course_startStrand_30 ?_
    refine pf_Course_100 (pc := 31) C d_Course_startStrand_31 ?_
    refine v_aload_n (pc := 34) C d_Course_startStrand_34 rfl rfl ?_
    refine gf_Course_19 (pc := 35) C d_Course_startStrand_35 ?_
    refine v_iload_n (pc := 38) C d_Course_startStrand_38 rfl rfl ?_
    refine v_aaload (pc := 39) C rfl rfl (by decide) ht d_Course_startStrand_39 ?_
    refine v_dup (pc := 40) C d_Course_startStrand_40 ?_
    refine gf_Course_166 (pc := 41) C d_Course_startStrand_41 ?_
    refine v_iconst (pc := 44) (v := 1) C d_Course_startStrand_44 (by decide) ?_
    refine v_iadd (pc := 45) C d_Course_startStrand_45 ?_
    refine pf_Course_166 (pc := 46) C d_Course_startStrand_46 ?_
    exact v_return (pc := 49) C hr ⟨rfl, by unfold kStartS; first | (rw [if_neg (Int32.not_lt.mpr h6)]; done) | (rw [if_pos (Int32.not_le.mp h6)])⟩ d_Course_startStrand_49
set_option maxRecDepth 100000 in
set_option maxHeartbeats 4000000 in
theorem c_Course_begin (l : Launch) {D : va_G} {ad : Nat → Nat → Nat} {cA : Nat → ClassId} (hJ : ty_J cnC ad) (σ : ty_St) (hs : ¬ σ 1 0 8 < 0) (t : Nat) (ht : t < 12) (w : Nat) (hw : w < 4) : ty_M l y_Course_begin (Cond.code y_Course_begin b_Course_begin 4 none :: ty_w) (rmL 2) cnC D ad cA [.inr (1, 0), .inl (nI t), .inl (nI w)] σ (fun r σ' => r = none ∧ σ' = kBegin σ t (nI w)) := by
  refine ty_M.of rfl hJ layC (ty_oks.cons (show (0 : Nat) < cnC 1 by decide) (ty_oks.cons trivial (ty_oks.cons trivial ty_oks.nil))) (Nat.le_of_ble_eq_true rfl) ?_
  intro p e s m args below meth c C hr hnm
  refine v_aload_n (pc := 0) C d_Course_begin_0 rfl rfl ?_
  refine gf_Course_19 (pc := 1) C d_Course_begin_1 ?_
  refine v_iload_n (pc := 4) C d_Course_begin_4 rfl rfl ?_
  refine v_aaloadK (pc := 5) C rfl rfl (by decide) (rfl) (ht) (by decide) d_Course_begin_5 ?_
  refine v_astore_n (pc := 6) C d_Course_begin_6 rfl (by decide) ?_
  refine v_aload_n (pc := 7) C d_Course_begin_7 rfl rfl ?_
  refine v_aload_n (pc := 8) C d_Course_begin_8 rfl rfl ?_
  refine gf_Course_87 (pc := 9) C d_Course_begin_9 ?_
  refine pf_Course_137 (pc := 12) C d_Course_begin_12 ?_
  refine v_aload_n (pc := 15) C d_Course_begin_15 rfl rfl ?_
  refine v_iload_n (pc := 16) C d_Course_begin_16 rfl rfl ?_
  refine pf_Course_153 (pc := 17) C d_Course_begin_17 ?_
  refine v_aload_n (pc := 20) C d_Course_begin_20 rfl rfl ?_
  refine v_aload_n (pc := 21) C d_Course_begin_21 rfl rfl ?_
  refine gf_Course_100 (pc := 22) C d_Course_begin_22 ?_
  refine pf_Course_114 (pc := 25) C d_Course_begin_25 ?_
  refine v_aload_n (pc := 28) C d_Course_begin_28 rfl rfl ?_
  refine gf_Course_29 (pc := 29) C d_Course_begin_29 ?_
  refine v_iload_n (pc := 32) C d_Course_begin_32 rfl rfl ?_
  refine v_iload_n (pc := 33) C d_Course_begin_33 rfl rfl ?_
  refine v_iastore (pc := 34) C rfl rfl (vp_in_nI hw (by decide)) d_Course_begin_34 ?_
  refine v_aload_n (pc := 35) C d_Course_begin_35 rfl rfl ?_
  refine v_aload_n (pc := 36) C d_Course_begin_36 rfl rfl ?_
  refine gf_Course_156 (pc := 37) C d_Course_begin_37 ?_
  refine v_iload_n (pc := 40) C d_Course_begin_40 rfl rfl ?_
  refine v_iconst (pc := 41) (v := (-1)) C d_Course_begin_41 (by decide) ?_
  refine cl_Course_159 (pc := 42) C (c_Course_startStrand l hJ _ (by exact hs) _ _ _ (vp_in_nI ht (by decide))) ⟨rfl, rfl, by decide, by decide⟩ rfl rfl (Nat.le_of_ble_eq_true rfl) d_Course_begin_42 (fun r σ' hq => ?_)
  rw [hq.1, hq.2]
  exact v_return (pc := 45) C hr ⟨rfl, rfl⟩ d_Course_begin_45
set_option maxRecDepth 100000 in
set_option maxHeartbeats 4000000 in
theorem c_Course_interrupt (l : Launch) {D : va_G} {ad : Nat → Nat → Nat} {cA : Nat → ClassId} (hJ : ty_J cnC ad) (σ : ty_St) (n : Nat) (hn : n < 52) (hq : vp_in (σ 4 n 0) 10) (z : Nat) (hz : z ≤ 10) (hat : σ 4 n 3 = nI z) : ty_M l y_Course_interrupt (Cond.code y_Course_interrupt b_Course_interrupt 3 (some .boolean) :: ty_w) (rmL 1) cnC D ad cA [.inr (1, 0), .inr (4, n)] σ (fun r σ' => r = some (.inl (kInterrupt σ n).1) ∧ σ' = (kInterrupt σ n).2) := by
  refine ty_M.of rfl hJ layC (ty_oks.cons (show (0 : Nat) < cnC 1 by decide) (ty_oks.cons hn ty_oks.nil)) (Nat.le_of_ble_eq_true rfl) ?_
  intro p e s m args below meth c C hr hnm
  have e0 : (ty_up σ 4 n 4 0) 4 n 0 = σ 4 n 0 := up_sj (by decide)
  have e3 : (ty_up σ 4 n 4 0) 4 n 3 = nI z := (up_sj (by decide)).trans hat
  have ez : nn ((ty_up σ 4 n 4 0) 4 n 3) = z := by rw [e3]; exact nI_clamp (by omega)
  refine v_aload_n (pc := 0) C d_Course_interrupt_0 rfl rfl ?_
  refine v_iconst (pc := 1) (v := 0) C d_Course_interrupt_1 (by decide) ?_
  refine pf_Course_212 (pc := 2) C rfl rfl d_Course_interrupt_2 ?_
  refine v_aload_n (pc := 5) C d_Course_interrupt_5 rfl rfl ?_
  refine gf_Course_11 (pc := 6) C d_Course_interrupt_6 ?_
  refine v_aload_n (pc := 9) C d_Course_interrupt_9 rfl rfl ?_
  refine gf_Course_176 (pc := 10) C d_Course_interrupt_10 ?_
  refine v_aaload (pc := 13) C rfl rfl (by decide) (by rw [e0]; exact hq) d_Course_interrupt_13 ?_
  refine v_aload_n (pc := 14) C d_Course_interrupt_14 rfl rfl ?_
  refine gf_Course_177 (pc := 15) C d_Course_interrupt_15 ?_
  refine cl_Course_225 (pc := 18) C (c_Program_ega l hJ (ty_up σ 4 n 4 0) (nn ((ty_up σ 4 n 4 0) 4 n 0)) (by rw [e0]; exact vp_lt hq) _ z hz e3) ⟨rfl, rfl, by decide, by decide⟩ rfl rfl (Nat.le_of_ble_eq_true rfl) d_Course_interrupt_18 (fun r σ' hq => ?_)
  rw [hq.1, hq.2]
  refine v_istore_n (pc := 21) C d_Course_interrupt_21 rfl (by decide) ?_
  refine v_iload_n (pc := 22) C d_Course_interrupt_22 rfl rfl ?_
  refine v_iconst (pc := 23) (v := (-1)) C d_Course_interrupt_23 (by decide) ?_
  refine v_icmp_ne (pc := 24) (tgt := 35) C d_Course_interrupt_24 (by decide) (fun h24 => ?_) (fun h24 => ?_)
  · refine v_aload_n (pc := 35) C d_Course_interrupt_35 rfl rfl ?_
    refine v_iload_n (pc := 36) C d_Course_interrupt_36 rfl rfl ?_
    refine pf_Course_177 (pc := 37) C d_Course_interrupt_37 ?_
    refine v_iconst (pc := 40) (v := 1) C d_Course_interrupt_40 (by decide) ?_
    exact v_zreturn (pc := 41) C hr rfl ⟨by unfold kInterrupt; dsimp only; rw [ez, if_neg h24], by unfold kInterrupt; dsimp only; rw [ez, if_neg h24]⟩ d_Course_interrupt_41
  · refine v_aload_n (pc := 27) C d_Course_interrupt_27 rfl rfl ?_
    refine v_bipush (pc := 28) (v := 100) C d_Course_interrupt_28 (by decide) ?_
    refine cl_Course_181 (pc := 30) C (c_Strand_end l hJ (ty_up σ 4 n 4 0) n hn 100) ⟨rfl, rfl, by decide, by decide⟩ rfl rfl (Nat.le_of_ble_eq_true rfl) d_Course_interrupt_30 (fun r σ' hq => ?_)
    rw [hq.1, hq.2]
    refine v_iconst (pc := 33) (v := 0) C d_Course_interrupt_33 (by decide) ?_
    exact v_zreturn (pc := 34) C hr rfl ⟨by unfold kInterrupt; dsimp only; rw [ez, if_pos h24], by unfold kInterrupt; dsimp only; rw [ez, if_pos h24]⟩ d_Course_interrupt_34
set_option maxRecDepth 100000 in
set_option maxHeartbeats 4000000 in
theorem c_Course_over (l : Launch) {D : va_G} {ad : Nat → Nat → Nat} {cA : Nat → ClassId} (hJ : ty_J cnC ad) (σ : ty_St) (sc : Nat) (hsc : sc ≤ 52) (hc : σ 1 0 8 = nI sc) (n : Nat) : ty_M l y_Course_areStartedOver (Cond.code y_Course_areStartedOver b_Course_areStartedOver 3 (some .boolean) :: ty_w) (rmL 0) cnC D ad cA [.inr (1, 0), .inl (nI n)] σ (fun r σ' => r = some (.inl (if kOver σ n sc = true then 1 else 0)) ∧ σ' = σ) := by
  refine ty_M.of rfl hJ layC (ty_oks.cons (show (0 : Nat) < cnC 1 by decide) (ty_oks.cons trivial ty_oks.nil)) (Nat.le_of_ble_eq_true rfl) ?_
  intro p e s m args below meth c C hr hnm
  have loop : ∀ k i, i + k = sc → kOver σ n i = true → ty_V cnC p l e (rmL 0) s m args below meth c D ad cA (ty_Gd cnC ad s) 3 (MQ below (ty_Q cnC D ad cA (fun r σ' => r = some (.inl (if kOver σ n sc = true then 1 else 0)) ∧ σ' = σ) (ty_A cnC ad)) args s 0 0 (ty_A cnC ad)) σ [some (.inr (1, 0)), some (.inl (nI n)), some (.inl (nI i))] 2 [] := by
    intro k
    induction k with
    | zero =>
      intro i hi hi0
      have hb := hc
      refine v_iload_n (pc := 2) C d_Course_areStartedOver_2 rfl rfl ?_
      refine v_aload_n (pc := 3) C d_Course_areStartedOver_3 rfl rfl ?_
      refine gf_Course_100 (pc := 4) C d_Course_areStartedOver_4 ?_
      refine v_icmp_ge (pc := 7) (tgt := 43) C d_Course_areStartedOver_7 (by decide) (fun h7 => ?_) (fun h7 => ?_)
      · refine v_iconst (pc := 43) (v := 1) C d_Course_areStartedOver_43 (by decide) ?_
        exact v_zreturn (pc := 44) C hr rfl ⟨by rw [show sc = i by omega, if_pos hi0], rfl⟩ d_Course_areStartedOver_44
      · exact absurd (by rw [hb]; exact nI_le (by omega) (by omega)) h7
    | succ k ih =>
      intro i hi hi0
      have hb := hc
      refine v_iload_n (pc := 2) C d_Course_areStartedOver_2 rfl rfl ?_
      refine v_aload_n (pc := 3) C d_Course_areStartedOver_3 rfl rfl ?_
      refine gf_Course_100 (pc := 4) C d_Course_areStartedOver_4 ?_
      refine v_icmp_ge (pc := 7) (tgt := 43) C d_Course_areStartedOver_7 (by decide) (fun h7 => ?_) (fun h7 => ?_)
      · exact absurd h7 (by rw [hb]; exact nI_ge (by omega) (by omega))
      · refine v_aload_n (pc := 10) C d_Course_areStartedOver_10 rfl rfl ?_
        refine gf_Course_25 (pc := 11) C d_Course_areStartedOver_11 ?_
        refine v_iload_n (pc := 14) C d_Course_areStartedOver_14 rfl rfl ?_
        refine v_aaloadK (pc := 15) C rfl rfl (by decide) (rfl) (by omega) (by decide) d_Course_areStartedOver_15 ?_
        refine gf_Course_229 (pc := 16) C d_Course_areStartedOver_16 ?_
        refine v_iload_n (pc := 19) C d_Course_areStartedOver_19 rfl rfl ?_
        refine v_icmp_ne (pc := 20) (tgt := 37) C d_Course_areStartedOver_20 (by decide) (fun h20 => ?_) (fun h20 => ?_)
        · refine v_iinc (pc := 37) C d_Course_areStartedOver_37 rfl (show _ + Int32.ofInt 1 = _ + 1 from rfl) (by decide) ?_
          refine v_goto (pc := 40) (tgt := 2) C d_Course_areStartedOver_40 (by decide) ?_
          rw [nI_1 i]
          refine ih (i + 1) (by omega) ?_
          first | (simp [kOver, hi0, h20]; done) | (simp [kOver, hi0, h32]; done)
        · refine v_aload_n (pc := 23) C d_Course_areStartedOver_23 rfl rfl ?_
          refine gf_Course_25 (pc := 24) C d_Course_areStartedOver_24 ?_
          refine v_iload_n (pc := 27) C d_Course_areStartedOver_27 rfl rfl ?_
          refine v_aaloadK (pc := 28) C rfl rfl (by decide) (rfl) (by omega) (by decide) d_Course_areStartedOver_28 ?_
          refine gf_Course_125 (pc := 29) C d_Course_areStartedOver_29 ?_
          refine v_if_ne (pc := 32) (tgt := 37) C d_Course_areStartedOver_32 (by decide) (fun h32 => ?_) (fun h32 => ?_)
          · refine v_iinc (pc := 37) C d_Course_areStartedOver_37 rfl (show _ + Int32.ofInt 1 = _ + 1 from rfl) (by decide) ?_
            refine v_goto (pc := 40) (tgt := 2) C d_Course_areStartedOver_40 (by decide) ?_
            rw [nI_1 i]
            refine ih (i + 1) (by omega) ?_
            first | (simp [kOver, hi0, h20]; done) | (simp [kOver, hi0, h32]; done)
          · refine v_iconst (pc := 35) (v := 0) C d_Course_areStartedOver_35 (by decide) ?_
            exact v_zreturn (pc := 36) C hr rfl ⟨by
              have : ¬ kOver σ n sc = true := fun q => by
                have := kOver_mono (show i + 1 ≤ sc by omega) q
                simp [kOver, h20, h32] at this
              rw [if_neg this], rfl⟩ d_Course_areStartedOver_36
  refine v_iconst (pc := 0) (v := 0) C d_Course_areStartedOver_0 (by decide) ?_
  refine v_istore_n (pc := 1) C d_Course_areStartedOver_1 rfl (by decide) ?_
  exact loop sc 0 (by omega) rfl
set_option maxRecDepth 100000 in
set_option maxHeartbeats 4000000 in
theorem c_Course_mark (l : Launch) {D : va_G} {ad : Nat → Nat → Nat} {cA : Nat → ClassId} (hJ : ty_J cnC ad) (σ : ty_St) (sc : Nat) (hsc : sc ≤ 52) (hc : σ 1 0 8 = nI sc) (n : Nat) : ty_M l y_Course_markStartedBy (Cond.code y_Course_markStartedBy b_Course_markStartedBy 3 none :: ty_w) (rmL 0) cnC D ad cA [.inr (1, 0), .inl (nI n)] σ (fun r σ' => r = none ∧ σ' = kMark σ n sc) := by
  refine ty_M.of rfl hJ layC (ty_oks.cons (show (0 : Nat) < cnC 1 by decide) (ty_oks.cons trivial ty_oks.nil)) (Nat.le_of_ble_eq_true rfl) ?_
  intro p e s m args below meth c C hr hnm
  have loop : ∀ k i, i + k = sc → ∀ τ : ty_St, τ = kMark σ n i → ty_V cnC p l e (rmL 0) s m args below meth c D ad cA (ty_Gd cnC ad s) 3 (MQ below (ty_Q cnC D ad cA (fun r σ' => r = none ∧ σ' = kMark σ n sc) (ty_A cnC ad)) args s 0 0 (ty_A cnC ad)) τ [some (.inr (1, 0)), some (.inl (nI n)), some (.inl (nI i))] 2 [] := by
    intro k
    induction k with
    | zero =>
      intro i hi τ hτ
      have hb := (show τ 1 0 8 = nI sc by rw [hτ, kMark_a (by decide)]; exact hc)
      refine v_iload_n (pc := 2) C d_Course_markStartedBy_2 rfl rfl ?_
      refine v_aload_n (pc := 3) C d_Course_markStartedBy_3 rfl rfl ?_
      refine gf_Course_100 (pc := 4) C d_Course_markStartedBy_4 ?_
      refine v_icmp_ge (pc := 7) (tgt := 51) C d_Course_markStartedBy_7 (by decide) (fun h7 => ?_) (fun h7 => ?_)
      · exact v_return (pc := 51) C hr ⟨rfl, by rw [hτ, show i = sc by omega]⟩ d_Course_markStartedBy_51
      · exact absurd (by rw [hb]; exact nI_le (by omega) (by omega)) h7
    | succ k ih =>
      intro i hi τ hτ
      have hb := (show τ 1 0 8 = nI sc by rw [hτ, kMark_a (by decide)]; exact hc)
      refine v_iload_n (pc := 2) C d_Course_markStartedBy_2 rfl rfl ?_
      refine v_aload_n (pc := 3) C d_Course_markStartedBy_3 rfl rfl ?_
      refine gf_Course_100 (pc := 4) C d_Course_markStartedBy_4 ?_
      refine v_icmp_ge (pc := 7) (tgt := 51) C d_Course_markStartedBy_7 (by decide) (fun h7 => ?_) (fun h7 => ?_)
      · exact absurd h7 (by rw [hb]; exact nI_ge (by omega) (by omega))
      · refine v_aload_n (pc := 10) C d_Course_markStartedBy_10 rfl rfl ?_
        refine gf_Course_25 (pc := 11) C d_Course_markStartedBy_11 ?_
        refine v_iload_n (pc := 14) C d_Course_markStartedBy_14 rfl rfl ?_
        refine v_aaloadK (pc := 15) C rfl rfl (by decide) (rfl) (by omega) (by decide) d_Course_markStartedBy_15 ?_
        refine gf_Course_229 (pc := 16) C d_Course_markStartedBy_16 ?_
        refine v_iload_n (pc := 19) C d_Course_markStartedBy_19 rfl rfl ?_
        refine v_icmp_ne (pc := 20) (tgt := 45) C d_Course_markStartedBy_20 (by decide) (fun h20 => ?_) (fun h20 => ?_)
        · refine v_iinc (pc := 45) C d_Course_markStartedBy_45 rfl (show _ + Int32.ofInt 1 = _ + 1 from rfl) (by decide) ?_
          refine v_goto (pc := 48) (tgt := 2) C d_Course_markStartedBy_48 (by decide) ?_
          rw [nI_1 i]
          refine ih (i + 1) (by omega) _ ?_
          unfold kMark
          rw [← hτ]
          rw [if_neg (fun q => h20 q.1)]
        · refine v_aload_n (pc := 23) C d_Course_markStartedBy_23 rfl rfl ?_
          refine gf_Course_25 (pc := 24) C d_Course_markStartedBy_24 ?_
          refine v_iload_n (pc := 27) C d_Course_markStartedBy_27 rfl rfl ?_
          refine v_aaloadK (pc := 28) C rfl rfl (by decide) (rfl) (by omega) (by decide) d_Course_markStartedBy_28 ?_
          refine gf_Course_125 (pc := 29) C d_Course_markStartedBy_29 ?_
          refine v_if_ne (pc := 32) (tgt := 45) C d_Course_markStartedBy_32 (by decide) (fun h32 => ?_) (fun h32 => ?_)
          · refine v_iinc (pc := 45) C d_Course_markStartedBy_45 rfl (show _ + Int32.ofInt 1 = _ + 1 from rfl) (by decide) ?_
            refine v_goto (pc := 48) (tgt := 2) C d_Course_markStartedBy_48 (by decide) ?_
            rw [nI_1 i]
            refine ih (i + 1) (by omega) _ ?_
            unfold kMark
            rw [← hτ]
            rw [if_neg (fun q => h32 q.2)]
          · refine v_aload_n (pc := 35) C d_Course_markStartedBy_35 rfl rfl ?_
            refine gf_Course_25 (pc := 36) C d_Course_markStartedBy_36 ?_
            refine v_iload_n (pc := 39) C d_Course_markStartedBy_39 rfl rfl ?_
            refine v_aaloadK (pc := 40) C rfl rfl (by decide) (rfl) (by omega) (by decide) d_Course_markStartedBy_40 ?_
            refine v_iconst (pc := 41) (v := 1) C d_Course_markStartedBy_41 (by decide) ?_
            refine pf_Course_117 (pc := 42) C rfl rfl d_Course_markStartedBy_42 ?_
            refine v_iinc (pc := 45) C d_Course_markStartedBy_45 rfl (show _ + Int32.ofInt 1 = _ + 1 from rfl) (by decide) ?_
            refine v_goto (pc := 48) (tgt := 2) C d_Course_markStartedBy_48 (by decide) ?_
            rw [nI_1 i]
            refine ih (i + 1) (by omega) _ ?_
            unfold kMark
            rw [← hτ]
            rw [if_pos ⟨h20, h32⟩]
  refine v_iconst (pc := 0) (v := 0) C d_Course_markStartedBy_0 (by decide) ?_
  refine v_istore_n (pc := 1) C d_Course_markStartedBy_1 rfl (by decide) ?_
  exact loop sc 0 (by omega) _ rfl
set_option maxRecDepth 100000 in
set_option maxHeartbeats 4000000 in
theorem c_Course_wait (l : Launch) {D : va_G} {ad : Nat → Nat → Nat} {cA : Nat → ClassId} (hJ : ty_J cnC ad) (σ : ty_St) (sc : Nat) (hsc : sc ≤ 52) (hc : σ 1 0 8 = nI sc) (n : Nat) (hn : n < 52) (hm : σ 4 n 6 = 0 ∨ σ 4 n 6 = 1) (hqq : vp_in (σ 4 n 0) 10) (z : Nat) (hz : z ≤ 10) (hat : σ 4 n 3 = nI z) (op a : Int32) : ty_M l y_Course_waitIn (Cond.code y_Course_waitIn b_Course_waitIn 6 (some .boolean) :: ty_w) (rmL 2) cnC D ad cA [.inr (1, 0), .inl (nI n), .inl op, .inl a] σ (fun r σ' => r = some (.inl (kWait σ n op a).1) ∧ σ' = (kWait σ n op a).2) := by
  refine ty_M.of rfl hJ layC (ty_oks.cons (show (0 : Nat) < cnC 1 by decide) (ty_oks.cons trivial (ty_oks.cons trivial (ty_oks.cons trivial ty_oks.nil)))) (Nat.le_of_ble_eq_true rfl) ?_
  intro p e s m args below meth c C hr hnm
  have rest3 : ∀ (υ : ty_St) (x : Int32), kWait σ n op a = kWait1 υ n op → (x = 1 ∧ kReady υ n op = true ∨ x = 0 ∧ kReady υ n op = false) → ty_V cnC p l e (rmL 2) s m args below meth c D ad cA (ty_Gd cnC ad s) 6 (MQ below (ty_Q cnC D ad cA (fun r σ' => r = some (.inl (kWait σ n op a).1) ∧ σ' = (kWait σ n op a).2) (ty_A cnC ad)) args s 0 0 (ty_A cnC ad)) υ [some (.inr (1, 0)), some (.inl (nI n)), some (.inl op), some (.inl a), some (.inr (4, n)), none] 88 [.inl x] := by
    intro υ x hk hx
    refine v_istore (pc := 88) C d_Course_waitIn_88 (by decide) ?_
    refine v_iload (pc := 90) C d_Course_waitIn_90 rfl ?_
    refine v_if_ne (pc := 92) (tgt := 97) C d_Course_waitIn_92 (by decide) (fun h92 => ?_) (fun h92 => ?_)
    · refine v_aload (pc := 97) C d_Course_waitIn_97 rfl ?_
      refine v_iconst (pc := 99) (v := 0) C d_Course_waitIn_99 (by decide) ?_
      refine pf_Course_212 (pc := 100) C rfl rfl d_Course_waitIn_100 ?_
      refine v_aload (pc := 103) C d_Course_waitIn_103 rfl ?_
      refine v_dup (pc := 105) C d_Course_waitIn_105 ?_
      refine gf_Course_177 (pc := 106) C d_Course_waitIn_106 ?_
      refine v_iconst (pc := 109) (v := 1) C d_Course_waitIn_109 (by decide) ?_
      refine v_iadd (pc := 110) C d_Course_waitIn_110 ?_
      refine pf_Course_177 (pc := 111) C d_Course_waitIn_111 ?_
      refine v_iconst (pc := 114) (v := 1) C d_Course_waitIn_114 (by decide) ?_
      exact v_zreturn (pc := 115) C hr rfl ⟨by rw [hk]; unfold kWait1; rw [if_pos (by rcases hx with ⟨_, h⟩ | ⟨rfl, _⟩; exact h; exact absurd rfl h92)], by rw [hk]; unfold kWait1; rw [if_pos (by rcases hx with ⟨_, h⟩ | ⟨rfl, _⟩; exact h; exact absurd rfl h92)]; rfl⟩ d_Course_waitIn_115
    · refine v_iconst (pc := 95) (v := 0) C d_Course_waitIn_95 (by decide) ?_
      exact v_zreturn (pc := 96) C hr rfl ⟨by rw [hk]; unfold kWait1; rw [if_neg (by rcases hx with ⟨rfl, _⟩ | ⟨_, h⟩; exact absurd h92 (by decide); rw [h]; decide)], by rw [hk]; unfold kWait1; rw [if_neg (by rcases hx with ⟨rfl, _⟩ | ⟨_, h⟩; exact absurd h92 (by decide); rw [h]; decide)]⟩ d_Course_waitIn_96
  have rest2 : ∀ υ : ty_St, kWait σ n op a = kWait1 υ n op → υ 1 0 8 = nI sc → ty_V cnC p l e (rmL 2) s m args below meth c D ad cA (ty_Gd cnC ad s) 6 (MQ below (ty_Q cnC D ad cA (fun r σ' => r = some (.inl (kWait σ n op a).1) ∧ σ' = (kWait σ n op a).2) (ty_A cnC ad)) args s 0 0 (ty_A cnC ad)) υ [some (.inr (1, 0)), some (.inl (nI n)), some (.inl op), some (.inl a), some (.inr (4, n)), none] 52 [] := by
    intro υ hk h8
    have hns : nn (υ 1 0 8) = sc := by rw [h8]; exact nI_clamp (by omega)
    refine v_iload_n (pc := 52) C d_Course_waitIn_52 rfl rfl ?_
    refine v_bipush (pc := 53) (v := 7) C d_Course_waitIn_53 (by decide) ?_
    refine v_icmp_ne (pc := 55) (tgt := 66) C d_Course_waitIn_55 (by decide) (fun h55 => ?_) (fun h55 => ?_)
    · refine v_iload_n (pc := 66) C d_Course_waitIn_66 rfl rfl ?_
      refine v_iconst (pc := 67) (v := 2) C d_Course_waitIn_67 (by decide) ?_
      refine v_icmp_eq (pc := 68) (tgt := 87) C d_Course_waitIn_68 (by decide) (fun h68 => ?_) (fun h68 => ?_)
      · refine v_iconst (pc := 87) (v := 0) C d_Course_waitIn_87 (by decide) ?_
        refine rest3 υ _ hk ?_
        unfold kReady
        first | (rw [if_pos h55, hns]; by_cases e : kOver υ n sc = true <;> simp [e]; done) | (rw [if_neg h55]; simp [h68]; done) | (rw [if_neg h55]; simp [h68, Int32.not_lt.mp h80]; done) | (rw [if_neg h55]; simp [h68, Int32.not_le.mpr h80]; done)
      · refine v_aload_n (pc := 71) C d_Course_waitIn_71 rfl rfl ?_
        refine gf_Course_87 (pc := 72) C d_Course_waitIn_72 ?_
        refine v_aload (pc := 75) C d_Course_waitIn_75 rfl ?_
        refine gf_Course_215 (pc := 77) C d_Course_waitIn_77 ?_
        refine v_icmp_lt (pc := 80) (tgt := 87) C d_Course_waitIn_80 (by decide) (fun h80 => ?_) (fun h80 => ?_)
        · refine v_iconst (pc := 87) (v := 0) C d_Course_waitIn_87 (by decide) ?_
          refine rest3 υ _ hk ?_
          unfold kReady
          first | (rw [if_pos h55, hns]; by_cases e : kOver υ n sc = true <;> simp [e]; done) | (rw [if_neg h55]; simp [h68]; done) | (rw [if_neg h55]; simp [h68, Int32.not_lt.mp h80]; done) | (rw [if_neg h55]; simp [h68, Int32.not_le.mpr h80]; done)
        · refine v_iconst (pc := 83) (v := 1) C d_Course_waitIn_83 (by decide) ?_
          refine v_goto (pc := 84) (tgt := 88) C d_Course_waitIn_84 (by decide) ?_
          refine rest3 υ _ hk ?_
          unfold kReady
          first | (rw [if_pos h55, hns]; by_cases e : kOver υ n sc = true <;> simp [e]; done) | (rw [if_neg h55]; simp [h68]; done) | (rw [if_neg h55]; simp [h68, Int32.not_lt.mp h80]; done) | (rw [if_neg h55]; simp [h68, Int32.not_le.mpr h80]; done)
    · refine v_aload_n (pc := 58) C d_Course_waitIn_58 rfl rfl ?_
      refine v_iload_n (pc := 59) C d_Course_waitIn_59 rfl rfl ?_
      refine cl_Course_222 (pc := 60) C (c_Course_over l hJ υ sc hsc h8 n) ⟨rfl, rfl, by decide, by decide⟩ rfl rfl (Nat.le_of_ble_eq_true rfl) d_Course_waitIn_60 (fun r σ' hq => ?_)
      rw [hq.1, hq.2]
      refine v_goto (pc := 63) (tgt := 88) C d_Course_waitIn_63 (by decide) ?_
      refine rest3 υ _ hk ?_
      unfold kReady
      first | (rw [if_pos h55, hns]; by_cases e : kOver υ n sc = true <;> simp [e]; done) | (rw [if_neg h55]; simp [h68]; done) | (rw [if_neg h55]; simp [h68, Int32.not_lt.mp h80]; done) | (rw [if_neg h55]; simp [h68, Int32.not_le.mpr h80]; done)
  have rest1 : ∀ τ : ty_St, τ = kWait0 σ n a → τ 1 0 8 = nI sc → τ 4 n 6 = σ 4 n 6 → τ 4 n 0 = σ 4 n 0 → τ 4 n 3 = σ 4 n 3 → ty_V cnC p l e (rmL 2) s m args below meth c D ad cA (ty_Gd cnC ad s) 6 (MQ below (ty_Q cnC D ad cA (fun r σ' => r = some (.inl (kWait σ n op a).1) ∧ σ' = (kWait σ n op a).2) (ty_A cnC ad)) args s 0 0 (ty_A cnC ad)) τ [some (.inr (1, 0)), some (.inl (nI n)), some (.inl op), some (.inl a), some (.inr (4, n)), none] 33 [] := by
    intro τ hτ h8 h6 h0 h3
    have t8 : (kTake τ n) 1 0 8 = nI sc := h8
    have t0 : (kTake τ n) 4 n 0 = σ 4 n 0 := (up_sj (by decide)).trans h0
    have t3 : (kTake τ n) 4 n 3 = nI z := ((up_sj (by decide)).trans h3).trans hat
    refine v_iload_n (pc := 33) C d_Course_waitIn_33 rfl rfl ?_
    refine v_if_eq (pc := 34) (tgt := 52) C d_Course_waitIn_34 (by decide) (fun h34 => ?_) (fun h34 => ?_)
    · first | exact rest2 τ (by unfold kWait; rw [if_pos h34, hτ]) h8 | exact rest2 (kTake τ n) (by unfold kWait; rw [if_neg h34, ← hτ, if_neg (fun q => q h42)]) t8
    · refine v_aload (pc := 37) C d_Course_waitIn_37 rfl ?_
      refine cl_Course_203 (pc := 39) C (c_Strand_takeMark l hJ τ n hn (by rw [h6]; exact hm)) ⟨rfl, rfl, by decide, by decide⟩ rfl rfl (Nat.le_of_ble_eq_true rfl) d_Course_waitIn_39 (fun r σ' hq => ?_)
      rw [hq.1, hq.2]
      refine v_if_eq (pc := 42) (tgt := 52) C d_Course_waitIn_42 (by decide) (fun h42 => ?_) (fun h42 => ?_)
      · first | exact rest2 τ (by unfold kWait; rw [if_pos h34, hτ]) h8 | exact rest2 (kTake τ n) (by unfold kWait; rw [if_neg h34, ← hτ, if_neg (fun q => q h42)]) t8
      · refine v_aload_n (pc := 45) C d_Course_waitIn_45 rfl rfl ?_
        refine v_aload (pc := 46) C d_Course_waitIn_46 rfl ?_
        refine cl_Course_218 (pc := 48) C (c_Course_interrupt l hJ (kTake τ n) n hn (by rw [t0]; exact hqq) z hz t3) ⟨rfl, rfl, by decide, by decide⟩ rfl rfl (Nat.le_of_ble_eq_true rfl) d_Course_waitIn_48 (fun r σ' hq => ?_)
        rw [hq.1, hq.2]
        exact v_zreturn (pc := 51) C hr (by rcases kInterrupt_01 (kTake τ n) n with h | h <;> rw [h] <;> rfl) ⟨by unfold kWait; rw [if_neg h34, ← hτ, if_pos h42], by unfold kWait; rw [if_neg h34, ← hτ, if_pos h42]⟩ d_Course_waitIn_51
  refine v_aload_n (pc := 0) C d_Course_waitIn_0 rfl rfl ?_
  refine gf_Course_25 (pc := 1) C d_Course_waitIn_1 ?_
  refine v_iload_n (pc := 4) C d_Course_waitIn_4 rfl rfl ?_
  refine v_aaloadK (pc := 5) C rfl rfl (by decide) (rfl) (hn) (by decide) d_Course_waitIn_5 ?_
  refine v_astore (pc := 6) C d_Course_waitIn_6 (by decide) ?_
  refine v_aload (pc := 8) C d_Course_waitIn_8 rfl ?_
  refine gf_Course_212 (pc := 10) C d_Course_waitIn_10 ?_
  refine v_if_ne (pc := 13) (tgt := 33) C d_Course_waitIn_13 (by decide) (fun h13 => ?_) (fun h13 => ?_)
  · first | exact rest1 σ (by unfold kWait0; rw [if_neg h13]) hc rfl rfl rfl | exact rest1 _ (by unfold kWait0; rw [if_pos h13]; rfl) hc (by rw [up_sj (by decide), up_sj (by decide)]) (by rw [up_sj (by decide), up_sj (by decide)]) (by rw [up_sj (by decide), up_sj (by decide)])
  · refine v_aload (pc := 16) C d_Course_waitIn_16 rfl ?_
    refine v_iconst (pc := 18) (v := 1) C d_Course_waitIn_18 (by decide) ?_
    refine pf_Course_212 (pc := 19) C rfl rfl d_Course_waitIn_19 ?_
    refine v_aload (pc := 22) C d_Course_waitIn_22 rfl ?_
    refine v_aload_n (pc := 24) C d_Course_waitIn_24 rfl rfl ?_
    refine gf_Course_87 (pc := 25) C d_Course_waitIn_25 ?_
    refine v_iload_n (pc := 28) C d_Course_waitIn_28 rfl rfl ?_
    refine v_iadd (pc := 29) C d_Course_waitIn_29 ?_
    refine pf_Course_215 (pc := 30) C d_Course_waitIn_30 ?_
    first | exact rest1 σ (by unfold kWait0; rw [if_neg h13]) hc rfl rfl rfl | exact rest1 _ (by unfold kWait0; rw [if_pos h13]; rfl) hc (by rw [up_sj (by decide), up_sj (by decide)]) (by rw [up_sj (by decide), up_sj (by decide)]) (by rw [up_sj (by decide), up_sj (by decide)])
end
section
set_option maxRecDepth 100000 in
set_option maxHeartbeats 4000000 in
theorem c_Course_atOnce (l : Launch) {D : va_G} {ad : Nat → Nat → Nat} {cA : Nat → ClassId} (hJ : ty_J cnC ad) (σ : ty_St) (sc : Nat) (hsc : sc ≤ 52) (hc : σ 1 0 8 = nI sc) (n : Nat) (hn : n < 52) (hm : σ 4 n 6 = 0 ∨ σ 4 n 6 = 1) (ht : vp_in (σ 4 n 1) 12) (hl : ¬ σ 5 0 1 < 0) (op a : Int32) : ty_M l y_Course_actAtOnce (Cond.code y_Course_actAtOnce b_Course_actAtOnce 5 none :: ty_w) (rmL 2) cnC D ad cA [.inr (1, 0), .inl (nI n), .inl op, .inl a] σ (fun r σ' => r = none ∧ σ' = kAtOnce σ n op a) := by
  refine ty_M.of rfl hJ layC (ty_oks.cons (show (0 : Nat) < cnC 1 by decide) (ty_oks.cons trivial (ty_oks.cons trivial (ty_oks.cons trivial ty_oks.nil)))) (Nat.le_of_ble_eq_true rfl) ?_
  intro p e s m args below meth c C hr hnm
  have hns : nn (σ 1 0 8) = sc := by rw [hc]; exact nI_clamp (by omega)
  refine v_aload_n (pc := 0) C d_Course_actAtOnce_0 rfl rfl ?_
  refine gf_Course_25 (pc := 1) C d_Course_actAtOnce_1 ?_
  refine v_iload_n (pc := 4) C d_Course_actAtOnce_4 rfl rfl ?_
  refine v_aaloadK (pc := 5) C rfl rfl (by decide) (rfl) (hn) (by decide) d_Course_actAtOnce_5 ?_
  refine v_astore (pc := 6) C d_Course_actAtOnce_6 (by decide) ?_
  refine v_iload_n (pc := 8) C d_Course_actAtOnce_8 rfl rfl ?_
  by_cases e5 : op = 5
  · subst e5
    refine v_tabIn (pc := 9) (off := 43) (tgt := 52) C d_Course_actAtOnce_9 (by decide) (by decide) (by decide) (by decide) ?_
    refine v_aload_n (pc := 52) C d_Course_actAtOnce_52 rfl rfl ?_
    refine gf_Course_100 (pc := 53) C d_Course_actAtOnce_53 ?_
    refine v_bipush (pc := 56) (v := 40) C d_Course_actAtOnce_56 (by decide) ?_
    refine v_icmp_ge (pc := 58) (tgt := 144) C d_Course_actAtOnce_58 (by decide) (fun h58 => ?_) (fun h58 => ?_)
    · exact v_return (pc := 144) C hr ⟨rfl, by unfold kAtOnce; rw [if_pos rfl, if_neg (Int32.not_lt.mpr h58)]⟩ d_Course_actAtOnce_144
    · refine v_aload_n (pc := 61) C d_Course_actAtOnce_61 rfl rfl ?_
      refine v_iload_n (pc := 62) C d_Course_actAtOnce_62 rfl rfl ?_
      refine v_aload (pc := 63) C d_Course_actAtOnce_63 rfl ?_
      refine gf_Course_197 (pc := 65) C d_Course_actAtOnce_65 ?_
      refine v_iload_n (pc := 68) C d_Course_actAtOnce_68 rfl rfl ?_
      refine cl_Course_159 (pc := 69) C (c_Course_startStrand l hJ σ (by rw [hc]; exact nI_pos (by omega)) a (σ 4 n 1) (nI n) ht) ⟨rfl, rfl, by decide, by decide⟩ rfl rfl (Nat.le_of_ble_eq_true rfl) d_Course_actAtOnce_69 (fun r σ' hq => ?_)
      rw [hq.1, hq.2]
      refine v_goto (pc := 72) (tgt := 144) C d_Course_actAtOnce_72 (by decide) ?_
      exact v_return (pc := 144) C hr ⟨rfl, by unfold kAtOnce; rw [if_pos rfl, if_pos (Int32.not_le.mp h58)]⟩ d_Course_actAtOnce_144
  by_cases e6 : op = 6
  · subst e6
    refine v_tabIn (pc := 9) (off := 66) (tgt := 75) C d_Course_actAtOnce_9 (by decide) (by decide) (by decide) (by decide) ?_
    refine v_aload_n (pc := 75) C d_Course_actAtOnce_75 rfl rfl ?_
    refine gf_Course_38 (pc := 76) C d_Course_actAtOnce_76 ?_
    refine v_bipush (pc := 79) (v := 100) C d_Course_actAtOnce_79 (by decide) ?_
    refine v_aload (pc := 81) C d_Course_actAtOnce_81 rfl ?_
    refine gf_Course_197 (pc := 83) C d_Course_actAtOnce_83 ?_
    refine v_imul (pc := 86) C d_Course_actAtOnce_86 ?_
    refine v_iload_n (pc := 87) C d_Course_actAtOnce_87 rfl rfl ?_
    refine v_iadd (pc := 88) C d_Course_actAtOnce_88 ?_
    refine cl_Course_200 (pc := 89) C (c_Log_add l hJ σ 0 (by decide) hl _) ⟨rfl, rfl, by decide, by decide⟩ rfl rfl (Nat.le_of_ble_eq_true rfl) d_Course_actAtOnce_89 (fun r σ' hq => ?_)
    rw [hq.1, hq.2]
    refine v_goto (pc := 92) (tgt := 144) C d_Course_actAtOnce_92 (by decide) ?_
    exact v_return (pc := 144) C hr ⟨rfl, by simp [kAtOnce]⟩ d_Course_actAtOnce_144
  by_cases e8 : op = 8
  · subst e8
    refine v_tabIn (pc := 9) (off := 86) (tgt := 95) C d_Course_actAtOnce_9 (by decide) (by decide) (by decide) (by decide) ?_
    refine v_aload_n (pc := 95) C d_Course_actAtOnce_95 rfl rfl ?_
    refine gf_Course_38 (pc := 96) C d_Course_actAtOnce_96 ?_
    refine v_bipush (pc := 99) (v := 100) C d_Course_actAtOnce_99 (by decide) ?_
    refine v_aload (pc := 101) C d_Course_actAtOnce_101 rfl ?_
    refine gf_Course_197 (pc := 103) C d_Course_actAtOnce_103 ?_
    refine v_imul (pc := 106) C d_Course_actAtOnce_106 ?_
    refine v_aload (pc := 107) C d_Course_actAtOnce_107 rfl ?_
    refine cl_Course_203 (pc := 109) C (c_Strand_takeMark l hJ σ n hn hm) ⟨rfl, rfl, by decide, by decide⟩ rfl rfl (Nat.le_of_ble_eq_true rfl) d_Course_actAtOnce_109 (fun r σ' hq => ?_)
    rw [hq.1, hq.2]
    refine v_if_eq (pc := 112) (tgt := 119) C d_Course_actAtOnce_112 (by decide) (fun h112 => ?_) (fun h112 => ?_)
    · refine v_iconst (pc := 119) (v := 0) C d_Course_actAtOnce_119 (by decide) ?_
      refine v_iadd (pc := 120) C d_Course_actAtOnce_120 ?_
      refine cl_Course_200 (pc := 121) C (c_Log_add l hJ (kTake σ n) 0 (by decide) hl _) ⟨rfl, rfl, by decide, by decide⟩ rfl rfl (Nat.le_of_ble_eq_true rfl) d_Course_actAtOnce_121 (fun r σ' hq => ?_)
      rw [hq.1, hq.2]
      refine v_goto (pc := 124) (tgt := 144) C d_Course_actAtOnce_124 (by decide) ?_
      exact v_return (pc := 144) C hr ⟨rfl, by simp [kAtOnce, h112]⟩ d_Course_actAtOnce_144
    · refine v_iconst (pc := 115) (v := 1) C d_Course_actAtOnce_115 (by decide) ?_
      refine v_goto (pc := 116) (tgt := 120) C d_Course_actAtOnce_116 (by decide) ?_
      refine v_iadd (pc := 120) C d_Course_actAtOnce_120 ?_
      refine cl_Course_200 (pc := 121) C (c_Log_add l hJ (kTake σ n) 0 (by decide) hl _) ⟨rfl, rfl, by decide, by decide⟩ rfl rfl (Nat.le_of_ble_eq_true rfl) d_Course_actAtOnce_121 (fun r σ' hq => ?_)
      rw [hq.1, hq.2]
      refine v_goto (pc := 124) (tgt := 144) C d_Course_actAtOnce_124 (by decide) ?_
      exact v_return (pc := 144) C hr ⟨rfl, by simp [kAtOnce, h112]⟩ d_Course_actAtOnce_144
  by_cases e9 : op = 9
  · subst e9
    refine v_tabIn (pc := 9) (off := 118) (tgt := 127) C d_Course_actAtOnce_9 (by decide) (by decide) (by decide) (by decide) ?_
    refine v_aload (pc := 127) C d_Course_actAtOnce_127 rfl ?_
    refine v_iconst (pc := 129) (v := 1) C d_Course_actAtOnce_129 (by decide) ?_
    refine pf_Course_206 (pc := 130) C rfl rfl d_Course_actAtOnce_130 ?_
    refine v_goto (pc := 133) (tgt := 144) C d_Course_actAtOnce_133 (by decide) ?_
    exact v_return (pc := 144) C hr ⟨rfl, by simp [kAtOnce]⟩ d_Course_actAtOnce_144
  by_cases e11 : op = 11
  · subst e11
    refine v_tabIn (pc := 9) (off := 127) (tgt := 136) C d_Course_actAtOnce_9 (by decide) (by decide) (by decide) (by decide) ?_
    refine v_aload_n (pc := 136) C d_Course_actAtOnce_136 rfl rfl ?_
    refine v_iload_n (pc := 137) C d_Course_actAtOnce_137 rfl rfl ?_
    refine cl_Course_209 (pc := 138) C (c_Course_mark l hJ σ sc hsc hc n) ⟨rfl, rfl, by decide, by decide⟩ rfl rfl (Nat.le_of_ble_eq_true rfl) d_Course_actAtOnce_138 (fun r σ' hq => ?_)
    rw [hq.1, hq.2]
    refine v_goto (pc := 141) (tgt := 144) C d_Course_actAtOnce_141 (by decide) ?_
    exact v_return (pc := 144) C hr ⟨rfl, by simp [kAtOnce, hns]⟩ d_Course_actAtOnce_144
  have f5 : ¬ op.toInt = 5 := lv_neT e5 (by decide)
  have f6 : ¬ op.toInt = 6 := lv_neT e6 (by decide)
  have f8 : ¬ op.toInt = 8 := lv_neT e8 (by decide)
  have f9 : ¬ op.toInt = 9 := lv_neT e9 (by decide)
  have f11 : ¬ op.toInt = 11 := lv_neT e11 (by decide)
  rcases (show op.toInt < 5 ∨ 11 < op.toInt ∨ op.toInt = 7 ∨ op.toInt = 10 by omega) with h | h | h | h
  · exact v_tabOut (pc := 9) (tgt := 144) C d_Course_actAtOnce_9 (Or.inl h) (by decide) (v_return (pc := 144) C hr ⟨rfl, by simp [kAtOnce, e5, e6, e8, e9, e11]⟩ d_Course_actAtOnce_144)
  · exact v_tabOut (pc := 9) (tgt := 144) C d_Course_actAtOnce_9 (Or.inr h) (by decide) (v_return (pc := 144) C hr ⟨rfl, by simp [kAtOnce, e5, e6, e8, e9, e11]⟩ d_Course_actAtOnce_144)
  · exact v_tabIn (pc := 9) (off := 135) (tgt := 144) C d_Course_actAtOnce_9 (by omega) (by omega) (by rw [h]; decide) (by decide) (v_return (pc := 144) C hr ⟨rfl, by simp [kAtOnce, e5, e6, e8, e9, e11]⟩ d_Course_actAtOnce_144)
  · exact v_tabIn (pc := 9) (off := 135) (tgt := 144) C d_Course_actAtOnce_9 (by omega) (by omega) (by rw [h]; decide) (by decide) (v_return (pc := 144) C hr ⟨rfl, by simp [kAtOnce, e5, e6, e8, e9, e11]⟩ d_Course_actAtOnce_144)
theorem kWait_01 (σ : ty_St) (n : Nat) (op a : Int32) : (kWait σ n op a).1 = 0 ∨ (kWait σ n op a).1 = 1 := by
  unfold kWait kWait1
  repeat' split
  all_goals first | exact kInterrupt_01 _ _ | simp
set_option maxRecDepth 100000 in
set_option maxHeartbeats 4000000 in
theorem c_Course_action (l : Launch) {D : va_G} {ad : Nat → Nat → Nat} {cA : Nat → ClassId} (hJ : ty_J cnC ad) (σ : ty_St) (sc : Nat) (hsc : sc ≤ 52) (hc : σ 1 0 8 = nI sc) (n : Nat) (hn : n < 52) (hm : σ 4 n 6 = 0 ∨ σ 4 n 6 = 1) (hqq : vp_in (σ 4 n 0) 10) (ht : vp_in (σ 4 n 1) 12) (hl : ¬ σ 5 0 1 < 0) (hat : ∃ y, y ≤ 30 ∧ σ 4 n 3 = nI y) (hsz : ∃ w, w ≤ 10 ∧ σ 2 (nn (σ 4 n 0)) 3 = nI w) : ty_M l y_Course_doAction (Cond.code y_Course_doAction b_Course_doAction 6 (some .boolean) :: ty_w) (rmL 3) cnC D ad cA [.inr (1, 0), .inl (nI n)] σ (fun r σ' => r = some (.inl (kAction σ n).1) ∧ σ' = (kAction σ n).2) := by
  refine ty_M.of rfl hJ layC (ty_oks.cons (show (0 : Nat) < cnC 1 by decide) (ty_oks.cons trivial ty_oks.nil)) (Nat.le_of_ble_eq_true rfl) ?_
  intro p e s m args below meth c C hr hnm
  have hin : σ 4 n 3 < σ 2 (nn (σ 4 n 0)) 3 → vp_in (σ 4 n 3) 10 := by
    intro q
    obtain ⟨y, hy, hyz⟩ := hat
    obtain ⟨w, hw, hwz⟩ := hsz
    rw [hyz, hwz] at q
    rw [hyz]
    exact vp_in_nI (by have := (nI_ltI (by omega) (by omega)).mp q; omega) (by decide)
  have rest : ∀ op a : Int32, kAction σ n = (if op = 0 ∨ op = 1 ∨ op = 2 ∨ op = 7 then kWait σ n op a else if op = 3 then (0, kEnd σ n a) else if op = 10 then (0, kEnd σ n (-1)) else (1, kAt (kAtOnce σ n op a) n)) → ∀ z, z < 10 → σ 4 n 3 = nI z → ty_V cnC p l e (rmL 3) s m args below meth c D ad cA (ty_Gd cnC ad s) 6 (MQ below (ty_Q cnC D ad cA (fun r σ' => r = some (.inl (kAction σ n).1) ∧ σ' = (kAction σ n).2) (ty_A cnC ad)) args s 0 0 (ty_A cnC ad)) σ [some (.inr (1, 0)), some (.inl (nI n)), some (.inr (4, n)), some (.inr (2, nn (σ 4 n 0))), some (.inl op), some (.inl a)] 59 [.inl op] := by
    intro op a hk z hz hat
    by_cases e0 : op = 0
    · subst e0
      refine v_tabIn (pc := 59) (off := 57) (tgt := 116) C d_Course_doAction_59 (by decide) (by decide) (by decide) (by decide) ?_
      refine v_aload_n (pc := 116) C d_Course_doAction_116 rfl rfl ?_
      refine v_iload_n (pc := 117) C d_Course_doAction_117 rfl rfl ?_
      refine v_iload (pc := 118) C d_Course_doAction_118 rfl ?_
      refine v_iload (pc := 120) C d_Course_doAction_120 rfl ?_
      refine cl_Course_190 (pc := 122) C (c_Course_wait l hJ σ sc hsc hc n hn hm hqq z (by omega) hat _ _) ⟨rfl, rfl, by decide, by decide⟩ rfl rfl (Nat.le_of_ble_eq_true rfl) d_Course_doAction_122 (fun r σ' hq => ?_)
      rw [hq.1, hq.2]
      exact v_zreturn (pc := 125) C hr (by rcases kWait_01 σ n 0 a with h | h <;> rw [h] <;> rfl) ⟨by rw [hk]; simp, by rw [hk]; simp⟩ d_Course_doAction_125
    by_cases e1 : op = 1
    · subst e1
      refine v_tabIn (pc := 59) (off := 57) (tgt := 116) C d_Course_doAction_59 (by decide) (by decide) (by decide) (by decide) ?_
      refine v_aload_n (pc := 116) C d_Course_doAction_116 rfl rfl ?_
      refine v_iload_n (pc := 117) C d_Course_doAction_117 rfl rfl ?_
      refine v_iload (pc := 118) C d_Course_doAction_118 rfl ?_
      refine v_iload (pc := 120) C d_Course_doAction_120 rfl ?_
      refine cl_Course_190 (pc := 122) C (c_Course_wait l hJ σ sc hsc hc n hn hm hqq z (by omega) hat _ _) ⟨rfl, rfl, by decide, by decide⟩ rfl rfl (Nat.le_of_ble_eq_true rfl) d_Course_doAction_122 (fun r σ' hq => ?_)
      rw [hq.1, hq.2]
      exact v_zreturn (pc := 125) C hr (by rcases kWait_01 σ n 1 a with h | h <;> rw [h] <;> rfl) ⟨by rw [hk]; simp, by rw [hk]; simp⟩ d_Course_doAction_125
    by_cases e2 : op = 2
    · subst e2
      refine v_tabIn (pc := 59) (off := 57) (tgt := 116) C d_Course_doAction_59 (by decide) (by decide) (by decide) (by decide) ?_
      refine v_aload_n (pc := 116) C d_Course_doAction_116 rfl rfl ?_
      refine v_iload_n (pc := 117) C d_Course_doAction_117 rfl rfl ?_
      refine v_iload (pc := 118) C d_Course_doAction_118 rfl ?_
      refine v_iload (pc := 120) C d_Course_doAction_120 rfl ?_
      refine cl_Course_190 (pc := 122) C (c_Course_wait l hJ σ sc hsc hc n hn hm hqq z (by omega) hat _ _) ⟨rfl, rfl, by decide, by decide⟩ rfl rfl (Nat.le_of_ble_eq_true rfl) d_Course_doAction_122 (fun r σ' hq => ?_)
      rw [hq.1, hq.2]
      exact v_zreturn (pc := 125) C hr (by rcases kWait_01 σ n 2 a with h | h <;> rw [h] <;> rfl) ⟨by rw [hk]; simp, by rw [hk]; simp⟩ d_Course_doAction_125
    by_cases e3 : op = 3
    · subst e3
      refine v_tabIn (pc := 59) (off := 67) (tgt := 126) C d_Course_doAction_59 (by decide) (by decide) (by decide) (by decide) ?_
      refine v_aload_n (pc := 126) C d_Course_doAction_126 rfl rfl ?_
      refine v_iload (pc := 127) C d_Course_doAction_127 rfl ?_
      refine cl_Course_181 (pc := 129) C (c_Strand_end l hJ σ n hn a) ⟨rfl, rfl, by decide, by decide⟩ rfl rfl (Nat.le_of_ble_eq_true rfl) d_Course_doAction_129 (fun r σ' hq => ?_)
      rw [hq.1, hq.2]
      refine v_iconst (pc := 132) (v := 0) C d_Course_doAction_132 (by decide) ?_
      exact v_zreturn (pc := 133) C hr rfl ⟨by rw [hk]; simp, by rw [hk]; simp⟩ d_Course_doAction_133
    by_cases e7 : op = 7
    · subst e7
      refine v_tabIn (pc := 59) (off := 57) (tgt := 116) C d_Course_doAction_59 (by decide) (by decide) (by decide) (by decide) ?_
      refine v_aload_n (pc := 116) C d_Course_doAction_116 rfl rfl ?_
      refine v_iload_n (pc := 117) C d_Course_doAction_117 rfl rfl ?_
      refine v_iload (pc := 118) C d_Course_doAction_118 rfl ?_
      refine v_iload (pc := 120) C d_Course_doAction_120 rfl ?_
      refine cl_Course_190 (pc := 122) C (c_Course_wait l hJ σ sc hsc hc n hn hm hqq z (by omega) hat _ _) ⟨rfl, rfl, by decide, by decide⟩ rfl rfl (Nat.le_of_ble_eq_true rfl) d_Course_doAction_122 (fun r σ' hq => ?_)
      rw [hq.1, hq.2]
      exact v_zreturn (pc := 125) C hr (by rcases kWait_01 σ n 7 a with h | h <;> rw [h] <;> rfl) ⟨by rw [hk]; simp, by rw [hk]; simp⟩ d_Course_doAction_125
    by_cases e10 : op = 10
    · subst e10
      refine v_tabIn (pc := 59) (off := 75) (tgt := 134) C d_Course_doAction_59 (by decide) (by decide) (by decide) (by decide) ?_
      refine v_aload_n (pc := 134) C d_Course_doAction_134 rfl rfl ?_
      refine v_iconst (pc := 135) (v := (-1)) C d_Course_doAction_135 (by decide) ?_
      refine cl_Course_181 (pc := 136) C (c_Strand_end l hJ σ n hn (-1)) ⟨rfl, rfl, by decide, by decide⟩ rfl rfl (Nat.le_of_ble_eq_true rfl) d_Course_doAction_136 (fun r σ' hq => ?_)
      rw [hq.1, hq.2]
      refine v_iconst (pc := 139) (v := 0) C d_Course_doAction_139 (by decide) ?_
      exact v_zreturn (pc := 140) C hr rfl ⟨by rw [hk]; simp, by rw [hk]; simp⟩ d_Course_doAction_140
    have dflt : ty_V cnC p l e (rmL 3) s m args below meth c D ad cA (ty_Gd cnC ad s) 6 (MQ below (ty_Q cnC D ad cA (fun r σ' => r = some (.inl (kAction σ n).1) ∧ σ' = (kAction σ n).2) (ty_A cnC ad)) args s 0 0 (ty_A cnC ad)) σ [some (.inr (1, 0)), some (.inl (nI n)), some (.inr (4, n)), some (.inr (2, nn (σ 4 n 0))), some (.inl op), some (.inl a)] 141 [] := by
      refine v_aload_n (pc := 141) C d_Course_doAction_141 rfl rfl ?_
      refine v_iload_n (pc := 142) C d_Course_doAction_142 rfl rfl ?_
      refine v_iload (pc := 143) C d_Course_doAction_143 rfl ?_
      refine v_iload (pc := 145) C d_Course_doAction_145 rfl ?_
      refine cl_Course_194 (pc := 147) C (c_Course_atOnce l hJ σ sc hsc hc n hn hm ht hl op a) ⟨rfl, rfl, by decide, by decide⟩ rfl rfl (Nat.le_of_ble_eq_true rfl) d_Course_doAction_147 (fun r σ' hq => ?_)
      rw [hq.1, hq.2]
      refine v_aload_n (pc := 150) C d_Course_doAction_150 rfl rfl ?_
      refine v_dup (pc := 151) C d_Course_doAction_151 ?_
      refine gf_Course_177 (pc := 152) C d_Course_doAction_152 ?_
      refine v_iconst (pc := 155) (v := 1) C d_Course_doAction_155 (by decide) ?_
      refine v_iadd (pc := 156) C d_Course_doAction_156 ?_
      refine pf_Course_177 (pc := 157) C d_Course_doAction_157 ?_
      refine v_iconst (pc := 160) (v := 1) C d_Course_doAction_160 (by decide) ?_
      exact v_zreturn (pc := 161) C hr rfl ⟨by rw [hk]; simp [e0, e1, e2, e3, e7, e10], by rw [hk]; simp [e0, e1, e2, e3, e7, e10]; rfl⟩ d_Course_doAction_161
    have f0 : ¬ op.toInt = 0 := lv_neT e0 (by decide)
    have f1 : ¬ op.toInt = 1 := lv_neT e1 (by decide)
    have f2 : ¬ op.toInt = 2 := lv_neT e2 (by decide)
    have f3 : ¬ op.toInt = 3 := lv_neT e3 (by decide)
    have f7 : ¬ op.toInt = 7 := lv_neT e7 (by decide)
    have f10 : ¬ op.toInt = 10 := lv_neT e10 (by decide)
    rcases (show op.toInt < 0 ∨ 10 < op.toInt ∨ op.toInt = 4 ∨ op.toInt = 5 ∨ op.toInt = 6 ∨ op.toInt = 8 ∨ op.toInt = 9 by omega) with h | h | h | h | h | h | h
    · exact v_tabOut (pc := 59) (tgt := 141) C d_Course_doAction_59 (Or.inl h) (by decide) dflt
    · exact v_tabOut (pc := 59) (tgt := 141) C d_Course_doAction_59 (Or.inr h) (by decide) dflt
    · exact v_tabIn (pc := 59) (off := 82) (tgt := 141) C d_Course_doAction_59 (by omega) (by omega) (by rw [h]; decide) (by decide) dflt
    · exact v_tabIn (pc := 59) (off := 82) (tgt := 141) C d_Course_doAction_59 (by omega) (by omega) (by rw [h]; decide) (by decide) dflt
    · exact v_tabIn (pc := 59) (off := 82) (tgt := 141) C d_Course_doAction_59 (by omega) (by omega) (by rw [h]; decide) (by decide) dflt
    · exact v_tabIn (pc := 59) (off := 82) (tgt := 141) C d_Course_doAction_59 (by omega) (by omega) (by rw [h]; decide) (by decide) dflt
    · exact v_tabIn (pc := 59) (off := 82) (tgt := 141) C d_Course_doAction_59 (by omega) (by omega) (by rw [h]; decide) (by decide) dflt
  refine v_aload_n (pc := 0) C d_Course_doAction_0 rfl rfl ?_
  refine gf_Course_25 (pc := 1) C d_Course_doAction_1 ?_
  refine v_iload_n (pc := 4) C d_Course_doAction_4 rfl rfl ?_
  refine v_aaloadK (pc := 5) C rfl rfl (by decide) (rfl) (hn) (by decide) d_Course_doAction_5 ?_
  refine v_astore_n (pc := 6) C d_Course_doAction_6 rfl (by decide) ?_
  refine v_aload_n (pc := 7) C d_Course_doAction_7 rfl rfl ?_
  refine gf_Course_11 (pc := 8) C d_Course_doAction_8 ?_
  refine v_aload_n (pc := 11) C d_Course_doAction_11 rfl rfl ?_
  refine gf_Course_176 (pc := 12) C d_Course_doAction_12 ?_
  refine v_aaload (pc := 15) C rfl rfl (by decide) hqq d_Course_doAction_15 ?_
  refine v_astore_n (pc := 16) C d_Course_doAction_16 rfl (by decide) ?_
  refine v_aload_n (pc := 17) C d_Course_doAction_17 rfl rfl ?_
  refine gf_Course_177 (pc := 18) C d_Course_doAction_18 ?_
  refine v_aload_n (pc := 21) C d_Course_doAction_21 rfl rfl ?_
  refine gf_Course_180 (pc := 22) C d_Course_doAction_22 ?_
  refine v_icmp_lt (pc := 25) (tgt := 35) C d_Course_doAction_25 (by decide) (fun h25 => ?_) (fun h25 => ?_)
  · refine v_aload_n (pc := 35) C d_Course_doAction_35 rfl rfl ?_
    refine gf_Course_184 (pc := 36) C d_Course_doAction_36 ?_
    refine v_aload_n (pc := 39) C d_Course_doAction_39 rfl rfl ?_
    refine gf_Course_177 (pc := 40) C d_Course_doAction_40 ?_
    refine v_iaload (pc := 43) C rfl rfl (hin (Int32.not_le.mp (by intro q; exact absurd h25 (Int32.not_lt.mpr q)))) d_Course_doAction_43 ?_
    refine v_istore (pc := 44) C d_Course_doAction_44 (by decide) ?_
    refine v_aload_n (pc := 46) C d_Course_doAction_46 rfl rfl ?_
    refine gf_Course_187 (pc := 47) C d_Course_doAction_47 ?_
    refine v_aload_n (pc := 50) C d_Course_doAction_50 rfl rfl ?_
    refine gf_Course_177 (pc := 51) C d_Course_doAction_51 ?_
    refine v_iaload (pc := 54) C rfl rfl (hin (Int32.not_le.mp (by intro q; exact absurd h25 (Int32.not_lt.mpr q)))) d_Course_doAction_54 ?_
    refine v_istore (pc := 55) C d_Course_doAction_55 (by decide) ?_
    refine v_iload (pc := 57) C d_Course_doAction_57 rfl ?_
    obtain ⟨y, hy, hyz⟩ := hat
    obtain ⟨w, hw, hwz⟩ := hsz
    have hyw : y < w := by rw [hyz, hwz] at h25; exact (nI_ltI (by omega) (by omega)).mp h25
    exact rest _ _ (by unfold kAction; dsimp only; rw [if_neg (Int32.not_le.mpr h25)]) y (by omega) hyz
  · refine v_aload_n (pc := 28) C d_Course_doAction_28 rfl rfl ?_
    refine v_iconst (pc := 29) (v := (-1)) C d_Course_doAction_29 (by decide) ?_
    refine cl_Course_181 (pc := 30) C (c_Strand_end l hJ σ n hn (-1)) ⟨rfl, rfl, by decide, by decide⟩ rfl rfl (Nat.le_of_ble_eq_true rfl) d_Course_doAction_30 (fun r σ' hq => ?_)
    rw [hq.1, hq.2]
    refine v_iconst (pc := 33) (v := 0) C d_Course_doAction_33 (by decide) ?_
    exact v_zreturn (pc := 34) C hr rfl ⟨by unfold kAction; dsimp only; rw [if_pos (Int32.not_lt.mp h25)], by unfold kAction; dsimp only; rw [if_pos (Int32.not_lt.mp h25)]⟩ d_Course_doAction_34
end
section
/-! THE CLASS'S INVARIANT IN A RUN -/
/-- how many of the first n trials have begun -/
def kNb (σ : ty_St) : Nat → Nat
  | 0 => 0
  | n + 1 => kNb σ n + if σ 3 n 6 = -1 then 0 else 1
theorem kNb_congr {σ τ : ty_St} (h : ∀ t, σ 3 t 6 = τ 3 t 6) : ∀ n, kNb σ n = kNb τ n
  | 0 => rfl
  | n + 1 => by unfold kNb; rw [kNb_congr h n, h n]
theorem kNb_le {σ : ty_St} : ∀ n, kNb σ n ≤ n
  | 0 => Nat.le_refl _
  | n + 1 => by
    have := kNb_le (σ := σ) n
    unfold kNb
    split <;> omega
theorem kNb_lt {σ : ty_St} {t : Nat} (ht : σ 3 t 6 = -1) : ∀ n, t < n → kNb σ n < n
  | 0, h => absurd h (by omega)
  | n + 1, h => by
    unfold kNb
    by_cases e : t = n
    · subst e
      have := kNb_le (σ := σ) t
      rw [if_pos ht]; omega
    · have := kNb_lt ht n (by omega)
      split <;> omega
theorem kNb_up {σ τ : ty_St} {t : Nat} (h : ∀ u, ¬ u = t → τ 3 u 6 = σ 3 u 6) (h0 : σ 3 t 6 = -1) (h1 : ¬ τ 3 t 6 = -1) : ∀ n, (t < n → kNb τ n = kNb σ n + 1) ∧ (n ≤ t → kNb τ n = kNb σ n)
  | 0 => ⟨fun q => absurd q (by omega), fun _ => rfl⟩
  | n + 1 => by
    have ih := kNb_up h h0 h1 n
    unfold kNb
    refine ⟨fun q => ?_, fun q => ?_⟩
    · by_cases e : t = n
      · subst e
        rw [ih.2 (Nat.le_refl _), if_neg h1, if_pos h0]
      · rw [ih.1 (by omega), h n (fun q => e q.symm)]; omega
    · rw [ih.2 (by omega), h n (by omega)]
def kInv (tc wc B : Nat) (σ : ty_St) : Prop :=
  (σ 1 0 6 = nI tc ∧ σ 1 0 7 = nI wc ∧ ∃ tm, tm ≤ 150 ∧ σ 1 0 11 = nI tm) ∧
  (∃ sc, sc ≤ 52 ∧ sc ≤ 40 + kNb σ 12 ∧ σ 1 0 8 = nI sc) ∧
  (∀ q, q < 10 → ∃ k, k ≤ 10 ∧ σ 2 q 3 = nI k) ∧
  (∀ q j, q < 10 → j < 10 → (σ 6 q j = 5 → vp_in (σ 7 q j) 10) ∧ ∃ k, k ≤ 20 ∧ σ 8 q j = nI k) ∧
  (∀ t, t < 12 → vp_in (σ 3 t 0) 10 ∧ (¬ σ 3 t 6 = -1 → vp_in (σ 3 t 11) 52)) ∧
  (∀ n, n < 52 → vp_in (σ 4 n 0) 10 ∧ vp_in (σ 4 n 1) 12 ∧ (∃ z, z ≤ 20 ∧ σ 4 n 3 = nI z) ∧ (σ 4 n 6 = 0 ∨ σ 4 n 6 = 1)) ∧
  (∀ w, w < 4 → ¬ σ 10 0 w = -1 → vp_in (σ 10 0 w) 12 ∧ ¬ σ 3 (nn (σ 10 0 w)) 6 = -1) ∧
  (∀ i, i < 2 → ∃ k, k ≤ B ∧ σ 5 i 1 = nI k)
section KINV
variable {tc wc B : Nat} {σ : ty_St}
theorem kInv.mono {B' : Nat} (h : kInv tc wc B σ) (hB : B ≤ B') : kInv tc wc B' σ := by
  obtain ⟨h1, h2, h3, h4, h5, h6, h7, h8⟩ := h
  exact ⟨h1, h2, h3, h4, h5, h6, h7, fun i hi => by obtain ⟨k, hk, e⟩ := h8 i hi; exact ⟨k, by omega, e⟩⟩
theorem kInv.up4 (h : kInv tc wc B σ) {n j : Nat} {x : Int32} (h0 : j = 0 → vp_in x 10) (hj1 : j = 1 → vp_in x 12) (hj3 : j = 3 → ∃ z, z ≤ 20 ∧ x = nI z) (hj6 : j = 6 → x = 0 ∨ x = 1) : kInv tc wc B (ty_up σ 4 n j x) := by
  obtain ⟨h1, h2, h3, h4, h5, h6, h7, h8⟩ := h
  refine ⟨h1, h2, h3, h4, h5, fun m hm => ?_, h7, h8⟩
  have g := h6 m hm
  by_cases e : m = n
  · subst e
    have key : ∀ k, ty_up σ 4 m j x 4 m k = if k = j then x else σ 4 m k := fun k => by
      by_cases ek : k = j
      · subst ek; rw [up_ss, if_pos rfl]
      · rw [up_sj ek, if_neg ek]
    rw [key 0, key 1, key 3, key 6]
    refine ⟨?_, ?_, ?_, ?_⟩
    · split
      · rename_i q; exact h0 q.symm
      · exact g.1
    · split
      · rename_i q; exact hj1 q.symm
      · exact g.2.1
    · split
      · rename_i q; exact hj3 q.symm
      · exact g.2.2.1
    · split
      · rename_i q; exact hj6 q.symm
      · exact g.2.2.2
  · rw [up_i e]; exact g
theorem kInv.up4' (h : kInv tc wc B σ) {n j : Nat} {x : Int32} (h0 : ¬ j = 0) (hj1 : ¬ j = 1) (hj3 : ¬ j = 3) (hj6 : ¬ j = 6) : kInv tc wc B (ty_up σ 4 n j x) :=
  h.up4 (fun q => absurd q h0) (fun q => absurd q hj1) (fun q => absurd q hj3) (fun q => absurd q hj6)
theorem kInv.up3 (h : kInv tc wc B σ) {t j : Nat} {x : Int32} (h0 : ¬ j = 0) (hj6 : ¬ j = 6) (hj11 : ¬ j = 11) : kInv tc wc B (ty_up σ 3 t j x) := by
  obtain ⟨h1, h2, h3, h4, h5, h6, h7, h8⟩ := h
  have key : ∀ u k, ¬ k = j → ty_up σ 3 t j x 3 u k = σ 3 u k := fun u k hk => by
    by_cases e : u = t
    · subst e; exact up_sj hk
    · rw [up_i e]
  refine ⟨h1, by rw [kNb_congr (fun u => key u 6 (Ne.symm hj6))]; exact h2, h3, h4, fun u hu => ?_, h6, fun w hw hq => ?_, h8⟩
  · rw [key u 0 (Ne.symm h0), key u 6 (Ne.symm hj6), key u 11 (Ne.symm hj11)]; exact h5 u hu
  · have e : (ty_up σ 3 t j x) 10 0 w = σ 10 0 w := rfl
    rw [e] at hq ⊢
    rw [key _ 6 (Ne.symm hj6)]
    exact h7 w hw hq
theorem kInv.up1 (h : kInv tc wc B σ) {j : Nat} {x : Int32} (h0 : ¬ j = 6) (hj6 : ¬ j = 7) (hj8 : ¬ j = 8) (hj11 : ¬ j = 11) : kInv tc wc B (ty_up σ 1 0 j x) := by
  obtain ⟨h1, h2, h3, h4, h5, h6, h7, h8⟩ := h
  have key : ∀ k, ¬ k = j → ty_up σ 1 0 j x 1 0 k = σ 1 0 k := fun k hk => up_sj hk
  exact ⟨by rw [key 6 (Ne.symm h0), key 7 (Ne.symm hj6), key 11 (Ne.symm hj11)]; exact h1, by rw [key 8 (Ne.symm hj8)]; exact h2, h3, h4, h5, h6, h7, h8⟩
theorem kInv.up10 (h : kInv tc wc B σ) {w : Nat} : kInv tc wc B (ty_up σ 10 0 w (-1)) := by
  obtain ⟨h1, h2, h3, h4, h5, h6, h7, h8⟩ := h
  refine ⟨h1, h2, h3, h4, h5, h6, fun v hv hq => ?_, h8⟩
  by_cases e : v = w
  · subst e; rw [up_ss] at hq; exact absurd rfl hq
  · rw [up_sj e] at hq ⊢
    exact h7 v hv hq
theorem kInv.up9 (h : kInv tc wc B σ) {i j : Nat} {x : Int32} : kInv tc wc B (ty_up σ 9 i j x) := h
theorem kInv.log (h : kInv tc wc B σ) {i : Nat} (hi : i < 2) (hB : B < 2000000000) (x : Int32) : kInv tc wc (B + 1) (kLog σ i x) := by
  have aux : ∀ τ : ty_St, kInv tc wc B τ → kInv tc wc (B + 1) (ty_up τ 5 i 1 (τ 5 i 1 + 1)) := by
    intro τ g
    obtain ⟨h1, h2, h3, h4, h5, h6, h7, h8⟩ := g
    refine ⟨h1, h2, h3, h4, h5, h6, h7, fun k hk => ?_⟩
    by_cases e : k = i
    · subst e
      obtain ⟨z, hz, ez⟩ := h8 k hk
      exact ⟨z + 1, by omega, by rw [up_ss, ez, nI_1]⟩
    · rw [up_i e]
      obtain ⟨z, hz, ez⟩ := h8 k hk
      exact ⟨z, by omega, ez⟩
  unfold kLog
  dsimp only
  split
  · exact aux _ h.up9
  · exact aux _ h
theorem kInv.nlog (h : kInv tc wc B σ) {i : Nat} (hi : i < 2) (hB : B < 2000000000) : ¬ σ 5 i 1 < 0 := by
  obtain ⟨k, hk, e⟩ := h.2.2.2.2.2.2.2 i hi
  rw [e]; exact nI_pos (by omega)
theorem kInv.endS (h : kInv tc wc B σ) (n : Nat) (d : Int32) : kInv tc wc B (kEnd σ n d) := (h.up4' (by decide) (by decide) (by decide) (by decide)).up4' (by decide) (by decide) (by decide) (by decide)
theorem kInv.take (h : kInv tc wc B σ) (n : Nat) : kInv tc wc B (kTake σ n) := h.up4 (fun q => absurd q (by decide)) (fun q => absurd q (by decide)) (fun q => absurd q (by decide)) (fun _ => Or.inl rfl)
theorem kInv.startS (h : kInv tc wc B σ) {q t st : Int32} (hq : vp_in q 10) (ht : vp_in t 12) (hb : ∀ sc, sc ≤ 52 → σ 1 0 8 = nI sc → sc + 1 ≤ 40 + kNb σ 12) : kInv tc wc B (kStartS σ q t st) := by
  unfold kStartS
  split
  · rename_i hlt
    dsimp only
    have g : kInv tc wc B (kStart σ (nn (σ 1 0 8)) q t st) := by
      unfold kStart
      refine kInv.up4' ?_ (by decide) (by decide) (by decide) (by decide)
      refine kInv.up4' ?_ (by decide) (by decide) (by decide) (by decide)
      refine kInv.up4' ?_ (by decide) (by decide) (by decide) (by decide)
      refine kInv.up4 ?_ (fun q => absurd q (by decide)) (fun q => absurd q (by decide)) (fun q => absurd q (by decide)) (fun _ => Or.inl rfl)
      refine kInv.up4' ?_ (by decide) (by decide) (by decide) (by decide)
      refine kInv.up4' ?_ (by decide) (by decide) (by decide) (by decide)
      refine kInv.up4 ?_ (fun q => absurd q (by decide)) (fun q => absurd q (by decide)) (fun _ => ⟨0, by omega, rfl⟩) (fun q => absurd q (by decide))
      refine kInv.up4' ?_ (by decide) (by decide) (by decide) (by decide)
      refine kInv.up4 ?_ (fun q => absurd q (by decide)) (fun _ => ht) (fun q => absurd q (by decide)) (fun q => absurd q (by decide))
      exact h.up4 (fun _ => hq) (fun q => absurd q (by decide)) (fun q => absurd q (by decide)) (fun q => absurd q (by decide))
    refine kInv.up3 ?_ (by decide) (by decide) (by decide)
    obtain ⟨h1, ⟨sc, hsc, hsb, e8⟩, h3, h4, h5, h6, h7, h8⟩ := g
    refine ⟨?_, ⟨sc + 1, ?_, hb sc hsc e8, ?_⟩, h3, h4, h5, h6, h7, h8⟩
    · rw [up_sj (by decide), up_sj (by decide), up_sj (by decide)]; exact h1
    · have e9 : σ 1 0 8 = nI sc := e8
      rw [e9] at hlt
      have := (nI_ltI (b := 52) (by omega) (by decide)).mp hlt
      omega
    · rw [up_ss, e8, nI_1]
  · exact h
theorem kInv.mark (h : kInv tc wc B σ) (n : Nat) : ∀ k, kInv tc wc B (kMark σ n k)
  | 0 => h
  | k + 1 => by
    unfold kMark
    split
    · exact (kInv.mark h n k).up4 (fun q => absurd q (by decide)) (fun q => absurd q (by decide)) (fun q => absurd q (by decide)) (fun _ => Or.inr rfl)
    · exact kInv.mark h n k
theorem kEga_in {g : Nat → Int32} {z : Int32} : ∀ n, kEga g z n = -1 ∨ ∃ j, j < n ∧ kEga g z n = g j
  | 0 => Or.inl rfl
  | n + 1 => by
    unfold kEga
    split
    · exact Or.inr ⟨n, by omega, rfl⟩
    · rcases kEga_in (g := g) (z := z) n with q | ⟨j, hj, e⟩
      · exact Or.inl q
      · exact Or.inr ⟨j, by omega, e⟩
theorem kInv.interrupt (h : kInv tc wc B σ) {n z : Nat} (hn : n < 52) (hz : z ≤ 10) (hat : σ 4 n 3 = nI z) : kInv tc wc B (kInterrupt σ n).2 := by
  unfold kInterrupt
  dsimp only
  have g : kInv tc wc B (ty_up σ 4 n 4 0) := h.up4' (by decide) (by decide) (by decide) (by decide)
  have e3 : (ty_up σ 4 n 4 0) 4 n 3 = nI z := (up_sj (by decide)).trans hat
  split
  · exact g.endS n 100
  · rename_i hb
    refine g.up4 (fun q => absurd q (by decide)) (fun q => absurd q (by decide)) (fun _ => ?_) (fun q => absurd q (by decide))
    rcases kEga_in (g := (ty_up σ 4 n 4 0) 8 (nn ((ty_up σ 4 n 4 0) 4 n 0))) (z := (ty_up σ 4 n 4 0) 4 n 3) (nn ((ty_up σ 4 n 4 0) 4 n 3)) with q | ⟨j, hj, e⟩
    · exact absurd q hb
    · rw [e]
      rw [e3, show nn (nI z) = z from nI_clamp (by omega)] at hj
      have hq : nn ((ty_up σ 4 n 4 0) 4 n 0) < 10 := vp_lt (g.2.2.2.2.2.1 n hn).1
      exact (g.2.2.2.1 _ j hq (by omega)).2
theorem kInv.wait0 (h : kInv tc wc B σ) (n : Nat) (a : Int32) : kInv tc wc B (kWait0 σ n a) := by
  unfold kWait0
  split
  · exact (h.up4' (by decide) (by decide) (by decide) (by decide)).up4' (by decide) (by decide) (by decide) (by decide)
  · exact h
theorem kInv.at1 (h : kInv tc wc B σ) {n z : Nat} (hz : z < 20) (hat : σ 4 n 3 = nI z) : kInv tc wc B (kAt σ n) :=
  h.up4 (fun q => absurd q (by decide)) (fun q => absurd q (by decide)) (fun _ => ⟨z + 1, by omega, by rw [hat, nI_1]⟩) (fun q => absurd q (by decide))
theorem kWait0_3 {n : Nat} {a : Int32} {j : Nat} (h4 : ¬ j = 4) (h5 : ¬ j = 5) : (kWait0 σ n a) 4 n j = σ 4 n j := by
  unfold kWait0
  split
  · rw [up_sj h5, up_sj h4]
  · rfl
theorem kInv.wait1 (h : kInv tc wc B σ) {n z : Nat} (hz : z < 20) (hat : σ 4 n 3 = nI z) (op : Int32) : kInv tc wc B (kWait1 σ n op).2 := by
  unfold kWait1
  split
  · exact (h.up4' (by decide) (by decide) (by decide) (by decide)).at1 hz ((up_sj (by decide)).trans hat)
  · exact h
theorem kInv.wait (h : kInv tc wc B σ) {n z : Nat} (hn : n < 52) (hz : z < 10) (hat : σ 4 n 3 = nI z) (op a : Int32) : kInv tc wc B (kWait σ n op a).2 := by
  have g := h.wait0 n a
  have e3 : (kWait0 σ n a) 4 n 3 = nI z := (kWait0_3 (by decide) (by decide)).trans hat
  have e3' : (kTake (kWait0 σ n a) n) 4 n 3 = nI z := (up_sj (by decide)).trans e3
  unfold kWait
  split
  · exact g.wait1 (by omega) e3 op
  · split
    · exact (g.take n).interrupt hn (by omega) e3'
    · exact (g.take n).wait1 (by omega) e3' op
theorem kInv.atOnce (h : kInv tc wc B σ) {n : Nat} (hn : n < 52) (hB : B < 2000000000) (op a : Int32) (ha : op = 5 → vp_in a 10) : kInv tc wc (B + 1) (kAtOnce σ n op a) := by
  unfold kAtOnce
  split
  · rename_i q
    split
    · rename_i q40
      refine (h.startS (ha q) (h.2.2.2.2.2.1 n hn).2.1 (fun sc hsc e => ?_)).mono (by omega)
      rw [e] at q40
      have := (nI_ltI (b := 40) (by omega) (by decide)).mp q40
      omega
    · exact h.mono (by omega)
  · split
    · exact h.log (by decide) hB _
    · split
      · exact (h.take n).log (by decide) hB _
      · split
        · exact (h.up4' (by decide) (by decide) (by decide) (by decide)).mono (by omega)
        · split
          · exact (h.mark n _).mono (by omega)
          · exact h.mono (by omega)
end KINV
end
section
section KINV2
variable {tc wc B : Nat} {σ : ty_St}
theorem kStartS_3 {q t st : Int32} {n : Nat} : (kStartS σ q t st) 4 n 3 = σ 4 n 3 ∨ (kStartS σ q t st) 4 n 3 = nI 0 := by
  unfold kStartS
  split
  · dsimp only
    rw [up_a (by decide), up_a (by decide)]
    unfold kStart
    by_cases e : n = nn (σ 1 0 8)
    · right
      rw [e, up_sj (by decide), up_sj (by decide), up_sj (by decide), up_sj (by decide), up_sj (by decide), up_sj (by decide), up_ss]
      rfl
    · left
      simp only [up_i e]
  · exact Or.inl rfl
theorem kLog_4 {i : Nat} {x : Int32} : (kLog σ i x) 4 = σ 4 := by
  unfold kLog
  rw [up_a (by decide)]
  split
  · rw [up_a (by decide)]
  · rfl
theorem kMark_43 {n m j : Nat} (h : ¬ j = 6) : ∀ k, (kMark σ n k) 4 m j = σ 4 m j
  | 0 => rfl
  | k + 1 => by
    unfold kMark
    split
    · by_cases e : m = k
      · rw [e, up_sj h]; exact kMark_43 h k
      · rw [up_i e]; exact kMark_43 h k
    · exact kMark_43 h k
theorem kAtOnce_3 {n : Nat} {op a : Int32} : (kAtOnce σ n op a) 4 n 3 = σ 4 n 3 ∨ (kAtOnce σ n op a) 4 n 3 = nI 0 := by
  unfold kAtOnce
  split
  · split
    · exact kStartS_3
    · exact Or.inl rfl
  · split
    · left; rw [kLog_4]
    · split
      · left; rw [kLog_4]; exact up_sj (by decide)
      · split
        · left; exact up_sj (by decide)
        · split
          · left; exact kMark_43 (by decide) _
          · exact Or.inl rfl
theorem kInv.action (h : kInv tc wc B σ) {n : Nat} (hn : n < 52) (hB : B < 2000000000) : kInv tc wc (B + 1) (kAction σ n).2 := by
  obtain ⟨hq, ht, ⟨z, hz, hat⟩, hm⟩ := h.2.2.2.2.2.1 n hn
  have hq10 := vp_lt hq
  obtain ⟨w, hw, hsz⟩ := h.2.2.1 _ hq10
  unfold kAction
  dsimp only
  split
  · exact (h.endS n _).mono (by omega)
  · rename_i hlt
    have hzw : z < w := by
      rw [hsz, hat] at hlt
      exact (nI_ltI (by omega) (by omega)).mp (Int32.not_le.mp hlt)
    have hzc : nn (σ 4 n 3) = z := by rw [hat]; exact nI_clamp (by omega)
    split
    · exact (h.wait hn (show z < 10 by omega) hat _ _).mono (by omega)
    · split
      · exact (h.endS n _).mono (by omega)
      · split
        · exact (h.endS n _).mono (by omega)
        · have g := h.atOnce hn hB (σ 6 (nn (σ 4 n 0)) (nn (σ 4 n 3))) (σ 7 (nn (σ 4 n 0)) (nn (σ 4 n 3))) (fun q => by
            rw [hzc] at q ⊢
            exact (h.2.2.2.1 _ z hq10 (by omega)).1 q)
          rcases kAtOnce_3 (σ := σ) (n := n) (op := σ 6 (nn (σ 4 n 0)) (nn (σ 4 n 3))) (a := σ 7 (nn (σ 4 n 0)) (nn (σ 4 n 3))) with e | e
          · exact g.at1 (show z < 20 by omega) (e.trans hat)
          · exact g.at1 (show 0 < 20 by omega) e
theorem kInv.steps {n : Nat} (hn : n < 52) : ∀ (k B : Nat) (σ : ty_St), kInv tc wc B σ → B + k < 2000000000 → kInv tc wc (B + k) (kSteps n k σ)
  | 0, _, _, h, _ => h
  | k + 1, B, σ, h, hB => by
    unfold kSteps
    have g := h.action hn (by omega)
    split
    · exact g.mono (by omega)
    · have := kInv.steps hn k (B + 1) _ g (by omega)
      rw [show B + 1 + k = B + (k + 1) by omega] at this
      exact this
theorem kInv.byDeath (h : kInv tc wc B σ) (t : Nat) (d x : Int32) : kInv tc wc B (kByDeath σ t d x) :=
  ((h.up3 (by decide) (by decide) (by decide)).up3 (by decide) (by decide) (by decide)).up3 (by decide) (by decide) (by decide)
theorem kInv.tell (h : kInv tc wc B σ) (hB : B < 2000000000) (n : Nat) : kInv tc wc (B + 1) (kTell σ n) := by
  unfold kTell
  dsimp only
  split
  · split
    · exact h.log (by decide) hB _
    · exact h.mono (by omega)
  · split
    · exact (h.byDeath _ _ _).mono (by omega)
    · split
      · exact (h.up3 (by decide) (by decide) (by decide)).mono (by omega)
      · exact h.mono (by omega)
theorem kInv.turn (h : kInv tc wc B σ) {n : Nat} (hn : n < 52) (hB : B + 12 < 2000000000) : kInv tc wc (B + 12) (kTurn σ n) := by
  have g := kInv.steps hn 11 B σ h (by omega)
  unfold kTurn
  split
  · exact g.tell (by omega) n
  · exact g.mono (by omega)
theorem kInv.turns : ∀ (k : Nat), k ≤ 52 → kInv tc wc B σ → B + 12 * k < 2000000000 → kInv tc wc (B + 12 * k) (kTurns σ k)
  | 0, _, h, _ => h
  | k + 1, hk, h, hB => by
    have g := kInv.turns k (by omega) h (by omega)
    unfold kTurns
    split
    · have := g.turn (show k < 52 by omega) (by omega)
      rw [show B + 12 * k + 12 = B + 12 * (k + 1) by omega] at this
      exact this
    · exact g.mono (by omega)
end KINV2
set_option maxRecDepth 100000 in
set_option maxHeartbeats 4000000 in
theorem c_Course_tell (l : Launch) {D : va_G} {ad : Nat → Nat → Nat} {cA : Nat → ClassId} (hJ : ty_J cnC ad) (σ : ty_St) (n : Nat) (hn : n < 52) (ht : vp_in (σ 4 n 1) 12) (hl : ¬ σ 5 1 1 < 0) : ty_M l y_Course_tellEnd (Cond.code y_Course_tellEnd b_Course_tellEnd 5 none :: ty_w) (rmL 2) cnC D ad cA [.inr (1, 0), .inl (nI n)] σ (fun r σ' => r = none ∧ σ' = kTell σ n) := by
  refine ty_M.of rfl hJ layC (ty_oks.cons (show (0 : Nat) < cnC 1 by decide) (ty_oks.cons trivial ty_oks.nil)) (Nat.le_of_ble_eq_true rfl) ?_
  intro p e s m args below meth c C hr hnm
  have rest : ∀ x : Int32, (x = 1 ∧ (¬ σ 4 n 9 = -1 ∧ σ 4 n 7 = 0) ∨ x = 0 ∧ ¬ (¬ σ 4 n 9 = -1 ∧ σ 4 n 7 = 0)) → ty_V cnC p l e (rmL 2) s m args below meth c D ad cA (ty_Gd cnC ad s) 5 (MQ below (ty_Q cnC D ad cA (fun r σ' => r = none ∧ σ' = kTell σ n) (ty_A cnC ad)) args s 0 0 (ty_A cnC ad)) σ [some (.inr (1, 0)), some (.inl (nI n)), some (.inr (4, n)), some (.inr (3, nn (σ 4 n 1))), none] 37 [.inl x] := by
    intro x hx
    refine v_istore (pc := 37) C d_Course_tellEnd_37 (by decide) ?_
    refine v_aload_n (pc := 39) C d_Course_tellEnd_39 rfl rfl ?_
    refine gf_Course_93 (pc := 40) C d_Course_tellEnd_40 ?_
    refine v_if_eq (pc := 43) (tgt := 74) C d_Course_tellEnd_43 (by decide) (fun h43 => ?_) (fun h43 => ?_)
    · refine v_iload_n (pc := 74) C d_Course_tellEnd_74 rfl rfl ?_
      refine v_aload_n (pc := 75) C d_Course_tellEnd_75 rfl rfl ?_
      refine gf_Course_114 (pc := 76) C d_Course_tellEnd_76 ?_
      refine v_icmp_ne (pc := 79) (tgt := 97) C d_Course_tellEnd_79 (by decide) (fun h79 => ?_) (fun h79 => ?_)
      · refine v_iload (pc := 97) C d_Course_tellEnd_97 rfl ?_
        refine v_if_eq (pc := 99) (tgt := 118) C d_Course_tellEnd_99 (by decide) (fun h99 => ?_) (fun h99 => ?_)
        · exact v_return (pc := 118) C hr ⟨rfl, by unfold kTell; dsimp only; rw [if_neg (fun q => q h43)]; rw [if_neg h79]; rw [if_neg (fun q => by rcases hx with ⟨rfl, _⟩ | ⟨_, hh⟩; exact absurd h99 (by decide); exact hh q.1)]⟩ d_Course_tellEnd_118
        · refine v_aload_n (pc := 102) C d_Course_tellEnd_102 rfl rfl ?_
          refine gf_Course_238 (pc := 103) C d_Course_tellEnd_103 ?_
          refine v_iconst (pc := 106) (v := (-1)) C d_Course_tellEnd_106 (by decide) ?_
          refine v_icmp_ne (pc := 107) (tgt := 118) C d_Course_tellEnd_107 (by decide) (fun h107 => ?_) (fun h107 => ?_)
          · exact v_return (pc := 118) C hr ⟨rfl, by unfold kTell; dsimp only; rw [if_neg (fun q => q h43)]; rw [if_neg h79]; rw [if_neg (fun q => h107 q.2)]⟩ d_Course_tellEnd_118
          · refine v_aload_n (pc := 110) C d_Course_tellEnd_110 rfl rfl ?_
            refine v_aload_n (pc := 111) C d_Course_tellEnd_111 rfl rfl ?_
            refine gf_Course_232 (pc := 112) C d_Course_tellEnd_112 ?_
            refine pf_Course_238 (pc := 115) C d_Course_tellEnd_115 ?_
            exact v_return (pc := 118) C hr ⟨rfl, by unfold kTell; dsimp only; rw [if_neg (fun q => q h43)]; rw [if_neg h79]; rw [if_pos ⟨by rcases hx with ⟨_, hh⟩ | ⟨rfl, _⟩; exact hh; exact absurd rfl h99, h107⟩]⟩ d_Course_tellEnd_118
      · refine v_aload_n (pc := 82) C d_Course_tellEnd_82 rfl rfl ?_
        refine v_aload_n (pc := 83) C d_Course_tellEnd_83 rfl rfl ?_
        refine gf_Course_232 (pc := 84) C d_Course_tellEnd_84 ?_
        refine v_aload_n (pc := 87) C d_Course_tellEnd_87 rfl rfl ?_
        refine gf_Course_87 (pc := 88) C d_Course_tellEnd_88 ?_
        refine cl_Course_235 (pc := 91) C (c_Trial_byDeath l hJ σ (nn (σ 4 n 1)) (vp_lt ht) _ _) ⟨rfl, rfl, by decide, by decide⟩ rfl rfl (Nat.le_of_ble_eq_true rfl) d_Course_tellEnd_91 (fun r σ' hq => ?_)
        rw [hq.1, hq.2]
        refine v_goto (pc := 94) (tgt := 118) C d_Course_tellEnd_94 (by decide) ?_
        exact v_return (pc := 118) C hr ⟨rfl, by unfold kTell; dsimp only; rw [if_neg (fun q => q h43)]; rw [if_pos h79]⟩ d_Course_tellEnd_118
    · refine v_iload (pc := 46) C d_Course_tellEnd_46 rfl ?_
      refine v_if_eq (pc := 48) (tgt := 118) C d_Course_tellEnd_48 (by decide) (fun h48 => ?_) (fun h48 => ?_)
      · exact v_return (pc := 118) C hr ⟨rfl, by unfold kTell; dsimp only; rw [if_pos h43]; rw [if_neg (by rcases hx with ⟨rfl, _⟩ | ⟨_, hh⟩; exact absurd h48 (by decide); exact hh)]⟩ d_Course_tellEnd_118
      · refine v_aload_n (pc := 51) C d_Course_tellEnd_51 rfl rfl ?_
        refine gf_Course_42 (pc := 52) C d_Course_tellEnd_52 ?_
        refine v_sipush (pc := 55) (v := 1000) C d_Course_tellEnd_55 (by decide) ?_
        refine v_aload_n (pc := 58) C d_Course_tellEnd_58 rfl rfl ?_
        refine gf_Course_197 (pc := 59) C d_Course_tellEnd_59 ?_
        refine v_imul (pc := 62) C d_Course_tellEnd_62 ?_
        refine v_aload_n (pc := 63) C d_Course_tellEnd_63 rfl rfl ?_
        refine gf_Course_232 (pc := 64) C d_Course_tellEnd_64 ?_
        refine v_iadd (pc := 67) C d_Course_tellEnd_67 ?_
        refine cl_Course_200 (pc := 68) C (c_Log_add l hJ σ 1 (by decide) hl _) ⟨rfl, rfl, by decide, by decide⟩ rfl rfl (Nat.le_of_ble_eq_true rfl) d_Course_tellEnd_68 (fun r σ' hq => ?_)
        rw [hq.1, hq.2]
        refine v_goto (pc := 71) (tgt := 118) C d_Course_tellEnd_71 (by decide) ?_
        exact v_return (pc := 118) C hr ⟨rfl, by unfold kTell; dsimp only; rw [if_pos h43]; rw [if_pos (by rcases hx with ⟨_, hh⟩ | ⟨rfl, _⟩; exact hh; exact absurd rfl h48)]⟩ d_Course_tellEnd_118
  refine v_aload_n (pc := 0) C d_Course_tellEnd_0 rfl rfl ?_
  refine gf_Course_25 (pc := 1) C d_Course_tellEnd_1 ?_
  refine v_iload_n (pc := 4) C d_Course_tellEnd_4 rfl rfl ?_
  refine v_aaloadK (pc := 5) C rfl rfl (by decide) (rfl) (hn) (by decide) d_Course_tellEnd_5 ?_
  refine v_astore_n (pc := 6) C d_Course_tellEnd_6 rfl (by decide) ?_
  refine v_aload_n (pc := 7) C d_Course_tellEnd_7 rfl rfl ?_
  refine gf_Course_19 (pc := 8) C d_Course_tellEnd_8 ?_
  refine v_aload_n (pc := 11) C d_Course_tellEnd_11 rfl rfl ?_
  refine gf_Course_197 (pc := 12) C d_Course_tellEnd_12 ?_
  refine v_aaload (pc := 15) C rfl rfl (by decide) ht d_Course_tellEnd_15 ?_
  refine v_astore_n (pc := 16) C d_Course_tellEnd_16 rfl (by decide) ?_
  refine v_aload_n (pc := 17) C d_Course_tellEnd_17 rfl rfl ?_
  refine gf_Course_232 (pc := 18) C d_Course_tellEnd_18 ?_
  refine v_iconst (pc := 21) (v := (-1)) C d_Course_tellEnd_21 (by decide) ?_
  refine v_icmp_eq (pc := 22) (tgt := 36) C d_Course_tellEnd_22 (by decide) (fun h22 => ?_) (fun h22 => ?_)
  · refine v_iconst (pc := 36) (v := 0) C d_Course_tellEnd_36 (by decide) ?_
    refine rest _ (Or.inr ⟨rfl, fun q => q.1 h22⟩)
  · refine v_aload_n (pc := 25) C d_Course_tellEnd_25 rfl rfl ?_
    refine gf_Course_206 (pc := 26) C d_Course_tellEnd_26 ?_
    refine v_if_ne (pc := 29) (tgt := 36) C d_Course_tellEnd_29 (by decide) (fun h29 => ?_) (fun h29 => ?_)
    · refine v_iconst (pc := 36) (v := 0) C d_Course_tellEnd_36 (by decide) ?_
      refine rest _ (Or.inr ⟨rfl, fun q => h29 q.2⟩)
    · refine v_iconst (pc := 32) (v := 1) C d_Course_tellEnd_32 (by decide) ?_
      refine v_goto (pc := 33) (tgt := 37) C d_Course_tellEnd_33 (by decide) ?_
      refine rest _ (Or.inl ⟨rfl, h22, h29⟩)
set_option maxRecDepth 100000 in
set_option maxHeartbeats 4000000 in
theorem c_Course_turn (l : Launch) {D : va_G} {ad : Nat → Nat → Nat} {cA : Nat → ClassId} (hJ : ty_J cnC ad) (σ : ty_St) (tc wc B : Nat) (hI : kInv tc wc B σ) (hB : B + 12 < 2000000000) (n : Nat) (hn : n < 52) : ty_M l y_Course_takeTurn (Cond.code y_Course_takeTurn b_Course_takeTurn 4 none :: ty_w) (rmL 4) cnC D ad cA [.inr (1, 0), .inl (nI n)] σ (fun r σ' => r = none ∧ σ' = kTurn σ n) := by
  refine ty_M.of rfl hJ layC (ty_oks.cons (show (0 : Nat) < cnC 1 by decide) (ty_oks.cons trivial ty_oks.nil)) (Nat.le_of_ble_eq_true rfl) ?_
  intro p e s m args below meth c C hr hnm
  have gI := kInv.steps hn 11 B σ hI (by omega)
  have fin : ∀ (τ : ty_St) (g x : Int32), τ = kSteps n 11 σ → ty_V cnC p l e (rmL 4) s m args below meth c D ad cA (ty_Gd cnC ad s) 4 (MQ below (ty_Q cnC D ad cA (fun r σ' => r = none ∧ σ' = kTurn σ n) (ty_A cnC ad)) args s 0 0 (ty_A cnC ad)) τ [some (.inr (1, 0)), some (.inl (nI n)), some (.inl g), some (.inl x)] 26 [] := by
    intro τ g x hτ
    rw [hτ]
    refine v_aload_n (pc := 26) C d_Course_takeTurn_26 rfl rfl ?_
    refine gf_Course_25 (pc := 27) C d_Course_takeTurn_27 ?_
    refine v_iload_n (pc := 30) C d_Course_takeTurn_30 rfl rfl ?_
    refine v_aaloadK (pc := 31) C rfl rfl (by decide) (rfl) (hn) (by decide) d_Course_takeTurn_31 ?_
    refine gf_Course_125 (pc := 32) C d_Course_takeTurn_32 ?_
    refine v_if_eq (pc := 35) (tgt := 43) C d_Course_takeTurn_35 (by decide) (fun h35 => ?_) (fun h35 => ?_)
    · exact v_return (pc := 43) C hr ⟨rfl, by unfold kTurn; rw [if_neg (fun q => q h35)]⟩ d_Course_takeTurn_43
    · refine v_aload_n (pc := 38) C d_Course_takeTurn_38 rfl rfl ?_
      refine v_iload_n (pc := 39) C d_Course_takeTurn_39 rfl rfl ?_
      refine cl_Course_173 (pc := 40) C (c_Course_tell l hJ (kSteps n 11 σ) n hn (gI.2.2.2.2.2.1 n hn).2.1 (gI.nlog (by decide) (by omega))) ⟨rfl, rfl, by decide, by decide⟩ rfl rfl (Nat.le_of_ble_eq_true rfl) d_Course_takeTurn_40 (fun r σ' hq => ?_)
      rw [hq.1, hq.2]
      exact v_return (pc := 43) C hr ⟨rfl, by unfold kTurn; rw [if_pos h35]⟩ d_Course_takeTurn_43
  have loop : ∀ k i, i + k = 11 → ∀ (τ : ty_St) (g : Int32) (B' : Nat), kInv tc wc B' τ → B' + k ≤ B + 11 → (g = 0 ∧ kSteps n 11 σ = τ ∨ ¬ g = 0 ∧ kSteps n 11 σ = kSteps n k τ) → ty_V cnC p l e (rmL 4) s m args below meth c D ad cA (ty_Gd cnC ad s) 4 (MQ below (ty_Q cnC D ad cA (fun r σ' => r = none ∧ σ' = kTurn σ n) (ty_A cnC ad)) args s 0 0 (ty_A cnC ad)) τ [some (.inr (1, 0)), some (.inl (nI n)), some (.inl g), some (.inl (nI i))] 4 [] := by
    intro k
    induction k with
    | zero =>
      intro i hi τ g B' hI' hB' hg
      have hτ : τ = kSteps n 11 σ := by rcases hg with ⟨_, e⟩ | ⟨_, e⟩ <;> exact e.symm
      refine v_iload_n (pc := 4) C d_Course_takeTurn_4 rfl rfl ?_
      refine v_bipush (pc := 5) (v := 10) C d_Course_takeTurn_5 (by decide) ?_
      refine v_icmp_gt (pc := 7) (tgt := 26) C d_Course_takeTurn_7 (by decide) (fun h7 => ?_) (fun h7 => ?_)
      · exact fin τ _ _ hτ
      · exact absurd (show (10 : Int32) < nI i from nI_lt (show 10 < i by omega) (by omega)) h7
    | succ k ih =>
      intro i hi τ g B' hI' hB' hg
      have hf := hI'.2.2.2.2.2.1 n hn
      obtain ⟨sc, hsc, _, hc⟩ := hI'.2.1
      refine v_iload_n (pc := 4) C d_Course_takeTurn_4 rfl rfl ?_
      refine v_bipush (pc := 5) (v := 10) C d_Course_takeTurn_5 (by decide) ?_
      refine v_icmp_gt (pc := 7) (tgt := 26) C d_Course_takeTurn_7 (by decide) (fun h7 => ?_) (fun h7 => ?_)
      · exact absurd h7 (nI_nlt (show i ≤ 10 by omega) (by decide))
      · refine v_iload_n (pc := 10) C d_Course_takeTurn_10 rfl rfl ?_
        refine v_if_eq (pc := 11) (tgt := 26) C d_Course_takeTurn_11 (by decide) (fun h11 => ?_) (fun h11 => ?_)
        · exact fin τ _ _ (by rcases hg with ⟨_, e⟩ | ⟨e, _⟩; exact e.symm; exact absurd h11 e)
        · refine v_aload_n (pc := 14) C d_Course_takeTurn_14 rfl rfl ?_
          refine v_iload_n (pc := 15) C d_Course_takeTurn_15 rfl rfl ?_
          refine cl_Course_170 (pc := 16) C (c_Course_action l hJ τ sc hsc hc n hn hf.2.2.2 hf.1 hf.2.1 (hI'.nlog (by decide) (by omega)) (by obtain ⟨z, hz, e⟩ := hf.2.2.1; exact ⟨z, by omega, e⟩) (hI'.2.2.1 _ (vp_lt hf.1))) ⟨rfl, rfl, by decide, by decide⟩ rfl rfl (Nat.le_of_ble_eq_true rfl) d_Course_takeTurn_16 (fun r σ' hq => ?_)
          rw [hq.1, hq.2]
          refine v_istore_n (pc := 19) C d_Course_takeTurn_19 rfl (by decide) ?_
          refine v_iinc (pc := 20) C d_Course_takeTurn_20 rfl (show _ + Int32.ofInt 1 = _ + 1 from rfl) (by decide) ?_
          refine v_goto (pc := 23) (tgt := 4) C d_Course_takeTurn_23 (by decide) ?_
          rw [nI_1 i]
          refine ih (i + 1) (by omega) _ _ (B' + 1) (hI'.action hn (by omega)) (by omega) ?_
          rcases hg with ⟨e, _⟩ | ⟨_, e⟩
          · exact absurd e h11
          · by_cases e0 : (kAction τ n).1 = 0
            · exact Or.inl ⟨e0, by rw [e, kSteps, if_pos e0]⟩
            · exact Or.inr ⟨e0, by rw [e, kSteps, if_neg e0]⟩
  refine v_iconst (pc := 0) (v := 1) C d_Course_takeTurn_0 (by decide) ?_
  refine v_istore_n (pc := 1) C d_Course_takeTurn_1 rfl (by decide) ?_
  refine v_iconst (pc := 2) (v := 0) C d_Course_takeTurn_2 (by decide) ?_
  refine v_istore_n (pc := 3) C d_Course_takeTurn_3 rfl (by decide) ?_
  exact loop 11 0 (by omega) σ 1 B hI (by omega) (Or.inr ⟨by decide, rfl⟩)
set_option maxRecDepth 100000 in
set_option maxHeartbeats 4000000 in
theorem c_Course_turns (l : Launch) {D : va_G} {ad : Nat → Nat → Nat} {cA : Nat → ClassId} (hJ : ty_J cnC ad) (σ : ty_St) (tc wc B : Nat) (hI : kInv tc wc B σ) (hB : B + 700 < 2000000000) (sc : Nat) (hsc : sc ≤ 52) (hc : σ 1 0 8 = nI sc) : ty_M l y_Course_takeTurns (Cond.code y_Course_takeTurns b_Course_takeTurns 3 none :: ty_w) (rmL 5) cnC D ad cA [.inr (1, 0)] σ (fun r σ' => r = none ∧ σ' = kTurns σ sc) := by
  refine ty_M.of rfl hJ layC (ty_oks.cons (show (0 : Nat) < cnC 1 by decide) ty_oks.nil) (Nat.le_of_ble_eq_true rfl) ?_
  intro p e s m args below meth c C hr hnm
  have loop : ∀ k i, i + k = sc → ∀ τ : ty_St, τ = kTurns σ i → ty_V cnC p l e (rmL 5) s m args below meth c D ad cA (ty_Gd cnC ad s) 3 (MQ below (ty_Q cnC D ad cA (fun r σ' => r = none ∧ σ' = kTurns σ sc) (ty_A cnC ad)) args s 0 0 (ty_A cnC ad)) τ [some (.inr (1, 0)), some (.inl (nI sc)), some (.inl (nI i))] 7 [] := by
    intro k
    induction k with
    | zero =>
      intro i hi τ hτ
      have hb := (rfl : nI sc = nI sc)
      refine v_iload_n (pc := 7) C d_Course_takeTurns_7 rfl rfl ?_
      refine v_iload_n (pc := 8) C d_Course_takeTurns_8 rfl rfl ?_
      refine v_icmp_ge (pc := 9) (tgt := 35) C d_Course_takeTurns_9 (by decide) (fun h9 => ?_) (fun h9 => ?_)
      · exact v_return (pc := 35) C hr ⟨rfl, by rw [hτ, show i = sc by omega]⟩ d_Course_takeTurns_35
      · exact absurd (by rw [hb]; exact nI_le (by omega) (by omega)) h9
    | succ k ih =>
      intro i hi τ hτ
      have hb := (rfl : nI sc = nI sc)
      refine v_iload_n (pc := 7) C d_Course_takeTurns_7 rfl rfl ?_
      refine v_iload_n (pc := 8) C d_Course_takeTurns_8 rfl rfl ?_
      refine v_icmp_ge (pc := 9) (tgt := 35) C d_Course_takeTurns_9 (by decide) (fun h9 => ?_) (fun h9 => ?_)
      · exact absurd h9 (by rw [hb]; exact nI_ge (by omega) (by omega))
      · refine v_aload_n (pc := 12) C d_Course_takeTurns_12 rfl rfl ?_
        refine gf_Course_25 (pc := 13) C d_Course_takeTurns_13 ?_
        refine v_iload_n (pc := 16) C d_Course_takeTurns_16 rfl rfl ?_
        refine v_aaloadK (pc := 17) C rfl rfl (by decide) (rfl) (by omega) (by decide) d_Course_takeTurns_17 ?_
        refine gf_Course_125 (pc := 18) C d_Course_takeTurns_18 ?_
        refine v_if_ne (pc := 21) (tgt := 29) C d_Course_takeTurns_21 (by decide) (fun h21 => ?_) (fun h21 => ?_)
        · refine v_iinc (pc := 29) C d_Course_takeTurns_29 rfl (show _ + Int32.ofInt 1 = _ + 1 from rfl) (by decide) ?_
          refine v_goto (pc := 32) (tgt := 7) C d_Course_takeTurns_32 (by decide) ?_
          rw [nI_1 i]
          refine ih (i + 1) (by omega) _ ?_
          unfold kTurns
          rw [← hτ]
          rw [if_neg h21]
        · refine v_aload_n (pc := 24) C d_Course_takeTurns_24 rfl rfl ?_
          refine v_iload_n (pc := 25) C d_Course_takeTurns_25 rfl rfl ?_
          refine cl_Course_167 (pc := 26) C (c_Course_turn l hJ τ tc wc (B + 12 * i) (by rw [hτ]; exact kInv.turns i (by omega) hI (by omega)) (by omega) i (by omega)) ⟨rfl, rfl, by decide, by decide⟩ rfl rfl (Nat.le_of_ble_eq_true rfl) d_Course_takeTurns_26 (fun r σ' hq => ?_)
          rw [hq.1, hq.2]
          refine v_iinc (pc := 29) C d_Course_takeTurns_29 rfl (show _ + Int32.ofInt 1 = _ + 1 from rfl) (by decide) ?_
          refine v_goto (pc := 32) (tgt := 7) C d_Course_takeTurns_32 (by decide) ?_
          rw [nI_1 i]
          refine ih (i + 1) (by omega) _ ?_
          unfold kTurns
          rw [← hτ]
          rw [if_pos h21]
  refine v_aload_n (pc := 0) C d_Course_takeTurns_0 rfl rfl ?_
  refine gf_Course_100 (pc := 1) C d_Course_takeTurns_1 ?_
  rw [hc]
  refine v_istore_n (pc := 4) C d_Course_takeTurns_4 rfl (by decide) ?_
  refine v_iconst (pc := 5) (v := 0) C d_Course_takeTurns_5 (by decide) ?_
  refine v_istore_n (pc := 6) C d_Course_takeTurns_6 rfl (by decide) ?_
  exact loop sc 0 (by omega) σ rfl
end
section
section KINV3
variable {tc wc B : Nat} {σ : ty_St}
theorem kInv.decide (h : kInv tc wc B σ) (t : Nat) (v x : Int32) : kInv tc wc B (kDecide σ t v x) := (h.up3 (by decide) (by decide) (by decide)).up3 (by decide) (by decide) (by decide)
theorem kInv.stop (h : kInv tc wc B σ) : ∀ n, kInv tc wc B (kStop σ n)
  | 0 => h
  | n + 1 => by
    show kInv tc wc B (kStop1 (kStop σ n) n)
    unfold kStop1
    split
    · exact ((kInv.stop h n).decide n 3 _).up4 (fun q => absurd q (by decide)) (fun q => absurd q (by decide)) (fun q => absurd q (by decide)) (fun _ => Or.inr rfl)
    · exact kInv.stop h n
theorem kInv.release (h : kInv tc wc B σ) : ∀ n, kInv tc wc B (kRelease σ n)
  | 0 => h
  | n + 1 => by
    show kInv tc wc B (kRelease1 (kRelease σ n) n)
    unfold kRelease1 kReleaseIf
    have g := kInv.release h n
    split
    · split
      · exact g.up10
      · split
        · exact (g.up3 (by decide) (by decide) (by decide)).up10
        · exact g
    · exact g
theorem kInv.begin (h : kInv tc wc B σ) {t w : Nat} (ht : t < 12) (hw : w < 4) (h6 : σ 3 t 6 = -1) : kInv tc wc B (kBegin σ t (nI w)) := by
  have hwc : nn (nI w) = w := nI_clamp (by omega)
  unfold kBegin
  dsimp only
  rw [hwc]
  obtain ⟨⟨h11, h12, tm, htm, htime⟩, ⟨sc, hsc, hsb, h8c⟩, h3, h4, h5, hs6, h7, h8⟩ := h
  have hnb := kNb_lt h6 12 ht
  have hne : ¬ σ 1 0 11 = -1 := by
    rw [htime]
    intro q
    have := congrArg Int32.toInt q
    rw [nI_toInt (by omega)] at this
    have h9 : ((-1 : Int32)).toInt = -1 := by decide
    rw [h9] at this
    omega
  generalize hτ : ty_up (ty_up (ty_up (ty_up σ 3 t 6 (σ 1 0 11)) 3 t 8 (nI w)) 3 t 11 (σ 1 0 8)) 10 0 w (nI t) = τ
  have e1 : τ 1 = σ 1 := by rw [← hτ]; rfl
  have e3 : ∀ u, ¬ u = t → τ 3 u = σ 3 u := fun u hu => by rw [← hτ, up_a (by decide), up_i hu, up_i hu, up_i hu]
  have e36 : τ 3 t 6 = σ 1 0 11 := by rw [← hτ, up_a (by decide), up_sj (by decide), up_sj (by decide), up_ss]
  have e30 : τ 3 t 0 = σ 3 t 0 := by rw [← hτ, up_a (by decide), up_sj (by decide), up_sj (by decide), up_sj (by decide)]
  have e311 : τ 3 t 11 = σ 1 0 8 := by rw [← hτ, up_a (by decide), up_ss]
  have enb := (kNb_up (σ := σ) (τ := τ) (t := t) (fun u hu => by rw [e3 u hu]) h6 (by rw [e36]; exact hne) 12).1 ht
  have g : kInv tc wc B τ := by
    refine ⟨by rw [e1]; exact ⟨h11, h12, tm, htm, htime⟩, ⟨sc, hsc, by omega, by rw [e1]; exact h8c⟩, by rw [← hτ]; exact h3, by rw [← hτ]; exact h4, fun u hu => ?_, by rw [← hτ]; exact hs6, fun v hv hq => ?_, by rw [← hτ]; exact h8⟩
    · by_cases e : u = t
      · subst e
        rw [e30, e311]
        exact ⟨(h5 u hu).1, fun _ => by rw [h8c]; exact vp_in_nI (by omega) (by decide)⟩
      · rw [e3 u e]; exact h5 u hu
    · by_cases e : v = w
      · subst e
        have e10 : τ 10 0 v = nI t := by rw [← hτ, up_ss]
        rw [e10, show nn (nI t) = t from nI_clamp (by omega)]
        exact ⟨vp_in_nI ht (by decide), by rw [e36]; exact hne⟩
      · have e10 : τ 10 0 v = σ 10 0 v := by rw [← hτ, up_sj e]; rfl
        rw [e10] at hq ⊢
        have := h7 v hv hq
        refine ⟨this.1, ?_⟩
        by_cases e2 : nn (σ 10 0 v) = t
        · rw [e2, e36]; exact hne
        · rw [e3 _ e2]; exact this.2
  refine g.startS (by rw [e30]; exact (h5 t ht).1) (vp_in_nI ht (by decide)) (fun s' hs' e' => ?_)
  rw [e1, h8c] at e'
  have := (nI_eq (by omega) (by omega)).mp e'
  omega
theorem kInv.begin1 (h : kInv tc wc B σ) (hwc : wc ≤ 4) {i : Nat} (hi : i < 12) : kInv tc wc B (kBegin1 σ i) := by
  unfold kBegin1
  split
  · rename_i q
    have hn : nn (σ 1 0 7) = wc := by rw [h.1.2.1]; exact nI_clamp (by omega)
    rw [hn] at q ⊢
    obtain ⟨w, _, hw, ew, _⟩ := (kLowest_in wc 0).resolve_left q.1
    rw [ew]
    exact h.begin hi (by omega) q.2.1
  · exact h
theorem kInv.begins (h : kInv tc wc B σ) (hwc : wc ≤ 4) : ∀ n, n ≤ 12 → kInv tc wc B (kBegins σ n)
  | 0, _ => h
  | n + 1, hn => (kInv.begins h hwc n (by omega)).begin1 hwc (by omega)
end KINV3
set_option maxRecDepth 100000 in
set_option maxHeartbeats 4000000 in
theorem c_Course_begins (l : Launch) {D : va_G} {ad : Nat → Nat → Nat} {cA : Nat → ClassId} (hJ : ty_J cnC ad) (σ : ty_St) (tc wc B : Nat) (hI : kInv tc wc B σ) (htc : tc ≤ 12) (hwc : wc ≤ 4) : ty_M l y_Course_beginTrials (Cond.code y_Course_beginTrials b_Course_beginTrials 3 none :: ty_w) (rmL 3) cnC D ad cA [.inr (1, 0)] σ (fun r σ' => r = none ∧ σ' = kBegins σ tc) := by
  refine ty_M.of rfl hJ layC (ty_oks.cons (show (0 : Nat) < cnC 1 by decide) ty_oks.nil) (Nat.le_of_ble_eq_true rfl) ?_
  intro p e s m args below meth c C hr hnm
  have loop : ∀ k i, i + k = tc → ∀ τ : ty_St, τ = kBegins σ i → ty_V cnC p l e (rmL 3) s m args below meth c D ad cA (ty_Gd cnC ad s) 3 (MQ below (ty_Q cnC D ad cA (fun r σ' => r = none ∧ σ' = kBegins σ tc) (ty_A cnC ad)) args s 0 0 (ty_A cnC ad)) τ [some (.inr (1, 0)), some (.inl (nI i)), none] 2 [] := by
    intro k
    induction k with
    | zero =>
      intro i hi τ hτ
      have hb := (show τ 1 0 6 = nI tc by rw [hτ]; exact (hI.begins hwc i (by omega)).1.1)
      refine v_iload_n (pc := 2) C d_Course_beginTrials_2 rfl rfl ?_
      refine v_aload_n (pc := 3) C d_Course_beginTrials_3 rfl rfl ?_
      refine gf_Course_48 (pc := 4) C d_Course_beginTrials_4 ?_
      refine v_icmp_ge (pc := 7) (tgt := 58) C d_Course_beginTrials_7 (by decide) (fun h7 => ?_) (fun h7 => ?_)
      · exact v_return (pc := 58) C hr ⟨rfl, by rw [hτ, show i = tc by omega]⟩ d_Course_beginTrials_58
      · exact absurd (by rw [hb]; exact nI_le (by omega) (by omega)) h7
    | succ k ih =>
      intro i hi τ hτ
      have hb := (show τ 1 0 6 = nI tc by rw [hτ]; exact (hI.begins hwc i (by omega)).1.1)
      have gI : kInv tc wc B τ := by rw [hτ]; exact hI.begins hwc i (by omega)
      have hn7 : nn (τ 1 0 7) = wc := by rw [gI.1.2.1]; exact nI_clamp (by omega)
      have hn6 : nn (τ 1 0 6) = tc := by rw [gI.1.1]; exact nI_clamp (by omega)
      have hs : ¬ τ 1 0 8 < 0 := by obtain ⟨sc, hsc, _, e⟩ := gI.2.1; rw [e]; exact nI_pos (by omega)
      refine v_iload_n (pc := 2) C d_Course_beginTrials_2 rfl rfl ?_
      refine v_aload_n (pc := 3) C d_Course_beginTrials_3 rfl rfl ?_
      refine gf_Course_48 (pc := 4) C d_Course_beginTrials_4 ?_
      refine v_icmp_ge (pc := 7) (tgt := 58) C d_Course_beginTrials_7 (by decide) (fun h7 => ?_) (fun h7 => ?_)
      · exact absurd h7 (by rw [hb]; exact nI_ge (by omega) (by omega))
      · refine v_aload_n (pc := 10) C d_Course_beginTrials_10 rfl rfl ?_
        refine cl_Course_134 (pc := 11) C (c_Course_lowest l hJ τ wc hwc gI.1.2.1) ⟨rfl, rfl, by decide, by decide⟩ rfl rfl (Nat.le_of_ble_eq_true rfl) d_Course_beginTrials_11 (fun r σ' hq => ?_)
        rw [hq.1, hq.2]
        refine v_istore_n (pc := 14) C d_Course_beginTrials_14 rfl (by decide) ?_
        refine v_iload_n (pc := 15) C d_Course_beginTrials_15 rfl rfl ?_
        refine v_iconst (pc := 16) (v := (-1)) C d_Course_beginTrials_16 (by decide) ?_
        refine v_icmp_eq (pc := 17) (tgt := 52) C d_Course_beginTrials_17 (by decide) (fun h17 => ?_) (fun h17 => ?_)
        · refine v_iinc (pc := 52) C d_Course_beginTrials_52 rfl (show _ + Int32.ofInt 1 = _ + 1 from rfl) (by decide) ?_
          refine v_goto (pc := 55) (tgt := 2) C d_Course_beginTrials_55 (by decide) ?_
          refine v_forget C 2 ?_
          rw [nI_1 i]
          refine ih (i + 1) (by omega) _ ?_
          show _ = kBegin1 (kBegins σ i) i
          rw [← hτ]
          unfold kBegin1
          rw [hn7, hn6]
          rw [if_neg (fun q => q.1 h17)]
        · refine v_aload_n (pc := 20) C d_Course_beginTrials_20 rfl rfl ?_
          refine gf_Course_19 (pc := 21) C d_Course_beginTrials_21 ?_
          refine v_iload_n (pc := 24) C d_Course_beginTrials_24 rfl rfl ?_
          refine v_aaloadK (pc := 25) C rfl rfl (by decide) (rfl) (by omega) (by decide) d_Course_beginTrials_25 ?_
          refine gf_Course_137 (pc := 26) C d_Course_beginTrials_26 ?_
          refine v_iconst (pc := 29) (v := (-1)) C d_Course_beginTrials_29 (by decide) ?_
          refine v_icmp_ne (pc := 30) (tgt := 52) C d_Course_beginTrials_30 (by decide) (fun h30 => ?_) (fun h30 => ?_)
          · refine v_iinc (pc := 52) C d_Course_beginTrials_52 rfl (show _ + Int32.ofInt 1 = _ + 1 from rfl) (by decide) ?_
            refine v_goto (pc := 55) (tgt := 2) C d_Course_beginTrials_55 (by decide) ?_
            refine v_forget C 2 ?_
            rw [nI_1 i]
            refine ih (i + 1) (by omega) _ ?_
            show _ = kBegin1 (kBegins σ i) i
            rw [← hτ]
            unfold kBegin1
            rw [hn7, hn6]
            rw [if_neg (fun q => h30 q.2.1)]
          · refine v_aload_n (pc := 33) C d_Course_beginTrials_33 rfl rfl ?_
            refine v_aload_n (pc := 34) C d_Course_beginTrials_34 rfl rfl ?_
            refine gf_Course_19 (pc := 35) C d_Course_beginTrials_35 ?_
            refine v_iload_n (pc := 38) C d_Course_beginTrials_38 rfl rfl ?_
            refine v_aaloadK (pc := 39) C rfl rfl (by decide) (rfl) (by omega) (by decide) d_Course_beginTrials_39 ?_
            refine cl_Course_140 (pc := 40) C (c_Course_can l hJ τ tc htc gI.1.1 i (by omega)) ⟨rfl, rfl, by decide, by decide⟩ rfl rfl (Nat.le_of_ble_eq_true rfl) d_Course_beginTrials_40 (fun r σ' hq => ?_)
            rw [hq.1, hq.2]
            refine v_if_eq (pc := 43) (tgt := 52) C d_Course_beginTrials_43 (by decide) (fun h43 => ?_) (fun h43 => ?_)
            · refine v_iinc (pc := 52) C d_Course_beginTrials_52 rfl (show _ + Int32.ofInt 1 = _ + 1 from rfl) (by decide) ?_
              refine v_goto (pc := 55) (tgt := 2) C d_Course_beginTrials_55 (by decide) ?_
              refine v_forget C 2 ?_
              rw [nI_1 i]
              refine ih (i + 1) (by omega) _ ?_
              show _ = kBegin1 (kBegins σ i) i
              rw [← hτ]
              unfold kBegin1
              rw [hn7, hn6]
              rw [if_neg (fun q => by rw [if_pos q.2.2] at h43; exact absurd h43 (by decide))]
            · obtain ⟨w, _, hw, ew, _⟩ := (kLowest_in wc 0).resolve_left h17
              rw [ew]
              refine v_aload_n (pc := 46) C d_Course_beginTrials_46 rfl rfl ?_
              refine v_iload_n (pc := 47) C d_Course_beginTrials_47 rfl rfl ?_
              refine v_iload_n (pc := 48) C d_Course_beginTrials_48 rfl rfl ?_
              refine cl_Course_144 (pc := 49) C (c_Course_begin l hJ τ hs i (by omega) w (by omega)) ⟨rfl, rfl, by decide, by decide⟩ rfl rfl (Nat.le_of_ble_eq_true rfl) d_Course_beginTrials_49 (fun r σ' hq => ?_)
              rw [hq.1, hq.2]
              refine v_iinc (pc := 52) C d_Course_beginTrials_52 rfl (show _ + Int32.ofInt 1 = _ + 1 from rfl) (by decide) ?_
              refine v_goto (pc := 55) (tgt := 2) C d_Course_beginTrials_55 (by decide) ?_
              refine v_forget C 2 ?_
              rw [nI_1 i]
              refine ih (i + 1) (by omega) _ ?_
              show _ = kBegin1 (kBegins σ i) i
              rw [← hτ]
              unfold kBegin1
              rw [hn7, hn6]
              rw [if_pos ⟨h17, h30, by by_cases e : kCan τ i tc = true; exact e; exact absurd (if_neg e) h43⟩, ew]
  refine v_iconst (pc := 0) (v := 0) C d_Course_beginTrials_0 (by decide) ?_
  refine v_istore_n (pc := 1) C d_Course_beginTrials_1 rfl (by decide) ?_
  exact loop tc 0 (by omega) σ rfl
theorem kUntried_a {σ : ty_St} {a : Nat} (h : ¬ a = 3) : ∀ n, (kUntried σ n) a = σ a
  | 0 => rfl
  | n + 1 => by
    unfold kUntried kDecide
    split
    · rw [up_a h, up_a h]; exact kUntried_a h n
    · exact kUntried_a h n
theorem kLeft_8 {σ : ty_St} : ∀ n, (kLeft σ n) 1 0 8 = σ 1 0 8
  | 0 => rfl
  | n + 1 => by
    unfold kLeft
    split
    · rw [up_sj (by decide)]; exact kLeft_8 n
    · exact kLeft_8 n
theorem kLeft_11 {σ : ty_St} : ∀ n, (kLeft σ n) 1 0 11 = σ 1 0 11
  | 0 => rfl
  | n + 1 => by
    unfold kLeft
    split
    · rw [up_sj (by decide)]; exact kLeft_11 n
    · exact kLeft_11 n
set_option maxRecDepth 100000 in
set_option maxHeartbeats 4000000 in
theorem c_Course_leave (l : Launch) {D : va_G} {ad : Nat → Nat → Nat} {cA : Nat → ClassId} (hJ : ty_J cnC ad) (σ : ty_St) (tc : Nat) (htc : tc ≤ 12) (hc : σ 1 0 6 = nI tc) (sc : Nat) (hsc : sc ≤ 52) (hs : σ 1 0 8 = nI sc) : ty_M l y_Course_leaveRest (Cond.code y_Course_leaveRest b_Course_leaveRest 2 none :: ty_w) (rmL 1) cnC D ad cA [.inr (1, 0)] σ (fun r σ' => r = none ∧ σ' = kLeave σ) := by
  refine ty_M.of rfl hJ layC (ty_oks.cons (show (0 : Nat) < cnC 1 by decide) ty_oks.nil) (Nat.le_of_ble_eq_true rfl) ?_
  intro p e s m args below meth c C hr hnm
  have hn6 : nn (σ 1 0 6) = tc := by rw [hc]; exact nI_clamp (by omega)
  have hn8 : nn (σ 1 0 8) = sc := by rw [hs]; exact nI_clamp (by omega)
  have loop2 : ∀ k i, i + k = sc → ∀ τ : ty_St, τ = kLeft (kUntried σ tc) i → ty_V cnC p l e (rmL 1) s m args below meth c D ad cA (ty_Gd cnC ad s) 2 (MQ below (ty_Q cnC D ad cA (fun r σ' => r = none ∧ σ' = kLeave σ) (ty_A cnC ad)) args s 0 0 (ty_A cnC ad)) τ [some (.inr (1, 0)), some (.inl (nI i))] 44 [] := by
    intro k
    induction k with
    | zero =>
      intro i hi τ hτ
      have hb := (show τ 1 0 8 = nI sc by rw [hτ, kLeft_8, kUntried_a (by decide)]; exact hs)
      refine v_iload_n (pc := 44) C d_Course_leaveRest_44 rfl rfl ?_
      refine v_aload_n (pc := 45) C d_Course_leaveRest_45 rfl rfl ?_
      refine gf_Course_100 (pc := 46) C d_Course_leaveRest_46 ?_
      refine v_icmp_ge (pc := 49) (tgt := 80) C d_Course_leaveRest_49 (by decide) (fun h49 => ?_) (fun h49 => ?_)
      · exact v_return (pc := 80) C hr ⟨rfl, by unfold kLeave; rw [hn6, hn8, hτ, show i = sc by omega]⟩ d_Course_leaveRest_80
      · exact absurd (by rw [hb]; exact nI_le (by omega) (by omega)) h49
    | succ k ih =>
      intro i hi τ hτ
      have hb := (show τ 1 0 8 = nI sc by rw [hτ, kLeft_8, kUntried_a (by decide)]; exact hs)
      refine v_iload_n (pc := 44) C d_Course_leaveRest_44 rfl rfl ?_
      refine v_aload_n (pc := 45) C d_Course_leaveRest_45 rfl rfl ?_
      refine gf_Course_100 (pc := 46) C d_Course_leaveRest_46 ?_
      refine v_icmp_ge (pc := 49) (tgt := 80) C d_Course_leaveRest_49 (by decide) (fun h49 => ?_) (fun h49 => ?_)
      · exact absurd h49 (by rw [hb]; exact nI_ge (by omega) (by omega))
      · refine v_aload_n (pc := 52) C d_Course_leaveRest_52 rfl rfl ?_
        refine gf_Course_25 (pc := 53) C d_Course_leaveRest_53 ?_
        refine v_iload_n (pc := 56) C d_Course_leaveRest_56 rfl rfl ?_
        refine v_aaloadK (pc := 57) C rfl rfl (by decide) (rfl) (by omega) (by decide) d_Course_leaveRest_57 ?_
        refine gf_Course_125 (pc := 58) C d_Course_leaveRest_58 ?_
        refine v_if_ne (pc := 61) (tgt := 74) C d_Course_leaveRest_61 (by decide) (fun h61 => ?_) (fun h61 => ?_)
        · refine v_iinc (pc := 74) C d_Course_leaveRest_74 rfl (show _ + Int32.ofInt 1 = _ + 1 from rfl) (by decide) ?_
          refine v_goto (pc := 77) (tgt := 44) C d_Course_leaveRest_77 (by decide) ?_
          rw [nI_1 i]
          refine ih (i + 1) (by omega) _ ?_
          unfold kLeft
          rw [← hτ]
          rw [if_neg h61]
        · refine v_aload_n (pc := 64) C d_Course_leaveRest_64 rfl rfl ?_
          refine v_dup (pc := 65) C d_Course_leaveRest_65 ?_
          refine gf_Course_103 (pc := 66) C d_Course_leaveRest_66 ?_
          refine v_iconst (pc := 69) (v := 1) C d_Course_leaveRest_69 (by decide) ?_
          refine v_iadd (pc := 70) C d_Course_leaveRest_70 ?_
          refine pf_Course_103 (pc := 71) C d_Course_leaveRest_71 ?_
          refine v_iinc (pc := 74) C d_Course_leaveRest_74 rfl (show _ + Int32.ofInt 1 = _ + 1 from rfl) (by decide) ?_
          refine v_goto (pc := 77) (tgt := 44) C d_Course_leaveRest_77 (by decide) ?_
          rw [nI_1 i]
          refine ih (i + 1) (by omega) _ ?_
          unfold kLeft
          rw [← hτ]
          rw [if_pos h61]
  have loop1 : ∀ k i, i + k = tc → ∀ τ : ty_St, τ = kUntried σ i → ty_V cnC p l e (rmL 1) s m args below meth c D ad cA (ty_Gd cnC ad s) 2 (MQ below (ty_Q cnC D ad cA (fun r σ' => r = none ∧ σ' = kLeave σ) (ty_A cnC ad)) args s 0 0 (ty_A cnC ad)) τ [some (.inr (1, 0)), some (.inl (nI i))] 2 [] := by
    intro k
    induction k with
    | zero =>
      intro i hi τ hτ
      have hb := (show τ 1 0 6 = nI tc by rw [hτ, kUntried_a (by decide)]; exact hc)
      refine v_iload_n (pc := 2) C d_Course_leaveRest_2 rfl rfl ?_
      refine v_aload_n (pc := 3) C d_Course_leaveRest_3 rfl rfl ?_
      refine gf_Course_48 (pc := 4) C d_Course_leaveRest_4 ?_
      refine v_icmp_ge (pc := 7) (tgt := 42) C d_Course_leaveRest_7 (by decide) (fun h7 => ?_) (fun h7 => ?_)
      · refine v_iconst (pc := 42) (v := 0) C d_Course_leaveRest_42 (by decide) ?_
        refine v_istore_n (pc := 43) C d_Course_leaveRest_43 rfl (by decide) ?_
        exact loop2 sc 0 (by omega) _ (by rw [hτ, show i = tc by omega]; rfl)
      · exact absurd (by rw [hb]; exact nI_le (by omega) (by omega)) h7
    | succ k ih =>
      intro i hi τ hτ
      have hb := (show τ 1 0 6 = nI tc by rw [hτ, kUntried_a (by decide)]; exact hc)
      refine v_iload_n (pc := 2) C d_Course_leaveRest_2 rfl rfl ?_
      refine v_aload_n (pc := 3) C d_Course_leaveRest_3 rfl rfl ?_
      refine gf_Course_48 (pc := 4) C d_Course_leaveRest_4 ?_
      refine v_icmp_ge (pc := 7) (tgt := 42) C d_Course_leaveRest_7 (by decide) (fun h7 => ?_) (fun h7 => ?_)
      · exact absurd h7 (by rw [hb]; exact nI_ge (by omega) (by omega))
      · refine v_aload_n (pc := 10) C d_Course_leaveRest_10 rfl rfl ?_
        refine gf_Course_19 (pc := 11) C d_Course_leaveRest_11 ?_
        refine v_iload_n (pc := 14) C d_Course_leaveRest_14 rfl rfl ?_
        refine v_aaloadK (pc := 15) C rfl rfl (by decide) (rfl) (by omega) (by decide) d_Course_leaveRest_15 ?_
        refine gf_Course_93 (pc := 16) C d_Course_leaveRest_16 ?_
        refine v_if_ne (pc := 19) (tgt := 36) C d_Course_leaveRest_19 (by decide) (fun h19 => ?_) (fun h19 => ?_)
        · refine v_iinc (pc := 36) C d_Course_leaveRest_36 rfl (show _ + Int32.ofInt 1 = _ + 1 from rfl) (by decide) ?_
          refine v_goto (pc := 39) (tgt := 2) C d_Course_leaveRest_39 (by decide) ?_
          rw [nI_1 i]
          refine ih (i + 1) (by omega) _ ?_
          unfold kUntried
          rw [← hτ]
          rw [if_neg h19]
        · refine v_aload_n (pc := 22) C d_Course_leaveRest_22 rfl rfl ?_
          refine gf_Course_19 (pc := 23) C d_Course_leaveRest_23 ?_
          refine v_iload_n (pc := 26) C d_Course_leaveRest_26 rfl rfl ?_
          refine v_aaloadK (pc := 27) C rfl rfl (by decide) (rfl) (by omega) (by decide) d_Course_leaveRest_27 ?_
          refine v_iconst (pc := 28) (v := 4) C d_Course_leaveRest_28 (by decide) ?_
          refine v_aload_n (pc := 29) C d_Course_leaveRest_29 rfl rfl ?_
          refine gf_Course_87 (pc := 30) C d_Course_leaveRest_30 ?_
          refine cl_Course_110 (pc := 33) C (c_Trial_decide l hJ τ i (by omega) _ _) ⟨rfl, rfl, by decide, by decide⟩ rfl rfl (Nat.le_of_ble_eq_true rfl) d_Course_leaveRest_33 (fun r σ' hq => ?_)
          rw [hq.1, hq.2]
          refine v_iinc (pc := 36) C d_Course_leaveRest_36 rfl (show _ + Int32.ofInt 1 = _ + 1 from rfl) (by decide) ?_
          refine v_goto (pc := 39) (tgt := 2) C d_Course_leaveRest_39 (by decide) ?_
          rw [nI_1 i]
          refine ih (i + 1) (by omega) _ ?_
          unfold kUntried
          rw [← hτ]
          rw [if_pos h19, show σ 1 0 11 = τ 1 0 11 by rw [hτ, kUntried_a (by decide)]]
  refine v_iconst (pc := 0) (v := 0) C d_Course_leaveRest_0 (by decide) ?_
  refine v_istore_n (pc := 1) C d_Course_leaveRest_1 rfl (by decide) ?_
  exact loop1 tc 0 (by omega) σ rfl
end
section
section KT
variable {σ : ty_St}
theorem kStartS_1 {q t st : Int32} {j : Nat} (h : ¬ j = 8) : (kStartS σ q t st) 1 0 j = σ 1 0 j := by
  unfold kStartS
  split
  · dsimp only
    rw [up_a (by decide), up_sj h]
    rfl
  · rfl
theorem kLog_a {i : Nat} {x : Int32} {a : Nat} (h5 : ¬ a = 5) (h9 : ¬ a = 9) : (kLog σ i x) a = σ a := by
  unfold kLog
  rw [up_a h5]
  split
  · rw [up_a h9]
  · rfl
theorem kInterrupt_a {n a : Nat} (h : ¬ a = 4) : (kInterrupt σ n).2 a = σ a := by
  unfold kInterrupt
  try dsimp only
  split
  · show (kEnd _ n 100) a = σ a
    unfold kEnd
    rw [up_a h, up_a h, up_a h]
  · show (ty_up _ 4 n 3 _) a = σ a
    rw [up_a h, up_a h]
theorem kWait0_a {n a : Nat} {x : Int32} (h : ¬ a = 4) : (kWait0 σ n x) a = σ a := by
  unfold kWait0
  split
  · rw [up_a h, up_a h]
  · rfl
theorem kWait1_a {n a : Nat} {op : Int32} (h : ¬ a = 4) : (kWait1 σ n op).2 a = σ a := by
  unfold kWait1
  split
  · show (kAt _ n) a = σ a
    unfold kAt
    rw [up_a h, up_a h]
  · rfl
theorem kTake_a {n a : Nat} (h : ¬ a = 4) : (kTake σ n) a = σ a := by unfold kTake; rw [up_a h]
theorem kEnd_a {n a : Nat} {x : Int32} (h : ¬ a = 4) : (kEnd σ n x) a = σ a := by unfold kEnd; rw [up_a h, up_a h]
theorem kWait_a {n a : Nat} {op x : Int32} (h : ¬ a = 4) : (kWait σ n op x).2 a = σ a := by
  unfold kWait
  split
  · rw [kWait1_a h, kWait0_a h]
  · split
    · rw [kInterrupt_a h, kTake_a h, kWait0_a h]
    · rw [kWait1_a h, kTake_a h, kWait0_a h]
theorem kAtOnce_1 {n j : Nat} {op a : Int32} (h : ¬ j = 8) : (kAtOnce σ n op a) 1 0 j = σ 1 0 j := by
  unfold kAtOnce
  split
  · split
    · exact kStartS_1 h
    · rfl
  · split
    · rw [kLog_a (by decide) (by decide)]
    · split
      · rw [kLog_a (by decide) (by decide), kTake_a (by decide)]
      · split
        · rfl
        · split
          · rw [kMark_a (by decide)]
          · rfl
theorem kAction_1 {n j : Nat} (h : ¬ j = 8) : (kAction σ n).2 1 0 j = σ 1 0 j := by
  unfold kAction
  try dsimp only
  split
  · rfl
  · split
    · rw [kWait_a (by decide)]
    · split
      · rfl
      · split
        · rfl
        · show (kAt _ n) 1 0 j = _
          unfold kAt
          rw [up_a (by decide)]
          exact kAtOnce_1 h
theorem kSteps_1 {n j : Nat} (h : ¬ j = 8) : ∀ (k : Nat) (σ : ty_St), (kSteps n k σ) 1 0 j = σ 1 0 j
  | 0, _ => rfl
  | k + 1, σ => by
    unfold kSteps
    split
    · exact kAction_1 h
    · rw [kSteps_1 h k]; exact kAction_1 h
theorem kTell_1 {n : Nat} : (kTell σ n) 1 = σ 1 := by
  unfold kTell
  try dsimp only
  split
  · split
    · rw [kLog_a (by decide) (by decide)]
    · rfl
  · split
    · rfl
    · split
      · rfl
      · rfl
theorem kTurn_1 {n j : Nat} (h : ¬ j = 8) : (kTurn σ n) 1 0 j = σ 1 0 j := by
  unfold kTurn
  split
  · rw [kTell_1]; exact kSteps_1 h _ _
  · exact kSteps_1 h _ _
theorem kTurns_1 {j : Nat} (h : ¬ j = 8) : ∀ k, (kTurns σ k) 1 0 j = σ 1 0 j
  | 0 => rfl
  | k + 1 => by
    unfold kTurns
    split
    · rw [kTurn_1 h]; exact kTurns_1 h k
    · exact kTurns_1 h k
theorem kBegin_1 {t j : Nat} {w : Int32} (h : ¬ j = 8) : (kBegin σ t w) 1 0 j = σ 1 0 j := by
  unfold kBegin
  try dsimp only
  rw [kStartS_1 h]
  rfl
theorem kBegins_1 {j : Nat} (h : ¬ j = 8) : ∀ k, (kBegins σ k) 1 0 j = σ 1 0 j
  | 0 => rfl
  | k + 1 => by
    show (kBegin1 (kBegins σ k) k) 1 0 j = _
    unfold kBegin1
    split
    · rw [kBegin_1 h]; exact kBegins_1 h k
    · exact kBegins_1 h k
variable {tc wc B : Nat}
/-- what a tick's first half is, by the numbers of trials and workers -/
theorem kTick0_eq (h : kInv tc wc B σ) (htc : tc ≤ 12) (hwc : wc ≤ 4) : kTick0 σ = ty_up (kBegins (kRelease (kStop σ tc) wc) tc) 1 0 10 (if (kBegins (kRelease (kStop σ tc) wc) tc) 1 0 10 < kCount (kBegins (kRelease (kStop σ tc) wc) tc) tc then kCount (kBegins (kRelease (kStop σ tc) wc) tc) tc else (kBegins (kRelease (kStop σ tc) wc) tc) 1 0 10) := by
  have g1 := h.stop tc
  have g2 := g1.release wc
  have g3 := g2.begins hwc tc htc
  have e1 : nn (σ 1 0 6) = tc := by rw [h.1.1]; exact nI_clamp (by omega)
  have e2 : nn ((kStop σ tc) 1 0 7) = wc := by rw [g1.1.2.1]; exact nI_clamp (by omega)
  have e3 : nn ((kRelease (kStop σ tc) wc) 1 0 6) = tc := by rw [g2.1.1]; exact nI_clamp (by omega)
  have e4 : nn ((kBegins (kRelease (kStop σ tc) wc) tc) 1 0 6) = tc := by rw [g3.1.1]; exact nI_clamp (by omega)
  unfold kTick0
  try dsimp only
  rw [e1, e2, e3, e4]
theorem kInv.tick0 (h : kInv tc wc B σ) (htc : tc ≤ 12) (hwc : wc ≤ 4) : kInv tc wc B (kTick0 σ) := by
  rw [kTick0_eq h htc hwc]
  exact (((h.stop tc).release wc).begins hwc tc htc).up1 (by decide) (by decide) (by decide) (by decide)
theorem kTick0_11 : (kTick0 σ) 1 0 11 = σ 1 0 11 := by
  unfold kTick0
  try dsimp only
  rw [up_sj (by decide), kBegins_1 (by decide), kRelease_a (by decide) (by decide), kStop_a (by decide) (by decide)]
theorem kTick1_11 : (kTick1 σ) 1 0 11 = σ 1 0 11 + 1 := by
  unfold kTick1
  try dsimp only
  rw [up_ss, kTurns_1 (by decide)]
theorem kInv.tick1 (h : kInv tc wc B σ) (hB : B + 700 < 2000000000) {i : Nat} (hi : i < 150) (ht : σ 1 0 11 = nI i) : kInv tc wc (B + 624) (kTick1 σ) := by
  obtain ⟨sc, hsc, _, e⟩ := id h.2.1
  have en : nn (σ 1 0 8) = sc := by rw [e]; exact nI_clamp (by omega)
  have g := (kInv.turns sc hsc h (by omega)).mono (show B + 12 * sc ≤ B + 624 by omega)
  unfold kTick1
  try dsimp only
  rw [en]
  have et : (kTurns σ sc) 1 0 11 = nI i := (kTurns_1 (by decide) sc).trans ht
  obtain ⟨h1, h2, h3, h4, h5, h6, h7, h8⟩ := g
  refine ⟨?_, ?_, h3, h4, h5, h6, h7, h8⟩
  · rw [up_sj (by decide), up_sj (by decide), up_ss]
    exact ⟨h1.1, h1.2.1, i + 1, by omega, by rw [et, nI_1]⟩
  · rw [up_sj (by decide)]; exact h2
/-- the class between two calls -/
def kInv0 (σ : ty_St) : Prop :=
  (∀ q, q < 10 → ∃ k, k ≤ 10 ∧ σ 2 q 3 = nI k) ∧
  (∀ q j, q < 10 → j < 10 → (σ 6 q j = 5 → vp_in (σ 7 q j) 10) ∧ ∃ k, k ≤ 20 ∧ σ 8 q j = nI k) ∧
  (∀ t, t < 12 → vp_in (σ 3 t 0) 10 ∧ (¬ σ 3 t 6 = -1 → vp_in (σ 3 t 11) 52)) ∧
  (∀ n, n < 52 → vp_in (σ 4 n 0) 10 ∧ vp_in (σ 4 n 1) 12 ∧ (∃ z, z ≤ 20 ∧ σ 4 n 3 = nI z) ∧ (σ 4 n 6 = 0 ∨ σ 4 n 6 = 1))
theorem kForgets_3 {t j : Nat} : ∀ n, (kForgets σ n) 3 t j = if t < n then (kForgetT σ t) 3 t j else σ 3 t j
  | 0 => by rw [if_neg (by omega)]; rfl
  | n + 1 => by
    show (kForgetT (kForgets σ n) n) 3 t j = _
    by_cases e : t = n
    · subst e
      rw [if_pos (by omega)]
      have : ∀ τ : ty_St, τ 3 t j = σ 3 t j → (kForgetT τ t) 3 t j = (kForgetT σ t) 3 t j := by
        intro τ hτ
        unfold kForgetT
        simp only [ty_up, upd, and_self, if_true]
        repeat' split
        all_goals first | rfl | exact hτ
      exact this _ (by rw [kForgets_3 t, if_neg (by omega)])
    · have : (kForgetT (kForgets σ n) n) 3 t = (kForgets σ n) 3 t := by
        unfold kForgetT
        simp only [up_i e]
      rw [this, kForgets_3 n]
      by_cases q : t < n
      · rw [if_pos q, if_pos (by omega)]
      · rw [if_neg q, if_neg (by omega)]
theorem kFreeW_10 {w : Nat} : ∀ n, w < n → (kFreeW σ n) 10 0 w = -1
  | 0, h => absurd h (by omega)
  | n + 1, h => by
    show (ty_up (kFreeW σ n) 10 0 n (-1)) 10 0 w = -1
    by_cases e : w = n
    · rw [e, up_ss]
    · rw [up_sj e]; exact kFreeW_10 n (by omega)
theorem kInv.forget (h : kInv0 σ) (htc : tc ≤ 12) (h6 : σ 1 0 6 = nI tc) (h7 : σ 1 0 7 = nI wc) : kInv tc wc 0 (kForgetRun σ) := by
  have hn : nn (σ 1 0 6) = tc := by rw [h6]; exact nI_clamp (by omega)
  obtain ⟨a3, a4, a5, a6⟩ := h
  unfold kForgetRun
  rw [hn]
  generalize hτ : kFreeW (kForgets σ tc) 4 = τ
  have ea : ∀ a, ¬ a = 3 → ¬ a = 10 → τ a = σ a := fun a q3 q10 => by rw [← hτ, kFreeW_a q10, kForgets_a q3]
  have e3 : ∀ t j, τ 3 t j = if t < tc then (kForgetT σ t) 3 t j else σ 3 t j := fun t j => by rw [← hτ, kFreeW_a (by decide), kForgets_3]
  have e10 : ∀ w, w < 4 → τ 10 0 w = -1 := fun w hw => by rw [← hτ]; exact kFreeW_10 4 hw
  refine ⟨⟨?_, ?_, 0, by omega, ?_⟩, ⟨0, by omega, by omega, ?_⟩, ?_, ?_, ?_, ?_, ?_, ?_⟩
  · rw [up_sj (by decide), up_sj (by decide), up_sj (by decide), up_sj (by decide), up_a (by decide), up_a (by decide), ea 1 (by decide) (by decide)]; exact h6
  · rw [up_sj (by decide), up_sj (by decide), up_sj (by decide), up_sj (by decide), up_a (by decide), up_a (by decide), ea 1 (by decide) (by decide)]; exact h7
  · rw [up_ss]; rfl
  · rw [up_sj (by decide), up_sj (by decide), up_sj (by decide), up_ss]; rfl
  · intro q hq
    show ∃ k, k ≤ 10 ∧ τ 2 q 3 = nI k
    rw [ea 2 (by decide) (by decide)]; exact a3 q hq
  · intro q j hq hj
    show (τ 6 q j = 5 → vp_in (τ 7 q j) 10) ∧ ∃ k, k ≤ 20 ∧ τ 8 q j = nI k
    rw [ea 6 (by decide) (by decide), ea 7 (by decide) (by decide), ea 8 (by decide) (by decide)]; exact a4 q j hq hj
  · intro t ht
    show vp_in (τ 3 t 0) 10 ∧ (¬ τ 3 t 6 = -1 → vp_in (τ 3 t 11) 52)
    rw [e3, e3, e3]
    by_cases q : t < tc
    · rw [if_pos q, if_pos q, if_pos q]
      have f0 : (kForgetT σ t) 3 t 0 = σ 3 t 0 := by simp [kForgetT, ty_up, upd]
      have f6 : (kForgetT σ t) 3 t 6 = -1 := by simp [kForgetT, ty_up, upd]
      rw [f0, f6]
      exact ⟨(a5 t ht).1, fun z => absurd rfl z⟩
    · rw [if_neg q, if_neg q, if_neg q]; exact a5 t ht
  · intro n hn'
    show vp_in (τ 4 n 0) 10 ∧ vp_in (τ 4 n 1) 12 ∧ (∃ z, z ≤ 20 ∧ τ 4 n 3 = nI z) ∧ (τ 4 n 6 = 0 ∨ τ 4 n 6 = 1)
    rw [ea 4 (by decide) (by decide)]; exact a6 n hn'
  · intro w hw hq
    exact absurd (e10 w hw) hq
  · intro i hi
    refine ⟨0, by omega, ?_⟩
    rcases (show i = 0 ∨ i = 1 by omega) with rfl | rfl
    · rw [up_a (by decide), up_a (by decide), up_a (by decide), up_a (by decide), up_i (by decide), up_ss]; rfl
    · rw [up_a (by decide), up_a (by decide), up_a (by decide), up_a (by decide), up_ss]; rfl
end KT
set_option maxRecDepth 100000 in
set_option maxHeartbeats 4000000 in
theorem c_Course_perform (l : Launch) {D : va_G} {ad : Nat → Nat → Nat} {cA : Nat → ClassId} (hJ : ty_J cnC ad) (σ : ty_St) (hI : kInv0 σ) (tc : Nat) (htc : tc ≤ 12) (wc : Nat) (hwc : wc ≤ 4) : ty_M l y_Course_perform (Cond.code y_Course_perform b_Course_perform 4 (some .int) :: ty_w) (rmL 6) cnC D ad cA [.inr (1, 0), .inl (nI tc), .inl (nI wc)] σ (fun r σ' => r = some (.inl ((kPerform σ (nI tc) (nI wc)) 1 0 11)) ∧ σ' = kPerform σ (nI tc) (nI wc)) := by
  refine ty_M.of rfl hJ layC (ty_oks.cons (show (0 : Nat) < cnC 1 by decide) (ty_oks.cons trivial (ty_oks.cons trivial ty_oks.nil))) (Nat.le_of_ble_eq_true rfl) ?_
  intro p e s m args below meth c C hr hnm
  have g0 : kInv tc wc 0 (kForgetRun (ty_up (ty_up σ 1 0 6 (nI tc)) 1 0 7 (nI wc))) := kInv.forget hI htc (by rw [up_sj (by decide), up_ss]) (by rw [up_ss])
  have fin : ∀ (τ : ty_St) (B' : Nat) (x : Int32), kInv tc wc B' τ → τ = kTicks 150 (kForgetRun (ty_up (ty_up σ 1 0 6 (nI tc)) 1 0 7 (nI wc))) → ty_V cnC p l e (rmL 6) s m args below meth c D ad cA (ty_Gd cnC ad s) 4 (MQ below (ty_Q cnC D ad cA (fun r σ' => r = some (.inl ((kPerform σ (nI tc) (nI wc)) 1 0 11)) ∧ σ' = kPerform σ (nI tc) (nI wc)) (ty_A cnC ad)) args s 0 0 (ty_A cnC ad)) τ [some (.inr (1, 0)), some (.inl (nI tc)), some (.inl (nI wc)), some (.inl x)] 80 [] := by
    intro τ B' x hI' hτ
    obtain ⟨sc, hsc, _, e8⟩ := id hI'.2.1
    refine v_aload_n (pc := 80) C d_Course_perform_80 rfl rfl ?_
    refine cl_Course_90 (pc := 81) C (c_Course_leave l hJ τ tc htc hI'.1.1 sc hsc e8) ⟨rfl, rfl, by decide, by decide⟩ rfl rfl (Nat.le_of_ble_eq_true rfl) d_Course_perform_81 (fun r σ' hq => ?_)
    rw [hq.1, hq.2]
    refine v_aload_n (pc := 84) C d_Course_perform_84 rfl rfl ?_
    refine gf_Course_87 (pc := 85) C d_Course_perform_85 ?_
    exact v_ireturn (pc := 88) C hr ⟨by unfold kPerform; rw [← hτ], by unfold kPerform; rw [← hτ]⟩ d_Course_perform_88
  have loop : ∀ k i, i + k = 150 → ∀ τ : ty_St, kInv tc wc (624 * i) τ → τ 1 0 11 = nI i → kTicks 150 (kForgetRun (ty_up (ty_up σ 1 0 6 (nI tc)) 1 0 7 (nI wc))) = kTicks k τ → ty_V cnC p l e (rmL 6) s m args below meth c D ad cA (ty_Gd cnC ad s) 4 (MQ below (ty_Q cnC D ad cA (fun r σ' => r = some (.inl ((kPerform σ (nI tc) (nI wc)) 1 0 11)) ∧ σ' = kPerform σ (nI tc) (nI wc)) (ty_A cnC ad)) args s 0 0 (ty_A cnC ad)) τ [some (.inr (1, 0)), some (.inl (nI tc)), some (.inl (nI wc)), some (.inl (nI i))] 16 [] := by
    intro k
    induction k with
    | zero =>
      intro i hi τ hI' ht hk
      refine v_iload_n (pc := 16) C d_Course_perform_16 rfl rfl ?_
      refine v_sipush (pc := 17) (v := 150) C d_Course_perform_17 (by decide) ?_
      refine v_icmp_ge (pc := 20) (tgt := 80) C d_Course_perform_20 (by decide) (fun h20 => ?_) (fun h20 => ?_)
      · exact fin τ _ _ hI' hk.symm
      · exact absurd (show (150 : Int32) ≤ nI i from nI_le (show 150 ≤ i by omega) (by omega)) h20
    | succ k ih =>
      intro i hi τ hI' ht hk
      have g1 := hI'.stop tc
      have g2 := g1.release wc
      have g3 := g2.begins hwc tc htc
      have g4 := hI'.tick0 htc hwc
      have e4 := kTick0_eq hI' htc hwc
      have hk1 : kTicks (k + 1) τ = if kFinished (kTick0 τ) = true then kTick0 τ else kTicks k (kTick1 (kTick0 τ)) := rfl
      have n6 : nn ((kTick0 τ) 1 0 6) = tc := by rw [g4.1.1]; exact nI_clamp (by omega)
      have n7 : nn ((kTick0 τ) 1 0 7) = wc := by rw [g4.1.2.1]; exact nI_clamp (by omega)
      obtain ⟨sc, hsc, _, e8⟩ := id g4.2.1
      have n8 : nn ((kTick0 τ) 1 0 8) = sc := by rw [e8]; exact nI_clamp (by omega)
      refine v_iload_n (pc := 16) C d_Course_perform_16 rfl rfl ?_
      refine v_sipush (pc := 17) (v := 150) C d_Course_perform_17 (by decide) ?_
      refine v_icmp_ge (pc := 20) (tgt := 80) C d_Course_perform_20 (by decide) (fun h20 => ?_) (fun h20 => ?_)
      · exact absurd h20 (nI_ge (show i < 150 by omega) (by decide))
      · refine v_aload_n (pc := 23) C d_Course_perform_23 rfl rfl ?_
        refine cl_Course_58 (pc := 24) C (c_Course_stop l hJ τ tc htc hI'.1.1 (fun t ht => (hI'.2.2.2.2.1 t ht).2)) ⟨rfl, rfl, by decide, by decide⟩ rfl rfl (Nat.le_of_ble_eq_true rfl) d_Course_perform_24 (fun r σ' hq => ?_)
        rw [hq.1, hq.2]
        refine v_aload_n (pc := 27) C d_Course_perform_27 rfl rfl ?_
        refine cl_Course_61 (pc := 28) C (c_Course_release l hJ (kStop τ tc) wc hwc g1.1.2.1 (fun w hw q => ⟨(g1.2.2.2.2.2.2.1 w hw q).1, (g1.2.2.2.2.1 _ (vp_lt (g1.2.2.2.2.2.2.1 w hw q).1)).2 (g1.2.2.2.2.2.2.1 w hw q).2⟩)) ⟨rfl, rfl, by decide, by decide⟩ rfl rfl (Nat.le_of_ble_eq_true rfl) d_Course_perform_28 (fun r σ' hq => ?_)
        rw [hq.1, hq.2]
        refine v_aload_n (pc := 31) C d_Course_perform_31 rfl rfl ?_
        refine cl_Course_64 (pc := 32) C (c_Course_begins l hJ (kRelease (kStop τ tc) wc) tc wc _ g2 htc hwc) ⟨rfl, rfl, by decide, by decide⟩ rfl rfl (Nat.le_of_ble_eq_true rfl) d_Course_perform_32 (fun r σ' hq => ?_)
        rw [hq.1, hq.2]
        refine v_aload_n (pc := 35) C d_Course_perform_35 rfl rfl ?_
        refine v_aload_n (pc := 36) C d_Course_perform_36 rfl rfl ?_
        refine gf_Course_67 (pc := 37) C d_Course_perform_37 ?_
        refine v_aload_n (pc := 40) C d_Course_perform_40 rfl rfl ?_
        refine cl_Course_70 (pc := 41) C (c_Course_count l hJ _ tc htc g3.1.1) ⟨rfl, rfl, by decide, by decide⟩ rfl rfl (Nat.le_of_ble_eq_true rfl) d_Course_perform_41 (fun r σ' hq => ?_)
        rw [hq.1, hq.2]
        refine cl_Course_74 (pc := 44) C (by decide) (by decide) d_Course_perform_44 ?_
        skip
        refine pf_Course_67 (pc := 47) C d_Course_perform_47 ?_
        rw [← e4]
        refine v_aload_n (pc := 50) C d_Course_perform_50 rfl rfl ?_
        refine cl_Course_80 (pc := 51) C (c_Course_finished l hJ (kTick0 τ) tc htc g4.1.1 wc hwc g4.1.2.1) ⟨rfl, rfl, by decide, by decide⟩ rfl rfl (Nat.le_of_ble_eq_true rfl) d_Course_perform_51 (fun r σ' hq => ?_)
        rw [hq.1, hq.2]
        refine v_if_eq (pc := 54) (tgt := 60) C d_Course_perform_54 (by decide) (fun h54 => ?_) (fun h54 => ?_)
        · refine v_aload_n (pc := 60) C d_Course_perform_60 rfl rfl ?_
          refine cl_Course_84 (pc := 61) C (c_Course_turns l hJ (kTick0 τ) tc wc _ g4 (by omega) sc hsc e8) ⟨rfl, rfl, by decide, by decide⟩ rfl rfl (Nat.le_of_ble_eq_true rfl) d_Course_perform_61 (fun r σ' hq => ?_)
          rw [hq.1, hq.2]
          refine v_aload_n (pc := 64) C d_Course_perform_64 rfl rfl ?_
          refine v_dup (pc := 65) C d_Course_perform_65 ?_
          refine gf_Course_87 (pc := 66) C d_Course_perform_66 ?_
          refine v_iconst (pc := 69) (v := 1) C d_Course_perform_69 (by decide) ?_
          refine v_iadd (pc := 70) C d_Course_perform_70 ?_
          refine pf_Course_87 (pc := 71) C d_Course_perform_71 ?_
          refine v_iinc (pc := 74) C d_Course_perform_74 rfl (show _ + Int32.ofInt 1 = _ + 1 from rfl) (by decide) ?_
          refine v_goto (pc := 77) (tgt := 16) C d_Course_perform_77 (by decide) ?_
          rw [nI_1 i]
          have et : (kTick0 τ) 1 0 11 = nI i := kTick0_11.trans ht
          have e1 : ty_up (kTurns (kTick0 τ) sc) 1 0 11 ((kTurns (kTick0 τ) sc) 1 0 11 + 1) = kTick1 (kTick0 τ) := by unfold kTick1; rw [n8]
          rw [e1]
          refine ih (i + 1) (by omega) _ ((g4.tick1 (by omega) (by omega) et).mono (by omega)) (by rw [kTick1_11, et, nI_1]) ?_
          rw [hk, hk1, if_neg (fun q => ?_)]
          unfold kFinished at q
          rw [n6, n7, Bool.and_eq_true] at q
          rw [if_pos q] at h54
          exact absurd h54 (by decide)
        · refine v_goto (pc := 57) (tgt := 80) C d_Course_perform_57 (by decide) ?_
          exact fin _ _ _ g4 (by rw [hk, hk1, if_pos (by unfold kFinished; rw [n6, n7]; by_cases e : kDone (kTick0 τ) tc = true ∧ kIdle (kTick0 τ) wc = true; simp [e]; exact absurd (if_neg e) h54)])
  refine v_aload_n (pc := 0) C d_Course_perform_0 rfl rfl ?_
  refine v_iload_n (pc := 1) C d_Course_perform_1 rfl rfl ?_
  refine pf_Course_48 (pc := 2) C d_Course_perform_2 ?_
  refine v_aload_n (pc := 5) C d_Course_perform_5 rfl rfl ?_
  refine v_iload_n (pc := 6) C d_Course_perform_6 rfl rfl ?_
  refine pf_Course_52 (pc := 7) C d_Course_perform_7 ?_
  refine v_aload_n (pc := 10) C d_Course_perform_10 rfl rfl ?_
  refine cl_Course_55 (pc := 11) C (c_Course_forgetRun l hJ _ tc htc (by rw [up_sj (by decide), up_ss])) ⟨rfl, rfl, by decide, by decide⟩ rfl rfl (Nat.le_of_ble_eq_true rfl) d_Course_perform_11 (fun r σ' hq => ?_)
  rw [hq.1, hq.2]
  refine v_iconst (pc := 14) (v := 0) C d_Course_perform_14 (by decide) ?_
  refine v_istore_n (pc := 15) C d_Course_perform_15 rfl (by decide) ?_
  exact loop 150 0 (by omega) _ g0 (by unfold kForgetRun; rw [up_ss]; rfl) rfl
end
section
theorem d_Model_init_0 : decode b_Model_init 0 = .ok (.aload_n 0, 1) := by decide +kernel
theorem d_Model_init_1 : decode b_Model_init 1 = .ok (.invokespecial 1, 3) := by decide +kernel
theorem d_Model_init_4 : decode b_Model_init 4 = .ok (.aload_n 0, 1) := by decide +kernel
theorem d_Model_init_5 : decode b_Model_init 5 = .ok (.iconst 1, 1) := by decide +kernel
theorem d_Model_init_6 : decode b_Model_init 6 = .ok (.putfield 7, 3) := by decide +kernel
theorem d_Model_init_9 : decode b_Model_init 9 = .ok (.aload_n 0, 1) := by decide +kernel
theorem d_Model_init_10 : decode b_Model_init 10 = .ok (.bipush 100, 2) := by decide +kernel
theorem d_Model_init_12 : decode b_Model_init 12 = .ok (.newarray .int, 2) := by decide +kernel
theorem d_Model_init_14 : decode b_Model_init 14 = .ok (.putfield 13, 3) := by decide +kernel
theorem d_Model_init_17 : decode b_Model_init 17 = .ok (.aload_n 0, 1) := by decide +kernel
theorem d_Model_init_18 : decode b_Model_init 18 = .ok (.bipush 100, 2) := by decide +kernel
theorem d_Model_init_20 : decode b_Model_init 20 = .ok (.newarray .int, 2) := by decide +kernel
theorem d_Model_init_22 : decode b_Model_init 22 = .ok (.putfield 17, 3) := by decide +kernel
theorem d_Model_init_25 : decode b_Model_init 25 = .ok (.aload_n 0, 1) := by decide +kernel
theorem d_Model_init_26 : decode b_Model_init 26 = .ok (.bipush 10, 2) := by decide +kernel
theorem d_Model_init_28 : decode b_Model_init 28 = .ok (.newarray .int, 2) := by decide +kernel
theorem d_Model_init_30 : decode b_Model_init 30 = .ok (.putfield 20, 3) := by decide +kernel
theorem d_Model_init_33 : decode b_Model_init 33 = .ok (.aload_n 0, 1) := by decide +kernel
theorem d_Model_init_34 : decode b_Model_init 34 = .ok (.bipush 100, 2) := by decide +kernel
theorem d_Model_init_36 : decode b_Model_init 36 = .ok (.newarray .int, 2) := by decide +kernel
theorem d_Model_init_38 : decode b_Model_init 38 = .ok (.putfield 23, 3) := by decide +kernel
theorem d_Model_init_41 : decode b_Model_init 41 = .ok (.aload_n 0, 1) := by decide +kernel
theorem d_Model_init_42 : decode b_Model_init 42 = .ok (.bipush 12, 2) := by decide +kernel
theorem d_Model_init_44 : decode b_Model_init 44 = .ok (.newarray .int, 2) := by decide +kernel
theorem d_Model_init_46 : decode b_Model_init 46 = .ok (.putfield 26, 3) := by decide +kernel
theorem d_Model_init_49 : decode b_Model_init 49 = .ok (.aload_n 0, 1) := by decide +kernel
theorem d_Model_init_50 : decode b_Model_init 50 = .ok (.bipush 12, 2) := by decide +kernel
theorem d_Model_init_52 : decode b_Model_init 52 = .ok (.newarray .int, 2) := by decide +kernel
theorem d_Model_init_54 : decode b_Model_init 54 = .ok (.putfield 29, 3) := by decide +kernel
theorem d_Model_init_57 : decode b_Model_init 57 = .ok (.aload_n 0, 1) := by decide +kernel
theorem d_Model_init_58 : decode b_Model_init 58 = .ok (.bipush 12, 2) := by decide +kernel
theorem d_Model_init_60 : decode b_Model_init 60 = .ok (.newarray .int, 2) := by decide +kernel
theorem d_Model_init_62 : decode b_Model_init 62 = .ok (.putfield 32, 3) := by decide +kernel
theorem d_Model_init_65 : decode b_Model_init 65 = .ok (.aload_n 0, 1) := by decide +kernel
theorem d_Model_init_66 : decode b_Model_init 66 = .ok (.bipush 12, 2) := by decide +kernel
theorem d_Model_init_68 : decode b_Model_init 68 = .ok (.newarray .int, 2) := by decide +kernel
theorem d_Model_init_70 : decode b_Model_init 70 = .ok (.putfield 35, 3) := by decide +kernel
theorem d_Model_init_73 : decode b_Model_init 73 = .ok (.aload_n 0, 1) := by decide +kernel
theorem d_Model_init_74 : decode b_Model_init 74 = .ok (.bipush 12, 2) := by decide +kernel
theorem d_Model_init_76 : decode b_Model_init 76 = .ok (.newarray .int, 2) := by decide +kernel
theorem d_Model_init_78 : decode b_Model_init 78 = .ok (.putfield 38, 3) := by decide +kernel
theorem d_Model_init_81 : decode b_Model_init 81 = .ok (.aload_n 0, 1) := by decide +kernel
theorem d_Model_init_82 : decode b_Model_init 82 = .ok (.bipush 12, 2) := by decide +kernel
theorem d_Model_init_84 : decode b_Model_init 84 = .ok (.newarray .int, 2) := by decide +kernel
theorem d_Model_init_86 : decode b_Model_init 86 = .ok (.putfield 41, 3) := by decide +kernel
theorem d_Model_init_89 : decode b_Model_init 89 = .ok (.aload_n 0, 1) := by decide +kernel
theorem d_Model_init_90 : decode b_Model_init 90 = .ok (.bipush 12, 2) := by decide +kernel
theorem d_Model_init_92 : decode b_Model_init 92 = .ok (.newarray .int, 2) := by decide +kernel
theorem d_Model_init_94 : decode b_Model_init 94 = .ok (.putfield 44, 3) := by decide +kernel
theorem d_Model_init_97 : decode b_Model_init 97 = .ok (.aload_n 0, 1) := by decide +kernel
theorem d_Model_init_98 : decode b_Model_init 98 = .ok (.bipush 12, 2) := by decide +kernel
theorem d_Model_init_100 : decode b_Model_init 100 = .ok (.newarray .int, 2) := by decide +kernel
theorem d_Model_init_102 : decode b_Model_init 102 = .ok (.putfield 47, 3) := by decide +kernel
theorem d_Model_init_105 : decode b_Model_init 105 = .ok (.aload_n 0, 1) := by decide +kernel
theorem d_Model_init_106 : decode b_Model_init 106 = .ok (.bipush 12, 2) := by decide +kernel
theorem d_Model_init_108 : decode b_Model_init 108 = .ok (.newarray .int, 2) := by decide +kernel
theorem d_Model_init_110 : decode b_Model_init 110 = .ok (.putfield 50, 3) := by decide +kernel
theorem d_Model_init_113 : decode b_Model_init 113 = .ok (.aload_n 0, 1) := by decide +kernel
theorem d_Model_init_114 : decode b_Model_init 114 = .ok (.bipush 12, 2) := by decide +kernel
theorem d_Model_init_116 : decode b_Model_init 116 = .ok (.newarray .int, 2) := by decide +kernel
theorem d_Model_init_118 : decode b_Model_init 118 = .ok (.putfield 53, 3) := by decide +kernel
theorem d_Model_init_121 : decode b_Model_init 121 = .ok (.aload_n 0, 1) := by decide +kernel
theorem d_Model_init_122 : decode b_Model_init 122 = .ok (.bipush 12, 2) := by decide +kernel
theorem d_Model_init_124 : decode b_Model_init 124 = .ok (.newarray .int, 2) := by decide +kernel
theorem d_Model_init_126 : decode b_Model_init 126 = .ok (.putfield 56, 3) := by decide +kernel
theorem d_Model_init_129 : decode b_Model_init 129 = .ok (.aload_n 0, 1) := by decide +kernel
theorem d_Model_init_130 : decode b_Model_init 130 = .ok (.bipush 12, 2) := by decide +kernel
theorem d_Model_init_132 : decode b_Model_init 132 = .ok (.newarray .int, 2) := by decide +kernel
theorem d_Model_init_134 : decode b_Model_init 134 = .ok (.putfield 59, 3) := by decide +kernel
theorem d_Model_init_137 : decode b_Model_init 137 = .ok (.aload_n 0, 1) := by decide +kernel
theorem d_Model_init_138 : decode b_Model_init 138 = .ok (.bipush 12, 2) := by decide +kernel
theorem d_Model_init_140 : decode b_Model_init 140 = .ok (.newarray .boolean, 2) := by decide +kernel
theorem d_Model_init_142 : decode b_Model_init 142 = .ok (.putfield 62, 3) := by decide +kernel
theorem d_Model_init_145 : decode b_Model_init 145 = .ok (.aload_n 0, 1) := by decide +kernel
theorem d_Model_init_146 : decode b_Model_init 146 = .ok (.iconst 4, 1) := by decide +kernel
theorem d_Model_init_147 : decode b_Model_init 147 = .ok (.newarray .int, 2) := by decide +kernel
theorem d_Model_init_149 : decode b_Model_init 149 = .ok (.putfield 66, 3) := by decide +kernel
theorem d_Model_init_152 : decode b_Model_init 152 = .ok (.aload_n 0, 1) := by decide +kernel
theorem d_Model_init_153 : decode b_Model_init 153 = .ok (.bipush 64, 2) := by decide +kernel
theorem d_Model_init_155 : decode b_Model_init 155 = .ok (.newarray .int, 2) := by decide +kernel
theorem d_Model_init_157 : decode b_Model_init 157 = .ok (.putfield 69, 3) := by decide +kernel
theorem d_Model_init_160 : decode b_Model_init 160 = .ok (.aload_n 0, 1) := by decide +kernel
theorem d_Model_init_161 : decode b_Model_init 161 = .ok (.bipush 64, 2) := by decide +kernel
theorem d_Model_init_163 : decode b_Model_init 163 = .ok (.newarray .int, 2) := by decide +kernel
theorem d_Model_init_165 : decode b_Model_init 165 = .ok (.putfield 72, 3) := by decide +kernel
theorem d_Model_init_168 : decode b_Model_init 168 = .ok (.aload_n 0, 1) := by decide +kernel
theorem d_Model_init_169 : decode b_Model_init 169 = .ok (.bipush 64, 2) := by decide +kernel
theorem d_Model_init_171 : decode b_Model_init 171 = .ok (.newarray .int, 2) := by decide +kernel
theorem d_Model_init_173 : decode b_Model_init 173 = .ok (.putfield 75, 3) := by decide +kernel
theorem d_Model_init_176 : decode b_Model_init 176 = .ok (.aload_n 0, 1) := by decide +kernel
theorem d_Model_init_177 : decode b_Model_init 177 = .ok (.bipush 64, 2) := by decide +kernel
theorem d_Model_init_179 : decode b_Model_init 179 = .ok (.newarray .int, 2) := by decide +kernel
theorem d_Model_init_181 : decode b_Model_init 181 = .ok (.putfield 78, 3) := by decide +kernel
theorem d_Model_init_184 : decode b_Model_init 184 = .ok (.aload_n 0, 1) := by decide +kernel
theorem d_Model_init_185 : decode b_Model_init 185 = .ok (.bipush 64, 2) := by decide +kernel
theorem d_Model_init_187 : decode b_Model_init 187 = .ok (.newarray .int, 2) := by decide +kernel
theorem d_Model_init_189 : decode b_Model_init 189 = .ok (.putfield 81, 3) := by decide +kernel
theorem d_Model_init_192 : decode b_Model_init 192 = .ok (.aload_n 0, 1) := by decide +kernel
theorem d_Model_init_193 : decode b_Model_init 193 = .ok (.bipush 64, 2) := by decide +kernel
theorem d_Model_init_195 : decode b_Model_init 195 = .ok (.newarray .int, 2) := by decide +kernel
theorem d_Model_init_197 : decode b_Model_init 197 = .ok (.putfield 84, 3) := by decide +kernel
theorem d_Model_init_200 : decode b_Model_init 200 = .ok (.aload_n 0, 1) := by decide +kernel
theorem d_Model_init_201 : decode b_Model_init 201 = .ok (.bipush 64, 2) := by decide +kernel
theorem d_Model_init_203 : decode b_Model_init 203 = .ok (.newarray .boolean, 2) := by decide +kernel
theorem d_Model_init_205 : decode b_Model_init 205 = .ok (.putfield 87, 3) := by decide +kernel
theorem d_Model_init_208 : decode b_Model_init 208 = .ok (.aload_n 0, 1) := by decide +kernel
theorem d_Model_init_209 : decode b_Model_init 209 = .ok (.bipush 64, 2) := by decide +kernel
theorem d_Model_init_211 : decode b_Model_init 211 = .ok (.newarray .boolean, 2) := by decide +kernel
theorem d_Model_init_213 : decode b_Model_init 213 = .ok (.putfield 90, 3) := by decide +kernel
theorem d_Model_init_216 : decode b_Model_init 216 = .ok (.aload_n 0, 1) := by decide +kernel
theorem d_Model_init_217 : decode b_Model_init 217 = .ok (.bipush 60, 2) := by decide +kernel
theorem d_Model_init_219 : decode b_Model_init 219 = .ok (.newarray .int, 2) := by decide +kernel
theorem d_Model_init_221 : decode b_Model_init 221 = .ok (.putfield 93, 3) := by decide +kernel
theorem d_Model_init_224 : decode b_Model_init 224 = .ok (.aload_n 0, 1) := by decide +kernel
theorem d_Model_init_225 : decode b_Model_init 225 = .ok (.bipush 30, 2) := by decide +kernel
theorem d_Model_init_227 : decode b_Model_init 227 = .ok (.newarray .int, 2) := by decide +kernel
theorem d_Model_init_229 : decode b_Model_init 229 = .ok (.putfield 96, 3) := by decide +kernel
theorem d_Model_init_232 : decode b_Model_init 232 = .ok (.return_, 1) := by decide +kernel
theorem d_Model_thrown_0 : decode b_Model_thrown 0 = .ok (.aload_n 0, 1) := by decide +kernel
theorem d_Model_thrown_1 : decode b_Model_thrown 1 = .ok (.getfield 99, 3) := by decide +kernel
theorem d_Model_thrown_4 : decode b_Model_thrown 4 = .ok (.ireturn, 1) := by decide +kernel
theorem d_Model_in_0 : decode b_Model_in 0 = .ok (.iload_n 0, 1) := by decide +kernel
theorem d_Model_in_1 : decode b_Model_in 1 = .ok (.iload_n 1, 1) := by decide +kernel
theorem d_Model_in_2 : decode b_Model_in 2 = .ok (.if_icmp .lt 12, 3) := by decide +kernel
theorem d_Model_in_5 : decode b_Model_in 5 = .ok (.iload_n 0, 1) := by decide +kernel
theorem d_Model_in_6 : decode b_Model_in 6 = .ok (.iload_n 2, 1) := by decide +kernel
theorem d_Model_in_7 : decode b_Model_in 7 = .ok (.if_icmp .gt 7, 3) := by decide +kernel
theorem d_Model_in_10 : decode b_Model_in 10 = .ok (.iconst 1, 1) := by decide +kernel
theorem d_Model_in_11 : decode b_Model_in 11 = .ok (.goto 4, 3) := by decide +kernel
theorem d_Model_in_14 : decode b_Model_in 14 = .ok (.iconst 0, 1) := by decide +kernel
theorem d_Model_in_15 : decode b_Model_in 15 = .ok (.ireturn, 1) := by decide +kernel
theorem d_Model_fails_0 : decode b_Model_fails 0 = .ok (.iload_n 1, 1) := by decide +kernel
theorem d_Model_fails_1 : decode b_Model_fails 1 = .ok (.ifCond .eq 15, 3) := by decide +kernel
theorem d_Model_fails_4 : decode b_Model_fails 4 = .ok (.aload_n 0, 1) := by decide +kernel
theorem d_Model_fails_5 : decode b_Model_fails 5 = .ok (.getfield 99, 3) := by decide +kernel
theorem d_Model_fails_8 : decode b_Model_fails 8 = .ok (.ifCond .ne 8, 3) := by decide +kernel
theorem d_Model_fails_11 : decode b_Model_fails 11 = .ok (.aload_n 0, 1) := by decide +kernel
theorem d_Model_fails_12 : decode b_Model_fails 12 = .ok (.iload_n 2, 1) := by decide +kernel
theorem d_Model_fails_13 : decode b_Model_fails 13 = .ok (.putfield 99, 3) := by decide +kernel
theorem d_Model_fails_16 : decode b_Model_fails 16 = .ok (.aload_n 0, 1) := by decide +kernel
theorem d_Model_fails_17 : decode b_Model_fails 17 = .ok (.getfield 99, 3) := by decide +kernel
theorem d_Model_fails_20 : decode b_Model_fails 20 = .ok (.ifCond .eq 7, 3) := by decide +kernel
theorem d_Model_fails_23 : decode b_Model_fails 23 = .ok (.iconst 1, 1) := by decide +kernel
theorem d_Model_fails_24 : decode b_Model_fails 24 = .ok (.goto 4, 3) := by decide +kernel
theorem d_Model_fails_27 : decode b_Model_fails 27 = .ok (.iconst 0, 1) := by decide +kernel
theorem d_Model_fails_28 : decode b_Model_fails 28 = .ok (.ireturn, 1) := by decide +kernel
theorem d_Model_fits_0 : decode b_Model_fits 0 = .ok (.iload_n 0, 1) := by decide +kernel
theorem d_Model_fits_1 : decode b_Model_fits 1 = .ok (.iconst 2, 1) := by decide +kernel
theorem d_Model_fits_2 : decode b_Model_fits 2 = .ok (.if_icmp .ge 11, 3) := by decide +kernel
theorem d_Model_fits_5 : decode b_Model_fits 5 = .ok (.iload_n 1, 1) := by decide +kernel
theorem d_Model_fits_6 : decode b_Model_fits 6 = .ok (.iconst 1, 1) := by decide +kernel
theorem d_Model_fits_7 : decode b_Model_fits 7 = .ok (.bipush 20, 2) := by decide +kernel
theorem d_Model_fits_9 : decode b_Model_fits 9 = .ok (.invokestatic 102, 3) := by decide +kernel
theorem d_Model_fits_12 : decode b_Model_fits 12 = .ok (.ireturn, 1) := by decide +kernel
theorem d_Model_fits_13 : decode b_Model_fits 13 = .ok (.iload_n 0, 1) := by decide +kernel
theorem d_Model_fits_14 : decode b_Model_fits 14 = .ok (.iconst 3, 1) := by decide +kernel
theorem d_Model_fits_15 : decode b_Model_fits 15 = .ok (.if_icmp .eq 9, 3) := by decide +kernel
theorem d_Model_fits_18 : decode b_Model_fits 18 = .ok (.iload_n 0, 1) := by decide +kernel
theorem d_Model_fits_19 : decode b_Model_fits 19 = .ok (.bipush 6, 2) := by decide +kernel
theorem d_Model_fits_21 : decode b_Model_fits 21 = .ok (.if_icmp .ne 11, 3) := by decide +kernel
theorem d_Model_fits_24 : decode b_Model_fits 24 = .ok (.iload_n 1, 1) := by decide +kernel
theorem d_Model_fits_25 : decode b_Model_fits 25 = .ok (.iconst 0, 1) := by decide +kernel
theorem d_Model_fits_26 : decode b_Model_fits 26 = .ok (.bipush 99, 2) := by decide +kernel
theorem d_Model_fits_28 : decode b_Model_fits 28 = .ok (.invokestatic 102, 3) := by decide +kernel
theorem d_Model_fits_31 : decode b_Model_fits 31 = .ok (.ireturn, 1) := by decide +kernel
theorem d_Model_fits_32 : decode b_Model_fits 32 = .ok (.iload_n 0, 1) := by decide +kernel
theorem d_Model_fits_33 : decode b_Model_fits 33 = .ok (.iconst 4, 1) := by decide +kernel
theorem d_Model_fits_34 : decode b_Model_fits 34 = .ok (.if_icmp .eq 8, 3) := by decide +kernel
theorem d_Model_fits_37 : decode b_Model_fits 37 = .ok (.iload_n 0, 1) := by decide +kernel
theorem d_Model_fits_38 : decode b_Model_fits 38 = .ok (.iconst 5, 1) := by decide +kernel
theorem d_Model_fits_39 : decode b_Model_fits 39 = .ok (.if_icmp .ne 13, 3) := by decide +kernel
theorem d_Model_fits_42 : decode b_Model_fits 42 = .ok (.iload_n 1, 1) := by decide +kernel
theorem d_Model_fits_43 : decode b_Model_fits 43 = .ok (.iconst 0, 1) := by decide +kernel
theorem d_Model_fits_44 : decode b_Model_fits 44 = .ok (.bipush 9, 2) := by decide +kernel
theorem d_Model_fits_46 : decode b_Model_fits 46 = .ok (.invokestatic 102, 3) := by decide +kernel
theorem d_Model_fits_49 : decode b_Model_fits 49 = .ok (.ifCond .eq 7, 3) := by decide +kernel
theorem d_Model_fits_52 : decode b_Model_fits 52 = .ok (.iconst 1, 1) := by decide +kernel
theorem d_Model_fits_53 : decode b_Model_fits 53 = .ok (.goto 4, 3) := by decide +kernel
theorem d_Model_fits_56 : decode b_Model_fits 56 = .ok (.iconst 0, 1) := by decide +kernel
theorem d_Model_fits_57 : decode b_Model_fits 57 = .ok (.ireturn, 1) := by decide +kernel
theorem d_Model_action_0 : decode b_Model_action 0 = .ok (.aload_n 0, 1) := by decide +kernel
theorem d_Model_action_1 : decode b_Model_action 1 = .ok (.iconst 0, 1) := by decide +kernel
theorem d_Model_action_2 : decode b_Model_action 2 = .ok (.putfield 99, 3) := by decide +kernel
theorem d_Model_action_5 : decode b_Model_action 5 = .ok (.aload_n 0, 1) := by decide +kernel
theorem d_Model_action_6 : decode b_Model_action 6 = .ok (.iload_n 1, 1) := by decide +kernel
theorem d_Model_action_7 : decode b_Model_action 7 = .ok (.iconst 0, 1) := by decide +kernel
theorem d_Model_action_8 : decode b_Model_action 8 = .ok (.bipush 9, 2) := by decide +kernel
theorem d_Model_action_10 : decode b_Model_action 10 = .ok (.invokestatic 102, 3) := by decide +kernel
theorem d_Model_action_13 : decode b_Model_action 13 = .ok (.ifCond .eq 21, 3) := by decide +kernel
theorem d_Model_action_16 : decode b_Model_action 16 = .ok (.iload_n 2, 1) := by decide +kernel
theorem d_Model_action_17 : decode b_Model_action 17 = .ok (.iconst 0, 1) := by decide +kernel
theorem d_Model_action_18 : decode b_Model_action 18 = .ok (.bipush 11, 2) := by decide +kernel
theorem d_Model_action_20 : decode b_Model_action 20 = .ok (.invokestatic 102, 3) := by decide +kernel
theorem d_Model_action_23 : decode b_Model_action 23 = .ok (.ifCond .eq 11, 3) := by decide +kernel
theorem d_Model_action_26 : decode b_Model_action 26 = .ok (.iload_n 2, 1) := by decide +kernel
theorem d_Model_action_27 : decode b_Model_action 27 = .ok (.iload_n 3, 1) := by decide +kernel
theorem d_Model_action_28 : decode b_Model_action 28 = .ok (.invokestatic 106, 3) := by decide +kernel
theorem d_Model_action_31 : decode b_Model_action 31 = .ok (.ifCond .ne 7, 3) := by decide +kernel
theorem d_Model_action_34 : decode b_Model_action 34 = .ok (.iconst 1, 1) := by decide +kernel
theorem d_Model_action_35 : decode b_Model_action 35 = .ok (.goto 4, 3) := by decide +kernel
theorem d_Model_action_38 : decode b_Model_action 38 = .ok (.iconst 0, 1) := by decide +kernel
theorem d_Model_action_39 : decode b_Model_action 39 = .ok (.iconst 1, 1) := by decide +kernel
theorem d_Model_action_40 : decode b_Model_action 40 = .ok (.invokevirtual 110, 3) := by decide +kernel
theorem d_Model_action_43 : decode b_Model_action 43 = .ok (.ifCond .eq 5, 3) := by decide +kernel
theorem d_Model_action_46 : decode b_Model_action 46 = .ok (.iconst 0, 1) := by decide +kernel
theorem d_Model_action_47 : decode b_Model_action 47 = .ok (.ireturn, 1) := by decide +kernel
theorem d_Model_action_48 : decode b_Model_action 48 = .ok (.aload_n 0, 1) := by decide +kernel
theorem d_Model_action_49 : decode b_Model_action 49 = .ok (.aload_n 0, 1) := by decide +kernel
theorem d_Model_action_50 : decode b_Model_action 50 = .ok (.getfield 20, 3) := by decide +kernel
theorem d_Model_action_53 : decode b_Model_action 53 = .ok (.iload_n 1, 1) := by decide +kernel
theorem d_Model_action_54 : decode b_Model_action 54 = .ok (.iaload, 1) := by decide +kernel
theorem d_Model_action_55 : decode b_Model_action 55 = .ok (.bipush 10, 2) := by decide +kernel
theorem d_Model_action_57 : decode b_Model_action 57 = .ok (.if_icmp .ne 7, 3) := by decide +kernel
theorem d_Model_action_60 : decode b_Model_action 60 = .ok (.iconst 1, 1) := by decide +kernel
theorem d_Model_action_61 : decode b_Model_action 61 = .ok (.goto 4, 3) := by decide +kernel
theorem d_Model_action_64 : decode b_Model_action 64 = .ok (.iconst 0, 1) := by decide +kernel
theorem d_Model_action_65 : decode b_Model_action 65 = .ok (.iconst 2, 1) := by decide +kernel
theorem d_Model_action_66 : decode b_Model_action 66 = .ok (.invokevirtual 110, 3) := by decide +kernel
theorem d_Model_action_69 : decode b_Model_action 69 = .ok (.ifCond .eq 5, 3) := by decide +kernel
theorem d_Model_action_72 : decode b_Model_action 72 = .ok (.iconst 0, 1) := by decide +kernel
theorem d_Model_action_73 : decode b_Model_action 73 = .ok (.ireturn, 1) := by decide +kernel
theorem d_Model_action_74 : decode b_Model_action 74 = .ok (.aload_n 0, 1) := by decide +kernel
theorem d_Model_action_75 : decode b_Model_action 75 = .ok (.getfield 13, 3) := by decide +kernel
theorem d_Model_action_78 : decode b_Model_action 78 = .ok (.bipush 10, 2) := by decide +kernel
theorem d_Model_action_80 : decode b_Model_action 80 = .ok (.iload_n 1, 1) := by decide +kernel
theorem d_Model_action_81 : decode b_Model_action 81 = .ok (.imul, 1) := by decide +kernel
theorem d_Model_action_82 : decode b_Model_action 82 = .ok (.aload_n 0, 1) := by decide +kernel
theorem d_Model_action_83 : decode b_Model_action 83 = .ok (.getfield 20, 3) := by decide +kernel
theorem d_Model_action_86 : decode b_Model_action 86 = .ok (.iload_n 1, 1) := by decide +kernel
theorem d_Model_action_87 : decode b_Model_action 87 = .ok (.iaload, 1) := by decide +kernel
theorem d_Model_action_88 : decode b_Model_action 88 = .ok (.iadd, 1) := by decide +kernel
theorem d_Model_action_89 : decode b_Model_action 89 = .ok (.iload_n 2, 1) := by decide +kernel
theorem d_Model_action_90 : decode b_Model_action 90 = .ok (.iastore, 1) := by decide +kernel
theorem d_Model_action_91 : decode b_Model_action 91 = .ok (.aload_n 0, 1) := by decide +kernel
theorem d_Model_action_92 : decode b_Model_action 92 = .ok (.getfield 17, 3) := by decide +kernel
theorem d_Model_action_95 : decode b_Model_action 95 = .ok (.bipush 10, 2) := by decide +kernel
theorem d_Model_action_97 : decode b_Model_action 97 = .ok (.iload_n 1, 1) := by decide +kernel
theorem d_Model_action_98 : decode b_Model_action 98 = .ok (.imul, 1) := by decide +kernel
theorem d_Model_action_99 : decode b_Model_action 99 = .ok (.aload_n 0, 1) := by decide +kernel
theorem d_Model_action_100 : decode b_Model_action 100 = .ok (.getfield 20, 3) := by decide +kernel
theorem d_Model_action_103 : decode b_Model_action 103 = .ok (.iload_n 1, 1) := by decide +kernel
theorem d_Model_action_104 : decode b_Model_action 104 = .ok (.iaload, 1) := by decide +kernel
theorem d_Model_action_105 : decode b_Model_action 105 = .ok (.iadd, 1) := by decide +kernel
theorem d_Model_action_106 : decode b_Model_action 106 = .ok (.iload_n 3, 1) := by decide +kernel
theorem d_Model_action_107 : decode b_Model_action 107 = .ok (.iastore, 1) := by decide +kernel
theorem d_Model_action_108 : decode b_Model_action 108 = .ok (.aload_n 0, 1) := by decide +kernel
theorem d_Model_action_109 : decode b_Model_action 109 = .ok (.getfield 20, 3) := by decide +kernel
theorem d_Model_action_112 : decode b_Model_action 112 = .ok (.iload_n 1, 1) := by decide +kernel
theorem d_Model_action_113 : decode b_Model_action 113 = .ok (.dup2, 1) := by decide +kernel
theorem d_Model_action_114 : decode b_Model_action 114 = .ok (.iaload, 1) := by decide +kernel
theorem d_Model_action_115 : decode b_Model_action 115 = .ok (.iconst 1, 1) := by decide +kernel
theorem d_Model_action_116 : decode b_Model_action 116 = .ok (.iadd, 1) := by decide +kernel
theorem d_Model_action_117 : decode b_Model_action 117 = .ok (.iastore, 1) := by decide +kernel
theorem d_Model_action_118 : decode b_Model_action 118 = .ok (.aload_n 0, 1) := by decide +kernel
theorem d_Model_action_119 : decode b_Model_action 119 = .ok (.getfield 20, 3) := by decide +kernel
theorem d_Model_action_122 : decode b_Model_action 122 = .ok (.iload_n 1, 1) := by decide +kernel
theorem d_Model_action_123 : decode b_Model_action 123 = .ok (.iaload, 1) := by decide +kernel
theorem d_Model_action_124 : decode b_Model_action 124 = .ok (.ireturn, 1) := by decide +kernel
theorem d_Model_test_0 : decode b_Model_test 0 = .ok (.aload_n 0, 1) := by decide +kernel
theorem d_Model_test_1 : decode b_Model_test 1 = .ok (.iconst 0, 1) := by decide +kernel
theorem d_Model_test_2 : decode b_Model_test 2 = .ok (.putfield 99, 3) := by decide +kernel
theorem d_Model_test_5 : decode b_Model_test 5 = .ok (.aload_n 0, 1) := by decide +kernel
theorem d_Model_test_6 : decode b_Model_test 6 = .ok (.iload_n 1, 1) := by decide +kernel
theorem d_Model_test_7 : decode b_Model_test 7 = .ok (.iconst 0, 1) := by decide +kernel
theorem d_Model_test_8 : decode b_Model_test 8 = .ok (.bipush 9, 2) := by decide +kernel
theorem d_Model_test_10 : decode b_Model_test 10 = .ok (.invokestatic 102, 3) := by decide +kernel
theorem d_Model_test_13 : decode b_Model_test 13 = .ok (.ifCond .eq 34, 3) := by decide +kernel
theorem d_Model_test_16 : decode b_Model_test 16 = .ok (.iload_n 2, 1) := by decide +kernel
theorem d_Model_test_17 : decode b_Model_test 17 = .ok (.iconst 0, 1) := by decide +kernel
theorem d_Model_test_18 : decode b_Model_test 18 = .ok (.bipush 50, 2) := by decide +kernel
theorem d_Model_test_20 : decode b_Model_test 20 = .ok (.invokestatic 102, 3) := by decide +kernel
theorem d_Model_test_23 : decode b_Model_test 23 = .ok (.ifCond .eq 24, 3) := by decide +kernel
theorem d_Model_test_26 : decode b_Model_test 26 = .ok (.iload_n 3, 1) := by decide +kernel
theorem d_Model_test_27 : decode b_Model_test 27 = .ok (.iconst 0, 1) := by decide +kernel
theorem d_Model_test_28 : decode b_Model_test 28 = .ok (.bipush 15, 2) := by decide +kernel
theorem d_Model_test_30 : decode b_Model_test 30 = .ok (.invokestatic 102, 3) := by decide +kernel
theorem d_Model_test_33 : decode b_Model_test 33 = .ok (.ifCond .eq 14, 3) := by decide +kernel
theorem d_Model_test_36 : decode b_Model_test 36 = .ok (.iload 4, 2) := by decide +kernel
theorem d_Model_test_38 : decode b_Model_test 38 = .ok (.iconst 0, 1) := by decide +kernel
theorem d_Model_test_39 : decode b_Model_test 39 = .ok (.bipush 15, 2) := by decide +kernel
theorem d_Model_test_41 : decode b_Model_test 41 = .ok (.invokestatic 102, 3) := by decide +kernel
theorem d_Model_test_44 : decode b_Model_test 44 = .ok (.ifCond .ne 7, 3) := by decide +kernel
theorem d_Model_test_47 : decode b_Model_test 47 = .ok (.iconst 1, 1) := by decide +kernel
theorem d_Model_test_48 : decode b_Model_test 48 = .ok (.goto 4, 3) := by decide +kernel
theorem d_Model_test_51 : decode b_Model_test 51 = .ok (.iconst 0, 1) := by decide +kernel
theorem d_Model_test_52 : decode b_Model_test 52 = .ok (.iconst 1, 1) := by decide +kernel
theorem d_Model_test_53 : decode b_Model_test 53 = .ok (.invokevirtual 110, 3) := by decide +kernel
theorem d_Model_test_56 : decode b_Model_test 56 = .ok (.ifCond .ne 25, 3) := by decide +kernel
theorem d_Model_test_59 : decode b_Model_test 59 = .ok (.aload_n 0, 1) := by decide +kernel
theorem d_Model_test_60 : decode b_Model_test 60 = .ok (.aload_n 0, 1) := by decide +kernel
theorem d_Model_test_61 : decode b_Model_test 61 = .ok (.getfield 114, 3) := by decide +kernel
theorem d_Model_test_64 : decode b_Model_test 64 = .ok (.bipush 12, 2) := by decide +kernel
theorem d_Model_test_66 : decode b_Model_test 66 = .ok (.if_icmp .ne 7, 3) := by decide +kernel
theorem d_Model_test_69 : decode b_Model_test 69 = .ok (.iconst 1, 1) := by decide +kernel
theorem d_Model_test_70 : decode b_Model_test 70 = .ok (.goto 4, 3) := by decide +kernel
theorem d_Model_test_73 : decode b_Model_test 73 = .ok (.iconst 0, 1) := by decide +kernel
theorem d_Model_test_74 : decode b_Model_test 74 = .ok (.iconst 2, 1) := by decide +kernel
theorem d_Model_test_75 : decode b_Model_test 75 = .ok (.invokevirtual 110, 3) := by decide +kernel
theorem d_Model_test_78 : decode b_Model_test 78 = .ok (.ifCond .eq 5, 3) := by decide +kernel
theorem d_Model_test_81 : decode b_Model_test 81 = .ok (.iconst 0, 1) := by decide +kernel
theorem d_Model_test_82 : decode b_Model_test 82 = .ok (.ireturn, 1) := by decide +kernel
theorem d_Model_test_83 : decode b_Model_test 83 = .ok (.aload_n 0, 1) := by decide +kernel
theorem d_Model_test_84 : decode b_Model_test 84 = .ok (.getfield 114, 3) := by decide +kernel
theorem d_Model_test_87 : decode b_Model_test 87 = .ok (.istore 5, 2) := by decide +kernel
theorem d_Model_test_89 : decode b_Model_test 89 = .ok (.aload_n 0, 1) := by decide +kernel
theorem d_Model_test_90 : decode b_Model_test 90 = .ok (.dup, 1) := by decide +kernel
theorem d_Model_test_91 : decode b_Model_test 91 = .ok (.getfield 114, 3) := by decide +kernel
theorem d_Model_test_94 : decode b_Model_test 94 = .ok (.iconst 1, 1) := by decide +kernel
theorem d_Model_test_95 : decode b_Model_test 95 = .ok (.iadd, 1) := by decide +kernel
theorem d_Model_test_96 : decode b_Model_test 96 = .ok (.putfield 114, 3) := by decide +kernel
theorem d_Model_test_99 : decode b_Model_test 99 = .ok (.aload_n 0, 1) := by decide +kernel
theorem d_Model_test_100 : decode b_Model_test 100 = .ok (.getfield 26, 3) := by decide +kernel
theorem d_Model_test_103 : decode b_Model_test 103 = .ok (.iload 5, 2) := by decide +kernel
theorem d_Model_test_105 : decode b_Model_test 105 = .ok (.iload_n 1, 1) := by decide +kernel
theorem d_Model_test_106 : decode b_Model_test 106 = .ok (.iastore, 1) := by decide +kernel
theorem d_Model_test_107 : decode b_Model_test 107 = .ok (.aload_n 0, 1) := by decide +kernel
theorem d_Model_test_108 : decode b_Model_test 108 = .ok (.getfield 29, 3) := by decide +kernel
theorem d_Model_test_111 : decode b_Model_test 111 = .ok (.iload 5, 2) := by decide +kernel
theorem d_Model_test_113 : decode b_Model_test 113 = .ok (.iload_n 2, 1) := by decide +kernel
theorem d_Model_test_114 : decode b_Model_test 114 = .ok (.iastore, 1) := by decide +kernel
theorem d_Model_test_115 : decode b_Model_test 115 = .ok (.aload_n 0, 1) := by decide +kernel
theorem d_Model_test_116 : decode b_Model_test 116 = .ok (.getfield 32, 3) := by decide +kernel
theorem d_Model_test_119 : decode b_Model_test 119 = .ok (.iload 5, 2) := by decide +kernel
theorem d_Model_test_121 : decode b_Model_test 121 = .ok (.iload_n 3, 1) := by decide +kernel
theorem d_Model_test_122 : decode b_Model_test 122 = .ok (.iload 4, 2) := by decide +kernel
theorem d_Model_test_124 : decode b_Model_test 124 = .ok (.iconst (-1), 1) := by decide +kernel
theorem d_Model_test_125 : decode b_Model_test 125 = .ok (.ixor, 1) := by decide +kernel
theorem d_Model_test_126 : decode b_Model_test 126 = .ok (.iand, 1) := by decide +kernel
theorem d_Model_test_127 : decode b_Model_test 127 = .ok (.iastore, 1) := by decide +kernel
theorem d_Model_test_128 : decode b_Model_test 128 = .ok (.aload_n 0, 1) := by decide +kernel
theorem d_Model_test_129 : decode b_Model_test 129 = .ok (.getfield 35, 3) := by decide +kernel
theorem d_Model_test_132 : decode b_Model_test 132 = .ok (.iload 5, 2) := by decide +kernel
theorem d_Model_test_134 : decode b_Model_test 134 = .ok (.iload 4, 2) := by decide +kernel
theorem d_Model_test_136 : decode b_Model_test 136 = .ok (.iastore, 1) := by decide +kernel
theorem d_Model_test_137 : decode b_Model_test 137 = .ok (.aload_n 0, 1) := by decide +kernel
theorem d_Model_test_138 : decode b_Model_test 138 = .ok (.getfield 38, 3) := by decide +kernel
theorem d_Model_test_141 : decode b_Model_test 141 = .ok (.iload 5, 2) := by decide +kernel
theorem d_Model_test_143 : decode b_Model_test 143 = .ok (.iconst 0, 1) := by decide +kernel
theorem d_Model_test_144 : decode b_Model_test 144 = .ok (.iastore, 1) := by decide +kernel
theorem d_Model_test_145 : decode b_Model_test 145 = .ok (.aload_n 0, 1) := by decide +kernel
theorem d_Model_test_146 : decode b_Model_test 146 = .ok (.getfield 41, 3) := by decide +kernel
theorem d_Model_test_149 : decode b_Model_test 149 = .ok (.iload 5, 2) := by decide +kernel
theorem d_Model_test_151 : decode b_Model_test 151 = .ok (.iconst (-1), 1) := by decide +kernel
theorem d_Model_test_152 : decode b_Model_test 152 = .ok (.iastore, 1) := by decide +kernel
theorem d_Model_test_153 : decode b_Model_test 153 = .ok (.aload_n 0, 1) := by decide +kernel
theorem d_Model_test_154 : decode b_Model_test 154 = .ok (.getfield 44, 3) := by decide +kernel
theorem d_Model_test_157 : decode b_Model_test 157 = .ok (.iload 5, 2) := by decide +kernel
theorem d_Model_test_159 : decode b_Model_test 159 = .ok (.iconst (-1), 1) := by decide +kernel
theorem d_Model_test_160 : decode b_Model_test 160 = .ok (.iastore, 1) := by decide +kernel
theorem d_Model_test_161 : decode b_Model_test 161 = .ok (.aload_n 0, 1) := by decide +kernel
theorem d_Model_test_162 : decode b_Model_test 162 = .ok (.getfield 47, 3) := by decide +kernel
theorem d_Model_test_165 : decode b_Model_test 165 = .ok (.iload 5, 2) := by decide +kernel
theorem d_Model_test_167 : decode b_Model_test 167 = .ok (.iconst (-1), 1) := by decide +kernel
theorem d_Model_test_168 : decode b_Model_test 168 = .ok (.iastore, 1) := by decide +kernel
theorem d_Model_test_169 : decode b_Model_test 169 = .ok (.aload_n 0, 1) := by decide +kernel
theorem d_Model_test_170 : decode b_Model_test 170 = .ok (.getfield 50, 3) := by decide +kernel
theorem d_Model_test_173 : decode b_Model_test 173 = .ok (.iload 5, 2) := by decide +kernel
theorem d_Model_test_175 : decode b_Model_test 175 = .ok (.iconst (-1), 1) := by decide +kernel
theorem d_Model_test_176 : decode b_Model_test 176 = .ok (.iastore, 1) := by decide +kernel
theorem d_Model_test_177 : decode b_Model_test 177 = .ok (.aload_n 0, 1) := by decide +kernel
theorem d_Model_test_178 : decode b_Model_test 178 = .ok (.getfield 62, 3) := by decide +kernel
theorem d_Model_test_181 : decode b_Model_test 181 = .ok (.iload 5, 2) := by decide +kernel
theorem d_Model_test_183 : decode b_Model_test 183 = .ok (.iconst 0, 1) := by decide +kernel
theorem d_Model_test_184 : decode b_Model_test 184 = .ok (.bastore, 1) := by decide +kernel
theorem d_Model_test_185 : decode b_Model_test 185 = .ok (.aload_n 0, 1) := by decide +kernel
theorem d_Model_test_186 : decode b_Model_test 186 = .ok (.getfield 59, 3) := by decide +kernel
theorem d_Model_test_189 : decode b_Model_test 189 = .ok (.iload 5, 2) := by decide +kernel
theorem d_Model_test_191 : decode b_Model_test 191 = .ok (.iconst 0, 1) := by decide +kernel
theorem d_Model_test_192 : decode b_Model_test 192 = .ok (.iastore, 1) := by decide +kernel
theorem d_Model_test_193 : decode b_Model_test 193 = .ok (.iload 5, 2) := by decide +kernel
theorem d_Model_test_195 : decode b_Model_test 195 = .ok (.ireturn, 1) := by decide +kernel
theorem d_Model_workers_0 : decode b_Model_workers 0 = .ok (.aload_n 0, 1) := by decide +kernel
theorem d_Model_workers_1 : decode b_Model_workers 1 = .ok (.iconst 0, 1) := by decide +kernel
theorem d_Model_workers_2 : decode b_Model_workers 2 = .ok (.putfield 99, 3) := by decide +kernel
theorem d_Model_workers_5 : decode b_Model_workers 5 = .ok (.aload_n 0, 1) := by decide +kernel
theorem d_Model_workers_6 : decode b_Model_workers 6 = .ok (.iload_n 1, 1) := by decide +kernel
theorem d_Model_workers_7 : decode b_Model_workers 7 = .ok (.iconst 1, 1) := by decide +kernel
theorem d_Model_workers_8 : decode b_Model_workers 8 = .ok (.iconst 4, 1) := by decide +kernel
theorem d_Model_workers_9 : decode b_Model_workers 9 = .ok (.invokestatic 102, 3) := by decide +kernel
theorem d_Model_workers_12 : decode b_Model_workers 12 = .ok (.ifCond .ne 7, 3) := by decide +kernel
theorem d_Model_workers_15 : decode b_Model_workers 15 = .ok (.iconst 1, 1) := by decide +kernel
theorem d_Model_workers_16 : decode b_Model_workers 16 = .ok (.goto 4, 3) := by decide +kernel
theorem d_Model_workers_19 : decode b_Model_workers 19 = .ok (.iconst 0, 1) := by decide +kernel
theorem d_Model_workers_20 : decode b_Model_workers 20 = .ok (.iconst 1, 1) := by decide +kernel
theorem d_Model_workers_21 : decode b_Model_workers 21 = .ok (.invokevirtual 110, 3) := by decide +kernel
theorem d_Model_workers_24 : decode b_Model_workers 24 = .ok (.ifCond .eq 5, 3) := by decide +kernel
theorem d_Model_workers_27 : decode b_Model_workers 27 = .ok (.iconst 0, 1) := by decide +kernel
theorem d_Model_workers_28 : decode b_Model_workers 28 = .ok (.ireturn, 1) := by decide +kernel
theorem d_Model_workers_29 : decode b_Model_workers 29 = .ok (.aload_n 0, 1) := by decide +kernel
theorem d_Model_workers_30 : decode b_Model_workers 30 = .ok (.getfield 7, 3) := by decide +kernel
theorem d_Model_workers_33 : decode b_Model_workers 33 = .ok (.istore_n 2, 1) := by decide +kernel
theorem d_Model_workers_34 : decode b_Model_workers 34 = .ok (.aload_n 0, 1) := by decide +kernel
theorem d_Model_workers_35 : decode b_Model_workers 35 = .ok (.iload_n 1, 1) := by decide +kernel
theorem d_Model_workers_36 : decode b_Model_workers 36 = .ok (.putfield 7, 3) := by decide +kernel
theorem d_Model_workers_39 : decode b_Model_workers 39 = .ok (.iload_n 2, 1) := by decide +kernel
theorem d_Model_workers_40 : decode b_Model_workers 40 = .ok (.ireturn, 1) := by decide +kernel
theorem d_Model_judged_0 : decode b_Model_judged 0 = .ok (.aload_n 0, 1) := by decide +kernel
theorem d_Model_judged_1 : decode b_Model_judged 1 = .ok (.getfield 38, 3) := by decide +kernel
theorem d_Model_judged_4 : decode b_Model_judged 4 = .ok (.iload_n 1, 1) := by decide +kernel
theorem d_Model_judged_5 : decode b_Model_judged 5 = .ok (.iload_n 2, 1) := by decide +kernel
theorem d_Model_judged_6 : decode b_Model_judged 6 = .ok (.iastore, 1) := by decide +kernel
theorem d_Model_judged_7 : decode b_Model_judged 7 = .ok (.aload_n 0, 1) := by decide +kernel
theorem d_Model_judged_8 : decode b_Model_judged 8 = .ok (.getfield 41, 3) := by decide +kernel
theorem d_Model_judged_11 : decode b_Model_judged 11 = .ok (.iload_n 1, 1) := by decide +kernel
theorem d_Model_judged_12 : decode b_Model_judged 12 = .ok (.iload_n 3, 1) := by decide +kernel
theorem d_Model_judged_13 : decode b_Model_judged 13 = .ok (.iastore, 1) := by decide +kernel
theorem d_Model_judged_14 : decode b_Model_judged 14 = .ok (.aload_n 0, 1) := by decide +kernel
theorem d_Model_judged_15 : decode b_Model_judged 15 = .ok (.getfield 47, 3) := by decide +kernel
theorem d_Model_judged_18 : decode b_Model_judged 18 = .ok (.iload_n 1, 1) := by decide +kernel
theorem d_Model_judged_19 : decode b_Model_judged 19 = .ok (.aload_n 0, 1) := by decide +kernel
theorem d_Model_judged_20 : decode b_Model_judged 20 = .ok (.getfield 117, 3) := by decide +kernel
theorem d_Model_judged_23 : decode b_Model_judged 23 = .ok (.iastore, 1) := by decide +kernel
theorem d_Model_judged_24 : decode b_Model_judged 24 = .ok (.return_, 1) := by decide +kernel
theorem d_Model_warns_0 : decode b_Model_warns 0 = .ok (.aload_n 0, 1) := by decide +kernel
theorem d_Model_warns_1 : decode b_Model_warns 1 = .ok (.getfield 120, 3) := by decide +kernel
theorem d_Model_warns_4 : decode b_Model_warns 4 = .ok (.bipush 8, 2) := by decide +kernel
theorem d_Model_warns_6 : decode b_Model_warns 6 = .ok (.if_icmp .ge 19, 3) := by decide +kernel
theorem d_Model_warns_9 : decode b_Model_warns 9 = .ok (.aload_n 0, 1) := by decide +kernel
theorem d_Model_warns_10 : decode b_Model_warns 10 = .ok (.getfield 96, 3) := by decide +kernel
theorem d_Model_warns_13 : decode b_Model_warns 13 = .ok (.aload_n 0, 1) := by decide +kernel
theorem d_Model_warns_14 : decode b_Model_warns 14 = .ok (.getfield 120, 3) := by decide +kernel
theorem d_Model_warns_17 : decode b_Model_warns 17 = .ok (.sipush 1000, 3) := by decide +kernel
theorem d_Model_warns_20 : decode b_Model_warns 20 = .ok (.iload_n 1, 1) := by decide +kernel
theorem d_Model_warns_21 : decode b_Model_warns 21 = .ok (.imul, 1) := by decide +kernel
theorem d_Model_warns_22 : decode b_Model_warns 22 = .ok (.iload_n 2, 1) := by decide +kernel
theorem d_Model_warns_23 : decode b_Model_warns 23 = .ok (.iadd, 1) := by decide +kernel
theorem d_Model_warns_24 : decode b_Model_warns 24 = .ok (.iastore, 1) := by decide +kernel
theorem d_Model_warns_25 : decode b_Model_warns 25 = .ok (.aload_n 0, 1) := by decide +kernel
theorem d_Model_warns_26 : decode b_Model_warns 26 = .ok (.dup, 1) := by decide +kernel
theorem d_Model_warns_27 : decode b_Model_warns 27 = .ok (.getfield 120, 3) := by decide +kernel
theorem d_Model_warns_30 : decode b_Model_warns 30 = .ok (.iconst 1, 1) := by decide +kernel
theorem d_Model_warns_31 : decode b_Model_warns 31 = .ok (.iadd, 1) := by decide +kernel
theorem d_Model_warns_32 : decode b_Model_warns 32 = .ok (.putfield 120, 3) := by decide +kernel
theorem d_Model_warns_35 : decode b_Model_warns 35 = .ok (.return_, 1) := by decide +kernel
theorem d_Model_ends_0 : decode b_Model_ends 0 = .ok (.aload_n 0, 1) := by decide +kernel
theorem d_Model_ends_1 : decode b_Model_ends 1 = .ok (.getfield 69, 3) := by decide +kernel
theorem d_Model_ends_4 : decode b_Model_ends 4 = .ok (.iload_n 1, 1) := by decide +kernel
theorem d_Model_ends_5 : decode b_Model_ends 5 = .ok (.iaload, 1) := by decide +kernel
theorem d_Model_ends_6 : decode b_Model_ends 6 = .ok (.istore_n 3, 1) := by decide +kernel
theorem d_Model_ends_7 : decode b_Model_ends 7 = .ok (.aload_n 0, 1) := by decide +kernel
theorem d_Model_ends_8 : decode b_Model_ends 8 = .ok (.getfield 81, 3) := by decide +kernel
theorem d_Model_ends_11 : decode b_Model_ends 11 = .ok (.iload_n 1, 1) := by decide +kernel
theorem d_Model_ends_12 : decode b_Model_ends 12 = .ok (.iconst 5, 1) := by decide +kernel
theorem d_Model_ends_13 : decode b_Model_ends 13 = .ok (.iastore, 1) := by decide +kernel
theorem d_Model_ends_14 : decode b_Model_ends 14 = .ok (.aload_n 0, 1) := by decide +kernel
theorem d_Model_ends_15 : decode b_Model_ends 15 = .ok (.getfield 38, 3) := by decide +kernel
theorem d_Model_ends_18 : decode b_Model_ends 18 = .ok (.iload_n 3, 1) := by decide +kernel
theorem d_Model_ends_19 : decode b_Model_ends 19 = .ok (.iaload, 1) := by decide +kernel
theorem d_Model_ends_20 : decode b_Model_ends 20 = .ok (.ifCond .eq 23, 3) := by decide +kernel
theorem d_Model_ends_23 : decode b_Model_ends 23 = .ok (.iload_n 2, 1) := by decide +kernel
theorem d_Model_ends_24 : decode b_Model_ends 24 = .ok (.ifCond .lt 18, 3) := by decide +kernel
theorem d_Model_ends_27 : decode b_Model_ends 27 = .ok (.aload_n 0, 1) := by decide +kernel
theorem d_Model_ends_28 : decode b_Model_ends 28 = .ok (.getfield 90, 3) := by decide +kernel
theorem d_Model_ends_31 : decode b_Model_ends 31 = .ok (.iload_n 1, 1) := by decide +kernel
theorem d_Model_ends_32 : decode b_Model_ends 32 = .ok (.baload, 1) := by decide +kernel
theorem d_Model_ends_33 : decode b_Model_ends 33 = .ok (.ifCond .ne 9, 3) := by decide +kernel
theorem d_Model_ends_36 : decode b_Model_ends 36 = .ok (.aload_n 0, 1) := by decide +kernel
theorem d_Model_ends_37 : decode b_Model_ends 37 = .ok (.iload_n 3, 1) := by decide +kernel
theorem d_Model_ends_38 : decode b_Model_ends 38 = .ok (.iload_n 2, 1) := by decide +kernel
theorem d_Model_ends_39 : decode b_Model_ends 39 = .ok (.invokevirtual 123, 3) := by decide +kernel
theorem d_Model_ends_42 : decode b_Model_ends 42 = .ok (.return_, 1) := by decide +kernel
theorem d_Model_ends_43 : decode b_Model_ends 43 = .ok (.aload_n 0, 1) := by decide +kernel
theorem d_Model_ends_44 : decode b_Model_ends 44 = .ok (.getfield 53, 3) := by decide +kernel
theorem d_Model_ends_47 : decode b_Model_ends 47 = .ok (.iload_n 3, 1) := by decide +kernel
theorem d_Model_ends_48 : decode b_Model_ends 48 = .ok (.iaload, 1) := by decide +kernel
theorem d_Model_ends_49 : decode b_Model_ends 49 = .ok (.iload_n 1, 1) := by decide +kernel
theorem d_Model_ends_50 : decode b_Model_ends 50 = .ok (.if_icmp .ne 39, 3) := by decide +kernel
theorem d_Model_ends_53 : decode b_Model_ends 53 = .ok (.iload_n 2, 1) := by decide +kernel
theorem d_Model_ends_54 : decode b_Model_ends 54 = .ok (.ifCond .lt 7, 3) := by decide +kernel
theorem d_Model_ends_57 : decode b_Model_ends 57 = .ok (.iload_n 2, 1) := by decide +kernel
theorem d_Model_ends_58 : decode b_Model_ends 58 = .ok (.goto 9, 3) := by decide +kernel
theorem d_Model_ends_61 : decode b_Model_ends 61 = .ok (.aload_n 0, 1) := by decide +kernel
theorem d_Model_ends_62 : decode b_Model_ends 62 = .ok (.getfield 56, 3) := by decide +kernel
theorem d_Model_ends_65 : decode b_Model_ends 65 = .ok (.iload_n 3, 1) := by decide +kernel
theorem d_Model_ends_66 : decode b_Model_ends 66 = .ok (.iaload, 1) := by decide +kernel
theorem d_Model_ends_67 : decode b_Model_ends 67 = .ok (.istore 4, 2) := by decide +kernel
theorem d_Model_ends_69 : decode b_Model_ends 69 = .ok (.aload_n 0, 1) := by decide +kernel
theorem d_Model_ends_70 : decode b_Model_ends 70 = .ok (.iload_n 3, 1) := by decide +kernel
theorem d_Model_ends_71 : decode b_Model_ends 71 = .ok (.iload 4, 2) := by decide +kernel
theorem d_Model_ends_73 : decode b_Model_ends 73 = .ok (.ifCond .lt 7, 3) := by decide +kernel
theorem d_Model_ends_76 : decode b_Model_ends 76 = .ok (.iconst 2, 1) := by decide +kernel
theorem d_Model_ends_77 : decode b_Model_ends 77 = .ok (.goto 4, 3) := by decide +kernel
theorem d_Model_ends_80 : decode b_Model_ends 80 = .ok (.iconst 1, 1) := by decide +kernel
theorem d_Model_ends_81 : decode b_Model_ends 81 = .ok (.iload 4, 2) := by decide +kernel
theorem d_Model_ends_83 : decode b_Model_ends 83 = .ok (.invokevirtual 127, 3) := by decide +kernel
theorem d_Model_ends_86 : decode b_Model_ends 86 = .ok (.goto 32, 3) := by decide +kernel
theorem d_Model_ends_89 : decode b_Model_ends 89 = .ok (.iload_n 2, 1) := by decide +kernel
theorem d_Model_ends_90 : decode b_Model_ends 90 = .ok (.ifCond .lt 28, 3) := by decide +kernel
theorem d_Model_ends_93 : decode b_Model_ends 93 = .ok (.aload_n 0, 1) := by decide +kernel
theorem d_Model_ends_94 : decode b_Model_ends 94 = .ok (.getfield 90, 3) := by decide +kernel
theorem d_Model_ends_97 : decode b_Model_ends 97 = .ok (.iload_n 1, 1) := by decide +kernel
theorem d_Model_ends_98 : decode b_Model_ends 98 = .ok (.baload, 1) := by decide +kernel
theorem d_Model_ends_99 : decode b_Model_ends 99 = .ok (.ifCond .ne 19, 3) := by decide +kernel
theorem d_Model_ends_102 : decode b_Model_ends 102 = .ok (.aload_n 0, 1) := by decide +kernel
theorem d_Model_ends_103 : decode b_Model_ends 103 = .ok (.getfield 56, 3) := by decide +kernel
theorem d_Model_ends_106 : decode b_Model_ends 106 = .ok (.iload_n 3, 1) := by decide +kernel
theorem d_Model_ends_107 : decode b_Model_ends 107 = .ok (.iaload, 1) := by decide +kernel
theorem d_Model_ends_108 : decode b_Model_ends 108 = .ok (.ifCond .ge 10, 3) := by decide +kernel
theorem d_Model_ends_111 : decode b_Model_ends 111 = .ok (.aload_n 0, 1) := by decide +kernel
theorem d_Model_ends_112 : decode b_Model_ends 112 = .ok (.getfield 56, 3) := by decide +kernel
theorem d_Model_ends_115 : decode b_Model_ends 115 = .ok (.iload_n 3, 1) := by decide +kernel
theorem d_Model_ends_116 : decode b_Model_ends 116 = .ok (.iload_n 2, 1) := by decide +kernel
theorem d_Model_ends_117 : decode b_Model_ends 117 = .ok (.iastore, 1) := by decide +kernel
theorem d_Model_ends_118 : decode b_Model_ends 118 = .ok (.return_, 1) := by decide +kernel
theorem d_Model_starts_0 : decode b_Model_starts 0 = .ok (.aload_n 0, 1) := by decide +kernel
theorem d_Model_starts_1 : decode b_Model_starts 1 = .ok (.getfield 131, 3) := by decide +kernel
theorem d_Model_starts_4 : decode b_Model_starts 4 = .ok (.istore 4, 2) := by decide +kernel
theorem d_Model_starts_6 : decode b_Model_starts 6 = .ok (.aload_n 0, 1) := by decide +kernel
theorem d_Model_starts_7 : decode b_Model_starts 7 = .ok (.dup, 1) := by decide +kernel
theorem d_Model_starts_8 : decode b_Model_starts 8 = .ok (.getfield 131, 3) := by decide +kernel
theorem d_Model_starts_11 : decode b_Model_starts 11 = .ok (.iconst 1, 1) := by decide +kernel
theorem d_Model_starts_12 : decode b_Model_starts 12 = .ok (.iadd, 1) := by decide +kernel
theorem d_Model_starts_13 : decode b_Model_starts 13 = .ok (.putfield 131, 3) := by decide +kernel
theorem d_Model_starts_16 : decode b_Model_starts 16 = .ok (.aload_n 0, 1) := by decide +kernel
theorem d_Model_starts_17 : decode b_Model_starts 17 = .ok (.getfield 69, 3) := by decide +kernel
theorem d_Model_starts_20 : decode b_Model_starts 20 = .ok (.iload 4, 2) := by decide +kernel
theorem d_Model_starts_22 : decode b_Model_starts 22 = .ok (.iload_n 1, 1) := by decide +kernel
theorem d_Model_starts_23 : decode b_Model_starts 23 = .ok (.iastore, 1) := by decide +kernel
theorem d_Model_starts_24 : decode b_Model_starts 24 = .ok (.aload_n 0, 1) := by decide +kernel
theorem d_Model_starts_25 : decode b_Model_starts 25 = .ok (.getfield 72, 3) := by decide +kernel
theorem d_Model_starts_28 : decode b_Model_starts 28 = .ok (.iload 4, 2) := by decide +kernel
theorem d_Model_starts_30 : decode b_Model_starts 30 = .ok (.iload_n 3, 1) := by decide +kernel
theorem d_Model_starts_31 : decode b_Model_starts 31 = .ok (.iastore, 1) := by decide +kernel
theorem d_Model_starts_32 : decode b_Model_starts 32 = .ok (.aload_n 0, 1) := by decide +kernel
theorem d_Model_starts_33 : decode b_Model_starts 33 = .ok (.getfield 75, 3) := by decide +kernel
theorem d_Model_starts_36 : decode b_Model_starts 36 = .ok (.iload 4, 2) := by decide +kernel
theorem d_Model_starts_38 : decode b_Model_starts 38 = .ok (.iload_n 2, 1) := by decide +kernel
theorem d_Model_starts_39 : decode b_Model_starts 39 = .ok (.iastore, 1) := by decide +kernel
theorem d_Model_starts_40 : decode b_Model_starts 40 = .ok (.aload_n 0, 1) := by decide +kernel
theorem d_Model_starts_41 : decode b_Model_starts 41 = .ok (.getfield 78, 3) := by decide +kernel
theorem d_Model_starts_44 : decode b_Model_starts 44 = .ok (.iload 4, 2) := by decide +kernel
theorem d_Model_starts_46 : decode b_Model_starts 46 = .ok (.iconst 0, 1) := by decide +kernel
theorem d_Model_starts_47 : decode b_Model_starts 47 = .ok (.iastore, 1) := by decide +kernel
theorem d_Model_starts_48 : decode b_Model_starts 48 = .ok (.aload_n 0, 1) := by decide +kernel
theorem d_Model_starts_49 : decode b_Model_starts 49 = .ok (.getfield 81, 3) := by decide +kernel
theorem d_Model_starts_52 : decode b_Model_starts 52 = .ok (.iload 4, 2) := by decide +kernel
theorem d_Model_starts_54 : decode b_Model_starts 54 = .ok (.iconst 0, 1) := by decide +kernel
theorem d_Model_starts_55 : decode b_Model_starts 55 = .ok (.iastore, 1) := by decide +kernel
theorem d_Model_starts_56 : decode b_Model_starts 56 = .ok (.aload_n 0, 1) := by decide +kernel
theorem d_Model_starts_57 : decode b_Model_starts 57 = .ok (.getfield 87, 3) := by decide +kernel
theorem d_Model_starts_60 : decode b_Model_starts 60 = .ok (.iload 4, 2) := by decide +kernel
theorem d_Model_starts_62 : decode b_Model_starts 62 = .ok (.iconst 0, 1) := by decide +kernel
theorem d_Model_starts_63 : decode b_Model_starts 63 = .ok (.bastore, 1) := by decide +kernel
theorem d_Model_starts_64 : decode b_Model_starts 64 = .ok (.aload_n 0, 1) := by decide +kernel
theorem d_Model_starts_65 : decode b_Model_starts 65 = .ok (.getfield 90, 3) := by decide +kernel
theorem d_Model_starts_68 : decode b_Model_starts 68 = .ok (.iload 4, 2) := by decide +kernel
theorem d_Model_starts_70 : decode b_Model_starts 70 = .ok (.iconst 0, 1) := by decide +kernel
theorem d_Model_starts_71 : decode b_Model_starts 71 = .ok (.bastore, 1) := by decide +kernel
theorem d_Model_starts_72 : decode b_Model_starts 72 = .ok (.aload_n 0, 1) := by decide +kernel
theorem d_Model_starts_73 : decode b_Model_starts 73 = .ok (.getfield 59, 3) := by decide +kernel
theorem d_Model_starts_76 : decode b_Model_starts 76 = .ok (.iload_n 1, 1) := by decide +kernel
theorem d_Model_starts_77 : decode b_Model_starts 77 = .ok (.dup2, 1) := by decide +kernel
theorem d_Model_starts_78 : decode b_Model_starts 78 = .ok (.iaload, 1) := by decide +kernel
theorem d_Model_starts_79 : decode b_Model_starts 79 = .ok (.iconst 1, 1) := by decide +kernel
theorem d_Model_starts_80 : decode b_Model_starts 80 = .ok (.iadd, 1) := by decide +kernel
theorem d_Model_starts_81 : decode b_Model_starts 81 = .ok (.iastore, 1) := by decide +kernel
theorem d_Model_starts_82 : decode b_Model_starts 82 = .ok (.iload 4, 2) := by decide +kernel
theorem d_Model_starts_84 : decode b_Model_starts 84 = .ok (.ireturn, 1) := by decide +kernel
theorem d_Model_guards_0 : decode b_Model_guards 0 = .ok (.iconst 0, 1) := by decide +kernel
theorem d_Model_guards_1 : decode b_Model_guards 1 = .ok (.istore_n 1, 1) := by decide +kernel
theorem d_Model_guards_2 : decode b_Model_guards 2 = .ok (.iload_n 1, 1) := by decide +kernel
theorem d_Model_guards_3 : decode b_Model_guards 3 = .ok (.bipush 10, 2) := by decide +kernel
theorem d_Model_guards_5 : decode b_Model_guards 5 = .ok (.if_icmp .ge 146, 3) := by decide +kernel
theorem d_Model_guards_8 : decode b_Model_guards 8 = .ok (.iconst 0, 1) := by decide +kernel
theorem d_Model_guards_9 : decode b_Model_guards 9 = .ok (.istore_n 2, 1) := by decide +kernel
theorem d_Model_guards_10 : decode b_Model_guards 10 = .ok (.iload_n 2, 1) := by decide +kernel
theorem d_Model_guards_11 : decode b_Model_guards 11 = .ok (.aload_n 0, 1) := by decide +kernel
theorem d_Model_guards_12 : decode b_Model_guards 12 = .ok (.getfield 20, 3) := by decide +kernel
theorem d_Model_guards_15 : decode b_Model_guards 15 = .ok (.iload_n 1, 1) := by decide +kernel
theorem d_Model_guards_16 : decode b_Model_guards 16 = .ok (.iaload, 1) := by decide +kernel
theorem d_Model_guards_17 : decode b_Model_guards 17 = .ok (.if_icmp .ge 128, 3) := by decide +kernel
theorem d_Model_guards_20 : decode b_Model_guards 20 = .ok (.iload_n 2, 1) := by decide +kernel
theorem d_Model_guards_21 : decode b_Model_guards 21 = .ok (.aload_n 0, 1) := by decide +kernel
theorem d_Model_guards_22 : decode b_Model_guards 22 = .ok (.getfield 17, 3) := by decide +kernel
theorem d_Model_guards_25 : decode b_Model_guards 25 = .ok (.bipush 10, 2) := by decide +kernel
theorem d_Model_guards_27 : decode b_Model_guards 27 = .ok (.iload_n 1, 1) := by decide +kernel
theorem d_Model_guards_28 : decode b_Model_guards 28 = .ok (.imul, 1) := by decide +kernel
theorem d_Model_guards_29 : decode b_Model_guards 29 = .ok (.iload_n 2, 1) := by decide +kernel
theorem d_Model_guards_30 : decode b_Model_guards 30 = .ok (.iadd, 1) := by decide +kernel
theorem d_Model_guards_31 : decode b_Model_guards 31 = .ok (.iaload, 1) := by decide +kernel
theorem d_Model_guards_32 : decode b_Model_guards 32 = .ok (.iadd, 1) := by decide +kernel
theorem d_Model_guards_33 : decode b_Model_guards 33 = .ok (.aload_n 0, 1) := by decide +kernel
theorem d_Model_guards_34 : decode b_Model_guards 34 = .ok (.getfield 20, 3) := by decide +kernel
theorem d_Model_guards_37 : decode b_Model_guards 37 = .ok (.iload_n 1, 1) := by decide +kernel
theorem d_Model_guards_38 : decode b_Model_guards 38 = .ok (.iaload, 1) := by decide +kernel
theorem d_Model_guards_39 : decode b_Model_guards 39 = .ok (.iconst 1, 1) := by decide +kernel
theorem d_Model_guards_40 : decode b_Model_guards 40 = .ok (.isub, 1) := by decide +kernel
theorem d_Model_guards_41 : decode b_Model_guards 41 = .ok (.invokestatic 134, 3) := by decide +kernel
theorem d_Model_guards_44 : decode b_Model_guards 44 = .ok (.istore_n 3, 1) := by decide +kernel
theorem d_Model_guards_45 : decode b_Model_guards 45 = .ok (.aload_n 0, 1) := by decide +kernel
theorem d_Model_guards_46 : decode b_Model_guards 46 = .ok (.getfield 13, 3) := by decide +kernel
theorem d_Model_guards_49 : decode b_Model_guards 49 = .ok (.bipush 10, 2) := by decide +kernel
theorem d_Model_guards_51 : decode b_Model_guards 51 = .ok (.iload_n 1, 1) := by decide +kernel
theorem d_Model_guards_52 : decode b_Model_guards 52 = .ok (.imul, 1) := by decide +kernel
theorem d_Model_guards_53 : decode b_Model_guards 53 = .ok (.iload_n 2, 1) := by decide +kernel
theorem d_Model_guards_54 : decode b_Model_guards 54 = .ok (.iadd, 1) := by decide +kernel
theorem d_Model_guards_55 : decode b_Model_guards 55 = .ok (.iaload, 1) := by decide +kernel
theorem d_Model_guards_56 : decode b_Model_guards 56 = .ok (.iconst 4, 1) := by decide +kernel
theorem d_Model_guards_57 : decode b_Model_guards 57 = .ok (.if_icmp .eq 6, 3) := by decide +kernel
theorem d_Model_guards_60 : decode b_Model_guards 60 = .ok (.goto 79, 3) := by decide +kernel
theorem d_Model_guards_63 : decode b_Model_guards 63 = .ok (.iconst 0, 1) := by decide +kernel
theorem d_Model_guards_64 : decode b_Model_guards 64 = .ok (.istore 4, 2) := by decide +kernel
theorem d_Model_guards_66 : decode b_Model_guards 66 = .ok (.iload 4, 2) := by decide +kernel
theorem d_Model_guards_68 : decode b_Model_guards 68 = .ok (.iload_n 2, 1) := by decide +kernel
theorem d_Model_guards_69 : decode b_Model_guards 69 = .ok (.if_icmp .ge 58, 3) := by decide +kernel
theorem d_Model_guards_72 : decode b_Model_guards 72 = .ok (.aload_n 0, 1) := by decide +kernel
theorem d_Model_guards_73 : decode b_Model_guards 73 = .ok (.getfield 13, 3) := by decide +kernel
theorem d_Model_guards_76 : decode b_Model_guards 76 = .ok (.bipush 10, 2) := by decide +kernel
theorem d_Model_guards_78 : decode b_Model_guards 78 = .ok (.iload_n 1, 1) := by decide +kernel
theorem d_Model_guards_79 : decode b_Model_guards 79 = .ok (.imul, 1) := by decide +kernel
theorem d_Model_guards_80 : decode b_Model_guards 80 = .ok (.iload 4, 2) := by decide +kernel
theorem d_Model_guards_82 : decode b_Model_guards 82 = .ok (.iadd, 1) := by decide +kernel
theorem d_Model_guards_83 : decode b_Model_guards 83 = .ok (.iaload, 1) := by decide +kernel
theorem d_Model_guards_84 : decode b_Model_guards 84 = .ok (.iconst 4, 1) := by decide +kernel
theorem d_Model_guards_85 : decode b_Model_guards 85 = .ok (.if_icmp .ne 36, 3) := by decide +kernel
theorem d_Model_guards_88 : decode b_Model_guards 88 = .ok (.aload_n 0, 1) := by decide +kernel
theorem d_Model_guards_89 : decode b_Model_guards 89 = .ok (.getfield 23, 3) := by decide +kernel
theorem d_Model_guards_92 : decode b_Model_guards 92 = .ok (.bipush 10, 2) := by decide +kernel
theorem d_Model_guards_94 : decode b_Model_guards 94 = .ok (.iload_n 1, 1) := by decide +kernel
theorem d_Model_guards_95 : decode b_Model_guards 95 = .ok (.imul, 1) := by decide +kernel
theorem d_Model_guards_96 : decode b_Model_guards 96 = .ok (.iload 4, 2) := by decide +kernel
theorem d_Model_guards_98 : decode b_Model_guards 98 = .ok (.iadd, 1) := by decide +kernel
theorem d_Model_guards_99 : decode b_Model_guards 99 = .ok (.iaload, 1) := by decide +kernel
theorem d_Model_guards_100 : decode b_Model_guards 100 = .ok (.iload_n 2, 1) := by decide +kernel
theorem d_Model_guards_101 : decode b_Model_guards 101 = .ok (.if_icmp .lt 20, 3) := by decide +kernel
theorem d_Model_guards_104 : decode b_Model_guards 104 = .ok (.iload_n 3, 1) := by decide +kernel
theorem d_Model_guards_105 : decode b_Model_guards 105 = .ok (.aload_n 0, 1) := by decide +kernel
theorem d_Model_guards_106 : decode b_Model_guards 106 = .ok (.getfield 23, 3) := by decide +kernel
theorem d_Model_guards_109 : decode b_Model_guards 109 = .ok (.bipush 10, 2) := by decide +kernel
theorem d_Model_guards_111 : decode b_Model_guards 111 = .ok (.iload_n 1, 1) := by decide +kernel
theorem d_Model_guards_112 : decode b_Model_guards 112 = .ok (.imul, 1) := by decide +kernel
theorem d_Model_guards_113 : decode b_Model_guards 113 = .ok (.iload 4, 2) := by decide +kernel
theorem d_Model_guards_115 : decode b_Model_guards 115 = .ok (.iadd, 1) := by decide +kernel
theorem d_Model_guards_116 : decode b_Model_guards 116 = .ok (.iaload, 1) := by decide +kernel
theorem d_Model_guards_117 : decode b_Model_guards 117 = .ok (.invokestatic 134, 3) := by decide +kernel
theorem d_Model_guards_120 : decode b_Model_guards 120 = .ok (.istore_n 3, 1) := by decide +kernel
theorem d_Model_guards_121 : decode b_Model_guards 121 = .ok (.iinc 4 1, 3) := by decide +kernel
theorem d_Model_guards_124 : decode b_Model_guards 124 = .ok (.goto (-58), 3) := by decide +kernel
theorem d_Model_guards_127 : decode b_Model_guards 127 = .ok (.aload_n 0, 1) := by decide +kernel
theorem d_Model_guards_128 : decode b_Model_guards 128 = .ok (.getfield 23, 3) := by decide +kernel
theorem d_Model_guards_131 : decode b_Model_guards 131 = .ok (.bipush 10, 2) := by decide +kernel
theorem d_Model_guards_133 : decode b_Model_guards 133 = .ok (.iload_n 1, 1) := by decide +kernel
theorem d_Model_guards_134 : decode b_Model_guards 134 = .ok (.imul, 1) := by decide +kernel
theorem d_Model_guards_135 : decode b_Model_guards 135 = .ok (.iload_n 2, 1) := by decide +kernel
theorem d_Model_guards_136 : decode b_Model_guards 136 = .ok (.iadd, 1) := by decide +kernel
theorem d_Model_guards_137 : decode b_Model_guards 137 = .ok (.iload_n 3, 1) := by decide +kernel
theorem d_Model_guards_138 : decode b_Model_guards 138 = .ok (.iastore, 1) := by decide +kernel
theorem d_Model_guards_139 : decode b_Model_guards 139 = .ok (.iinc 2 1, 3) := by decide +kernel
theorem d_Model_guards_142 : decode b_Model_guards 142 = .ok (.goto (-132), 3) := by decide +kernel
theorem d_Model_guards_145 : decode b_Model_guards 145 = .ok (.iinc 1 1, 3) := by decide +kernel
theorem d_Model_guards_148 : decode b_Model_guards 148 = .ok (.goto (-146), 3) := by decide +kernel
theorem d_Model_guards_151 : decode b_Model_guards 151 = .ok (.return_, 1) := by decide +kernel
theorem d_Model_least_0 : decode b_Model_least 0 = .ok (.iload_n 0, 1) := by decide +kernel
theorem d_Model_least_1 : decode b_Model_least 1 = .ok (.iload_n 1, 1) := by decide +kernel
theorem d_Model_least_2 : decode b_Model_least 2 = .ok (.if_icmp .ge 7, 3) := by decide +kernel
theorem d_Model_least_5 : decode b_Model_least 5 = .ok (.iload_n 0, 1) := by decide +kernel
theorem d_Model_least_6 : decode b_Model_least 6 = .ok (.goto 4, 3) := by decide +kernel
theorem d_Model_least_9 : decode b_Model_least 9 = .ok (.iload_n 1, 1) := by decide +kernel
theorem d_Model_least_10 : decode b_Model_least 10 = .ok (.ireturn, 1) := by decide +kernel
theorem d_Model_interrupts_0 : decode b_Model_interrupts 0 = .ok (.aload_n 0, 1) := by decide +kernel
theorem d_Model_interrupts_1 : decode b_Model_interrupts 1 = .ok (.getfield 87, 3) := by decide +kernel
theorem d_Model_interrupts_4 : decode b_Model_interrupts 4 = .ok (.iload_n 1, 1) := by decide +kernel
theorem d_Model_interrupts_5 : decode b_Model_interrupts 5 = .ok (.iconst 0, 1) := by decide +kernel
theorem d_Model_interrupts_6 : decode b_Model_interrupts 6 = .ok (.bastore, 1) := by decide +kernel
theorem d_Model_interrupts_7 : decode b_Model_interrupts 7 = .ok (.bipush 10, 2) := by decide +kernel
theorem d_Model_interrupts_9 : decode b_Model_interrupts 9 = .ok (.aload_n 0, 1) := by decide +kernel
theorem d_Model_interrupts_10 : decode b_Model_interrupts 10 = .ok (.getfield 75, 3) := by decide +kernel
theorem d_Model_interrupts_13 : decode b_Model_interrupts 13 = .ok (.iload_n 1, 1) := by decide +kernel
theorem d_Model_interrupts_14 : decode b_Model_interrupts 14 = .ok (.iaload, 1) := by decide +kernel
theorem d_Model_interrupts_15 : decode b_Model_interrupts 15 = .ok (.imul, 1) := by decide +kernel
theorem d_Model_interrupts_16 : decode b_Model_interrupts 16 = .ok (.istore_n 3, 1) := by decide +kernel
theorem d_Model_interrupts_17 : decode b_Model_interrupts 17 = .ok (.iconst (-1), 1) := by decide +kernel
theorem d_Model_interrupts_18 : decode b_Model_interrupts 18 = .ok (.istore 4, 2) := by decide +kernel
theorem d_Model_interrupts_20 : decode b_Model_interrupts 20 = .ok (.iconst 0, 1) := by decide +kernel
theorem d_Model_interrupts_21 : decode b_Model_interrupts 21 = .ok (.istore 5, 2) := by decide +kernel
theorem d_Model_interrupts_23 : decode b_Model_interrupts 23 = .ok (.iload 5, 2) := by decide +kernel
theorem d_Model_interrupts_25 : decode b_Model_interrupts 25 = .ok (.iload_n 2, 1) := by decide +kernel
theorem d_Model_interrupts_26 : decode b_Model_interrupts 26 = .ok (.if_icmp .ge 39, 3) := by decide +kernel
theorem d_Model_interrupts_29 : decode b_Model_interrupts 29 = .ok (.aload_n 0, 1) := by decide +kernel
theorem d_Model_interrupts_30 : decode b_Model_interrupts 30 = .ok (.getfield 13, 3) := by decide +kernel
theorem d_Model_interrupts_33 : decode b_Model_interrupts 33 = .ok (.iload_n 3, 1) := by decide +kernel
theorem d_Model_interrupts_34 : decode b_Model_interrupts 34 = .ok (.iload 5, 2) := by decide +kernel
theorem d_Model_interrupts_36 : decode b_Model_interrupts 36 = .ok (.iadd, 1) := by decide +kernel
theorem d_Model_interrupts_37 : decode b_Model_interrupts 37 = .ok (.iaload, 1) := by decide +kernel
theorem d_Model_interrupts_38 : decode b_Model_interrupts 38 = .ok (.iconst 4, 1) := by decide +kernel
theorem d_Model_interrupts_39 : decode b_Model_interrupts 39 = .ok (.if_icmp .ne 20, 3) := by decide +kernel
theorem d_Model_interrupts_42 : decode b_Model_interrupts 42 = .ok (.aload_n 0, 1) := by decide +kernel
theorem d_Model_interrupts_43 : decode b_Model_interrupts 43 = .ok (.getfield 23, 3) := by decide +kernel
theorem d_Model_interrupts_46 : decode b_Model_interrupts 46 = .ok (.iload_n 3, 1) := by decide +kernel
theorem d_Model_interrupts_47 : decode b_Model_interrupts 47 = .ok (.iload 5, 2) := by decide +kernel
theorem d_Model_interrupts_49 : decode b_Model_interrupts 49 = .ok (.iadd, 1) := by decide +kernel
theorem d_Model_interrupts_50 : decode b_Model_interrupts 50 = .ok (.iaload, 1) := by decide +kernel
theorem d_Model_interrupts_51 : decode b_Model_interrupts 51 = .ok (.iload_n 2, 1) := by decide +kernel
theorem d_Model_interrupts_52 : decode b_Model_interrupts 52 = .ok (.if_icmp .lt 7, 3) := by decide +kernel
theorem d_Model_interrupts_55 : decode b_Model_interrupts 55 = .ok (.iload 5, 2) := by decide +kernel
theorem d_Model_interrupts_57 : decode b_Model_interrupts 57 = .ok (.istore 4, 2) := by decide +kernel
theorem d_Model_interrupts_59 : decode b_Model_interrupts 59 = .ok (.iinc 5 1, 3) := by decide +kernel
theorem d_Model_interrupts_62 : decode b_Model_interrupts 62 = .ok (.goto (-39), 3) := by decide +kernel
theorem d_Model_interrupts_65 : decode b_Model_interrupts 65 = .ok (.iload 4, 2) := by decide +kernel
theorem d_Model_interrupts_67 : decode b_Model_interrupts 67 = .ok (.ifCond .ge 13, 3) := by decide +kernel
theorem d_Model_interrupts_70 : decode b_Model_interrupts 70 = .ok (.aload_n 0, 1) := by decide +kernel
theorem d_Model_interrupts_71 : decode b_Model_interrupts 71 = .ok (.iload_n 1, 1) := by decide +kernel
theorem d_Model_interrupts_72 : decode b_Model_interrupts 72 = .ok (.bipush 100, 2) := by decide +kernel
theorem d_Model_interrupts_74 : decode b_Model_interrupts 74 = .ok (.invokevirtual 138, 3) := by decide +kernel
theorem d_Model_interrupts_77 : decode b_Model_interrupts 77 = .ok (.goto 27, 3) := by decide +kernel
theorem d_Model_interrupts_80 : decode b_Model_interrupts 80 = .ok (.aload_n 0, 1) := by decide +kernel
theorem d_Model_interrupts_81 : decode b_Model_interrupts 81 = .ok (.getfield 81, 3) := by decide +kernel
theorem d_Model_interrupts_84 : decode b_Model_interrupts 84 = .ok (.iload_n 1, 1) := by decide +kernel
theorem d_Model_interrupts_85 : decode b_Model_interrupts 85 = .ok (.iconst 0, 1) := by decide +kernel
theorem d_Model_interrupts_86 : decode b_Model_interrupts 86 = .ok (.iastore, 1) := by decide +kernel
theorem d_Model_interrupts_87 : decode b_Model_interrupts 87 = .ok (.aload_n 0, 1) := by decide +kernel
theorem d_Model_interrupts_88 : decode b_Model_interrupts 88 = .ok (.getfield 78, 3) := by decide +kernel
theorem d_Model_interrupts_91 : decode b_Model_interrupts 91 = .ok (.iload_n 1, 1) := by decide +kernel
theorem d_Model_interrupts_92 : decode b_Model_interrupts 92 = .ok (.aload_n 0, 1) := by decide +kernel
theorem d_Model_interrupts_93 : decode b_Model_interrupts 93 = .ok (.getfield 23, 3) := by decide +kernel
theorem d_Model_interrupts_96 : decode b_Model_interrupts 96 = .ok (.iload_n 3, 1) := by decide +kernel
theorem d_Model_interrupts_97 : decode b_Model_interrupts 97 = .ok (.iload 4, 2) := by decide +kernel
theorem d_Model_interrupts_99 : decode b_Model_interrupts 99 = .ok (.iadd, 1) := by decide +kernel
theorem d_Model_interrupts_100 : decode b_Model_interrupts 100 = .ok (.iaload, 1) := by decide +kernel
theorem d_Model_interrupts_101 : decode b_Model_interrupts 101 = .ok (.iconst 1, 1) := by decide +kernel
theorem d_Model_interrupts_102 : decode b_Model_interrupts 102 = .ok (.iadd, 1) := by decide +kernel
theorem d_Model_interrupts_103 : decode b_Model_interrupts 103 = .ok (.iastore, 1) := by decide +kernel
theorem d_Model_interrupts_104 : decode b_Model_interrupts 104 = .ok (.return_, 1) := by decide +kernel
theorem d_Model_joined_0 : decode b_Model_joined 0 = .ok (.iconst 0, 1) := by decide +kernel
theorem d_Model_joined_1 : decode b_Model_joined 1 = .ok (.istore_n 2, 1) := by decide +kernel
theorem d_Model_joined_2 : decode b_Model_joined 2 = .ok (.iload_n 2, 1) := by decide +kernel
theorem d_Model_joined_3 : decode b_Model_joined 3 = .ok (.aload_n 0, 1) := by decide +kernel
theorem d_Model_joined_4 : decode b_Model_joined 4 = .ok (.getfield 131, 3) := by decide +kernel
theorem d_Model_joined_7 : decode b_Model_joined 7 = .ok (.if_icmp .ge 31, 3) := by decide +kernel
theorem d_Model_joined_10 : decode b_Model_joined 10 = .ok (.aload_n 0, 1) := by decide +kernel
theorem d_Model_joined_11 : decode b_Model_joined 11 = .ok (.getfield 72, 3) := by decide +kernel
theorem d_Model_joined_14 : decode b_Model_joined 14 = .ok (.iload_n 2, 1) := by decide +kernel
theorem d_Model_joined_15 : decode b_Model_joined 15 = .ok (.iaload, 1) := by decide +kernel
theorem d_Model_joined_16 : decode b_Model_joined 16 = .ok (.iload_n 1, 1) := by decide +kernel
theorem d_Model_joined_17 : decode b_Model_joined 17 = .ok (.if_icmp .ne 15, 3) := by decide +kernel
theorem d_Model_joined_20 : decode b_Model_joined 20 = .ok (.aload_n 0, 1) := by decide +kernel
theorem d_Model_joined_21 : decode b_Model_joined 21 = .ok (.getfield 81, 3) := by decide +kernel
theorem d_Model_joined_24 : decode b_Model_joined 24 = .ok (.iload_n 2, 1) := by decide +kernel
theorem d_Model_joined_25 : decode b_Model_joined 25 = .ok (.iaload, 1) := by decide +kernel
theorem d_Model_joined_26 : decode b_Model_joined 26 = .ok (.iconst 5, 1) := by decide +kernel
theorem d_Model_joined_27 : decode b_Model_joined 27 = .ok (.if_icmp .eq 5, 3) := by decide +kernel
theorem d_Model_joined_30 : decode b_Model_joined 30 = .ok (.iconst 0, 1) := by decide +kernel
theorem d_Model_joined_31 : decode b_Model_joined 31 = .ok (.ireturn, 1) := by decide +kernel
theorem d_Model_joined_32 : decode b_Model_joined 32 = .ok (.iinc 2 1, 3) := by decide +kernel
theorem d_Model_joined_35 : decode b_Model_joined 35 = .ok (.goto (-33), 3) := by decide +kernel
theorem d_Model_joined_38 : decode b_Model_joined 38 = .ok (.iconst 1, 1) := by decide +kernel
theorem d_Model_joined_39 : decode b_Model_joined 39 = .ok (.ireturn, 1) := by decide +kernel
theorem d_Model_turn_0 : decode b_Model_turn 0 = .ok (.aload_n 0, 1) := by decide +kernel
theorem d_Model_turn_1 : decode b_Model_turn 1 = .ok (.getfield 81, 3) := by decide +kernel
theorem d_Model_turn_4 : decode b_Model_turn 4 = .ok (.iload_n 1, 1) := by decide +kernel
theorem d_Model_turn_5 : decode b_Model_turn 5 = .ok (.iaload, 1) := by decide +kernel
theorem d_Model_turn_6 : decode b_Model_turn 6 = .ok (.istore_n 2, 1) := by decide +kernel
theorem d_Model_turn_7 : decode b_Model_turn 7 = .ok (.iload_n 2, 1) := by decide +kernel
theorem d_Model_turn_8 : decode b_Model_turn 8 = .ok (.ifCond .eq 33, 3) := by decide +kernel
theorem d_Model_turn_11 : decode b_Model_turn 11 = .ok (.iload_n 2, 1) := by decide +kernel
theorem d_Model_turn_12 : decode b_Model_turn 12 = .ok (.iconst 1, 1) := by decide +kernel
theorem d_Model_turn_13 : decode b_Model_turn 13 = .ok (.if_icmp .eq 28, 3) := by decide +kernel
theorem d_Model_turn_16 : decode b_Model_turn 16 = .ok (.aload_n 0, 1) := by decide +kernel
theorem d_Model_turn_17 : decode b_Model_turn 17 = .ok (.getfield 87, 3) := by decide +kernel
theorem d_Model_turn_20 : decode b_Model_turn 20 = .ok (.iload_n 1, 1) := by decide +kernel
theorem d_Model_turn_21 : decode b_Model_turn 21 = .ok (.baload, 1) := by decide +kernel
theorem d_Model_turn_22 : decode b_Model_turn 22 = .ok (.ifCond .eq 19, 3) := by decide +kernel
theorem d_Model_turn_25 : decode b_Model_turn 25 = .ok (.aload_n 0, 1) := by decide +kernel
theorem d_Model_turn_26 : decode b_Model_turn 26 = .ok (.iload_n 1, 1) := by decide +kernel
theorem d_Model_turn_27 : decode b_Model_turn 27 = .ok (.aload_n 0, 1) := by decide +kernel
theorem d_Model_turn_28 : decode b_Model_turn 28 = .ok (.getfield 78, 3) := by decide +kernel
theorem d_Model_turn_31 : decode b_Model_turn 31 = .ok (.iload_n 1, 1) := by decide +kernel
theorem d_Model_turn_32 : decode b_Model_turn 32 = .ok (.iaload, 1) := by decide +kernel
theorem d_Model_turn_33 : decode b_Model_turn 33 = .ok (.iconst 1, 1) := by decide +kernel
theorem d_Model_turn_34 : decode b_Model_turn 34 = .ok (.isub, 1) := by decide +kernel
theorem d_Model_turn_35 : decode b_Model_turn 35 = .ok (.invokevirtual 140, 3) := by decide +kernel
theorem d_Model_turn_38 : decode b_Model_turn 38 = .ok (.goto 46, 3) := by decide +kernel
theorem d_Model_turn_41 : decode b_Model_turn 41 = .ok (.iload_n 2, 1) := by decide +kernel
theorem d_Model_turn_42 : decode b_Model_turn 42 = .ok (.iconst 1, 1) := by decide +kernel
theorem d_Model_turn_43 : decode b_Model_turn 43 = .ok (.if_icmp .eq 8, 3) := by decide +kernel
theorem d_Model_turn_46 : decode b_Model_turn 46 = .ok (.iload_n 2, 1) := by decide +kernel
theorem d_Model_turn_47 : decode b_Model_turn 47 = .ok (.iconst 2, 1) := by decide +kernel
theorem d_Model_turn_48 : decode b_Model_turn 48 = .ok (.if_icmp .ne 16, 3) := by decide +kernel
theorem d_Model_turn_51 : decode b_Model_turn 51 = .ok (.aload_n 0, 1) := by decide +kernel
theorem d_Model_turn_52 : decode b_Model_turn 52 = .ok (.getfield 117, 3) := by decide +kernel
theorem d_Model_turn_55 : decode b_Model_turn 55 = .ok (.aload_n 0, 1) := by decide +kernel
theorem d_Model_turn_56 : decode b_Model_turn 56 = .ok (.getfield 84, 3) := by decide +kernel
theorem d_Model_turn_59 : decode b_Model_turn 59 = .ok (.iload_n 1, 1) := by decide +kernel
theorem d_Model_turn_60 : decode b_Model_turn 60 = .ok (.iaload, 1) := by decide +kernel
theorem d_Model_turn_61 : decode b_Model_turn 61 = .ok (.if_icmp .ge 16, 3) := by decide +kernel
theorem d_Model_turn_64 : decode b_Model_turn 64 = .ok (.iload_n 2, 1) := by decide +kernel
theorem d_Model_turn_65 : decode b_Model_turn 65 = .ok (.iconst 4, 1) := by decide +kernel
theorem d_Model_turn_66 : decode b_Model_turn 66 = .ok (.if_icmp .ne 18, 3) := by decide +kernel
theorem d_Model_turn_69 : decode b_Model_turn 69 = .ok (.aload_n 0, 1) := by decide +kernel
theorem d_Model_turn_70 : decode b_Model_turn 70 = .ok (.iload_n 1, 1) := by decide +kernel
theorem d_Model_turn_71 : decode b_Model_turn 71 = .ok (.invokevirtual 143, 3) := by decide +kernel
theorem d_Model_turn_74 : decode b_Model_turn 74 = .ok (.ifCond .eq 10, 3) := by decide +kernel
theorem d_Model_turn_77 : decode b_Model_turn 77 = .ok (.aload_n 0, 1) := by decide +kernel
theorem d_Model_turn_78 : decode b_Model_turn 78 = .ok (.getfield 81, 3) := by decide +kernel
theorem d_Model_turn_81 : decode b_Model_turn 81 = .ok (.iload_n 1, 1) := by decide +kernel
theorem d_Model_turn_82 : decode b_Model_turn 82 = .ok (.iconst 0, 1) := by decide +kernel
theorem d_Model_turn_83 : decode b_Model_turn 83 = .ok (.iastore, 1) := by decide +kernel
theorem d_Model_turn_84 : decode b_Model_turn 84 = .ok (.aload_n 0, 1) := by decide +kernel
theorem d_Model_turn_85 : decode b_Model_turn 85 = .ok (.getfield 81, 3) := by decide +kernel
theorem d_Model_turn_88 : decode b_Model_turn 88 = .ok (.iload_n 1, 1) := by decide +kernel
theorem d_Model_turn_89 : decode b_Model_turn 89 = .ok (.iaload, 1) := by decide +kernel
theorem d_Model_turn_90 : decode b_Model_turn 90 = .ok (.ifCond .ne 56, 3) := by decide +kernel
theorem d_Model_turn_93 : decode b_Model_turn 93 = .ok (.aload_n 0, 1) := by decide +kernel
theorem d_Model_turn_94 : decode b_Model_turn 94 = .ok (.getfield 78, 3) := by decide +kernel
theorem d_Model_turn_97 : decode b_Model_turn 97 = .ok (.iload_n 1, 1) := by decide +kernel
theorem d_Model_turn_98 : decode b_Model_turn 98 = .ok (.iaload, 1) := by decide +kernel
theorem d_Model_turn_99 : decode b_Model_turn 99 = .ok (.aload_n 0, 1) := by decide +kernel
theorem d_Model_turn_100 : decode b_Model_turn 100 = .ok (.getfield 20, 3) := by decide +kernel
theorem d_Model_turn_103 : decode b_Model_turn 103 = .ok (.aload_n 0, 1) := by decide +kernel
theorem d_Model_turn_104 : decode b_Model_turn 104 = .ok (.getfield 75, 3) := by decide +kernel
theorem d_Model_turn_107 : decode b_Model_turn 107 = .ok (.iload_n 1, 1) := by decide +kernel
theorem d_Model_turn_108 : decode b_Model_turn 108 = .ok (.iaload, 1) := by decide +kernel
theorem d_Model_turn_109 : decode b_Model_turn 109 = .ok (.iaload, 1) := by decide +kernel
theorem d_Model_turn_110 : decode b_Model_turn 110 = .ok (.if_icmp .lt 12, 3) := by decide +kernel
theorem d_Model_turn_113 : decode b_Model_turn 113 = .ok (.aload_n 0, 1) := by decide +kernel
theorem d_Model_turn_114 : decode b_Model_turn 114 = .ok (.iload_n 1, 1) := by decide +kernel
theorem d_Model_turn_115 : decode b_Model_turn 115 = .ok (.iconst (-1), 1) := by decide +kernel
theorem d_Model_turn_116 : decode b_Model_turn 116 = .ok (.invokevirtual 138, 3) := by decide +kernel
theorem d_Model_turn_119 : decode b_Model_turn 119 = .ok (.goto (-35), 3) := by decide +kernel
theorem d_Model_turn_122 : decode b_Model_turn 122 = .ok (.aload_n 0, 1) := by decide +kernel
theorem d_Model_turn_123 : decode b_Model_turn 123 = .ok (.iload_n 1, 1) := by decide +kernel
theorem d_Model_turn_124 : decode b_Model_turn 124 = .ok (.bipush 10, 2) := by decide +kernel
theorem d_Model_turn_126 : decode b_Model_turn 126 = .ok (.aload_n 0, 1) := by decide +kernel
theorem d_Model_turn_127 : decode b_Model_turn 127 = .ok (.getfield 75, 3) := by decide +kernel
theorem d_Model_turn_130 : decode b_Model_turn 130 = .ok (.iload_n 1, 1) := by decide +kernel
theorem d_Model_turn_131 : decode b_Model_turn 131 = .ok (.iaload, 1) := by decide +kernel
theorem d_Model_turn_132 : decode b_Model_turn 132 = .ok (.imul, 1) := by decide +kernel
theorem d_Model_turn_133 : decode b_Model_turn 133 = .ok (.aload_n 0, 1) := by decide +kernel
theorem d_Model_turn_134 : decode b_Model_turn 134 = .ok (.getfield 78, 3) := by decide +kernel
theorem d_Model_turn_137 : decode b_Model_turn 137 = .ok (.iload_n 1, 1) := by decide +kernel
theorem d_Model_turn_138 : decode b_Model_turn 138 = .ok (.iaload, 1) := by decide +kernel
theorem d_Model_turn_139 : decode b_Model_turn 139 = .ok (.iadd, 1) := by decide +kernel
theorem d_Model_turn_140 : decode b_Model_turn 140 = .ok (.invokevirtual 147, 3) := by decide +kernel
theorem d_Model_turn_143 : decode b_Model_turn 143 = .ok (.goto (-59), 3) := by decide +kernel
theorem d_Model_turn_146 : decode b_Model_turn 146 = .ok (.return_, 1) := by decide +kernel
theorem d_Model_says_0 : decode b_Model_says 0 = .ok (.aload_n 0, 1) := by decide +kernel
theorem d_Model_says_1 : decode b_Model_says 1 = .ok (.getfield 150, 3) := by decide +kernel
theorem d_Model_says_4 : decode b_Model_says 4 = .ok (.bipush 12, 2) := by decide +kernel
theorem d_Model_says_6 : decode b_Model_says 6 = .ok (.if_icmp .ge 23, 3) := by decide +kernel
theorem d_Model_says_9 : decode b_Model_says 9 = .ok (.aload_n 0, 1) := by decide +kernel
theorem d_Model_says_10 : decode b_Model_says 10 = .ok (.getfield 93, 3) := by decide +kernel
theorem d_Model_says_13 : decode b_Model_says 13 = .ok (.aload_n 0, 1) := by decide +kernel
theorem d_Model_says_14 : decode b_Model_says 14 = .ok (.getfield 150, 3) := by decide +kernel
theorem d_Model_says_17 : decode b_Model_says 17 = .ok (.bipush 100, 2) := by decide +kernel
theorem d_Model_says_19 : decode b_Model_says 19 = .ok (.aload_n 0, 1) := by decide +kernel
theorem d_Model_says_20 : decode b_Model_says 20 = .ok (.getfield 69, 3) := by decide +kernel
theorem d_Model_says_23 : decode b_Model_says 23 = .ok (.iload_n 1, 1) := by decide +kernel
theorem d_Model_says_24 : decode b_Model_says 24 = .ok (.iaload, 1) := by decide +kernel
theorem d_Model_says_25 : decode b_Model_says 25 = .ok (.imul, 1) := by decide +kernel
theorem d_Model_says_26 : decode b_Model_says 26 = .ok (.iload_n 2, 1) := by decide +kernel
theorem d_Model_says_27 : decode b_Model_says 27 = .ok (.iadd, 1) := by decide +kernel
theorem d_Model_says_28 : decode b_Model_says 28 = .ok (.iastore, 1) := by decide +kernel
theorem d_Model_says_29 : decode b_Model_says 29 = .ok (.aload_n 0, 1) := by decide +kernel
theorem d_Model_says_30 : decode b_Model_says 30 = .ok (.dup, 1) := by decide +kernel
theorem d_Model_says_31 : decode b_Model_says 31 = .ok (.getfield 150, 3) := by decide +kernel
theorem d_Model_says_34 : decode b_Model_says 34 = .ok (.iconst 1, 1) := by decide +kernel
theorem d_Model_says_35 : decode b_Model_says 35 = .ok (.iadd, 1) := by decide +kernel
theorem d_Model_says_36 : decode b_Model_says 36 = .ok (.putfield 150, 3) := by decide +kernel
theorem d_Model_says_39 : decode b_Model_says 39 = .ok (.return_, 1) := by decide +kernel
theorem d_Model_waits_0 : decode b_Model_waits 0 = .ok (.iload_n 2, 1) := by decide +kernel
theorem d_Model_waits_1 : decode b_Model_waits 1 = .ok (.iconst 1, 1) := by decide +kernel
theorem d_Model_waits_2 : decode b_Model_waits 2 = .ok (.if_icmp .eq 26, 3) := by decide +kernel
theorem d_Model_waits_5 : decode b_Model_waits 5 = .ok (.aload_n 0, 1) := by decide +kernel
theorem d_Model_waits_6 : decode b_Model_waits 6 = .ok (.getfield 87, 3) := by decide +kernel
theorem d_Model_waits_9 : decode b_Model_waits 9 = .ok (.iload_n 1, 1) := by decide +kernel
theorem d_Model_waits_10 : decode b_Model_waits 10 = .ok (.baload, 1) := by decide +kernel
theorem d_Model_waits_11 : decode b_Model_waits 11 = .ok (.ifCond .eq 17, 3) := by decide +kernel
theorem d_Model_waits_14 : decode b_Model_waits 14 = .ok (.aload_n 0, 1) := by decide +kernel
theorem d_Model_waits_15 : decode b_Model_waits 15 = .ok (.iload_n 1, 1) := by decide +kernel
theorem d_Model_waits_16 : decode b_Model_waits 16 = .ok (.aload_n 0, 1) := by decide +kernel
theorem d_Model_waits_17 : decode b_Model_waits 17 = .ok (.getfield 78, 3) := by decide +kernel
theorem d_Model_waits_20 : decode b_Model_waits 20 = .ok (.iload_n 1, 1) := by decide +kernel
theorem d_Model_waits_21 : decode b_Model_waits 21 = .ok (.iaload, 1) := by decide +kernel
theorem d_Model_waits_22 : decode b_Model_waits 22 = .ok (.iconst 1, 1) := by decide +kernel
theorem d_Model_waits_23 : decode b_Model_waits 23 = .ok (.isub, 1) := by decide +kernel
theorem d_Model_waits_24 : decode b_Model_waits 24 = .ok (.invokevirtual 140, 3) := by decide +kernel
theorem d_Model_waits_27 : decode b_Model_waits 27 = .ok (.return_, 1) := by decide +kernel
theorem d_Model_waits_28 : decode b_Model_waits 28 = .ok (.aload_n 0, 1) := by decide +kernel
theorem d_Model_waits_29 : decode b_Model_waits 29 = .ok (.getfield 81, 3) := by decide +kernel
theorem d_Model_waits_32 : decode b_Model_waits 32 = .ok (.iload_n 1, 1) := by decide +kernel
theorem d_Model_waits_33 : decode b_Model_waits 33 = .ok (.iload_n 2, 1) := by decide +kernel
theorem d_Model_waits_34 : decode b_Model_waits 34 = .ok (.iastore, 1) := by decide +kernel
theorem d_Model_waits_35 : decode b_Model_waits 35 = .ok (.aload_n 0, 1) := by decide +kernel
theorem d_Model_waits_36 : decode b_Model_waits 36 = .ok (.getfield 84, 3) := by decide +kernel
theorem d_Model_waits_39 : decode b_Model_waits 39 = .ok (.iload_n 1, 1) := by decide +kernel
theorem d_Model_waits_40 : decode b_Model_waits 40 = .ok (.aload_n 0, 1) := by decide +kernel
theorem d_Model_waits_41 : decode b_Model_waits 41 = .ok (.getfield 117, 3) := by decide +kernel
theorem d_Model_waits_44 : decode b_Model_waits 44 = .ok (.iload_n 3, 1) := by decide +kernel
theorem d_Model_waits_45 : decode b_Model_waits 45 = .ok (.iadd, 1) := by decide +kernel
theorem d_Model_waits_46 : decode b_Model_waits 46 = .ok (.iastore, 1) := by decide +kernel
theorem d_Model_waits_47 : decode b_Model_waits 47 = .ok (.return_, 1) := by decide +kernel
theorem d_Model_acts_0 : decode b_Model_acts 0 = .ok (.aload_n 0, 1) := by decide +kernel
theorem d_Model_acts_1 : decode b_Model_acts 1 = .ok (.getfield 17, 3) := by decide +kernel
theorem d_Model_acts_4 : decode b_Model_acts 4 = .ok (.iload_n 2, 1) := by decide +kernel
theorem d_Model_acts_5 : decode b_Model_acts 5 = .ok (.iaload, 1) := by decide +kernel
theorem d_Model_acts_6 : decode b_Model_acts 6 = .ok (.istore_n 3, 1) := by decide +kernel
theorem d_Model_acts_7 : decode b_Model_acts 7 = .ok (.aload_n 0, 1) := by decide +kernel
theorem d_Model_acts_8 : decode b_Model_acts 8 = .ok (.getfield 78, 3) := by decide +kernel
theorem d_Model_acts_11 : decode b_Model_acts 11 = .ok (.iload_n 1, 1) := by decide +kernel
theorem d_Model_acts_12 : decode b_Model_acts 12 = .ok (.dup2, 1) := by decide +kernel
theorem d_Model_acts_13 : decode b_Model_acts 13 = .ok (.iaload, 1) := by decide +kernel
theorem d_Model_acts_14 : decode b_Model_acts 14 = .ok (.iconst 1, 1) := by decide +kernel
theorem d_Model_acts_15 : decode b_Model_acts 15 = .ok (.iadd, 1) := by decide +kernel
theorem d_Model_acts_16 : decode b_Model_acts 16 = .ok (.iastore, 1) := by decide +kernel
theorem d_Model_acts_17 : decode b_Model_acts 17 = .ok (.aload_n 0, 1) := by decide +kernel
theorem d_Model_acts_18 : decode b_Model_acts 18 = .ok (.getfield 13, 3) := by decide +kernel
theorem d_Model_acts_21 : decode b_Model_acts 21 = .ok (.iload_n 2, 1) := by decide +kernel
theorem d_Model_acts_22 : decode b_Model_acts 22 = .ok (.iaload, 1) := by decide +kernel
theorem d_Model_acts_23 : decode b_Model_acts 23 = .ok (.tableswitch 260 0 11 #[61, 71, 81, 91, 260, 100, 125, 134, 161, 190, 200, 209], 61) := by decide +kernel
theorem d_Model_acts_84 : decode b_Model_acts 84 = .ok (.aload_n 0, 1) := by decide +kernel
theorem d_Model_acts_85 : decode b_Model_acts 85 = .ok (.iload_n 1, 1) := by decide +kernel
theorem d_Model_acts_86 : decode b_Model_acts 86 = .ok (.iconst 1, 1) := by decide +kernel
theorem d_Model_acts_87 : decode b_Model_acts 87 = .ok (.iload_n 3, 1) := by decide +kernel
theorem d_Model_acts_88 : decode b_Model_acts 88 = .ok (.invokevirtual 153, 3) := by decide +kernel
theorem d_Model_acts_91 : decode b_Model_acts 91 = .ok (.goto 192, 3) := by decide +kernel
theorem d_Model_acts_94 : decode b_Model_acts 94 = .ok (.aload_n 0, 1) := by decide +kernel
theorem d_Model_acts_95 : decode b_Model_acts 95 = .ok (.iload_n 1, 1) := by decide +kernel
theorem d_Model_acts_96 : decode b_Model_acts 96 = .ok (.iconst 2, 1) := by decide +kernel
theorem d_Model_acts_97 : decode b_Model_acts 97 = .ok (.iload_n 3, 1) := by decide +kernel
theorem d_Model_acts_98 : decode b_Model_acts 98 = .ok (.invokevirtual 153, 3) := by decide +kernel
theorem d_Model_acts_101 : decode b_Model_acts 101 = .ok (.goto 182, 3) := by decide +kernel
theorem d_Model_acts_104 : decode b_Model_acts 104 = .ok (.aload_n 0, 1) := by decide +kernel
theorem d_Model_acts_105 : decode b_Model_acts 105 = .ok (.iload_n 1, 1) := by decide +kernel
theorem d_Model_acts_106 : decode b_Model_acts 106 = .ok (.iconst 3, 1) := by decide +kernel
theorem d_Model_acts_107 : decode b_Model_acts 107 = .ok (.iconst 0, 1) := by decide +kernel
theorem d_Model_acts_108 : decode b_Model_acts 108 = .ok (.invokevirtual 153, 3) := by decide +kernel
theorem d_Model_acts_111 : decode b_Model_acts 111 = .ok (.goto 172, 3) := by decide +kernel
theorem d_Model_acts_114 : decode b_Model_acts 114 = .ok (.aload_n 0, 1) := by decide +kernel
theorem d_Model_acts_115 : decode b_Model_acts 115 = .ok (.iload_n 1, 1) := by decide +kernel
theorem d_Model_acts_116 : decode b_Model_acts 116 = .ok (.iload_n 3, 1) := by decide +kernel
theorem d_Model_acts_117 : decode b_Model_acts 117 = .ok (.invokevirtual 138, 3) := by decide +kernel
theorem d_Model_acts_120 : decode b_Model_acts 120 = .ok (.goto 163, 3) := by decide +kernel
theorem d_Model_acts_123 : decode b_Model_acts 123 = .ok (.aload_n 0, 1) := by decide +kernel
theorem d_Model_acts_124 : decode b_Model_acts 124 = .ok (.getfield 131, 3) := by decide +kernel
theorem d_Model_acts_127 : decode b_Model_acts 127 = .ok (.bipush 40, 2) := by decide +kernel
theorem d_Model_acts_129 : decode b_Model_acts 129 = .ok (.if_icmp .ge 154, 3) := by decide +kernel
theorem d_Model_acts_132 : decode b_Model_acts 132 = .ok (.aload_n 0, 1) := by decide +kernel
theorem d_Model_acts_133 : decode b_Model_acts 133 = .ok (.aload_n 0, 1) := by decide +kernel
theorem d_Model_acts_134 : decode b_Model_acts 134 = .ok (.getfield 69, 3) := by decide +kernel
theorem d_Model_acts_137 : decode b_Model_acts 137 = .ok (.iload_n 1, 1) := by decide +kernel
theorem d_Model_acts_138 : decode b_Model_acts 138 = .ok (.iaload, 1) := by decide +kernel
theorem d_Model_acts_139 : decode b_Model_acts 139 = .ok (.iload_n 3, 1) := by decide +kernel
theorem d_Model_acts_140 : decode b_Model_acts 140 = .ok (.iload_n 1, 1) := by decide +kernel
theorem d_Model_acts_141 : decode b_Model_acts 141 = .ok (.invokevirtual 156, 3) := by decide +kernel
theorem d_Model_acts_144 : decode b_Model_acts 144 = .ok (.pop, 1) := by decide +kernel
theorem d_Model_acts_145 : decode b_Model_acts 145 = .ok (.goto 138, 3) := by decide +kernel
theorem d_Model_acts_148 : decode b_Model_acts 148 = .ok (.aload_n 0, 1) := by decide +kernel
theorem d_Model_acts_149 : decode b_Model_acts 149 = .ok (.iload_n 1, 1) := by decide +kernel
theorem d_Model_acts_150 : decode b_Model_acts 150 = .ok (.iload_n 3, 1) := by decide +kernel
theorem d_Model_acts_151 : decode b_Model_acts 151 = .ok (.invokevirtual 160, 3) := by decide +kernel
theorem d_Model_acts_154 : decode b_Model_acts 154 = .ok (.goto 129, 3) := by decide +kernel
theorem d_Model_acts_157 : decode b_Model_acts 157 = .ok (.aload_n 0, 1) := by decide +kernel
theorem d_Model_acts_158 : decode b_Model_acts 158 = .ok (.getfield 87, 3) := by decide +kernel
theorem d_Model_acts_161 : decode b_Model_acts 161 = .ok (.iload_n 1, 1) := by decide +kernel
theorem d_Model_acts_162 : decode b_Model_acts 162 = .ok (.baload, 1) := by decide +kernel
theorem d_Model_acts_163 : decode b_Model_acts 163 = .ok (.ifCond .ne 11, 3) := by decide +kernel
theorem d_Model_acts_166 : decode b_Model_acts 166 = .ok (.aload_n 0, 1) := by decide +kernel
theorem d_Model_acts_167 : decode b_Model_acts 167 = .ok (.iload_n 1, 1) := by decide +kernel
theorem d_Model_acts_168 : decode b_Model_acts 168 = .ok (.invokevirtual 143, 3) := by decide +kernel
theorem d_Model_acts_171 : decode b_Model_acts 171 = .ok (.ifCond .ne 112, 3) := by decide +kernel
theorem d_Model_acts_174 : decode b_Model_acts 174 = .ok (.aload_n 0, 1) := by decide +kernel
theorem d_Model_acts_175 : decode b_Model_acts 175 = .ok (.iload_n 1, 1) := by decide +kernel
theorem d_Model_acts_176 : decode b_Model_acts 176 = .ok (.iconst 4, 1) := by decide +kernel
theorem d_Model_acts_177 : decode b_Model_acts 177 = .ok (.iconst 0, 1) := by decide +kernel
theorem d_Model_acts_178 : decode b_Model_acts 178 = .ok (.invokevirtual 153, 3) := by decide +kernel
theorem d_Model_acts_181 : decode b_Model_acts 181 = .ok (.goto 102, 3) := by decide +kernel
theorem d_Model_acts_184 : decode b_Model_acts 184 = .ok (.aload_n 0, 1) := by decide +kernel
theorem d_Model_acts_185 : decode b_Model_acts 185 = .ok (.iload_n 1, 1) := by decide +kernel
theorem d_Model_acts_186 : decode b_Model_acts 186 = .ok (.aload_n 0, 1) := by decide +kernel
theorem d_Model_acts_187 : decode b_Model_acts 187 = .ok (.getfield 87, 3) := by decide +kernel
theorem d_Model_acts_190 : decode b_Model_acts 190 = .ok (.iload_n 1, 1) := by decide +kernel
theorem d_Model_acts_191 : decode b_Model_acts 191 = .ok (.baload, 1) := by decide +kernel
theorem d_Model_acts_192 : decode b_Model_acts 192 = .ok (.ifCond .eq 7, 3) := by decide +kernel
theorem d_Model_acts_195 : decode b_Model_acts 195 = .ok (.iconst 1, 1) := by decide +kernel
theorem d_Model_acts_196 : decode b_Model_acts 196 = .ok (.goto 4, 3) := by decide +kernel
theorem d_Model_acts_199 : decode b_Model_acts 199 = .ok (.iconst 0, 1) := by decide +kernel
theorem d_Model_acts_200 : decode b_Model_acts 200 = .ok (.invokevirtual 160, 3) := by decide +kernel
theorem d_Model_acts_203 : decode b_Model_acts 203 = .ok (.aload_n 0, 1) := by decide +kernel
theorem d_Model_acts_204 : decode b_Model_acts 204 = .ok (.getfield 87, 3) := by decide +kernel
theorem d_Model_acts_207 : decode b_Model_acts 207 = .ok (.iload_n 1, 1) := by decide +kernel
theorem d_Model_acts_208 : decode b_Model_acts 208 = .ok (.iconst 0, 1) := by decide +kernel
theorem d_Model_acts_209 : decode b_Model_acts 209 = .ok (.bastore, 1) := by decide +kernel
theorem d_Model_acts_210 : decode b_Model_acts 210 = .ok (.goto 73, 3) := by decide +kernel
theorem d_Model_acts_213 : decode b_Model_acts 213 = .ok (.aload_n 0, 1) := by decide +kernel
theorem d_Model_acts_214 : decode b_Model_acts 214 = .ok (.getfield 90, 3) := by decide +kernel
theorem d_Model_acts_217 : decode b_Model_acts 217 = .ok (.iload_n 1, 1) := by decide +kernel
theorem d_Model_acts_218 : decode b_Model_acts 218 = .ok (.iconst 1, 1) := by decide +kernel
theorem d_Model_acts_219 : decode b_Model_acts 219 = .ok (.bastore, 1) := by decide +kernel
theorem d_Model_acts_220 : decode b_Model_acts 220 = .ok (.goto 63, 3) := by decide +kernel
theorem d_Model_acts_223 : decode b_Model_acts 223 = .ok (.aload_n 0, 1) := by decide +kernel
theorem d_Model_acts_224 : decode b_Model_acts 224 = .ok (.iload_n 1, 1) := by decide +kernel
theorem d_Model_acts_225 : decode b_Model_acts 225 = .ok (.iconst (-1), 1) := by decide +kernel
theorem d_Model_acts_226 : decode b_Model_acts 226 = .ok (.invokevirtual 138, 3) := by decide +kernel
theorem d_Model_acts_229 : decode b_Model_acts 229 = .ok (.goto 54, 3) := by decide +kernel
theorem d_Model_acts_232 : decode b_Model_acts 232 = .ok (.iconst 0, 1) := by decide +kernel
theorem d_Model_acts_233 : decode b_Model_acts 233 = .ok (.istore 4, 2) := by decide +kernel
theorem d_Model_acts_235 : decode b_Model_acts 235 = .ok (.iload 4, 2) := by decide +kernel
theorem d_Model_acts_237 : decode b_Model_acts 237 = .ok (.aload_n 0, 1) := by decide +kernel
theorem d_Model_acts_238 : decode b_Model_acts 238 = .ok (.getfield 131, 3) := by decide +kernel
theorem d_Model_acts_241 : decode b_Model_acts 241 = .ok (.if_icmp .ge 39, 3) := by decide +kernel
theorem d_Model_acts_244 : decode b_Model_acts 244 = .ok (.aload_n 0, 1) := by decide +kernel
theorem d_Model_acts_245 : decode b_Model_acts 245 = .ok (.getfield 72, 3) := by decide +kernel
theorem d_Model_acts_248 : decode b_Model_acts 248 = .ok (.iload 4, 2) := by decide +kernel
theorem d_Model_acts_250 : decode b_Model_acts 250 = .ok (.iaload, 1) := by decide +kernel
theorem d_Model_acts_251 : decode b_Model_acts 251 = .ok (.iload_n 1, 1) := by decide +kernel
theorem d_Model_acts_252 : decode b_Model_acts 252 = .ok (.if_icmp .ne 22, 3) := by decide +kernel
theorem d_Model_acts_255 : decode b_Model_acts 255 = .ok (.aload_n 0, 1) := by decide +kernel
theorem d_Model_acts_256 : decode b_Model_acts 256 = .ok (.getfield 81, 3) := by decide +kernel
theorem d_Model_acts_259 : decode b_Model_acts 259 = .ok (.iload 4, 2) := by decide +kernel
theorem d_Model_acts_261 : decode b_Model_acts 261 = .ok (.iaload, 1) := by decide +kernel
theorem d_Model_acts_262 : decode b_Model_acts 262 = .ok (.iconst 5, 1) := by decide +kernel
theorem d_Model_acts_263 : decode b_Model_acts 263 = .ok (.if_icmp .eq 11, 3) := by decide +kernel
theorem d_Model_acts_266 : decode b_Model_acts 266 = .ok (.aload_n 0, 1) := by decide +kernel
theorem d_Model_acts_267 : decode b_Model_acts 267 = .ok (.getfield 87, 3) := by decide +kernel
theorem d_Model_acts_270 : decode b_Model_acts 270 = .ok (.iload 4, 2) := by decide +kernel
theorem d_Model_acts_272 : decode b_Model_acts 272 = .ok (.iconst 1, 1) := by decide +kernel
theorem d_Model_acts_273 : decode b_Model_acts 273 = .ok (.bastore, 1) := by decide +kernel
theorem d_Model_acts_274 : decode b_Model_acts 274 = .ok (.iinc 4 1, 3) := by decide +kernel
theorem d_Model_acts_277 : decode b_Model_acts 277 = .ok (.goto (-42), 3) := by decide +kernel
theorem d_Model_acts_280 : decode b_Model_acts 280 = .ok (.goto 3, 3) := by decide +kernel
theorem d_Model_acts_283 : decode b_Model_acts 283 = .ok (.return_, 1) := by decide +kernel
theorem d_Model_isFree_0 : decode b_Model_isFree 0 = .ok (.aload_n 0, 1) := by decide +kernel
theorem d_Model_isFree_1 : decode b_Model_isFree 1 = .ok (.getfield 66, 3) := by decide +kernel
theorem d_Model_isFree_4 : decode b_Model_isFree 4 = .ok (.iload_n 1, 1) := by decide +kernel
theorem d_Model_isFree_5 : decode b_Model_isFree 5 = .ok (.iaload, 1) := by decide +kernel
theorem d_Model_isFree_6 : decode b_Model_isFree 6 = .ok (.istore_n 2, 1) := by decide +kernel
theorem d_Model_isFree_7 : decode b_Model_isFree 7 = .ok (.iload_n 2, 1) := by decide +kernel
theorem d_Model_isFree_8 : decode b_Model_isFree 8 = .ok (.ifCond .lt 43, 3) := by decide +kernel
theorem d_Model_isFree_11 : decode b_Model_isFree 11 = .ok (.aload_n 0, 1) := by decide +kernel
theorem d_Model_isFree_12 : decode b_Model_isFree 12 = .ok (.getfield 81, 3) := by decide +kernel
theorem d_Model_isFree_15 : decode b_Model_isFree 15 = .ok (.aload_n 0, 1) := by decide +kernel
theorem d_Model_isFree_16 : decode b_Model_isFree 16 = .ok (.getfield 53, 3) := by decide +kernel
theorem d_Model_isFree_19 : decode b_Model_isFree 19 = .ok (.iload_n 2, 1) := by decide +kernel
theorem d_Model_isFree_20 : decode b_Model_isFree 20 = .ok (.iaload, 1) := by decide +kernel
theorem d_Model_isFree_21 : decode b_Model_isFree 21 = .ok (.iaload, 1) := by decide +kernel
theorem d_Model_isFree_22 : decode b_Model_isFree 22 = .ok (.iconst 5, 1) := by decide +kernel
theorem d_Model_isFree_23 : decode b_Model_isFree 23 = .ok (.if_icmp .eq 28, 3) := by decide +kernel
theorem d_Model_isFree_26 : decode b_Model_isFree 26 = .ok (.aload_n 0, 1) := by decide +kernel
theorem d_Model_isFree_27 : decode b_Model_isFree 27 = .ok (.getfield 38, 3) := by decide +kernel
theorem d_Model_isFree_30 : decode b_Model_isFree 30 = .ok (.iload_n 2, 1) := by decide +kernel
theorem d_Model_isFree_31 : decode b_Model_isFree 31 = .ok (.iaload, 1) := by decide +kernel
theorem d_Model_isFree_32 : decode b_Model_isFree 32 = .ok (.iconst 3, 1) := by decide +kernel
theorem d_Model_isFree_33 : decode b_Model_isFree 33 = .ok (.if_icmp .ne 22, 3) := by decide +kernel
theorem d_Model_isFree_36 : decode b_Model_isFree 36 = .ok (.aload_n 0, 1) := by decide +kernel
theorem d_Model_isFree_37 : decode b_Model_isFree 37 = .ok (.getfield 117, 3) := by decide +kernel
theorem d_Model_isFree_40 : decode b_Model_isFree 40 = .ok (.aload_n 0, 1) := by decide +kernel
theorem d_Model_isFree_41 : decode b_Model_isFree 41 = .ok (.getfield 47, 3) := by decide +kernel
theorem d_Model_isFree_44 : decode b_Model_isFree 44 = .ok (.iload_n 2, 1) := by decide +kernel
theorem d_Model_isFree_45 : decode b_Model_isFree 45 = .ok (.iaload, 1) := by decide +kernel
theorem d_Model_isFree_46 : decode b_Model_isFree 46 = .ok (.iconst 3, 1) := by decide +kernel
theorem d_Model_isFree_47 : decode b_Model_isFree 47 = .ok (.iadd, 1) := by decide +kernel
theorem d_Model_isFree_48 : decode b_Model_isFree 48 = .ok (.if_icmp .lt 7, 3) := by decide +kernel
theorem d_Model_isFree_51 : decode b_Model_isFree 51 = .ok (.iconst 1, 1) := by decide +kernel
theorem d_Model_isFree_52 : decode b_Model_isFree 52 = .ok (.goto 4, 3) := by decide +kernel
theorem d_Model_isFree_55 : decode b_Model_isFree 55 = .ok (.iconst 0, 1) := by decide +kernel
theorem d_Model_isFree_56 : decode b_Model_isFree 56 = .ok (.ireturn, 1) := by decide +kernel
theorem d_Model_canHave_0 : decode b_Model_canHave 0 = .ok (.iconst 0, 1) := by decide +kernel
theorem d_Model_canHave_1 : decode b_Model_canHave 1 = .ok (.istore_n 2, 1) := by decide +kernel
theorem d_Model_canHave_2 : decode b_Model_canHave 2 = .ok (.iload_n 2, 1) := by decide +kernel
theorem d_Model_canHave_3 : decode b_Model_canHave 3 = .ok (.aload_n 0, 1) := by decide +kernel
theorem d_Model_canHave_4 : decode b_Model_canHave 4 = .ok (.getfield 114, 3) := by decide +kernel
theorem d_Model_canHave_7 : decode b_Model_canHave 7 = .ok (.if_icmp .ge 71, 3) := by decide +kernel
theorem d_Model_canHave_10 : decode b_Model_canHave 10 = .ok (.aload_n 0, 1) := by decide +kernel
theorem d_Model_canHave_11 : decode b_Model_canHave 11 = .ok (.getfield 44, 3) := by decide +kernel
theorem d_Model_canHave_14 : decode b_Model_canHave 14 = .ok (.iload_n 2, 1) := by decide +kernel
theorem d_Model_canHave_15 : decode b_Model_canHave 15 = .ok (.iaload, 1) := by decide +kernel
theorem d_Model_canHave_16 : decode b_Model_canHave 16 = .ok (.ifCond .lt 56, 3) := by decide +kernel
theorem d_Model_canHave_19 : decode b_Model_canHave 19 = .ok (.aload_n 0, 1) := by decide +kernel
theorem d_Model_canHave_20 : decode b_Model_canHave 20 = .ok (.getfield 38, 3) := by decide +kernel
theorem d_Model_canHave_23 : decode b_Model_canHave 23 = .ok (.iload_n 2, 1) := by decide +kernel
theorem d_Model_canHave_24 : decode b_Model_canHave 24 = .ok (.iaload, 1) := by decide +kernel
theorem d_Model_canHave_25 : decode b_Model_canHave 25 = .ok (.ifCond .eq 6, 3) := by decide +kernel
theorem d_Model_canHave_28 : decode b_Model_canHave 28 = .ok (.goto 44, 3) := by decide +kernel
theorem d_Model_canHave_31 : decode b_Model_canHave 31 = .ok (.aload_n 0, 1) := by decide +kernel
theorem d_Model_canHave_32 : decode b_Model_canHave 32 = .ok (.getfield 35, 3) := by decide +kernel
theorem d_Model_canHave_35 : decode b_Model_canHave 35 = .ok (.iload_n 1, 1) := by decide +kernel
theorem d_Model_canHave_36 : decode b_Model_canHave 36 = .ok (.iaload, 1) := by decide +kernel
theorem d_Model_canHave_37 : decode b_Model_canHave 37 = .ok (.aload_n 0, 1) := by decide +kernel
theorem d_Model_canHave_38 : decode b_Model_canHave 38 = .ok (.getfield 32, 3) := by decide +kernel
theorem d_Model_canHave_41 : decode b_Model_canHave 41 = .ok (.iload_n 2, 1) := by decide +kernel
theorem d_Model_canHave_42 : decode b_Model_canHave 42 = .ok (.iaload, 1) := by decide +kernel
theorem d_Model_canHave_43 : decode b_Model_canHave 43 = .ok (.aload_n 0, 1) := by decide +kernel
theorem d_Model_canHave_44 : decode b_Model_canHave 44 = .ok (.getfield 35, 3) := by decide +kernel
theorem d_Model_canHave_47 : decode b_Model_canHave 47 = .ok (.iload_n 2, 1) := by decide +kernel
theorem d_Model_canHave_48 : decode b_Model_canHave 48 = .ok (.iaload, 1) := by decide +kernel
theorem d_Model_canHave_49 : decode b_Model_canHave 49 = .ok (.ior, 1) := by decide +kernel
theorem d_Model_canHave_50 : decode b_Model_canHave 50 = .ok (.iand, 1) := by decide +kernel
theorem d_Model_canHave_51 : decode b_Model_canHave 51 = .ok (.ifCond .ne 19, 3) := by decide +kernel
theorem d_Model_canHave_54 : decode b_Model_canHave 54 = .ok (.aload_n 0, 1) := by decide +kernel
theorem d_Model_canHave_55 : decode b_Model_canHave 55 = .ok (.getfield 32, 3) := by decide +kernel
theorem d_Model_canHave_58 : decode b_Model_canHave 58 = .ok (.iload_n 1, 1) := by decide +kernel
theorem d_Model_canHave_59 : decode b_Model_canHave 59 = .ok (.iaload, 1) := by decide +kernel
theorem d_Model_canHave_60 : decode b_Model_canHave 60 = .ok (.aload_n 0, 1) := by decide +kernel
theorem d_Model_canHave_61 : decode b_Model_canHave 61 = .ok (.getfield 35, 3) := by decide +kernel
theorem d_Model_canHave_64 : decode b_Model_canHave 64 = .ok (.iload_n 2, 1) := by decide +kernel
theorem d_Model_canHave_65 : decode b_Model_canHave 65 = .ok (.iaload, 1) := by decide +kernel
theorem d_Model_canHave_66 : decode b_Model_canHave 66 = .ok (.iand, 1) := by decide +kernel
theorem d_Model_canHave_67 : decode b_Model_canHave 67 = .ok (.ifCond .eq 5, 3) := by decide +kernel
theorem d_Model_canHave_70 : decode b_Model_canHave 70 = .ok (.iconst 0, 1) := by decide +kernel
theorem d_Model_canHave_71 : decode b_Model_canHave 71 = .ok (.ireturn, 1) := by decide +kernel
theorem d_Model_canHave_72 : decode b_Model_canHave 72 = .ok (.iinc 2 1, 3) := by decide +kernel
theorem d_Model_canHave_75 : decode b_Model_canHave 75 = .ok (.goto (-73), 3) := by decide +kernel
theorem d_Model_canHave_78 : decode b_Model_canHave 78 = .ok (.iconst 1, 1) := by decide +kernel
theorem d_Model_canHave_79 : decode b_Model_canHave 79 = .ok (.ireturn, 1) := by decide +kernel
theorem d_Model_nextTest_0 : decode b_Model_nextTest 0 = .ok (.iconst 0, 1) := by decide +kernel
theorem d_Model_nextTest_1 : decode b_Model_nextTest 1 = .ok (.istore_n 1, 1) := by decide +kernel
theorem d_Model_nextTest_2 : decode b_Model_nextTest 2 = .ok (.iload_n 1, 1) := by decide +kernel
theorem d_Model_nextTest_3 : decode b_Model_nextTest 3 = .ok (.aload_n 0, 1) := by decide +kernel
theorem d_Model_nextTest_4 : decode b_Model_nextTest 4 = .ok (.getfield 114, 3) := by decide +kernel
theorem d_Model_nextTest_7 : decode b_Model_nextTest 7 = .ok (.if_icmp .ge 28, 3) := by decide +kernel
theorem d_Model_nextTest_10 : decode b_Model_nextTest 10 = .ok (.aload_n 0, 1) := by decide +kernel
theorem d_Model_nextTest_11 : decode b_Model_nextTest 11 = .ok (.getfield 44, 3) := by decide +kernel
theorem d_Model_nextTest_14 : decode b_Model_nextTest 14 = .ok (.iload_n 1, 1) := by decide +kernel
theorem d_Model_nextTest_15 : decode b_Model_nextTest 15 = .ok (.iaload, 1) := by decide +kernel
theorem d_Model_nextTest_16 : decode b_Model_nextTest 16 = .ok (.ifCond .ge 13, 3) := by decide +kernel
theorem d_Model_nextTest_19 : decode b_Model_nextTest 19 = .ok (.aload_n 0, 1) := by decide +kernel
theorem d_Model_nextTest_20 : decode b_Model_nextTest 20 = .ok (.iload_n 1, 1) := by decide +kernel
theorem d_Model_nextTest_21 : decode b_Model_nextTest 21 = .ok (.invokevirtual 163, 3) := by decide +kernel
theorem d_Model_nextTest_24 : decode b_Model_nextTest 24 = .ok (.ifCond .eq 5, 3) := by decide +kernel
theorem d_Model_nextTest_27 : decode b_Model_nextTest 27 = .ok (.iload_n 1, 1) := by decide +kernel
theorem d_Model_nextTest_28 : decode b_Model_nextTest 28 = .ok (.ireturn, 1) := by decide +kernel
theorem d_Model_nextTest_29 : decode b_Model_nextTest 29 = .ok (.iinc 1 1, 3) := by decide +kernel
theorem d_Model_nextTest_32 : decode b_Model_nextTest 32 = .ok (.goto (-30), 3) := by decide +kernel
theorem d_Model_nextTest_35 : decode b_Model_nextTest 35 = .ok (.iconst (-1), 1) := by decide +kernel
theorem d_Model_nextTest_36 : decode b_Model_nextTest 36 = .ok (.ireturn, 1) := by decide +kernel
theorem d_Model_looksAtTimes_0 : decode b_Model_looksAtTimes 0 = .ok (.iconst 0, 1) := by decide +kernel
theorem d_Model_looksAtTimes_1 : decode b_Model_looksAtTimes 1 = .ok (.istore_n 1, 1) := by decide +kernel
theorem d_Model_looksAtTimes_2 : decode b_Model_looksAtTimes 2 = .ok (.iload_n 1, 1) := by decide +kernel
theorem d_Model_looksAtTimes_3 : decode b_Model_looksAtTimes 3 = .ok (.aload_n 0, 1) := by decide +kernel
theorem d_Model_looksAtTimes_4 : decode b_Model_looksAtTimes 4 = .ok (.getfield 114, 3) := by decide +kernel
theorem d_Model_looksAtTimes_7 : decode b_Model_looksAtTimes 7 = .ok (.if_icmp .ge 75, 3) := by decide +kernel
theorem d_Model_looksAtTimes_10 : decode b_Model_looksAtTimes 10 = .ok (.aload_n 0, 1) := by decide +kernel
theorem d_Model_looksAtTimes_11 : decode b_Model_looksAtTimes 11 = .ok (.getfield 44, 3) := by decide +kernel
theorem d_Model_looksAtTimes_14 : decode b_Model_looksAtTimes 14 = .ok (.iload_n 1, 1) := by decide +kernel
theorem d_Model_looksAtTimes_15 : decode b_Model_looksAtTimes 15 = .ok (.iaload, 1) := by decide +kernel
theorem d_Model_looksAtTimes_16 : decode b_Model_looksAtTimes 16 = .ok (.ifCond .lt 60, 3) := by decide +kernel
theorem d_Model_looksAtTimes_19 : decode b_Model_looksAtTimes 19 = .ok (.aload_n 0, 1) := by decide +kernel
theorem d_Model_looksAtTimes_20 : decode b_Model_looksAtTimes 20 = .ok (.getfield 38, 3) := by decide +kernel
theorem d_Model_looksAtTimes_23 : decode b_Model_looksAtTimes 23 = .ok (.iload_n 1, 1) := by decide +kernel
theorem d_Model_looksAtTimes_24 : decode b_Model_looksAtTimes 24 = .ok (.iaload, 1) := by decide +kernel
theorem d_Model_looksAtTimes_25 : decode b_Model_looksAtTimes 25 = .ok (.ifCond .ne 51, 3) := by decide +kernel
theorem d_Model_looksAtTimes_28 : decode b_Model_looksAtTimes 28 = .ok (.aload_n 0, 1) := by decide +kernel
theorem d_Model_looksAtTimes_29 : decode b_Model_looksAtTimes 29 = .ok (.getfield 29, 3) := by decide +kernel
theorem d_Model_looksAtTimes_32 : decode b_Model_looksAtTimes 32 = .ok (.iload_n 1, 1) := by decide +kernel
theorem d_Model_looksAtTimes_33 : decode b_Model_looksAtTimes 33 = .ok (.iaload, 1) := by decide +kernel
theorem d_Model_looksAtTimes_34 : decode b_Model_looksAtTimes 34 = .ok (.ifCond .le 42, 3) := by decide +kernel
theorem d_Model_looksAtTimes_37 : decode b_Model_looksAtTimes 37 = .ok (.aload_n 0, 1) := by decide +kernel
theorem d_Model_looksAtTimes_38 : decode b_Model_looksAtTimes 38 = .ok (.getfield 117, 3) := by decide +kernel
theorem d_Model_looksAtTimes_41 : decode b_Model_looksAtTimes 41 = .ok (.aload_n 0, 1) := by decide +kernel
theorem d_Model_looksAtTimes_42 : decode b_Model_looksAtTimes 42 = .ok (.getfield 44, 3) := by decide +kernel
theorem d_Model_looksAtTimes_45 : decode b_Model_looksAtTimes 45 = .ok (.iload_n 1, 1) := by decide +kernel
theorem d_Model_looksAtTimes_46 : decode b_Model_looksAtTimes 46 = .ok (.iaload, 1) := by decide +kernel
theorem d_Model_looksAtTimes_47 : decode b_Model_looksAtTimes 47 = .ok (.aload_n 0, 1) := by decide +kernel
theorem d_Model_looksAtTimes_48 : decode b_Model_looksAtTimes 48 = .ok (.getfield 29, 3) := by decide +kernel
theorem d_Model_looksAtTimes_51 : decode b_Model_looksAtTimes 51 = .ok (.iload_n 1, 1) := by decide +kernel
theorem d_Model_looksAtTimes_52 : decode b_Model_looksAtTimes 52 = .ok (.iaload, 1) := by decide +kernel
theorem d_Model_looksAtTimes_53 : decode b_Model_looksAtTimes 53 = .ok (.iadd, 1) := by decide +kernel
theorem d_Model_looksAtTimes_54 : decode b_Model_looksAtTimes 54 = .ok (.if_icmp .lt 22, 3) := by decide +kernel
theorem d_Model_looksAtTimes_57 : decode b_Model_looksAtTimes 57 = .ok (.aload_n 0, 1) := by decide +kernel
theorem d_Model_looksAtTimes_58 : decode b_Model_looksAtTimes 58 = .ok (.iload_n 1, 1) := by decide +kernel
theorem d_Model_looksAtTimes_59 : decode b_Model_looksAtTimes 59 = .ok (.iconst 3, 1) := by decide +kernel
theorem d_Model_looksAtTimes_60 : decode b_Model_looksAtTimes 60 = .ok (.iconst (-1), 1) := by decide +kernel
theorem d_Model_looksAtTimes_61 : decode b_Model_looksAtTimes 61 = .ok (.invokevirtual 127, 3) := by decide +kernel
theorem d_Model_looksAtTimes_64 : decode b_Model_looksAtTimes 64 = .ok (.aload_n 0, 1) := by decide +kernel
theorem d_Model_looksAtTimes_65 : decode b_Model_looksAtTimes 65 = .ok (.getfield 87, 3) := by decide +kernel
theorem d_Model_looksAtTimes_68 : decode b_Model_looksAtTimes 68 = .ok (.aload_n 0, 1) := by decide +kernel
theorem d_Model_looksAtTimes_69 : decode b_Model_looksAtTimes 69 = .ok (.getfield 53, 3) := by decide +kernel
theorem d_Model_looksAtTimes_72 : decode b_Model_looksAtTimes 72 = .ok (.iload_n 1, 1) := by decide +kernel
theorem d_Model_looksAtTimes_73 : decode b_Model_looksAtTimes 73 = .ok (.iaload, 1) := by decide +kernel
theorem d_Model_looksAtTimes_74 : decode b_Model_looksAtTimes 74 = .ok (.iconst 1, 1) := by decide +kernel
theorem d_Model_looksAtTimes_75 : decode b_Model_looksAtTimes 75 = .ok (.bastore, 1) := by decide +kernel
theorem d_Model_looksAtTimes_76 : decode b_Model_looksAtTimes 76 = .ok (.iinc 1 1, 3) := by decide +kernel
theorem d_Model_looksAtTimes_79 : decode b_Model_looksAtTimes 79 = .ok (.goto (-77), 3) := by decide +kernel
theorem d_Model_looksAtTimes_82 : decode b_Model_looksAtTimes 82 = .ok (.return_, 1) := by decide +kernel
theorem d_Model_begins_0 : decode b_Model_begins 0 = .ok (.iconst 0, 1) := by decide +kernel
theorem d_Model_begins_1 : decode b_Model_begins 1 = .ok (.istore_n 1, 1) := by decide +kernel
theorem d_Model_begins_2 : decode b_Model_begins 2 = .ok (.iload_n 1, 1) := by decide +kernel
theorem d_Model_begins_3 : decode b_Model_begins 3 = .ok (.aload_n 0, 1) := by decide +kernel
theorem d_Model_begins_4 : decode b_Model_begins 4 = .ok (.getfield 7, 3) := by decide +kernel
theorem d_Model_begins_7 : decode b_Model_begins 7 = .ok (.if_icmp .ge 50, 3) := by decide +kernel
theorem d_Model_begins_10 : decode b_Model_begins 10 = .ok (.aload_n 0, 1) := by decide +kernel
theorem d_Model_begins_11 : decode b_Model_begins 11 = .ok (.getfield 66, 3) := by decide +kernel
theorem d_Model_begins_14 : decode b_Model_begins 14 = .ok (.iload_n 1, 1) := by decide +kernel
theorem d_Model_begins_15 : decode b_Model_begins 15 = .ok (.iaload, 1) := by decide +kernel
theorem d_Model_begins_16 : decode b_Model_begins 16 = .ok (.istore_n 2, 1) := by decide +kernel
theorem d_Model_begins_17 : decode b_Model_begins 17 = .ok (.iload_n 2, 1) := by decide +kernel
theorem d_Model_begins_18 : decode b_Model_begins 18 = .ok (.ifCond .lt 33, 3) := by decide +kernel
theorem d_Model_begins_21 : decode b_Model_begins 21 = .ok (.aload_n 0, 1) := by decide +kernel
theorem d_Model_begins_22 : decode b_Model_begins 22 = .ok (.iload_n 1, 1) := by decide +kernel
theorem d_Model_begins_23 : decode b_Model_begins 23 = .ok (.invokevirtual 166, 3) := by decide +kernel
theorem d_Model_begins_26 : decode b_Model_begins 26 = .ok (.ifCond .eq 25, 3) := by decide +kernel
theorem d_Model_begins_29 : decode b_Model_begins 29 = .ok (.aload_n 0, 1) := by decide +kernel
theorem d_Model_begins_30 : decode b_Model_begins 30 = .ok (.getfield 81, 3) := by decide +kernel
theorem d_Model_begins_33 : decode b_Model_begins 33 = .ok (.aload_n 0, 1) := by decide +kernel
theorem d_Model_begins_34 : decode b_Model_begins 34 = .ok (.getfield 53, 3) := by decide +kernel
theorem d_Model_begins_37 : decode b_Model_begins 37 = .ok (.iload_n 2, 1) := by decide +kernel
theorem d_Model_begins_38 : decode b_Model_begins 38 = .ok (.iaload, 1) := by decide +kernel
theorem d_Model_begins_39 : decode b_Model_begins 39 = .ok (.iaload, 1) := by decide +kernel
theorem d_Model_begins_40 : decode b_Model_begins 40 = .ok (.iconst 5, 1) := by decide +kernel
theorem d_Model_begins_41 : decode b_Model_begins 41 = .ok (.if_icmp .eq 10, 3) := by decide +kernel
theorem d_Model_begins_44 : decode b_Model_begins 44 = .ok (.aload_n 0, 1) := by decide +kernel
theorem d_Model_begins_45 : decode b_Model_begins 45 = .ok (.getfield 62, 3) := by decide +kernel
theorem d_Model_begins_48 : decode b_Model_begins 48 = .ok (.iload_n 2, 1) := by decide +kernel
theorem d_Model_begins_49 : decode b_Model_begins 49 = .ok (.iconst 1, 1) := by decide +kernel
theorem d_Model_begins_50 : decode b_Model_begins 50 = .ok (.bastore, 1) := by decide +kernel
theorem d_Model_begins_51 : decode b_Model_begins 51 = .ok (.iinc 1 1, 3) := by decide +kernel
theorem d_Model_begins_54 : decode b_Model_begins 54 = .ok (.goto (-52), 3) := by decide +kernel
theorem d_Model_begins_57 : decode b_Model_begins 57 = .ok (.iconst 1, 1) := by decide +kernel
theorem d_Model_begins_58 : decode b_Model_begins 58 = .ok (.istore_n 1, 1) := by decide +kernel
theorem d_Model_begins_59 : decode b_Model_begins 59 = .ok (.iload_n 1, 1) := by decide +kernel
theorem d_Model_begins_60 : decode b_Model_begins 60 = .ok (.ifCond .eq 113, 3) := by decide +kernel
theorem d_Model_begins_63 : decode b_Model_begins 63 = .ok (.iconst 0, 1) := by decide +kernel
theorem d_Model_begins_64 : decode b_Model_begins 64 = .ok (.istore_n 2, 1) := by decide +kernel
theorem d_Model_begins_65 : decode b_Model_begins 65 = .ok (.iload_n 2, 1) := by decide +kernel
theorem d_Model_begins_66 : decode b_Model_begins 66 = .ok (.aload_n 0, 1) := by decide +kernel
theorem d_Model_begins_67 : decode b_Model_begins 67 = .ok (.getfield 7, 3) := by decide +kernel
theorem d_Model_begins_70 : decode b_Model_begins 70 = .ok (.if_icmp .ge 17, 3) := by decide +kernel
theorem d_Model_begins_73 : decode b_Model_begins 73 = .ok (.aload_n 0, 1) := by decide +kernel
theorem d_Model_begins_74 : decode b_Model_begins 74 = .ok (.iload_n 2, 1) := by decide +kernel
theorem d_Model_begins_75 : decode b_Model_begins 75 = .ok (.invokevirtual 166, 3) := by decide +kernel
theorem d_Model_begins_78 : decode b_Model_begins 78 = .ok (.ifCond .ne 9, 3) := by decide +kernel
theorem d_Model_begins_81 : decode b_Model_begins 81 = .ok (.iinc 2 1, 3) := by decide +kernel
theorem d_Model_begins_84 : decode b_Model_begins 84 = .ok (.goto (-19), 3) := by decide +kernel
theorem d_Model_begins_87 : decode b_Model_begins 87 = .ok (.iload_n 2, 1) := by decide +kernel
theorem d_Model_begins_88 : decode b_Model_begins 88 = .ok (.aload_n 0, 1) := by decide +kernel
theorem d_Model_begins_89 : decode b_Model_begins 89 = .ok (.getfield 7, 3) := by decide +kernel
theorem d_Model_begins_92 : decode b_Model_begins 92 = .ok (.if_icmp .ge 10, 3) := by decide +kernel
theorem d_Model_begins_95 : decode b_Model_begins 95 = .ok (.aload_n 0, 1) := by decide +kernel
theorem d_Model_begins_96 : decode b_Model_begins 96 = .ok (.invokevirtual 169, 3) := by decide +kernel
theorem d_Model_begins_99 : decode b_Model_begins 99 = .ok (.goto 4, 3) := by decide +kernel
theorem d_Model_begins_102 : decode b_Model_begins 102 = .ok (.iconst (-1), 1) := by decide +kernel
theorem d_Model_begins_103 : decode b_Model_begins 103 = .ok (.istore_n 3, 1) := by decide +kernel
theorem d_Model_begins_104 : decode b_Model_begins 104 = .ok (.iload_n 3, 1) := by decide +kernel
theorem d_Model_begins_105 : decode b_Model_begins 105 = .ok (.ifCond .lt 7, 3) := by decide +kernel
theorem d_Model_begins_108 : decode b_Model_begins 108 = .ok (.iconst 1, 1) := by decide +kernel
theorem d_Model_begins_109 : decode b_Model_begins 109 = .ok (.goto 4, 3) := by decide +kernel
theorem d_Model_begins_112 : decode b_Model_begins 112 = .ok (.iconst 0, 1) := by decide +kernel
theorem d_Model_begins_113 : decode b_Model_begins 113 = .ok (.istore_n 1, 1) := by decide +kernel
theorem d_Model_begins_114 : decode b_Model_begins 114 = .ok (.iload_n 1, 1) := by decide +kernel
theorem d_Model_begins_115 : decode b_Model_begins 115 = .ok (.ifCond .ne 6, 3) := by decide +kernel
theorem d_Model_begins_118 : decode b_Model_begins 118 = .ok (.goto 55, 3) := by decide +kernel
theorem d_Model_begins_121 : decode b_Model_begins 121 = .ok (.aload_n 0, 1) := by decide +kernel
theorem d_Model_begins_122 : decode b_Model_begins 122 = .ok (.getfield 66, 3) := by decide +kernel
theorem d_Model_begins_125 : decode b_Model_begins 125 = .ok (.iload_n 2, 1) := by decide +kernel
theorem d_Model_begins_126 : decode b_Model_begins 126 = .ok (.iload_n 3, 1) := by decide +kernel
theorem d_Model_begins_127 : decode b_Model_begins 127 = .ok (.iastore, 1) := by decide +kernel
theorem d_Model_begins_128 : decode b_Model_begins 128 = .ok (.aload_n 0, 1) := by decide +kernel
theorem d_Model_begins_129 : decode b_Model_begins 129 = .ok (.getfield 50, 3) := by decide +kernel
theorem d_Model_begins_132 : decode b_Model_begins 132 = .ok (.iload_n 3, 1) := by decide +kernel
theorem d_Model_begins_133 : decode b_Model_begins 133 = .ok (.iload_n 2, 1) := by decide +kernel
theorem d_Model_begins_134 : decode b_Model_begins 134 = .ok (.iastore, 1) := by decide +kernel
theorem d_Model_begins_135 : decode b_Model_begins 135 = .ok (.aload_n 0, 1) := by decide +kernel
theorem d_Model_begins_136 : decode b_Model_begins 136 = .ok (.getfield 44, 3) := by decide +kernel
theorem d_Model_begins_139 : decode b_Model_begins 139 = .ok (.iload_n 3, 1) := by decide +kernel
theorem d_Model_begins_140 : decode b_Model_begins 140 = .ok (.aload_n 0, 1) := by decide +kernel
theorem d_Model_begins_141 : decode b_Model_begins 141 = .ok (.getfield 117, 3) := by decide +kernel
theorem d_Model_begins_144 : decode b_Model_begins 144 = .ok (.iastore, 1) := by decide +kernel
theorem d_Model_begins_145 : decode b_Model_begins 145 = .ok (.aload_n 0, 1) := by decide +kernel
theorem d_Model_begins_146 : decode b_Model_begins 146 = .ok (.getfield 56, 3) := by decide +kernel
theorem d_Model_begins_149 : decode b_Model_begins 149 = .ok (.iload_n 3, 1) := by decide +kernel
theorem d_Model_begins_150 : decode b_Model_begins 150 = .ok (.iconst (-1), 1) := by decide +kernel
theorem d_Model_begins_151 : decode b_Model_begins 151 = .ok (.iastore, 1) := by decide +kernel
theorem d_Model_begins_152 : decode b_Model_begins 152 = .ok (.aload_n 0, 1) := by decide +kernel
theorem d_Model_begins_153 : decode b_Model_begins 153 = .ok (.getfield 53, 3) := by decide +kernel
theorem d_Model_begins_156 : decode b_Model_begins 156 = .ok (.iload_n 3, 1) := by decide +kernel
theorem d_Model_begins_157 : decode b_Model_begins 157 = .ok (.aload_n 0, 1) := by decide +kernel
theorem d_Model_begins_158 : decode b_Model_begins 158 = .ok (.iload_n 3, 1) := by decide +kernel
theorem d_Model_begins_159 : decode b_Model_begins 159 = .ok (.aload_n 0, 1) := by decide +kernel
theorem d_Model_begins_160 : decode b_Model_begins 160 = .ok (.getfield 26, 3) := by decide +kernel
theorem d_Model_begins_163 : decode b_Model_begins 163 = .ok (.iload_n 3, 1) := by decide +kernel
theorem d_Model_begins_164 : decode b_Model_begins 164 = .ok (.iaload, 1) := by decide +kernel
theorem d_Model_begins_165 : decode b_Model_begins 165 = .ok (.iconst (-1), 1) := by decide +kernel
theorem d_Model_begins_166 : decode b_Model_begins 166 = .ok (.invokevirtual 156, 3) := by decide +kernel
theorem d_Model_begins_169 : decode b_Model_begins 169 = .ok (.iastore, 1) := by decide +kernel
theorem d_Model_begins_170 : decode b_Model_begins 170 = .ok (.goto (-111), 3) := by decide +kernel
theorem d_Model_begins_173 : decode b_Model_begins 173 = .ok (.iconst 0, 1) := by decide +kernel
theorem d_Model_begins_174 : decode b_Model_begins 174 = .ok (.istore_n 2, 1) := by decide +kernel
theorem d_Model_begins_175 : decode b_Model_begins 175 = .ok (.iconst 0, 1) := by decide +kernel
theorem d_Model_begins_176 : decode b_Model_begins 176 = .ok (.istore_n 3, 1) := by decide +kernel
theorem d_Model_begins_177 : decode b_Model_begins 177 = .ok (.iload_n 3, 1) := by decide +kernel
theorem d_Model_begins_178 : decode b_Model_begins 178 = .ok (.aload_n 0, 1) := by decide +kernel
theorem d_Model_begins_179 : decode b_Model_begins 179 = .ok (.getfield 114, 3) := by decide +kernel
theorem d_Model_begins_182 : decode b_Model_begins 182 = .ok (.if_icmp .ge 30, 3) := by decide +kernel
theorem d_Model_begins_185 : decode b_Model_begins 185 = .ok (.aload_n 0, 1) := by decide +kernel
theorem d_Model_begins_186 : decode b_Model_begins 186 = .ok (.getfield 44, 3) := by decide +kernel
theorem d_Model_begins_189 : decode b_Model_begins 189 = .ok (.iload_n 3, 1) := by decide +kernel
theorem d_Model_begins_190 : decode b_Model_begins 190 = .ok (.iaload, 1) := by decide +kernel
theorem d_Model_begins_191 : decode b_Model_begins 191 = .ok (.ifCond .lt 15, 3) := by decide +kernel
theorem d_Model_begins_194 : decode b_Model_begins 194 = .ok (.aload_n 0, 1) := by decide +kernel
theorem d_Model_begins_195 : decode b_Model_begins 195 = .ok (.getfield 38, 3) := by decide +kernel
theorem d_Model_begins_198 : decode b_Model_begins 198 = .ok (.iload_n 3, 1) := by decide +kernel
theorem d_Model_begins_199 : decode b_Model_begins 199 = .ok (.iaload, 1) := by decide +kernel
theorem d_Model_begins_200 : decode b_Model_begins 200 = .ok (.ifCond .ne 6, 3) := by decide +kernel
theorem d_Model_begins_203 : decode b_Model_begins 203 = .ok (.iinc 2 1, 3) := by decide +kernel
theorem d_Model_begins_206 : decode b_Model_begins 206 = .ok (.iinc 3 1, 3) := by decide +kernel
theorem d_Model_begins_209 : decode b_Model_begins 209 = .ok (.goto (-32), 3) := by decide +kernel
theorem d_Model_begins_212 : decode b_Model_begins 212 = .ok (.aload_n 0, 1) := by decide +kernel
theorem d_Model_begins_213 : decode b_Model_begins 213 = .ok (.iload_n 2, 1) := by decide +kernel
theorem d_Model_begins_214 : decode b_Model_begins 214 = .ok (.aload_n 0, 1) := by decide +kernel
theorem d_Model_begins_215 : decode b_Model_begins 215 = .ok (.getfield 173, 3) := by decide +kernel
theorem d_Model_begins_218 : decode b_Model_begins 218 = .ok (.if_icmp .le 7, 3) := by decide +kernel
theorem d_Model_begins_221 : decode b_Model_begins 221 = .ok (.iload_n 2, 1) := by decide +kernel
theorem d_Model_begins_222 : decode b_Model_begins 222 = .ok (.goto 7, 3) := by decide +kernel
theorem d_Model_begins_225 : decode b_Model_begins 225 = .ok (.aload_n 0, 1) := by decide +kernel
theorem d_Model_begins_226 : decode b_Model_begins 226 = .ok (.getfield 173, 3) := by decide +kernel
theorem d_Model_begins_229 : decode b_Model_begins 229 = .ok (.putfield 173, 3) := by decide +kernel
theorem d_Model_begins_232 : decode b_Model_begins 232 = .ok (.return_, 1) := by decide +kernel
theorem d_Model_isDone_0 : decode b_Model_isDone 0 = .ok (.iconst 0, 1) := by decide +kernel
theorem d_Model_isDone_1 : decode b_Model_isDone 1 = .ok (.istore_n 1, 1) := by decide +kernel
theorem d_Model_isDone_2 : decode b_Model_isDone 2 = .ok (.iload_n 1, 1) := by decide +kernel
theorem d_Model_isDone_3 : decode b_Model_isDone 3 = .ok (.aload_n 0, 1) := by decide +kernel
theorem d_Model_isDone_4 : decode b_Model_isDone 4 = .ok (.getfield 114, 3) := by decide +kernel
theorem d_Model_isDone_7 : decode b_Model_isDone 7 = .ok (.if_icmp .ge 20, 3) := by decide +kernel
theorem d_Model_isDone_10 : decode b_Model_isDone 10 = .ok (.aload_n 0, 1) := by decide +kernel
theorem d_Model_isDone_11 : decode b_Model_isDone 11 = .ok (.getfield 38, 3) := by decide +kernel
theorem d_Model_isDone_14 : decode b_Model_isDone 14 = .ok (.iload_n 1, 1) := by decide +kernel
theorem d_Model_isDone_15 : decode b_Model_isDone 15 = .ok (.iaload, 1) := by decide +kernel
theorem d_Model_isDone_16 : decode b_Model_isDone 16 = .ok (.ifCond .ne 5, 3) := by decide +kernel
theorem d_Model_isDone_19 : decode b_Model_isDone 19 = .ok (.iconst 0, 1) := by decide +kernel
theorem d_Model_isDone_20 : decode b_Model_isDone 20 = .ok (.ireturn, 1) := by decide +kernel
theorem d_Model_isDone_21 : decode b_Model_isDone 21 = .ok (.iinc 1 1, 3) := by decide +kernel
theorem d_Model_isDone_24 : decode b_Model_isDone 24 = .ok (.goto (-22), 3) := by decide +kernel
theorem d_Model_isDone_27 : decode b_Model_isDone 27 = .ok (.iconst 0, 1) := by decide +kernel
theorem d_Model_isDone_28 : decode b_Model_isDone 28 = .ok (.istore_n 1, 1) := by decide +kernel
theorem d_Model_isDone_29 : decode b_Model_isDone 29 = .ok (.iload_n 1, 1) := by decide +kernel
theorem d_Model_isDone_30 : decode b_Model_isDone 30 = .ok (.aload_n 0, 1) := by decide +kernel
theorem d_Model_isDone_31 : decode b_Model_isDone 31 = .ok (.getfield 7, 3) := by decide +kernel
theorem d_Model_isDone_34 : decode b_Model_isDone 34 = .ok (.if_icmp .ge 19, 3) := by decide +kernel
theorem d_Model_isDone_37 : decode b_Model_isDone 37 = .ok (.aload_n 0, 1) := by decide +kernel
theorem d_Model_isDone_38 : decode b_Model_isDone 38 = .ok (.iload_n 1, 1) := by decide +kernel
theorem d_Model_isDone_39 : decode b_Model_isDone 39 = .ok (.invokevirtual 166, 3) := by decide +kernel
theorem d_Model_isDone_42 : decode b_Model_isDone 42 = .ok (.ifCond .ne 5, 3) := by decide +kernel
theorem d_Model_isDone_45 : decode b_Model_isDone 45 = .ok (.iconst 0, 1) := by decide +kernel
theorem d_Model_isDone_46 : decode b_Model_isDone 46 = .ok (.ireturn, 1) := by decide +kernel
theorem d_Model_isDone_47 : decode b_Model_isDone 47 = .ok (.iinc 1 1, 3) := by decide +kernel
theorem d_Model_isDone_50 : decode b_Model_isDone 50 = .ok (.goto (-21), 3) := by decide +kernel
theorem d_Model_isDone_53 : decode b_Model_isDone 53 = .ok (.iconst 1, 1) := by decide +kernel
theorem d_Model_isDone_54 : decode b_Model_isDone 54 = .ok (.ireturn, 1) := by decide +kernel
theorem d_Model_run_0 : decode b_Model_run 0 = .ok (.aload_n 0, 1) := by decide +kernel
theorem d_Model_run_1 : decode b_Model_run 1 = .ok (.iconst 0, 1) := by decide +kernel
theorem d_Model_run_2 : decode b_Model_run 2 = .ok (.putfield 99, 3) := by decide +kernel
theorem d_Model_run_5 : decode b_Model_run 5 = .ok (.aload_n 0, 1) := by decide +kernel
theorem d_Model_run_6 : decode b_Model_run 6 = .ok (.iconst 0, 1) := by decide +kernel
theorem d_Model_run_7 : decode b_Model_run 7 = .ok (.putfield 117, 3) := by decide +kernel
theorem d_Model_run_10 : decode b_Model_run 10 = .ok (.aload_n 0, 1) := by decide +kernel
theorem d_Model_run_11 : decode b_Model_run 11 = .ok (.iconst 0, 1) := by decide +kernel
theorem d_Model_run_12 : decode b_Model_run 12 = .ok (.putfield 150, 3) := by decide +kernel
theorem d_Model_run_15 : decode b_Model_run 15 = .ok (.aload_n 0, 1) := by decide +kernel
theorem d_Model_run_16 : decode b_Model_run 16 = .ok (.iconst 0, 1) := by decide +kernel
theorem d_Model_run_17 : decode b_Model_run 17 = .ok (.putfield 120, 3) := by decide +kernel
theorem d_Model_run_20 : decode b_Model_run 20 = .ok (.aload_n 0, 1) := by decide +kernel
theorem d_Model_run_21 : decode b_Model_run 21 = .ok (.iconst 0, 1) := by decide +kernel
theorem d_Model_run_22 : decode b_Model_run 22 = .ok (.putfield 176, 3) := by decide +kernel
theorem d_Model_run_25 : decode b_Model_run 25 = .ok (.aload_n 0, 1) := by decide +kernel
theorem d_Model_run_26 : decode b_Model_run 26 = .ok (.iconst 0, 1) := by decide +kernel
theorem d_Model_run_27 : decode b_Model_run 27 = .ok (.putfield 173, 3) := by decide +kernel
theorem d_Model_run_30 : decode b_Model_run 30 = .ok (.aload_n 0, 1) := by decide +kernel
theorem d_Model_run_31 : decode b_Model_run 31 = .ok (.iconst 0, 1) := by decide +kernel
theorem d_Model_run_32 : decode b_Model_run 32 = .ok (.putfield 131, 3) := by decide +kernel
theorem d_Model_run_35 : decode b_Model_run 35 = .ok (.aload_n 0, 1) := by decide +kernel
theorem d_Model_run_36 : decode b_Model_run 36 = .ok (.invokevirtual 179, 3) := by decide +kernel
theorem d_Model_run_39 : decode b_Model_run 39 = .ok (.iconst 0, 1) := by decide +kernel
theorem d_Model_run_40 : decode b_Model_run 40 = .ok (.istore_n 1, 1) := by decide +kernel
theorem d_Model_run_41 : decode b_Model_run 41 = .ok (.iload_n 1, 1) := by decide +kernel
theorem d_Model_run_42 : decode b_Model_run 42 = .ok (.aload_n 0, 1) := by decide +kernel
theorem d_Model_run_43 : decode b_Model_run 43 = .ok (.getfield 114, 3) := by decide +kernel
theorem d_Model_run_46 : decode b_Model_run 46 = .ok (.if_icmp .ge 58, 3) := by decide +kernel
theorem d_Model_run_49 : decode b_Model_run 49 = .ok (.aload_n 0, 1) := by decide +kernel
theorem d_Model_run_50 : decode b_Model_run 50 = .ok (.getfield 38, 3) := by decide +kernel
theorem d_Model_run_53 : decode b_Model_run 53 = .ok (.iload_n 1, 1) := by decide +kernel
theorem d_Model_run_54 : decode b_Model_run 54 = .ok (.iconst 0, 1) := by decide +kernel
theorem d_Model_run_55 : decode b_Model_run 55 = .ok (.iastore, 1) := by decide +kernel
theorem d_Model_run_56 : decode b_Model_run 56 = .ok (.aload_n 0, 1) := by decide +kernel
theorem d_Model_run_57 : decode b_Model_run 57 = .ok (.getfield 41, 3) := by decide +kernel
theorem d_Model_run_60 : decode b_Model_run 60 = .ok (.iload_n 1, 1) := by decide +kernel
theorem d_Model_run_61 : decode b_Model_run 61 = .ok (.iconst (-1), 1) := by decide +kernel
theorem d_Model_run_62 : decode b_Model_run 62 = .ok (.iastore, 1) := by decide +kernel
theorem d_Model_run_63 : decode b_Model_run 63 = .ok (.aload_n 0, 1) := by decide +kernel
theorem d_Model_run_64 : decode b_Model_run 64 = .ok (.getfield 44, 3) := by decide +kernel
theorem d_Model_run_67 : decode b_Model_run 67 = .ok (.iload_n 1, 1) := by decide +kernel
theorem d_Model_run_68 : decode b_Model_run 68 = .ok (.iconst (-1), 1) := by decide +kernel
theorem d_Model_run_69 : decode b_Model_run 69 = .ok (.iastore, 1) := by decide +kernel
theorem d_Model_run_70 : decode b_Model_run 70 = .ok (.aload_n 0, 1) := by decide +kernel
theorem d_Model_run_71 : decode b_Model_run 71 = .ok (.getfield 47, 3) := by decide +kernel
theorem d_Model_run_74 : decode b_Model_run 74 = .ok (.iload_n 1, 1) := by decide +kernel
theorem d_Model_run_75 : decode b_Model_run 75 = .ok (.iconst (-1), 1) := by decide +kernel
theorem d_Model_run_76 : decode b_Model_run 76 = .ok (.iastore, 1) := by decide +kernel
theorem d_Model_run_77 : decode b_Model_run 77 = .ok (.aload_n 0, 1) := by decide +kernel
theorem d_Model_run_78 : decode b_Model_run 78 = .ok (.getfield 50, 3) := by decide +kernel
theorem d_Model_run_81 : decode b_Model_run 81 = .ok (.iload_n 1, 1) := by decide +kernel
theorem d_Model_run_82 : decode b_Model_run 82 = .ok (.iconst (-1), 1) := by decide +kernel
theorem d_Model_run_83 : decode b_Model_run 83 = .ok (.iastore, 1) := by decide +kernel
theorem d_Model_run_84 : decode b_Model_run 84 = .ok (.aload_n 0, 1) := by decide +kernel
theorem d_Model_run_85 : decode b_Model_run 85 = .ok (.getfield 62, 3) := by decide +kernel
theorem d_Model_run_88 : decode b_Model_run 88 = .ok (.iload_n 1, 1) := by decide +kernel
theorem d_Model_run_89 : decode b_Model_run 89 = .ok (.iconst 0, 1) := by decide +kernel
theorem d_Model_run_90 : decode b_Model_run 90 = .ok (.bastore, 1) := by decide +kernel
theorem d_Model_run_91 : decode b_Model_run 91 = .ok (.aload_n 0, 1) := by decide +kernel
theorem d_Model_run_92 : decode b_Model_run 92 = .ok (.getfield 59, 3) := by decide +kernel
theorem d_Model_run_95 : decode b_Model_run 95 = .ok (.iload_n 1, 1) := by decide +kernel
theorem d_Model_run_96 : decode b_Model_run 96 = .ok (.iconst 0, 1) := by decide +kernel
theorem d_Model_run_97 : decode b_Model_run 97 = .ok (.iastore, 1) := by decide +kernel
theorem d_Model_run_98 : decode b_Model_run 98 = .ok (.iinc 1 1, 3) := by decide +kernel
theorem d_Model_run_101 : decode b_Model_run 101 = .ok (.goto (-60), 3) := by decide +kernel
theorem d_Model_run_104 : decode b_Model_run 104 = .ok (.iconst 0, 1) := by decide +kernel
theorem d_Model_run_105 : decode b_Model_run 105 = .ok (.istore_n 1, 1) := by decide +kernel
theorem d_Model_run_106 : decode b_Model_run 106 = .ok (.iload_n 1, 1) := by decide +kernel
theorem d_Model_run_107 : decode b_Model_run 107 = .ok (.iconst 4, 1) := by decide +kernel
theorem d_Model_run_108 : decode b_Model_run 108 = .ok (.if_icmp .ge 16, 3) := by decide +kernel
theorem d_Model_run_111 : decode b_Model_run 111 = .ok (.aload_n 0, 1) := by decide +kernel
theorem d_Model_run_112 : decode b_Model_run 112 = .ok (.getfield 66, 3) := by decide +kernel
theorem d_Model_run_115 : decode b_Model_run 115 = .ok (.iload_n 1, 1) := by decide +kernel
theorem d_Model_run_116 : decode b_Model_run 116 = .ok (.iconst (-1), 1) := by decide +kernel
theorem d_Model_run_117 : decode b_Model_run 117 = .ok (.iastore, 1) := by decide +kernel
theorem d_Model_run_118 : decode b_Model_run 118 = .ok (.iinc 1 1, 3) := by decide +kernel
theorem d_Model_run_121 : decode b_Model_run 121 = .ok (.goto (-15), 3) := by decide +kernel
theorem d_Model_run_124 : decode b_Model_run 124 = .ok (.iconst 0, 1) := by decide +kernel
theorem d_Model_run_125 : decode b_Model_run 125 = .ok (.istore_n 1, 1) := by decide +kernel
theorem d_Model_run_126 : decode b_Model_run 126 = .ok (.iload_n 1, 1) := by decide +kernel
theorem d_Model_run_127 : decode b_Model_run 127 = .ok (.ifCond .ne 84, 3) := by decide +kernel
theorem d_Model_run_130 : decode b_Model_run 130 = .ok (.aload_n 0, 1) := by decide +kernel
theorem d_Model_run_131 : decode b_Model_run 131 = .ok (.getfield 117, 3) := by decide +kernel
theorem d_Model_run_134 : decode b_Model_run 134 = .ok (.sipush 150, 3) := by decide +kernel
theorem d_Model_run_137 : decode b_Model_run 137 = .ok (.if_icmp .ge 74, 3) := by decide +kernel
theorem d_Model_run_140 : decode b_Model_run 140 = .ok (.aload_n 0, 1) := by decide +kernel
theorem d_Model_run_141 : decode b_Model_run 141 = .ok (.invokevirtual 182, 3) := by decide +kernel
theorem d_Model_run_144 : decode b_Model_run 144 = .ok (.aload_n 0, 1) := by decide +kernel
theorem d_Model_run_145 : decode b_Model_run 145 = .ok (.invokevirtual 185, 3) := by decide +kernel
theorem d_Model_run_148 : decode b_Model_run 148 = .ok (.aload_n 0, 1) := by decide +kernel
theorem d_Model_run_149 : decode b_Model_run 149 = .ok (.invokevirtual 188, 3) := by decide +kernel
theorem d_Model_run_152 : decode b_Model_run 152 = .ok (.istore_n 1, 1) := by decide +kernel
theorem d_Model_run_153 : decode b_Model_run 153 = .ok (.iload_n 1, 1) := by decide +kernel
theorem d_Model_run_154 : decode b_Model_run 154 = .ok (.ifCond .eq 7, 3) := by decide +kernel
theorem d_Model_run_157 : decode b_Model_run 157 = .ok (.iconst 0, 1) := by decide +kernel
theorem d_Model_run_158 : decode b_Model_run 158 = .ok (.goto 7, 3) := by decide +kernel
theorem d_Model_run_161 : decode b_Model_run 161 = .ok (.aload_n 0, 1) := by decide +kernel
theorem d_Model_run_162 : decode b_Model_run 162 = .ok (.getfield 131, 3) := by decide +kernel
theorem d_Model_run_165 : decode b_Model_run 165 = .ok (.istore_n 2, 1) := by decide +kernel
theorem d_Model_run_166 : decode b_Model_run 166 = .ok (.iconst 0, 1) := by decide +kernel
theorem d_Model_run_167 : decode b_Model_run 167 = .ok (.istore_n 3, 1) := by decide +kernel
theorem d_Model_run_168 : decode b_Model_run 168 = .ok (.iload_n 3, 1) := by decide +kernel
theorem d_Model_run_169 : decode b_Model_run 169 = .ok (.iload_n 2, 1) := by decide +kernel
theorem d_Model_run_170 : decode b_Model_run 170 = .ok (.if_icmp .ge 24, 3) := by decide +kernel
theorem d_Model_run_173 : decode b_Model_run 173 = .ok (.aload_n 0, 1) := by decide +kernel
theorem d_Model_run_174 : decode b_Model_run 174 = .ok (.getfield 81, 3) := by decide +kernel
theorem d_Model_run_177 : decode b_Model_run 177 = .ok (.iload_n 3, 1) := by decide +kernel
theorem d_Model_run_178 : decode b_Model_run 178 = .ok (.iaload, 1) := by decide +kernel
theorem d_Model_run_179 : decode b_Model_run 179 = .ok (.iconst 5, 1) := by decide +kernel
theorem d_Model_run_180 : decode b_Model_run 180 = .ok (.if_icmp .eq 8, 3) := by decide +kernel
theorem d_Model_run_183 : decode b_Model_run 183 = .ok (.aload_n 0, 1) := by decide +kernel
theorem d_Model_run_184 : decode b_Model_run 184 = .ok (.iload_n 3, 1) := by decide +kernel
theorem d_Model_run_185 : decode b_Model_run 185 = .ok (.invokevirtual 192, 3) := by decide +kernel
theorem d_Model_run_188 : decode b_Model_run 188 = .ok (.iinc 3 1, 3) := by decide +kernel
theorem d_Model_run_191 : decode b_Model_run 191 = .ok (.goto (-23), 3) := by decide +kernel
theorem d_Model_run_194 : decode b_Model_run 194 = .ok (.iload_n 1, 1) := by decide +kernel
theorem d_Model_run_195 : decode b_Model_run 195 = .ok (.ifCond .ne 13, 3) := by decide +kernel
theorem d_Model_run_198 : decode b_Model_run 198 = .ok (.aload_n 0, 1) := by decide +kernel
theorem d_Model_run_199 : decode b_Model_run 199 = .ok (.dup, 1) := by decide +kernel
theorem d_Model_run_200 : decode b_Model_run 200 = .ok (.getfield 117, 3) := by decide +kernel
theorem d_Model_run_203 : decode b_Model_run 203 = .ok (.iconst 1, 1) := by decide +kernel
theorem d_Model_run_204 : decode b_Model_run 204 = .ok (.iadd, 1) := by decide +kernel
theorem d_Model_run_205 : decode b_Model_run 205 = .ok (.putfield 117, 3) := by decide +kernel
theorem d_Model_run_208 : decode b_Model_run 208 = .ok (.goto (-82), 3) := by decide +kernel
theorem d_Model_run_211 : decode b_Model_run 211 = .ok (.iconst 0, 1) := by decide +kernel
theorem d_Model_run_212 : decode b_Model_run 212 = .ok (.istore_n 2, 1) := by decide +kernel
theorem d_Model_run_213 : decode b_Model_run 213 = .ok (.iload_n 2, 1) := by decide +kernel
theorem d_Model_run_214 : decode b_Model_run 214 = .ok (.aload_n 0, 1) := by decide +kernel
theorem d_Model_run_215 : decode b_Model_run 215 = .ok (.getfield 114, 3) := by decide +kernel
theorem d_Model_run_218 : decode b_Model_run 218 = .ok (.if_icmp .ge 25, 3) := by decide +kernel
theorem d_Model_run_221 : decode b_Model_run 221 = .ok (.aload_n 0, 1) := by decide +kernel
theorem d_Model_run_222 : decode b_Model_run 222 = .ok (.getfield 38, 3) := by decide +kernel
theorem d_Model_run_225 : decode b_Model_run 225 = .ok (.iload_n 2, 1) := by decide +kernel
theorem d_Model_run_226 : decode b_Model_run 226 = .ok (.iaload, 1) := by decide +kernel
theorem d_Model_run_227 : decode b_Model_run 227 = .ok (.ifCond .ne 10, 3) := by decide +kernel
theorem d_Model_run_230 : decode b_Model_run 230 = .ok (.aload_n 0, 1) := by decide +kernel
theorem d_Model_run_231 : decode b_Model_run 231 = .ok (.iload_n 2, 1) := by decide +kernel
theorem d_Model_run_232 : decode b_Model_run 232 = .ok (.iconst 4, 1) := by decide +kernel
theorem d_Model_run_233 : decode b_Model_run 233 = .ok (.iconst (-1), 1) := by decide +kernel
theorem d_Model_run_234 : decode b_Model_run 234 = .ok (.invokevirtual 127, 3) := by decide +kernel
theorem d_Model_run_237 : decode b_Model_run 237 = .ok (.iinc 2 1, 3) := by decide +kernel
theorem d_Model_run_240 : decode b_Model_run 240 = .ok (.goto (-27), 3) := by decide +kernel
theorem d_Model_run_243 : decode b_Model_run 243 = .ok (.iconst 0, 1) := by decide +kernel
theorem d_Model_run_244 : decode b_Model_run 244 = .ok (.istore_n 2, 1) := by decide +kernel
theorem d_Model_run_245 : decode b_Model_run 245 = .ok (.iload_n 2, 1) := by decide +kernel
theorem d_Model_run_246 : decode b_Model_run 246 = .ok (.aload_n 0, 1) := by decide +kernel
theorem d_Model_run_247 : decode b_Model_run 247 = .ok (.getfield 131, 3) := by decide +kernel
theorem d_Model_run_250 : decode b_Model_run 250 = .ok (.if_icmp .ge 29, 3) := by decide +kernel
theorem d_Model_run_253 : decode b_Model_run 253 = .ok (.aload_n 0, 1) := by decide +kernel
theorem d_Model_run_254 : decode b_Model_run 254 = .ok (.getfield 81, 3) := by decide +kernel
theorem d_Model_run_257 : decode b_Model_run 257 = .ok (.iload_n 2, 1) := by decide +kernel
theorem d_Model_run_258 : decode b_Model_run 258 = .ok (.iaload, 1) := by decide +kernel
theorem d_Model_run_259 : decode b_Model_run 259 = .ok (.iconst 5, 1) := by decide +kernel
theorem d_Model_run_260 : decode b_Model_run 260 = .ok (.if_icmp .eq 13, 3) := by decide +kernel
theorem d_Model_run_263 : decode b_Model_run 263 = .ok (.aload_n 0, 1) := by decide +kernel
theorem d_Model_run_264 : decode b_Model_run 264 = .ok (.dup, 1) := by decide +kernel
theorem d_Model_run_265 : decode b_Model_run 265 = .ok (.getfield 176, 3) := by decide +kernel
theorem d_Model_run_268 : decode b_Model_run 268 = .ok (.iconst 1, 1) := by decide +kernel
theorem d_Model_run_269 : decode b_Model_run 269 = .ok (.iadd, 1) := by decide +kernel
theorem d_Model_run_270 : decode b_Model_run 270 = .ok (.putfield 176, 3) := by decide +kernel
theorem d_Model_run_273 : decode b_Model_run 273 = .ok (.iinc 2 1, 3) := by decide +kernel
theorem d_Model_run_276 : decode b_Model_run 276 = .ok (.goto (-31), 3) := by decide +kernel
theorem d_Model_run_279 : decode b_Model_run 279 = .ok (.aload_n 0, 1) := by decide +kernel
theorem d_Model_run_280 : decode b_Model_run 280 = .ok (.iconst 0, 1) := by decide +kernel
theorem d_Model_run_281 : decode b_Model_run 281 = .ok (.putfield 196, 3) := by decide +kernel
theorem d_Model_run_284 : decode b_Model_run 284 = .ok (.iconst 0, 1) := by decide +kernel
theorem d_Model_run_285 : decode b_Model_run 285 = .ok (.istore_n 2, 1) := by decide +kernel
theorem d_Model_run_286 : decode b_Model_run 286 = .ok (.iload_n 2, 1) := by decide +kernel
theorem d_Model_run_287 : decode b_Model_run 287 = .ok (.aload_n 0, 1) := by decide +kernel
theorem d_Model_run_288 : decode b_Model_run 288 = .ok (.getfield 114, 3) := by decide +kernel
theorem d_Model_run_291 : decode b_Model_run 291 = .ok (.if_icmp .ge 24, 3) := by decide +kernel
theorem d_Model_run_294 : decode b_Model_run 294 = .ok (.aload_n 0, 1) := by decide +kernel
theorem d_Model_run_295 : decode b_Model_run 295 = .ok (.getfield 38, 3) := by decide +kernel
theorem d_Model_run_298 : decode b_Model_run 298 = .ok (.iload_n 2, 1) := by decide +kernel
theorem d_Model_run_299 : decode b_Model_run 299 = .ok (.iaload, 1) := by decide +kernel
theorem d_Model_run_300 : decode b_Model_run 300 = .ok (.iconst 1, 1) := by decide +kernel
theorem d_Model_run_301 : decode b_Model_run 301 = .ok (.if_icmp .eq 8, 3) := by decide +kernel
theorem d_Model_run_304 : decode b_Model_run 304 = .ok (.aload_n 0, 1) := by decide +kernel
theorem d_Model_run_305 : decode b_Model_run 305 = .ok (.iconst 1, 1) := by decide +kernel
theorem d_Model_run_306 : decode b_Model_run 306 = .ok (.putfield 196, 3) := by decide +kernel
theorem d_Model_run_309 : decode b_Model_run 309 = .ok (.iinc 2 1, 3) := by decide +kernel
theorem d_Model_run_312 : decode b_Model_run 312 = .ok (.goto (-26), 3) := by decide +kernel
theorem d_Model_run_315 : decode b_Model_run 315 = .ok (.aload_n 0, 1) := by decide +kernel
theorem d_Model_run_316 : decode b_Model_run 316 = .ok (.getfield 117, 3) := by decide +kernel
theorem d_Model_run_319 : decode b_Model_run 319 = .ok (.ireturn, 1) := by decide +kernel
theorem d_Model_look_0 : decode b_Model_look 0 = .ok (.aload_n 0, 1) := by decide +kernel
theorem d_Model_look_1 : decode b_Model_look 1 = .ok (.iconst 0, 1) := by decide +kernel
theorem d_Model_look_2 : decode b_Model_look 2 = .ok (.putfield 99, 3) := by decide +kernel
theorem d_Model_look_5 : decode b_Model_look 5 = .ok (.aload_n 0, 1) := by decide +kernel
theorem d_Model_look_6 : decode b_Model_look 6 = .ok (.iload_n 1, 1) := by decide +kernel
theorem d_Model_look_7 : decode b_Model_look 7 = .ok (.iconst 0, 1) := by decide +kernel
theorem d_Model_look_8 : decode b_Model_look 8 = .ok (.aload_n 0, 1) := by decide +kernel
theorem d_Model_look_9 : decode b_Model_look 9 = .ok (.getfield 114, 3) := by decide +kernel
theorem d_Model_look_12 : decode b_Model_look 12 = .ok (.iconst 1, 1) := by decide +kernel
theorem d_Model_look_13 : decode b_Model_look 13 = .ok (.isub, 1) := by decide +kernel
theorem d_Model_look_14 : decode b_Model_look 14 = .ok (.invokestatic 102, 3) := by decide +kernel
theorem d_Model_look_17 : decode b_Model_look 17 = .ok (.ifCond .eq 13, 3) := by decide +kernel
theorem d_Model_look_20 : decode b_Model_look 20 = .ok (.iload_n 2, 1) := by decide +kernel
theorem d_Model_look_21 : decode b_Model_look 21 = .ok (.iconst 0, 1) := by decide +kernel
theorem d_Model_look_22 : decode b_Model_look 22 = .ok (.bipush 6, 2) := by decide +kernel
theorem d_Model_look_24 : decode b_Model_look 24 = .ok (.invokestatic 102, 3) := by decide +kernel
theorem d_Model_look_27 : decode b_Model_look 27 = .ok (.ifCond .ne 7, 3) := by decide +kernel
theorem d_Model_look_30 : decode b_Model_look 30 = .ok (.iconst 1, 1) := by decide +kernel
theorem d_Model_look_31 : decode b_Model_look 31 = .ok (.goto 4, 3) := by decide +kernel
theorem d_Model_look_34 : decode b_Model_look 34 = .ok (.iconst 0, 1) := by decide +kernel
theorem d_Model_look_35 : decode b_Model_look 35 = .ok (.iconst 1, 1) := by decide +kernel
theorem d_Model_look_36 : decode b_Model_look 36 = .ok (.invokevirtual 110, 3) := by decide +kernel
theorem d_Model_look_39 : decode b_Model_look 39 = .ok (.ifCond .eq 5, 3) := by decide +kernel
theorem d_Model_look_42 : decode b_Model_look 42 = .ok (.iconst 0, 1) := by decide +kernel
theorem d_Model_look_43 : decode b_Model_look 43 = .ok (.ireturn, 1) := by decide +kernel
theorem d_Model_look_44 : decode b_Model_look 44 = .ok (.iload_n 2, 1) := by decide +kernel
theorem d_Model_look_45 : decode b_Model_look 45 = .ok (.tableswitch 89 0 5 #[39, 46, 53, 60, 67, 74], 39) := by decide +kernel
theorem d_Model_look_84 : decode b_Model_look 84 = .ok (.aload_n 0, 1) := by decide +kernel
theorem d_Model_look_85 : decode b_Model_look 85 = .ok (.getfield 38, 3) := by decide +kernel
theorem d_Model_look_88 : decode b_Model_look 88 = .ok (.iload_n 1, 1) := by decide +kernel
theorem d_Model_look_89 : decode b_Model_look 89 = .ok (.iaload, 1) := by decide +kernel
theorem d_Model_look_90 : decode b_Model_look 90 = .ok (.ireturn, 1) := by decide +kernel
theorem d_Model_look_91 : decode b_Model_look 91 = .ok (.aload_n 0, 1) := by decide +kernel
theorem d_Model_look_92 : decode b_Model_look 92 = .ok (.getfield 41, 3) := by decide +kernel
theorem d_Model_look_95 : decode b_Model_look 95 = .ok (.iload_n 1, 1) := by decide +kernel
theorem d_Model_look_96 : decode b_Model_look 96 = .ok (.iaload, 1) := by decide +kernel
theorem d_Model_look_97 : decode b_Model_look 97 = .ok (.ireturn, 1) := by decide +kernel
theorem d_Model_look_98 : decode b_Model_look 98 = .ok (.aload_n 0, 1) := by decide +kernel
theorem d_Model_look_99 : decode b_Model_look 99 = .ok (.getfield 44, 3) := by decide +kernel
theorem d_Model_look_102 : decode b_Model_look 102 = .ok (.iload_n 1, 1) := by decide +kernel
theorem d_Model_look_103 : decode b_Model_look 103 = .ok (.iaload, 1) := by decide +kernel
theorem d_Model_look_104 : decode b_Model_look 104 = .ok (.ireturn, 1) := by decide +kernel
theorem d_Model_look_105 : decode b_Model_look 105 = .ok (.aload_n 0, 1) := by decide +kernel
theorem d_Model_look_106 : decode b_Model_look 106 = .ok (.getfield 47, 3) := by decide +kernel
theorem d_Model_look_109 : decode b_Model_look 109 = .ok (.iload_n 1, 1) := by decide +kernel
theorem d_Model_look_110 : decode b_Model_look 110 = .ok (.iaload, 1) := by decide +kernel
theorem d_Model_look_111 : decode b_Model_look 111 = .ok (.ireturn, 1) := by decide +kernel
theorem d_Model_look_112 : decode b_Model_look 112 = .ok (.aload_n 0, 1) := by decide +kernel
theorem d_Model_look_113 : decode b_Model_look 113 = .ok (.getfield 50, 3) := by decide +kernel
theorem d_Model_look_116 : decode b_Model_look 116 = .ok (.iload_n 1, 1) := by decide +kernel
theorem d_Model_look_117 : decode b_Model_look 117 = .ok (.iaload, 1) := by decide +kernel
theorem d_Model_look_118 : decode b_Model_look 118 = .ok (.ireturn, 1) := by decide +kernel
theorem d_Model_look_119 : decode b_Model_look 119 = .ok (.aload_n 0, 1) := by decide +kernel
theorem d_Model_look_120 : decode b_Model_look 120 = .ok (.getfield 62, 3) := by decide +kernel
theorem d_Model_look_123 : decode b_Model_look 123 = .ok (.iload_n 1, 1) := by decide +kernel
theorem d_Model_look_124 : decode b_Model_look 124 = .ok (.baload, 1) := by decide +kernel
theorem d_Model_look_125 : decode b_Model_look 125 = .ok (.ifCond .eq 7, 3) := by decide +kernel
theorem d_Model_look_128 : decode b_Model_look 128 = .ok (.iconst 1, 1) := by decide +kernel
theorem d_Model_look_129 : decode b_Model_look 129 = .ok (.goto 4, 3) := by decide +kernel
theorem d_Model_look_132 : decode b_Model_look 132 = .ok (.iconst 0, 1) := by decide +kernel
theorem d_Model_look_133 : decode b_Model_look 133 = .ok (.ireturn, 1) := by decide +kernel
theorem d_Model_look_134 : decode b_Model_look 134 = .ok (.aload_n 0, 1) := by decide +kernel
theorem d_Model_look_135 : decode b_Model_look 135 = .ok (.getfield 59, 3) := by decide +kernel
theorem d_Model_look_138 : decode b_Model_look 138 = .ok (.iload_n 1, 1) := by decide +kernel
theorem d_Model_look_139 : decode b_Model_look 139 = .ok (.iaload, 1) := by decide +kernel
theorem d_Model_look_140 : decode b_Model_look 140 = .ok (.ireturn, 1) := by decide +kernel
theorem d_Model_note_0 : decode b_Model_note 0 = .ok (.aload_n 0, 1) := by decide +kernel
theorem d_Model_note_1 : decode b_Model_note 1 = .ok (.iconst 0, 1) := by decide +kernel
theorem d_Model_note_2 : decode b_Model_note 2 = .ok (.putfield 99, 3) := by decide +kernel
theorem d_Model_note_5 : decode b_Model_note 5 = .ok (.aload_n 0, 1) := by decide +kernel
theorem d_Model_note_6 : decode b_Model_note 6 = .ok (.iload_n 1, 1) := by decide +kernel
theorem d_Model_note_7 : decode b_Model_note 7 = .ok (.iconst 0, 1) := by decide +kernel
theorem d_Model_note_8 : decode b_Model_note 8 = .ok (.aload_n 0, 1) := by decide +kernel
theorem d_Model_note_9 : decode b_Model_note 9 = .ok (.getfield 150, 3) := by decide +kernel
theorem d_Model_note_12 : decode b_Model_note 12 = .ok (.bipush 12, 2) := by decide +kernel
theorem d_Model_note_14 : decode b_Model_note 14 = .ok (.invokestatic 134, 3) := by decide +kernel
theorem d_Model_note_17 : decode b_Model_note 17 = .ok (.iconst 1, 1) := by decide +kernel
theorem d_Model_note_18 : decode b_Model_note 18 = .ok (.isub, 1) := by decide +kernel
theorem d_Model_note_19 : decode b_Model_note 19 = .ok (.invokestatic 102, 3) := by decide +kernel
theorem d_Model_note_22 : decode b_Model_note 22 = .ok (.ifCond .ne 7, 3) := by decide +kernel
theorem d_Model_note_25 : decode b_Model_note 25 = .ok (.iconst 1, 1) := by decide +kernel
theorem d_Model_note_26 : decode b_Model_note 26 = .ok (.goto 4, 3) := by decide +kernel
theorem d_Model_note_29 : decode b_Model_note 29 = .ok (.iconst 0, 1) := by decide +kernel
theorem d_Model_note_30 : decode b_Model_note 30 = .ok (.iconst 1, 1) := by decide +kernel
theorem d_Model_note_31 : decode b_Model_note 31 = .ok (.invokevirtual 110, 3) := by decide +kernel
theorem d_Model_note_34 : decode b_Model_note 34 = .ok (.ifCond .eq 7, 3) := by decide +kernel
theorem d_Model_note_37 : decode b_Model_note 37 = .ok (.iconst 0, 1) := by decide +kernel
theorem d_Model_note_38 : decode b_Model_note 38 = .ok (.goto 9, 3) := by decide +kernel
theorem d_Model_note_41 : decode b_Model_note 41 = .ok (.aload_n 0, 1) := by decide +kernel
theorem d_Model_note_42 : decode b_Model_note 42 = .ok (.getfield 93, 3) := by decide +kernel
theorem d_Model_note_45 : decode b_Model_note 45 = .ok (.iload_n 1, 1) := by decide +kernel
theorem d_Model_note_46 : decode b_Model_note 46 = .ok (.iaload, 1) := by decide +kernel
theorem d_Model_note_47 : decode b_Model_note 47 = .ok (.ireturn, 1) := by decide +kernel
theorem d_Model_warning_0 : decode b_Model_warning 0 = .ok (.aload_n 0, 1) := by decide +kernel
theorem d_Model_warning_1 : decode b_Model_warning 1 = .ok (.iconst 0, 1) := by decide +kernel
theorem d_Model_warning_2 : decode b_Model_warning 2 = .ok (.putfield 99, 3) := by decide +kernel
theorem d_Model_warning_5 : decode b_Model_warning 5 = .ok (.aload_n 0, 1) := by decide +kernel
theorem d_Model_warning_6 : decode b_Model_warning 6 = .ok (.iload_n 1, 1) := by decide +kernel
theorem d_Model_warning_7 : decode b_Model_warning 7 = .ok (.iconst 0, 1) := by decide +kernel
theorem d_Model_warning_8 : decode b_Model_warning 8 = .ok (.aload_n 0, 1) := by decide +kernel
theorem d_Model_warning_9 : decode b_Model_warning 9 = .ok (.getfield 120, 3) := by decide +kernel
theorem d_Model_warning_12 : decode b_Model_warning 12 = .ok (.bipush 8, 2) := by decide +kernel
theorem d_Model_warning_14 : decode b_Model_warning 14 = .ok (.invokestatic 134, 3) := by decide +kernel
theorem d_Model_warning_17 : decode b_Model_warning 17 = .ok (.iconst 1, 1) := by decide +kernel
theorem d_Model_warning_18 : decode b_Model_warning 18 = .ok (.isub, 1) := by decide +kernel
theorem d_Model_warning_19 : decode b_Model_warning 19 = .ok (.invokestatic 102, 3) := by decide +kernel
theorem d_Model_warning_22 : decode b_Model_warning 22 = .ok (.ifCond .ne 7, 3) := by decide +kernel
theorem d_Model_warning_25 : decode b_Model_warning 25 = .ok (.iconst 1, 1) := by decide +kernel
theorem d_Model_warning_26 : decode b_Model_warning 26 = .ok (.goto 4, 3) := by decide +kernel
theorem d_Model_warning_29 : decode b_Model_warning 29 = .ok (.iconst 0, 1) := by decide +kernel
theorem d_Model_warning_30 : decode b_Model_warning 30 = .ok (.iconst 1, 1) := by decide +kernel
theorem d_Model_warning_31 : decode b_Model_warning 31 = .ok (.invokevirtual 110, 3) := by decide +kernel
theorem d_Model_warning_34 : decode b_Model_warning 34 = .ok (.ifCond .eq 7, 3) := by decide +kernel
theorem d_Model_warning_37 : decode b_Model_warning 37 = .ok (.iconst 0, 1) := by decide +kernel
theorem d_Model_warning_38 : decode b_Model_warning 38 = .ok (.goto 9, 3) := by decide +kernel
theorem d_Model_warning_41 : decode b_Model_warning 41 = .ok (.aload_n 0, 1) := by decide +kernel
theorem d_Model_warning_42 : decode b_Model_warning 42 = .ok (.getfield 96, 3) := by decide +kernel
theorem d_Model_warning_45 : decode b_Model_warning 45 = .ok (.iload_n 1, 1) := by decide +kernel
theorem d_Model_warning_46 : decode b_Model_warning 46 = .ok (.iaload, 1) := by decide +kernel
theorem d_Model_warning_47 : decode b_Model_warning 47 = .ok (.ireturn, 1) := by decide +kernel
theorem d_Model_count_0 : decode b_Model_count 0 = .ok (.aload_n 0, 1) := by decide +kernel
theorem d_Model_count_1 : decode b_Model_count 1 = .ok (.iconst 0, 1) := by decide +kernel
theorem d_Model_count_2 : decode b_Model_count 2 = .ok (.putfield 99, 3) := by decide +kernel
theorem d_Model_count_5 : decode b_Model_count 5 = .ok (.aload_n 0, 1) := by decide +kernel
theorem d_Model_count_6 : decode b_Model_count 6 = .ok (.iload_n 1, 1) := by decide +kernel
theorem d_Model_count_7 : decode b_Model_count 7 = .ok (.iconst 0, 1) := by decide +kernel
theorem d_Model_count_8 : decode b_Model_count 8 = .ok (.bipush 6, 2) := by decide +kernel
theorem d_Model_count_10 : decode b_Model_count 10 = .ok (.invokestatic 102, 3) := by decide +kernel
theorem d_Model_count_13 : decode b_Model_count 13 = .ok (.ifCond .ne 7, 3) := by decide +kernel
theorem d_Model_count_16 : decode b_Model_count 16 = .ok (.iconst 1, 1) := by decide +kernel
theorem d_Model_count_17 : decode b_Model_count 17 = .ok (.goto 4, 3) := by decide +kernel
theorem d_Model_count_20 : decode b_Model_count 20 = .ok (.iconst 0, 1) := by decide +kernel
theorem d_Model_count_21 : decode b_Model_count 21 = .ok (.iconst 1, 1) := by decide +kernel
theorem d_Model_count_22 : decode b_Model_count 22 = .ok (.invokevirtual 110, 3) := by decide +kernel
theorem d_Model_count_25 : decode b_Model_count 25 = .ok (.ifCond .eq 5, 3) := by decide +kernel
theorem d_Model_count_28 : decode b_Model_count 28 = .ok (.iconst 0, 1) := by decide +kernel
theorem d_Model_count_29 : decode b_Model_count 29 = .ok (.ireturn, 1) := by decide +kernel
theorem d_Model_count_30 : decode b_Model_count 30 = .ok (.iload_n 1, 1) := by decide +kernel
theorem d_Model_count_31 : decode b_Model_count 31 = .ok (.tableswitch 67 0 5 #[37, 42, 47, 52, 57, 62], 37) := by decide +kernel
theorem d_Model_count_68 : decode b_Model_count 68 = .ok (.aload_n 0, 1) := by decide +kernel
theorem d_Model_count_69 : decode b_Model_count 69 = .ok (.getfield 114, 3) := by decide +kernel
theorem d_Model_count_72 : decode b_Model_count 72 = .ok (.ireturn, 1) := by decide +kernel
theorem d_Model_count_73 : decode b_Model_count 73 = .ok (.aload_n 0, 1) := by decide +kernel
theorem d_Model_count_74 : decode b_Model_count 74 = .ok (.getfield 150, 3) := by decide +kernel
theorem d_Model_count_77 : decode b_Model_count 77 = .ok (.ireturn, 1) := by decide +kernel
theorem d_Model_count_78 : decode b_Model_count 78 = .ok (.aload_n 0, 1) := by decide +kernel
theorem d_Model_count_79 : decode b_Model_count 79 = .ok (.getfield 120, 3) := by decide +kernel
theorem d_Model_count_82 : decode b_Model_count 82 = .ok (.ireturn, 1) := by decide +kernel
theorem d_Model_count_83 : decode b_Model_count 83 = .ok (.aload_n 0, 1) := by decide +kernel
theorem d_Model_count_84 : decode b_Model_count 84 = .ok (.getfield 176, 3) := by decide +kernel
theorem d_Model_count_87 : decode b_Model_count 87 = .ok (.ireturn, 1) := by decide +kernel
theorem d_Model_count_88 : decode b_Model_count 88 = .ok (.aload_n 0, 1) := by decide +kernel
theorem d_Model_count_89 : decode b_Model_count 89 = .ok (.getfield 131, 3) := by decide +kernel
theorem d_Model_count_92 : decode b_Model_count 92 = .ok (.ireturn, 1) := by decide +kernel
theorem d_Model_count_93 : decode b_Model_count 93 = .ok (.aload_n 0, 1) := by decide +kernel
theorem d_Model_count_94 : decode b_Model_count 94 = .ok (.getfield 173, 3) := by decide +kernel
theorem d_Model_count_97 : decode b_Model_count 97 = .ok (.ireturn, 1) := by decide +kernel
theorem d_Model_count_98 : decode b_Model_count 98 = .ok (.aload_n 0, 1) := by decide +kernel
theorem d_Model_count_99 : decode b_Model_count 99 = .ok (.getfield 196, 3) := by decide +kernel
theorem d_Model_count_102 : decode b_Model_count 102 = .ok (.ireturn, 1) := by decide +kernel
end
section
/-! WHAT THE REFERENCE'S METHODS DO. Kind 20: err 0, tests 1, workers 2, time 3, noted 4, warned 5, left 6, most 7, threads 8, passed 9. Arrays: ops 21, as 22, sizes 23, ends 24, program 25, timeout 26, reading 27, writing 28, verdict 29, with 30, began 31, told 32, worker 33, leader 34, died 35, many 36, abandoned 37, takes 38, test 39, starter 40, code 41, at 42, state 43, until 44, marked 45, keeps 46, notes 47, warnings 48 -/
theorem layM : ∀ a i ci fl, ty_ki a i = .inl (ci, fl) → ∀ b z, some (b, z) ∈ fl → i < cnM a → z.getD i < cnM b := by
  intro a i ci fl h b z hm hi
  unfold ty_ki at h
  split at h <;> cases h
  · simp [cnM] at hi
  · simp [cnM] at hi
  · simp [cnM] at hi
  · simp [cnM] at hi
  · simp [cnM] at hi
  · simp [cnM] at hi
  · simp only [List.mem_cons, List.not_mem_nil, or_false, reduceCtorEq, Option.some.injEq, Prod.mk.injEq, false_or] at hm
    have hz : z = some 0 := by
      rcases hm with ⟨_, h⟩ | ⟨_, h⟩ | ⟨_, h⟩ | ⟨_, h⟩ | ⟨_, h⟩ | ⟨_, h⟩ | ⟨_, h⟩ | ⟨_, h⟩ | ⟨_, h⟩ | ⟨_, h⟩ | ⟨_, h⟩ | ⟨_, h⟩ | ⟨_, h⟩ | ⟨_, h⟩ | ⟨_, h⟩ | ⟨_, h⟩ | ⟨_, h⟩ | ⟨_, h⟩ | ⟨_, h⟩ | ⟨_, h⟩ | ⟨_, h⟩ | ⟨_, h⟩ | ⟨_, h⟩ | ⟨_, h⟩ | ⟨_, h⟩ | ⟨_, h⟩ | ⟨_, h⟩ | ⟨_, h⟩ <;> exact h
    have hb : 21 ≤ b ∧ b < 49 := by omega
    rw [hz]
    show 0 < cnM b
    unfold cnM
    rw [if_pos (by omega)]
    omega
def gLeast (a b : Int32) : Int32 := if a < b then a else b
def gJudged (τ : ty_St) (t : Nat) (v why : Int32) : ty_St := ty_up (ty_up (ty_up τ 29 0 t v) 30 0 t why) 32 0 t (τ 20 0 3)
def gWarns (τ : ty_St) (t why : Int32) : ty_St :=
  let τ1 := if τ 20 0 5 < 8 then ty_up τ 48 0 (nn (τ 20 0 5)) (1000 * t + why) else τ
  ty_up τ1 20 0 5 (τ1 20 0 5 + 1)
def gEnds (τ : ty_St) (h : Nat) (why : Int32) : ty_St :=
  if ¬ τ 29 0 (nn (τ 39 0 h)) = 0 then (if 0 ≤ why ∧ τ 46 0 h = 0 then gWarns (ty_up τ 43 0 h 5) (τ 39 0 h) why else ty_up τ 43 0 h 5)
  else if τ 34 0 (nn (τ 39 0 h)) = nI h then
    gJudged (ty_up τ 43 0 h 5) (nn (τ 39 0 h)) (if 0 ≤ (if 0 ≤ why then why else τ 35 0 (nn (τ 39 0 h))) then 2 else 1) (if 0 ≤ why then why else τ 35 0 (nn (τ 39 0 h)))
  else if 0 ≤ why ∧ τ 46 0 h = 0 ∧ τ 35 0 (nn (τ 39 0 h)) < 0 then ty_up (ty_up τ 43 0 h 5) 35 0 (nn (τ 39 0 h)) why else ty_up τ 43 0 h 5
def gStarts (τ : ty_St) (t : Nat) (q b : Int32) : ty_St :=
  let h := nn (τ 20 0 8)
  ty_up (ty_up (ty_up (ty_up (ty_up (ty_up (ty_up (ty_up (ty_up τ 20 0 8 (τ 20 0 8 + 1)) 39 0 h (nI t)) 40 0 h b) 41 0 h q) 42 0 h 0) 43 0 h 0) 45 0 h 0) 46 0 h 0) 36 0 t (τ 36 0 t + 1)
def gGin (τ : ty_St) (p k : Nat) (e : Int32) : Nat → Int32
  | 0 => e
  | o + 1 => if τ 21 0 (10 * p + o) = 4 ∧ nI k ≤ τ 24 0 (10 * p + o) then gLeast (gGin τ p k e o) (τ 24 0 (10 * p + o)) else gGin τ p k e o
def gG1 (τ : ty_St) (p k : Nat) : ty_St := if τ 21 0 (10 * p + k) = 4 then ty_up τ 24 0 (10 * p + k) (gGin τ p k (gLeast (nI k + τ 22 0 (10 * p + k)) (τ 23 0 p - 1)) k) else τ
def gGp (τ : ty_St) (p : Nat) : Nat → ty_St
  | 0 => τ
  | k + 1 => gG1 (gGp τ p k) p k
def gGs (τ : ty_St) : Nat → ty_St
  | 0 => τ
  | p + 1 => gGp (gGs τ p) p (nn (τ 23 0 p))
def gInner (τ : ty_St) (b : Nat) (pl : Int32) : Nat → Int32
  | 0 => -1
  | g + 1 => if τ 21 0 (b + g) = 4 ∧ pl ≤ τ 24 0 (b + g) then nI g else gInner τ b pl g
def gInterrupts (τ : ty_St) (h pl : Nat) : ty_St :=
  if gInner τ (10 * nn (τ 41 0 h)) (nI pl) pl < 0 then gEnds (ty_up τ 45 0 h 0) h 100
  else ty_up (ty_up (ty_up τ 45 0 h 0) 43 0 h 0) 42 0 h (τ 24 0 (10 * nn (τ 41 0 h) + nn (gInner τ (10 * nn (τ 41 0 h)) (nI pl) pl)) + 1)
def gJoined (τ : ty_St) (h : Nat) : Nat → Bool
  | 0 => true
  | o + 1 => gJoined τ h o && !decide (τ 40 0 o = nI h ∧ ¬ τ 43 0 o = 5)
def gSays (τ : ty_St) (h : Nat) (n : Int32) : ty_St :=
  let τ1 := if τ 20 0 4 < 12 then ty_up τ 47 0 (nn (τ 20 0 4)) (100 * τ 39 0 h + n) else τ
  ty_up τ1 20 0 4 (τ1 20 0 4 + 1)
def gWaits (τ : ty_St) (h : Nat) (how ticks : Int32) : ty_St :=
  if ¬ how = 1 ∧ ¬ τ 45 0 h = 0 then gInterrupts τ h (nn (τ 42 0 h - 1)) else ty_up (ty_up τ 43 0 h how) 44 0 h (τ 20 0 3 + ticks)
def gMarks (τ : ty_St) (h : Nat) : Nat → ty_St
  | 0 => τ
  | o + 1 => if (gMarks τ h o) 40 0 o = nI h ∧ ¬ (gMarks τ h o) 43 0 o = 5 then ty_up (gMarks τ h o) 45 0 o 1 else gMarks τ h o
def gAct (τ : ty_St) (h : Nat) (op a : Int32) : ty_St :=
  if op = 0 then gWaits τ h 1 a else if op = 1 then gWaits τ h 2 a else if op = 2 then gWaits τ h 3 0 else if op = 3 then gEnds τ h a
  else if op = 5 then (if τ 20 0 8 < 40 then gStarts τ (nn (τ 39 0 h)) a (nI h) else τ)
  else if op = 6 then gSays τ h a
  else if op = 7 then (if τ 45 0 h = 0 ∧ gJoined τ h (nn (τ 20 0 8)) = true then τ else gWaits τ h 4 0)
  else if op = 8 then ty_up (gSays τ h (if ¬ τ 45 0 h = 0 then 1 else 0)) 45 0 h 0
  else if op = 9 then ty_up τ 46 0 h 1
  else if op = 10 then gEnds τ h (-1)
  else if op = 11 then gMarks τ h (nn (τ 20 0 8))
  else τ
def gActs (τ : ty_St) (h k : Nat) : ty_St := gAct (ty_up τ 42 0 h (τ 42 0 h + 1)) h (τ 21 0 k) (τ 22 0 k)
def gTurn0 (τ : ty_St) (h : Nat) : ty_St :=
  if ¬ τ 43 0 h = 0 ∧ ¬ τ 43 0 h = 1 ∧ ¬ τ 45 0 h = 0 then gInterrupts τ h (nn (τ 42 0 h - 1))
  else if ((τ 43 0 h = 1 ∨ τ 43 0 h = 2) ∧ τ 44 0 h ≤ τ 20 0 3) ∨ (τ 43 0 h = 4 ∧ gJoined τ h (nn (τ 20 0 8)) = true) then ty_up τ 43 0 h 0 else τ
def gStep (τ : ty_St) (h : Nat) : ty_St :=
  if τ 23 0 (nn (τ 41 0 h)) ≤ τ 42 0 h then gEnds τ h (-1) else gActs τ h (10 * nn (τ 41 0 h) + nn (τ 42 0 h))
def gLoop (h : Nat) : Nat → ty_St → ty_St
  | 0, τ => τ
  | k + 1, τ => if τ 43 0 h = 0 then gLoop h k (gStep τ h) else τ
def gTurn (τ : ty_St) (h : Nat) : ty_St := gLoop h 12 (gTurn0 τ h)
def gFree (τ : ty_St) (w : Nat) : Bool :=
  decide (τ 38 0 w < 0 ∨ τ 43 0 (nn (τ 34 0 (nn (τ 38 0 w)))) = 5 ∨ (τ 29 0 (nn (τ 38 0 w)) = 3 ∧ τ 32 0 (nn (τ 38 0 w)) + 3 ≤ τ 20 0 3))
def gCan (τ : ty_St) (t : Nat) : Nat → Bool
  | 0 => true
  | o + 1 => gCan τ t o && !decide ((0 ≤ τ 31 0 o ∧ τ 29 0 o = 0) ∧ (¬ τ 28 0 t &&& (τ 27 0 o ||| τ 28 0 o) = 0 ∨ ¬ τ 27 0 t &&& τ 28 0 o = 0))
/-- the first of the tests from i on, k of them -/
def gNext (τ : ty_St) (n : Nat) : Nat → Nat → Int32
  | 0, _ => -1
  | k + 1, i => if τ 31 0 i < 0 ∧ gCan τ i n = true then nI i else gNext τ n k (i + 1)
def gLook1 (τ : ty_St) (t : Nat) : ty_St :=
  if 0 ≤ τ 31 0 t ∧ τ 29 0 t = 0 ∧ 0 < τ 26 0 t ∧ τ 31 0 t + τ 26 0 t ≤ τ 20 0 3 then ty_up (gJudged τ t 3 (-1)) 45 0 (nn (τ 34 0 t)) 1 else τ
def gLooks (τ : ty_St) : Nat → ty_St
  | 0 => τ
  | n + 1 => gLook1 (gLooks τ n) n
def gAband1 (τ : ty_St) (w : Nat) : ty_St :=
  if 0 ≤ τ 38 0 w ∧ gFree τ w = true ∧ ¬ τ 43 0 (nn (τ 34 0 (nn (τ 38 0 w)))) = 5 then ty_up τ 37 0 (nn (τ 38 0 w)) 1 else τ
def gAband (τ : ty_St) : Nat → ty_St
  | 0 => τ
  | n + 1 => gAband1 (gAband τ n) n
/-- the first free worker from i on, k of them; i + k if none -/
def gWorker (τ : ty_St) : Nat → Nat → Nat
  | 0, i => i
  | k + 1, i => if gFree τ i = true then i else gWorker τ k (i + 1)
def gBegin (τ : ty_St) (w t : Nat) : ty_St :=
  let τ1 := ty_up (ty_up (ty_up (ty_up τ 38 0 w (nI t)) 33 0 t (nI w)) 31 0 t (τ 20 0 3)) 35 0 t (-1)
  ty_up (gStarts τ1 t (τ 25 0 t) (-1)) 34 0 t (τ 20 0 8)
def gBegins : Nat → ty_St → ty_St
  | 0, τ => τ
  | k + 1, τ =>
    if gWorker τ (nn (τ 20 0 2)) 0 < nn (τ 20 0 2) ∧ 0 ≤ gNext τ (nn (τ 20 0 1)) (nn (τ 20 0 1)) 0 then
      gBegins k (gBegin τ (gWorker τ (nn (τ 20 0 2)) 0) (nn (gNext τ (nn (τ 20 0 1)) (nn (τ 20 0 1)) 0)))
    else τ
def gNow (τ : ty_St) : Nat → Int32
  | 0 => 0
  | n + 1 => if 0 ≤ τ 31 0 n ∧ τ 29 0 n = 0 then gNow τ n + 1 else gNow τ n
end
section
theorem vp_mono {x : Int32} {n m : Nat} (h : vp_in x n) (hm : n ≤ m) : vp_in x m := fun q => h (q.elim Or.inl (fun z => Or.inr (Nat.le_trans hm z)))
theorem gJoined_mono {σ : ty_St} {t : Nat} : ∀ {n k : Nat}, n ≤ k → gJoined σ t k = true → gJoined σ t n = true := by
  intro n k h
  induction k with
  | zero => intro q; rw [show n = 0 by omega]; exact q
  | succ k ih =>
    intro q
    by_cases e : n = k + 1
    · rw [e]; exact q
    · simp only [gJoined, Bool.and_eq_true] at q
      exact ih (by omega) q.1
set_option maxRecDepth 100000 in
set_option maxHeartbeats 4000000 in
theorem m_thrown (l : Launch) {D : va_G} {ad : Nat → Nat → Nat} {cA : Nat → ClassId} (hJ : ty_J cnM ad) (σ : ty_St) : ty_M l y_Model_thrown (Cond.code y_Model_thrown b_Model_thrown 1 (some .int) :: ty_w) (rmL 0) cnM D ad cA [.inr (20, 0)] σ (fun r σ' => r = some (.inl (σ 20 0 0)) ∧ σ' = σ) := by
  refine ty_M.of rfl hJ layM (ty_oks.cons (show (0 : Nat) < cnM 20 by decide) ty_oks.nil) (Nat.le_of_ble_eq_true rfl) ?_
  intro p e s m args below meth c C hr hnm
  refine v_aload_n (pc := 0) C d_Model_thrown_0 rfl rfl ?_
  refine gf_Model_99 (pc := 1) C d_Model_thrown_1 ?_
  exact v_ireturn (pc := 4) C hr ⟨rfl, rfl⟩ d_Model_thrown_4
set_option maxRecDepth 100000 in
set_option maxHeartbeats 4000000 in
theorem m_in (l : Launch) {D : va_G} {ad : Nat → Nat → Nat} {cA : Nat → ClassId} (hJ : ty_J cnM ad) (σ : ty_St) (x lo hi : Int32) : ty_M l y_Model_in (Cond.code y_Model_in b_Model_in 3 (some .boolean) :: ty_w) (rmL 0) cnM D ad cA [.inl x, .inl lo, .inl hi] σ (fun r σ' => r = some (.inl (kIn x lo hi)) ∧ σ' = σ) := by
  refine ty_M.of rfl hJ layM (ty_oks.cons trivial (ty_oks.cons trivial (ty_oks.cons trivial ty_oks.nil))) (Nat.le_of_ble_eq_true rfl) ?_
  intro p e s m args below meth c C hr hnm
  refine v_iload_n (pc := 0) C d_Model_in_0 rfl rfl ?_
  refine v_iload_n (pc := 1) C d_Model_in_1 rfl rfl ?_
  refine v_icmp_lt (pc := 2) (tgt := 14) C d_Model_in_2 (by decide) (fun h2 => ?_) (fun h2 => ?_)
  · refine v_iconst (pc := 14) (v := 0) C d_Model_in_14 (by decide) ?_
    exact v_zreturn (pc := 15) C hr rfl ⟨by rw [kIn_1 h2], rfl⟩ d_Model_in_15
  · refine v_iload_n (pc := 5) C d_Model_in_5 rfl rfl ?_
    refine v_iload_n (pc := 6) C d_Model_in_6 rfl rfl ?_
    refine v_icmp_gt (pc := 7) (tgt := 14) C d_Model_in_7 (by decide) (fun h7 => ?_) (fun h7 => ?_)
    · refine v_iconst (pc := 14) (v := 0) C d_Model_in_14 (by decide) ?_
      exact v_zreturn (pc := 15) C hr rfl ⟨by rw [kIn_2 h7], rfl⟩ d_Model_in_15
    · refine v_iconst (pc := 10) (v := 1) C d_Model_in_10 (by decide) ?_
      refine v_goto (pc := 11) (tgt := 15) C d_Model_in_11 (by decide) ?_
      exact v_zreturn (pc := 15) C hr rfl ⟨by rw [kIn_3 h2 h7], rfl⟩ d_Model_in_15
set_option maxRecDepth 100000 in
set_option maxHeartbeats 4000000 in
theorem m_least (l : Launch) {D : va_G} {ad : Nat → Nat → Nat} {cA : Nat → ClassId} (hJ : ty_J cnM ad) (σ : ty_St) (a b : Int32) : ty_M l y_Model_least (Cond.code y_Model_least b_Model_least 2 (some .int) :: ty_w) (rmL 0) cnM D ad cA [.inl a, .inl b] σ (fun r σ' => r = some (.inl (gLeast a b)) ∧ σ' = σ) := by
  refine ty_M.of rfl hJ layM (ty_oks.cons trivial (ty_oks.cons trivial ty_oks.nil)) (Nat.le_of_ble_eq_true rfl) ?_
  intro p e s m args below meth c C hr hnm
  refine v_iload_n (pc := 0) C d_Model_least_0 rfl rfl ?_
  refine v_iload_n (pc := 1) C d_Model_least_1 rfl rfl ?_
  refine v_icmp_ge (pc := 2) (tgt := 9) C d_Model_least_2 (by decide) (fun h2 => ?_) (fun h2 => ?_)
  · refine v_iload_n (pc := 9) C d_Model_least_9 rfl rfl ?_
    exact v_ireturn (pc := 10) C hr ⟨by unfold gLeast; rw [if_neg (Int32.not_lt.mpr h2)], rfl⟩ d_Model_least_10
  · refine v_iload_n (pc := 5) C d_Model_least_5 rfl rfl ?_
    refine v_goto (pc := 6) (tgt := 10) C d_Model_least_6 (by decide) ?_
    exact v_ireturn (pc := 10) C hr ⟨by unfold gLeast; rw [if_pos (Int32.not_le.mp h2)], rfl⟩ d_Model_least_10
set_option maxRecDepth 100000 in
set_option maxHeartbeats 4000000 in
theorem m_judged (l : Launch) {D : va_G} {ad : Nat → Nat → Nat} {cA : Nat → ClassId} (hJ : ty_J cnM ad) (σ : ty_St) (x : Int32) (t : Nat) (ht : t < 12) (hx : x = nI t) (v why : Int32) : ty_M l y_Model_judged (Cond.code y_Model_judged b_Model_judged 4 none :: ty_w) (rmL 0) cnM D ad cA [.inr (20, 0), .inl x, .inl v, .inl why] σ (fun r σ' => r = none ∧ σ' = gJudged σ t v why) := by
  refine ty_M.of rfl hJ layM (ty_oks.cons (show (0 : Nat) < cnM 20 by decide) (ty_oks.cons trivial (ty_oks.cons trivial (ty_oks.cons trivial ty_oks.nil)))) (Nat.le_of_ble_eq_true rfl) ?_
  intro p e s m args below meth c C hr hnm
  refine v_aload_n (pc := 0) C d_Model_judged_0 rfl rfl ?_
  refine gf_Model_38 (pc := 1) C d_Model_judged_1 ?_
  refine v_iload_n (pc := 4) C d_Model_judged_4 rfl rfl ?_
  refine v_iload_n (pc := 5) C d_Model_judged_5 rfl rfl ?_
  refine v_iastoreK (pc := 6) C rfl rfl (hx) (ht) (by decide) d_Model_judged_6 ?_
  refine v_aload_n (pc := 7) C d_Model_judged_7 rfl rfl ?_
  refine gf_Model_41 (pc := 8) C d_Model_judged_8 ?_
  refine v_iload_n (pc := 11) C d_Model_judged_11 rfl rfl ?_
  refine v_iload_n (pc := 12) C d_Model_judged_12 rfl rfl ?_
  refine v_iastoreK (pc := 13) C rfl rfl (hx) (ht) (by decide) d_Model_judged_13 ?_
  refine v_aload_n (pc := 14) C d_Model_judged_14 rfl rfl ?_
  refine gf_Model_47 (pc := 15) C d_Model_judged_15 ?_
  refine v_iload_n (pc := 18) C d_Model_judged_18 rfl rfl ?_
  refine v_aload_n (pc := 19) C d_Model_judged_19 rfl rfl ?_
  refine gf_Model_117 (pc := 20) C d_Model_judged_20 ?_
  refine v_iastoreK (pc := 23) C rfl rfl (hx) (ht) (by decide) d_Model_judged_23 ?_
  exact v_return (pc := 24) C hr ⟨rfl, rfl⟩ d_Model_judged_24
set_option maxRecDepth 100000 in
set_option maxHeartbeats 4000000 in
theorem m_warns (l : Launch) {D : va_G} {ad : Nat → Nat → Nat} {cA : Nat → ClassId} (hJ : ty_J cnM ad) (σ : ty_St) (hs : ¬ σ 20 0 5 < 0) (t why : Int32) : ty_M l y_Model_warns (Cond.code y_Model_warns b_Model_warns 3 none :: ty_w) (rmL 0) cnM D ad cA [.inr (20, 0), .inl t, .inl why] σ (fun r σ' => r = none ∧ σ' = gWarns σ t why) := by
  refine ty_M.of rfl hJ layM (ty_oks.cons (show (0 : Nat) < cnM 20 by decide) (ty_oks.cons trivial (ty_oks.cons trivial ty_oks.nil))) (Nat.le_of_ble_eq_true rfl) ?_
  intro p e s m args below meth c C hr hnm
  refine v_aload_n (pc := 0) C d_Model_warns_0 rfl rfl ?_
  refine gf_Model_120 (pc := 1) C d_Model_warns_1 ?_
  refine v_bipush (pc := 4) (v := 8) C d_Model_warns_4 (by decide) ?_
  refine v_icmp_ge (pc := 6) (tgt := 25) C d_Model_warns_6 (by decide) (fun h6 => ?_) (fun h6 => ?_)
  · refine v_aload_n (pc := 25) C d_Model_warns_25 rfl rfl ?_
    refine v_dup (pc := 26) C d_Model_warns_26 ?_
    refine gf_Model_120 (pc := 27) C d_Model_warns_27 ?_
    refine v_iconst (pc := 30) (v := 1) C d_Model_warns_30 (by decide) ?_
    refine v_iadd (pc := 31) C d_Model_warns_31 ?_
    refine pf_Model_120 (pc := 32) C d_Model_warns_32 ?_
    exact v_return (pc := 35) C hr ⟨rfl, by unfold gWarns; simp only [if_neg (Int32.not_lt.mpr h6)]⟩ d_Model_warns_35
  · refine v_aload_n (pc := 9) C d_Model_warns_9 rfl rfl ?_
    refine gf_Model_96 (pc := 10) C d_Model_warns_10 ?_
    refine v_aload_n (pc := 13) C d_Model_warns_13 rfl rfl ?_
    refine gf_Model_120 (pc := 14) C d_Model_warns_14 ?_
    refine v_sipush (pc := 17) (v := 1000) C d_Model_warns_17 (by decide) ?_
    refine v_iload_n (pc := 20) C d_Model_warns_20 rfl rfl ?_
    refine v_imul (pc := 21) C d_Model_warns_21 ?_
    refine v_iload_n (pc := 22) C d_Model_warns_22 rfl rfl ?_
    refine v_iadd (pc := 23) C d_Model_warns_23 ?_
    refine v_iastore (pc := 24) C rfl rfl (vp_mono (i32_ge0 hs (N := 8) (Int32.not_le.mp h6) (by decide)) (by decide)) d_Model_warns_24 ?_
    refine v_aload_n (pc := 25) C d_Model_warns_25 rfl rfl ?_
    refine v_dup (pc := 26) C d_Model_warns_26 ?_
    refine gf_Model_120 (pc := 27) C d_Model_warns_27 ?_
    refine v_iconst (pc := 30) (v := 1) C d_Model_warns_30 (by decide) ?_
    refine v_iadd (pc := 31) C d_Model_warns_31 ?_
    refine pf_Model_120 (pc := 32) C d_Model_warns_32 ?_
    exact v_return (pc := 35) C hr ⟨rfl, by unfold gWarns; simp only [if_pos (Int32.not_le.mp h6)]⟩ d_Model_warns_35
set_option maxRecDepth 100000 in
set_option maxHeartbeats 4000000 in
theorem m_says (l : Launch) {D : va_G} {ad : Nat → Nat → Nat} {cA : Nat → ClassId} (hJ : ty_J cnM ad) (σ : ty_St) (hs : ¬ σ 20 0 4 < 0) (h : Nat) (hh : h < 64) (n : Int32) : ty_M l y_Model_says (Cond.code y_Model_says b_Model_says 3 none :: ty_w) (rmL 0) cnM D ad cA [.inr (20, 0), .inl (nI h), .inl n] σ (fun r σ' => r = none ∧ σ' = gSays σ h n) := by
  refine ty_M.of rfl hJ layM (ty_oks.cons (show (0 : Nat) < cnM 20 by decide) (ty_oks.cons trivial (ty_oks.cons trivial ty_oks.nil))) (Nat.le_of_ble_eq_true rfl) ?_
  intro p e s m args below meth c C hr hnm
  refine v_aload_n (pc := 0) C d_Model_says_0 rfl rfl ?_
  refine gf_Model_150 (pc := 1) C d_Model_says_1 ?_
  refine v_bipush (pc := 4) (v := 12) C d_Model_says_4 (by decide) ?_
  refine v_icmp_ge (pc := 6) (tgt := 29) C d_Model_says_6 (by decide) (fun h6 => ?_) (fun h6 => ?_)
  · refine v_aload_n (pc := 29) C d_Model_says_29 rfl rfl ?_
    refine v_dup (pc := 30) C d_Model_says_30 ?_
    refine gf_Model_150 (pc := 31) C d_Model_says_31 ?_
    refine v_iconst (pc := 34) (v := 1) C d_Model_says_34 (by decide) ?_
    refine v_iadd (pc := 35) C d_Model_says_35 ?_
    refine pf_Model_150 (pc := 36) C d_Model_says_36 ?_
    exact v_return (pc := 39) C hr ⟨rfl, by unfold gSays; simp only [if_neg (Int32.not_lt.mpr h6)]⟩ d_Model_says_39
  · refine v_aload_n (pc := 9) C d_Model_says_9 rfl rfl ?_
    refine gf_Model_93 (pc := 10) C d_Model_says_10 ?_
    refine v_aload_n (pc := 13) C d_Model_says_13 rfl rfl ?_
    refine gf_Model_150 (pc := 14) C d_Model_says_14 ?_
    refine v_bipush (pc := 17) (v := 100) C d_Model_says_17 (by decide) ?_
    refine v_aload_n (pc := 19) C d_Model_says_19 rfl rfl ?_
    refine gf_Model_69 (pc := 20) C d_Model_says_20 ?_
    refine v_iload_n (pc := 23) C d_Model_says_23 rfl rfl ?_
    refine v_ialoadK (pc := 24) C rfl rfl (rfl) (hh) (by decide) d_Model_says_24 ?_
    refine v_imul (pc := 25) C d_Model_says_25 ?_
    refine v_iload_n (pc := 26) C d_Model_says_26 rfl rfl ?_
    refine v_iadd (pc := 27) C d_Model_says_27 ?_
    refine v_iastore (pc := 28) C rfl rfl (vp_mono (i32_ge0 hs (N := 12) (Int32.not_le.mp h6) (by decide)) (by decide)) d_Model_says_28 ?_
    refine v_aload_n (pc := 29) C d_Model_says_29 rfl rfl ?_
    refine v_dup (pc := 30) C d_Model_says_30 ?_
    refine gf_Model_150 (pc := 31) C d_Model_says_31 ?_
    refine v_iconst (pc := 34) (v := 1) C d_Model_says_34 (by decide) ?_
    refine v_iadd (pc := 35) C d_Model_says_35 ?_
    refine pf_Model_150 (pc := 36) C d_Model_says_36 ?_
    exact v_return (pc := 39) C hr ⟨rfl, by unfold gSays; simp only [if_pos (Int32.not_le.mp h6)]⟩ d_Model_says_39
set_option maxRecDepth 100000 in
set_option maxHeartbeats 4000000 in
theorem m_starts (l : Launch) {D : va_G} {ad : Nat → Nat → Nat} {cA : Nat → ClassId} (hJ : ty_J cnM ad) (σ : ty_St) (hv : vp_in (σ 20 0 8) 64) (x : Int32) (t : Nat) (ht : t < 12) (hx : x = nI t) (q b : Int32) : ty_M l y_Model_starts (Cond.code y_Model_starts b_Model_starts 5 (some .int) :: ty_w) (rmL 0) cnM D ad cA [.inr (20, 0), .inl x, .inl q, .inl b] σ (fun r σ' => r = some (.inl (σ 20 0 8)) ∧ σ' = gStarts σ t q b) := by
  refine ty_M.of rfl hJ layM (ty_oks.cons (show (0 : Nat) < cnM 20 by decide) (ty_oks.cons trivial (ty_oks.cons trivial (ty_oks.cons trivial ty_oks.nil)))) (Nat.le_of_ble_eq_true rfl) ?_
  intro p e s m args below meth c C hr hnm
  subst hx
  refine v_aload_n (pc := 0) C d_Model_starts_0 rfl rfl ?_
  refine gf_Model_131 (pc := 1) C d_Model_starts_1 ?_
  refine v_istore (pc := 4) C d_Model_starts_4 (by decide) ?_
  refine v_aload_n (pc := 6) C d_Model_starts_6 rfl rfl ?_
  refine v_dup (pc := 7) C d_Model_starts_7 ?_
  refine gf_Model_131 (pc := 8) C d_Model_starts_8 ?_
  refine v_iconst (pc := 11) (v := 1) C d_Model_starts_11 (by decide) ?_
  refine v_iadd (pc := 12) C d_Model_starts_12 ?_
  refine pf_Model_131 (pc := 13) C d_Model_starts_13 ?_
  refine v_aload_n (pc := 16) C d_Model_starts_16 rfl rfl ?_
  refine gf_Model_69 (pc := 17) C d_Model_starts_17 ?_
  refine v_iload (pc := 20) C d_Model_starts_20 rfl ?_
  refine v_iload_n (pc := 22) C d_Model_starts_22 rfl rfl ?_
  refine v_iastore (pc := 23) C rfl rfl hv d_Model_starts_23 ?_
  refine v_aload_n (pc := 24) C d_Model_starts_24 rfl rfl ?_
  refine gf_Model_72 (pc := 25) C d_Model_starts_25 ?_
  refine v_iload (pc := 28) C d_Model_starts_28 rfl ?_
  refine v_iload_n (pc := 30) C d_Model_starts_30 rfl rfl ?_
  refine v_iastore (pc := 31) C rfl rfl hv d_Model_starts_31 ?_
  refine v_aload_n (pc := 32) C d_Model_starts_32 rfl rfl ?_
  refine gf_Model_75 (pc := 33) C d_Model_starts_33 ?_
  refine v_iload (pc := 36) C d_Model_starts_36 rfl ?_
  refine v_iload_n (pc := 38) C d_Model_starts_38 rfl rfl ?_
  refine v_iastore (pc := 39) C rfl rfl hv d_Model_starts_39 ?_
  refine v_aload_n (pc := 40) C d_Model_starts_40 rfl rfl ?_
  refine gf_Model_78 (pc := 41) C d_Model_starts_41 ?_
  refine v_iload (pc := 44) C d_Model_starts_44 rfl ?_
  refine v_iconst (pc := 46) (v := 0) C d_Model_starts_46 (by decide) ?_
  refine v_iastore (pc := 47) C rfl rfl hv d_Model_starts_47 ?_
  refine v_aload_n (pc := 48) C d_Model_starts_48 rfl rfl ?_
  refine gf_Model_81 (pc := 49) C d_Model_starts_49 ?_
  refine v_iload (pc := 52) C d_Model_starts_52 rfl ?_
  refine v_iconst (pc := 54) (v := 0) C d_Model_starts_54 (by decide) ?_
  refine v_iastore (pc := 55) C rfl rfl hv d_Model_starts_55 ?_
  refine v_aload_n (pc := 56) C d_Model_starts_56 rfl rfl ?_
  refine gf_Model_87 (pc := 57) C d_Model_starts_57 ?_
  refine v_iload (pc := 60) C d_Model_starts_60 rfl ?_
  refine v_iconst (pc := 62) (v := 0) C d_Model_starts_62 (by decide) ?_
  refine v_bastore (pc := 63) C rfl rfl hv rfl d_Model_starts_63 ?_
  refine v_aload_n (pc := 64) C d_Model_starts_64 rfl rfl ?_
  refine gf_Model_90 (pc := 65) C d_Model_starts_65 ?_
  refine v_iload (pc := 68) C d_Model_starts_68 rfl ?_
  refine v_iconst (pc := 70) (v := 0) C d_Model_starts_70 (by decide) ?_
  refine v_bastore (pc := 71) C rfl rfl hv rfl d_Model_starts_71 ?_
  refine v_aload_n (pc := 72) C d_Model_starts_72 rfl rfl ?_
  refine gf_Model_59 (pc := 73) C d_Model_starts_73 ?_
  refine v_iload_n (pc := 76) C d_Model_starts_76 rfl rfl ?_
  refine v_dup2 (pc := 77) C d_Model_starts_77 ?_
  refine v_ialoadK (pc := 78) C rfl rfl (rfl) (ht) (by decide) d_Model_starts_78 ?_
  refine v_iconst (pc := 79) (v := 1) C d_Model_starts_79 (by decide) ?_
  refine v_iadd (pc := 80) C d_Model_starts_80 ?_
  refine v_iastoreK (pc := 81) C rfl rfl (rfl) (ht) (by decide) d_Model_starts_81 ?_
  refine v_iload (pc := 82) C d_Model_starts_82 rfl ?_
  exact v_ireturn (pc := 84) C hr ⟨rfl, rfl⟩ d_Model_starts_84
set_option maxRecDepth 100000 in
set_option maxHeartbeats 4000000 in
theorem m_joined (l : Launch) {D : va_G} {ad : Nat → Nat → Nat} {cA : Nat → ClassId} (hJ : ty_J cnM ad) (σ : ty_St) (sc : Nat) (hsc : sc ≤ 64) (hc : σ 20 0 8 = nI sc) (n : Nat) : ty_M l y_Model_joined (Cond.code y_Model_joined b_Model_joined 3 (some .boolean) :: ty_w) (rmL 0) cnM D ad cA [.inr (20, 0), .inl (nI n)] σ (fun r σ' => r = some (.inl (if gJoined σ n sc = true then 1 else 0)) ∧ σ' = σ) := by
  refine ty_M.of rfl hJ layM (ty_oks.cons (show (0 : Nat) < cnM 20 by decide) (ty_oks.cons trivial ty_oks.nil)) (Nat.le_of_ble_eq_true rfl) ?_
  intro p e s m args below meth c C hr hnm
  have loop : ∀ k i, i + k = sc → gJoined σ n i = true → ty_V cnM p l e (rmL 0) s m args below meth c D ad cA (ty_Gd cnM ad s) 3 (MQ below (ty_Q cnM D ad cA (fun r σ' => r = some (.inl (if gJoined σ n sc = true then 1 else 0)) ∧ σ' = σ) (ty_A cnM ad)) args s 0 0 (ty_A cnM ad)) σ [some (.inr (20, 0)), some (.inl (nI n)), some (.inl (nI i))] 2 [] := by
    intro k
    induction k with
    | zero =>
      intro i hi hi0
      have hb := hc
      refine v_iload_n (pc := 2) C d_Model_joined_2 rfl rfl ?_
      refine v_aload_n (pc := 3) C d_Model_joined_3 rfl rfl ?_
      refine gf_Model_131 (pc := 4) C d_Model_joined_4 ?_
      refine v_icmp_ge (pc := 7) (tgt := 38) C d_Model_joined_7 (by decide) (fun h7 => ?_) (fun h7 => ?_)
      · refine v_iconst (pc := 38) (v := 1) C d_Model_joined_38 (by decide) ?_
        exact v_zreturn (pc := 39) C hr rfl ⟨by rw [show sc = i by omega, if_pos hi0], rfl⟩ d_Model_joined_39
      · exact absurd (by rw [hb]; exact nI_le (by omega) (by omega)) h7
    | succ k ih =>
      intro i hi hi0
      have hb := hc
      refine v_iload_n (pc := 2) C d_Model_joined_2 rfl rfl ?_
      refine v_aload_n (pc := 3) C d_Model_joined_3 rfl rfl ?_
      refine gf_Model_131 (pc := 4) C d_Model_joined_4 ?_
      refine v_icmp_ge (pc := 7) (tgt := 38) C d_Model_joined_7 (by decide) (fun h7 => ?_) (fun h7 => ?_)
      · exact absurd h7 (by rw [hb]; exact nI_ge (by omega) (by omega))
      · refine v_aload_n (pc := 10) C d_Model_joined_10 rfl rfl ?_
        refine gf_Model_72 (pc := 11) C d_Model_joined_11 ?_
        refine v_iload_n (pc := 14) C d_Model_joined_14 rfl rfl ?_
        refine v_ialoadK (pc := 15) C rfl rfl (rfl) (by omega) (by decide) d_Model_joined_15 ?_
        refine v_iload_n (pc := 16) C d_Model_joined_16 rfl rfl ?_
        refine v_icmp_ne (pc := 17) (tgt := 32) C d_Model_joined_17 (by decide) (fun h17 => ?_) (fun h17 => ?_)
        · refine v_iinc (pc := 32) C d_Model_joined_32 rfl (show _ + Int32.ofInt 1 = _ + 1 from rfl) (by decide) ?_
          refine v_goto (pc := 35) (tgt := 2) C d_Model_joined_35 (by decide) ?_
          rw [nI_1 i]
          refine ih (i + 1) (by omega) ?_
          simp [gJoined, hi0, h17]
        · refine v_aload_n (pc := 20) C d_Model_joined_20 rfl rfl ?_
          refine gf_Model_81 (pc := 21) C d_Model_joined_21 ?_
          refine v_iload_n (pc := 24) C d_Model_joined_24 rfl rfl ?_
          refine v_ialoadK (pc := 25) C rfl rfl (rfl) (by omega) (by decide) d_Model_joined_25 ?_
          refine v_iconst (pc := 26) (v := 5) C d_Model_joined_26 (by decide) ?_
          refine v_icmp_eq (pc := 27) (tgt := 32) C d_Model_joined_27 (by decide) (fun h27 => ?_) (fun h27 => ?_)
          · refine v_iinc (pc := 32) C d_Model_joined_32 rfl (show _ + Int32.ofInt 1 = _ + 1 from rfl) (by decide) ?_
            refine v_goto (pc := 35) (tgt := 2) C d_Model_joined_35 (by decide) ?_
            rw [nI_1 i]
            refine ih (i + 1) (by omega) ?_
            simp [gJoined, hi0, h27]
          · refine v_iconst (pc := 30) (v := 0) C d_Model_joined_30 (by decide) ?_
            exact v_zreturn (pc := 31) C hr rfl ⟨by
              have : ¬ gJoined σ n sc = true := fun q => by
                have := gJoined_mono (show i + 1 ≤ sc by omega) q
                simp [gJoined, h17, h27] at this
              rw [if_neg this], rfl⟩ d_Model_joined_31
  refine v_iconst (pc := 0) (v := 0) C d_Model_joined_0 (by decide) ?_
  refine v_istore_n (pc := 1) C d_Model_joined_1 rfl (by decide) ?_
  exact loop sc 0 (by omega) rfl
set_option maxRecDepth 100000 in
set_option maxHeartbeats 4000000 in
theorem m_ends (l : Launch) {D : va_G} {ad : Nat → Nat → Nat} {cA : Nat → ClassId} (hJ : ty_J cnM ad) (σ : ty_St) (hs : ¬ σ 20 0 5 < 0) (h : Nat) (hh : h < 64) (ht : vp_in (σ 39 0 h) 12) (why : Int32) : ty_M l y_Model_ends (Cond.code y_Model_ends b_Model_ends 5 none :: ty_w) (rmL 1) cnM D ad cA [.inr (20, 0), .inl (nI h), .inl why] σ (fun r σ' => r = none ∧ σ' = gEnds σ h why) := by
  refine ty_M.of rfl hJ layM (ty_oks.cons (show (0 : Nat) < cnM 20 by decide) (ty_oks.cons trivial (ty_oks.cons trivial ty_oks.nil))) (Nat.le_of_ble_eq_true rfl) ?_
  intro p e s m args below meth c C hr hnm
  have hx : σ 39 0 h = nI (nn (σ 39 0 h)) := by obtain ⟨j, hj, e⟩ := vp_in_of ht (by decide); rw [e, show nn (nI j) = j from nI_clamp (by omega)]
  refine v_aload_n (pc := 0) C d_Model_ends_0 rfl rfl ?_
  refine gf_Model_69 (pc := 1) C d_Model_ends_1 ?_
  refine v_iload_n (pc := 4) C d_Model_ends_4 rfl rfl ?_
  refine v_ialoadK (pc := 5) C rfl rfl (rfl) (hh) (by decide) d_Model_ends_5 ?_
  refine v_istore_n (pc := 6) C d_Model_ends_6 rfl (by decide) ?_
  refine v_aload_n (pc := 7) C d_Model_ends_7 rfl rfl ?_
  refine gf_Model_81 (pc := 8) C d_Model_ends_8 ?_
  refine v_iload_n (pc := 11) C d_Model_ends_11 rfl rfl ?_
  refine v_iconst (pc := 12) (v := 5) C d_Model_ends_12 (by decide) ?_
  refine v_iastoreK (pc := 13) C rfl rfl (rfl) (hh) (by decide) d_Model_ends_13 ?_
  refine v_aload_n (pc := 14) C d_Model_ends_14 rfl rfl ?_
  refine gf_Model_38 (pc := 15) C d_Model_ends_15 ?_
  refine v_iload_n (pc := 18) C d_Model_ends_18 rfl rfl ?_
  refine v_iaload (pc := 19) C rfl rfl ht d_Model_ends_19 ?_
  refine v_if_eq (pc := 20) (tgt := 43) C d_Model_ends_20 (by decide) (fun h20 => ?_) (fun h20 => ?_)
  · refine v_aload_n (pc := 43) C d_Model_ends_43 rfl rfl ?_
    refine gf_Model_53 (pc := 44) C d_Model_ends_44 ?_
    refine v_iload_n (pc := 47) C d_Model_ends_47 rfl rfl ?_
    refine v_iaload (pc := 48) C rfl rfl ht d_Model_ends_48 ?_
    refine v_iload_n (pc := 49) C d_Model_ends_49 rfl rfl ?_
    refine v_icmp_ne (pc := 50) (tgt := 89) C d_Model_ends_50 (by decide) (fun h50 => ?_) (fun h50 => ?_)
    · refine v_iload_n (pc := 89) C d_Model_ends_89 rfl rfl ?_
      refine v_if_lt (pc := 90) (tgt := 118) C d_Model_ends_90 (by decide) (fun h90 => ?_) (fun h90 => ?_)
      · exact v_return (pc := 118) C hr ⟨rfl, by unfold gEnds; rw [if_neg (fun q => q h20)]; rw [if_neg (show ¬ σ 34 0 (nn (σ 39 0 h)) = nI h from h50)]; rw [if_neg (fun q => absurd q.1 (Int32.not_le.mpr h90))]⟩ d_Model_ends_118
      · refine v_aload_n (pc := 93) C d_Model_ends_93 rfl rfl ?_
        refine gf_Model_90 (pc := 94) C d_Model_ends_94 ?_
        refine v_iload_n (pc := 97) C d_Model_ends_97 rfl rfl ?_
        refine v_baloadK (pc := 98) C rfl rfl (rfl) (hh) (by decide) d_Model_ends_98 ?_
        refine v_if_ne (pc := 99) (tgt := 118) C d_Model_ends_99 (by decide) (fun h99 => ?_) (fun h99 => ?_)
        · exact v_return (pc := 118) C hr ⟨rfl, by unfold gEnds; rw [if_neg (fun q => q h20)]; rw [if_neg (show ¬ σ 34 0 (nn (σ 39 0 h)) = nI h from h50)]; rw [if_neg (fun q => h99 q.2.1)]⟩ d_Model_ends_118
        · refine v_aload_n (pc := 102) C d_Model_ends_102 rfl rfl ?_
          refine gf_Model_56 (pc := 103) C d_Model_ends_103 ?_
          refine v_iload_n (pc := 106) C d_Model_ends_106 rfl rfl ?_
          refine v_iaload (pc := 107) C rfl rfl ht d_Model_ends_107 ?_
          refine v_if_ge (pc := 108) (tgt := 118) C d_Model_ends_108 (by decide) (fun h108 => ?_) (fun h108 => ?_)
          · exact v_return (pc := 118) C hr ⟨rfl, by unfold gEnds; rw [if_neg (fun q => q h20)]; rw [if_neg (show ¬ σ 34 0 (nn (σ 39 0 h)) = nI h from h50)]; rw [if_neg (fun q => absurd q.2.2 (Int32.not_lt.mpr h108))]⟩ d_Model_ends_118
          · refine v_aload_n (pc := 111) C d_Model_ends_111 rfl rfl ?_
            refine gf_Model_56 (pc := 112) C d_Model_ends_112 ?_
            refine v_iload_n (pc := 115) C d_Model_ends_115 rfl rfl ?_
            refine v_iload_n (pc := 116) C d_Model_ends_116 rfl rfl ?_
            refine v_iastore (pc := 117) C rfl rfl ht d_Model_ends_117 ?_
            exact v_return (pc := 118) C hr ⟨rfl, by unfold gEnds; rw [if_neg (fun q => q h20)]; rw [if_neg (show ¬ σ 34 0 (nn (σ 39 0 h)) = nI h from h50)]; rw [if_pos (show 0 ≤ why ∧ σ 46 0 h = 0 ∧ σ 35 0 (nn (σ 39 0 h)) < 0 from ⟨Int32.not_lt.mp h90, h99, Int32.not_le.mp h108⟩)]⟩ d_Model_ends_118
    · refine v_iload_n (pc := 53) C d_Model_ends_53 rfl rfl ?_
      refine v_if_lt (pc := 54) (tgt := 61) C d_Model_ends_54 (by decide) (fun h54 => ?_) (fun h54 => ?_)
      · refine v_aload_n (pc := 61) C d_Model_ends_61 rfl rfl ?_
        refine gf_Model_56 (pc := 62) C d_Model_ends_62 ?_
        refine v_iload_n (pc := 65) C d_Model_ends_65 rfl rfl ?_
        refine v_iaload (pc := 66) C rfl rfl ht d_Model_ends_66 ?_
        refine v_istore (pc := 67) C d_Model_ends_67 (by decide) ?_
        refine v_aload_n (pc := 69) C d_Model_ends_69 rfl rfl ?_
        refine v_iload_n (pc := 70) C d_Model_ends_70 rfl rfl ?_
        refine v_iload (pc := 71) C d_Model_ends_71 rfl ?_
        refine v_if_lt (pc := 73) (tgt := 80) C d_Model_ends_73 (by decide) (fun h73 => ?_) (fun h73 => ?_)
        · refine v_iconst (pc := 80) (v := 1) C d_Model_ends_80 (by decide) ?_
          refine v_iload (pc := 81) C d_Model_ends_81 rfl ?_
          refine cl_Model_127 (pc := 83) C (m_judged l hJ (ty_up σ 43 0 h 5) _ (nn (σ 39 0 h)) (vp_lt ht) hx _ _) ⟨rfl, rfl, by decide, by decide⟩ rfl rfl (Nat.le_of_ble_eq_true rfl) d_Model_ends_83 (fun r σ' hq => ?_)
          rw [hq.1, hq.2]
          refine v_goto (pc := 86) (tgt := 118) C d_Model_ends_86 (by decide) ?_
          exact v_return (pc := 118) C hr ⟨rfl, by unfold gEnds; rw [if_neg (fun q => q h20)]; rw [if_pos (show σ 34 0 (nn (σ 39 0 h)) = nI h from h50)]; rw [if_neg (Int32.not_le.mpr h54)]; rw [if_neg (show ¬ 0 ≤ σ 35 0 (nn (σ 39 0 h)) from Int32.not_le.mpr h73)]; try rfl⟩ d_Model_ends_118
        · refine v_iconst (pc := 76) (v := 2) C d_Model_ends_76 (by decide) ?_
          refine v_goto (pc := 77) (tgt := 81) C d_Model_ends_77 (by decide) ?_
          refine v_iload (pc := 81) C d_Model_ends_81 rfl ?_
          refine cl_Model_127 (pc := 83) C (m_judged l hJ (ty_up σ 43 0 h 5) _ (nn (σ 39 0 h)) (vp_lt ht) hx _ _) ⟨rfl, rfl, by decide, by decide⟩ rfl rfl (Nat.le_of_ble_eq_true rfl) d_Model_ends_83 (fun r σ' hq => ?_)
          rw [hq.1, hq.2]
          refine v_goto (pc := 86) (tgt := 118) C d_Model_ends_86 (by decide) ?_
          exact v_return (pc := 118) C hr ⟨rfl, by unfold gEnds; rw [if_neg (fun q => q h20)]; rw [if_pos (show σ 34 0 (nn (σ 39 0 h)) = nI h from h50)]; rw [if_neg (Int32.not_le.mpr h54)]; rw [if_pos (show 0 ≤ σ 35 0 (nn (σ 39 0 h)) from Int32.not_lt.mp h73)]; try rfl⟩ d_Model_ends_118
      · refine v_iload_n (pc := 57) C d_Model_ends_57 rfl rfl ?_
        refine v_goto (pc := 58) (tgt := 67) C d_Model_ends_58 (by decide) ?_
        refine v_istore (pc := 67) C d_Model_ends_67 (by decide) ?_
        refine v_aload_n (pc := 69) C d_Model_ends_69 rfl rfl ?_
        refine v_iload_n (pc := 70) C d_Model_ends_70 rfl rfl ?_
        refine v_iload (pc := 71) C d_Model_ends_71 rfl ?_
        refine v_if_lt (pc := 73) (tgt := 80) C d_Model_ends_73 (by decide) (fun h73 => ?_) (fun h73 => ?_)
        · refine v_iconst (pc := 80) (v := 1) C d_Model_ends_80 (by decide) ?_
          refine v_iload (pc := 81) C d_Model_ends_81 rfl ?_
          refine cl_Model_127 (pc := 83) C (m_judged l hJ (ty_up σ 43 0 h 5) _ (nn (σ 39 0 h)) (vp_lt ht) hx _ _) ⟨rfl, rfl, by decide, by decide⟩ rfl rfl (Nat.le_of_ble_eq_true rfl) d_Model_ends_83 (fun r σ' hq => ?_)
          rw [hq.1, hq.2]
          refine v_goto (pc := 86) (tgt := 118) C d_Model_ends_86 (by decide) ?_
          exact v_return (pc := 118) C hr ⟨rfl, by unfold gEnds; rw [if_neg (fun q => q h20)]; rw [if_pos (show σ 34 0 (nn (σ 39 0 h)) = nI h from h50)]; rw [if_pos (Int32.not_lt.mp h54)]; rw [if_neg (show ¬ 0 ≤ why from Int32.not_le.mpr h73)]; try rfl⟩ d_Model_ends_118
        · refine v_iconst (pc := 76) (v := 2) C d_Model_ends_76 (by decide) ?_
          refine v_goto (pc := 77) (tgt := 81) C d_Model_ends_77 (by decide) ?_
          refine v_iload (pc := 81) C d_Model_ends_81 rfl ?_
          refine cl_Model_127 (pc := 83) C (m_judged l hJ (ty_up σ 43 0 h 5) _ (nn (σ 39 0 h)) (vp_lt ht) hx _ _) ⟨rfl, rfl, by decide, by decide⟩ rfl rfl (Nat.le_of_ble_eq_true rfl) d_Model_ends_83 (fun r σ' hq => ?_)
          rw [hq.1, hq.2]
          refine v_goto (pc := 86) (tgt := 118) C d_Model_ends_86 (by decide) ?_
          exact v_return (pc := 118) C hr ⟨rfl, by unfold gEnds; rw [if_neg (fun q => q h20)]; rw [if_pos (show σ 34 0 (nn (σ 39 0 h)) = nI h from h50)]; rw [if_pos (Int32.not_lt.mp h54)]; rw [if_pos (show 0 ≤ why from Int32.not_lt.mp h73)]; try rfl⟩ d_Model_ends_118
  · refine v_iload_n (pc := 23) C d_Model_ends_23 rfl rfl ?_
    refine v_if_lt (pc := 24) (tgt := 42) C d_Model_ends_24 (by decide) (fun h24 => ?_) (fun h24 => ?_)
    · exact v_return (pc := 42) C hr ⟨rfl, by unfold gEnds; rw [if_pos (show ¬ σ 29 0 (nn (σ 39 0 h)) = 0 from h20)]; rw [if_neg (fun q => absurd q.1 (Int32.not_le.mpr h24))]⟩ d_Model_ends_42
    · refine v_aload_n (pc := 27) C d_Model_ends_27 rfl rfl ?_
      refine gf_Model_90 (pc := 28) C d_Model_ends_28 ?_
      refine v_iload_n (pc := 31) C d_Model_ends_31 rfl rfl ?_
      refine v_baloadK (pc := 32) C rfl rfl (rfl) (hh) (by decide) d_Model_ends_32 ?_
      refine v_if_ne (pc := 33) (tgt := 42) C d_Model_ends_33 (by decide) (fun h33 => ?_) (fun h33 => ?_)
      · exact v_return (pc := 42) C hr ⟨rfl, by unfold gEnds; rw [if_pos (show ¬ σ 29 0 (nn (σ 39 0 h)) = 0 from h20)]; rw [if_neg (fun q => h33 q.2)]⟩ d_Model_ends_42
      · refine v_aload_n (pc := 36) C d_Model_ends_36 rfl rfl ?_
        refine v_iload_n (pc := 37) C d_Model_ends_37 rfl rfl ?_
        refine v_iload_n (pc := 38) C d_Model_ends_38 rfl rfl ?_
        refine cl_Model_123 (pc := 39) C (m_warns l hJ (ty_up σ 43 0 h 5) (by exact hs) _ _) ⟨rfl, rfl, by decide, by decide⟩ rfl rfl (Nat.le_of_ble_eq_true rfl) d_Model_ends_39 (fun r σ' hq => ?_)
        rw [hq.1, hq.2]
        exact v_return (pc := 42) C hr ⟨rfl, by unfold gEnds; rw [if_pos (show ¬ σ 29 0 (nn (σ 39 0 h)) = 0 from h20)]; rw [if_pos (show 0 ≤ why ∧ σ 46 0 h = 0 from ⟨Int32.not_lt.mp h24, h33⟩)]⟩ d_Model_ends_42
end
section
theorem gG1_a {τ : ty_St} {q k a : Nat} (h : ¬ a = 24) : (gG1 τ q k) a = τ a := by
  unfold gG1
  split
  · rw [up_a h]
  · rfl
theorem gGp_a {τ : ty_St} {q a : Nat} (h : ¬ a = 24) : ∀ k, (gGp τ q k) a = τ a
  | 0 => rfl
  | k + 1 => (gG1_a h).trans (gGp_a h k)
theorem gGs_a {τ : ty_St} {a : Nat} (h : ¬ a = 24) : ∀ q, (gGs τ q) a = τ a
  | 0 => rfl
  | q + 1 => (gGp_a h _).trans (gGs_a h q)
theorem gInner_in {τ : ty_St} {b : Nat} {pl : Int32} : ∀ n, gInner τ b pl n = -1 ∨ ∃ g, g < n ∧ gInner τ b pl n = nI g ∧ τ 21 0 (b + g) = 4 ∧ pl ≤ τ 24 0 (b + g)
  | 0 => Or.inl rfl
  | n + 1 => by
    unfold gInner
    split
    · rename_i q; exact Or.inr ⟨n, by omega, rfl, q.1, q.2⟩
    · rcases gInner_in (τ := τ) (b := b) (pl := pl) n with e | ⟨g, hg, e, e2⟩
      · exact Or.inl e
      · exact Or.inr ⟨g, by omega, e, e2⟩
theorem i10 (c : Nat) : (10 : Int32) * nI c = nI (10 * c) := pk_mul 10 c
set_option maxRecDepth 100000 in
set_option maxHeartbeats 4000000 in
theorem m_interrupts (l : Launch) {D : va_G} {ad : Nat → Nat → Nat} {cA : Nat → ClassId} (hJ : ty_J cnM ad) (σ : ty_St) (hs : ¬ σ 20 0 5 < 0) (h : Nat) (hh : h < 64) (ht : vp_in (σ 39 0 h) 12) (c0 : Nat) (hc0 : c0 < 10) (hc : σ 41 0 h = nI c0) (y : Int32) (pl : Nat) (hpl : pl ≤ 10) (hy : y = nI pl) : ty_M l y_Model_interrupts (Cond.code y_Model_interrupts b_Model_interrupts 6 none :: ty_w) (rmL 2) cnM D ad cA [.inr (20, 0), .inl (nI h), .inl y] σ (fun r σ' => r = none ∧ σ' = gInterrupts σ h pl) := by
  refine ty_M.of rfl hJ layM (ty_oks.cons (show (0 : Nat) < cnM 20 by decide) (ty_oks.cons trivial (ty_oks.cons trivial ty_oks.nil))) (Nat.le_of_ble_eq_true rfl) ?_
  intro p e s m args below meth c C hr hnm
  subst hy
  have hcn : nn (σ 41 0 h) = c0 := by rw [hc]; exact nI_clamp (by omega)
  have loop : ∀ k i, i + k = pl → ∀ x : Int32, x = gInner σ (10 * c0) (nI pl) i → ty_V cnM p l e (rmL 2) s m args below meth c D ad cA (ty_Gd cnM ad s) 6 (MQ below (ty_Q cnM D ad cA (fun r σ' => r = none ∧ σ' = gInterrupts σ h pl) (ty_A cnM ad)) args s 0 0 (ty_A cnM ad)) (ty_up σ 45 0 h 0) [some (.inr (20, 0)), some (.inl (nI h)), some (.inl (nI pl)), some (.inl (nI (10 * c0))), some (.inl x), some (.inl (nI i))] 23 [] := by
    intro  k
    induction k with
    | zero =>
      intro i hi x hx
      have hb := (rfl : nI pl = nI pl)
      refine v_iload (pc := 23) C d_Model_interrupts_23 rfl ?_
      refine v_iload_n (pc := 25) C d_Model_interrupts_25 rfl rfl ?_
      refine v_icmp_ge (pc := 26) (tgt := 65) C d_Model_interrupts_26 (by decide) (fun h26 => ?_) (fun h26 => ?_)
      · refine v_iload (pc := 65) C d_Model_interrupts_65 rfl ?_
        refine v_if_ge (pc := 67) (tgt := 80) C d_Model_interrupts_67 (by decide) (fun h67 => ?_) (fun h67 => ?_)
        · obtain ⟨g, hg, eg, -⟩ := (gInner_in (τ := σ) (b := 10 * c0) (pl := nI pl) i).resolve_left (fun q => by rw [hx, q] at h67; exact absurd h67 (by decide))
          rw [← hx] at eg
          refine v_aload_n (pc := 80) C d_Model_interrupts_80 rfl rfl ?_
          refine gf_Model_81 (pc := 81) C d_Model_interrupts_81 ?_
          refine v_iload_n (pc := 84) C d_Model_interrupts_84 rfl rfl ?_
          refine v_iconst (pc := 85) (v := 0) C d_Model_interrupts_85 (by decide) ?_
          refine v_iastoreK (pc := 86) C rfl rfl (rfl) (hh) (by decide) d_Model_interrupts_86 ?_
          refine v_aload_n (pc := 87) C d_Model_interrupts_87 rfl rfl ?_
          refine gf_Model_78 (pc := 88) C d_Model_interrupts_88 ?_
          refine v_iload_n (pc := 91) C d_Model_interrupts_91 rfl rfl ?_
          refine v_aload_n (pc := 92) C d_Model_interrupts_92 rfl rfl ?_
          refine gf_Model_23 (pc := 93) C d_Model_interrupts_93 ?_
          refine v_iload_n (pc := 96) C d_Model_interrupts_96 rfl rfl ?_
          refine v_iload (pc := 97) C d_Model_interrupts_97 rfl ?_
          refine v_iadd (pc := 99) C d_Model_interrupts_99 ?_
          refine v_ialoadK (pc := 100) C rfl rfl ((by rw [eg]; exact nI_add _ _)) (by omega) (by decide) d_Model_interrupts_100 ?_
          refine v_iconst (pc := 101) (v := 1) C d_Model_interrupts_101 (by decide) ?_
          refine v_iadd (pc := 102) C d_Model_interrupts_102 ?_
          refine v_iastoreK (pc := 103) C rfl rfl (rfl) (hh) (by decide) d_Model_interrupts_103 ?_
          exact v_return (pc := 104) C hr ⟨rfl, by
            unfold gInterrupts
            have hx2 : gInner σ (10 * c0) (nI pl) pl = x := by rw [hx, show i = pl by omega]
            rw [hcn, hx2]; rw [if_neg (Int32.not_lt.mpr h67), eg, show nn (nI g) = g from nI_clamp (by omega)]; rfl⟩ d_Model_interrupts_104
        · refine v_aload_n (pc := 70) C d_Model_interrupts_70 rfl rfl ?_
          refine v_iload_n (pc := 71) C d_Model_interrupts_71 rfl rfl ?_
          refine v_bipush (pc := 72) (v := 100) C d_Model_interrupts_72 (by decide) ?_
          refine cl_Model_138 (pc := 74) C (m_ends l hJ (ty_up σ 45 0 h 0) (by exact hs) h hh (by exact ht) 100) ⟨rfl, rfl, by decide, by decide⟩ rfl rfl (Nat.le_of_ble_eq_true rfl) d_Model_interrupts_74 (fun r σ' hq => ?_)
          rw [hq.1, hq.2]
          refine v_goto (pc := 77) (tgt := 104) C d_Model_interrupts_77 (by decide) ?_
          exact v_return (pc := 104) C hr ⟨rfl, by
            unfold gInterrupts
            have hx2 : gInner σ (10 * c0) (nI pl) pl = x := by rw [hx, show i = pl by omega]
            rw [hcn, hx2]; rw [if_pos (Int32.not_le.mp h67)]⟩ d_Model_interrupts_104
      · exact absurd (by rw [hb]; exact nI_le (by omega) (by omega)) h26
    | succ k ih =>
      intro i hi x hx
      have hb := (rfl : nI pl = nI pl)
      refine v_iload (pc := 23) C d_Model_interrupts_23 rfl ?_
      refine v_iload_n (pc := 25) C d_Model_interrupts_25 rfl rfl ?_
      refine v_icmp_ge (pc := 26) (tgt := 65) C d_Model_interrupts_26 (by decide) (fun h26 => ?_) (fun h26 => ?_)
      · exact absurd h26 (by rw [hb]; exact nI_ge (by omega) (by omega))
      · refine v_aload_n (pc := 29) C d_Model_interrupts_29 rfl rfl ?_
        refine gf_Model_13 (pc := 30) C d_Model_interrupts_30 ?_
        refine v_iload_n (pc := 33) C d_Model_interrupts_33 rfl rfl ?_
        refine v_iload (pc := 34) C d_Model_interrupts_34 rfl ?_
        refine v_iadd (pc := 36) C d_Model_interrupts_36 ?_
        refine v_ialoadK (pc := 37) C rfl rfl ((nI_add _ _)) (by omega) (by decide) d_Model_interrupts_37 ?_
        refine v_iconst (pc := 38) (v := 4) C d_Model_interrupts_38 (by decide) ?_
        refine v_icmp_ne (pc := 39) (tgt := 59) C d_Model_interrupts_39 (by decide) (fun h39 => ?_) (fun h39 => ?_)
        · refine v_iinc (pc := 59) C d_Model_interrupts_59 rfl (show _ + Int32.ofInt 1 = _ + 1 from rfl) (by decide) ?_
          refine v_goto (pc := 62) (tgt := 23) C d_Model_interrupts_62 (by decide) ?_
          rw [nI_1 i]
          refine ih (i + 1) (by omega) _ ?_
          unfold gInner
          rw [if_neg (fun q => h39 q.1)]; exact hx
        · refine v_aload_n (pc := 42) C d_Model_interrupts_42 rfl rfl ?_
          refine gf_Model_23 (pc := 43) C d_Model_interrupts_43 ?_
          refine v_iload_n (pc := 46) C d_Model_interrupts_46 rfl rfl ?_
          refine v_iload (pc := 47) C d_Model_interrupts_47 rfl ?_
          refine v_iadd (pc := 49) C d_Model_interrupts_49 ?_
          refine v_ialoadK (pc := 50) C rfl rfl ((nI_add _ _)) (by omega) (by decide) d_Model_interrupts_50 ?_
          refine v_iload_n (pc := 51) C d_Model_interrupts_51 rfl rfl ?_
          refine v_icmp_lt (pc := 52) (tgt := 59) C d_Model_interrupts_52 (by decide) (fun h52 => ?_) (fun h52 => ?_)
          · refine v_iinc (pc := 59) C d_Model_interrupts_59 rfl (show _ + Int32.ofInt 1 = _ + 1 from rfl) (by decide) ?_
            refine v_goto (pc := 62) (tgt := 23) C d_Model_interrupts_62 (by decide) ?_
            rw [nI_1 i]
            refine ih (i + 1) (by omega) _ ?_
            unfold gInner
            rw [if_neg (fun q => absurd q.2 (Int32.not_le.mpr h52))]; exact hx
          · refine v_iload (pc := 55) C d_Model_interrupts_55 rfl ?_
            refine v_istore (pc := 57) C d_Model_interrupts_57 (by decide) ?_
            refine v_iinc (pc := 59) C d_Model_interrupts_59 rfl (show _ + Int32.ofInt 1 = _ + 1 from rfl) (by decide) ?_
            refine v_goto (pc := 62) (tgt := 23) C d_Model_interrupts_62 (by decide) ?_
            rw [nI_1 i]
            refine ih (i + 1) (by omega) _ ?_
            unfold gInner
            rw [if_pos (show σ 21 0 (10 * c0 + i) = 4 ∧ nI pl ≤ σ 24 0 (10 * c0 + i) from ⟨h39, Int32.not_lt.mp h52⟩)]
  refine v_aload_n (pc := 0) C d_Model_interrupts_0 rfl rfl ?_
  refine gf_Model_87 (pc := 1) C d_Model_interrupts_1 ?_
  refine v_iload_n (pc := 4) C d_Model_interrupts_4 rfl rfl ?_
  refine v_iconst (pc := 5) (v := 0) C d_Model_interrupts_5 (by decide) ?_
  refine v_bastoreK (pc := 6) C rfl rfl (rfl) (hh) (by decide) rfl d_Model_interrupts_6 ?_
  refine v_bipush (pc := 7) (v := 10) C d_Model_interrupts_7 (by decide) ?_
  refine v_aload_n (pc := 9) C d_Model_interrupts_9 rfl rfl ?_
  refine gf_Model_75 (pc := 10) C d_Model_interrupts_10 ?_
  refine v_iload_n (pc := 13) C d_Model_interrupts_13 rfl rfl ?_
  refine v_ialoadK (pc := 14) C rfl rfl (rfl) (hh) (by decide) d_Model_interrupts_14 ?_
  refine v_imul (pc := 15) C d_Model_interrupts_15 ?_
  rw [show (10 : Int32) * (ty_up σ 45 0 h 0) 41 0 h = nI (10 * c0) from by rw [show (ty_up σ 45 0 h 0) 41 0 h = nI c0 from hc]; exact i10 c0]
  refine v_istore_n (pc := 16) C d_Model_interrupts_16 rfl (by decide) ?_
  refine v_iconst (pc := 17) (v := (-1)) C d_Model_interrupts_17 (by decide) ?_
  refine v_istore (pc := 18) C d_Model_interrupts_18 (by decide) ?_
  refine v_iconst (pc := 20) (v := 0) C d_Model_interrupts_20 (by decide) ?_
  refine v_istore (pc := 21) C d_Model_interrupts_21 (by decide) ?_
  exact loop pl 0 (by omega) _ rfl
set_option maxRecDepth 100000 in
set_option maxHeartbeats 4000000 in
theorem m_waits (l : Launch) {D : va_G} {ad : Nat → Nat → Nat} {cA : Nat → ClassId} (hJ : ty_J cnM ad) (σ : ty_St) (hs : ¬ σ 20 0 5 < 0) (h : Nat) (hh : h < 64) (ht : vp_in (σ 39 0 h) 12) (c0 : Nat) (hc0 : c0 < 10) (hc : σ 41 0 h = nI c0) (z : Nat) (hz : z < 10) (hat : σ 42 0 h = nI (z + 1)) (how ticks : Int32) : ty_M l y_Model_waits (Cond.code y_Model_waits b_Model_waits 4 none :: ty_w) (rmL 3) cnM D ad cA [.inr (20, 0), .inl (nI h), .inl how, .inl ticks] σ (fun r σ' => r = none ∧ σ' = gWaits σ h how ticks) := by
  refine ty_M.of rfl hJ layM (ty_oks.cons (show (0 : Nat) < cnM 20 by decide) (ty_oks.cons trivial (ty_oks.cons trivial (ty_oks.cons trivial ty_oks.nil)))) (Nat.le_of_ble_eq_true rfl) ?_
  intro p e s m args below meth c C hr hnm
  have hz1 : σ 42 0 h - 1 = nI z := by rw [hat]; exact nI_pred z
  have hzn : nn (σ 42 0 h - 1) = z := by rw [hz1]; exact nI_clamp (by omega)
  refine v_iload_n (pc := 0) C d_Model_waits_0 rfl rfl ?_
  refine v_iconst (pc := 1) (v := 1) C d_Model_waits_1 (by decide) ?_
  refine v_icmp_eq (pc := 2) (tgt := 28) C d_Model_waits_2 (by decide) (fun h2 => ?_) (fun h2 => ?_)
  · refine v_aload_n (pc := 28) C d_Model_waits_28 rfl rfl ?_
    refine gf_Model_81 (pc := 29) C d_Model_waits_29 ?_
    refine v_iload_n (pc := 32) C d_Model_waits_32 rfl rfl ?_
    refine v_iload_n (pc := 33) C d_Model_waits_33 rfl rfl ?_
    refine v_iastoreK (pc := 34) C rfl rfl (rfl) (hh) (by decide) d_Model_waits_34 ?_
    refine v_aload_n (pc := 35) C d_Model_waits_35 rfl rfl ?_
    refine gf_Model_84 (pc := 36) C d_Model_waits_36 ?_
    refine v_iload_n (pc := 39) C d_Model_waits_39 rfl rfl ?_
    refine v_aload_n (pc := 40) C d_Model_waits_40 rfl rfl ?_
    refine gf_Model_117 (pc := 41) C d_Model_waits_41 ?_
    refine v_iload_n (pc := 44) C d_Model_waits_44 rfl rfl ?_
    refine v_iadd (pc := 45) C d_Model_waits_45 ?_
    refine v_iastoreK (pc := 46) C rfl rfl (rfl) (hh) (by decide) d_Model_waits_46 ?_
    exact v_return (pc := 47) C hr ⟨rfl, by unfold gWaits; rw [if_neg (fun q => q.1 h2)]; rfl⟩ d_Model_waits_47
  · refine v_aload_n (pc := 5) C d_Model_waits_5 rfl rfl ?_
    refine gf_Model_87 (pc := 6) C d_Model_waits_6 ?_
    refine v_iload_n (pc := 9) C d_Model_waits_9 rfl rfl ?_
    refine v_baloadK (pc := 10) C rfl rfl (rfl) (hh) (by decide) d_Model_waits_10 ?_
    refine v_if_eq (pc := 11) (tgt := 28) C d_Model_waits_11 (by decide) (fun h11 => ?_) (fun h11 => ?_)
    · refine v_aload_n (pc := 28) C d_Model_waits_28 rfl rfl ?_
      refine gf_Model_81 (pc := 29) C d_Model_waits_29 ?_
      refine v_iload_n (pc := 32) C d_Model_waits_32 rfl rfl ?_
      refine v_iload_n (pc := 33) C d_Model_waits_33 rfl rfl ?_
      refine v_iastoreK (pc := 34) C rfl rfl (rfl) (hh) (by decide) d_Model_waits_34 ?_
      refine v_aload_n (pc := 35) C d_Model_waits_35 rfl rfl ?_
      refine gf_Model_84 (pc := 36) C d_Model_waits_36 ?_
      refine v_iload_n (pc := 39) C d_Model_waits_39 rfl rfl ?_
      refine v_aload_n (pc := 40) C d_Model_waits_40 rfl rfl ?_
      refine gf_Model_117 (pc := 41) C d_Model_waits_41 ?_
      refine v_iload_n (pc := 44) C d_Model_waits_44 rfl rfl ?_
      refine v_iadd (pc := 45) C d_Model_waits_45 ?_
      refine v_iastoreK (pc := 46) C rfl rfl (rfl) (hh) (by decide) d_Model_waits_46 ?_
      exact v_return (pc := 47) C hr ⟨rfl, by unfold gWaits; rw [if_neg (fun q => q.2 h11)]; rfl⟩ d_Model_waits_47
    · refine v_aload_n (pc := 14) C d_Model_waits_14 rfl rfl ?_
      refine v_iload_n (pc := 15) C d_Model_waits_15 rfl rfl ?_
      refine v_aload_n (pc := 16) C d_Model_waits_16 rfl rfl ?_
      refine gf_Model_78 (pc := 17) C d_Model_waits_17 ?_
      refine v_iload_n (pc := 20) C d_Model_waits_20 rfl rfl ?_
      refine v_ialoadK (pc := 21) C rfl rfl (rfl) (hh) (by decide) d_Model_waits_21 ?_
      refine v_iconst (pc := 22) (v := 1) C d_Model_waits_22 (by decide) ?_
      refine v_isub (pc := 23) C d_Model_waits_23 ?_
      refine cl_Model_140 (pc := 24) C (m_interrupts l hJ σ hs h hh ht c0 hc0 hc _ z (by omega) hz1) ⟨rfl, rfl, by decide, by decide⟩ rfl rfl (Nat.le_of_ble_eq_true rfl) d_Model_waits_24 (fun r σ' hq => ?_)
      rw [hq.1, hq.2]
      exact v_return (pc := 27) C hr ⟨rfl, by unfold gWaits; rw [if_pos ⟨h2, h11⟩, hzn]⟩ d_Model_waits_27
end
section
set_option maxRecDepth 100000 in
set_option maxHeartbeats 4000000 in
theorem m_guards (l : Launch) {D : va_G} {ad : Nat → Nat → Nat} {cA : Nat → ClassId} (hJ : ty_J cnM ad) (σ : ty_St) (hz : ∀ q, q < 10 → ∃ k, k ≤ 10 ∧ σ 23 0 q = nI k) : ty_M l y_Model_guards (Cond.code y_Model_guards b_Model_guards 5 none :: ty_w) (rmL 1) cnM D ad cA [.inr (20, 0)] σ (fun r σ' => r = none ∧ σ' = gGs σ 10) := by
  refine ty_M.of rfl hJ layM (ty_oks.cons (show (0 : Nat) < cnM 20 by decide) ty_oks.nil) (Nat.le_of_ble_eq_true rfl) ?_
  intro p e s m args below meth c C hr hnm
  have inner : ∀ pp kk : Nat, pp < 10 → kk < 10 → ∀ (τ : ty_St) (e0 : Int32), (∀ x y : Int32, ty_V cnM p l e (rmL 1) s m args below meth c D ad cA (ty_Gd cnM ad s) 5 (MQ below (ty_Q cnM D ad cA (fun r σ' => r = none ∧ σ' = gGs σ 10) (ty_A cnM ad)) args s 0 0 (ty_A cnM ad)) (ty_up τ 24 0 (10 * pp + kk) (gGin τ pp kk e0 kk)) [some (.inr (20, 0)), some (.inl (nI pp)), some (.inl (nI kk)), some (.inl x), some (.inl y)] 139 []) → ∀ k i, i + k = kk → ∀ x : Int32, x = gGin τ pp kk e0 i → ty_V cnM p l e (rmL 1) s m args below meth c D ad cA (ty_Gd cnM ad s) 5 (MQ below (ty_Q cnM D ad cA (fun r σ' => r = none ∧ σ' = gGs σ 10) (ty_A cnM ad)) args s 0 0 (ty_A cnM ad)) τ [some (.inr (20, 0)), some (.inl (nI pp)), some (.inl (nI kk)), some (.inl x), some (.inl (nI i))] 66 [] := by
    intro pp kk hpp hkk τ e0 cont k
    induction k with
    | zero =>
      intro i hi x hx
      have hb := (rfl : nI kk = nI kk)
      refine v_iload (pc := 66) C d_Model_guards_66 rfl ?_
      refine v_iload_n (pc := 68) C d_Model_guards_68 rfl rfl ?_
      refine v_icmp_ge (pc := 69) (tgt := 127) C d_Model_guards_69 (by decide) (fun h69 => ?_) (fun h69 => ?_)
      · refine v_aload_n (pc := 127) C d_Model_guards_127 rfl rfl ?_
        refine gf_Model_23 (pc := 128) C d_Model_guards_128 ?_
        refine v_bipush (pc := 131) (v := 10) C d_Model_guards_131 (by decide) ?_
        refine v_iload_n (pc := 133) C d_Model_guards_133 rfl rfl ?_
        refine v_imul (pc := 134) C d_Model_guards_134 ?_
        refine v_iload_n (pc := 135) C d_Model_guards_135 rfl rfl ?_
        refine v_iadd (pc := 136) C d_Model_guards_136 ?_
        refine v_iload_n (pc := 137) C d_Model_guards_137 rfl rfl ?_
        refine v_iastoreK (pc := 138) C rfl rfl ((by rw [i10]; exact nI_add _ _)) (by omega) (by decide) d_Model_guards_138 ?_
        rw [hx, show i = kk by omega]
        exact cont _ _
      · exact absurd (by rw [hb]; exact nI_le (by omega) (by omega)) h69
    | succ k ih =>
      intro i hi x hx
      have hb := (rfl : nI kk = nI kk)
      refine v_iload (pc := 66) C d_Model_guards_66 rfl ?_
      refine v_iload_n (pc := 68) C d_Model_guards_68 rfl rfl ?_
      refine v_icmp_ge (pc := 69) (tgt := 127) C d_Model_guards_69 (by decide) (fun h69 => ?_) (fun h69 => ?_)
      · exact absurd h69 (by rw [hb]; exact nI_ge (by omega) (by omega))
      · refine v_aload_n (pc := 72) C d_Model_guards_72 rfl rfl ?_
        refine gf_Model_13 (pc := 73) C d_Model_guards_73 ?_
        refine v_bipush (pc := 76) (v := 10) C d_Model_guards_76 (by decide) ?_
        refine v_iload_n (pc := 78) C d_Model_guards_78 rfl rfl ?_
        refine v_imul (pc := 79) C d_Model_guards_79 ?_
        refine v_iload (pc := 80) C d_Model_guards_80 rfl ?_
        refine v_iadd (pc := 82) C d_Model_guards_82 ?_
        refine v_ialoadK (pc := 83) C rfl rfl ((by rw [i10]; exact nI_add _ _)) (by omega) (by decide) d_Model_guards_83 ?_
        refine v_iconst (pc := 84) (v := 4) C d_Model_guards_84 (by decide) ?_
        refine v_icmp_ne (pc := 85) (tgt := 121) C d_Model_guards_85 (by decide) (fun h85 => ?_) (fun h85 => ?_)
        · refine v_iinc (pc := 121) C d_Model_guards_121 rfl (show _ + Int32.ofInt 1 = _ + 1 from rfl) (by decide) ?_
          refine v_goto (pc := 124) (tgt := 66) C d_Model_guards_124 (by decide) ?_
          rw [nI_1 i]
          refine ih (i + 1) (by omega) _ ?_
          unfold gGin
          rw [if_neg (fun q => h85 q.1)]; exact hx
        · refine v_aload_n (pc := 88) C d_Model_guards_88 rfl rfl ?_
          refine gf_Model_23 (pc := 89) C d_Model_guards_89 ?_
          refine v_bipush (pc := 92) (v := 10) C d_Model_guards_92 (by decide) ?_
          refine v_iload_n (pc := 94) C d_Model_guards_94 rfl rfl ?_
          refine v_imul (pc := 95) C d_Model_guards_95 ?_
          refine v_iload (pc := 96) C d_Model_guards_96 rfl ?_
          refine v_iadd (pc := 98) C d_Model_guards_98 ?_
          refine v_ialoadK (pc := 99) C rfl rfl ((by rw [i10]; exact nI_add _ _)) (by omega) (by decide) d_Model_guards_99 ?_
          refine v_iload_n (pc := 100) C d_Model_guards_100 rfl rfl ?_
          refine v_icmp_lt (pc := 101) (tgt := 121) C d_Model_guards_101 (by decide) (fun h101 => ?_) (fun h101 => ?_)
          · refine v_iinc (pc := 121) C d_Model_guards_121 rfl (show _ + Int32.ofInt 1 = _ + 1 from rfl) (by decide) ?_
            refine v_goto (pc := 124) (tgt := 66) C d_Model_guards_124 (by decide) ?_
            rw [nI_1 i]
            refine ih (i + 1) (by omega) _ ?_
            unfold gGin
            rw [if_neg (fun q => absurd q.2 (Int32.not_le.mpr h101))]; exact hx
          · refine v_iload_n (pc := 104) C d_Model_guards_104 rfl rfl ?_
            refine v_aload_n (pc := 105) C d_Model_guards_105 rfl rfl ?_
            refine gf_Model_23 (pc := 106) C d_Model_guards_106 ?_
            refine v_bipush (pc := 109) (v := 10) C d_Model_guards_109 (by decide) ?_
            refine v_iload_n (pc := 111) C d_Model_guards_111 rfl rfl ?_
            refine v_imul (pc := 112) C d_Model_guards_112 ?_
            refine v_iload (pc := 113) C d_Model_guards_113 rfl ?_
            refine v_iadd (pc := 115) C d_Model_guards_115 ?_
            refine v_ialoadK (pc := 116) C rfl rfl ((by rw [i10]; exact nI_add _ _)) (by omega) (by decide) d_Model_guards_116 ?_
            refine cl_Model_134 (pc := 117) C (m_least l hJ τ _ _) ⟨rfl, rfl, by decide, by decide⟩ rfl rfl (Nat.le_of_ble_eq_true rfl) d_Model_guards_117 (fun r σ' hq => ?_)
            rw [hq.1, hq.2]
            refine v_istore_n (pc := 120) C d_Model_guards_120 rfl (by decide) ?_
            refine v_iinc (pc := 121) C d_Model_guards_121 rfl (show _ + Int32.ofInt 1 = _ + 1 from rfl) (by decide) ?_
            refine v_goto (pc := 124) (tgt := 66) C d_Model_guards_124 (by decide) ?_
            rw [nI_1 i]
            refine ih (i + 1) (by omega) _ ?_
            unfold gGin
            rw [if_pos ⟨h85, Int32.not_lt.mp h101⟩, hx]
  have mid : ∀ pp : Nat, pp < 10 → ∀ sz : Nat, sz ≤ 10 → ∀ τ0 : ty_St, τ0 23 0 pp = nI sz → ty_V cnM p l e (rmL 1) s m args below meth c D ad cA (ty_Gd cnM ad s) 5 (MQ below (ty_Q cnM D ad cA (fun r σ' => r = none ∧ σ' = gGs σ 10) (ty_A cnM ad)) args s 0 0 (ty_A cnM ad)) (gGp τ0 pp sz) [some (.inr (20, 0)), some (.inl (nI pp)), some (.inl (nI sz)), none, none] 145 [] → ∀ k i, i + k = sz → ∀ τ : ty_St, τ = gGp τ0 pp i → ty_V cnM p l e (rmL 1) s m args below meth c D ad cA (ty_Gd cnM ad s) 5 (MQ below (ty_Q cnM D ad cA (fun r σ' => r = none ∧ σ' = gGs σ 10) (ty_A cnM ad)) args s 0 0 (ty_A cnM ad)) τ [some (.inr (20, 0)), some (.inl (nI pp)), some (.inl (nI i)), none, none] 10 [] := by
    intro pp hpp sz hsz10 τ0 hsz cont k
    induction k with
    | zero =>
      intro i hi τ hτ
      have hb := (show τ 23 0 pp = nI sz by rw [hτ, gGp_a (by decide)]; exact hsz)
      refine v_iload_n (pc := 10) C d_Model_guards_10 rfl rfl ?_
      refine v_aload_n (pc := 11) C d_Model_guards_11 rfl rfl ?_
      refine gf_Model_20 (pc := 12) C d_Model_guards_12 ?_
      refine v_iload_n (pc := 15) C d_Model_guards_15 rfl rfl ?_
      refine v_ialoadK (pc := 16) C rfl rfl (rfl) (hpp) (by decide) d_Model_guards_16 ?_
      refine v_icmp_ge (pc := 17) (tgt := 145) C d_Model_guards_17 (by decide) (fun h17 => ?_) (fun h17 => ?_)
      · rw [hτ, show i = sz by omega]
        exact cont
      · exact absurd (by rw [hb]; exact nI_le (by omega) (by omega)) h17
    | succ k ih =>
      intro i hi τ hτ
      have hb := (show τ 23 0 pp = nI sz by rw [hτ, gGp_a (by decide)]; exact hsz)
      refine v_iload_n (pc := 10) C d_Model_guards_10 rfl rfl ?_
      refine v_aload_n (pc := 11) C d_Model_guards_11 rfl rfl ?_
      refine gf_Model_20 (pc := 12) C d_Model_guards_12 ?_
      refine v_iload_n (pc := 15) C d_Model_guards_15 rfl rfl ?_
      refine v_ialoadK (pc := 16) C rfl rfl (rfl) (hpp) (by decide) d_Model_guards_16 ?_
      refine v_icmp_ge (pc := 17) (tgt := 145) C d_Model_guards_17 (by decide) (fun h17 => ?_) (fun h17 => ?_)
      · exact absurd h17 (by rw [hb]; exact nI_ge (by omega) (by omega))
      · refine v_iload_n (pc := 20) C d_Model_guards_20 rfl rfl ?_
        refine v_aload_n (pc := 21) C d_Model_guards_21 rfl rfl ?_
        refine gf_Model_17 (pc := 22) C d_Model_guards_22 ?_
        refine v_bipush (pc := 25) (v := 10) C d_Model_guards_25 (by decide) ?_
        refine v_iload_n (pc := 27) C d_Model_guards_27 rfl rfl ?_
        refine v_imul (pc := 28) C d_Model_guards_28 ?_
        refine v_iload_n (pc := 29) C d_Model_guards_29 rfl rfl ?_
        refine v_iadd (pc := 30) C d_Model_guards_30 ?_
        refine v_ialoadK (pc := 31) C rfl rfl ((by rw [i10]; exact nI_add _ _)) (by omega) (by decide) d_Model_guards_31 ?_
        refine v_iadd (pc := 32) C d_Model_guards_32 ?_
        refine v_aload_n (pc := 33) C d_Model_guards_33 rfl rfl ?_
        refine gf_Model_20 (pc := 34) C d_Model_guards_34 ?_
        refine v_iload_n (pc := 37) C d_Model_guards_37 rfl rfl ?_
        refine v_ialoadK (pc := 38) C rfl rfl (rfl) (hpp) (by decide) d_Model_guards_38 ?_
        refine v_iconst (pc := 39) (v := 1) C d_Model_guards_39 (by decide) ?_
        refine v_isub (pc := 40) C d_Model_guards_40 ?_
        refine cl_Model_134 (pc := 41) C (m_least l hJ τ _ _) ⟨rfl, rfl, by decide, by decide⟩ rfl rfl (Nat.le_of_ble_eq_true rfl) d_Model_guards_41 (fun r σ' hq => ?_)
        rw [hq.1, hq.2]
        refine v_istore_n (pc := 44) C d_Model_guards_44 rfl (by decide) ?_
        refine v_aload_n (pc := 45) C d_Model_guards_45 rfl rfl ?_
        refine gf_Model_13 (pc := 46) C d_Model_guards_46 ?_
        refine v_bipush (pc := 49) (v := 10) C d_Model_guards_49 (by decide) ?_
        refine v_iload_n (pc := 51) C d_Model_guards_51 rfl rfl ?_
        refine v_imul (pc := 52) C d_Model_guards_52 ?_
        refine v_iload_n (pc := 53) C d_Model_guards_53 rfl rfl ?_
        refine v_iadd (pc := 54) C d_Model_guards_54 ?_
        refine v_ialoadK (pc := 55) C rfl rfl ((by rw [i10]; exact nI_add _ _)) (by omega) (by decide) d_Model_guards_55 ?_
        refine v_iconst (pc := 56) (v := 4) C d_Model_guards_56 (by decide) ?_
        refine v_icmp_eq (pc := 57) (tgt := 63) C d_Model_guards_57 (by decide) (fun h57 => ?_) (fun h57 => ?_)
        · refine v_iconst (pc := 63) (v := 0) C d_Model_guards_63 (by decide) ?_
          refine v_istore (pc := 64) C d_Model_guards_64 (by decide) ?_
          refine inner pp i hpp (by omega) τ _ (fun x y => ?_) i 0 (by omega) _ rfl
          refine v_iinc (pc := 139) C d_Model_guards_139 rfl (show _ + Int32.ofInt 1 = _ + 1 from rfl) (by decide) ?_
          refine v_goto (pc := 142) (tgt := 10) C d_Model_guards_142 (by decide) ?_
          refine v_forget C 3 ?_
          refine v_forget C 4 ?_
          rw [nI_1 i]
          refine ih (i + 1) (by omega) _ ?_
          show _ = gG1 (gGp τ0 pp i) pp i
          rw [← hτ]
          unfold gG1
          rw [if_pos h57]
          rfl
        · refine v_goto (pc := 60) (tgt := 139) C d_Model_guards_60 (by decide) ?_
          refine v_iinc (pc := 139) C d_Model_guards_139 rfl (show _ + Int32.ofInt 1 = _ + 1 from rfl) (by decide) ?_
          refine v_goto (pc := 142) (tgt := 10) C d_Model_guards_142 (by decide) ?_
          refine v_forget C 3 ?_
          refine v_forget C 4 ?_
          rw [nI_1 i]
          refine ih (i + 1) (by omega) _ ?_
          show _ = gG1 (gGp τ0 pp i) pp i
          rw [← hτ]
          unfold gG1
          rw [if_neg h57]
  have outer : ∀ k i, i + k = 10 → ∀ τ : ty_St, τ = gGs σ i → ty_V cnM p l e (rmL 1) s m args below meth c D ad cA (ty_Gd cnM ad s) 5 (MQ below (ty_Q cnM D ad cA (fun r σ' => r = none ∧ σ' = gGs σ 10) (ty_A cnM ad)) args s 0 0 (ty_A cnM ad)) τ [some (.inr (20, 0)), some (.inl (nI i)), none, none, none] 2 [] := by
    intro  k
    induction k with
    | zero =>
      intro i hi τ hτ
      have hb := (show (10 : Int32) = nI 10 from rfl)
      refine v_iload_n (pc := 2) C d_Model_guards_2 rfl rfl ?_
      refine v_bipush (pc := 3) (v := 10) C d_Model_guards_3 (by decide) ?_
      refine v_icmp_ge (pc := 5) (tgt := 151) C d_Model_guards_5 (by decide) (fun h5 => ?_) (fun h5 => ?_)
      · exact v_return (pc := 151) C hr ⟨rfl, by rw [hτ, show i = 10 by omega]⟩ d_Model_guards_151
      · exact absurd (by rw [hb]; exact nI_le (by omega) (by omega)) h5
    | succ k ih =>
      intro i hi τ hτ
      have hb := (show (10 : Int32) = nI 10 from rfl)
      obtain ⟨sz, hsz10, hsz⟩ := hz i (by omega)
      have hn : nn (σ 23 0 i) = sz := by rw [hsz]; exact nI_clamp (by omega)
      refine v_iload_n (pc := 2) C d_Model_guards_2 rfl rfl ?_
      refine v_bipush (pc := 3) (v := 10) C d_Model_guards_3 (by decide) ?_
      refine v_icmp_ge (pc := 5) (tgt := 151) C d_Model_guards_5 (by decide) (fun h5 => ?_) (fun h5 => ?_)
      · exact absurd h5 (by rw [hb]; exact nI_ge (by omega) (by omega))
      · refine v_iconst (pc := 8) (v := 0) C d_Model_guards_8 (by decide) ?_
        refine v_istore_n (pc := 9) C d_Model_guards_9 rfl (by decide) ?_
        refine mid i (by omega) sz hsz10 τ (by rw [hτ, gGs_a (by decide)]; exact hsz) ?_ sz 0 (by omega) τ rfl
        refine v_iinc (pc := 145) C d_Model_guards_145 rfl (show _ + Int32.ofInt 1 = _ + 1 from rfl) (by decide) ?_
        refine v_goto (pc := 148) (tgt := 2) C d_Model_guards_148 (by decide) ?_
        refine v_forget C 2 ?_
        rw [nI_1 i]
        refine ih (i + 1) (by omega) _ ?_
        show _ = gGp (gGs σ i) i (nn (σ 23 0 i))
        rw [hn, ← hτ]
  refine v_iconst (pc := 0) (v := 0) C d_Model_guards_0 (by decide) ?_
  refine v_istore_n (pc := 1) C d_Model_guards_1 rfl (by decide) ?_
  exact outer 10 0 (by omega) σ rfl
theorem gMarks_a {σ : ty_St} {n a : Nat} (h : ¬ a = 45) : ∀ k, (gMarks σ n k) a = σ a
  | 0 => rfl
  | k + 1 => by
    unfold gMarks
    split
    · rw [up_a h]; exact gMarks_a h k
    · exact gMarks_a h k
set_option maxRecDepth 100000 in
set_option maxHeartbeats 4000000 in
theorem m_acts (l : Launch) {D : va_G} {ad : Nat → Nat → Nat} {cA : Nat → ClassId} (hJ : ty_J cnM ad) (σ : ty_St) (sc : Nat) (hsc : sc ≤ 63) (hsc1 : σ 20 0 8 = nI sc) (hs0 : ¬ σ 20 0 5 < 0) (hn0 : ¬ σ 20 0 4 < 0) (h : Nat) (hh : h < 64) (ht0 : vp_in (σ 39 0 h) 12) (c0 : Nat) (hc0 : c0 < 10) (hc1 : σ 41 0 h = nI c0) (z : Nat) (hz : z < 10) (hat0 : σ 42 0 h = nI z) (y : Int32) (k0 : Nat) (hk0 : k0 < 100) (hy : y = nI k0) : ty_M l y_Model_acts (Cond.code y_Model_acts b_Model_acts 5 none :: ty_w) (rmL 4) cnM D ad cA [.inr (20, 0), .inl (nI h), .inl y] σ (fun r σ' => r = none ∧ σ' = gActs σ h k0) := by
  refine ty_M.of rfl hJ layM (ty_oks.cons (show (0 : Nat) < cnM 20 by decide) (ty_oks.cons trivial (ty_oks.cons trivial ty_oks.nil))) (Nat.le_of_ble_eq_true rfl) ?_
  intro p e s m args below meth c C hr hnm
  subst hy
  obtain ⟨τ, hτ⟩ : ∃ τ : ty_St, τ = (ty_up σ 42 0 h (σ 42 0 h + 1)) := ⟨_, rfl⟩
  have hs : ¬ τ 20 0 5 < 0 := by rw [hτ]; exact hs0
  have hn : ¬ τ 20 0 4 < 0 := by rw [hτ]; exact hn0
  have ht : vp_in (τ 39 0 h) 12 := by rw [hτ]; exact ht0
  have hc : τ 41 0 h = nI c0 := by rw [hτ]; exact hc1
  have hat : τ 42 0 h = nI (z + 1) := by rw [hτ, up_ss, hat0, nI_1]
  have hsc2 : τ 20 0 8 = nI sc := by rw [hτ]; exact hsc1
  have hns : nn (τ 20 0 8) = sc := by rw [hsc2]; exact nI_clamp (by omega)
  have hx39 : τ 39 0 h = nI (nn (τ 39 0 h)) := by obtain ⟨j, hj, e⟩ := vp_in_of ht (by decide); rw [e, show nn (nI j) = j from nI_clamp (by omega)]
  have marks : ∀ (op a : Int32), gActs σ h k0 = gAct τ h op a → op = 11 → ∀ k i, i + k = sc → ∀ υ : ty_St, υ = gMarks τ h i → ty_V cnM p l e (rmL 4) s m args below meth c D ad cA (ty_Gd cnM ad s) 5 (MQ below (ty_Q cnM D ad cA (fun r σ' => r = none ∧ σ' = gActs σ h k0) (ty_A cnM ad)) args s 0 0 (ty_A cnM ad)) υ [some (.inr (20, 0)), some (.inl (nI h)), some (.inl (nI k0)), some (.inl a), some (.inl (nI i))] 235 [] := by
    intro op a hk e11 k
    induction k with
    | zero =>
      intro i hi υ hυ
      have hb := (show υ 20 0 8 = nI sc by rw [hυ, gMarks_a (by decide)]; exact hsc2)
      refine v_iload (pc := 235) C d_Model_acts_235 rfl ?_
      refine v_aload_n (pc := 237) C d_Model_acts_237 rfl rfl ?_
      refine gf_Model_131 (pc := 238) C d_Model_acts_238 ?_
      refine v_icmp_ge (pc := 241) (tgt := 280) C d_Model_acts_241 (by decide) (fun h241 => ?_) (fun h241 => ?_)
      · refine v_goto (pc := 280) (tgt := 283) C d_Model_acts_280 (by decide) ?_
        exact v_return (pc := 283) C hr ⟨rfl, by rw [hk, hυ, show i = sc by omega, e11]; simp [gAct, hns]⟩ d_Model_acts_283
      · exact absurd (by rw [hb]; exact nI_le (by omega) (by omega)) h241
    | succ k ih =>
      intro i hi υ hυ
      have hb := (show υ 20 0 8 = nI sc by rw [hυ, gMarks_a (by decide)]; exact hsc2)
      refine v_iload (pc := 235) C d_Model_acts_235 rfl ?_
      refine v_aload_n (pc := 237) C d_Model_acts_237 rfl rfl ?_
      refine gf_Model_131 (pc := 238) C d_Model_acts_238 ?_
      refine v_icmp_ge (pc := 241) (tgt := 280) C d_Model_acts_241 (by decide) (fun h241 => ?_) (fun h241 => ?_)
      · exact absurd h241 (by rw [hb]; exact nI_ge (by omega) (by omega))
      · refine v_aload_n (pc := 244) C d_Model_acts_244 rfl rfl ?_
        refine gf_Model_72 (pc := 245) C d_Model_acts_245 ?_
        refine v_iload (pc := 248) C d_Model_acts_248 rfl ?_
        refine v_ialoadK (pc := 250) C rfl rfl (rfl) (by omega) (by decide) d_Model_acts_250 ?_
        refine v_iload_n (pc := 251) C d_Model_acts_251 rfl rfl ?_
        refine v_icmp_ne (pc := 252) (tgt := 274) C d_Model_acts_252 (by decide) (fun h252 => ?_) (fun h252 => ?_)
        · refine v_iinc (pc := 274) C d_Model_acts_274 rfl (show _ + Int32.ofInt 1 = _ + 1 from rfl) (by decide) ?_
          refine v_goto (pc := 277) (tgt := 235) C d_Model_acts_277 (by decide) ?_
          rw [nI_1 i]
          refine ih (i + 1) (by omega) _ ?_
          unfold gMarks
          rw [← hυ]
          rw [if_neg (fun q => h252 q.1)]
        · refine v_aload_n (pc := 255) C d_Model_acts_255 rfl rfl ?_
          refine gf_Model_81 (pc := 256) C d_Model_acts_256 ?_
          refine v_iload (pc := 259) C d_Model_acts_259 rfl ?_
          refine v_ialoadK (pc := 261) C rfl rfl (rfl) (by omega) (by decide) d_Model_acts_261 ?_
          refine v_iconst (pc := 262) (v := 5) C d_Model_acts_262 (by decide) ?_
          refine v_icmp_eq (pc := 263) (tgt := 274) C d_Model_acts_263 (by decide) (fun h263 => ?_) (fun h263 => ?_)
          · refine v_iinc (pc := 274) C d_Model_acts_274 rfl (show _ + Int32.ofInt 1 = _ + 1 from rfl) (by decide) ?_
            refine v_goto (pc := 277) (tgt := 235) C d_Model_acts_277 (by decide) ?_
            rw [nI_1 i]
            refine ih (i + 1) (by omega) _ ?_
            unfold gMarks
            rw [← hυ]
            rw [if_neg (fun q => q.2 h263)]
          · refine v_aload_n (pc := 266) C d_Model_acts_266 rfl rfl ?_
            refine gf_Model_87 (pc := 267) C d_Model_acts_267 ?_
            refine v_iload (pc := 270) C d_Model_acts_270 rfl ?_
            refine v_iconst (pc := 272) (v := 1) C d_Model_acts_272 (by decide) ?_
            refine v_bastoreK (pc := 273) C rfl rfl (rfl) (by omega) (by decide) rfl d_Model_acts_273 ?_
            refine v_iinc (pc := 274) C d_Model_acts_274 rfl (show _ + Int32.ofInt 1 = _ + 1 from rfl) (by decide) ?_
            refine v_goto (pc := 277) (tgt := 235) C d_Model_acts_277 (by decide) ?_
            rw [nI_1 i]
            refine ih (i + 1) (by omega) _ ?_
            unfold gMarks
            rw [← hυ]
            rw [if_pos ⟨h252, h263⟩]
  have rest : ∀ op a : Int32, gActs σ h k0 = gAct τ h op a → ty_V cnM p l e (rmL 4) s m args below meth c D ad cA (ty_Gd cnM ad s) 5 (MQ below (ty_Q cnM D ad cA (fun r σ' => r = none ∧ σ' = gActs σ h k0) (ty_A cnM ad)) args s 0 0 (ty_A cnM ad)) τ [some (.inr (20, 0)), some (.inl (nI h)), some (.inl (nI k0)), some (.inl a), none] 23 [.inl op] := by
    intro op a hk
    by_cases e0 : op = 0
    · subst e0
      refine v_tabIn (pc := 23) (off := 61) (tgt := 84) C d_Model_acts_23 (by decide) (by decide) (by decide) (by decide) ?_
      refine v_aload_n (pc := 84) C d_Model_acts_84 rfl rfl ?_
      refine v_iload_n (pc := 85) C d_Model_acts_85 rfl rfl ?_
      refine v_iconst (pc := 86) (v := 1) C d_Model_acts_86 (by decide) ?_
      refine v_iload_n (pc := 87) C d_Model_acts_87 rfl rfl ?_
      refine cl_Model_153 (pc := 88) C (m_waits l hJ τ hs h hh ht c0 hc0 hc z hz hat _ _) ⟨rfl, rfl, by decide, by decide⟩ rfl rfl (Nat.le_of_ble_eq_true rfl) d_Model_acts_88 (fun r σ' hq => ?_)
      rw [hq.1, hq.2]
      refine v_goto (pc := 91) (tgt := 283) C d_Model_acts_91 (by decide) ?_
      exact v_return (pc := 283) C hr ⟨rfl, by rw [hk]; simp [gAct]⟩ d_Model_acts_283
    by_cases e1 : op = 1
    · subst e1
      refine v_tabIn (pc := 23) (off := 71) (tgt := 94) C d_Model_acts_23 (by decide) (by decide) (by decide) (by decide) ?_
      refine v_aload_n (pc := 94) C d_Model_acts_94 rfl rfl ?_
      refine v_iload_n (pc := 95) C d_Model_acts_95 rfl rfl ?_
      refine v_iconst (pc := 96) (v := 2) C d_Model_acts_96 (by decide) ?_
      refine v_iload_n (pc := 97) C d_Model_acts_97 rfl rfl ?_
      refine cl_Model_153 (pc := 98) C (m_waits l hJ τ hs h hh ht c0 hc0 hc z hz hat _ _) ⟨rfl, rfl, by decide, by decide⟩ rfl rfl (Nat.le_of_ble_eq_true rfl) d_Model_acts_98 (fun r σ' hq => ?_)
      rw [hq.1, hq.2]
      refine v_goto (pc := 101) (tgt := 283) C d_Model_acts_101 (by decide) ?_
      exact v_return (pc := 283) C hr ⟨rfl, by rw [hk]; simp [gAct]⟩ d_Model_acts_283
    by_cases e2 : op = 2
    · subst e2
      refine v_tabIn (pc := 23) (off := 81) (tgt := 104) C d_Model_acts_23 (by decide) (by decide) (by decide) (by decide) ?_
      refine v_aload_n (pc := 104) C d_Model_acts_104 rfl rfl ?_
      refine v_iload_n (pc := 105) C d_Model_acts_105 rfl rfl ?_
      refine v_iconst (pc := 106) (v := 3) C d_Model_acts_106 (by decide) ?_
      refine v_iconst (pc := 107) (v := 0) C d_Model_acts_107 (by decide) ?_
      refine cl_Model_153 (pc := 108) C (m_waits l hJ τ hs h hh ht c0 hc0 hc z hz hat _ _) ⟨rfl, rfl, by decide, by decide⟩ rfl rfl (Nat.le_of_ble_eq_true rfl) d_Model_acts_108 (fun r σ' hq => ?_)
      rw [hq.1, hq.2]
      refine v_goto (pc := 111) (tgt := 283) C d_Model_acts_111 (by decide) ?_
      exact v_return (pc := 283) C hr ⟨rfl, by rw [hk]; simp [gAct]⟩ d_Model_acts_283
    by_cases e3 : op = 3
    · subst e3
      refine v_tabIn (pc := 23) (off := 91) (tgt := 114) C d_Model_acts_23 (by decide) (by decide) (by decide) (by decide) ?_
      refine v_aload_n (pc := 114) C d_Model_acts_114 rfl rfl ?_
      refine v_iload_n (pc := 115) C d_Model_acts_115 rfl rfl ?_
      refine v_iload_n (pc := 116) C d_Model_acts_116 rfl rfl ?_
      refine cl_Model_138 (pc := 117) C (m_ends l hJ τ hs h hh ht a) ⟨rfl, rfl, by decide, by decide⟩ rfl rfl (Nat.le_of_ble_eq_true rfl) d_Model_acts_117 (fun r σ' hq => ?_)
      rw [hq.1, hq.2]
      refine v_goto (pc := 120) (tgt := 283) C d_Model_acts_120 (by decide) ?_
      exact v_return (pc := 283) C hr ⟨rfl, by rw [hk]; simp [gAct]⟩ d_Model_acts_283
    by_cases e5 : op = 5
    · subst e5
      refine v_tabIn (pc := 23) (off := 100) (tgt := 123) C d_Model_acts_23 (by decide) (by decide) (by decide) (by decide) ?_
      refine v_aload_n (pc := 123) C d_Model_acts_123 rfl rfl ?_
      refine gf_Model_131 (pc := 124) C d_Model_acts_124 ?_
      refine v_bipush (pc := 127) (v := 40) C d_Model_acts_127 (by decide) ?_
      refine v_icmp_ge (pc := 129) (tgt := 283) C d_Model_acts_129 (by decide) (fun h129 => ?_) (fun h129 => ?_)
      · exact v_return (pc := 283) C hr ⟨rfl, by rw [hk]; simp [gAct, Int32.not_lt.mpr h129]⟩ d_Model_acts_283
      · refine v_aload_n (pc := 132) C d_Model_acts_132 rfl rfl ?_
        refine v_aload_n (pc := 133) C d_Model_acts_133 rfl rfl ?_
        refine gf_Model_69 (pc := 134) C d_Model_acts_134 ?_
        refine v_iload_n (pc := 137) C d_Model_acts_137 rfl rfl ?_
        refine v_ialoadK (pc := 138) C rfl rfl (rfl) (hh) (by decide) d_Model_acts_138 ?_
        refine v_iload_n (pc := 139) C d_Model_acts_139 rfl rfl ?_
        refine v_iload_n (pc := 140) C d_Model_acts_140 rfl rfl ?_
        refine cl_Model_156 (pc := 141) C (m_starts l hJ τ (by rw [hsc2]; exact vp_in_nI (by omega) (by decide)) _ (nn (τ 39 0 h)) (vp_lt ht) hx39 a (nI h)) ⟨rfl, rfl, by decide, by decide⟩ rfl rfl (Nat.le_of_ble_eq_true rfl) d_Model_acts_141 (fun r σ' hq => ?_)
        rw [hq.1, hq.2]
        refine v_pop (pc := 144) C d_Model_acts_144 ?_
        refine v_goto (pc := 145) (tgt := 283) C d_Model_acts_145 (by decide) ?_
        exact v_return (pc := 283) C hr ⟨rfl, by rw [hk]; simp [gAct, Int32.not_le.mp h129]⟩ d_Model_acts_283
    by_cases e6 : op = 6
    · subst e6
      refine v_tabIn (pc := 23) (off := 125) (tgt := 148) C d_Model_acts_23 (by decide) (by decide) (by decide) (by decide) ?_
      refine v_aload_n (pc := 148) C d_Model_acts_148 rfl rfl ?_
      refine v_iload_n (pc := 149) C d_Model_acts_149 rfl rfl ?_
      refine v_iload_n (pc := 150) C d_Model_acts_150 rfl rfl ?_
      refine cl_Model_160 (pc := 151) C (m_says l hJ τ hn h hh a) ⟨rfl, rfl, by decide, by decide⟩ rfl rfl (Nat.le_of_ble_eq_true rfl) d_Model_acts_151 (fun r σ' hq => ?_)
      rw [hq.1, hq.2]
      refine v_goto (pc := 154) (tgt := 283) C d_Model_acts_154 (by decide) ?_
      exact v_return (pc := 283) C hr ⟨rfl, by rw [hk]; simp [gAct]⟩ d_Model_acts_283
    by_cases e7 : op = 7
    · subst e7
      refine v_tabIn (pc := 23) (off := 134) (tgt := 157) C d_Model_acts_23 (by decide) (by decide) (by decide) (by decide) ?_
      refine v_aload_n (pc := 157) C d_Model_acts_157 rfl rfl ?_
      refine gf_Model_87 (pc := 158) C d_Model_acts_158 ?_
      refine v_iload_n (pc := 161) C d_Model_acts_161 rfl rfl ?_
      refine v_baloadK (pc := 162) C rfl rfl (rfl) (hh) (by decide) d_Model_acts_162 ?_
      refine v_if_ne (pc := 163) (tgt := 174) C d_Model_acts_163 (by decide) (fun h163 => ?_) (fun h163 => ?_)
      · refine v_aload_n (pc := 174) C d_Model_acts_174 rfl rfl ?_
        refine v_iload_n (pc := 175) C d_Model_acts_175 rfl rfl ?_
        refine v_iconst (pc := 176) (v := 4) C d_Model_acts_176 (by decide) ?_
        refine v_iconst (pc := 177) (v := 0) C d_Model_acts_177 (by decide) ?_
        refine cl_Model_153 (pc := 178) C (m_waits l hJ τ hs h hh ht c0 hc0 hc z hz hat _ _) ⟨rfl, rfl, by decide, by decide⟩ rfl rfl (Nat.le_of_ble_eq_true rfl) d_Model_acts_178 (fun r σ' hq => ?_)
        rw [hq.1, hq.2]
        refine v_goto (pc := 181) (tgt := 283) C d_Model_acts_181 (by decide) ?_
        exact v_return (pc := 283) C hr ⟨rfl, by rw [hk]; simp [gAct, h163]⟩ d_Model_acts_283
      · refine v_aload_n (pc := 166) C d_Model_acts_166 rfl rfl ?_
        refine v_iload_n (pc := 167) C d_Model_acts_167 rfl rfl ?_
        refine cl_Model_143 (pc := 168) C (m_joined l hJ τ sc (by omega) hsc2 h) ⟨rfl, rfl, by decide, by decide⟩ rfl rfl (Nat.le_of_ble_eq_true rfl) d_Model_acts_168 (fun r σ' hq => ?_)
        rw [hq.1, hq.2]
        refine v_if_ne (pc := 171) (tgt := 283) C d_Model_acts_171 (by decide) (fun h171 => ?_) (fun h171 => ?_)
        · exact v_return (pc := 283) C hr ⟨rfl, by rw [hk]; simp [gAct, h163, hns]; intro e; rw [e] at h171; exact absurd rfl h171⟩ d_Model_acts_283
        · refine v_aload_n (pc := 174) C d_Model_acts_174 rfl rfl ?_
          refine v_iload_n (pc := 175) C d_Model_acts_175 rfl rfl ?_
          refine v_iconst (pc := 176) (v := 4) C d_Model_acts_176 (by decide) ?_
          refine v_iconst (pc := 177) (v := 0) C d_Model_acts_177 (by decide) ?_
          refine cl_Model_153 (pc := 178) C (m_waits l hJ τ hs h hh ht c0 hc0 hc z hz hat _ _) ⟨rfl, rfl, by decide, by decide⟩ rfl rfl (Nat.le_of_ble_eq_true rfl) d_Model_acts_178 (fun r σ' hq => ?_)
          rw [hq.1, hq.2]
          refine v_goto (pc := 181) (tgt := 283) C d_Model_acts_181 (by decide) ?_
          exact v_return (pc := 283) C hr ⟨rfl, by rw [hk]; simp [gAct, h163, hns]; intro e; rw [e] at h171; exact absurd h171 (by decide)⟩ d_Model_acts_283
    by_cases e8 : op = 8
    · subst e8
      refine v_tabIn (pc := 23) (off := 161) (tgt := 184) C d_Model_acts_23 (by decide) (by decide) (by decide) (by decide) ?_
      refine v_aload_n (pc := 184) C d_Model_acts_184 rfl rfl ?_
      refine v_iload_n (pc := 185) C d_Model_acts_185 rfl rfl ?_
      refine v_aload_n (pc := 186) C d_Model_acts_186 rfl rfl ?_
      refine gf_Model_87 (pc := 187) C d_Model_acts_187 ?_
      refine v_iload_n (pc := 190) C d_Model_acts_190 rfl rfl ?_
      refine v_baloadK (pc := 191) C rfl rfl (rfl) (hh) (by decide) d_Model_acts_191 ?_
      refine v_if_eq (pc := 192) (tgt := 199) C d_Model_acts_192 (by decide) (fun h192 => ?_) (fun h192 => ?_)
      · refine v_iconst (pc := 199) (v := 0) C d_Model_acts_199 (by decide) ?_
        refine cl_Model_160 (pc := 200) C (m_says l hJ τ hn h hh _) ⟨rfl, rfl, by decide, by decide⟩ rfl rfl (Nat.le_of_ble_eq_true rfl) d_Model_acts_200 (fun r σ' hq => ?_)
        rw [hq.1, hq.2]
        refine v_aload_n (pc := 203) C d_Model_acts_203 rfl rfl ?_
        refine gf_Model_87 (pc := 204) C d_Model_acts_204 ?_
        refine v_iload_n (pc := 207) C d_Model_acts_207 rfl rfl ?_
        refine v_iconst (pc := 208) (v := 0) C d_Model_acts_208 (by decide) ?_
        refine v_bastoreK (pc := 209) C rfl rfl (rfl) (hh) (by decide) rfl d_Model_acts_209 ?_
        refine v_goto (pc := 210) (tgt := 283) C d_Model_acts_210 (by decide) ?_
        exact v_return (pc := 283) C hr ⟨rfl, by rw [hk]; simp [gAct, h192]⟩ d_Model_acts_283
      · refine v_iconst (pc := 195) (v := 1) C d_Model_acts_195 (by decide) ?_
        refine v_goto (pc := 196) (tgt := 200) C d_Model_acts_196 (by decide) ?_
        refine cl_Model_160 (pc := 200) C (m_says l hJ τ hn h hh _) ⟨rfl, rfl, by decide, by decide⟩ rfl rfl (Nat.le_of_ble_eq_true rfl) d_Model_acts_200 (fun r σ' hq => ?_)
        rw [hq.1, hq.2]
        refine v_aload_n (pc := 203) C d_Model_acts_203 rfl rfl ?_
        refine gf_Model_87 (pc := 204) C d_Model_acts_204 ?_
        refine v_iload_n (pc := 207) C d_Model_acts_207 rfl rfl ?_
        refine v_iconst (pc := 208) (v := 0) C d_Model_acts_208 (by decide) ?_
        refine v_bastoreK (pc := 209) C rfl rfl (rfl) (hh) (by decide) rfl d_Model_acts_209 ?_
        refine v_goto (pc := 210) (tgt := 283) C d_Model_acts_210 (by decide) ?_
        exact v_return (pc := 283) C hr ⟨rfl, by rw [hk]; simp [gAct, h192]⟩ d_Model_acts_283
    by_cases e9 : op = 9
    · subst e9
      refine v_tabIn (pc := 23) (off := 190) (tgt := 213) C d_Model_acts_23 (by decide) (by decide) (by decide) (by decide) ?_
      refine v_aload_n (pc := 213) C d_Model_acts_213 rfl rfl ?_
      refine gf_Model_90 (pc := 214) C d_Model_acts_214 ?_
      refine v_iload_n (pc := 217) C d_Model_acts_217 rfl rfl ?_
      refine v_iconst (pc := 218) (v := 1) C d_Model_acts_218 (by decide) ?_
      refine v_bastoreK (pc := 219) C rfl rfl (rfl) (hh) (by decide) rfl d_Model_acts_219 ?_
      refine v_goto (pc := 220) (tgt := 283) C d_Model_acts_220 (by decide) ?_
      exact v_return (pc := 283) C hr ⟨rfl, by rw [hk]; simp [gAct]⟩ d_Model_acts_283
    by_cases e10 : op = 10
    · subst e10
      refine v_tabIn (pc := 23) (off := 200) (tgt := 223) C d_Model_acts_23 (by decide) (by decide) (by decide) (by decide) ?_
      refine v_aload_n (pc := 223) C d_Model_acts_223 rfl rfl ?_
      refine v_iload_n (pc := 224) C d_Model_acts_224 rfl rfl ?_
      refine v_iconst (pc := 225) (v := (-1)) C d_Model_acts_225 (by decide) ?_
      refine cl_Model_138 (pc := 226) C (m_ends l hJ τ hs h hh ht (-1)) ⟨rfl, rfl, by decide, by decide⟩ rfl rfl (Nat.le_of_ble_eq_true rfl) d_Model_acts_226 (fun r σ' hq => ?_)
      rw [hq.1, hq.2]
      refine v_goto (pc := 229) (tgt := 283) C d_Model_acts_229 (by decide) ?_
      exact v_return (pc := 283) C hr ⟨rfl, by rw [hk]; simp [gAct]⟩ d_Model_acts_283
    by_cases e11 : op = 11
    · subst e11
      refine v_tabIn (pc := 23) (off := 209) (tgt := 232) C d_Model_acts_23 (by decide) (by decide) (by decide) (by decide) ?_
      refine v_iconst (pc := 232) (v := 0) C d_Model_acts_232 (by decide) ?_
      refine v_istore (pc := 233) C d_Model_acts_233 (by decide) ?_
      exact marks 11 a hk rfl sc 0 (by omega) τ rfl
    have f0 : ¬ op.toInt = 0 := lv_neT e0 (by decide)
    have f1 : ¬ op.toInt = 1 := lv_neT e1 (by decide)
    have f2 : ¬ op.toInt = 2 := lv_neT e2 (by decide)
    have f3 : ¬ op.toInt = 3 := lv_neT e3 (by decide)
    have f5 : ¬ op.toInt = 5 := lv_neT e5 (by decide)
    have f6 : ¬ op.toInt = 6 := lv_neT e6 (by decide)
    have f7 : ¬ op.toInt = 7 := lv_neT e7 (by decide)
    have f8 : ¬ op.toInt = 8 := lv_neT e8 (by decide)
    have f9 : ¬ op.toInt = 9 := lv_neT e9 (by decide)
    have f10 : ¬ op.toInt = 10 := lv_neT e10 (by decide)
    have f11 : ¬ op.toInt = 11 := lv_neT e11 (by decide)
    rcases (show op.toInt < 0 ∨ 11 < op.toInt ∨ op.toInt = 4 by omega) with h | h | h
    · exact v_tabOut (pc := 23) (tgt := 283) C d_Model_acts_23 (Or.inl h) (by decide) (v_return (pc := 283) C hr ⟨rfl, by rw [hk]; simp [gAct, e0, e1, e2, e3, e5, e6, e7, e8, e9, e10, e11]⟩ d_Model_acts_283)
    · exact v_tabOut (pc := 23) (tgt := 283) C d_Model_acts_23 (Or.inr h) (by decide) (v_return (pc := 283) C hr ⟨rfl, by rw [hk]; simp [gAct, e0, e1, e2, e3, e5, e6, e7, e8, e9, e10, e11]⟩ d_Model_acts_283)
    · exact v_tabIn (pc := 23) (off := 260) (tgt := 283) C d_Model_acts_23 (by omega) (by omega) (by rw [h]; decide) (by decide) (v_return (pc := 283) C hr ⟨rfl, by rw [hk]; simp [gAct, e0, e1, e2, e3, e5, e6, e7, e8, e9, e10, e11]⟩ d_Model_acts_283)
  refine v_aload_n (pc := 0) C d_Model_acts_0 rfl rfl ?_
  refine gf_Model_17 (pc := 1) C d_Model_acts_1 ?_
  refine v_iload_n (pc := 4) C d_Model_acts_4 rfl rfl ?_
  refine v_ialoadK (pc := 5) C rfl rfl (rfl) (hk0) (by decide) d_Model_acts_5 ?_
  refine v_istore_n (pc := 6) C d_Model_acts_6 rfl (by decide) ?_
  refine v_aload_n (pc := 7) C d_Model_acts_7 rfl rfl ?_
  refine gf_Model_78 (pc := 8) C d_Model_acts_8 ?_
  refine v_iload_n (pc := 11) C d_Model_acts_11 rfl rfl ?_
  refine v_dup2 (pc := 12) C d_Model_acts_12 ?_
  refine v_ialoadK (pc := 13) C rfl rfl (rfl) (hh) (by decide) d_Model_acts_13 ?_
  refine v_iconst (pc := 14) (v := 1) C d_Model_acts_14 (by decide) ?_
  refine v_iadd (pc := 15) C d_Model_acts_15 ?_
  refine v_iastoreK (pc := 16) C rfl rfl (rfl) (hh) (by decide) d_Model_acts_16 ?_
  rw [← hτ]
  refine v_aload_n (pc := 17) C d_Model_acts_17 rfl rfl ?_
  refine gf_Model_13 (pc := 18) C d_Model_acts_18 ?_
  refine v_iload_n (pc := 21) C d_Model_acts_21 rfl rfl ?_
  refine v_ialoadK (pc := 22) C rfl rfl (rfl) (hk0) (by decide) d_Model_acts_22 ?_
  exact rest _ _ (by unfold gActs; rw [hτ]; rfl)
end
section
/-- what a step of the thread h asks of the reference's ints -/
def gOK (τ : ty_St) (h : Nat) : Prop :=
  (∃ sc, sc ≤ 63 ∧ τ 20 0 8 = nI sc) ∧ ¬ τ 20 0 5 < 0 ∧ ¬ τ 20 0 4 < 0 ∧ vp_in (τ 39 0 h) 12 ∧ vp_in (τ 41 0 h) 10 ∧ (∃ z, z ≤ 10 ∧ τ 42 0 h = nI z) ∧ (∃ w, w ≤ 10 ∧ τ 23 0 (nn (τ 41 0 h)) = nI w)
/-- the thread's turn goes on at most k steps, and each of them is allowed -/
def gGood (h : Nat) : Nat → ty_St → Prop
  | 0, τ => ¬ τ 43 0 h = 0
  | k + 1, τ => τ 43 0 h = 0 → (gOK τ h ∧ gGood h k (gStep τ h))
theorem vp_nI {x : Int32} {n : Nat} (h : vp_in x n) (hn : n < 2 ^ 31) : x = nI (nn x) := by
  obtain ⟨j, hj, e⟩ := vp_in_of h hn
  rw [e, show nn (nI j) = j from nI_clamp (by omega)]
set_option maxRecDepth 100000 in
set_option maxHeartbeats 4000000 in
theorem m_turn (l : Launch) {D : va_G} {ad : Nat → Nat → Nat} {cA : Nat → ClassId} (hJ : ty_J cnM ad) (σ : ty_St) (h : Nat) (hh : h < 64) (hs : ¬ σ 20 0 5 < 0) (ht : vp_in (σ 39 0 h) 12) (sc : Nat) (hsc : sc ≤ 63) (hsc1 : σ 20 0 8 = nI sc) (hzw : ¬ σ 43 0 h = 0 → ¬ σ 43 0 h = 1 → ¬ σ 45 0 h = 0 → ∃ z, z < 10 ∧ σ 42 0 h = nI (z + 1) ∧ ∃ c0, c0 < 10 ∧ σ 41 0 h = nI c0) (hg : gGood h 12 (gTurn0 σ h)) : ty_M l y_Model_turn (Cond.code y_Model_turn b_Model_turn 3 none :: ty_w) (rmL 5) cnM D ad cA [.inr (20, 0), .inl (nI h)] σ (fun r σ' => r = none ∧ σ' = gTurn σ h) := by
  refine ty_M.of rfl hJ layM (ty_oks.cons (show (0 : Nat) < cnM 20 by decide) (ty_oks.cons trivial ty_oks.nil)) (Nat.le_of_ble_eq_true rfl) ?_
  intro p e s m args below meth c C hr hnm
  have hns : nn (σ 20 0 8) = sc := by rw [hsc1]; exact nI_clamp (by omega)
  have loop : ∀ (k : Nat) (τ : ty_St) (x : Int32), gGood h k τ → gTurn σ h = gLoop h k τ → ty_V cnM p l e (rmL 5) s m args below meth c D ad cA (ty_Gd cnM ad s) 3 (MQ below (ty_Q cnM D ad cA (fun r σ' => r = none ∧ σ' = gTurn σ h) (ty_A cnM ad)) args s 0 0 (ty_A cnM ad)) τ [some (.inr (20, 0)), some (.inl (nI h)), some (.inl x)] 84 [] := by
    intro k
    induction k with
    | zero =>
      intro τ x hg hk
      refine v_aload_n (pc := 84) C d_Model_turn_84 rfl rfl ?_
      refine gf_Model_81 (pc := 85) C d_Model_turn_85 ?_
      refine v_iload_n (pc := 88) C d_Model_turn_88 rfl rfl ?_
      refine v_ialoadK (pc := 89) C rfl rfl (rfl) (hh) (by decide) d_Model_turn_89 ?_
      refine v_if_ne (pc := 90) (tgt := 146) C d_Model_turn_90 (by decide) (fun h90 => ?_) (fun h90 => ?_)
      · exact v_return (pc := 146) C hr ⟨rfl, hk.symm⟩ d_Model_turn_146
      · exact absurd h90 hg
    | succ k ih =>
      intro τ x hg hk
      have hk1 : gLoop h (k + 1) τ = if τ 43 0 h = 0 then gLoop h k (gStep τ h) else τ := rfl
      refine v_aload_n (pc := 84) C d_Model_turn_84 rfl rfl ?_
      refine gf_Model_81 (pc := 85) C d_Model_turn_85 ?_
      refine v_iload_n (pc := 88) C d_Model_turn_88 rfl rfl ?_
      refine v_ialoadK (pc := 89) C rfl rfl (rfl) (hh) (by decide) d_Model_turn_89 ?_
      refine v_if_ne (pc := 90) (tgt := 146) C d_Model_turn_90 (by decide) (fun h90 => ?_) (fun h90 => ?_)
      · exact v_return (pc := 146) C hr ⟨rfl, by rw [hk, hk1, if_neg h90]⟩ d_Model_turn_146
      · obtain ⟨ok, gg⟩ := hg h90
        obtain ⟨⟨sc, hsc, hsc1⟩, hs0, hn0, ht0, hc1, ⟨z, hz, hat⟩, w, hw, hsz⟩ := id ok
        obtain ⟨c0, hc0, hcq⟩ := vp_in_of hc1 (by decide)
        have hcn : nn (τ 41 0 h) = c0 := by rw [hcq]; exact nI_clamp (by omega)
        have hzn : nn (τ 42 0 h) = z := by rw [hat]; exact nI_clamp (by omega)
        refine v_aload_n (pc := 93) C d_Model_turn_93 rfl rfl ?_
        refine gf_Model_78 (pc := 94) C d_Model_turn_94 ?_
        refine v_iload_n (pc := 97) C d_Model_turn_97 rfl rfl ?_
        refine v_ialoadK (pc := 98) C rfl rfl (rfl) (hh) (by decide) d_Model_turn_98 ?_
        refine v_aload_n (pc := 99) C d_Model_turn_99 rfl rfl ?_
        refine gf_Model_20 (pc := 100) C d_Model_turn_100 ?_
        refine v_aload_n (pc := 103) C d_Model_turn_103 rfl rfl ?_
        refine gf_Model_75 (pc := 104) C d_Model_turn_104 ?_
        refine v_iload_n (pc := 107) C d_Model_turn_107 rfl rfl ?_
        refine v_ialoadK (pc := 108) C rfl rfl (rfl) (hh) (by decide) d_Model_turn_108 ?_
        refine v_iaload (pc := 109) C rfl rfl ok.2.2.2.2.1 d_Model_turn_109 ?_
        refine v_icmp_lt (pc := 110) (tgt := 122) C d_Model_turn_110 (by decide) (fun h110 => ?_) (fun h110 => ?_)
        · have hzw : z < w := by
            rw [hat, hsz] at h110
            exact (nI_ltI (by omega) (by omega)).mp h110
          refine v_aload_n (pc := 122) C d_Model_turn_122 rfl rfl ?_
          refine v_iload_n (pc := 123) C d_Model_turn_123 rfl rfl ?_
          refine v_bipush (pc := 124) (v := 10) C d_Model_turn_124 (by decide) ?_
          refine v_aload_n (pc := 126) C d_Model_turn_126 rfl rfl ?_
          refine gf_Model_75 (pc := 127) C d_Model_turn_127 ?_
          refine v_iload_n (pc := 130) C d_Model_turn_130 rfl rfl ?_
          refine v_ialoadK (pc := 131) C rfl rfl (rfl) (hh) (by decide) d_Model_turn_131 ?_
          refine v_imul (pc := 132) C d_Model_turn_132 ?_
          refine v_aload_n (pc := 133) C d_Model_turn_133 rfl rfl ?_
          refine gf_Model_78 (pc := 134) C d_Model_turn_134 ?_
          refine v_iload_n (pc := 137) C d_Model_turn_137 rfl rfl ?_
          refine v_ialoadK (pc := 138) C rfl rfl (rfl) (hh) (by decide) d_Model_turn_138 ?_
          refine v_iadd (pc := 139) C d_Model_turn_139 ?_
          refine cl_Model_147 (pc := 140) C (m_acts l hJ τ sc hsc hsc1 hs0 hn0 h hh ht0 c0 hc0 hcq z (by omega) hat _ (10 * c0 + z) (by omega) (by rw [hcq, i10, hat]; exact nI_add _ _)) ⟨rfl, rfl, by decide, by decide⟩ rfl rfl (Nat.le_of_ble_eq_true rfl) d_Model_turn_140 (fun r σ' hq => ?_)
          rw [hq.1, hq.2]
          refine v_goto (pc := 143) (tgt := 84) C d_Model_turn_143 (by decide) ?_
          refine ih _ _ ?_ ?_
          · rw [show gActs τ h (10 * c0 + z) = gStep τ h by unfold gStep; rw [if_neg (Int32.not_le.mpr h110), hzn, hcn]]; exact gg
          · rw [hk, hk1, if_pos h90]; unfold gStep; rw [if_neg (Int32.not_le.mpr h110), hzn, hcn]
        · refine v_aload_n (pc := 113) C d_Model_turn_113 rfl rfl ?_
          refine v_iload_n (pc := 114) C d_Model_turn_114 rfl rfl ?_
          refine v_iconst (pc := 115) (v := (-1)) C d_Model_turn_115 (by decide) ?_
          refine cl_Model_138 (pc := 116) C (m_ends l hJ τ hs0 h hh ht0 (-1)) ⟨rfl, rfl, by decide, by decide⟩ rfl rfl (Nat.le_of_ble_eq_true rfl) d_Model_turn_116 (fun r σ' hq => ?_)
          rw [hq.1, hq.2]
          refine v_goto (pc := 119) (tgt := 84) C d_Model_turn_119 (by decide) ?_
          refine ih _ _ ?_ ?_
          · rw [show gEnds τ h (-1) = gStep τ h by unfold gStep; rw [if_pos (Int32.not_lt.mp h110)]]; exact gg
          · rw [hk, hk1, if_pos h90]; unfold gStep; rw [if_pos (Int32.not_lt.mp h110)]
  refine v_aload_n (pc := 0) C d_Model_turn_0 rfl rfl ?_
  refine gf_Model_81 (pc := 1) C d_Model_turn_1 ?_
  refine v_iload_n (pc := 4) C d_Model_turn_4 rfl rfl ?_
  refine v_ialoadK (pc := 5) C rfl rfl (rfl) (hh) (by decide) d_Model_turn_5 ?_
  refine v_istore_n (pc := 6) C d_Model_turn_6 rfl (by decide) ?_
  refine v_iload_n (pc := 7) C d_Model_turn_7 rfl rfl ?_
  refine v_if_eq (pc := 8) (tgt := 41) C d_Model_turn_8 (by decide) (fun h8 => ?_) (fun h8 => ?_)
  · refine v_iload_n (pc := 41) C d_Model_turn_41 rfl rfl ?_
    refine v_iconst (pc := 42) (v := 1) C d_Model_turn_42 (by decide) ?_
    refine v_icmp_eq (pc := 43) (tgt := 51) C d_Model_turn_43 (by decide) (fun h43 => ?_) (fun h43 => ?_)
    · refine v_aload_n (pc := 51) C d_Model_turn_51 rfl rfl ?_
      refine gf_Model_117 (pc := 52) C d_Model_turn_52 ?_
      refine v_aload_n (pc := 55) C d_Model_turn_55 rfl rfl ?_
      refine gf_Model_84 (pc := 56) C d_Model_turn_56 ?_
      refine v_iload_n (pc := 59) C d_Model_turn_59 rfl rfl ?_
      refine v_ialoadK (pc := 60) C rfl rfl (rfl) (hh) (by decide) d_Model_turn_60 ?_
      refine v_icmp_ge (pc := 61) (tgt := 77) C d_Model_turn_61 (by decide) (fun h61 => ?_) (fun h61 => ?_)
      · refine v_aload_n (pc := 77) C d_Model_turn_77 rfl rfl ?_
        refine gf_Model_81 (pc := 78) C d_Model_turn_78 ?_
        refine v_iload_n (pc := 81) C d_Model_turn_81 rfl rfl ?_
        refine v_iconst (pc := 82) (v := 0) C d_Model_turn_82 (by decide) ?_
        refine v_iastoreK (pc := 83) C rfl rfl (rfl) (hh) (by decide) d_Model_turn_83 ?_
        have E : gTurn0 σ h = (ty_up σ 43 0 h 0) := by unfold gTurn0; rw [if_neg (fun q => q.1 h8)]; rw [if_pos (Or.inl ⟨Or.inl h43, h61⟩)]
        exact loop 12 (ty_up σ 43 0 h 0) _ (by rw [E] at hg; exact hg) (by unfold gTurn; rw [E])
      · refine v_iload_n (pc := 64) C d_Model_turn_64 rfl rfl ?_
        refine v_iconst (pc := 65) (v := 4) C d_Model_turn_65 (by decide) ?_
        refine v_icmp_ne (pc := 66) (tgt := 84) C d_Model_turn_66 (by decide) (fun h66 => ?_) (fun h66 => ?_)
        · have E : gTurn0 σ h = σ := by unfold gTurn0; rw [if_neg (fun q => q.1 h8)]; rw [if_neg (by intro q; rcases q with ⟨q1, q2⟩ | ⟨q1, q2⟩; exact h61 q2; exact h66 q1)]
          exact loop 12 σ _ (by rw [E] at hg; exact hg) (by unfold gTurn; rw [E])
        · refine v_aload_n (pc := 69) C d_Model_turn_69 rfl rfl ?_
          refine v_iload_n (pc := 70) C d_Model_turn_70 rfl rfl ?_
          refine cl_Model_143 (pc := 71) C (m_joined l hJ σ sc (by omega) hsc1 h) ⟨rfl, rfl, by decide, by decide⟩ rfl rfl (Nat.le_of_ble_eq_true rfl) d_Model_turn_71 (fun r σ' hq => ?_)
          rw [hq.1, hq.2]
          refine v_if_eq (pc := 74) (tgt := 84) C d_Model_turn_74 (by decide) (fun h74 => ?_) (fun h74 => ?_)
          · have E : gTurn0 σ h = σ := by unfold gTurn0; rw [if_neg (fun q => q.1 h8)]; rw [if_neg (by intro q; rcases q with ⟨q1, q2⟩ | ⟨q1, q2⟩; exact h61 q2; rw [hns] at q2; rw [if_pos q2] at h74; exact absurd h74 (by decide))]
            exact loop 12 σ _ (by rw [E] at hg; exact hg) (by unfold gTurn; rw [E])
          · refine v_aload_n (pc := 77) C d_Model_turn_77 rfl rfl ?_
            refine gf_Model_81 (pc := 78) C d_Model_turn_78 ?_
            refine v_iload_n (pc := 81) C d_Model_turn_81 rfl rfl ?_
            refine v_iconst (pc := 82) (v := 0) C d_Model_turn_82 (by decide) ?_
            refine v_iastoreK (pc := 83) C rfl rfl (rfl) (hh) (by decide) d_Model_turn_83 ?_
            have E : gTurn0 σ h = (ty_up σ 43 0 h 0) := by unfold gTurn0; rw [if_neg (fun q => q.1 h8)]; rw [if_pos (Or.inr ⟨h66, by rw [hns]; by_cases e : gJoined σ h sc = true; exact e; exact absurd (if_neg e) h74⟩)]
            exact loop 12 (ty_up σ 43 0 h 0) _ (by rw [E] at hg; exact hg) (by unfold gTurn; rw [E])
    · refine v_iload_n (pc := 46) C d_Model_turn_46 rfl rfl ?_
      refine v_iconst (pc := 47) (v := 2) C d_Model_turn_47 (by decide) ?_
      refine v_icmp_ne (pc := 48) (tgt := 64) C d_Model_turn_48 (by decide) (fun h48 => ?_) (fun h48 => ?_)
      · refine v_iload_n (pc := 64) C d_Model_turn_64 rfl rfl ?_
        refine v_iconst (pc := 65) (v := 4) C d_Model_turn_65 (by decide) ?_
        refine v_icmp_ne (pc := 66) (tgt := 84) C d_Model_turn_66 (by decide) (fun h66 => ?_) (fun h66 => ?_)
        · have E : gTurn0 σ h = σ := by unfold gTurn0; rw [if_neg (fun q => q.1 h8)]; rw [if_neg (by intro q; rcases q with ⟨q1, q2⟩ | ⟨q1, q2⟩; rcases q1 with q1 | q1; exact h43 q1; exact h48 q1; exact h66 q1)]
          exact loop 12 σ _ (by rw [E] at hg; exact hg) (by unfold gTurn; rw [E])
        · refine v_aload_n (pc := 69) C d_Model_turn_69 rfl rfl ?_
          refine v_iload_n (pc := 70) C d_Model_turn_70 rfl rfl ?_
          refine cl_Model_143 (pc := 71) C (m_joined l hJ σ sc (by omega) hsc1 h) ⟨rfl, rfl, by decide, by decide⟩ rfl rfl (Nat.le_of_ble_eq_true rfl) d_Model_turn_71 (fun r σ' hq => ?_)
          rw [hq.1, hq.2]
          refine v_if_eq (pc := 74) (tgt := 84) C d_Model_turn_74 (by decide) (fun h74 => ?_) (fun h74 => ?_)
          · have E : gTurn0 σ h = σ := by unfold gTurn0; rw [if_neg (fun q => q.1 h8)]; rw [if_neg (by intro q; rcases q with ⟨q1, q2⟩ | ⟨q1, q2⟩; rcases q1 with q1 | q1; exact h43 q1; exact h48 q1; rw [hns] at q2; rw [if_pos q2] at h74; exact absurd h74 (by decide))]
            exact loop 12 σ _ (by rw [E] at hg; exact hg) (by unfold gTurn; rw [E])
          · refine v_aload_n (pc := 77) C d_Model_turn_77 rfl rfl ?_
            refine gf_Model_81 (pc := 78) C d_Model_turn_78 ?_
            refine v_iload_n (pc := 81) C d_Model_turn_81 rfl rfl ?_
            refine v_iconst (pc := 82) (v := 0) C d_Model_turn_82 (by decide) ?_
            refine v_iastoreK (pc := 83) C rfl rfl (rfl) (hh) (by decide) d_Model_turn_83 ?_
            have E : gTurn0 σ h = (ty_up σ 43 0 h 0) := by unfold gTurn0; rw [if_neg (fun q => q.1 h8)]; rw [if_pos (Or.inr ⟨h66, by rw [hns]; by_cases e : gJoined σ h sc = true; exact e; exact absurd (if_neg e) h74⟩)]
            exact loop 12 (ty_up σ 43 0 h 0) _ (by rw [E] at hg; exact hg) (by unfold gTurn; rw [E])
      · refine v_aload_n (pc := 51) C d_Model_turn_51 rfl rfl ?_
        refine gf_Model_117 (pc := 52) C d_Model_turn_52 ?_
        refine v_aload_n (pc := 55) C d_Model_turn_55 rfl rfl ?_
        refine gf_Model_84 (pc := 56) C d_Model_turn_56 ?_
        refine v_iload_n (pc := 59) C d_Model_turn_59 rfl rfl ?_
        refine v_ialoadK (pc := 60) C rfl rfl (rfl) (hh) (by decide) d_Model_turn_60 ?_
        refine v_icmp_ge (pc := 61) (tgt := 77) C d_Model_turn_61 (by decide) (fun h61 => ?_) (fun h61 => ?_)
        · refine v_aload_n (pc := 77) C d_Model_turn_77 rfl rfl ?_
          refine gf_Model_81 (pc := 78) C d_Model_turn_78 ?_
          refine v_iload_n (pc := 81) C d_Model_turn_81 rfl rfl ?_
          refine v_iconst (pc := 82) (v := 0) C d_Model_turn_82 (by decide) ?_
          refine v_iastoreK (pc := 83) C rfl rfl (rfl) (hh) (by decide) d_Model_turn_83 ?_
          have E : gTurn0 σ h = (ty_up σ 43 0 h 0) := by unfold gTurn0; rw [if_neg (fun q => q.1 h8)]; rw [if_pos (Or.inl ⟨Or.inr h48, h61⟩)]
          exact loop 12 (ty_up σ 43 0 h 0) _ (by rw [E] at hg; exact hg) (by unfold gTurn; rw [E])
        · refine v_iload_n (pc := 64) C d_Model_turn_64 rfl rfl ?_
          refine v_iconst (pc := 65) (v := 4) C d_Model_turn_65 (by decide) ?_
          refine v_icmp_ne (pc := 66) (tgt := 84) C d_Model_turn_66 (by decide) (fun h66 => ?_) (fun h66 => ?_)
          · have E : gTurn0 σ h = σ := by unfold gTurn0; rw [if_neg (fun q => q.1 h8)]; rw [if_neg (by intro q; rcases q with ⟨q1, q2⟩ | ⟨q1, q2⟩; exact h61 q2; exact h66 q1)]
            exact loop 12 σ _ (by rw [E] at hg; exact hg) (by unfold gTurn; rw [E])
          · refine v_aload_n (pc := 69) C d_Model_turn_69 rfl rfl ?_
            refine v_iload_n (pc := 70) C d_Model_turn_70 rfl rfl ?_
            refine cl_Model_143 (pc := 71) C (m_joined l hJ σ sc (by omega) hsc1 h) ⟨rfl, rfl, by decide, by decide⟩ rfl rfl (Nat.le_of_ble_eq_true rfl) d_Model_turn_71 (fun r σ' hq => ?_)
            rw [hq.1, hq.2]
            refine v_if_eq (pc := 74) (tgt := 84) C d_Model_turn_74 (by decide) (fun h74 => ?_) (fun h74 => ?_)
            · have E : gTurn0 σ h = σ := by unfold gTurn0; rw [if_neg (fun q => q.1 h8)]; rw [if_neg (by intro q; rcases q with ⟨q1, q2⟩ | ⟨q1, q2⟩; exact h61 q2; rw [hns] at q2; rw [if_pos q2] at h74; exact absurd h74 (by decide))]
              exact loop 12 σ _ (by rw [E] at hg; exact hg) (by unfold gTurn; rw [E])
            · refine v_aload_n (pc := 77) C d_Model_turn_77 rfl rfl ?_
              refine gf_Model_81 (pc := 78) C d_Model_turn_78 ?_
              refine v_iload_n (pc := 81) C d_Model_turn_81 rfl rfl ?_
              refine v_iconst (pc := 82) (v := 0) C d_Model_turn_82 (by decide) ?_
              refine v_iastoreK (pc := 83) C rfl rfl (rfl) (hh) (by decide) d_Model_turn_83 ?_
              have E : gTurn0 σ h = (ty_up σ 43 0 h 0) := by unfold gTurn0; rw [if_neg (fun q => q.1 h8)]; rw [if_pos (Or.inr ⟨h66, by rw [hns]; by_cases e : gJoined σ h sc = true; exact e; exact absurd (if_neg e) h74⟩)]
              exact loop 12 (ty_up σ 43 0 h 0) _ (by rw [E] at hg; exact hg) (by unfold gTurn; rw [E])
  · refine v_iload_n (pc := 11) C d_Model_turn_11 rfl rfl ?_
    refine v_iconst (pc := 12) (v := 1) C d_Model_turn_12 (by decide) ?_
    refine v_icmp_eq (pc := 13) (tgt := 41) C d_Model_turn_13 (by decide) (fun h13 => ?_) (fun h13 => ?_)
    · refine v_iload_n (pc := 41) C d_Model_turn_41 rfl rfl ?_
      refine v_iconst (pc := 42) (v := 1) C d_Model_turn_42 (by decide) ?_
      refine v_icmp_eq (pc := 43) (tgt := 51) C d_Model_turn_43 (by decide) (fun h43 => ?_) (fun h43 => ?_)
      · refine v_aload_n (pc := 51) C d_Model_turn_51 rfl rfl ?_
        refine gf_Model_117 (pc := 52) C d_Model_turn_52 ?_
        refine v_aload_n (pc := 55) C d_Model_turn_55 rfl rfl ?_
        refine gf_Model_84 (pc := 56) C d_Model_turn_56 ?_
        refine v_iload_n (pc := 59) C d_Model_turn_59 rfl rfl ?_
        refine v_ialoadK (pc := 60) C rfl rfl (rfl) (hh) (by decide) d_Model_turn_60 ?_
        refine v_icmp_ge (pc := 61) (tgt := 77) C d_Model_turn_61 (by decide) (fun h61 => ?_) (fun h61 => ?_)
        · refine v_aload_n (pc := 77) C d_Model_turn_77 rfl rfl ?_
          refine gf_Model_81 (pc := 78) C d_Model_turn_78 ?_
          refine v_iload_n (pc := 81) C d_Model_turn_81 rfl rfl ?_
          refine v_iconst (pc := 82) (v := 0) C d_Model_turn_82 (by decide) ?_
          refine v_iastoreK (pc := 83) C rfl rfl (rfl) (hh) (by decide) d_Model_turn_83 ?_
          have E : gTurn0 σ h = (ty_up σ 43 0 h 0) := by unfold gTurn0; rw [if_neg (fun q => q.2.1 h13)]; rw [if_pos (Or.inl ⟨Or.inl h43, h61⟩)]
          exact loop 12 (ty_up σ 43 0 h 0) _ (by rw [E] at hg; exact hg) (by unfold gTurn; rw [E])
        · refine v_iload_n (pc := 64) C d_Model_turn_64 rfl rfl ?_
          refine v_iconst (pc := 65) (v := 4) C d_Model_turn_65 (by decide) ?_
          refine v_icmp_ne (pc := 66) (tgt := 84) C d_Model_turn_66 (by decide) (fun h66 => ?_) (fun h66 => ?_)
          · have E : gTurn0 σ h = σ := by unfold gTurn0; rw [if_neg (fun q => q.2.1 h13)]; rw [if_neg (by intro q; rcases q with ⟨q1, q2⟩ | ⟨q1, q2⟩; exact h61 q2; exact h66 q1)]
            exact loop 12 σ _ (by rw [E] at hg; exact hg) (by unfold gTurn; rw [E])
          · refine v_aload_n (pc := 69) C d_Model_turn_69 rfl rfl ?_
            refine v_iload_n (pc := 70) C d_Model_turn_70 rfl rfl ?_
            refine cl_Model_143 (pc := 71) C (m_joined l hJ σ sc (by omega) hsc1 h) ⟨rfl, rfl, by decide, by decide⟩ rfl rfl (Nat.le_of_ble_eq_true rfl) d_Model_turn_71 (fun r σ' hq => ?_)
            rw [hq.1, hq.2]
            refine v_if_eq (pc := 74) (tgt := 84) C d_Model_turn_74 (by decide) (fun h74 => ?_) (fun h74 => ?_)
            · have E : gTurn0 σ h = σ := by unfold gTurn0; rw [if_neg (fun q => q.2.1 h13)]; rw [if_neg (by intro q; rcases q with ⟨q1, q2⟩ | ⟨q1, q2⟩; exact h61 q2; rw [hns] at q2; rw [if_pos q2] at h74; exact absurd h74 (by decide))]
              exact loop 12 σ _ (by rw [E] at hg; exact hg) (by unfold gTurn; rw [E])
            · refine v_aload_n (pc := 77) C d_Model_turn_77 rfl rfl ?_
              refine gf_Model_81 (pc := 78) C d_Model_turn_78 ?_
              refine v_iload_n (pc := 81) C d_Model_turn_81 rfl rfl ?_
              refine v_iconst (pc := 82) (v := 0) C d_Model_turn_82 (by decide) ?_
              refine v_iastoreK (pc := 83) C rfl rfl (rfl) (hh) (by decide) d_Model_turn_83 ?_
              have E : gTurn0 σ h = (ty_up σ 43 0 h 0) := by unfold gTurn0; rw [if_neg (fun q => q.2.1 h13)]; rw [if_pos (Or.inr ⟨h66, by rw [hns]; by_cases e : gJoined σ h sc = true; exact e; exact absurd (if_neg e) h74⟩)]
              exact loop 12 (ty_up σ 43 0 h 0) _ (by rw [E] at hg; exact hg) (by unfold gTurn; rw [E])
      · refine v_iload_n (pc := 46) C d_Model_turn_46 rfl rfl ?_
        refine v_iconst (pc := 47) (v := 2) C d_Model_turn_47 (by decide) ?_
        refine v_icmp_ne (pc := 48) (tgt := 64) C d_Model_turn_48 (by decide) (fun h48 => ?_) (fun h48 => ?_)
        · refine v_iload_n (pc := 64) C d_Model_turn_64 rfl rfl ?_
          refine v_iconst (pc := 65) (v := 4) C d_Model_turn_65 (by decide) ?_
          refine v_icmp_ne (pc := 66) (tgt := 84) C d_Model_turn_66 (by decide) (fun h66 => ?_) (fun h66 => ?_)
          · have E : gTurn0 σ h = σ := by unfold gTurn0; rw [if_neg (fun q => q.2.1 h13)]; rw [if_neg (by intro q; rcases q with ⟨q1, q2⟩ | ⟨q1, q2⟩; rcases q1 with q1 | q1; exact h43 q1; exact h48 q1; exact h66 q1)]
            exact loop 12 σ _ (by rw [E] at hg; exact hg) (by unfold gTurn; rw [E])
          · refine v_aload_n (pc := 69) C d_Model_turn_69 rfl rfl ?_
            refine v_iload_n (pc := 70) C d_Model_turn_70 rfl rfl ?_
            refine cl_Model_143 (pc := 71) C (m_joined l hJ σ sc (by omega) hsc1 h) ⟨rfl, rfl, by decide, by decide⟩ rfl rfl (Nat.le_of_ble_eq_true rfl) d_Model_turn_71 (fun r σ' hq => ?_)
            rw [hq.1, hq.2]
            refine v_if_eq (pc := 74) (tgt := 84) C d_Model_turn_74 (by decide) (fun h74 => ?_) (fun h74 => ?_)
            · have E : gTurn0 σ h = σ := by unfold gTurn0; rw [if_neg (fun q => q.2.1 h13)]; rw [if_neg (by intro q; rcases q with ⟨q1, q2⟩ | ⟨q1, q2⟩; rcases q1 with q1 | q1; exact h43 q1; exact h48 q1; rw [hns] at q2; rw [if_pos q2] at h74; exact absurd h74 (by decide))]
              exact loop 12 σ _ (by rw [E] at hg; exact hg) (by unfold gTurn; rw [E])
            · refine v_aload_n (pc := 77) C d_Model_turn_77 rfl rfl ?_
              refine gf_Model_81 (pc := 78) C d_Model_turn_78 ?_
              refine v_iload_n (pc := 81) C d_Model_turn_81 rfl rfl ?_
              refine v_iconst (pc := 82) (v := 0) C d_Model_turn_82 (by decide) ?_
              refine v_iastoreK (pc := 83) C rfl rfl (rfl) (hh) (by decide) d_Model_turn_83 ?_
              have E : gTurn0 σ h = (ty_up σ 43 0 h 0) := by unfold gTurn0; rw [if_neg (fun q => q.2.1 h13)]; rw [if_pos (Or.inr ⟨h66, by rw [hns]; by_cases e : gJoined σ h sc = true; exact e; exact absurd (if_neg e) h74⟩)]
              exact loop 12 (ty_up σ 43 0 h 0) _ (by rw [E] at hg; exact hg) (by unfold gTurn; rw [E])
        · refine v_aload_n (pc := 51) C d_Model_turn_51 rfl rfl ?_
          refine gf_Model_117 (pc := 52) C d_Model_turn_52 ?_
          refine v_aload_n (pc := 55) C d_Model_turn_55 rfl rfl ?_
          refine gf_Model_84 (pc := 56) C d_Model_turn_56 ?_
          refine v_iload_n (pc := 59) C d_Model_turn_59 rfl rfl ?_
          refine v_ialoadK (pc := 60) C rfl rfl (rfl) (hh) (by decide) d_Model_turn_60 ?_
          refine v_icmp_ge (pc := 61) (tgt := 77) C d_Model_turn_61 (by decide) (fun h61 => ?_) (fun h61 => ?_)
          · refine v_aload_n (pc := 77) C d_Model_turn_77 rfl rfl ?_
            refine gf_Model_81 (pc := 78) C d_Model_turn_78 ?_
            refine v_iload_n (pc := 81) C d_Model_turn_81 rfl rfl ?_
            refine v_iconst (pc := 82) (v := 0) C d_Model_turn_82 (by decide) ?_
            refine v_iastoreK (pc := 83) C rfl rfl (rfl) (hh) (by decide) d_Model_turn_83 ?_
            have E : gTurn0 σ h = (ty_up σ 43 0 h 0) := by unfold gTurn0; rw [if_neg (fun q => q.2.1 h13)]; rw [if_pos (Or.inl ⟨Or.inr h48, h61⟩)]
            exact loop 12 (ty_up σ 43 0 h 0) _ (by rw [E] at hg; exact hg) (by unfold gTurn; rw [E])
          · refine v_iload_n (pc := 64) C d_Model_turn_64 rfl rfl ?_
            refine v_iconst (pc := 65) (v := 4) C d_Model_turn_65 (by decide) ?_
            refine v_icmp_ne (pc := 66) (tgt := 84) C d_Model_turn_66 (by decide) (fun h66 => ?_) (fun h66 => ?_)
            · have E : gTurn0 σ h = σ := by unfold gTurn0; rw [if_neg (fun q => q.2.1 h13)]; rw [if_neg (by intro q; rcases q with ⟨q1, q2⟩ | ⟨q1, q2⟩; exact h61 q2; exact h66 q1)]
              exact loop 12 σ _ (by rw [E] at hg; exact hg) (by unfold gTurn; rw [E])
            · refine v_aload_n (pc := 69) C d_Model_turn_69 rfl rfl ?_
              refine v_iload_n (pc := 70) C d_Model_turn_70 rfl rfl ?_
              refine cl_Model_143 (pc := 71) C (m_joined l hJ σ sc (by omega) hsc1 h) ⟨rfl, rfl, by decide, by decide⟩ rfl rfl (Nat.le_of_ble_eq_true rfl) d_Model_turn_71 (fun r σ' hq => ?_)
              rw [hq.1, hq.2]
              refine v_if_eq (pc := 74) (tgt := 84) C d_Model_turn_74 (by decide) (fun h74 => ?_) (fun h74 => ?_)
              · have E : gTurn0 σ h = σ := by unfold gTurn0; rw [if_neg (fun q => q.2.1 h13)]; rw [if_neg (by intro q; rcases q with ⟨q1, q2⟩ | ⟨q1, q2⟩; exact h61 q2; rw [hns] at q2; rw [if_pos q2] at h74; exact absurd h74 (by decide))]
                exact loop 12 σ _ (by rw [E] at hg; exact hg) (by unfold gTurn; rw [E])
              · refine v_aload_n (pc := 77) C d_Model_turn_77 rfl rfl ?_
                refine gf_Model_81 (pc := 78) C d_Model_turn_78 ?_
                refine v_iload_n (pc := 81) C d_Model_turn_81 rfl rfl ?_
                refine v_iconst (pc := 82) (v := 0) C d_Model_turn_82 (by decide) ?_
                refine v_iastoreK (pc := 83) C rfl rfl (rfl) (hh) (by decide) d_Model_turn_83 ?_
                have E : gTurn0 σ h = (ty_up σ 43 0 h 0) := by unfold gTurn0; rw [if_neg (fun q => q.2.1 h13)]; rw [if_pos (Or.inr ⟨h66, by rw [hns]; by_cases e : gJoined σ h sc = true; exact e; exact absurd (if_neg e) h74⟩)]
                exact loop 12 (ty_up σ 43 0 h 0) _ (by rw [E] at hg; exact hg) (by unfold gTurn; rw [E])
    · refine v_aload_n (pc := 16) C d_Model_turn_16 rfl rfl ?_
      refine gf_Model_87 (pc := 17) C d_Model_turn_17 ?_
      refine v_iload_n (pc := 20) C d_Model_turn_20 rfl rfl ?_
      refine v_baloadK (pc := 21) C rfl rfl (rfl) (hh) (by decide) d_Model_turn_21 ?_
      refine v_if_eq (pc := 22) (tgt := 41) C d_Model_turn_22 (by decide) (fun h22 => ?_) (fun h22 => ?_)
      · refine v_iload_n (pc := 41) C d_Model_turn_41 rfl rfl ?_
        refine v_iconst (pc := 42) (v := 1) C d_Model_turn_42 (by decide) ?_
        refine v_icmp_eq (pc := 43) (tgt := 51) C d_Model_turn_43 (by decide) (fun h43 => ?_) (fun h43 => ?_)
        · refine v_aload_n (pc := 51) C d_Model_turn_51 rfl rfl ?_
          refine gf_Model_117 (pc := 52) C d_Model_turn_52 ?_
          refine v_aload_n (pc := 55) C d_Model_turn_55 rfl rfl ?_
          refine gf_Model_84 (pc := 56) C d_Model_turn_56 ?_
          refine v_iload_n (pc := 59) C d_Model_turn_59 rfl rfl ?_
          refine v_ialoadK (pc := 60) C rfl rfl (rfl) (hh) (by decide) d_Model_turn_60 ?_
          refine v_icmp_ge (pc := 61) (tgt := 77) C d_Model_turn_61 (by decide) (fun h61 => ?_) (fun h61 => ?_)
          · refine v_aload_n (pc := 77) C d_Model_turn_77 rfl rfl ?_
            refine gf_Model_81 (pc := 78) C d_Model_turn_78 ?_
            refine v_iload_n (pc := 81) C d_Model_turn_81 rfl rfl ?_
            refine v_iconst (pc := 82) (v := 0) C d_Model_turn_82 (by decide) ?_
            refine v_iastoreK (pc := 83) C rfl rfl (rfl) (hh) (by decide) d_Model_turn_83 ?_
            have E : gTurn0 σ h = (ty_up σ 43 0 h 0) := by unfold gTurn0; rw [if_neg (fun q => q.2.2 h22)]; rw [if_pos (Or.inl ⟨Or.inl h43, h61⟩)]
            exact loop 12 (ty_up σ 43 0 h 0) _ (by rw [E] at hg; exact hg) (by unfold gTurn; rw [E])
          · refine v_iload_n (pc := 64) C d_Model_turn_64 rfl rfl ?_
            refine v_iconst (pc := 65) (v := 4) C d_Model_turn_65 (by decide) ?_
            refine v_icmp_ne (pc := 66) (tgt := 84) C d_Model_turn_66 (by decide) (fun h66 => ?_) (fun h66 => ?_)
            · have E : gTurn0 σ h = σ := by unfold gTurn0; rw [if_neg (fun q => q.2.2 h22)]; rw [if_neg (by intro q; rcases q with ⟨q1, q2⟩ | ⟨q1, q2⟩; exact h61 q2; exact h66 q1)]
              exact loop 12 σ _ (by rw [E] at hg; exact hg) (by unfold gTurn; rw [E])
            · refine v_aload_n (pc := 69) C d_Model_turn_69 rfl rfl ?_
              refine v_iload_n (pc := 70) C d_Model_turn_70 rfl rfl ?_
              refine cl_Model_143 (pc := 71) C (m_joined l hJ σ sc (by omega) hsc1 h) ⟨rfl, rfl, by decide, by decide⟩ rfl rfl (Nat.le_of_ble_eq_true rfl) d_Model_turn_71 (fun r σ' hq => ?_)
              rw [hq.1, hq.2]
              refine v_if_eq (pc := 74) (tgt := 84) C d_Model_turn_74 (by decide) (fun h74 => ?_) (fun h74 => ?_)
              · have E : gTurn0 σ h = σ := by unfold gTurn0; rw [if_neg (fun q => q.2.2 h22)]; rw [if_neg (by intro q; rcases q with ⟨q1, q2⟩ | ⟨q1, q2⟩; exact h61 q2; rw [hns] at q2; rw [if_pos q2] at h74; exact absurd h74 (by decide))]
                exact loop 12 σ _ (by rw [E] at hg; exact hg) (by unfold gTurn; rw [E])
              · refine v_aload_n (pc := 77) C d_Model_turn_77 rfl rfl ?_
                refine gf_Model_81 (pc := 78) C d_Model_turn_78 ?_
                refine v_iload_n (pc := 81) C d_Model_turn_81 rfl rfl ?_
                refine v_iconst (pc := 82) (v := 0) C d_Model_turn_82 (by decide) ?_
                refine v_iastoreK (pc := 83) C rfl rfl (rfl) (hh) (by decide) d_Model_turn_83 ?_
                have E : gTurn0 σ h = (ty_up σ 43 0 h 0) := by unfold gTurn0; rw [if_neg (fun q => q.2.2 h22)]; rw [if_pos (Or.inr ⟨h66, by rw [hns]; by_cases e : gJoined σ h sc = true; exact e; exact absurd (if_neg e) h74⟩)]
                exact loop 12 (ty_up σ 43 0 h 0) _ (by rw [E] at hg; exact hg) (by unfold gTurn; rw [E])
        · refine v_iload_n (pc := 46) C d_Model_turn_46 rfl rfl ?_
          refine v_iconst (pc := 47) (v := 2) C d_Model_turn_47 (by decide) ?_
          refine v_icmp_ne (pc := 48) (tgt := 64) C d_Model_turn_48 (by decide) (fun h48 => ?_) (fun h48 => ?_)
          · refine v_iload_n (pc := 64) C d_Model_turn_64 rfl rfl ?_
            refine v_iconst (pc := 65) (v := 4) C d_Model_turn_65 (by decide) ?_
            refine v_icmp_ne (pc := 66) (tgt := 84) C d_Model_turn_66 (by decide) (fun h66 => ?_) (fun h66 => ?_)
            · have E : gTurn0 σ h = σ := by unfold gTurn0; rw [if_neg (fun q => q.2.2 h22)]; rw [if_neg (by intro q; rcases q with ⟨q1, q2⟩ | ⟨q1, q2⟩; rcases q1 with q1 | q1; exact h43 q1; exact h48 q1; exact h66 q1)]
              exact loop 12 σ _ (by rw [E] at hg; exact hg) (by unfold gTurn; rw [E])
            · refine v_aload_n (pc := 69) C d_Model_turn_69 rfl rfl ?_
              refine v_iload_n (pc := 70) C d_Model_turn_70 rfl rfl ?_
              refine cl_Model_143 (pc := 71) C (m_joined l hJ σ sc (by omega) hsc1 h) ⟨rfl, rfl, by decide, by decide⟩ rfl rfl (Nat.le_of_ble_eq_true rfl) d_Model_turn_71 (fun r σ' hq => ?_)
              rw [hq.1, hq.2]
              refine v_if_eq (pc := 74) (tgt := 84) C d_Model_turn_74 (by decide) (fun h74 => ?_) (fun h74 => ?_)
              · have E : gTurn0 σ h = σ := by unfold gTurn0; rw [if_neg (fun q => q.2.2 h22)]; rw [if_neg (by intro q; rcases q with ⟨q1, q2⟩ | ⟨q1, q2⟩; rcases q1 with q1 | q1; exact h43 q1; exact h48 q1; rw [hns] at q2; rw [if_pos q2] at h74; exact absurd h74 (by decide))]
                exact loop 12 σ _ (by rw [E] at hg; exact hg) (by unfold gTurn; rw [E])
              · refine v_aload_n (pc := 77) C d_Model_turn_77 rfl rfl ?_
                refine gf_Model_81 (pc := 78) C d_Model_turn_78 ?_
                refine v_iload_n (pc := 81) C d_Model_turn_81 rfl rfl ?_
                refine v_iconst (pc := 82) (v := 0) C d_Model_turn_82 (by decide) ?_
                refine v_iastoreK (pc := 83) C rfl rfl (rfl) (hh) (by decide) d_Model_turn_83 ?_
                have E : gTurn0 σ h = (ty_up σ 43 0 h 0) := by unfold gTurn0; rw [if_neg (fun q => q.2.2 h22)]; rw [if_pos (Or.inr ⟨h66, by rw [hns]; by_cases e : gJoined σ h sc = true; exact e; exact absurd (if_neg e) h74⟩)]
                exact loop 12 (ty_up σ 43 0 h 0) _ (by rw [E] at hg; exact hg) (by unfold gTurn; rw [E])
          · refine v_aload_n (pc := 51) C d_Model_turn_51 rfl rfl ?_
            refine gf_Model_117 (pc := 52) C d_Model_turn_52 ?_
            refine v_aload_n (pc := 55) C d_Model_turn_55 rfl rfl ?_
            refine gf_Model_84 (pc := 56) C d_Model_turn_56 ?_
            refine v_iload_n (pc := 59) C d_Model_turn_59 rfl rfl ?_
            refine v_ialoadK (pc := 60) C rfl rfl (rfl) (hh) (by decide) d_Model_turn_60 ?_
            refine v_icmp_ge (pc := 61) (tgt := 77) C d_Model_turn_61 (by decide) (fun h61 => ?_) (fun h61 => ?_)
            · refine v_aload_n (pc := 77) C d_Model_turn_77 rfl rfl ?_
              refine gf_Model_81 (pc := 78) C d_Model_turn_78 ?_
              refine v_iload_n (pc := 81) C d_Model_turn_81 rfl rfl ?_
              refine v_iconst (pc := 82) (v := 0) C d_Model_turn_82 (by decide) ?_
              refine v_iastoreK (pc := 83) C rfl rfl (rfl) (hh) (by decide) d_Model_turn_83 ?_
              have E : gTurn0 σ h = (ty_up σ 43 0 h 0) := by unfold gTurn0; rw [if_neg (fun q => q.2.2 h22)]; rw [if_pos (Or.inl ⟨Or.inr h48, h61⟩)]
              exact loop 12 (ty_up σ 43 0 h 0) _ (by rw [E] at hg; exact hg) (by unfold gTurn; rw [E])
            · refine v_iload_n (pc := 64) C d_Model_turn_64 rfl rfl ?_
              refine v_iconst (pc := 65) (v := 4) C d_Model_turn_65 (by decide) ?_
              refine v_icmp_ne (pc := 66) (tgt := 84) C d_Model_turn_66 (by decide) (fun h66 => ?_) (fun h66 => ?_)
              · have E : gTurn0 σ h = σ := by unfold gTurn0; rw [if_neg (fun q => q.2.2 h22)]; rw [if_neg (by intro q; rcases q with ⟨q1, q2⟩ | ⟨q1, q2⟩; exact h61 q2; exact h66 q1)]
                exact loop 12 σ _ (by rw [E] at hg; exact hg) (by unfold gTurn; rw [E])
              · refine v_aload_n (pc := 69) C d_Model_turn_69 rfl rfl ?_
                refine v_iload_n (pc := 70) C d_Model_turn_70 rfl rfl ?_
                refine cl_Model_143 (pc := 71) C (m_joined l hJ σ sc (by omega) hsc1 h) ⟨rfl, rfl, by decide, by decide⟩ rfl rfl (Nat.le_of_ble_eq_true rfl) d_Model_turn_71 (fun r σ' hq => ?_)
                rw [hq.1, hq.2]
                refine v_if_eq (pc := 74) (tgt := 84) C d_Model_turn_74 (by decide) (fun h74 => ?_) (fun h74 => ?_)
                · have E : gTurn0 σ h = σ := by unfold gTurn0; rw [if_neg (fun q => q.2.2 h22)]; rw [if_neg (by intro q; rcases q with ⟨q1, q2⟩ | ⟨q1, q2⟩; exact h61 q2; rw [hns] at q2; rw [if_pos q2] at h74; exact absurd h74 (by decide))]
                  exact loop 12 σ _ (by rw [E] at hg; exact hg) (by unfold gTurn; rw [E])
                · refine v_aload_n (pc := 77) C d_Model_turn_77 rfl rfl ?_
                  refine gf_Model_81 (pc := 78) C d_Model_turn_78 ?_
                  refine v_iload_n (pc := 81) C d_Model_turn_81 rfl rfl ?_
                  refine v_iconst (pc := 82) (v := 0) C d_Model_turn_82 (by decide) ?_
                  refine v_iastoreK (pc := 83) C rfl rfl (rfl) (hh) (by decide) d_Model_turn_83 ?_
                  have E : gTurn0 σ h = (ty_up σ 43 0 h 0) := by unfold gTurn0; rw [if_neg (fun q => q.2.2 h22)]; rw [if_pos (Or.inr ⟨h66, by rw [hns]; by_cases e : gJoined σ h sc = true; exact e; exact absurd (if_neg e) h74⟩)]
                  exact loop 12 (ty_up σ 43 0 h 0) _ (by rw [E] at hg; exact hg) (by unfold gTurn; rw [E])
      · obtain ⟨z0, hz0, hzq, c0, hc0, hcq⟩ := hzw h8 h13 h22
        have hz1 : σ 42 0 h - 1 = nI z0 := by rw [hzq]; exact nI_pred z0
        have hz1n : nn (σ 42 0 h - 1) = z0 := by rw [hz1]; exact nI_clamp (by omega)
        refine v_aload_n (pc := 25) C d_Model_turn_25 rfl rfl ?_
        refine v_iload_n (pc := 26) C d_Model_turn_26 rfl rfl ?_
        refine v_aload_n (pc := 27) C d_Model_turn_27 rfl rfl ?_
        refine gf_Model_78 (pc := 28) C d_Model_turn_28 ?_
        refine v_iload_n (pc := 31) C d_Model_turn_31 rfl rfl ?_
        refine v_ialoadK (pc := 32) C rfl rfl (rfl) (hh) (by decide) d_Model_turn_32 ?_
        refine v_iconst (pc := 33) (v := 1) C d_Model_turn_33 (by decide) ?_
        refine v_isub (pc := 34) C d_Model_turn_34 ?_
        refine cl_Model_140 (pc := 35) C (m_interrupts l hJ σ hs h hh ht c0 hc0 hcq _ z0 (by omega) hz1) ⟨rfl, rfl, by decide, by decide⟩ rfl rfl (Nat.le_of_ble_eq_true rfl) d_Model_turn_35 (fun r σ' hq => ?_)
        rw [hq.1, hq.2]
        refine v_goto (pc := 38) (tgt := 84) C d_Model_turn_38 (by decide) ?_
        have E : gTurn0 σ h = (gInterrupts σ h z0) := by unfold gTurn0; rw [if_pos ⟨h8, h13, h22⟩, hz1n]
        exact loop 12 (gInterrupts σ h z0) _ (by rw [E] at hg; exact hg) (by unfold gTurn; rw [E])
set_option maxRecDepth 100000 in
set_option maxHeartbeats 4000000 in
theorem m_isFree (l : Launch) {D : va_G} {ad : Nat → Nat → Nat} {cA : Nat → ClassId} (hJ : ty_J cnM ad) (σ : ty_St) (w : Nat) (hw : w < 4) (hto : 0 ≤ σ 38 0 w → vp_in (σ 38 0 w) 12 ∧ vp_in (σ 34 0 (nn (σ 38 0 w))) 64) : ty_M l y_Model_isFree (Cond.code y_Model_isFree b_Model_isFree 3 (some .boolean) :: ty_w) (rmL 0) cnM D ad cA [.inr (20, 0), .inl (nI w)] σ (fun r σ' => r = some (.inl (if gFree σ w = true then 1 else 0)) ∧ σ' = σ) := by
  refine ty_M.of rfl hJ layM (ty_oks.cons (show (0 : Nat) < cnM 20 by decide) (ty_oks.cons trivial ty_oks.nil)) (Nat.le_of_ble_eq_true rfl) ?_
  intro p e s m args below meth c C hr hnm
  refine v_aload_n (pc := 0) C d_Model_isFree_0 rfl rfl ?_
  refine gf_Model_66 (pc := 1) C d_Model_isFree_1 ?_
  refine v_iload_n (pc := 4) C d_Model_isFree_4 rfl rfl ?_
  refine v_ialoadK (pc := 5) C rfl rfl (rfl) (hw) (by decide) d_Model_isFree_5 ?_
  refine v_istore_n (pc := 6) C d_Model_isFree_6 rfl (by decide) ?_
  refine v_iload_n (pc := 7) C d_Model_isFree_7 rfl rfl ?_
  refine v_if_lt (pc := 8) (tgt := 51) C d_Model_isFree_8 (by decide) (fun h8 => ?_) (fun h8 => ?_)
  · refine v_iconst (pc := 51) (v := 1) C d_Model_isFree_51 (by decide) ?_
    refine v_goto (pc := 52) (tgt := 56) C d_Model_isFree_52 (by decide) ?_
    exact v_zreturn (pc := 56) C hr rfl ⟨by unfold gFree; simp [h8], rfl⟩ d_Model_isFree_56
  · refine v_aload_n (pc := 11) C d_Model_isFree_11 rfl rfl ?_
    refine gf_Model_81 (pc := 12) C d_Model_isFree_12 ?_
    refine v_aload_n (pc := 15) C d_Model_isFree_15 rfl rfl ?_
    refine gf_Model_53 (pc := 16) C d_Model_isFree_16 ?_
    refine v_iload_n (pc := 19) C d_Model_isFree_19 rfl rfl ?_
    refine v_iaload (pc := 20) C rfl rfl (hto (Int32.not_lt.mp h8)).1 d_Model_isFree_20 ?_
    refine v_iaload (pc := 21) C rfl rfl (hto (Int32.not_lt.mp h8)).2 d_Model_isFree_21 ?_
    refine v_iconst (pc := 22) (v := 5) C d_Model_isFree_22 (by decide) ?_
    refine v_icmp_eq (pc := 23) (tgt := 51) C d_Model_isFree_23 (by decide) (fun h23 => ?_) (fun h23 => ?_)
    · refine v_iconst (pc := 51) (v := 1) C d_Model_isFree_51 (by decide) ?_
      refine v_goto (pc := 52) (tgt := 56) C d_Model_isFree_52 (by decide) ?_
      exact v_zreturn (pc := 56) C hr rfl ⟨by unfold gFree; simp [h23], rfl⟩ d_Model_isFree_56
    · refine v_aload_n (pc := 26) C d_Model_isFree_26 rfl rfl ?_
      refine gf_Model_38 (pc := 27) C d_Model_isFree_27 ?_
      refine v_iload_n (pc := 30) C d_Model_isFree_30 rfl rfl ?_
      refine v_iaload (pc := 31) C rfl rfl (hto (Int32.not_lt.mp h8)).1 d_Model_isFree_31 ?_
      refine v_iconst (pc := 32) (v := 3) C d_Model_isFree_32 (by decide) ?_
      refine v_icmp_ne (pc := 33) (tgt := 55) C d_Model_isFree_33 (by decide) (fun h33 => ?_) (fun h33 => ?_)
      · refine v_iconst (pc := 55) (v := 0) C d_Model_isFree_55 (by decide) ?_
        exact v_zreturn (pc := 56) C hr rfl ⟨by unfold gFree; simp [h8, h23, h33], rfl⟩ d_Model_isFree_56
      · refine v_aload_n (pc := 36) C d_Model_isFree_36 rfl rfl ?_
        refine gf_Model_117 (pc := 37) C d_Model_isFree_37 ?_
        refine v_aload_n (pc := 40) C d_Model_isFree_40 rfl rfl ?_
        refine gf_Model_47 (pc := 41) C d_Model_isFree_41 ?_
        refine v_iload_n (pc := 44) C d_Model_isFree_44 rfl rfl ?_
        refine v_iaload (pc := 45) C rfl rfl (hto (Int32.not_lt.mp h8)).1 d_Model_isFree_45 ?_
        refine v_iconst (pc := 46) (v := 3) C d_Model_isFree_46 (by decide) ?_
        refine v_iadd (pc := 47) C d_Model_isFree_47 ?_
        refine v_icmp_lt (pc := 48) (tgt := 55) C d_Model_isFree_48 (by decide) (fun h48 => ?_) (fun h48 => ?_)
        · refine v_iconst (pc := 55) (v := 0) C d_Model_isFree_55 (by decide) ?_
          exact v_zreturn (pc := 56) C hr rfl ⟨by unfold gFree; simp [h8, h23, h33, Int32.not_le.mpr h48], rfl⟩ d_Model_isFree_56
        · refine v_iconst (pc := 51) (v := 1) C d_Model_isFree_51 (by decide) ?_
          refine v_goto (pc := 52) (tgt := 56) C d_Model_isFree_52 (by decide) ?_
          exact v_zreturn (pc := 56) C hr rfl ⟨by unfold gFree; simp [h33, Int32.not_lt.mp h48], rfl⟩ d_Model_isFree_56
end
section
theorem gCan_mono {σ : ty_St} {t : Nat} : ∀ {n k : Nat}, n ≤ k → gCan σ t k = true → gCan σ t n = true := by
  intro n k h
  induction k with
  | zero => intro q; rw [show n = 0 by omega]; exact q
  | succ k ih =>
    intro q
    by_cases e : n = k + 1
    · rw [e]; exact q
    · simp only [gCan, Bool.and_eq_true] at q
      exact ih (by omega) q.1
def gDone (σ : ty_St) : Nat → Bool
  | 0 => true
  | n + 1 => gDone σ n && !decide (σ 29 0 n = 0)
def gIdle (σ : ty_St) : Nat → Bool
  | 0 => true
  | n + 1 => gIdle σ n && gFree σ n
theorem gDone_mono {σ : ty_St} : ∀ {n k : Nat}, n ≤ k → gDone σ k = true → gDone σ n = true := by
  intro n k h
  induction k with
  | zero => intro q; rw [show n = 0 by omega]; exact q
  | succ k ih =>
    intro q
    by_cases e : n = k + 1
    · rw [e]; exact q
    · simp only [gDone, Bool.and_eq_true] at q
      exact ih (by omega) q.1
theorem gIdle_mono {σ : ty_St} : ∀ {n k : Nat}, n ≤ k → gIdle σ k = true → gIdle σ n = true := by
  intro n k h
  induction k with
  | zero => intro q; rw [show n = 0 by omega]; exact q
  | succ k ih =>
    intro q
    by_cases e : n = k + 1
    · rw [e]; exact q
    · simp only [gIdle, Bool.and_eq_true] at q
      exact ih (by omega) q.1
theorem gLook1_a {σ : ty_St} {t a : Nat} (h1 : ¬ a = 29) (h2 : ¬ a = 30) (h3 : ¬ a = 32) (h4 : ¬ a = 45) : (gLook1 σ t) a = σ a := by
  unfold gLook1 gJudged
  split
  · rw [up_a h4, up_a h3, up_a h2, up_a h1]
  · rfl
theorem gLooks_a {σ : ty_St} {a : Nat} (h1 : ¬ a = 29) (h2 : ¬ a = 30) (h3 : ¬ a = 32) (h4 : ¬ a = 45) : ∀ n, (gLooks σ n) a = σ a
  | 0 => rfl
  | n + 1 => (gLook1_a h1 h2 h3 h4).trans (gLooks_a h1 h2 h3 h4 n)
set_option maxRecDepth 100000 in
set_option maxHeartbeats 4000000 in
theorem m_can (l : Launch) {D : va_G} {ad : Nat → Nat → Nat} {cA : Nat → ClassId} (hJ : ty_J cnM ad) (σ : ty_St) (tc : Nat) (htc : tc ≤ 12) (hc : σ 20 0 1 = nI tc) (x : Int32) (u : Nat) (hu : u < 12) (hx : x = nI u) : ty_M l y_Model_canHave (Cond.code y_Model_canHave b_Model_canHave 3 (some .boolean) :: ty_w) (rmL 0) cnM D ad cA [.inr (20, 0), .inl x] σ (fun r σ' => r = some (.inl (if gCan σ u tc = true then 1 else 0)) ∧ σ' = σ) := by
  refine ty_M.of rfl hJ layM (ty_oks.cons (show (0 : Nat) < cnM 20 by decide) (ty_oks.cons trivial ty_oks.nil)) (Nat.le_of_ble_eq_true rfl) ?_
  intro p e s m args below meth c C hr hnm
  subst hx
  have loop : ∀ k i, i + k = tc → gCan σ u i = true → ty_V cnM p l e (rmL 0) s m args below meth c D ad cA (ty_Gd cnM ad s) 3 (MQ below (ty_Q cnM D ad cA (fun r σ' => r = some (.inl (if gCan σ u tc = true then 1 else 0)) ∧ σ' = σ) (ty_A cnM ad)) args s 0 0 (ty_A cnM ad)) σ [some (.inr (20, 0)), some (.inl (nI u)), some (.inl (nI i))] 2 [] := by
    intro  k
    induction k with
    | zero =>
      intro i hi hi0
      have hb := hc
      refine v_iload_n (pc := 2) C d_Model_canHave_2 rfl rfl ?_
      refine v_aload_n (pc := 3) C d_Model_canHave_3 rfl rfl ?_
      refine gf_Model_114 (pc := 4) C d_Model_canHave_4 ?_
      refine v_icmp_ge (pc := 7) (tgt := 78) C d_Model_canHave_7 (by decide) (fun h7 => ?_) (fun h7 => ?_)
      · refine v_iconst (pc := 78) (v := 1) C d_Model_canHave_78 (by decide) ?_
        exact v_zreturn (pc := 79) C hr rfl ⟨by rw [show tc = i by omega, if_pos hi0], rfl⟩ d_Model_canHave_79
      · exact absurd (by rw [hb]; exact nI_le (by omega) (by omega)) h7
    | succ k ih =>
      intro i hi hi0
      have hb := hc
      refine v_iload_n (pc := 2) C d_Model_canHave_2 rfl rfl ?_
      refine v_aload_n (pc := 3) C d_Model_canHave_3 rfl rfl ?_
      refine gf_Model_114 (pc := 4) C d_Model_canHave_4 ?_
      refine v_icmp_ge (pc := 7) (tgt := 78) C d_Model_canHave_7 (by decide) (fun h7 => ?_) (fun h7 => ?_)
      · exact absurd h7 (by rw [hb]; exact nI_ge (by omega) (by omega))
      · refine v_aload_n (pc := 10) C d_Model_canHave_10 rfl rfl ?_
        refine gf_Model_44 (pc := 11) C d_Model_canHave_11 ?_
        refine v_iload_n (pc := 14) C d_Model_canHave_14 rfl rfl ?_
        refine v_ialoadK (pc := 15) C rfl rfl (rfl) (by omega) (by decide) d_Model_canHave_15 ?_
        refine v_if_lt (pc := 16) (tgt := 72) C d_Model_canHave_16 (by decide) (fun h16 => ?_) (fun h16 => ?_)
        · refine v_iinc (pc := 72) C d_Model_canHave_72 rfl (show _ + Int32.ofInt 1 = _ + 1 from rfl) (by decide) ?_
          refine v_goto (pc := 75) (tgt := 2) C d_Model_canHave_75 (by decide) ?_
          rw [nI_1 i]
          refine ih (i + 1) (by omega) ?_
          simp [gCan, hi0, h16]
        · refine v_aload_n (pc := 19) C d_Model_canHave_19 rfl rfl ?_
          refine gf_Model_38 (pc := 20) C d_Model_canHave_20 ?_
          refine v_iload_n (pc := 23) C d_Model_canHave_23 rfl rfl ?_
          refine v_ialoadK (pc := 24) C rfl rfl (rfl) (by omega) (by decide) d_Model_canHave_24 ?_
          refine v_if_eq (pc := 25) (tgt := 31) C d_Model_canHave_25 (by decide) (fun h25 => ?_) (fun h25 => ?_)
          · refine v_aload_n (pc := 31) C d_Model_canHave_31 rfl rfl ?_
            refine gf_Model_35 (pc := 32) C d_Model_canHave_32 ?_
            refine v_iload_n (pc := 35) C d_Model_canHave_35 rfl rfl ?_
            refine v_ialoadK (pc := 36) C rfl rfl (rfl) (hu) (by decide) d_Model_canHave_36 ?_
            refine v_aload_n (pc := 37) C d_Model_canHave_37 rfl rfl ?_
            refine gf_Model_32 (pc := 38) C d_Model_canHave_38 ?_
            refine v_iload_n (pc := 41) C d_Model_canHave_41 rfl rfl ?_
            refine v_ialoadK (pc := 42) C rfl rfl (rfl) (by omega) (by decide) d_Model_canHave_42 ?_
            refine v_aload_n (pc := 43) C d_Model_canHave_43 rfl rfl ?_
            refine gf_Model_35 (pc := 44) C d_Model_canHave_44 ?_
            refine v_iload_n (pc := 47) C d_Model_canHave_47 rfl rfl ?_
            refine v_ialoadK (pc := 48) C rfl rfl (rfl) (by omega) (by decide) d_Model_canHave_48 ?_
            refine v_ior (pc := 49) C d_Model_canHave_49 ?_
            refine v_iand (pc := 50) C d_Model_canHave_50 ?_
            refine v_if_ne (pc := 51) (tgt := 70) C d_Model_canHave_51 (by decide) (fun h51 => ?_) (fun h51 => ?_)
            · refine v_iconst (pc := 70) (v := 0) C d_Model_canHave_70 (by decide) ?_
              exact v_zreturn (pc := 71) C hr rfl ⟨by
                have : ¬ gCan σ u tc = true := fun q => by
                  have := gCan_mono (show i + 1 ≤ tc by omega) q
                  simp [gCan, Int32.not_lt.mp h16, h25, h51] at this
                rw [if_neg this], rfl⟩ d_Model_canHave_71
            · refine v_aload_n (pc := 54) C d_Model_canHave_54 rfl rfl ?_
              refine gf_Model_32 (pc := 55) C d_Model_canHave_55 ?_
              refine v_iload_n (pc := 58) C d_Model_canHave_58 rfl rfl ?_
              refine v_ialoadK (pc := 59) C rfl rfl (rfl) (hu) (by decide) d_Model_canHave_59 ?_
              refine v_aload_n (pc := 60) C d_Model_canHave_60 rfl rfl ?_
              refine gf_Model_35 (pc := 61) C d_Model_canHave_61 ?_
              refine v_iload_n (pc := 64) C d_Model_canHave_64 rfl rfl ?_
              refine v_ialoadK (pc := 65) C rfl rfl (rfl) (by omega) (by decide) d_Model_canHave_65 ?_
              refine v_iand (pc := 66) C d_Model_canHave_66 ?_
              refine v_if_eq (pc := 67) (tgt := 72) C d_Model_canHave_67 (by decide) (fun h67 => ?_) (fun h67 => ?_)
              · refine v_iinc (pc := 72) C d_Model_canHave_72 rfl (show _ + Int32.ofInt 1 = _ + 1 from rfl) (by decide) ?_
                refine v_goto (pc := 75) (tgt := 2) C d_Model_canHave_75 (by decide) ?_
                rw [nI_1 i]
                refine ih (i + 1) (by omega) ?_
                simp [gCan, hi0, h51, h67]
              · refine v_iconst (pc := 70) (v := 0) C d_Model_canHave_70 (by decide) ?_
                exact v_zreturn (pc := 71) C hr rfl ⟨by
                  have : ¬ gCan σ u tc = true := fun q => by
                    have := gCan_mono (show i + 1 ≤ tc by omega) q
                    simp [gCan, Int32.not_lt.mp h16, h25, h51, h67] at this
                  rw [if_neg this], rfl⟩ d_Model_canHave_71
          · refine v_goto (pc := 28) (tgt := 72) C d_Model_canHave_28 (by decide) ?_
            refine v_iinc (pc := 72) C d_Model_canHave_72 rfl (show _ + Int32.ofInt 1 = _ + 1 from rfl) (by decide) ?_
            refine v_goto (pc := 75) (tgt := 2) C d_Model_canHave_75 (by decide) ?_
            rw [nI_1 i]
            refine ih (i + 1) (by omega) ?_
            simp [gCan, hi0, h25]
  refine v_iconst (pc := 0) (v := 0) C d_Model_canHave_0 (by decide) ?_
  refine v_istore_n (pc := 1) C d_Model_canHave_1 rfl (by decide) ?_
  exact loop tc 0 (by omega) rfl
set_option maxRecDepth 100000 in
set_option maxHeartbeats 4000000 in
theorem m_next (l : Launch) {D : va_G} {ad : Nat → Nat → Nat} {cA : Nat → ClassId} (hJ : ty_J cnM ad) (σ : ty_St) (tc : Nat) (htc : tc ≤ 12) (hc : σ 20 0 1 = nI tc) : ty_M l y_Model_nextTest (Cond.code y_Model_nextTest b_Model_nextTest 2 (some .int) :: ty_w) (rmL 1) cnM D ad cA [.inr (20, 0)] σ (fun r σ' => r = some (.inl (gNext σ tc tc 0)) ∧ σ' = σ) := by
  refine ty_M.of rfl hJ layM (ty_oks.cons (show (0 : Nat) < cnM 20 by decide) ty_oks.nil) (Nat.le_of_ble_eq_true rfl) ?_
  intro p e s m args below meth c C hr hnm
  have loop : ∀ k i, i + k = tc → gNext σ tc k i = gNext σ tc tc 0 → ty_V cnM p l e (rmL 1) s m args below meth c D ad cA (ty_Gd cnM ad s) 2 (MQ below (ty_Q cnM D ad cA (fun r σ' => r = some (.inl (gNext σ tc tc 0)) ∧ σ' = σ) (ty_A cnM ad)) args s 0 0 (ty_A cnM ad)) σ [some (.inr (20, 0)), some (.inl (nI i))] 2 [] := by
    intro  k
    induction k with
    | zero =>
      intro i hi hL
      have hb := hc
      refine v_iload_n (pc := 2) C d_Model_nextTest_2 rfl rfl ?_
      refine v_aload_n (pc := 3) C d_Model_nextTest_3 rfl rfl ?_
      refine gf_Model_114 (pc := 4) C d_Model_nextTest_4 ?_
      refine v_icmp_ge (pc := 7) (tgt := 35) C d_Model_nextTest_7 (by decide) (fun h7 => ?_) (fun h7 => ?_)
      · refine v_iconst (pc := 35) (v := (-1)) C d_Model_nextTest_35 (by decide) ?_
        exact v_ireturn (pc := 36) C hr ⟨by rw [← hL]; rfl, rfl⟩ d_Model_nextTest_36
      · exact absurd (by rw [hb]; exact nI_le (by omega) (by omega)) h7
    | succ k ih =>
      intro i hi hL
      have hb := hc
      refine v_iload_n (pc := 2) C d_Model_nextTest_2 rfl rfl ?_
      refine v_aload_n (pc := 3) C d_Model_nextTest_3 rfl rfl ?_
      refine gf_Model_114 (pc := 4) C d_Model_nextTest_4 ?_
      refine v_icmp_ge (pc := 7) (tgt := 35) C d_Model_nextTest_7 (by decide) (fun h7 => ?_) (fun h7 => ?_)
      · exact absurd h7 (by rw [hb]; exact nI_ge (by omega) (by omega))
      · refine v_aload_n (pc := 10) C d_Model_nextTest_10 rfl rfl ?_
        refine gf_Model_44 (pc := 11) C d_Model_nextTest_11 ?_
        refine v_iload_n (pc := 14) C d_Model_nextTest_14 rfl rfl ?_
        refine v_ialoadK (pc := 15) C rfl rfl (rfl) (by omega) (by decide) d_Model_nextTest_15 ?_
        refine v_if_ge (pc := 16) (tgt := 29) C d_Model_nextTest_16 (by decide) (fun h16 => ?_) (fun h16 => ?_)
        · refine v_iinc (pc := 29) C d_Model_nextTest_29 rfl (show _ + Int32.ofInt 1 = _ + 1 from rfl) (by decide) ?_
          refine v_goto (pc := 32) (tgt := 2) C d_Model_nextTest_32 (by decide) ?_
          rw [nI_1 i]
          refine ih (i + 1) (by omega) ?_
          have hL2 : (if σ 31 0 i < 0 ∧ gCan σ i tc = true then nI i else gNext σ tc k (i + 1)) = gNext σ tc tc 0 := hL
          rw [← hL2, if_neg (fun q => absurd q.1 (Int32.not_lt.mpr h16))]
        · refine v_aload_n (pc := 19) C d_Model_nextTest_19 rfl rfl ?_
          refine v_iload_n (pc := 20) C d_Model_nextTest_20 rfl rfl ?_
          refine cl_Model_163 (pc := 21) C (m_can l hJ σ tc htc hc _ i (by omega) rfl) ⟨rfl, rfl, by decide, by decide⟩ rfl rfl (Nat.le_of_ble_eq_true rfl) d_Model_nextTest_21 (fun r σ' hq => ?_)
          rw [hq.1, hq.2]
          refine v_if_eq (pc := 24) (tgt := 29) C d_Model_nextTest_24 (by decide) (fun h24 => ?_) (fun h24 => ?_)
          · refine v_iinc (pc := 29) C d_Model_nextTest_29 rfl (show _ + Int32.ofInt 1 = _ + 1 from rfl) (by decide) ?_
            refine v_goto (pc := 32) (tgt := 2) C d_Model_nextTest_32 (by decide) ?_
            rw [nI_1 i]
            refine ih (i + 1) (by omega) ?_
            have hL2 : (if σ 31 0 i < 0 ∧ gCan σ i tc = true then nI i else gNext σ tc k (i + 1)) = gNext σ tc tc 0 := hL
            rw [← hL2, if_neg (fun q => by rw [if_pos q.2] at h24; exact absurd h24 (by decide))]
          · refine v_iload_n (pc := 27) C d_Model_nextTest_27 rfl rfl ?_
            exact v_ireturn (pc := 28) C hr ⟨by
              have hL2 : (if σ 31 0 i < 0 ∧ gCan σ i tc = true then nI i else gNext σ tc k (i + 1)) = gNext σ tc tc 0 := hL
              rw [← hL2, if_pos ⟨Int32.not_le.mp h16, by by_cases e : gCan σ i tc = true; exact e; exact absurd (if_neg e) h24⟩], rfl⟩ d_Model_nextTest_28
  refine v_iconst (pc := 0) (v := 0) C d_Model_nextTest_0 (by decide) ?_
  refine v_istore_n (pc := 1) C d_Model_nextTest_1 rfl (by decide) ?_
  exact loop tc 0 (by omega) rfl
set_option maxRecDepth 100000 in
set_option maxHeartbeats 4000000 in
theorem m_looks (l : Launch) {D : va_G} {ad : Nat → Nat → Nat} {cA : Nat → ClassId} (hJ : ty_J cnM ad) (σ : ty_St) (tc : Nat) (htc : tc ≤ 12) (hc : σ 20 0 1 = nI tc) (hfs : ∀ t, t < 12 → 0 ≤ σ 31 0 t → vp_in (σ 34 0 t) 64) : ty_M l y_Model_looksAtTimes (Cond.code y_Model_looksAtTimes b_Model_looksAtTimes 2 none :: ty_w) (rmL 1) cnM D ad cA [.inr (20, 0)] σ (fun r σ' => r = none ∧ σ' = gLooks σ tc) := by
  refine ty_M.of rfl hJ layM (ty_oks.cons (show (0 : Nat) < cnM 20 by decide) ty_oks.nil) (Nat.le_of_ble_eq_true rfl) ?_
  intro p e s m args below meth c C hr hnm
  have loop : ∀ k i, i + k = tc → ∀ τ : ty_St, τ = gLooks σ i → ty_V cnM p l e (rmL 1) s m args below meth c D ad cA (ty_Gd cnM ad s) 2 (MQ below (ty_Q cnM D ad cA (fun r σ' => r = none ∧ σ' = gLooks σ tc) (ty_A cnM ad)) args s 0 0 (ty_A cnM ad)) τ [some (.inr (20, 0)), some (.inl (nI i))] 2 [] := by
    intro  k
    induction k with
    | zero =>
      intro i hi τ hτ
      have hb := (show τ 20 0 1 = nI tc by rw [hτ, gLooks_a (by decide) (by decide) (by decide) (by decide)]; exact hc)
      refine v_iload_n (pc := 2) C d_Model_looksAtTimes_2 rfl rfl ?_
      refine v_aload_n (pc := 3) C d_Model_looksAtTimes_3 rfl rfl ?_
      refine gf_Model_114 (pc := 4) C d_Model_looksAtTimes_4 ?_
      refine v_icmp_ge (pc := 7) (tgt := 82) C d_Model_looksAtTimes_7 (by decide) (fun h7 => ?_) (fun h7 => ?_)
      · exact v_return (pc := 82) C hr ⟨rfl, by rw [hτ, show i = tc by omega]⟩ d_Model_looksAtTimes_82
      · exact absurd (by rw [hb]; exact nI_le (by omega) (by omega)) h7
    | succ k ih =>
      intro i hi τ hτ
      have hb := (show τ 20 0 1 = nI tc by rw [hτ, gLooks_a (by decide) (by decide) (by decide) (by decide)]; exact hc)
      refine v_iload_n (pc := 2) C d_Model_looksAtTimes_2 rfl rfl ?_
      refine v_aload_n (pc := 3) C d_Model_looksAtTimes_3 rfl rfl ?_
      refine gf_Model_114 (pc := 4) C d_Model_looksAtTimes_4 ?_
      refine v_icmp_ge (pc := 7) (tgt := 82) C d_Model_looksAtTimes_7 (by decide) (fun h7 => ?_) (fun h7 => ?_)
      · exact absurd h7 (by rw [hb]; exact nI_ge (by omega) (by omega))
      · refine v_aload_n (pc := 10) C d_Model_looksAtTimes_10 rfl rfl ?_
        refine gf_Model_44 (pc := 11) C d_Model_looksAtTimes_11 ?_
        refine v_iload_n (pc := 14) C d_Model_looksAtTimes_14 rfl rfl ?_
        refine v_ialoadK (pc := 15) C rfl rfl (rfl) (by omega) (by decide) d_Model_looksAtTimes_15 ?_
        refine v_if_lt (pc := 16) (tgt := 76) C d_Model_looksAtTimes_16 (by decide) (fun h16 => ?_) (fun h16 => ?_)
        · refine v_iinc (pc := 76) C d_Model_looksAtTimes_76 rfl (show _ + Int32.ofInt 1 = _ + 1 from rfl) (by decide) ?_
          refine v_goto (pc := 79) (tgt := 2) C d_Model_looksAtTimes_79 (by decide) ?_
          rw [nI_1 i]
          refine ih (i + 1) (by omega) _ ?_
          show _ = gLook1 (gLooks σ i) i
          rw [← hτ]
          unfold gLook1
          rw [if_neg (fun q => absurd q.1 (Int32.not_le.mpr h16))]
        · refine v_aload_n (pc := 19) C d_Model_looksAtTimes_19 rfl rfl ?_
          refine gf_Model_38 (pc := 20) C d_Model_looksAtTimes_20 ?_
          refine v_iload_n (pc := 23) C d_Model_looksAtTimes_23 rfl rfl ?_
          refine v_ialoadK (pc := 24) C rfl rfl (rfl) (by omega) (by decide) d_Model_looksAtTimes_24 ?_
          refine v_if_ne (pc := 25) (tgt := 76) C d_Model_looksAtTimes_25 (by decide) (fun h25 => ?_) (fun h25 => ?_)
          · refine v_iinc (pc := 76) C d_Model_looksAtTimes_76 rfl (show _ + Int32.ofInt 1 = _ + 1 from rfl) (by decide) ?_
            refine v_goto (pc := 79) (tgt := 2) C d_Model_looksAtTimes_79 (by decide) ?_
            rw [nI_1 i]
            refine ih (i + 1) (by omega) _ ?_
            show _ = gLook1 (gLooks σ i) i
            rw [← hτ]
            unfold gLook1
            rw [if_neg (fun q => h25 q.2.1)]
          · refine v_aload_n (pc := 28) C d_Model_looksAtTimes_28 rfl rfl ?_
            refine gf_Model_29 (pc := 29) C d_Model_looksAtTimes_29 ?_
            refine v_iload_n (pc := 32) C d_Model_looksAtTimes_32 rfl rfl ?_
            refine v_ialoadK (pc := 33) C rfl rfl (rfl) (by omega) (by decide) d_Model_looksAtTimes_33 ?_
            refine v_if_le (pc := 34) (tgt := 76) C d_Model_looksAtTimes_34 (by decide) (fun h34 => ?_) (fun h34 => ?_)
            · refine v_iinc (pc := 76) C d_Model_looksAtTimes_76 rfl (show _ + Int32.ofInt 1 = _ + 1 from rfl) (by decide) ?_
              refine v_goto (pc := 79) (tgt := 2) C d_Model_looksAtTimes_79 (by decide) ?_
              rw [nI_1 i]
              refine ih (i + 1) (by omega) _ ?_
              show _ = gLook1 (gLooks σ i) i
              rw [← hτ]
              unfold gLook1
              rw [if_neg (fun q => absurd q.2.2.1 (Int32.not_lt.mpr h34))]
            · refine v_aload_n (pc := 37) C d_Model_looksAtTimes_37 rfl rfl ?_
              refine gf_Model_117 (pc := 38) C d_Model_looksAtTimes_38 ?_
              refine v_aload_n (pc := 41) C d_Model_looksAtTimes_41 rfl rfl ?_
              refine gf_Model_44 (pc := 42) C d_Model_looksAtTimes_42 ?_
              refine v_iload_n (pc := 45) C d_Model_looksAtTimes_45 rfl rfl ?_
              refine v_ialoadK (pc := 46) C rfl rfl (rfl) (by omega) (by decide) d_Model_looksAtTimes_46 ?_
              refine v_aload_n (pc := 47) C d_Model_looksAtTimes_47 rfl rfl ?_
              refine gf_Model_29 (pc := 48) C d_Model_looksAtTimes_48 ?_
              refine v_iload_n (pc := 51) C d_Model_looksAtTimes_51 rfl rfl ?_
              refine v_ialoadK (pc := 52) C rfl rfl (rfl) (by omega) (by decide) d_Model_looksAtTimes_52 ?_
              refine v_iadd (pc := 53) C d_Model_looksAtTimes_53 ?_
              refine v_icmp_lt (pc := 54) (tgt := 76) C d_Model_looksAtTimes_54 (by decide) (fun h54 => ?_) (fun h54 => ?_)
              · refine v_iinc (pc := 76) C d_Model_looksAtTimes_76 rfl (show _ + Int32.ofInt 1 = _ + 1 from rfl) (by decide) ?_
                refine v_goto (pc := 79) (tgt := 2) C d_Model_looksAtTimes_79 (by decide) ?_
                rw [nI_1 i]
                refine ih (i + 1) (by omega) _ ?_
                show _ = gLook1 (gLooks σ i) i
                rw [← hτ]
                unfold gLook1
                rw [if_neg (fun q => absurd q.2.2.2 (Int32.not_le.mpr h54))]
              · refine v_aload_n (pc := 57) C d_Model_looksAtTimes_57 rfl rfl ?_
                refine v_iload_n (pc := 58) C d_Model_looksAtTimes_58 rfl rfl ?_
                refine v_iconst (pc := 59) (v := 3) C d_Model_looksAtTimes_59 (by decide) ?_
                refine v_iconst (pc := 60) (v := (-1)) C d_Model_looksAtTimes_60 (by decide) ?_
                refine cl_Model_127 (pc := 61) C (m_judged l hJ τ _ i (by omega) rfl _ _) ⟨rfl, rfl, by decide, by decide⟩ rfl rfl (Nat.le_of_ble_eq_true rfl) d_Model_looksAtTimes_61 (fun r σ' hq => ?_)
                rw [hq.1, hq.2]
                refine v_aload_n (pc := 64) C d_Model_looksAtTimes_64 rfl rfl ?_
                refine gf_Model_87 (pc := 65) C d_Model_looksAtTimes_65 ?_
                refine v_aload_n (pc := 68) C d_Model_looksAtTimes_68 rfl rfl ?_
                refine gf_Model_53 (pc := 69) C d_Model_looksAtTimes_69 ?_
                refine v_iload_n (pc := 72) C d_Model_looksAtTimes_72 rfl rfl ?_
                refine v_ialoadK (pc := 73) C rfl rfl (rfl) (by omega) (by decide) d_Model_looksAtTimes_73 ?_
                refine v_iconst (pc := 74) (v := 1) C d_Model_looksAtTimes_74 (by decide) ?_
                refine v_bastore (pc := 75) C rfl rfl (by have := hfs i (by omega); rw [hτ] at h16 ⊢; rw [gLooks_a (by decide) (by decide) (by decide) (by decide)] at h16; exact (show vp_in ((gLooks σ i) 34 0 i) 64 from by rw [gLooks_a (by decide) (by decide) (by decide) (by decide)]; exact this (Int32.not_lt.mp h16))) rfl d_Model_looksAtTimes_75 ?_
                refine v_iinc (pc := 76) C d_Model_looksAtTimes_76 rfl (show _ + Int32.ofInt 1 = _ + 1 from rfl) (by decide) ?_
                refine v_goto (pc := 79) (tgt := 2) C d_Model_looksAtTimes_79 (by decide) ?_
                rw [nI_1 i]
                refine ih (i + 1) (by omega) _ ?_
                show _ = gLook1 (gLooks σ i) i
                rw [← hτ]
                unfold gLook1
                rw [if_pos ⟨Int32.not_lt.mp h16, h25, Int32.not_le.mp h34, Int32.not_lt.mp h54⟩]
                rfl
  refine v_iconst (pc := 0) (v := 0) C d_Model_looksAtTimes_0 (by decide) ?_
  refine v_istore_n (pc := 1) C d_Model_looksAtTimes_1 rfl (by decide) ?_
  exact loop tc 0 (by omega) σ rfl
set_option maxRecDepth 100000 in
set_option maxHeartbeats 4000000 in
theorem m_done (l : Launch) {D : va_G} {ad : Nat → Nat → Nat} {cA : Nat → ClassId} (hJ : ty_J cnM ad) (σ : ty_St) (tc : Nat) (htc : tc ≤ 12) (hc : σ 20 0 1 = nI tc) (wc : Nat) (hwc : wc ≤ 4) (hw : σ 20 0 2 = nI wc) (hto : ∀ w, w < 4 → 0 ≤ σ 38 0 w → vp_in (σ 38 0 w) 12 ∧ vp_in (σ 34 0 (nn (σ 38 0 w))) 64) : ty_M l y_Model_isDone (Cond.code y_Model_isDone b_Model_isDone 2 (some .boolean) :: ty_w) (rmL 1) cnM D ad cA [.inr (20, 0)] σ (fun r σ' => r = some (.inl (if gDone σ tc = true ∧ gIdle σ wc = true then 1 else 0)) ∧ σ' = σ) := by
  refine ty_M.of rfl hJ layM (ty_oks.cons (show (0 : Nat) < cnM 20 by decide) ty_oks.nil) (Nat.le_of_ble_eq_true rfl) ?_
  intro p e s m args below meth c C hr hnm
  have loop2 : ∀ k i, i + k = wc → gDone σ tc = true → gIdle σ i = true → ty_V cnM p l e (rmL 1) s m args below meth c D ad cA (ty_Gd cnM ad s) 2 (MQ below (ty_Q cnM D ad cA (fun r σ' => r = some (.inl (if gDone σ tc = true ∧ gIdle σ wc = true then 1 else 0)) ∧ σ' = σ) (ty_A cnM ad)) args s 0 0 (ty_A cnM ad)) σ [some (.inr (20, 0)), some (.inl (nI i))] 29 [] := by
    intro  k
    induction k with
    | zero =>
      intro i hi hD hi0
      have hb := hw
      refine v_iload_n (pc := 29) C d_Model_isDone_29 rfl rfl ?_
      refine v_aload_n (pc := 30) C d_Model_isDone_30 rfl rfl ?_
      refine gf_Model_7 (pc := 31) C d_Model_isDone_31 ?_
      refine v_icmp_ge (pc := 34) (tgt := 53) C d_Model_isDone_34 (by decide) (fun h34 => ?_) (fun h34 => ?_)
      · refine v_iconst (pc := 53) (v := 1) C d_Model_isDone_53 (by decide) ?_
        exact v_zreturn (pc := 54) C hr rfl ⟨by rw [if_pos ⟨hD, by rw [show wc = i by omega]; exact hi0⟩], rfl⟩ d_Model_isDone_54
      · exact absurd (by rw [hb]; exact nI_le (by omega) (by omega)) h34
    | succ k ih =>
      intro i hi hD hi0
      have hb := hw
      refine v_iload_n (pc := 29) C d_Model_isDone_29 rfl rfl ?_
      refine v_aload_n (pc := 30) C d_Model_isDone_30 rfl rfl ?_
      refine gf_Model_7 (pc := 31) C d_Model_isDone_31 ?_
      refine v_icmp_ge (pc := 34) (tgt := 53) C d_Model_isDone_34 (by decide) (fun h34 => ?_) (fun h34 => ?_)
      · exact absurd h34 (by rw [hb]; exact nI_ge (by omega) (by omega))
      · refine v_aload_n (pc := 37) C d_Model_isDone_37 rfl rfl ?_
        refine v_iload_n (pc := 38) C d_Model_isDone_38 rfl rfl ?_
        refine cl_Model_166 (pc := 39) C (m_isFree l hJ σ i (by omega) (hto i (by omega))) ⟨rfl, rfl, by decide, by decide⟩ rfl rfl (Nat.le_of_ble_eq_true rfl) d_Model_isDone_39 (fun r σ' hq => ?_)
        rw [hq.1, hq.2]
        refine v_if_ne (pc := 42) (tgt := 47) C d_Model_isDone_42 (by decide) (fun h42 => ?_) (fun h42 => ?_)
        · refine v_iinc (pc := 47) C d_Model_isDone_47 rfl (show _ + Int32.ofInt 1 = _ + 1 from rfl) (by decide) ?_
          refine v_goto (pc := 50) (tgt := 29) C d_Model_isDone_50 (by decide) ?_
          rw [nI_1 i]
          exact ih (i + 1) (by omega) hD (by rw [gIdle, hi0, Bool.true_and]; by_cases e : gFree σ i = true; exact e; exact absurd (if_neg e) h42)
        · refine v_iconst (pc := 45) (v := 0) C d_Model_isDone_45 (by decide) ?_
          exact v_zreturn (pc := 46) C hr rfl ⟨by
            have : ¬ gIdle σ wc = true := fun q => by have := gIdle_mono (show i + 1 ≤ wc by omega) q; simp [gIdle] at this; rw [if_pos this.2] at h42; exact absurd h42 (by decide)
            rw [if_neg (fun q => this q.2)], rfl⟩ d_Model_isDone_46
  have loop1 : ∀ k i, i + k = tc → gDone σ i = true → ty_V cnM p l e (rmL 1) s m args below meth c D ad cA (ty_Gd cnM ad s) 2 (MQ below (ty_Q cnM D ad cA (fun r σ' => r = some (.inl (if gDone σ tc = true ∧ gIdle σ wc = true then 1 else 0)) ∧ σ' = σ) (ty_A cnM ad)) args s 0 0 (ty_A cnM ad)) σ [some (.inr (20, 0)), some (.inl (nI i))] 2 [] := by
    intro  k
    induction k with
    | zero =>
      intro i hi hi0
      have hb := hc
      refine v_iload_n (pc := 2) C d_Model_isDone_2 rfl rfl ?_
      refine v_aload_n (pc := 3) C d_Model_isDone_3 rfl rfl ?_
      refine gf_Model_114 (pc := 4) C d_Model_isDone_4 ?_
      refine v_icmp_ge (pc := 7) (tgt := 27) C d_Model_isDone_7 (by decide) (fun h7 => ?_) (fun h7 => ?_)
      · refine v_iconst (pc := 27) (v := 0) C d_Model_isDone_27 (by decide) ?_
        refine v_istore_n (pc := 28) C d_Model_isDone_28 rfl (by decide) ?_
        exact loop2 wc 0 (by omega) (by rw [show tc = i by omega]; exact hi0) rfl
      · exact absurd (by rw [hb]; exact nI_le (by omega) (by omega)) h7
    | succ k ih =>
      intro i hi hi0
      have hb := hc
      refine v_iload_n (pc := 2) C d_Model_isDone_2 rfl rfl ?_
      refine v_aload_n (pc := 3) C d_Model_isDone_3 rfl rfl ?_
      refine gf_Model_114 (pc := 4) C d_Model_isDone_4 ?_
      refine v_icmp_ge (pc := 7) (tgt := 27) C d_Model_isDone_7 (by decide) (fun h7 => ?_) (fun h7 => ?_)
      · exact absurd h7 (by rw [hb]; exact nI_ge (by omega) (by omega))
      · refine v_aload_n (pc := 10) C d_Model_isDone_10 rfl rfl ?_
        refine gf_Model_38 (pc := 11) C d_Model_isDone_11 ?_
        refine v_iload_n (pc := 14) C d_Model_isDone_14 rfl rfl ?_
        refine v_ialoadK (pc := 15) C rfl rfl (rfl) (by omega) (by decide) d_Model_isDone_15 ?_
        refine v_if_ne (pc := 16) (tgt := 21) C d_Model_isDone_16 (by decide) (fun h16 => ?_) (fun h16 => ?_)
        · refine v_iinc (pc := 21) C d_Model_isDone_21 rfl (show _ + Int32.ofInt 1 = _ + 1 from rfl) (by decide) ?_
          refine v_goto (pc := 24) (tgt := 2) C d_Model_isDone_24 (by decide) ?_
          rw [nI_1 i]
          exact ih (i + 1) (by omega) (by simp [gDone, hi0, h16])
        · refine v_iconst (pc := 19) (v := 0) C d_Model_isDone_19 (by decide) ?_
          exact v_zreturn (pc := 20) C hr rfl ⟨by
            have : ¬ gDone σ tc = true := fun q => by have := gDone_mono (show i + 1 ≤ tc by omega) q; simp [gDone, h16] at this
            rw [if_neg (fun q => this q.1)], rfl⟩ d_Model_isDone_20
  refine v_iconst (pc := 0) (v := 0) C d_Model_isDone_0 (by decide) ?_
  refine v_istore_n (pc := 1) C d_Model_isDone_1 rfl (by decide) ?_
  exact loop1 tc 0 (by omega) rfl
end
