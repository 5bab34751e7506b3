section
-- ===== PART A: goes FIRST, ahead of the names: the tables' words, and 'selects' of the private methods out of them =====
/-- a private method of a class that the tables say can be made, by its rows of tables_1 -/
def lw_okq (q : MethodName × Nat) : Prop := (q.1.cls ≠ "java/lang/invoke/MethodHandle" ∧ q.1.cls ≠ "java/lang/invoke/VarHandle") ∧ Cond.instantiable q.1.cls q.2 ∈ tables_1 ∧ Cond.privateMethod q.1 ∈ tables_1 ∧ Cond.instanceMethod q.1 ∈ tables_1
theorem lw_p0 : lw_okq (⟨"RatePlans$Net", "begin", "(I)V"⟩, 11) := ⟨⟨by decide +kernel, by decide +kernel⟩, List.mem_of_getElem? (i := 23) (by decide +kernel), List.mem_of_getElem? (i := 29) (by decide +kernel), List.mem_of_getElem? (i := 30) (by decide +kernel)⟩
theorem lw_p1 : lw_okq (⟨"RatePlans", "forgetAnswers", "()V"⟩, 4) := ⟨⟨by decide +kernel, by decide +kernel⟩, List.mem_of_getElem? (i := 15) (by decide +kernel), List.mem_of_getElem? (i := 207) (by decide +kernel), List.mem_of_getElem? (i := 208) (by decide +kernel)⟩
theorem lw_p2 : lw_okq (⟨"RatePlans$Net", "hasActor", "(I)Z"⟩, 11) := ⟨⟨by decide +kernel, by decide +kernel⟩, List.mem_of_getElem? (i := 23) (by decide +kernel), List.mem_of_getElem? (i := 215) (by decide +kernel), List.mem_of_getElem? (i := 216) (by decide +kernel)⟩
theorem lw_p3 : lw_okq (⟨"RatePlans$Net", "add", "(IIIII)I"⟩, 11) := ⟨⟨by decide +kernel, by decide +kernel⟩, List.mem_of_getElem? (i := 23) (by decide +kernel), List.mem_of_getElem? (i := 223) (by decide +kernel), List.mem_of_getElem? (i := 224) (by decide +kernel)⟩
theorem lw_p4 : lw_okq (⟨"RatePlans$Net", "balance", "(I)V"⟩, 11) := ⟨⟨by decide +kernel, by decide +kernel⟩, List.mem_of_getElem? (i := 23) (by decide +kernel), List.mem_of_getElem? (i := 227) (by decide +kernel), List.mem_of_getElem? (i := 228) (by decide +kernel)⟩
theorem lw_p5 : lw_okq (⟨"RatePlans$Net", "multiply", "(II)V"⟩, 11) := ⟨⟨by decide +kernel, by decide +kernel⟩, List.mem_of_getElem? (i := 23) (by decide +kernel), List.mem_of_getElem? (i := 237) (by decide +kernel), List.mem_of_getElem? (i := 238) (by decide +kernel)⟩
theorem lw_p6 : lw_okq (⟨"RatePlans$Net", "join", "(II)V"⟩, 11) := ⟨⟨by decide +kernel, by decide +kernel⟩, List.mem_of_getElem? (i := 23) (by decide +kernel), List.mem_of_getElem? (i := 241) (by decide +kernel), List.mem_of_getElem? (i := 242) (by decide +kernel)⟩
theorem lw_p7 : lw_okq (⟨"RatePlans", "findRound", "()Z"⟩, 4) := ⟨⟨by decide +kernel, by decide +kernel⟩, List.mem_of_getElem? (i := 15) (by decide +kernel), List.mem_of_getElem? (i := 259) (by decide +kernel), List.mem_of_getElem? (i := 260) (by decide +kernel)⟩
theorem lw_p8 : lw_okq (⟨"RatePlans$Net", "isUneven", "()Z"⟩, 11) := ⟨⟨by decide +kernel, by decide +kernel⟩, List.mem_of_getElem? (i := 23) (by decide +kernel), List.mem_of_getElem? (i := 263) (by decide +kernel), List.mem_of_getElem? (i := 264) (by decide +kernel)⟩
theorem lw_p9 : lw_okq (⟨"RatePlans$Net", "isGreat", "()Z"⟩, 11) := ⟨⟨by decide +kernel, by decide +kernel⟩, List.mem_of_getElem? (i := 23) (by decide +kernel), List.mem_of_getElem? (i := 267) (by decide +kernel), List.mem_of_getElem? (i := 268) (by decide +kernel)⟩
theorem lw_p10 : lw_okq (⟨"RatePlans$Round", "play", "(LRatePlans$Net;)V"⟩, 6) := ⟨⟨by decide +kernel, by decide +kernel⟩, List.mem_of_getElem? (i := 95) (by decide +kernel), List.mem_of_getElem? (i := 271) (by decide +kernel), List.mem_of_getElem? (i := 272) (by decide +kernel)⟩
theorem lw_p11 : lw_okq (⟨"RatePlans$Round", "begin", "(LRatePlans$Net;)V"⟩, 6) := ⟨⟨by decide +kernel, by decide +kernel⟩, List.mem_of_getElem? (i := 95) (by decide +kernel), List.mem_of_getElem? (i := 275) (by decide +kernel), List.mem_of_getElem? (i := 276) (by decide +kernel)⟩
theorem lw_p12 : lw_okq (⟨"RatePlans$Round", "leastReady", "(LRatePlans$Net;)I"⟩, 6) := ⟨⟨by decide +kernel, by decide +kernel⟩, List.mem_of_getElem? (i := 95) (by decide +kernel), List.mem_of_getElem? (i := 279) (by decide +kernel), List.mem_of_getElem? (i := 280) (by decide +kernel)⟩
theorem lw_p13 : lw_okq (⟨"RatePlans$Round", "hasEnough", "(LRatePlans$Net;I)Z"⟩, 6) := ⟨⟨by decide +kernel, by decide +kernel⟩, List.mem_of_getElem? (i := 95) (by decide +kernel), List.mem_of_getElem? (i := 283) (by decide +kernel), List.mem_of_getElem? (i := 284) (by decide +kernel)⟩
theorem lw_p14 : lw_okq (⟨"RatePlans$Round", "fire", "(LRatePlans$Net;I)V"⟩, 6) := ⟨⟨by decide +kernel, by decide +kernel⟩, List.mem_of_getElem? (i := 95) (by decide +kernel), List.mem_of_getElem? (i := 287) (by decide +kernel), List.mem_of_getElem? (i := 288) (by decide +kernel)⟩
theorem lw_p15 : lw_okq (⟨"RatePlans$Net", "hasChannel", "(I)Z"⟩, 11) := ⟨⟨by decide +kernel, by decide +kernel⟩, List.mem_of_getElem? (i := 23) (by decide +kernel), List.mem_of_getElem? (i := 296) (by decide +kernel), List.mem_of_getElem? (i := 297) (by decide +kernel)⟩
def lw_privs_1 : List (MethodName × Nat) := [(⟨"RatePlans$Net", "begin", "(I)V"⟩, 11), (⟨"RatePlans", "forgetAnswers", "()V"⟩, 4), (⟨"RatePlans$Net", "hasActor", "(I)Z"⟩, 11), (⟨"RatePlans$Net", "add", "(IIIII)I"⟩, 11), (⟨"RatePlans$Net", "balance", "(I)V"⟩, 11), (⟨"RatePlans$Net", "multiply", "(II)V"⟩, 11), (⟨"RatePlans$Net", "join", "(II)V"⟩, 11), (⟨"RatePlans", "findRound", "()Z"⟩, 4), (⟨"RatePlans$Net", "isUneven", "()Z"⟩, 11), (⟨"RatePlans$Net", "isGreat", "()Z"⟩, 11), (⟨"RatePlans$Round", "play", "(LRatePlans$Net;)V"⟩, 6), (⟨"RatePlans$Round", "begin", "(LRatePlans$Net;)V"⟩, 6), (⟨"RatePlans$Round", "leastReady", "(LRatePlans$Net;)I"⟩, 6), (⟨"RatePlans$Round", "hasEnough", "(LRatePlans$Net;I)Z"⟩, 6), (⟨"RatePlans$Round", "fire", "(LRatePlans$Net;I)V"⟩, 6), (⟨"RatePlans$Net", "hasChannel", "(I)Z"⟩, 11)]
theorem lw_r1 : ∀ q ∈ lw_privs_1, lw_okq q := List.forall_mem_cons.mpr ⟨lw_p0, List.forall_mem_cons.mpr ⟨lw_p1, List.forall_mem_cons.mpr ⟨lw_p2, List.forall_mem_cons.mpr ⟨lw_p3, List.forall_mem_cons.mpr ⟨lw_p4, List.forall_mem_cons.mpr ⟨lw_p5, List.forall_mem_cons.mpr ⟨lw_p6, List.forall_mem_cons.mpr ⟨lw_p7, List.forall_mem_cons.mpr ⟨lw_p8, List.forall_mem_cons.mpr ⟨lw_p9, List.forall_mem_cons.mpr ⟨lw_p10, List.forall_mem_cons.mpr ⟨lw_p11, List.forall_mem_cons.mpr ⟨lw_p12, List.forall_mem_cons.mpr ⟨lw_p13, List.forall_mem_cons.mpr ⟨lw_p14, List.forall_mem_cons.mpr ⟨lw_p15, fun _ h => absurd h List.not_mem_nil⟩⟩⟩⟩⟩⟩⟩⟩⟩⟩⟩⟩⟩⟩⟩⟩
theorem lw_p16 : lw_okq (⟨"RatePlans$Net", "isChain", "()Z"⟩, 11) := ⟨⟨by decide +kernel, by decide +kernel⟩, List.mem_of_getElem? (i := 23) (by decide +kernel), List.mem_of_getElem? (i := 304) (by decide +kernel), List.mem_of_getElem? (i := 305) (by decide +kernel)⟩
theorem lw_p17 : lw_okq (⟨"RatePlans$Rooms", "ofAll", "(LRatePlans$Net;)I"⟩, 1) := ⟨⟨by decide +kernel, by decide +kernel⟩, List.mem_of_getElem? (i := 174) (by decide +kernel), List.mem_of_getElem? (i := 308) (by decide +kernel), List.mem_of_getElem? (i := 309) (by decide +kernel)⟩
theorem lw_p18 : lw_okq (⟨"RatePlans$Rooms", "ofBestCut", "(LRatePlans$Net;III)I"⟩, 1) := ⟨⟨by decide +kernel, by decide +kernel⟩, List.mem_of_getElem? (i := 174) (by decide +kernel), List.mem_of_getElem? (i := 313) (by decide +kernel), List.mem_of_getElem? (i := 314) (by decide +kernel)⟩
theorem lw_p19 : lw_okq (⟨"RatePlans$Net", "parts", "()I"⟩, 11) := ⟨⟨by decide +kernel, by decide +kernel⟩, List.mem_of_getElem? (i := 23) (by decide +kernel), List.mem_of_getElem? (i := 324) (by decide +kernel), List.mem_of_getElem? (i := 325) (by decide +kernel)⟩
theorem lw_p20 : lw_okq (⟨"java/lang/Throwable", "fillInStackTrace", "(I)Ljava/lang/Throwable;"⟩, 6) := ⟨⟨by decide +kernel, by decide +kernel⟩, List.mem_of_getElem? (i := 375) (by decide +kernel), List.mem_of_getElem? (i := 373) (by decide +kernel), List.mem_of_getElem? (i := 374) (by decide +kernel)⟩
theorem lw_p21 : lw_okq (⟨"RatePlans$Round", "isAlive", "(LRatePlans$Net;)Z"⟩, 6) := ⟨⟨by decide +kernel, by decide +kernel⟩, List.mem_of_getElem? (i := 95) (by decide +kernel), List.mem_of_getElem? (i := 453) (by decide +kernel), List.mem_of_getElem? (i := 454) (by decide +kernel)⟩
theorem lw_p22 : lw_okq (⟨"RatePlans$Net", "isClosed", "(I)Z"⟩, 11) := ⟨⟨by decide +kernel, by decide +kernel⟩, List.mem_of_getElem? (i := 23) (by decide +kernel), List.mem_of_getElem? (i := 457) (by decide +kernel), List.mem_of_getElem? (i := 458) (by decide +kernel)⟩
theorem lw_p23 : lw_okq (⟨"RatePlans$Net", "reached", "(I[I[I)I"⟩, 11) := ⟨⟨by decide +kernel, by decide +kernel⟩, List.mem_of_getElem? (i := 23) (by decide +kernel), List.mem_of_getElem? (i := 461) (by decide +kernel), List.mem_of_getElem? (i := 462) (by decide +kernel)⟩
theorem lw_p24 : lw_okq (⟨"RatePlans$Net", "countsOfPart", "(I)I"⟩, 11) := ⟨⟨by decide +kernel, by decide +kernel⟩, List.mem_of_getElem? (i := 23) (by decide +kernel), List.mem_of_getElem? (i := 466) (by decide +kernel), List.mem_of_getElem? (i := 467) (by decide +kernel)⟩
theorem lw_p25 : lw_okq (⟨"RatePlans$Pacer", "find", "(LRatePlans$Net;I)V"⟩, 13) := ⟨⟨by decide +kernel, by decide +kernel⟩, List.mem_of_getElem? (i := 125) (by decide +kernel), List.mem_of_getElem? (i := 471) (by decide +kernel), List.mem_of_getElem? (i := 472) (by decide +kernel)⟩
theorem lw_p26 : lw_okq (⟨"RatePlans$Pacer", "addFirings", "(LRatePlans$Net;I)V"⟩, 13) := ⟨⟨by decide +kernel, by decide +kernel⟩, List.mem_of_getElem? (i := 125) (by decide +kernel), List.mem_of_getElem? (i := 475) (by decide +kernel), List.mem_of_getElem? (i := 476) (by decide +kernel)⟩
theorem lw_p27 : lw_okq (⟨"RatePlans$Pacer", "addFiringsOf", "(III)V"⟩, 13) := ⟨⟨by decide +kernel, by decide +kernel⟩, List.mem_of_getElem? (i := 125) (by decide +kernel), List.mem_of_getElem? (i := 479) (by decide +kernel), List.mem_of_getElem? (i := 480) (by decide +kernel)⟩
theorem lw_p28 : lw_okq (⟨"RatePlans$Pacer", "addEdge", "(III)V"⟩, 13) := ⟨⟨by decide +kernel, by decide +kernel⟩, List.mem_of_getElem? (i := 125) (by decide +kernel), List.mem_of_getElem? (i := 483) (by decide +kernel), List.mem_of_getElem? (i := 484) (by decide +kernel)⟩
theorem lw_p29 : lw_okq (⟨"RatePlans$Pacer", "addWaits", "(LRatePlans$Net;I)V"⟩, 13) := ⟨⟨by decide +kernel, by decide +kernel⟩, List.mem_of_getElem? (i := 125) (by decide +kernel), List.mem_of_getElem? (i := 487) (by decide +kernel), List.mem_of_getElem? (i := 488) (by decide +kernel)⟩
theorem lw_p30 : lw_okq (⟨"RatePlans$Pacer", "addWaitsOf", "(LRatePlans$Net;I)V"⟩, 13) := ⟨⟨by decide +kernel, by decide +kernel⟩, List.mem_of_getElem? (i := 125) (by decide +kernel), List.mem_of_getElem? (i := 491) (by decide +kernel), List.mem_of_getElem? (i := 492) (by decide +kernel)⟩
theorem lw_p31 : lw_okq (⟨"RatePlans$Pacer", "beginWithSlowestActor", "(LRatePlans$Net;I)V"⟩, 13) := ⟨⟨by decide +kernel, by decide +kernel⟩, List.mem_of_getElem? (i := 125) (by decide +kernel), List.mem_of_getElem? (i := 501) (by decide +kernel), List.mem_of_getElem? (i := 502) (by decide +kernel)⟩
def lw_privs_2 : List (MethodName × Nat) := [(⟨"RatePlans$Net", "isChain", "()Z"⟩, 11), (⟨"RatePlans$Rooms", "ofAll", "(LRatePlans$Net;)I"⟩, 1), (⟨"RatePlans$Rooms", "ofBestCut", "(LRatePlans$Net;III)I"⟩, 1), (⟨"RatePlans$Net", "parts", "()I"⟩, 11), (⟨"java/lang/Throwable", "fillInStackTrace", "(I)Ljava/lang/Throwable;"⟩, 6), (⟨"RatePlans$Round", "isAlive", "(LRatePlans$Net;)Z"⟩, 6), (⟨"RatePlans$Net", "isClosed", "(I)Z"⟩, 11), (⟨"RatePlans$Net", "reached", "(I[I[I)I"⟩, 11), (⟨"RatePlans$Net", "countsOfPart", "(I)I"⟩, 11), (⟨"RatePlans$Pacer", "find", "(LRatePlans$Net;I)V"⟩, 13), (⟨"RatePlans$Pacer", "addFirings", "(LRatePlans$Net;I)V"⟩, 13), (⟨"RatePlans$Pacer", "addFiringsOf", "(III)V"⟩, 13), (⟨"RatePlans$Pacer", "addEdge", "(III)V"⟩, 13), (⟨"RatePlans$Pacer", "addWaits", "(LRatePlans$Net;I)V"⟩, 13), (⟨"RatePlans$Pacer", "addWaitsOf", "(LRatePlans$Net;I)V"⟩, 13), (⟨"RatePlans$Pacer", "beginWithSlowestActor", "(LRatePlans$Net;I)V"⟩, 13)]
theorem lw_r2 : ∀ q ∈ lw_privs_2, lw_okq q := List.forall_mem_cons.mpr ⟨lw_p16, List.forall_mem_cons.mpr ⟨lw_p17, List.forall_mem_cons.mpr ⟨lw_p18, List.forall_mem_cons.mpr ⟨lw_p19, List.forall_mem_cons.mpr ⟨lw_p20, List.forall_mem_cons.mpr ⟨lw_p21, List.forall_mem_cons.mpr ⟨lw_p22, List.forall_mem_cons.mpr ⟨lw_p23, List.forall_mem_cons.mpr ⟨lw_p24, List.forall_mem_cons.mpr ⟨lw_p25, List.forall_mem_cons.mpr ⟨lw_p26, List.forall_mem_cons.mpr ⟨lw_p27, List.forall_mem_cons.mpr ⟨lw_p28, List.forall_mem_cons.mpr ⟨lw_p29, List.forall_mem_cons.mpr ⟨lw_p30, List.forall_mem_cons.mpr ⟨lw_p31, fun _ h => absurd h List.not_mem_nil⟩⟩⟩⟩⟩⟩⟩⟩⟩⟩⟩⟩⟩⟩⟩⟩
theorem lw_p32 : lw_okq (⟨"RatePlans$Pacer", "nodeOnSlowerLoop", "()I"⟩, 13) := ⟨⟨by decide +kernel, by decide +kernel⟩, List.mem_of_getElem? (i := 125) (by decide +kernel), List.mem_of_getElem? (i := 506) (by decide +kernel), List.mem_of_getElem? (i := 507) (by decide +kernel)⟩
theorem lw_p33 : lw_okq (⟨"RatePlans$Pacer", "raiseAll", "()Z"⟩, 13) := ⟨⟨by decide +kernel, by decide +kernel⟩, List.mem_of_getElem? (i := 125) (by decide +kernel), List.mem_of_getElem? (i := 510) (by decide +kernel), List.mem_of_getElem? (i := 511) (by decide +kernel)⟩
theorem lw_p34 : lw_okq (⟨"RatePlans$Pacer", "nodeOnLoopOfRaises", "()I"⟩, 13) := ⟨⟨by decide +kernel, by decide +kernel⟩, List.mem_of_getElem? (i := 125) (by decide +kernel), List.mem_of_getElem? (i := 514) (by decide +kernel), List.mem_of_getElem? (i := 515) (by decide +kernel)⟩
theorem lw_p35 : lw_okq (⟨"RatePlans$Pacer", "nodeAhead", "(I)I"⟩, 13) := ⟨⟨by decide +kernel, by decide +kernel⟩, List.mem_of_getElem? (i := 125) (by decide +kernel), List.mem_of_getElem? (i := 518) (by decide +kernel), List.mem_of_getElem? (i := 519) (by decide +kernel)⟩
theorem lw_p36 : lw_okq (⟨"RatePlans$Pacer", "takeRatioOf", "(I)V"⟩, 13) := ⟨⟨by decide +kernel, by decide +kernel⟩, List.mem_of_getElem? (i := 125) (by decide +kernel), List.mem_of_getElem? (i := 522) (by decide +kernel), List.mem_of_getElem? (i := 523) (by decide +kernel)⟩
theorem lw_p37 : lw_okq (⟨"RatePlansModel", "know", "()V"⟩, 34) := ⟨⟨by decide +kernel, by decide +kernel⟩, List.mem_of_getElem? (i := 528) (by decide +kernel), List.mem_of_getElem? (i := 662) (by decide +kernel), List.mem_of_getElem? (i := 663) (by decide +kernel)⟩
theorem lw_p38 : lw_okq (⟨"RatePlansModel", "fits", "(I)Z"⟩, 34) := ⟨⟨by decide +kernel, by decide +kernel⟩, List.mem_of_getElem? (i := 528) (by decide +kernel), List.mem_of_getElem? (i := 666) (by decide +kernel), List.mem_of_getElem? (i := 667) (by decide +kernel)⟩
theorem lw_p39 : lw_okq (⟨"RatePlansModel", "set", "(IJJ)V"⟩, 34) := ⟨⟨by decide +kernel, by decide +kernel⟩, List.mem_of_getElem? (i := 528) (by decide +kernel), List.mem_of_getElem? (i := 670) (by decide +kernel), List.mem_of_getElem? (i := 671) (by decide +kernel)⟩
theorem lw_p40 : lw_okq (⟨"RatePlansModel", "reach", "(I)Z"⟩, 34) := ⟨⟨by decide +kernel, by decide +kernel⟩, List.mem_of_getElem? (i := 528) (by decide +kernel), List.mem_of_getElem? (i := 677) (by decide +kernel), List.mem_of_getElem? (i := 678) (by decide +kernel)⟩
theorem lw_p41 : lw_okq (⟨"RatePlansModel", "findCounts", "()V"⟩, 34) := ⟨⟨by decide +kernel, by decide +kernel⟩, List.mem_of_getElem? (i := 528) (by decide +kernel), List.mem_of_getElem? (i := 681) (by decide +kernel), List.mem_of_getElem? (i := 682) (by decide +kernel)⟩
theorem lw_p42 : lw_okq (⟨"RatePlansModel", "leastOf", "(I)I"⟩, 34) := ⟨⟨by decide +kernel, by decide +kernel⟩, List.mem_of_getElem? (i := 528) (by decide +kernel), List.mem_of_getElem? (i := 685) (by decide +kernel), List.mem_of_getElem? (i := 686) (by decide +kernel)⟩
theorem lw_p43 : lw_okq (⟨"RatePlansModel", "round", "()V"⟩, 34) := ⟨⟨by decide +kernel, by decide +kernel⟩, List.mem_of_getElem? (i := 528) (by decide +kernel), List.mem_of_getElem? (i := 690) (by decide +kernel), List.mem_of_getElem? (i := 691) (by decide +kernel)⟩
theorem lw_p44 : lw_okq (⟨"RatePlansModel", "canBeDone", "(I)Z"⟩, 34) := ⟨⟨by decide +kernel, by decide +kernel⟩, List.mem_of_getElem? (i := 528) (by decide +kernel), List.mem_of_getElem? (i := 694) (by decide +kernel), List.mem_of_getElem? (i := 695) (by decide +kernel)⟩
theorem lw_p45 : lw_okq (⟨"RatePlansModel", "raise", "(I)I"⟩, 34) := ⟨⟨by decide +kernel, by decide +kernel⟩, List.mem_of_getElem? (i := 528) (by decide +kernel), List.mem_of_getElem? (i := 702) (by decide +kernel), List.mem_of_getElem? (i := 703) (by decide +kernel)⟩
theorem lw_p46 : lw_okq (⟨"RatePlansModel", "isPlain", "()Z"⟩, 34) := ⟨⟨by decide +kernel, by decide +kernel⟩, List.mem_of_getElem? (i := 528) (by decide +kernel), List.mem_of_getElem? (i := 710) (by decide +kernel), List.mem_of_getElem? (i := 711) (by decide +kernel)⟩
theorem lw_p47 : lw_okq (⟨"RatePlansModel", "comesToAll", "(IZ)Z"⟩, 34) := ⟨⟨by decide +kernel, by decide +kernel⟩, List.mem_of_getElem? (i := 528) (by decide +kernel), List.mem_of_getElem? (i := 726) (by decide +kernel), List.mem_of_getElem? (i := 727) (by decide +kernel)⟩
def lw_privs_3 : List (MethodName × Nat) := [(⟨"RatePlans$Pacer", "nodeOnSlowerLoop", "()I"⟩, 13), (⟨"RatePlans$Pacer", "raiseAll", "()Z"⟩, 13), (⟨"RatePlans$Pacer", "nodeOnLoopOfRaises", "()I"⟩, 13), (⟨"RatePlans$Pacer", "nodeAhead", "(I)I"⟩, 13), (⟨"RatePlans$Pacer", "takeRatioOf", "(I)V"⟩, 13), (⟨"RatePlansModel", "know", "()V"⟩, 34), (⟨"RatePlansModel", "fits", "(I)Z"⟩, 34), (⟨"RatePlansModel", "set", "(IJJ)V"⟩, 34), (⟨"RatePlansModel", "reach", "(I)Z"⟩, 34), (⟨"RatePlansModel", "findCounts", "()V"⟩, 34), (⟨"RatePlansModel", "leastOf", "(I)I"⟩, 34), (⟨"RatePlansModel", "round", "()V"⟩, 34), (⟨"RatePlansModel", "canBeDone", "(I)Z"⟩, 34), (⟨"RatePlansModel", "raise", "(I)I"⟩, 34), (⟨"RatePlansModel", "isPlain", "()Z"⟩, 34), (⟨"RatePlansModel", "comesToAll", "(IZ)Z"⟩, 34)]
theorem lw_r3 : ∀ q ∈ lw_privs_3, lw_okq q := List.forall_mem_cons.mpr ⟨lw_p32, List.forall_mem_cons.mpr ⟨lw_p33, List.forall_mem_cons.mpr ⟨lw_p34, List.forall_mem_cons.mpr ⟨lw_p35, List.forall_mem_cons.mpr ⟨lw_p36, List.forall_mem_cons.mpr ⟨lw_p37, List.forall_mem_cons.mpr ⟨lw_p38, List.forall_mem_cons.mpr ⟨lw_p39, List.forall_mem_cons.mpr ⟨lw_p40, List.forall_mem_cons.mpr ⟨lw_p41, List.forall_mem_cons.mpr ⟨lw_p42, List.forall_mem_cons.mpr ⟨lw_p43, List.forall_mem_cons.mpr ⟨lw_p44, List.forall_mem_cons.mpr ⟨lw_p45, List.forall_mem_cons.mpr ⟨lw_p46, List.forall_mem_cons.mpr ⟨lw_p47, fun _ h => absurd h List.not_mem_nil⟩⟩⟩⟩⟩⟩⟩⟩⟩⟩⟩⟩⟩⟩⟩⟩
theorem lw_p48 : lw_okq (⟨"RatePlansModel", "findPace", "(I)V"⟩, 34) := ⟨⟨by decide +kernel, by decide +kernel⟩, List.mem_of_getElem? (i := 528) (by decide +kernel), List.mem_of_getElem? (i := 730) (by decide +kernel), List.mem_of_getElem? (i := 731) (by decide +kernel)⟩
theorem lw_p49 : lw_okq (⟨"RatePlansModel", "build", "(I)V"⟩, 34) := ⟨⟨by decide +kernel, by decide +kernel⟩, List.mem_of_getElem? (i := 528) (by decide +kernel), List.mem_of_getElem? (i := 734) (by decide +kernel), List.mem_of_getElem? (i := 735) (by decide +kernel)⟩
theorem lw_p50 : lw_okq (⟨"RatePlansModel", "edge", "(IIII)V"⟩, 34) := ⟨⟨by decide +kernel, by decide +kernel⟩, List.mem_of_getElem? (i := 528) (by decide +kernel), List.mem_of_getElem? (i := 738) (by decide +kernel), List.mem_of_getElem? (i := 739) (by decide +kernel)⟩
theorem lw_p51 : lw_okq (⟨"RatePlansModel", "isSlower", "(J)Z"⟩, 34) := ⟨⟨by decide +kernel, by decide +kernel⟩, List.mem_of_getElem? (i := 528) (by decide +kernel), List.mem_of_getElem? (i := 746) (by decide +kernel), List.mem_of_getElem? (i := 747) (by decide +kernel)⟩
theorem lw_p52 : lw_okq (⟨"RatePlansModel", "isChain", "()Z"⟩, 34) := ⟨⟨by decide +kernel, by decide +kernel⟩, List.mem_of_getElem? (i := 528) (by decide +kernel), List.mem_of_getElem? (i := 754) (by decide +kernel), List.mem_of_getElem? (i := 755) (by decide +kernel)⟩
theorem lw_p53 : lw_okq (⟨"RatePlansModel", "divisorOf", "(II)I"⟩, 34) := ⟨⟨by decide +kernel, by decide +kernel⟩, List.mem_of_getElem? (i := 528) (by decide +kernel), List.mem_of_getElem? (i := 758) (by decide +kernel), List.mem_of_getElem? (i := 759) (by decide +kernel)⟩
def lw_privs_4 : List (MethodName × Nat) := [(⟨"RatePlansModel", "findPace", "(I)V"⟩, 34), (⟨"RatePlansModel", "build", "(I)V"⟩, 34), (⟨"RatePlansModel", "edge", "(IIII)V"⟩, 34), (⟨"RatePlansModel", "isSlower", "(J)Z"⟩, 34), (⟨"RatePlansModel", "isChain", "()Z"⟩, 34), (⟨"RatePlansModel", "divisorOf", "(II)I"⟩, 34)]
theorem lw_r4 : ∀ q ∈ lw_privs_4, lw_okq q := List.forall_mem_cons.mpr ⟨lw_p48, List.forall_mem_cons.mpr ⟨lw_p49, List.forall_mem_cons.mpr ⟨lw_p50, List.forall_mem_cons.mpr ⟨lw_p51, List.forall_mem_cons.mpr ⟨lw_p52, List.forall_mem_cons.mpr ⟨lw_p53, fun _ h => absurd h List.not_mem_nil⟩⟩⟩⟩⟩⟩
def lw_privs : List (MethodName × Nat) := lw_privs_1 ++ (lw_privs_2 ++ (lw_privs_3 ++ (lw_privs_4)))
def lw_tbl : List Cond := k2_sels lw_privs ++ tables_1
theorem lw_privs_ok : ∀ q ∈ lw_privs, lw_okq q := by
  show ∀ q ∈ lw_privs_1 ++ (lw_privs_2 ++ (lw_privs_3 ++ (lw_privs_4))), lw_okq q
  exact List.forall_mem_append.mpr ⟨lw_r1, List.forall_mem_append.mpr ⟨lw_r2, List.forall_mem_append.mpr ⟨lw_r3, lw_r4⟩⟩⟩
end
section
def zR_C : String := "RatePlans"
def zT_C : u_T := fun k => match k with
  | 0 => ("RatePlans", "net", "LRatePlans$Net;", true)
  | 1 => ("RatePlans", "round", "LRatePlans$Round;", true)
  | 2 => ("RatePlans", "pacer", "LRatePlans$Pacer;", true)
  | _ => ("RatePlans", "rooms", "LRatePlans$Rooms;", true)
def zk_C : Nat → FieldType := fun k => match k with
  | 0 => .object "RatePlans$Net"
  | 1 => .object "RatePlans$Round"
  | 2 => .object "RatePlans$Pacer"
  | _ => .object "RatePlans$Rooms"
theorem zn_C : ∀ a, a < 4 → ∀ b, b < 4 → a ≠ b → (zT_C a).2.1 ≠ (zT_C b).2.1 := by decide +kernel
theorem zo_C : ∀ k, k < 4 → parseFieldDescriptor (zT_C k).2.2.1 = some (zk_C k) := by decide +kernel
def zR_N : String := "RatePlans$Net"
def zT_N : u_T := fun k => match k with
  | 0 => ("RatePlans$Net", "actors", "I", false)
  | 1 => ("RatePlans$Net", "channels", "I", false)
  | 2 => ("RatePlans$Net", "uneven", "I", false)
  | 3 => ("RatePlans$Net", "time", "[I", true)
  | 4 => ("RatePlans$Net", "count", "[I", true)
  | 5 => ("RatePlans$Net", "part", "[I", true)
  | 6 => ("RatePlans$Net", "from", "[I", true)
  | 7 => ("RatePlans$Net", "to", "[I", true)
  | 8 => ("RatePlans$Net", "puts", "[I", true)
  | 9 => ("RatePlans$Net", "takes", "[I", true)
  | _ => ("RatePlans$Net", "tokens", "[I", true)
def zk_N : Nat → FieldType := fun k => match k with
  | 0 => .int
  | 1 => .int
  | 2 => .int
  | 3 => .array .int
  | 4 => .array .int
  | 5 => .array .int
  | 6 => .array .int
  | 7 => .array .int
  | 8 => .array .int
  | 9 => .array .int
  | _ => .array .int
theorem zn_N : ∀ a, a < 11 → ∀ b, b < 11 → a ≠ b → (zT_N a).2.1 ≠ (zT_N b).2.1 := by decide +kernel
theorem zo_N : ∀ k, k < 11 → parseFieldDescriptor (zT_N k).2.2.1 = some (zk_N k) := by decide +kernel
def zR_U : String := "RatePlans$Round"
def zT_U : u_T := fun k => match k with
  | 0 => ("RatePlans$Round", "known", "Z", false)
  | 1 => ("RatePlans$Round", "done", "I", false)
  | 2 => ("RatePlans$Round", "order", "[I", true)
  | 3 => ("RatePlans$Round", "left", "[I", true)
  | 4 => ("RatePlans$Round", "lying", "[I", true)
  | _ => ("RatePlans$Round", "peak", "[I", true)
def zk_U : Nat → FieldType := fun k => match k with
  | 0 => .boolean
  | 1 => .int
  | 2 => .array .int
  | 3 => .array .int
  | 4 => .array .int
  | _ => .array .int
theorem zn_U : ∀ a, a < 6 → ∀ b, b < 6 → a ≠ b → (zT_U a).2.1 ≠ (zT_U b).2.1 := by decide +kernel
theorem zo_U : ∀ k, k < 6 → parseFieldDescriptor (zT_U k).2.2.1 = some (zk_U k) := by decide +kernel
def zR_P : String := "RatePlans$Pacer"
def zT_P : u_T := fun k => match k with
  | 0 => ("RatePlans$Pacer", "knownPart", "I", false)
  | 1 => ("RatePlans$Pacer", "paceTime", "I", false)
  | 2 => ("RatePlans$Pacer", "paceRounds", "I", false)
  | 3 => ("RatePlans$Pacer", "nodes", "I", false)
  | 4 => ("RatePlans$Pacer", "edges", "I", false)
  | 5 => ("RatePlans$Pacer", "firstNode", "[I", true)
  | 6 => ("RatePlans$Pacer", "nodeTime", "[I", true)
  | 7 => ("RatePlans$Pacer", "edgeFrom", "[I", true)
  | 8 => ("RatePlans$Pacer", "edgeTo", "[I", true)
  | 9 => ("RatePlans$Pacer", "edgeRounds", "[I", true)
  | 10 => ("RatePlans$Pacer", "excess", "[I", true)
  | 11 => ("RatePlans$Pacer", "via", "[I", true)
  | _ => ("RatePlans$Pacer", "seenFrom", "[I", true)
def zk_P : Nat → FieldType := fun k => match k with
  | 0 => .int
  | 1 => .int
  | 2 => .int
  | 3 => .int
  | 4 => .int
  | 5 => .array .int
  | 6 => .array .int
  | 7 => .array .int
  | 8 => .array .int
  | 9 => .array .int
  | 10 => .array .int
  | 11 => .array .int
  | _ => .array .int
theorem zn_P : ∀ a, a < 13 → ∀ b, b < 13 → a ≠ b → (zT_P a).2.1 ≠ (zT_P b).2.1 := by decide +kernel
theorem zo_P : ∀ k, k < 13 → parseFieldDescriptor (zT_P k).2.2.1 = some (zk_P k) := by decide +kernel
def zR_M : String := "RatePlans$Rooms"
def zT_M : u_T := fun k => match k with
  | _ => ("RatePlans$Rooms", "least", "[[I", true)
def zk_M : Nat → FieldType := fun k => match k with
  | _ => .array (.array .int)
theorem zn_M : ∀ a, a < 1 → ∀ b, b < 1 → a ≠ b → (zT_M a).2.1 ≠ (zT_M b).2.1 := by decide +kernel
theorem zo_M : ∀ k, k < 1 → parseFieldDescriptor (zT_M k).2.2.1 = some (zk_M k) := by decide +kernel
def zR_X : String := "RatePlansModel"
def zT_X : u_T := fun k => match k with
  | 0 => ("RatePlansModel", "thrown", "I", false)
  | 1 => ("RatePlansModel", "actors", "I", false)
  | 2 => ("RatePlansModel", "channels", "I", false)
  | 3 => ("RatePlansModel", "time", "[I", true)
  | 4 => ("RatePlansModel", "from", "[I", true)
  | 5 => ("RatePlansModel", "to", "[I", true)
  | 6 => ("RatePlansModel", "puts", "[I", true)
  | 7 => ("RatePlansModel", "takes", "[I", true)
  | 8 => ("RatePlansModel", "tokens", "[I", true)
  | 9 => ("RatePlansModel", "isKnown", "Z", false)
  | 10 => ("RatePlansModel", "uneven", "I", false)
  | 11 => ("RatePlansModel", "isGreat", "Z", false)
  | 12 => ("RatePlansModel", "parts", "I", false)
  | 13 => ("RatePlansModel", "part", "[I", true)
  | 14 => ("RatePlansModel", "over", "[J", true)
  | 15 => ("RatePlansModel", "under", "[J", true)
  | 16 => ("RatePlansModel", "count", "[I", true)
  | 17 => ("RatePlansModel", "left", "[I", true)
  | 18 => ("RatePlansModel", "lies", "[I", true)
  | 19 => ("RatePlansModel", "peak", "[I", true)
  | 20 => ("RatePlansModel", "dones", "I", false)
  | 21 => ("RatePlansModel", "done", "[I", true)
  | 22 => ("RatePlansModel", "isThere", "[Z", true)
  | 23 => ("RatePlansModel", "nodes", "I", false)
  | 24 => ("RatePlansModel", "firstNode", "[I", true)
  | 25 => ("RatePlansModel", "edges", "I", false)
  | 26 => ("RatePlansModel", "edgeFrom", "[I", true)
  | 27 => ("RatePlansModel", "edgeTo", "[I", true)
  | 28 => ("RatePlansModel", "edgeTime", "[I", true)
  | 29 => ("RatePlansModel", "edgeRounds", "[I", true)
  | 30 => ("RatePlansModel", "far", "[J", true)
  | 31 => ("RatePlansModel", "paceOver", "I", false)
  | 32 => ("RatePlansModel", "paceUnder", "I", false)
  | _ => ("RatePlansModel", "rooms", "[I", true)
def zk_X : Nat → FieldType := fun k => match k with
  | 0 => .int
  | 1 => .int
  | 2 => .int
  | 3 => .array .int
  | 4 => .array .int
  | 5 => .array .int
  | 6 => .array .int
  | 7 => .array .int
  | 8 => .array .int
  | 9 => .boolean
  | 10 => .int
  | 11 => .boolean
  | 12 => .int
  | 13 => .array .int
  | 14 => .array .long
  | 15 => .array .long
  | 16 => .array .int
  | 17 => .array .int
  | 18 => .array .int
  | 19 => .array .int
  | 20 => .int
  | 21 => .array .int
  | 22 => .array .boolean
  | 23 => .int
  | 24 => .array .int
  | 25 => .int
  | 26 => .array .int
  | 27 => .array .int
  | 28 => .array .int
  | 29 => .array .int
  | 30 => .array .long
  | 31 => .int
  | 32 => .int
  | _ => .array .int
theorem zn_X : ∀ a, a < 34 → ∀ b, b < 34 → a ≠ b → (zT_X a).2.1 ≠ (zT_X b).2.1 := by decide +kernel
theorem zo_X : ∀ k, k < 34 → parseFieldDescriptor (zT_X k).2.2.1 = some (zk_X k) := by decide +kernel
def zR_L : String := "RatePlansLaw"
abbrev zcl : List vw_C := [(zR_C, zT_C, 4), (zR_N, zT_N, 11), (zR_U, zT_U, 6), (zR_P, zT_P, 13), (zR_M, zT_M, 1), (zR_X, zT_X, 34)]
abbrev zc_C_init : ByteArray := prog_1_method_1_code
def zy_C_init : MethodName := ⟨zR_C, "<init>", "()V"⟩
abbrev zc_C_graph : ByteArray := prog_1_method_2_code
def zy_C_graph : MethodName := ⟨zR_C, "graph", "(I)Z"⟩
abbrev zc_C_time : ByteArray := prog_1_method_3_code
def zy_C_time : MethodName := ⟨zR_C, "time", "(II)Z"⟩
abbrev zc_C_channel : ByteArray := prog_1_method_4_code
def zy_C_channel : MethodName := ⟨zR_C, "channel", "(IIIII)I"⟩
abbrev zc_C_uneven : ByteArray := prog_1_method_5_code
def zy_C_uneven : MethodName := ⟨zR_C, "uneven", "()I"⟩
abbrev zc_C_count : ByteArray := prog_1_method_6_code
def zy_C_count : MethodName := ⟨zR_C, "count", "(I)I"⟩
abbrev zc_C_order : ByteArray := prog_1_method_7_code
def zy_C_order : MethodName := ⟨zR_C, "order", "(I)I"⟩
abbrev zc_C_left : ByteArray := prog_1_method_8_code
def zy_C_left : MethodName := ⟨zR_C, "left", "(I)I"⟩
abbrev zc_C_peak : ByteArray := prog_1_method_9_code
def zy_C_peak : MethodName := ⟨zR_C, "peak", "(I)I"⟩
abbrev zc_C_pace : ByteArray := prog_1_method_10_code
def zy_C_pace : MethodName := ⟨zR_C, "pace", "(II)I"⟩
abbrev zc_C_room : ByteArray := prog_1_method_11_code
def zy_C_room : MethodName := ⟨zR_C, "room", "()I"⟩
abbrev zc_C_total : ByteArray := prog_1_method_12_code
def zy_C_total : MethodName := ⟨zR_C, "total", "(I)I"⟩
abbrev zc_C_forgetAnswers : ByteArray := prog_1_method_13_code
def zy_C_forgetAnswers : MethodName := ⟨zR_C, "forgetAnswers", "()V"⟩
abbrev zc_C_findRound : ByteArray := prog_1_method_14_code
def zy_C_findRound : MethodName := ⟨zR_C, "findRound", "()Z"⟩
abbrev zc_C_isWithin : ByteArray := prog_1_method_15_code
def zy_C_isWithin : MethodName := ⟨zR_C, "isWithin", "(III)Z"⟩
abbrev zc_C_commonDivisor : ByteArray := prog_1_method_16_code
def zy_C_commonDivisor : MethodName := ⟨zR_C, "commonDivisor", "(II)I"⟩
abbrev zc_C_divided : ByteArray := prog_1_method_17_code
def zy_C_divided : MethodName := ⟨zR_C, "divided", "(II)I"⟩
abbrev zc_X_init : ByteArray := prog_7_method_1_code
def zy_X_init : MethodName := ⟨zR_X, "<init>", "()V"⟩
abbrev zc_X_thrown : ByteArray := prog_7_method_2_code
def zy_X_thrown : MethodName := ⟨zR_X, "thrown", "()I"⟩
abbrev zc_X_in : ByteArray := prog_7_method_3_code
def zy_X_in : MethodName := ⟨zR_X, "in", "(III)Z"⟩
abbrev zc_X_raise : ByteArray := prog_7_method_4_code
def zy_X_raise : MethodName := ⟨zR_X, "raise", "(I)I"⟩
abbrev zc_X_graph : ByteArray := prog_7_method_5_code
def zy_X_graph : MethodName := ⟨zR_X, "graph", "(I)Z"⟩
abbrev zc_X_time : ByteArray := prog_7_method_6_code
def zy_X_time : MethodName := ⟨zR_X, "time", "(II)Z"⟩
abbrev zc_X_channel : ByteArray := prog_7_method_7_code
def zy_X_channel : MethodName := ⟨zR_X, "channel", "(IIIII)I"⟩
abbrev zc_X_divisor : ByteArray := prog_7_method_8_code
def zy_X_divisor : MethodName := ⟨zR_X, "divisor", "(JJ)J"⟩
abbrev zc_X_set : ByteArray := prog_7_method_9_code
def zy_X_set : MethodName := ⟨zR_X, "set", "(IJJ)V"⟩
abbrev zc_X_fits : ByteArray := prog_7_method_10_code
def zy_X_fits : MethodName := ⟨zR_X, "fits", "(I)Z"⟩
abbrev zc_X_reach : ByteArray := prog_7_method_11_code
def zy_X_reach : MethodName := ⟨zR_X, "reach", "(I)Z"⟩
abbrev zc_X_leastOf : ByteArray := prog_7_method_12_code
def zy_X_leastOf : MethodName := ⟨zR_X, "leastOf", "(I)I"⟩
abbrev zc_X_findCounts : ByteArray := prog_7_method_13_code
def zy_X_findCounts : MethodName := ⟨zR_X, "findCounts", "()V"⟩
abbrev zc_X_canBeDone : ByteArray := prog_7_method_14_code
def zy_X_canBeDone : MethodName := ⟨zR_X, "canBeDone", "(I)Z"⟩
abbrev zc_X_round : ByteArray := prog_7_method_15_code
def zy_X_round : MethodName := ⟨zR_X, "round", "()V"⟩
abbrev zc_X_know : ByteArray := prog_7_method_16_code
def zy_X_know : MethodName := ⟨zR_X, "know", "()V"⟩
abbrev zc_X_isPlain : ByteArray := prog_7_method_17_code
def zy_X_isPlain : MethodName := ⟨zR_X, "isPlain", "()Z"⟩
abbrev zc_X_uneven : ByteArray := prog_7_method_18_code
def zy_X_uneven : MethodName := ⟨zR_X, "uneven", "()I"⟩
abbrev zc_X_count : ByteArray := prog_7_method_19_code
def zy_X_count : MethodName := ⟨zR_X, "count", "(I)I"⟩
abbrev zc_X_order : ByteArray := prog_7_method_20_code
def zy_X_order : MethodName := ⟨zR_X, "order", "(I)I"⟩
abbrev zc_X_left : ByteArray := prog_7_method_21_code
def zy_X_left : MethodName := ⟨zR_X, "left", "(I)I"⟩
abbrev zc_X_peak : ByteArray := prog_7_method_22_code
def zy_X_peak : MethodName := ⟨zR_X, "peak", "(I)I"⟩
abbrev zc_X_comesToAll : ByteArray := prog_7_method_23_code
def zy_X_comesToAll : MethodName := ⟨zR_X, "comesToAll", "(IZ)Z"⟩
abbrev zc_X_edge : ByteArray := prog_7_method_24_code
def zy_X_edge : MethodName := ⟨zR_X, "edge", "(IIII)V"⟩
abbrev zc_X_down : ByteArray := prog_7_method_25_code
def zy_X_down : MethodName := ⟨zR_X, "down", "(II)I"⟩
abbrev zc_X_build : ByteArray := prog_7_method_26_code
def zy_X_build : MethodName := ⟨zR_X, "build", "(I)V"⟩
abbrev zc_X_isSlower : ByteArray := prog_7_method_27_code
def zy_X_isSlower : MethodName := ⟨zR_X, "isSlower", "(J)Z"⟩
abbrev zc_X_findPace : ByteArray := prog_7_method_28_code
def zy_X_findPace : MethodName := ⟨zR_X, "findPace", "(I)V"⟩
abbrev zc_X_pace : ByteArray := prog_7_method_29_code
def zy_X_pace : MethodName := ⟨zR_X, "pace", "(II)I"⟩
abbrev zc_X_isChain : ByteArray := prog_7_method_30_code
def zy_X_isChain : MethodName := ⟨zR_X, "isChain", "()Z"⟩
abbrev zc_X_divisorOf : ByteArray := prog_7_method_31_code
def zy_X_divisorOf : MethodName := ⟨zR_X, "divisorOf", "(II)I"⟩
abbrev zc_X_room : ByteArray := prog_7_method_32_code
def zy_X_room : MethodName := ⟨zR_X, "room", "()I"⟩
abbrev zc_X_total : ByteArray := prog_7_method_33_code
def zy_X_total : MethodName := ⟨zR_X, "total", "(I)I"⟩
abbrev zc_N_init : ByteArray := prog_2_method_1_code
def zy_N_init : MethodName := ⟨zR_N, "<init>", "()V"⟩
abbrev zc_N_begin : ByteArray := prog_2_method_2_code
def zy_N_begin : MethodName := ⟨zR_N, "begin", "(I)V"⟩
abbrev zc_N_hasActor : ByteArray := prog_2_method_3_code
def zy_N_hasActor : MethodName := ⟨zR_N, "hasActor", "(I)Z"⟩
abbrev zc_N_hasChannel : ByteArray := prog_2_method_4_code
def zy_N_hasChannel : MethodName := ⟨zR_N, "hasChannel", "(I)Z"⟩
abbrev zc_N_add : ByteArray := prog_2_method_5_code
def zy_N_add : MethodName := ⟨zR_N, "add", "(IIIII)I"⟩
abbrev zc_N_balance : ByteArray := prog_2_method_6_code
def zy_N_balance : MethodName := ⟨zR_N, "balance", "(I)V"⟩
abbrev zc_N_multiply : ByteArray := prog_2_method_7_code
def zy_N_multiply : MethodName := ⟨zR_N, "multiply", "(II)V"⟩
abbrev zc_N_join : ByteArray := prog_2_method_8_code
def zy_N_join : MethodName := ⟨zR_N, "join", "(II)V"⟩
abbrev zc_N_parts : ByteArray := prog_2_method_9_code
def zy_N_parts : MethodName := ⟨zR_N, "parts", "()I"⟩
abbrev zc_N_isUneven : ByteArray := prog_2_method_10_code
def zy_N_isUneven : MethodName := ⟨zR_N, "isUneven", "()Z"⟩
abbrev zc_N_isGreat : ByteArray := prog_2_method_11_code
def zy_N_isGreat : MethodName := ⟨zR_N, "isGreat", "()Z"⟩
abbrev zc_N_countsOfPart : ByteArray := prog_2_method_12_code
def zy_N_countsOfPart : MethodName := ⟨zR_N, "countsOfPart", "(I)I"⟩
abbrev zc_N_isClosed : ByteArray := prog_2_method_13_code
def zy_N_isClosed : MethodName := ⟨zR_N, "isClosed", "(I)Z"⟩
abbrev zc_N_reached : ByteArray := prog_2_method_14_code
def zy_N_reached : MethodName := ⟨zR_N, "reached", "(I[I[I)I"⟩
abbrev zc_N_isChain : ByteArray := prog_2_method_15_code
def zy_N_isChain : MethodName := ⟨zR_N, "isChain", "()Z"⟩
abbrev zc_P_init : ByteArray := prog_3_method_1_code
def zy_P_init : MethodName := ⟨zR_P, "<init>", "()V"⟩
abbrev zc_P_find : ByteArray := prog_3_method_2_code
def zy_P_find : MethodName := ⟨zR_P, "find", "(LRatePlans$Net;I)V"⟩
abbrev zc_P_addFirings : ByteArray := prog_3_method_3_code
def zy_P_addFirings : MethodName := ⟨zR_P, "addFirings", "(LRatePlans$Net;I)V"⟩
abbrev zc_P_addFiringsOf : ByteArray := prog_3_method_4_code
def zy_P_addFiringsOf : MethodName := ⟨zR_P, "addFiringsOf", "(III)V"⟩
abbrev zc_P_addWaits : ByteArray := prog_3_method_5_code
def zy_P_addWaits : MethodName := ⟨zR_P, "addWaits", "(LRatePlans$Net;I)V"⟩
abbrev zc_P_addWaitsOf : ByteArray := prog_3_method_6_code
def zy_P_addWaitsOf : MethodName := ⟨zR_P, "addWaitsOf", "(LRatePlans$Net;I)V"⟩
abbrev zc_P_addEdge : ByteArray := prog_3_method_7_code
def zy_P_addEdge : MethodName := ⟨zR_P, "addEdge", "(III)V"⟩
abbrev zc_P_beginWithSlowestActor : ByteArray := prog_3_method_8_code
def zy_P_beginWithSlowestActor : MethodName := ⟨zR_P, "beginWithSlowestActor", "(LRatePlans$Net;I)V"⟩
abbrev zc_P_nodeOnSlowerLoop : ByteArray := prog_3_method_9_code
def zy_P_nodeOnSlowerLoop : MethodName := ⟨zR_P, "nodeOnSlowerLoop", "()I"⟩
abbrev zc_P_raiseAll : ByteArray := prog_3_method_10_code
def zy_P_raiseAll : MethodName := ⟨zR_P, "raiseAll", "()Z"⟩
abbrev zc_P_nodeOnLoopOfRaises : ByteArray := prog_3_method_11_code
def zy_P_nodeOnLoopOfRaises : MethodName := ⟨zR_P, "nodeOnLoopOfRaises", "()I"⟩
abbrev zc_P_nodeAhead : ByteArray := prog_3_method_12_code
def zy_P_nodeAhead : MethodName := ⟨zR_P, "nodeAhead", "(I)I"⟩
abbrev zc_P_takeRatioOf : ByteArray := prog_3_method_13_code
def zy_P_takeRatioOf : MethodName := ⟨zR_P, "takeRatioOf", "(I)V"⟩
abbrev zc_M_init : ByteArray := prog_4_method_1_code
def zy_M_init : MethodName := ⟨zR_M, "<init>", "()V"⟩
abbrev zc_M_ofAll : ByteArray := prog_4_method_2_code
def zy_M_ofAll : MethodName := ⟨zR_M, "ofAll", "(LRatePlans$Net;)I"⟩
abbrev zc_M_ofBestCut : ByteArray := prog_4_method_3_code
def zy_M_ofBestCut : MethodName := ⟨zR_M, "ofBestCut", "(LRatePlans$Net;III)I"⟩
abbrev zc_U_init : ByteArray := prog_5_method_1_code
def zy_U_init : MethodName := ⟨zR_U, "<init>", "()V"⟩
abbrev zc_U_play : ByteArray := prog_5_method_2_code
def zy_U_play : MethodName := ⟨zR_U, "play", "(LRatePlans$Net;)V"⟩
abbrev zc_U_begin : ByteArray := prog_5_method_3_code
def zy_U_begin : MethodName := ⟨zR_U, "begin", "(LRatePlans$Net;)V"⟩
abbrev zc_U_leastReady : ByteArray := prog_5_method_4_code
def zy_U_leastReady : MethodName := ⟨zR_U, "leastReady", "(LRatePlans$Net;)I"⟩
abbrev zc_U_hasEnough : ByteArray := prog_5_method_5_code
def zy_U_hasEnough : MethodName := ⟨zR_U, "hasEnough", "(LRatePlans$Net;I)Z"⟩
abbrev zc_U_fire : ByteArray := prog_5_method_6_code
def zy_U_fire : MethodName := ⟨zR_U, "fire", "(LRatePlans$Net;I)V"⟩
abbrev zc_U_isAlive : ByteArray := prog_5_method_7_code
def zy_U_isAlive : MethodName := ⟨zR_U, "isAlive", "(LRatePlans$Net;)Z"⟩
abbrev zc_L_count : ByteArray := method_3_code
def zy_L_count : MethodName := ⟨zR_L, "count", "(LRatePlans;I[J)I"⟩
abbrev zc_L_order : ByteArray := method_4_code
def zy_L_order : MethodName := ⟨zR_L, "order", "(LRatePlans;I[J)I"⟩
abbrev zc_L_pace : ByteArray := method_5_code
def zy_L_pace : MethodName := ⟨zR_L, "pace", "(LRatePlans;II[J)I"⟩
abbrev zc_L_law : ByteArray := code
def zy_L_law : MethodName := ⟨zR_L, "law", "([I)Z"⟩
end
section
theorem zd_C_init_0 : decode zc_C_init 0 = .ok (.aload_n 0, 1) := by decide +kernel
theorem zd_C_init_1 : decode zc_C_init 1 = .ok (.invokespecial 3, 3) := by decide +kernel
theorem zd_C_init_4 : decode zc_C_init 4 = .ok (.aload_n 0, 1) := by decide +kernel
theorem zd_C_init_5 : decode zc_C_init 5 = .ok (.new 9, 3) := by decide +kernel
theorem zd_C_init_8 : decode zc_C_init 8 = .ok (.dup, 1) := by decide +kernel
theorem zd_C_init_9 : decode zc_C_init 9 = .ok (.invokespecial 11, 3) := by decide +kernel
theorem zd_C_init_12 : decode zc_C_init 12 = .ok (.putfield 12, 3) := by decide +kernel
theorem zd_C_init_15 : decode zc_C_init 15 = .ok (.aload_n 0, 1) := by decide +kernel
theorem zd_C_init_16 : decode zc_C_init 16 = .ok (.new 16, 3) := by decide +kernel
theorem zd_C_init_19 : decode zc_C_init 19 = .ok (.dup, 1) := by decide +kernel
theorem zd_C_init_20 : decode zc_C_init 20 = .ok (.invokespecial 18, 3) := by decide +kernel
theorem zd_C_init_23 : decode zc_C_init 23 = .ok (.putfield 19, 3) := by decide +kernel
theorem zd_C_init_26 : decode zc_C_init 26 = .ok (.aload_n 0, 1) := by decide +kernel
theorem zd_C_init_27 : decode zc_C_init 27 = .ok (.new 23, 3) := by decide +kernel
theorem zd_C_init_30 : decode zc_C_init 30 = .ok (.dup, 1) := by decide +kernel
theorem zd_C_init_31 : decode zc_C_init 31 = .ok (.invokespecial 25, 3) := by decide +kernel
theorem zd_C_init_34 : decode zc_C_init 34 = .ok (.putfield 26, 3) := by decide +kernel
theorem zd_C_init_37 : decode zc_C_init 37 = .ok (.aload_n 0, 1) := by decide +kernel
theorem zd_C_init_38 : decode zc_C_init 38 = .ok (.new 30, 3) := by decide +kernel
theorem zd_C_init_41 : decode zc_C_init 41 = .ok (.dup, 1) := by decide +kernel
theorem zd_C_init_42 : decode zc_C_init 42 = .ok (.invokespecial 32, 3) := by decide +kernel
theorem zd_C_init_45 : decode zc_C_init 45 = .ok (.putfield 33, 3) := by decide +kernel
theorem zd_C_init_48 : decode zc_C_init 48 = .ok (.return_, 1) := by decide +kernel
theorem zd_C_graph_0 : decode zc_C_graph 0 = .ok (.iload_n 1, 1) := by decide +kernel
theorem zd_C_graph_1 : decode zc_C_graph 1 = .ok (.iconst 1, 1) := by decide +kernel
theorem zd_C_graph_2 : decode zc_C_graph 2 = .ok (.bipush 8, 2) := by decide +kernel
theorem zd_C_graph_4 : decode zc_C_graph 4 = .ok (.invokestatic 37, 3) := by decide +kernel
theorem zd_C_graph_7 : decode zc_C_graph 7 = .ok (.ifCond .ne 5, 3) := by decide +kernel
theorem zd_C_graph_10 : decode zc_C_graph 10 = .ok (.iconst 0, 1) := by decide +kernel
theorem zd_C_graph_11 : decode zc_C_graph 11 = .ok (.ireturn, 1) := by decide +kernel
theorem zd_C_graph_12 : decode zc_C_graph 12 = .ok (.aload_n 0, 1) := by decide +kernel
theorem zd_C_graph_13 : decode zc_C_graph 13 = .ok (.getfield 12, 3) := by decide +kernel
theorem zd_C_graph_16 : decode zc_C_graph 16 = .ok (.iload_n 1, 1) := by decide +kernel
theorem zd_C_graph_17 : decode zc_C_graph 17 = .ok (.invokevirtual 41, 3) := by decide +kernel
theorem zd_C_graph_20 : decode zc_C_graph 20 = .ok (.aload_n 0, 1) := by decide +kernel
theorem zd_C_graph_21 : decode zc_C_graph 21 = .ok (.invokevirtual 45, 3) := by decide +kernel
theorem zd_C_graph_24 : decode zc_C_graph 24 = .ok (.iconst 1, 1) := by decide +kernel
theorem zd_C_graph_25 : decode zc_C_graph 25 = .ok (.ireturn, 1) := by decide +kernel
theorem zd_C_time_0 : decode zc_C_time 0 = .ok (.aload_n 0, 1) := by decide +kernel
theorem zd_C_time_1 : decode zc_C_time 1 = .ok (.getfield 12, 3) := by decide +kernel
theorem zd_C_time_4 : decode zc_C_time 4 = .ok (.iload_n 1, 1) := by decide +kernel
theorem zd_C_time_5 : decode zc_C_time 5 = .ok (.invokevirtual 48, 3) := by decide +kernel
theorem zd_C_time_8 : decode zc_C_time 8 = .ok (.ifCond .eq 13, 3) := by decide +kernel
theorem zd_C_time_11 : decode zc_C_time 11 = .ok (.iload_n 2, 1) := by decide +kernel
theorem zd_C_time_12 : decode zc_C_time 12 = .ok (.iconst 1, 1) := by decide +kernel
theorem zd_C_time_13 : decode zc_C_time 13 = .ok (.bipush 9, 2) := by decide +kernel
theorem zd_C_time_15 : decode zc_C_time 15 = .ok (.invokestatic 37, 3) := by decide +kernel
theorem zd_C_time_18 : decode zc_C_time 18 = .ok (.ifCond .ne 5, 3) := by decide +kernel
theorem zd_C_time_21 : decode zc_C_time 21 = .ok (.iconst 0, 1) := by decide +kernel
theorem zd_C_time_22 : decode zc_C_time 22 = .ok (.ireturn, 1) := by decide +kernel
theorem zd_C_time_23 : decode zc_C_time 23 = .ok (.aload_n 0, 1) := by decide +kernel
theorem zd_C_time_24 : decode zc_C_time 24 = .ok (.getfield 12, 3) := by decide +kernel
theorem zd_C_time_27 : decode zc_C_time 27 = .ok (.getfield 52, 3) := by decide +kernel
theorem zd_C_time_30 : decode zc_C_time 30 = .ok (.iload_n 1, 1) := by decide +kernel
theorem zd_C_time_31 : decode zc_C_time 31 = .ok (.iload_n 2, 1) := by decide +kernel
theorem zd_C_time_32 : decode zc_C_time 32 = .ok (.iastore, 1) := by decide +kernel
theorem zd_C_time_33 : decode zc_C_time 33 = .ok (.aload_n 0, 1) := by decide +kernel
theorem zd_C_time_34 : decode zc_C_time 34 = .ok (.invokevirtual 45, 3) := by decide +kernel
theorem zd_C_time_37 : decode zc_C_time 37 = .ok (.iconst 1, 1) := by decide +kernel
theorem zd_C_time_38 : decode zc_C_time 38 = .ok (.ireturn, 1) := by decide +kernel
theorem zd_C_channel_0 : decode zc_C_channel 0 = .ok (.aload_n 0, 1) := by decide +kernel
theorem zd_C_channel_1 : decode zc_C_channel 1 = .ok (.getfield 12, 3) := by decide +kernel
theorem zd_C_channel_4 : decode zc_C_channel 4 = .ok (.iload_n 1, 1) := by decide +kernel
theorem zd_C_channel_5 : decode zc_C_channel 5 = .ok (.invokevirtual 48, 3) := by decide +kernel
theorem zd_C_channel_8 : decode zc_C_channel 8 = .ok (.ifCond .eq 26, 3) := by decide +kernel
theorem zd_C_channel_11 : decode zc_C_channel 11 = .ok (.aload_n 0, 1) := by decide +kernel
theorem zd_C_channel_12 : decode zc_C_channel 12 = .ok (.getfield 12, 3) := by decide +kernel
theorem zd_C_channel_15 : decode zc_C_channel 15 = .ok (.iload_n 2, 1) := by decide +kernel
theorem zd_C_channel_16 : decode zc_C_channel 16 = .ok (.invokevirtual 48, 3) := by decide +kernel
theorem zd_C_channel_19 : decode zc_C_channel 19 = .ok (.ifCond .eq 15, 3) := by decide +kernel
theorem zd_C_channel_22 : decode zc_C_channel 22 = .ok (.aload_n 0, 1) := by decide +kernel
theorem zd_C_channel_23 : decode zc_C_channel 23 = .ok (.getfield 12, 3) := by decide +kernel
theorem zd_C_channel_26 : decode zc_C_channel 26 = .ok (.getfield 56, 3) := by decide +kernel
theorem zd_C_channel_29 : decode zc_C_channel 29 = .ok (.bipush 14, 2) := by decide +kernel
theorem zd_C_channel_31 : decode zc_C_channel 31 = .ok (.if_icmp .lt 5, 3) := by decide +kernel
theorem zd_C_channel_34 : decode zc_C_channel 34 = .ok (.iconst (-1), 1) := by decide +kernel
theorem zd_C_channel_35 : decode zc_C_channel 35 = .ok (.ireturn, 1) := by decide +kernel
theorem zd_C_channel_36 : decode zc_C_channel 36 = .ok (.iload_n 3, 1) := by decide +kernel
theorem zd_C_channel_37 : decode zc_C_channel 37 = .ok (.iconst 1, 1) := by decide +kernel
theorem zd_C_channel_38 : decode zc_C_channel 38 = .ok (.bipush 9, 2) := by decide +kernel
theorem zd_C_channel_40 : decode zc_C_channel 40 = .ok (.invokestatic 37, 3) := by decide +kernel
theorem zd_C_channel_43 : decode zc_C_channel 43 = .ok (.ifCond .eq 25, 3) := by decide +kernel
theorem zd_C_channel_46 : decode zc_C_channel 46 = .ok (.iload 4, 2) := by decide +kernel
theorem zd_C_channel_48 : decode zc_C_channel 48 = .ok (.iconst 1, 1) := by decide +kernel
theorem zd_C_channel_49 : decode zc_C_channel 49 = .ok (.bipush 9, 2) := by decide +kernel
theorem zd_C_channel_51 : decode zc_C_channel 51 = .ok (.invokestatic 37, 3) := by decide +kernel
theorem zd_C_channel_54 : decode zc_C_channel 54 = .ok (.ifCond .eq 14, 3) := by decide +kernel
theorem zd_C_channel_57 : decode zc_C_channel 57 = .ok (.iload 5, 2) := by decide +kernel
theorem zd_C_channel_59 : decode zc_C_channel 59 = .ok (.iconst 0, 1) := by decide +kernel
theorem zd_C_channel_60 : decode zc_C_channel 60 = .ok (.bipush 99, 2) := by decide +kernel
theorem zd_C_channel_62 : decode zc_C_channel 62 = .ok (.invokestatic 37, 3) := by decide +kernel
theorem zd_C_channel_65 : decode zc_C_channel 65 = .ok (.ifCond .ne 5, 3) := by decide +kernel
theorem zd_C_channel_68 : decode zc_C_channel 68 = .ok (.iconst (-1), 1) := by decide +kernel
theorem zd_C_channel_69 : decode zc_C_channel 69 = .ok (.ireturn, 1) := by decide +kernel
theorem zd_C_channel_70 : decode zc_C_channel 70 = .ok (.aload_n 0, 1) := by decide +kernel
theorem zd_C_channel_71 : decode zc_C_channel 71 = .ok (.invokevirtual 45, 3) := by decide +kernel
theorem zd_C_channel_74 : decode zc_C_channel 74 = .ok (.aload_n 0, 1) := by decide +kernel
theorem zd_C_channel_75 : decode zc_C_channel 75 = .ok (.getfield 12, 3) := by decide +kernel
theorem zd_C_channel_78 : decode zc_C_channel 78 = .ok (.iload_n 1, 1) := by decide +kernel
theorem zd_C_channel_79 : decode zc_C_channel 79 = .ok (.iload_n 2, 1) := by decide +kernel
theorem zd_C_channel_80 : decode zc_C_channel 80 = .ok (.iload_n 3, 1) := by decide +kernel
theorem zd_C_channel_81 : decode zc_C_channel 81 = .ok (.iload 4, 2) := by decide +kernel
theorem zd_C_channel_83 : decode zc_C_channel 83 = .ok (.iload 5, 2) := by decide +kernel
theorem zd_C_channel_85 : decode zc_C_channel 85 = .ok (.invokevirtual 60, 3) := by decide +kernel
theorem zd_C_channel_88 : decode zc_C_channel 88 = .ok (.ireturn, 1) := by decide +kernel
theorem zd_C_uneven_0 : decode zc_C_uneven 0 = .ok (.aload_n 0, 1) := by decide +kernel
theorem zd_C_uneven_1 : decode zc_C_uneven 1 = .ok (.getfield 12, 3) := by decide +kernel
theorem zd_C_uneven_4 : decode zc_C_uneven 4 = .ok (.getfield 64, 3) := by decide +kernel
theorem zd_C_uneven_7 : decode zc_C_uneven 7 = .ok (.ireturn, 1) := by decide +kernel
theorem zd_C_count_0 : decode zc_C_count 0 = .ok (.aload_n 0, 1) := by decide +kernel
theorem zd_C_count_1 : decode zc_C_count 1 = .ok (.getfield 12, 3) := by decide +kernel
theorem zd_C_count_4 : decode zc_C_count 4 = .ok (.iload_n 1, 1) := by decide +kernel
theorem zd_C_count_5 : decode zc_C_count 5 = .ok (.invokevirtual 48, 3) := by decide +kernel
theorem zd_C_count_8 : decode zc_C_count 8 = .ok (.ifCond .ne 5, 3) := by decide +kernel
theorem zd_C_count_11 : decode zc_C_count 11 = .ok (.iconst (-1), 1) := by decide +kernel
theorem zd_C_count_12 : decode zc_C_count 12 = .ok (.ireturn, 1) := by decide +kernel
theorem zd_C_count_13 : decode zc_C_count 13 = .ok (.aload_n 0, 1) := by decide +kernel
theorem zd_C_count_14 : decode zc_C_count 14 = .ok (.getfield 12, 3) := by decide +kernel
theorem zd_C_count_17 : decode zc_C_count 17 = .ok (.invokevirtual 67, 3) := by decide +kernel
theorem zd_C_count_20 : decode zc_C_count 20 = .ok (.ifCond .eq 13, 3) := by decide +kernel
theorem zd_C_count_23 : decode zc_C_count 23 = .ok (.new 71, 3) := by decide +kernel
theorem zd_C_count_26 : decode zc_C_count 26 = .ok (.dup, 1) := by decide +kernel
theorem zd_C_count_27 : decode zc_C_count 27 = .ok (.ldc 73, 2) := by decide +kernel
theorem zd_C_count_29 : decode zc_C_count 29 = .ok (.invokespecial 75, 3) := by decide +kernel
theorem zd_C_count_32 : decode zc_C_count 32 = .ok (.athrow, 1) := by decide +kernel
theorem zd_C_count_33 : decode zc_C_count 33 = .ok (.aload_n 0, 1) := by decide +kernel
theorem zd_C_count_34 : decode zc_C_count 34 = .ok (.getfield 12, 3) := by decide +kernel
theorem zd_C_count_37 : decode zc_C_count 37 = .ok (.invokevirtual 78, 3) := by decide +kernel
theorem zd_C_count_40 : decode zc_C_count 40 = .ok (.ifCond .eq 13, 3) := by decide +kernel
theorem zd_C_count_43 : decode zc_C_count 43 = .ok (.new 81, 3) := by decide +kernel
theorem zd_C_count_46 : decode zc_C_count 46 = .ok (.dup, 1) := by decide +kernel
theorem zd_C_count_47 : decode zc_C_count 47 = .ok (.ldc 83, 2) := by decide +kernel
theorem zd_C_count_49 : decode zc_C_count 49 = .ok (.invokespecial 85, 3) := by decide +kernel
theorem zd_C_count_52 : decode zc_C_count 52 = .ok (.athrow, 1) := by decide +kernel
theorem zd_C_count_53 : decode zc_C_count 53 = .ok (.aload_n 0, 1) := by decide +kernel
theorem zd_C_count_54 : decode zc_C_count 54 = .ok (.getfield 12, 3) := by decide +kernel
theorem zd_C_count_57 : decode zc_C_count 57 = .ok (.getfield 86, 3) := by decide +kernel
theorem zd_C_count_60 : decode zc_C_count 60 = .ok (.iload_n 1, 1) := by decide +kernel
theorem zd_C_count_61 : decode zc_C_count 61 = .ok (.iaload, 1) := by decide +kernel
theorem zd_C_count_62 : decode zc_C_count 62 = .ok (.ireturn, 1) := by decide +kernel
theorem zd_C_order_0 : decode zc_C_order 0 = .ok (.aload_n 0, 1) := by decide +kernel
theorem zd_C_order_1 : decode zc_C_order 1 = .ok (.invokevirtual 89, 3) := by decide +kernel
theorem zd_C_order_4 : decode zc_C_order 4 = .ok (.ifCond .eq 20, 3) := by decide +kernel
theorem zd_C_order_7 : decode zc_C_order 7 = .ok (.iload_n 1, 1) := by decide +kernel
theorem zd_C_order_8 : decode zc_C_order 8 = .ok (.iconst 0, 1) := by decide +kernel
theorem zd_C_order_9 : decode zc_C_order 9 = .ok (.aload_n 0, 1) := by decide +kernel
theorem zd_C_order_10 : decode zc_C_order 10 = .ok (.getfield 19, 3) := by decide +kernel
theorem zd_C_order_13 : decode zc_C_order 13 = .ok (.getfield 92, 3) := by decide +kernel
theorem zd_C_order_16 : decode zc_C_order 16 = .ok (.iconst 1, 1) := by decide +kernel
theorem zd_C_order_17 : decode zc_C_order 17 = .ok (.isub, 1) := by decide +kernel
theorem zd_C_order_18 : decode zc_C_order 18 = .ok (.invokestatic 37, 3) := by decide +kernel
theorem zd_C_order_21 : decode zc_C_order 21 = .ok (.ifCond .ne 13, 3) := by decide +kernel
theorem zd_C_order_24 : decode zc_C_order 24 = .ok (.new 95, 3) := by decide +kernel
theorem zd_C_order_27 : decode zc_C_order 27 = .ok (.dup, 1) := by decide +kernel
theorem zd_C_order_28 : decode zc_C_order 28 = .ok (.ldc 97, 2) := by decide +kernel
theorem zd_C_order_30 : decode zc_C_order 30 = .ok (.invokespecial 99, 3) := by decide +kernel
theorem zd_C_order_33 : decode zc_C_order 33 = .ok (.athrow, 1) := by decide +kernel
theorem zd_C_order_34 : decode zc_C_order 34 = .ok (.aload_n 0, 1) := by decide +kernel
theorem zd_C_order_35 : decode zc_C_order 35 = .ok (.getfield 19, 3) := by decide +kernel
theorem zd_C_order_38 : decode zc_C_order 38 = .ok (.getfield 100, 3) := by decide +kernel
theorem zd_C_order_41 : decode zc_C_order 41 = .ok (.iload_n 1, 1) := by decide +kernel
theorem zd_C_order_42 : decode zc_C_order 42 = .ok (.iaload, 1) := by decide +kernel
theorem zd_C_order_43 : decode zc_C_order 43 = .ok (.ireturn, 1) := by decide +kernel
theorem zd_C_left_0 : decode zc_C_left 0 = .ok (.aload_n 0, 1) := by decide +kernel
theorem zd_C_left_1 : decode zc_C_left 1 = .ok (.getfield 12, 3) := by decide +kernel
theorem zd_C_left_4 : decode zc_C_left 4 = .ok (.iload_n 1, 1) := by decide +kernel
theorem zd_C_left_5 : decode zc_C_left 5 = .ok (.invokevirtual 48, 3) := by decide +kernel
theorem zd_C_left_8 : decode zc_C_left 8 = .ok (.ifCond .eq 22, 3) := by decide +kernel
theorem zd_C_left_11 : decode zc_C_left 11 = .ok (.aload_n 0, 1) := by decide +kernel
theorem zd_C_left_12 : decode zc_C_left 12 = .ok (.invokevirtual 89, 3) := by decide +kernel
theorem zd_C_left_15 : decode zc_C_left 15 = .ok (.ifCond .eq 15, 3) := by decide +kernel
theorem zd_C_left_18 : decode zc_C_left 18 = .ok (.aload_n 0, 1) := by decide +kernel
theorem zd_C_left_19 : decode zc_C_left 19 = .ok (.getfield 19, 3) := by decide +kernel
theorem zd_C_left_22 : decode zc_C_left 22 = .ok (.getfield 103, 3) := by decide +kernel
theorem zd_C_left_25 : decode zc_C_left 25 = .ok (.iload_n 1, 1) := by decide +kernel
theorem zd_C_left_26 : decode zc_C_left 26 = .ok (.iaload, 1) := by decide +kernel
theorem zd_C_left_27 : decode zc_C_left 27 = .ok (.goto 4, 3) := by decide +kernel
theorem zd_C_left_30 : decode zc_C_left 30 = .ok (.iconst (-1), 1) := by decide +kernel
theorem zd_C_left_31 : decode zc_C_left 31 = .ok (.ireturn, 1) := by decide +kernel
theorem zd_C_peak_0 : decode zc_C_peak 0 = .ok (.aload_n 0, 1) := by decide +kernel
theorem zd_C_peak_1 : decode zc_C_peak 1 = .ok (.getfield 12, 3) := by decide +kernel
theorem zd_C_peak_4 : decode zc_C_peak 4 = .ok (.iload_n 1, 1) := by decide +kernel
theorem zd_C_peak_5 : decode zc_C_peak 5 = .ok (.invokevirtual 106, 3) := by decide +kernel
theorem zd_C_peak_8 : decode zc_C_peak 8 = .ok (.ifCond .eq 22, 3) := by decide +kernel
theorem zd_C_peak_11 : decode zc_C_peak 11 = .ok (.aload_n 0, 1) := by decide +kernel
theorem zd_C_peak_12 : decode zc_C_peak 12 = .ok (.invokevirtual 89, 3) := by decide +kernel
theorem zd_C_peak_15 : decode zc_C_peak 15 = .ok (.ifCond .eq 15, 3) := by decide +kernel
theorem zd_C_peak_18 : decode zc_C_peak 18 = .ok (.aload_n 0, 1) := by decide +kernel
theorem zd_C_peak_19 : decode zc_C_peak 19 = .ok (.getfield 19, 3) := by decide +kernel
theorem zd_C_peak_22 : decode zc_C_peak 22 = .ok (.getfield 109, 3) := by decide +kernel
theorem zd_C_peak_25 : decode zc_C_peak 25 = .ok (.iload_n 1, 1) := by decide +kernel
theorem zd_C_peak_26 : decode zc_C_peak 26 = .ok (.iaload, 1) := by decide +kernel
theorem zd_C_peak_27 : decode zc_C_peak 27 = .ok (.goto 4, 3) := by decide +kernel
theorem zd_C_peak_30 : decode zc_C_peak 30 = .ok (.iconst (-1), 1) := by decide +kernel
theorem zd_C_peak_31 : decode zc_C_peak 31 = .ok (.ireturn, 1) := by decide +kernel
theorem zd_C_pace_0 : decode zc_C_pace 0 = .ok (.aload_n 0, 1) := by decide +kernel
theorem zd_C_pace_1 : decode zc_C_pace 1 = .ok (.getfield 12, 3) := by decide +kernel
theorem zd_C_pace_4 : decode zc_C_pace 4 = .ok (.iload_n 1, 1) := by decide +kernel
theorem zd_C_pace_5 : decode zc_C_pace 5 = .ok (.invokevirtual 48, 3) := by decide +kernel
theorem zd_C_pace_8 : decode zc_C_pace 8 = .ok (.ifCond .eq 12, 3) := by decide +kernel
theorem zd_C_pace_11 : decode zc_C_pace 11 = .ok (.iload_n 2, 1) := by decide +kernel
theorem zd_C_pace_12 : decode zc_C_pace 12 = .ok (.iconst 0, 1) := by decide +kernel
theorem zd_C_pace_13 : decode zc_C_pace 13 = .ok (.iconst 1, 1) := by decide +kernel
theorem zd_C_pace_14 : decode zc_C_pace 14 = .ok (.invokestatic 37, 3) := by decide +kernel
theorem zd_C_pace_17 : decode zc_C_pace 17 = .ok (.ifCond .ne 13, 3) := by decide +kernel
theorem zd_C_pace_20 : decode zc_C_pace 20 = .ok (.new 95, 3) := by decide +kernel
theorem zd_C_pace_23 : decode zc_C_pace 23 = .ok (.dup, 1) := by decide +kernel
theorem zd_C_pace_24 : decode zc_C_pace 24 = .ok (.ldc 112, 2) := by decide +kernel
theorem zd_C_pace_26 : decode zc_C_pace 26 = .ok (.invokespecial 99, 3) := by decide +kernel
theorem zd_C_pace_29 : decode zc_C_pace 29 = .ok (.athrow, 1) := by decide +kernel
theorem zd_C_pace_30 : decode zc_C_pace 30 = .ok (.aload_n 0, 1) := by decide +kernel
theorem zd_C_pace_31 : decode zc_C_pace 31 = .ok (.invokevirtual 89, 3) := by decide +kernel
theorem zd_C_pace_34 : decode zc_C_pace 34 = .ok (.ifCond .eq 28, 3) := by decide +kernel
theorem zd_C_pace_37 : decode zc_C_pace 37 = .ok (.aload_n 0, 1) := by decide +kernel
theorem zd_C_pace_38 : decode zc_C_pace 38 = .ok (.getfield 19, 3) := by decide +kernel
theorem zd_C_pace_41 : decode zc_C_pace 41 = .ok (.aload_n 0, 1) := by decide +kernel
theorem zd_C_pace_42 : decode zc_C_pace 42 = .ok (.getfield 12, 3) := by decide +kernel
theorem zd_C_pace_45 : decode zc_C_pace 45 = .ok (.invokevirtual 114, 3) := by decide +kernel
theorem zd_C_pace_48 : decode zc_C_pace 48 = .ok (.ifCond .eq 14, 3) := by decide +kernel
theorem zd_C_pace_51 : decode zc_C_pace 51 = .ok (.aload_n 0, 1) := by decide +kernel
theorem zd_C_pace_52 : decode zc_C_pace 52 = .ok (.getfield 12, 3) := by decide +kernel
theorem zd_C_pace_55 : decode zc_C_pace 55 = .ok (.iload_n 1, 1) := by decide +kernel
theorem zd_C_pace_56 : decode zc_C_pace 56 = .ok (.invokevirtual 118, 3) := by decide +kernel
theorem zd_C_pace_59 : decode zc_C_pace 59 = .ok (.ifCond .ne 13, 3) := by decide +kernel
theorem zd_C_pace_62 : decode zc_C_pace 62 = .ok (.new 71, 3) := by decide +kernel
theorem zd_C_pace_65 : decode zc_C_pace 65 = .ok (.dup, 1) := by decide +kernel
theorem zd_C_pace_66 : decode zc_C_pace 66 = .ok (.ldc 121, 2) := by decide +kernel
theorem zd_C_pace_68 : decode zc_C_pace 68 = .ok (.invokespecial 75, 3) := by decide +kernel
theorem zd_C_pace_71 : decode zc_C_pace 71 = .ok (.athrow, 1) := by decide +kernel
theorem zd_C_pace_72 : decode zc_C_pace 72 = .ok (.aload_n 0, 1) := by decide +kernel
theorem zd_C_pace_73 : decode zc_C_pace 73 = .ok (.getfield 12, 3) := by decide +kernel
theorem zd_C_pace_76 : decode zc_C_pace 76 = .ok (.iload_n 1, 1) := by decide +kernel
theorem zd_C_pace_77 : decode zc_C_pace 77 = .ok (.invokevirtual 123, 3) := by decide +kernel
theorem zd_C_pace_80 : decode zc_C_pace 80 = .ok (.bipush 40, 2) := by decide +kernel
theorem zd_C_pace_82 : decode zc_C_pace 82 = .ok (.if_icmp .le 13, 3) := by decide +kernel
theorem zd_C_pace_85 : decode zc_C_pace 85 = .ok (.new 81, 3) := by decide +kernel
theorem zd_C_pace_88 : decode zc_C_pace 88 = .ok (.dup, 1) := by decide +kernel
theorem zd_C_pace_89 : decode zc_C_pace 89 = .ok (.ldc 127, 2) := by decide +kernel
theorem zd_C_pace_91 : decode zc_C_pace 91 = .ok (.invokespecial 85, 3) := by decide +kernel
theorem zd_C_pace_94 : decode zc_C_pace 94 = .ok (.athrow, 1) := by decide +kernel
theorem zd_C_pace_95 : decode zc_C_pace 95 = .ok (.aload_n 0, 1) := by decide +kernel
theorem zd_C_pace_96 : decode zc_C_pace 96 = .ok (.getfield 26, 3) := by decide +kernel
theorem zd_C_pace_99 : decode zc_C_pace 99 = .ok (.aload_n 0, 1) := by decide +kernel
theorem zd_C_pace_100 : decode zc_C_pace 100 = .ok (.getfield 12, 3) := by decide +kernel
theorem zd_C_pace_103 : decode zc_C_pace 103 = .ok (.aload_n 0, 1) := by decide +kernel
theorem zd_C_pace_104 : decode zc_C_pace 104 = .ok (.getfield 12, 3) := by decide +kernel
theorem zd_C_pace_107 : decode zc_C_pace 107 = .ok (.getfield 129, 3) := by decide +kernel
theorem zd_C_pace_110 : decode zc_C_pace 110 = .ok (.iload_n 1, 1) := by decide +kernel
theorem zd_C_pace_111 : decode zc_C_pace 111 = .ok (.iaload, 1) := by decide +kernel
theorem zd_C_pace_112 : decode zc_C_pace 112 = .ok (.invokevirtual 132, 3) := by decide +kernel
theorem zd_C_pace_115 : decode zc_C_pace 115 = .ok (.iload_n 2, 1) := by decide +kernel
theorem zd_C_pace_116 : decode zc_C_pace 116 = .ok (.ifCond .ne 13, 3) := by decide +kernel
theorem zd_C_pace_119 : decode zc_C_pace 119 = .ok (.aload_n 0, 1) := by decide +kernel
theorem zd_C_pace_120 : decode zc_C_pace 120 = .ok (.getfield 26, 3) := by decide +kernel
theorem zd_C_pace_123 : decode zc_C_pace 123 = .ok (.getfield 136, 3) := by decide +kernel
theorem zd_C_pace_126 : decode zc_C_pace 126 = .ok (.goto 10, 3) := by decide +kernel
theorem zd_C_pace_129 : decode zc_C_pace 129 = .ok (.aload_n 0, 1) := by decide +kernel
theorem zd_C_pace_130 : decode zc_C_pace 130 = .ok (.getfield 26, 3) := by decide +kernel
theorem zd_C_pace_133 : decode zc_C_pace 133 = .ok (.getfield 139, 3) := by decide +kernel
theorem zd_C_pace_136 : decode zc_C_pace 136 = .ok (.ireturn, 1) := by decide +kernel
theorem zd_C_room_0 : decode zc_C_room 0 = .ok (.aload_n 0, 1) := by decide +kernel
theorem zd_C_room_1 : decode zc_C_room 1 = .ok (.getfield 12, 3) := by decide +kernel
theorem zd_C_room_4 : decode zc_C_room 4 = .ok (.invokevirtual 142, 3) := by decide +kernel
theorem zd_C_room_7 : decode zc_C_room 7 = .ok (.ifCond .eq 27, 3) := by decide +kernel
theorem zd_C_room_10 : decode zc_C_room 10 = .ok (.aload_n 0, 1) := by decide +kernel
theorem zd_C_room_11 : decode zc_C_room 11 = .ok (.getfield 12, 3) := by decide +kernel
theorem zd_C_room_14 : decode zc_C_room 14 = .ok (.invokevirtual 78, 3) := by decide +kernel
theorem zd_C_room_17 : decode zc_C_room 17 = .ok (.ifCond .ne 17, 3) := by decide +kernel
theorem zd_C_room_20 : decode zc_C_room 20 = .ok (.aload_n 0, 1) := by decide +kernel
theorem zd_C_room_21 : decode zc_C_room 21 = .ok (.getfield 33, 3) := by decide +kernel
theorem zd_C_room_24 : decode zc_C_room 24 = .ok (.aload_n 0, 1) := by decide +kernel
theorem zd_C_room_25 : decode zc_C_room 25 = .ok (.getfield 12, 3) := by decide +kernel
theorem zd_C_room_28 : decode zc_C_room 28 = .ok (.invokevirtual 145, 3) := by decide +kernel
theorem zd_C_room_31 : decode zc_C_room 31 = .ok (.goto 4, 3) := by decide +kernel
theorem zd_C_room_34 : decode zc_C_room 34 = .ok (.iconst (-1), 1) := by decide +kernel
theorem zd_C_room_35 : decode zc_C_room 35 = .ok (.ireturn, 1) := by decide +kernel
theorem zd_C_total_0 : decode zc_C_total 0 = .ok (.iload_n 1, 1) := by decide +kernel
theorem zd_C_total_1 : decode zc_C_total 1 = .ok (.tableswitch 74 0 3 #[31, 39, 47, 55], 31) := by decide +kernel
theorem zd_C_total_32 : decode zc_C_total 32 = .ok (.aload_n 0, 1) := by decide +kernel
theorem zd_C_total_33 : decode zc_C_total 33 = .ok (.getfield 12, 3) := by decide +kernel
theorem zd_C_total_36 : decode zc_C_total 36 = .ok (.getfield 149, 3) := by decide +kernel
theorem zd_C_total_39 : decode zc_C_total 39 = .ok (.ireturn, 1) := by decide +kernel
theorem zd_C_total_40 : decode zc_C_total 40 = .ok (.aload_n 0, 1) := by decide +kernel
theorem zd_C_total_41 : decode zc_C_total 41 = .ok (.getfield 12, 3) := by decide +kernel
theorem zd_C_total_44 : decode zc_C_total 44 = .ok (.getfield 56, 3) := by decide +kernel
theorem zd_C_total_47 : decode zc_C_total 47 = .ok (.ireturn, 1) := by decide +kernel
theorem zd_C_total_48 : decode zc_C_total 48 = .ok (.aload_n 0, 1) := by decide +kernel
theorem zd_C_total_49 : decode zc_C_total 49 = .ok (.getfield 12, 3) := by decide +kernel
theorem zd_C_total_52 : decode zc_C_total 52 = .ok (.invokevirtual 152, 3) := by decide +kernel
theorem zd_C_total_55 : decode zc_C_total 55 = .ok (.ireturn, 1) := by decide +kernel
theorem zd_C_total_56 : decode zc_C_total 56 = .ok (.aload_n 0, 1) := by decide +kernel
theorem zd_C_total_57 : decode zc_C_total 57 = .ok (.invokevirtual 89, 3) := by decide +kernel
theorem zd_C_total_60 : decode zc_C_total 60 = .ok (.ifCond .eq 13, 3) := by decide +kernel
theorem zd_C_total_63 : decode zc_C_total 63 = .ok (.aload_n 0, 1) := by decide +kernel
theorem zd_C_total_64 : decode zc_C_total 64 = .ok (.getfield 19, 3) := by decide +kernel
theorem zd_C_total_67 : decode zc_C_total 67 = .ok (.getfield 92, 3) := by decide +kernel
theorem zd_C_total_70 : decode zc_C_total 70 = .ok (.goto 4, 3) := by decide +kernel
theorem zd_C_total_73 : decode zc_C_total 73 = .ok (.iconst 0, 1) := by decide +kernel
theorem zd_C_total_74 : decode zc_C_total 74 = .ok (.ireturn, 1) := by decide +kernel
theorem zd_C_total_75 : decode zc_C_total 75 = .ok (.iconst (-1), 1) := by decide +kernel
theorem zd_C_total_76 : decode zc_C_total 76 = .ok (.ireturn, 1) := by decide +kernel
theorem zd_C_forgetAnswers_0 : decode zc_C_forgetAnswers 0 = .ok (.aload_n 0, 1) := by decide +kernel
theorem zd_C_forgetAnswers_1 : decode zc_C_forgetAnswers 1 = .ok (.getfield 19, 3) := by decide +kernel
theorem zd_C_forgetAnswers_4 : decode zc_C_forgetAnswers 4 = .ok (.iconst 0, 1) := by decide +kernel
theorem zd_C_forgetAnswers_5 : decode zc_C_forgetAnswers 5 = .ok (.putfield 156, 3) := by decide +kernel
theorem zd_C_forgetAnswers_8 : decode zc_C_forgetAnswers 8 = .ok (.aload_n 0, 1) := by decide +kernel
theorem zd_C_forgetAnswers_9 : decode zc_C_forgetAnswers 9 = .ok (.getfield 26, 3) := by decide +kernel
theorem zd_C_forgetAnswers_12 : decode zc_C_forgetAnswers 12 = .ok (.iconst (-1), 1) := by decide +kernel
theorem zd_C_forgetAnswers_13 : decode zc_C_forgetAnswers 13 = .ok (.putfield 160, 3) := by decide +kernel
theorem zd_C_forgetAnswers_16 : decode zc_C_forgetAnswers 16 = .ok (.return_, 1) := by decide +kernel
theorem zd_C_findRound_0 : decode zc_C_findRound 0 = .ok (.aload_n 0, 1) := by decide +kernel
theorem zd_C_findRound_1 : decode zc_C_findRound 1 = .ok (.getfield 12, 3) := by decide +kernel
theorem zd_C_findRound_4 : decode zc_C_findRound 4 = .ok (.invokevirtual 67, 3) := by decide +kernel
theorem zd_C_findRound_7 : decode zc_C_findRound 7 = .ok (.ifCond .ne 13, 3) := by decide +kernel
theorem zd_C_findRound_10 : decode zc_C_findRound 10 = .ok (.aload_n 0, 1) := by decide +kernel
theorem zd_C_findRound_11 : decode zc_C_findRound 11 = .ok (.getfield 12, 3) := by decide +kernel
theorem zd_C_findRound_14 : decode zc_C_findRound 14 = .ok (.invokevirtual 78, 3) := by decide +kernel
theorem zd_C_findRound_17 : decode zc_C_findRound 17 = .ok (.ifCond .eq 5, 3) := by decide +kernel
theorem zd_C_findRound_20 : decode zc_C_findRound 20 = .ok (.iconst 0, 1) := by decide +kernel
theorem zd_C_findRound_21 : decode zc_C_findRound 21 = .ok (.ireturn, 1) := by decide +kernel
theorem zd_C_findRound_22 : decode zc_C_findRound 22 = .ok (.aload_n 0, 1) := by decide +kernel
theorem zd_C_findRound_23 : decode zc_C_findRound 23 = .ok (.getfield 19, 3) := by decide +kernel
theorem zd_C_findRound_26 : decode zc_C_findRound 26 = .ok (.getfield 156, 3) := by decide +kernel
theorem zd_C_findRound_29 : decode zc_C_findRound 29 = .ok (.ifCond .ne 14, 3) := by decide +kernel
theorem zd_C_findRound_32 : decode zc_C_findRound 32 = .ok (.aload_n 0, 1) := by decide +kernel
theorem zd_C_findRound_33 : decode zc_C_findRound 33 = .ok (.getfield 19, 3) := by decide +kernel
theorem zd_C_findRound_36 : decode zc_C_findRound 36 = .ok (.aload_n 0, 1) := by decide +kernel
theorem zd_C_findRound_37 : decode zc_C_findRound 37 = .ok (.getfield 12, 3) := by decide +kernel
theorem zd_C_findRound_40 : decode zc_C_findRound 40 = .ok (.invokevirtual 163, 3) := by decide +kernel
theorem zd_C_findRound_43 : decode zc_C_findRound 43 = .ok (.iconst 1, 1) := by decide +kernel
theorem zd_C_findRound_44 : decode zc_C_findRound 44 = .ok (.ireturn, 1) := by decide +kernel
theorem zd_C_isWithin_0 : decode zc_C_isWithin 0 = .ok (.iload_n 0, 1) := by decide +kernel
theorem zd_C_isWithin_1 : decode zc_C_isWithin 1 = .ok (.iload_n 1, 1) := by decide +kernel
theorem zd_C_isWithin_2 : decode zc_C_isWithin 2 = .ok (.if_icmp .lt 12, 3) := by decide +kernel
theorem zd_C_isWithin_5 : decode zc_C_isWithin 5 = .ok (.iload_n 0, 1) := by decide +kernel
theorem zd_C_isWithin_6 : decode zc_C_isWithin 6 = .ok (.iload_n 2, 1) := by decide +kernel
theorem zd_C_isWithin_7 : decode zc_C_isWithin 7 = .ok (.if_icmp .gt 7, 3) := by decide +kernel
theorem zd_C_isWithin_10 : decode zc_C_isWithin 10 = .ok (.iconst 1, 1) := by decide +kernel
theorem zd_C_isWithin_11 : decode zc_C_isWithin 11 = .ok (.goto 4, 3) := by decide +kernel
theorem zd_C_isWithin_14 : decode zc_C_isWithin 14 = .ok (.iconst 0, 1) := by decide +kernel
theorem zd_C_isWithin_15 : decode zc_C_isWithin 15 = .ok (.ireturn, 1) := by decide +kernel
theorem zd_C_commonDivisor_0 : decode zc_C_commonDivisor 0 = .ok (.iload_n 0, 1) := by decide +kernel
theorem zd_C_commonDivisor_1 : decode zc_C_commonDivisor 1 = .ok (.istore_n 2, 1) := by decide +kernel
theorem zd_C_commonDivisor_2 : decode zc_C_commonDivisor 2 = .ok (.iload_n 1, 1) := by decide +kernel
theorem zd_C_commonDivisor_3 : decode zc_C_commonDivisor 3 = .ok (.istore_n 3, 1) := by decide +kernel
theorem zd_C_commonDivisor_4 : decode zc_C_commonDivisor 4 = .ok (.iconst 0, 1) := by decide +kernel
theorem zd_C_commonDivisor_5 : decode zc_C_commonDivisor 5 = .ok (.istore 4, 2) := by decide +kernel
theorem zd_C_commonDivisor_7 : decode zc_C_commonDivisor 7 = .ok (.iload 4, 2) := by decide +kernel
theorem zd_C_commonDivisor_9 : decode zc_C_commonDivisor 9 = .ok (.bipush 100, 2) := by decide +kernel
theorem zd_C_commonDivisor_11 : decode zc_C_commonDivisor 11 = .ok (.if_icmp .ge 23, 3) := by decide +kernel
theorem zd_C_commonDivisor_14 : decode zc_C_commonDivisor 14 = .ok (.iload_n 3, 1) := by decide +kernel
theorem zd_C_commonDivisor_15 : decode zc_C_commonDivisor 15 = .ok (.ifCond .eq 19, 3) := by decide +kernel
theorem zd_C_commonDivisor_18 : decode zc_C_commonDivisor 18 = .ok (.iload_n 2, 1) := by decide +kernel
theorem zd_C_commonDivisor_19 : decode zc_C_commonDivisor 19 = .ok (.iload_n 3, 1) := by decide +kernel
theorem zd_C_commonDivisor_20 : decode zc_C_commonDivisor 20 = .ok (.irem, 1) := by decide +kernel
theorem zd_C_commonDivisor_21 : decode zc_C_commonDivisor 21 = .ok (.istore 5, 2) := by decide +kernel
theorem zd_C_commonDivisor_23 : decode zc_C_commonDivisor 23 = .ok (.iload_n 3, 1) := by decide +kernel
theorem zd_C_commonDivisor_24 : decode zc_C_commonDivisor 24 = .ok (.istore_n 2, 1) := by decide +kernel
theorem zd_C_commonDivisor_25 : decode zc_C_commonDivisor 25 = .ok (.iload 5, 2) := by decide +kernel
theorem zd_C_commonDivisor_27 : decode zc_C_commonDivisor 27 = .ok (.istore_n 3, 1) := by decide +kernel
theorem zd_C_commonDivisor_28 : decode zc_C_commonDivisor 28 = .ok (.iinc 4 1, 3) := by decide +kernel
theorem zd_C_commonDivisor_31 : decode zc_C_commonDivisor 31 = .ok (.goto (-24), 3) := by decide +kernel
theorem zd_C_commonDivisor_34 : decode zc_C_commonDivisor 34 = .ok (.iload_n 2, 1) := by decide +kernel
theorem zd_C_commonDivisor_35 : decode zc_C_commonDivisor 35 = .ok (.ireturn, 1) := by decide +kernel
theorem zd_C_divided_0 : decode zc_C_divided 0 = .ok (.iload_n 1, 1) := by decide +kernel
theorem zd_C_divided_1 : decode zc_C_divided 1 = .ok (.ifCond .ne 7, 3) := by decide +kernel
theorem zd_C_divided_4 : decode zc_C_divided 4 = .ok (.iconst 0, 1) := by decide +kernel
theorem zd_C_divided_5 : decode zc_C_divided 5 = .ok (.goto 6, 3) := by decide +kernel
theorem zd_C_divided_8 : decode zc_C_divided 8 = .ok (.iload_n 0, 1) := by decide +kernel
theorem zd_C_divided_9 : decode zc_C_divided 9 = .ok (.iload_n 1, 1) := by decide +kernel
theorem zd_C_divided_10 : decode zc_C_divided 10 = .ok (.idiv, 1) := by decide +kernel
theorem zd_C_divided_11 : decode zc_C_divided 11 = .ok (.ireturn, 1) := by decide +kernel
theorem zd_N_init_0 : decode zc_N_init 0 = .ok (.aload_n 0, 1) := by decide +kernel
theorem zd_N_init_1 : decode zc_N_init 1 = .ok (.invokespecial 3, 3) := by decide +kernel
theorem zd_N_init_4 : decode zc_N_init 4 = .ok (.aload_n 0, 1) := by decide +kernel
theorem zd_N_init_5 : decode zc_N_init 5 = .ok (.bipush 8, 2) := by decide +kernel
theorem zd_N_init_7 : decode zc_N_init 7 = .ok (.newarray .int, 2) := by decide +kernel
theorem zd_N_init_9 : decode zc_N_init 9 = .ok (.putfield 9, 3) := by decide +kernel
theorem zd_N_init_12 : decode zc_N_init 12 = .ok (.aload_n 0, 1) := by decide +kernel
theorem zd_N_init_13 : decode zc_N_init 13 = .ok (.bipush 8, 2) := by decide +kernel
theorem zd_N_init_15 : decode zc_N_init 15 = .ok (.newarray .int, 2) := by decide +kernel
theorem zd_N_init_17 : decode zc_N_init 17 = .ok (.putfield 15, 3) := by decide +kernel
theorem zd_N_init_20 : decode zc_N_init 20 = .ok (.aload_n 0, 1) := by decide +kernel
theorem zd_N_init_21 : decode zc_N_init 21 = .ok (.bipush 8, 2) := by decide +kernel
theorem zd_N_init_23 : decode zc_N_init 23 = .ok (.newarray .int, 2) := by decide +kernel
theorem zd_N_init_25 : decode zc_N_init 25 = .ok (.putfield 18, 3) := by decide +kernel
theorem zd_N_init_28 : decode zc_N_init 28 = .ok (.aload_n 0, 1) := by decide +kernel
theorem zd_N_init_29 : decode zc_N_init 29 = .ok (.bipush 14, 2) := by decide +kernel
theorem zd_N_init_31 : decode zc_N_init 31 = .ok (.newarray .int, 2) := by decide +kernel
theorem zd_N_init_33 : decode zc_N_init 33 = .ok (.putfield 21, 3) := by decide +kernel
theorem zd_N_init_36 : decode zc_N_init 36 = .ok (.aload_n 0, 1) := by decide +kernel
theorem zd_N_init_37 : decode zc_N_init 37 = .ok (.bipush 14, 2) := by decide +kernel
theorem zd_N_init_39 : decode zc_N_init 39 = .ok (.newarray .int, 2) := by decide +kernel
theorem zd_N_init_41 : decode zc_N_init 41 = .ok (.putfield 24, 3) := by decide +kernel
theorem zd_N_init_44 : decode zc_N_init 44 = .ok (.aload_n 0, 1) := by decide +kernel
theorem zd_N_init_45 : decode zc_N_init 45 = .ok (.bipush 14, 2) := by decide +kernel
theorem zd_N_init_47 : decode zc_N_init 47 = .ok (.newarray .int, 2) := by decide +kernel
theorem zd_N_init_49 : decode zc_N_init 49 = .ok (.putfield 27, 3) := by decide +kernel
theorem zd_N_init_52 : decode zc_N_init 52 = .ok (.aload_n 0, 1) := by decide +kernel
theorem zd_N_init_53 : decode zc_N_init 53 = .ok (.bipush 14, 2) := by decide +kernel
theorem zd_N_init_55 : decode zc_N_init 55 = .ok (.newarray .int, 2) := by decide +kernel
theorem zd_N_init_57 : decode zc_N_init 57 = .ok (.putfield 30, 3) := by decide +kernel
theorem zd_N_init_60 : decode zc_N_init 60 = .ok (.aload_n 0, 1) := by decide +kernel
theorem zd_N_init_61 : decode zc_N_init 61 = .ok (.bipush 14, 2) := by decide +kernel
theorem zd_N_init_63 : decode zc_N_init 63 = .ok (.newarray .int, 2) := by decide +kernel
theorem zd_N_init_65 : decode zc_N_init 65 = .ok (.putfield 33, 3) := by decide +kernel
theorem zd_N_init_68 : decode zc_N_init 68 = .ok (.aload_n 0, 1) := by decide +kernel
theorem zd_N_init_69 : decode zc_N_init 69 = .ok (.iconst 1, 1) := by decide +kernel
theorem zd_N_init_70 : decode zc_N_init 70 = .ok (.invokevirtual 36, 3) := by decide +kernel
theorem zd_N_init_73 : decode zc_N_init 73 = .ok (.return_, 1) := by decide +kernel
theorem zd_N_begin_0 : decode zc_N_begin 0 = .ok (.aload_n 0, 1) := by decide +kernel
theorem zd_N_begin_1 : decode zc_N_begin 1 = .ok (.iload_n 1, 1) := by decide +kernel
theorem zd_N_begin_2 : decode zc_N_begin 2 = .ok (.putfield 40, 3) := by decide +kernel
theorem zd_N_begin_5 : decode zc_N_begin 5 = .ok (.aload_n 0, 1) := by decide +kernel
theorem zd_N_begin_6 : decode zc_N_begin 6 = .ok (.iconst 0, 1) := by decide +kernel
theorem zd_N_begin_7 : decode zc_N_begin 7 = .ok (.putfield 44, 3) := by decide +kernel
theorem zd_N_begin_10 : decode zc_N_begin 10 = .ok (.aload_n 0, 1) := by decide +kernel
theorem zd_N_begin_11 : decode zc_N_begin 11 = .ok (.iconst (-1), 1) := by decide +kernel
theorem zd_N_begin_12 : decode zc_N_begin 12 = .ok (.putfield 47, 3) := by decide +kernel
theorem zd_N_begin_15 : decode zc_N_begin 15 = .ok (.iconst 0, 1) := by decide +kernel
theorem zd_N_begin_16 : decode zc_N_begin 16 = .ok (.istore_n 2, 1) := by decide +kernel
theorem zd_N_begin_17 : decode zc_N_begin 17 = .ok (.iload_n 2, 1) := by decide +kernel
theorem zd_N_begin_18 : decode zc_N_begin 18 = .ok (.bipush 8, 2) := by decide +kernel
theorem zd_N_begin_20 : decode zc_N_begin 20 = .ok (.if_icmp .ge 30, 3) := by decide +kernel
theorem zd_N_begin_23 : decode zc_N_begin 23 = .ok (.aload_n 0, 1) := by decide +kernel
theorem zd_N_begin_24 : decode zc_N_begin 24 = .ok (.getfield 9, 3) := by decide +kernel
theorem zd_N_begin_27 : decode zc_N_begin 27 = .ok (.iload_n 2, 1) := by decide +kernel
theorem zd_N_begin_28 : decode zc_N_begin 28 = .ok (.iconst 1, 1) := by decide +kernel
theorem zd_N_begin_29 : decode zc_N_begin 29 = .ok (.iastore, 1) := by decide +kernel
theorem zd_N_begin_30 : decode zc_N_begin 30 = .ok (.aload_n 0, 1) := by decide +kernel
theorem zd_N_begin_31 : decode zc_N_begin 31 = .ok (.getfield 15, 3) := by decide +kernel
theorem zd_N_begin_34 : decode zc_N_begin 34 = .ok (.iload_n 2, 1) := by decide +kernel
theorem zd_N_begin_35 : decode zc_N_begin 35 = .ok (.iconst 1, 1) := by decide +kernel
theorem zd_N_begin_36 : decode zc_N_begin 36 = .ok (.iastore, 1) := by decide +kernel
theorem zd_N_begin_37 : decode zc_N_begin 37 = .ok (.aload_n 0, 1) := by decide +kernel
theorem zd_N_begin_38 : decode zc_N_begin 38 = .ok (.getfield 18, 3) := by decide +kernel
theorem zd_N_begin_41 : decode zc_N_begin 41 = .ok (.iload_n 2, 1) := by decide +kernel
theorem zd_N_begin_42 : decode zc_N_begin 42 = .ok (.iload_n 2, 1) := by decide +kernel
theorem zd_N_begin_43 : decode zc_N_begin 43 = .ok (.iastore, 1) := by decide +kernel
theorem zd_N_begin_44 : decode zc_N_begin 44 = .ok (.iinc 2 1, 3) := by decide +kernel
theorem zd_N_begin_47 : decode zc_N_begin 47 = .ok (.goto (-30), 3) := by decide +kernel
theorem zd_N_begin_50 : decode zc_N_begin 50 = .ok (.return_, 1) := by decide +kernel
theorem zd_N_hasActor_0 : decode zc_N_hasActor 0 = .ok (.iload_n 1, 1) := by decide +kernel
theorem zd_N_hasActor_1 : decode zc_N_hasActor 1 = .ok (.ifCond .lt 15, 3) := by decide +kernel
theorem zd_N_hasActor_4 : decode zc_N_hasActor 4 = .ok (.iload_n 1, 1) := by decide +kernel
theorem zd_N_hasActor_5 : decode zc_N_hasActor 5 = .ok (.aload_n 0, 1) := by decide +kernel
theorem zd_N_hasActor_6 : decode zc_N_hasActor 6 = .ok (.getfield 40, 3) := by decide +kernel
theorem zd_N_hasActor_9 : decode zc_N_hasActor 9 = .ok (.if_icmp .ge 7, 3) := by decide +kernel
theorem zd_N_hasActor_12 : decode zc_N_hasActor 12 = .ok (.iconst 1, 1) := by decide +kernel
theorem zd_N_hasActor_13 : decode zc_N_hasActor 13 = .ok (.goto 4, 3) := by decide +kernel
theorem zd_N_hasActor_16 : decode zc_N_hasActor 16 = .ok (.iconst 0, 1) := by decide +kernel
theorem zd_N_hasActor_17 : decode zc_N_hasActor 17 = .ok (.ireturn, 1) := by decide +kernel
theorem zd_N_hasChannel_0 : decode zc_N_hasChannel 0 = .ok (.iload_n 1, 1) := by decide +kernel
theorem zd_N_hasChannel_1 : decode zc_N_hasChannel 1 = .ok (.ifCond .lt 15, 3) := by decide +kernel
theorem zd_N_hasChannel_4 : decode zc_N_hasChannel 4 = .ok (.iload_n 1, 1) := by decide +kernel
theorem zd_N_hasChannel_5 : decode zc_N_hasChannel 5 = .ok (.aload_n 0, 1) := by decide +kernel
theorem zd_N_hasChannel_6 : decode zc_N_hasChannel 6 = .ok (.getfield 44, 3) := by decide +kernel
theorem zd_N_hasChannel_9 : decode zc_N_hasChannel 9 = .ok (.if_icmp .ge 7, 3) := by decide +kernel
theorem zd_N_hasChannel_12 : decode zc_N_hasChannel 12 = .ok (.iconst 1, 1) := by decide +kernel
theorem zd_N_hasChannel_13 : decode zc_N_hasChannel 13 = .ok (.goto 4, 3) := by decide +kernel
theorem zd_N_hasChannel_16 : decode zc_N_hasChannel 16 = .ok (.iconst 0, 1) := by decide +kernel
theorem zd_N_hasChannel_17 : decode zc_N_hasChannel 17 = .ok (.ireturn, 1) := by decide +kernel
theorem zd_N_add_0 : decode zc_N_add 0 = .ok (.aload_n 0, 1) := by decide +kernel
theorem zd_N_add_1 : decode zc_N_add 1 = .ok (.getfield 44, 3) := by decide +kernel
theorem zd_N_add_4 : decode zc_N_add 4 = .ok (.istore 6, 2) := by decide +kernel
theorem zd_N_add_6 : decode zc_N_add 6 = .ok (.iload 6, 2) := by decide +kernel
theorem zd_N_add_8 : decode zc_N_add 8 = .ok (.bipush 14, 2) := by decide +kernel
theorem zd_N_add_10 : decode zc_N_add 10 = .ok (.if_icmp .lt 5, 3) := by decide +kernel
theorem zd_N_add_13 : decode zc_N_add 13 = .ok (.iconst (-1), 1) := by decide +kernel
theorem zd_N_add_14 : decode zc_N_add 14 = .ok (.ireturn, 1) := by decide +kernel
theorem zd_N_add_15 : decode zc_N_add 15 = .ok (.aload_n 0, 1) := by decide +kernel
theorem zd_N_add_16 : decode zc_N_add 16 = .ok (.getfield 21, 3) := by decide +kernel
theorem zd_N_add_19 : decode zc_N_add 19 = .ok (.iload 6, 2) := by decide +kernel
theorem zd_N_add_21 : decode zc_N_add 21 = .ok (.iload_n 1, 1) := by decide +kernel
theorem zd_N_add_22 : decode zc_N_add 22 = .ok (.iastore, 1) := by decide +kernel
theorem zd_N_add_23 : decode zc_N_add 23 = .ok (.aload_n 0, 1) := by decide +kernel
theorem zd_N_add_24 : decode zc_N_add 24 = .ok (.getfield 24, 3) := by decide +kernel
theorem zd_N_add_27 : decode zc_N_add 27 = .ok (.iload 6, 2) := by decide +kernel
theorem zd_N_add_29 : decode zc_N_add 29 = .ok (.iload_n 2, 1) := by decide +kernel
theorem zd_N_add_30 : decode zc_N_add 30 = .ok (.iastore, 1) := by decide +kernel
theorem zd_N_add_31 : decode zc_N_add 31 = .ok (.aload_n 0, 1) := by decide +kernel
theorem zd_N_add_32 : decode zc_N_add 32 = .ok (.getfield 27, 3) := by decide +kernel
theorem zd_N_add_35 : decode zc_N_add 35 = .ok (.iload 6, 2) := by decide +kernel
theorem zd_N_add_37 : decode zc_N_add 37 = .ok (.iload_n 3, 1) := by decide +kernel
theorem zd_N_add_38 : decode zc_N_add 38 = .ok (.iastore, 1) := by decide +kernel
theorem zd_N_add_39 : decode zc_N_add 39 = .ok (.aload_n 0, 1) := by decide +kernel
theorem zd_N_add_40 : decode zc_N_add 40 = .ok (.getfield 30, 3) := by decide +kernel
theorem zd_N_add_43 : decode zc_N_add 43 = .ok (.iload 6, 2) := by decide +kernel
theorem zd_N_add_45 : decode zc_N_add 45 = .ok (.iload 4, 2) := by decide +kernel
theorem zd_N_add_47 : decode zc_N_add 47 = .ok (.iastore, 1) := by decide +kernel
theorem zd_N_add_48 : decode zc_N_add 48 = .ok (.aload_n 0, 1) := by decide +kernel
theorem zd_N_add_49 : decode zc_N_add 49 = .ok (.getfield 33, 3) := by decide +kernel
theorem zd_N_add_52 : decode zc_N_add 52 = .ok (.iload 6, 2) := by decide +kernel
theorem zd_N_add_54 : decode zc_N_add 54 = .ok (.iload 5, 2) := by decide +kernel
theorem zd_N_add_56 : decode zc_N_add 56 = .ok (.iastore, 1) := by decide +kernel
theorem zd_N_add_57 : decode zc_N_add 57 = .ok (.aload_n 0, 1) := by decide +kernel
theorem zd_N_add_58 : decode zc_N_add 58 = .ok (.iload 6, 2) := by decide +kernel
theorem zd_N_add_60 : decode zc_N_add 60 = .ok (.iconst 1, 1) := by decide +kernel
theorem zd_N_add_61 : decode zc_N_add 61 = .ok (.iadd, 1) := by decide +kernel
theorem zd_N_add_62 : decode zc_N_add 62 = .ok (.putfield 44, 3) := by decide +kernel
theorem zd_N_add_65 : decode zc_N_add 65 = .ok (.aload_n 0, 1) := by decide +kernel
theorem zd_N_add_66 : decode zc_N_add 66 = .ok (.iload 6, 2) := by decide +kernel
theorem zd_N_add_68 : decode zc_N_add 68 = .ok (.invokevirtual 50, 3) := by decide +kernel
theorem zd_N_add_71 : decode zc_N_add 71 = .ok (.iload 6, 2) := by decide +kernel
theorem zd_N_add_73 : decode zc_N_add 73 = .ok (.ireturn, 1) := by decide +kernel
theorem zd_N_balance_0 : decode zc_N_balance 0 = .ok (.aload_n 0, 1) := by decide +kernel
theorem zd_N_balance_1 : decode zc_N_balance 1 = .ok (.getfield 15, 3) := by decide +kernel
theorem zd_N_balance_4 : decode zc_N_balance 4 = .ok (.aload_n 0, 1) := by decide +kernel
theorem zd_N_balance_5 : decode zc_N_balance 5 = .ok (.getfield 21, 3) := by decide +kernel
theorem zd_N_balance_8 : decode zc_N_balance 8 = .ok (.iload_n 1, 1) := by decide +kernel
theorem zd_N_balance_9 : decode zc_N_balance 9 = .ok (.iaload, 1) := by decide +kernel
theorem zd_N_balance_10 : decode zc_N_balance 10 = .ok (.iaload, 1) := by decide +kernel
theorem zd_N_balance_11 : decode zc_N_balance 11 = .ok (.aload_n 0, 1) := by decide +kernel
theorem zd_N_balance_12 : decode zc_N_balance 12 = .ok (.getfield 27, 3) := by decide +kernel
theorem zd_N_balance_15 : decode zc_N_balance 15 = .ok (.iload_n 1, 1) := by decide +kernel
theorem zd_N_balance_16 : decode zc_N_balance 16 = .ok (.iaload, 1) := by decide +kernel
theorem zd_N_balance_17 : decode zc_N_balance 17 = .ok (.imul, 1) := by decide +kernel
theorem zd_N_balance_18 : decode zc_N_balance 18 = .ok (.istore_n 2, 1) := by decide +kernel
theorem zd_N_balance_19 : decode zc_N_balance 19 = .ok (.aload_n 0, 1) := by decide +kernel
theorem zd_N_balance_20 : decode zc_N_balance 20 = .ok (.getfield 15, 3) := by decide +kernel
theorem zd_N_balance_23 : decode zc_N_balance 23 = .ok (.aload_n 0, 1) := by decide +kernel
theorem zd_N_balance_24 : decode zc_N_balance 24 = .ok (.getfield 24, 3) := by decide +kernel
theorem zd_N_balance_27 : decode zc_N_balance 27 = .ok (.iload_n 1, 1) := by decide +kernel
theorem zd_N_balance_28 : decode zc_N_balance 28 = .ok (.iaload, 1) := by decide +kernel
theorem zd_N_balance_29 : decode zc_N_balance 29 = .ok (.iaload, 1) := by decide +kernel
theorem zd_N_balance_30 : decode zc_N_balance 30 = .ok (.aload_n 0, 1) := by decide +kernel
theorem zd_N_balance_31 : decode zc_N_balance 31 = .ok (.getfield 30, 3) := by decide +kernel
theorem zd_N_balance_34 : decode zc_N_balance 34 = .ok (.iload_n 1, 1) := by decide +kernel
theorem zd_N_balance_35 : decode zc_N_balance 35 = .ok (.iaload, 1) := by decide +kernel
theorem zd_N_balance_36 : decode zc_N_balance 36 = .ok (.imul, 1) := by decide +kernel
theorem zd_N_balance_37 : decode zc_N_balance 37 = .ok (.istore_n 3, 1) := by decide +kernel
theorem zd_N_balance_38 : decode zc_N_balance 38 = .ok (.aload_n 0, 1) := by decide +kernel
theorem zd_N_balance_39 : decode zc_N_balance 39 = .ok (.getfield 18, 3) := by decide +kernel
theorem zd_N_balance_42 : decode zc_N_balance 42 = .ok (.aload_n 0, 1) := by decide +kernel
theorem zd_N_balance_43 : decode zc_N_balance 43 = .ok (.getfield 21, 3) := by decide +kernel
theorem zd_N_balance_46 : decode zc_N_balance 46 = .ok (.iload_n 1, 1) := by decide +kernel
theorem zd_N_balance_47 : decode zc_N_balance 47 = .ok (.iaload, 1) := by decide +kernel
theorem zd_N_balance_48 : decode zc_N_balance 48 = .ok (.iaload, 1) := by decide +kernel
theorem zd_N_balance_49 : decode zc_N_balance 49 = .ok (.istore 4, 2) := by decide +kernel
theorem zd_N_balance_51 : decode zc_N_balance 51 = .ok (.aload_n 0, 1) := by decide +kernel
theorem zd_N_balance_52 : decode zc_N_balance 52 = .ok (.getfield 18, 3) := by decide +kernel
theorem zd_N_balance_55 : decode zc_N_balance 55 = .ok (.aload_n 0, 1) := by decide +kernel
theorem zd_N_balance_56 : decode zc_N_balance 56 = .ok (.getfield 24, 3) := by decide +kernel
theorem zd_N_balance_59 : decode zc_N_balance 59 = .ok (.iload_n 1, 1) := by decide +kernel
theorem zd_N_balance_60 : decode zc_N_balance 60 = .ok (.iaload, 1) := by decide +kernel
theorem zd_N_balance_61 : decode zc_N_balance 61 = .ok (.iaload, 1) := by decide +kernel
theorem zd_N_balance_62 : decode zc_N_balance 62 = .ok (.istore 5, 2) := by decide +kernel
theorem zd_N_balance_64 : decode zc_N_balance 64 = .ok (.iload 4, 2) := by decide +kernel
theorem zd_N_balance_66 : decode zc_N_balance 66 = .ok (.iload 5, 2) := by decide +kernel
theorem zd_N_balance_68 : decode zc_N_balance 68 = .ok (.if_icmp .eq 45, 3) := by decide +kernel
theorem zd_N_balance_71 : decode zc_N_balance 71 = .ok (.iload_n 2, 1) := by decide +kernel
theorem zd_N_balance_72 : decode zc_N_balance 72 = .ok (.iload_n 3, 1) := by decide +kernel
theorem zd_N_balance_73 : decode zc_N_balance 73 = .ok (.invokestatic 53, 3) := by decide +kernel
theorem zd_N_balance_76 : decode zc_N_balance 76 = .ok (.istore 6, 2) := by decide +kernel
theorem zd_N_balance_78 : decode zc_N_balance 78 = .ok (.aload_n 0, 1) := by decide +kernel
theorem zd_N_balance_79 : decode zc_N_balance 79 = .ok (.iload 4, 2) := by decide +kernel
theorem zd_N_balance_81 : decode zc_N_balance 81 = .ok (.iload_n 3, 1) := by decide +kernel
theorem zd_N_balance_82 : decode zc_N_balance 82 = .ok (.iload 6, 2) := by decide +kernel
theorem zd_N_balance_84 : decode zc_N_balance 84 = .ok (.invokestatic 57, 3) := by decide +kernel
theorem zd_N_balance_87 : decode zc_N_balance 87 = .ok (.invokevirtual 60, 3) := by decide +kernel
theorem zd_N_balance_90 : decode zc_N_balance 90 = .ok (.aload_n 0, 1) := by decide +kernel
theorem zd_N_balance_91 : decode zc_N_balance 91 = .ok (.iload 5, 2) := by decide +kernel
theorem zd_N_balance_93 : decode zc_N_balance 93 = .ok (.iload_n 2, 1) := by decide +kernel
theorem zd_N_balance_94 : decode zc_N_balance 94 = .ok (.iload 6, 2) := by decide +kernel
theorem zd_N_balance_96 : decode zc_N_balance 96 = .ok (.invokestatic 57, 3) := by decide +kernel
theorem zd_N_balance_99 : decode zc_N_balance 99 = .ok (.invokevirtual 60, 3) := by decide +kernel
theorem zd_N_balance_102 : decode zc_N_balance 102 = .ok (.aload_n 0, 1) := by decide +kernel
theorem zd_N_balance_103 : decode zc_N_balance 103 = .ok (.iload 4, 2) := by decide +kernel
theorem zd_N_balance_105 : decode zc_N_balance 105 = .ok (.iload 5, 2) := by decide +kernel
theorem zd_N_balance_107 : decode zc_N_balance 107 = .ok (.invokevirtual 64, 3) := by decide +kernel
theorem zd_N_balance_110 : decode zc_N_balance 110 = .ok (.goto 21, 3) := by decide +kernel
theorem zd_N_balance_113 : decode zc_N_balance 113 = .ok (.iload_n 2, 1) := by decide +kernel
theorem zd_N_balance_114 : decode zc_N_balance 114 = .ok (.iload_n 3, 1) := by decide +kernel
theorem zd_N_balance_115 : decode zc_N_balance 115 = .ok (.if_icmp .eq 16, 3) := by decide +kernel
theorem zd_N_balance_118 : decode zc_N_balance 118 = .ok (.aload_n 0, 1) := by decide +kernel
theorem zd_N_balance_119 : decode zc_N_balance 119 = .ok (.getfield 47, 3) := by decide +kernel
theorem zd_N_balance_122 : decode zc_N_balance 122 = .ok (.iconst (-1), 1) := by decide +kernel
theorem zd_N_balance_123 : decode zc_N_balance 123 = .ok (.if_icmp .ne 8, 3) := by decide +kernel
theorem zd_N_balance_126 : decode zc_N_balance 126 = .ok (.aload_n 0, 1) := by decide +kernel
theorem zd_N_balance_127 : decode zc_N_balance 127 = .ok (.iload_n 1, 1) := by decide +kernel
theorem zd_N_balance_128 : decode zc_N_balance 128 = .ok (.putfield 47, 3) := by decide +kernel
theorem zd_N_balance_131 : decode zc_N_balance 131 = .ok (.return_, 1) := by decide +kernel
theorem zd_N_multiply_0 : decode zc_N_multiply 0 = .ok (.iconst 0, 1) := by decide +kernel
theorem zd_N_multiply_1 : decode zc_N_multiply 1 = .ok (.istore_n 3, 1) := by decide +kernel
theorem zd_N_multiply_2 : decode zc_N_multiply 2 = .ok (.iload_n 3, 1) := by decide +kernel
theorem zd_N_multiply_3 : decode zc_N_multiply 3 = .ok (.aload_n 0, 1) := by decide +kernel
theorem zd_N_multiply_4 : decode zc_N_multiply 4 = .ok (.getfield 40, 3) := by decide +kernel
theorem zd_N_multiply_7 : decode zc_N_multiply 7 = .ok (.if_icmp .ge 29, 3) := by decide +kernel
theorem zd_N_multiply_10 : decode zc_N_multiply 10 = .ok (.aload_n 0, 1) := by decide +kernel
theorem zd_N_multiply_11 : decode zc_N_multiply 11 = .ok (.getfield 18, 3) := by decide +kernel
theorem zd_N_multiply_14 : decode zc_N_multiply 14 = .ok (.iload_n 3, 1) := by decide +kernel
theorem zd_N_multiply_15 : decode zc_N_multiply 15 = .ok (.iaload, 1) := by decide +kernel
theorem zd_N_multiply_16 : decode zc_N_multiply 16 = .ok (.iload_n 1, 1) := by decide +kernel
theorem zd_N_multiply_17 : decode zc_N_multiply 17 = .ok (.if_icmp .ne 13, 3) := by decide +kernel
theorem zd_N_multiply_20 : decode zc_N_multiply 20 = .ok (.aload_n 0, 1) := by decide +kernel
theorem zd_N_multiply_21 : decode zc_N_multiply 21 = .ok (.getfield 15, 3) := by decide +kernel
theorem zd_N_multiply_24 : decode zc_N_multiply 24 = .ok (.iload_n 3, 1) := by decide +kernel
theorem zd_N_multiply_25 : decode zc_N_multiply 25 = .ok (.dup2, 1) := by decide +kernel
theorem zd_N_multiply_26 : decode zc_N_multiply 26 = .ok (.iaload, 1) := by decide +kernel
theorem zd_N_multiply_27 : decode zc_N_multiply 27 = .ok (.iload_n 2, 1) := by decide +kernel
theorem zd_N_multiply_28 : decode zc_N_multiply 28 = .ok (.imul, 1) := by decide +kernel
theorem zd_N_multiply_29 : decode zc_N_multiply 29 = .ok (.iastore, 1) := by decide +kernel
theorem zd_N_multiply_30 : decode zc_N_multiply 30 = .ok (.iinc 3 1, 3) := by decide +kernel
theorem zd_N_multiply_33 : decode zc_N_multiply 33 = .ok (.goto (-31), 3) := by decide +kernel
theorem zd_N_multiply_36 : decode zc_N_multiply 36 = .ok (.return_, 1) := by decide +kernel
theorem zd_N_join_0 : decode zc_N_join 0 = .ok (.iload_n 1, 1) := by decide +kernel
theorem zd_N_join_1 : decode zc_N_join 1 = .ok (.iload_n 2, 1) := by decide +kernel
theorem zd_N_join_2 : decode zc_N_join 2 = .ok (.invokestatic 67, 3) := by decide +kernel
theorem zd_N_join_5 : decode zc_N_join 5 = .ok (.istore_n 3, 1) := by decide +kernel
theorem zd_N_join_6 : decode zc_N_join 6 = .ok (.iload_n 1, 1) := by decide +kernel
theorem zd_N_join_7 : decode zc_N_join 7 = .ok (.iload_n 2, 1) := by decide +kernel
theorem zd_N_join_8 : decode zc_N_join 8 = .ok (.invokestatic 72, 3) := by decide +kernel
theorem zd_N_join_11 : decode zc_N_join 11 = .ok (.istore 4, 2) := by decide +kernel
theorem zd_N_join_13 : decode zc_N_join 13 = .ok (.iconst 0, 1) := by decide +kernel
theorem zd_N_join_14 : decode zc_N_join 14 = .ok (.istore 5, 2) := by decide +kernel
theorem zd_N_join_16 : decode zc_N_join 16 = .ok (.iload 5, 2) := by decide +kernel
theorem zd_N_join_18 : decode zc_N_join 18 = .ok (.aload_n 0, 1) := by decide +kernel
theorem zd_N_join_19 : decode zc_N_join 19 = .ok (.getfield 40, 3) := by decide +kernel
theorem zd_N_join_22 : decode zc_N_join 22 = .ok (.if_icmp .ge 29, 3) := by decide +kernel
theorem zd_N_join_25 : decode zc_N_join 25 = .ok (.aload_n 0, 1) := by decide +kernel
theorem zd_N_join_26 : decode zc_N_join 26 = .ok (.getfield 18, 3) := by decide +kernel
theorem zd_N_join_29 : decode zc_N_join 29 = .ok (.iload 5, 2) := by decide +kernel
theorem zd_N_join_31 : decode zc_N_join 31 = .ok (.iaload, 1) := by decide +kernel
theorem zd_N_join_32 : decode zc_N_join 32 = .ok (.iload 4, 2) := by decide +kernel
theorem zd_N_join_34 : decode zc_N_join 34 = .ok (.if_icmp .ne 11, 3) := by decide +kernel
theorem zd_N_join_37 : decode zc_N_join 37 = .ok (.aload_n 0, 1) := by decide +kernel
theorem zd_N_join_38 : decode zc_N_join 38 = .ok (.getfield 18, 3) := by decide +kernel
theorem zd_N_join_41 : decode zc_N_join 41 = .ok (.iload 5, 2) := by decide +kernel
theorem zd_N_join_43 : decode zc_N_join 43 = .ok (.iload_n 3, 1) := by decide +kernel
theorem zd_N_join_44 : decode zc_N_join 44 = .ok (.iastore, 1) := by decide +kernel
theorem zd_N_join_45 : decode zc_N_join 45 = .ok (.iinc 5 1, 3) := by decide +kernel
theorem zd_N_join_48 : decode zc_N_join 48 = .ok (.goto (-32), 3) := by decide +kernel
theorem zd_N_join_51 : decode zc_N_join 51 = .ok (.return_, 1) := by decide +kernel
theorem zd_N_parts_0 : decode zc_N_parts 0 = .ok (.iconst 0, 1) := by decide +kernel
theorem zd_N_parts_1 : decode zc_N_parts 1 = .ok (.istore_n 1, 1) := by decide +kernel
theorem zd_N_parts_2 : decode zc_N_parts 2 = .ok (.iconst 0, 1) := by decide +kernel
theorem zd_N_parts_3 : decode zc_N_parts 3 = .ok (.istore_n 2, 1) := by decide +kernel
theorem zd_N_parts_4 : decode zc_N_parts 4 = .ok (.iload_n 2, 1) := by decide +kernel
theorem zd_N_parts_5 : decode zc_N_parts 5 = .ok (.aload_n 0, 1) := by decide +kernel
theorem zd_N_parts_6 : decode zc_N_parts 6 = .ok (.getfield 40, 3) := by decide +kernel
theorem zd_N_parts_9 : decode zc_N_parts 9 = .ok (.if_icmp .ge 22, 3) := by decide +kernel
theorem zd_N_parts_12 : decode zc_N_parts 12 = .ok (.aload_n 0, 1) := by decide +kernel
theorem zd_N_parts_13 : decode zc_N_parts 13 = .ok (.getfield 18, 3) := by decide +kernel
theorem zd_N_parts_16 : decode zc_N_parts 16 = .ok (.iload_n 2, 1) := by decide +kernel
theorem zd_N_parts_17 : decode zc_N_parts 17 = .ok (.iaload, 1) := by decide +kernel
theorem zd_N_parts_18 : decode zc_N_parts 18 = .ok (.iload_n 2, 1) := by decide +kernel
theorem zd_N_parts_19 : decode zc_N_parts 19 = .ok (.if_icmp .ne 6, 3) := by decide +kernel
theorem zd_N_parts_22 : decode zc_N_parts 22 = .ok (.iinc 1 1, 3) := by decide +kernel
theorem zd_N_parts_25 : decode zc_N_parts 25 = .ok (.iinc 2 1, 3) := by decide +kernel
theorem zd_N_parts_28 : decode zc_N_parts 28 = .ok (.goto (-24), 3) := by decide +kernel
theorem zd_N_parts_31 : decode zc_N_parts 31 = .ok (.iload_n 1, 1) := by decide +kernel
theorem zd_N_parts_32 : decode zc_N_parts 32 = .ok (.ireturn, 1) := by decide +kernel
theorem zd_N_isUneven_0 : decode zc_N_isUneven 0 = .ok (.aload_n 0, 1) := by decide +kernel
theorem zd_N_isUneven_1 : decode zc_N_isUneven 1 = .ok (.getfield 47, 3) := by decide +kernel
theorem zd_N_isUneven_4 : decode zc_N_isUneven 4 = .ok (.iconst (-1), 1) := by decide +kernel
theorem zd_N_isUneven_5 : decode zc_N_isUneven 5 = .ok (.if_icmp .eq 7, 3) := by decide +kernel
theorem zd_N_isUneven_8 : decode zc_N_isUneven 8 = .ok (.iconst 1, 1) := by decide +kernel
theorem zd_N_isUneven_9 : decode zc_N_isUneven 9 = .ok (.goto 4, 3) := by decide +kernel
theorem zd_N_isUneven_12 : decode zc_N_isUneven 12 = .ok (.iconst 0, 1) := by decide +kernel
theorem zd_N_isUneven_13 : decode zc_N_isUneven 13 = .ok (.ireturn, 1) := by decide +kernel
theorem zd_N_isGreat_0 : decode zc_N_isGreat 0 = .ok (.iconst 0, 1) := by decide +kernel
theorem zd_N_isGreat_1 : decode zc_N_isGreat 1 = .ok (.istore_n 1, 1) := by decide +kernel
theorem zd_N_isGreat_2 : decode zc_N_isGreat 2 = .ok (.iconst 0, 1) := by decide +kernel
theorem zd_N_isGreat_3 : decode zc_N_isGreat 3 = .ok (.istore_n 2, 1) := by decide +kernel
theorem zd_N_isGreat_4 : decode zc_N_isGreat 4 = .ok (.iload_n 2, 1) := by decide +kernel
theorem zd_N_isGreat_5 : decode zc_N_isGreat 5 = .ok (.aload_n 0, 1) := by decide +kernel
theorem zd_N_isGreat_6 : decode zc_N_isGreat 6 = .ok (.getfield 40, 3) := by decide +kernel
theorem zd_N_isGreat_9 : decode zc_N_isGreat 9 = .ok (.if_icmp .ge 18, 3) := by decide +kernel
theorem zd_N_isGreat_12 : decode zc_N_isGreat 12 = .ok (.iload_n 1, 1) := by decide +kernel
theorem zd_N_isGreat_13 : decode zc_N_isGreat 13 = .ok (.aload_n 0, 1) := by decide +kernel
theorem zd_N_isGreat_14 : decode zc_N_isGreat 14 = .ok (.getfield 15, 3) := by decide +kernel
theorem zd_N_isGreat_17 : decode zc_N_isGreat 17 = .ok (.iload_n 2, 1) := by decide +kernel
theorem zd_N_isGreat_18 : decode zc_N_isGreat 18 = .ok (.iaload, 1) := by decide +kernel
theorem zd_N_isGreat_19 : decode zc_N_isGreat 19 = .ok (.iadd, 1) := by decide +kernel
theorem zd_N_isGreat_20 : decode zc_N_isGreat 20 = .ok (.istore_n 1, 1) := by decide +kernel
theorem zd_N_isGreat_21 : decode zc_N_isGreat 21 = .ok (.iinc 2 1, 3) := by decide +kernel
theorem zd_N_isGreat_24 : decode zc_N_isGreat 24 = .ok (.goto (-20), 3) := by decide +kernel
theorem zd_N_isGreat_27 : decode zc_N_isGreat 27 = .ok (.iload_n 1, 1) := by decide +kernel
theorem zd_N_isGreat_28 : decode zc_N_isGreat 28 = .ok (.sipush 400, 3) := by decide +kernel
theorem zd_N_isGreat_31 : decode zc_N_isGreat 31 = .ok (.if_icmp .le 7, 3) := by decide +kernel
theorem zd_N_isGreat_34 : decode zc_N_isGreat 34 = .ok (.iconst 1, 1) := by decide +kernel
theorem zd_N_isGreat_35 : decode zc_N_isGreat 35 = .ok (.goto 4, 3) := by decide +kernel
theorem zd_N_isGreat_38 : decode zc_N_isGreat 38 = .ok (.iconst 0, 1) := by decide +kernel
theorem zd_N_isGreat_39 : decode zc_N_isGreat 39 = .ok (.ireturn, 1) := by decide +kernel
theorem zd_N_countsOfPart_0 : decode zc_N_countsOfPart 0 = .ok (.iconst 0, 1) := by decide +kernel
theorem zd_N_countsOfPart_1 : decode zc_N_countsOfPart 1 = .ok (.istore_n 2, 1) := by decide +kernel
theorem zd_N_countsOfPart_2 : decode zc_N_countsOfPart 2 = .ok (.iconst 0, 1) := by decide +kernel
theorem zd_N_countsOfPart_3 : decode zc_N_countsOfPart 3 = .ok (.istore_n 3, 1) := by decide +kernel
theorem zd_N_countsOfPart_4 : decode zc_N_countsOfPart 4 = .ok (.iload_n 3, 1) := by decide +kernel
theorem zd_N_countsOfPart_5 : decode zc_N_countsOfPart 5 = .ok (.aload_n 0, 1) := by decide +kernel
theorem zd_N_countsOfPart_6 : decode zc_N_countsOfPart 6 = .ok (.getfield 40, 3) := by decide +kernel
theorem zd_N_countsOfPart_9 : decode zc_N_countsOfPart 9 = .ok (.if_icmp .ge 33, 3) := by decide +kernel
theorem zd_N_countsOfPart_12 : decode zc_N_countsOfPart 12 = .ok (.aload_n 0, 1) := by decide +kernel
theorem zd_N_countsOfPart_13 : decode zc_N_countsOfPart 13 = .ok (.getfield 18, 3) := by decide +kernel
theorem zd_N_countsOfPart_16 : decode zc_N_countsOfPart 16 = .ok (.iload_n 3, 1) := by decide +kernel
theorem zd_N_countsOfPart_17 : decode zc_N_countsOfPart 17 = .ok (.iaload, 1) := by decide +kernel
theorem zd_N_countsOfPart_18 : decode zc_N_countsOfPart 18 = .ok (.aload_n 0, 1) := by decide +kernel
theorem zd_N_countsOfPart_19 : decode zc_N_countsOfPart 19 = .ok (.getfield 18, 3) := by decide +kernel
theorem zd_N_countsOfPart_22 : decode zc_N_countsOfPart 22 = .ok (.iload_n 1, 1) := by decide +kernel
theorem zd_N_countsOfPart_23 : decode zc_N_countsOfPart 23 = .ok (.iaload, 1) := by decide +kernel
theorem zd_N_countsOfPart_24 : decode zc_N_countsOfPart 24 = .ok (.if_icmp .ne 12, 3) := by decide +kernel
theorem zd_N_countsOfPart_27 : decode zc_N_countsOfPart 27 = .ok (.iload_n 2, 1) := by decide +kernel
theorem zd_N_countsOfPart_28 : decode zc_N_countsOfPart 28 = .ok (.aload_n 0, 1) := by decide +kernel
theorem zd_N_countsOfPart_29 : decode zc_N_countsOfPart 29 = .ok (.getfield 15, 3) := by decide +kernel
theorem zd_N_countsOfPart_32 : decode zc_N_countsOfPart 32 = .ok (.iload_n 3, 1) := by decide +kernel
theorem zd_N_countsOfPart_33 : decode zc_N_countsOfPart 33 = .ok (.iaload, 1) := by decide +kernel
theorem zd_N_countsOfPart_34 : decode zc_N_countsOfPart 34 = .ok (.iadd, 1) := by decide +kernel
theorem zd_N_countsOfPart_35 : decode zc_N_countsOfPart 35 = .ok (.istore_n 2, 1) := by decide +kernel
theorem zd_N_countsOfPart_36 : decode zc_N_countsOfPart 36 = .ok (.iinc 3 1, 3) := by decide +kernel
theorem zd_N_countsOfPart_39 : decode zc_N_countsOfPart 39 = .ok (.goto (-35), 3) := by decide +kernel
theorem zd_N_countsOfPart_42 : decode zc_N_countsOfPart 42 = .ok (.iload_n 2, 1) := by decide +kernel
theorem zd_N_countsOfPart_43 : decode zc_N_countsOfPart 43 = .ok (.ireturn, 1) := by decide +kernel
theorem zd_N_isClosed_0 : decode zc_N_isClosed 0 = .ok (.iconst 0, 1) := by decide +kernel
theorem zd_N_isClosed_1 : decode zc_N_isClosed 1 = .ok (.istore_n 2, 1) := by decide +kernel
theorem zd_N_isClosed_2 : decode zc_N_isClosed 2 = .ok (.iconst 0, 1) := by decide +kernel
theorem zd_N_isClosed_3 : decode zc_N_isClosed 3 = .ok (.istore_n 3, 1) := by decide +kernel
theorem zd_N_isClosed_4 : decode zc_N_isClosed 4 = .ok (.iload_n 3, 1) := by decide +kernel
theorem zd_N_isClosed_5 : decode zc_N_isClosed 5 = .ok (.aload_n 0, 1) := by decide +kernel
theorem zd_N_isClosed_6 : decode zc_N_isClosed 6 = .ok (.getfield 40, 3) := by decide +kernel
theorem zd_N_isClosed_9 : decode zc_N_isClosed 9 = .ok (.if_icmp .ge 30, 3) := by decide +kernel
theorem zd_N_isClosed_12 : decode zc_N_isClosed 12 = .ok (.aload_n 0, 1) := by decide +kernel
theorem zd_N_isClosed_13 : decode zc_N_isClosed 13 = .ok (.getfield 18, 3) := by decide +kernel
theorem zd_N_isClosed_16 : decode zc_N_isClosed 16 = .ok (.iload_n 3, 1) := by decide +kernel
theorem zd_N_isClosed_17 : decode zc_N_isClosed 17 = .ok (.iaload, 1) := by decide +kernel
theorem zd_N_isClosed_18 : decode zc_N_isClosed 18 = .ok (.aload_n 0, 1) := by decide +kernel
theorem zd_N_isClosed_19 : decode zc_N_isClosed 19 = .ok (.getfield 18, 3) := by decide +kernel
theorem zd_N_isClosed_22 : decode zc_N_isClosed 22 = .ok (.iload_n 1, 1) := by decide +kernel
theorem zd_N_isClosed_23 : decode zc_N_isClosed 23 = .ok (.iaload, 1) := by decide +kernel
theorem zd_N_isClosed_24 : decode zc_N_isClosed 24 = .ok (.if_icmp .ne 9, 3) := by decide +kernel
theorem zd_N_isClosed_27 : decode zc_N_isClosed 27 = .ok (.iload_n 2, 1) := by decide +kernel
theorem zd_N_isClosed_28 : decode zc_N_isClosed 28 = .ok (.iconst 1, 1) := by decide +kernel
theorem zd_N_isClosed_29 : decode zc_N_isClosed 29 = .ok (.iload_n 3, 1) := by decide +kernel
theorem zd_N_isClosed_30 : decode zc_N_isClosed 30 = .ok (.ishl, 1) := by decide +kernel
theorem zd_N_isClosed_31 : decode zc_N_isClosed 31 = .ok (.ior, 1) := by decide +kernel
theorem zd_N_isClosed_32 : decode zc_N_isClosed 32 = .ok (.istore_n 2, 1) := by decide +kernel
theorem zd_N_isClosed_33 : decode zc_N_isClosed 33 = .ok (.iinc 3 1, 3) := by decide +kernel
theorem zd_N_isClosed_36 : decode zc_N_isClosed 36 = .ok (.goto (-32), 3) := by decide +kernel
theorem zd_N_isClosed_39 : decode zc_N_isClosed 39 = .ok (.aload_n 0, 1) := by decide +kernel
theorem zd_N_isClosed_40 : decode zc_N_isClosed 40 = .ok (.iload_n 1, 1) := by decide +kernel
theorem zd_N_isClosed_41 : decode zc_N_isClosed 41 = .ok (.aload_n 0, 1) := by decide +kernel
theorem zd_N_isClosed_42 : decode zc_N_isClosed 42 = .ok (.getfield 21, 3) := by decide +kernel
theorem zd_N_isClosed_45 : decode zc_N_isClosed 45 = .ok (.aload_n 0, 1) := by decide +kernel
theorem zd_N_isClosed_46 : decode zc_N_isClosed 46 = .ok (.getfield 24, 3) := by decide +kernel
theorem zd_N_isClosed_49 : decode zc_N_isClosed 49 = .ok (.invokevirtual 75, 3) := by decide +kernel
theorem zd_N_isClosed_52 : decode zc_N_isClosed 52 = .ok (.iload_n 2, 1) := by decide +kernel
theorem zd_N_isClosed_53 : decode zc_N_isClosed 53 = .ok (.if_icmp .ne 24, 3) := by decide +kernel
theorem zd_N_isClosed_56 : decode zc_N_isClosed 56 = .ok (.aload_n 0, 1) := by decide +kernel
theorem zd_N_isClosed_57 : decode zc_N_isClosed 57 = .ok (.iload_n 1, 1) := by decide +kernel
theorem zd_N_isClosed_58 : decode zc_N_isClosed 58 = .ok (.aload_n 0, 1) := by decide +kernel
theorem zd_N_isClosed_59 : decode zc_N_isClosed 59 = .ok (.getfield 24, 3) := by decide +kernel
theorem zd_N_isClosed_62 : decode zc_N_isClosed 62 = .ok (.aload_n 0, 1) := by decide +kernel
theorem zd_N_isClosed_63 : decode zc_N_isClosed 63 = .ok (.getfield 21, 3) := by decide +kernel
theorem zd_N_isClosed_66 : decode zc_N_isClosed 66 = .ok (.invokevirtual 75, 3) := by decide +kernel
theorem zd_N_isClosed_69 : decode zc_N_isClosed 69 = .ok (.iload_n 2, 1) := by decide +kernel
theorem zd_N_isClosed_70 : decode zc_N_isClosed 70 = .ok (.if_icmp .ne 7, 3) := by decide +kernel
theorem zd_N_isClosed_73 : decode zc_N_isClosed 73 = .ok (.iconst 1, 1) := by decide +kernel
theorem zd_N_isClosed_74 : decode zc_N_isClosed 74 = .ok (.goto 4, 3) := by decide +kernel
theorem zd_N_isClosed_77 : decode zc_N_isClosed 77 = .ok (.iconst 0, 1) := by decide +kernel
theorem zd_N_isClosed_78 : decode zc_N_isClosed 78 = .ok (.ireturn, 1) := by decide +kernel
theorem zd_N_reached_0 : decode zc_N_reached 0 = .ok (.iconst 1, 1) := by decide +kernel
theorem zd_N_reached_1 : decode zc_N_reached 1 = .ok (.iload_n 1, 1) := by decide +kernel
theorem zd_N_reached_2 : decode zc_N_reached 2 = .ok (.ishl, 1) := by decide +kernel
theorem zd_N_reached_3 : decode zc_N_reached 3 = .ok (.istore 4, 2) := by decide +kernel
theorem zd_N_reached_5 : decode zc_N_reached 5 = .ok (.iconst 0, 1) := by decide +kernel
theorem zd_N_reached_6 : decode zc_N_reached 6 = .ok (.istore 5, 2) := by decide +kernel
theorem zd_N_reached_8 : decode zc_N_reached 8 = .ok (.iload 5, 2) := by decide +kernel
theorem zd_N_reached_10 : decode zc_N_reached 10 = .ok (.aload_n 0, 1) := by decide +kernel
theorem zd_N_reached_11 : decode zc_N_reached 11 = .ok (.getfield 40, 3) := by decide +kernel
theorem zd_N_reached_14 : decode zc_N_reached 14 = .ok (.if_icmp .ge 51, 3) := by decide +kernel
theorem zd_N_reached_17 : decode zc_N_reached 17 = .ok (.iconst 0, 1) := by decide +kernel
theorem zd_N_reached_18 : decode zc_N_reached 18 = .ok (.istore 6, 2) := by decide +kernel
theorem zd_N_reached_20 : decode zc_N_reached 20 = .ok (.iload 6, 2) := by decide +kernel
theorem zd_N_reached_22 : decode zc_N_reached 22 = .ok (.aload_n 0, 1) := by decide +kernel
theorem zd_N_reached_23 : decode zc_N_reached 23 = .ok (.getfield 44, 3) := by decide +kernel
theorem zd_N_reached_26 : decode zc_N_reached 26 = .ok (.if_icmp .ge 33, 3) := by decide +kernel
theorem zd_N_reached_29 : decode zc_N_reached 29 = .ok (.iload 4, 2) := by decide +kernel
theorem zd_N_reached_31 : decode zc_N_reached 31 = .ok (.aload_n 2, 1) := by decide +kernel
theorem zd_N_reached_32 : decode zc_N_reached 32 = .ok (.iload 6, 2) := by decide +kernel
theorem zd_N_reached_34 : decode zc_N_reached 34 = .ok (.iaload, 1) := by decide +kernel
theorem zd_N_reached_35 : decode zc_N_reached 35 = .ok (.ishr, 1) := by decide +kernel
theorem zd_N_reached_36 : decode zc_N_reached 36 = .ok (.iconst 1, 1) := by decide +kernel
theorem zd_N_reached_37 : decode zc_N_reached 37 = .ok (.iand, 1) := by decide +kernel
theorem zd_N_reached_38 : decode zc_N_reached 38 = .ok (.iconst 1, 1) := by decide +kernel
theorem zd_N_reached_39 : decode zc_N_reached 39 = .ok (.if_icmp .ne 14, 3) := by decide +kernel
theorem zd_N_reached_42 : decode zc_N_reached 42 = .ok (.iload 4, 2) := by decide +kernel
theorem zd_N_reached_44 : decode zc_N_reached 44 = .ok (.iconst 1, 1) := by decide +kernel
theorem zd_N_reached_45 : decode zc_N_reached 45 = .ok (.aload_n 3, 1) := by decide +kernel
theorem zd_N_reached_46 : decode zc_N_reached 46 = .ok (.iload 6, 2) := by decide +kernel
theorem zd_N_reached_48 : decode zc_N_reached 48 = .ok (.iaload, 1) := by decide +kernel
theorem zd_N_reached_49 : decode zc_N_reached 49 = .ok (.ishl, 1) := by decide +kernel
theorem zd_N_reached_50 : decode zc_N_reached 50 = .ok (.ior, 1) := by decide +kernel
theorem zd_N_reached_51 : decode zc_N_reached 51 = .ok (.istore 4, 2) := by decide +kernel
theorem zd_N_reached_53 : decode zc_N_reached 53 = .ok (.iinc 6 1, 3) := by decide +kernel
theorem zd_N_reached_56 : decode zc_N_reached 56 = .ok (.goto (-36), 3) := by decide +kernel
theorem zd_N_reached_59 : decode zc_N_reached 59 = .ok (.iinc 5 1, 3) := by decide +kernel
theorem zd_N_reached_62 : decode zc_N_reached 62 = .ok (.goto (-54), 3) := by decide +kernel
theorem zd_N_reached_65 : decode zc_N_reached 65 = .ok (.iload 4, 2) := by decide +kernel
theorem zd_N_reached_67 : decode zc_N_reached 67 = .ok (.ireturn, 1) := by decide +kernel
theorem zd_N_isChain_0 : decode zc_N_isChain 0 = .ok (.aload_n 0, 1) := by decide +kernel
theorem zd_N_isChain_1 : decode zc_N_isChain 1 = .ok (.getfield 44, 3) := by decide +kernel
theorem zd_N_isChain_4 : decode zc_N_isChain 4 = .ok (.aload_n 0, 1) := by decide +kernel
theorem zd_N_isChain_5 : decode zc_N_isChain 5 = .ok (.getfield 40, 3) := by decide +kernel
theorem zd_N_isChain_8 : decode zc_N_isChain 8 = .ok (.iconst 1, 1) := by decide +kernel
theorem zd_N_isChain_9 : decode zc_N_isChain 9 = .ok (.isub, 1) := by decide +kernel
theorem zd_N_isChain_10 : decode zc_N_isChain 10 = .ok (.if_icmp .eq 5, 3) := by decide +kernel
theorem zd_N_isChain_13 : decode zc_N_isChain 13 = .ok (.iconst 0, 1) := by decide +kernel
theorem zd_N_isChain_14 : decode zc_N_isChain 14 = .ok (.ireturn, 1) := by decide +kernel
theorem zd_N_isChain_15 : decode zc_N_isChain 15 = .ok (.iconst 0, 1) := by decide +kernel
theorem zd_N_isChain_16 : decode zc_N_isChain 16 = .ok (.istore_n 1, 1) := by decide +kernel
theorem zd_N_isChain_17 : decode zc_N_isChain 17 = .ok (.iload_n 1, 1) := by decide +kernel
theorem zd_N_isChain_18 : decode zc_N_isChain 18 = .ok (.aload_n 0, 1) := by decide +kernel
theorem zd_N_isChain_19 : decode zc_N_isChain 19 = .ok (.getfield 44, 3) := by decide +kernel
theorem zd_N_isChain_22 : decode zc_N_isChain 22 = .ok (.if_icmp .ge 42, 3) := by decide +kernel
theorem zd_N_isChain_25 : decode zc_N_isChain 25 = .ok (.aload_n 0, 1) := by decide +kernel
theorem zd_N_isChain_26 : decode zc_N_isChain 26 = .ok (.getfield 21, 3) := by decide +kernel
theorem zd_N_isChain_29 : decode zc_N_isChain 29 = .ok (.iload_n 1, 1) := by decide +kernel
theorem zd_N_isChain_30 : decode zc_N_isChain 30 = .ok (.iaload, 1) := by decide +kernel
theorem zd_N_isChain_31 : decode zc_N_isChain 31 = .ok (.iload_n 1, 1) := by decide +kernel
theorem zd_N_isChain_32 : decode zc_N_isChain 32 = .ok (.if_icmp .ne 24, 3) := by decide +kernel
theorem zd_N_isChain_35 : decode zc_N_isChain 35 = .ok (.aload_n 0, 1) := by decide +kernel
theorem zd_N_isChain_36 : decode zc_N_isChain 36 = .ok (.getfield 24, 3) := by decide +kernel
theorem zd_N_isChain_39 : decode zc_N_isChain 39 = .ok (.iload_n 1, 1) := by decide +kernel
theorem zd_N_isChain_40 : decode zc_N_isChain 40 = .ok (.iaload, 1) := by decide +kernel
theorem zd_N_isChain_41 : decode zc_N_isChain 41 = .ok (.iload_n 1, 1) := by decide +kernel
theorem zd_N_isChain_42 : decode zc_N_isChain 42 = .ok (.iconst 1, 1) := by decide +kernel
theorem zd_N_isChain_43 : decode zc_N_isChain 43 = .ok (.iadd, 1) := by decide +kernel
theorem zd_N_isChain_44 : decode zc_N_isChain 44 = .ok (.if_icmp .ne 12, 3) := by decide +kernel
theorem zd_N_isChain_47 : decode zc_N_isChain 47 = .ok (.aload_n 0, 1) := by decide +kernel
theorem zd_N_isChain_48 : decode zc_N_isChain 48 = .ok (.getfield 33, 3) := by decide +kernel
theorem zd_N_isChain_51 : decode zc_N_isChain 51 = .ok (.iload_n 1, 1) := by decide +kernel
theorem zd_N_isChain_52 : decode zc_N_isChain 52 = .ok (.iaload, 1) := by decide +kernel
theorem zd_N_isChain_53 : decode zc_N_isChain 53 = .ok (.ifCond .eq 5, 3) := by decide +kernel
theorem zd_N_isChain_56 : decode zc_N_isChain 56 = .ok (.iconst 0, 1) := by decide +kernel
theorem zd_N_isChain_57 : decode zc_N_isChain 57 = .ok (.ireturn, 1) := by decide +kernel
theorem zd_N_isChain_58 : decode zc_N_isChain 58 = .ok (.iinc 1 1, 3) := by decide +kernel
theorem zd_N_isChain_61 : decode zc_N_isChain 61 = .ok (.goto (-44), 3) := by decide +kernel
theorem zd_N_isChain_64 : decode zc_N_isChain 64 = .ok (.iconst 1, 1) := by decide +kernel
theorem zd_N_isChain_65 : decode zc_N_isChain 65 = .ok (.ireturn, 1) := by decide +kernel
theorem zd_U_init_0 : decode zc_U_init 0 = .ok (.aload_n 0, 1) := by decide +kernel
theorem zd_U_init_1 : decode zc_U_init 1 = .ok (.invokespecial 3, 3) := by decide +kernel
theorem zd_U_init_4 : decode zc_U_init 4 = .ok (.aload_n 0, 1) := by decide +kernel
theorem zd_U_init_5 : decode zc_U_init 5 = .ok (.sipush 400, 3) := by decide +kernel
theorem zd_U_init_8 : decode zc_U_init 8 = .ok (.newarray .int, 2) := by decide +kernel
theorem zd_U_init_10 : decode zc_U_init 10 = .ok (.putfield 9, 3) := by decide +kernel
theorem zd_U_init_13 : decode zc_U_init 13 = .ok (.aload_n 0, 1) := by decide +kernel
theorem zd_U_init_14 : decode zc_U_init 14 = .ok (.bipush 8, 2) := by decide +kernel
theorem zd_U_init_16 : decode zc_U_init 16 = .ok (.newarray .int, 2) := by decide +kernel
theorem zd_U_init_18 : decode zc_U_init 18 = .ok (.putfield 15, 3) := by decide +kernel
theorem zd_U_init_21 : decode zc_U_init 21 = .ok (.aload_n 0, 1) := by decide +kernel
theorem zd_U_init_22 : decode zc_U_init 22 = .ok (.bipush 14, 2) := by decide +kernel
theorem zd_U_init_24 : decode zc_U_init 24 = .ok (.newarray .int, 2) := by decide +kernel
theorem zd_U_init_26 : decode zc_U_init 26 = .ok (.putfield 18, 3) := by decide +kernel
theorem zd_U_init_29 : decode zc_U_init 29 = .ok (.aload_n 0, 1) := by decide +kernel
theorem zd_U_init_30 : decode zc_U_init 30 = .ok (.bipush 14, 2) := by decide +kernel
theorem zd_U_init_32 : decode zc_U_init 32 = .ok (.newarray .int, 2) := by decide +kernel
theorem zd_U_init_34 : decode zc_U_init 34 = .ok (.putfield 21, 3) := by decide +kernel
theorem zd_U_init_37 : decode zc_U_init 37 = .ok (.return_, 1) := by decide +kernel
theorem zd_U_play_0 : decode zc_U_play 0 = .ok (.aload_n 0, 1) := by decide +kernel
theorem zd_U_play_1 : decode zc_U_play 1 = .ok (.aload_n 1, 1) := by decide +kernel
theorem zd_U_play_2 : decode zc_U_play 2 = .ok (.invokevirtual 24, 3) := by decide +kernel
theorem zd_U_play_5 : decode zc_U_play 5 = .ok (.iconst 0, 1) := by decide +kernel
theorem zd_U_play_6 : decode zc_U_play 6 = .ok (.istore_n 2, 1) := by decide +kernel
theorem zd_U_play_7 : decode zc_U_play 7 = .ok (.iload_n 2, 1) := by decide +kernel
theorem zd_U_play_8 : decode zc_U_play 8 = .ok (.sipush 400, 3) := by decide +kernel
theorem zd_U_play_11 : decode zc_U_play 11 = .ok (.if_icmp .ge 43, 3) := by decide +kernel
theorem zd_U_play_14 : decode zc_U_play 14 = .ok (.aload_n 0, 1) := by decide +kernel
theorem zd_U_play_15 : decode zc_U_play 15 = .ok (.aload_n 1, 1) := by decide +kernel
theorem zd_U_play_16 : decode zc_U_play 16 = .ok (.invokevirtual 28, 3) := by decide +kernel
theorem zd_U_play_19 : decode zc_U_play 19 = .ok (.istore_n 3, 1) := by decide +kernel
theorem zd_U_play_20 : decode zc_U_play 20 = .ok (.iload_n 3, 1) := by decide +kernel
theorem zd_U_play_21 : decode zc_U_play 21 = .ok (.iconst (-1), 1) := by decide +kernel
theorem zd_U_play_22 : decode zc_U_play 22 = .ok (.if_icmp .ne 6, 3) := by decide +kernel
theorem zd_U_play_25 : decode zc_U_play 25 = .ok (.goto 29, 3) := by decide +kernel
theorem zd_U_play_28 : decode zc_U_play 28 = .ok (.aload_n 0, 1) := by decide +kernel
theorem zd_U_play_29 : decode zc_U_play 29 = .ok (.aload_n 1, 1) := by decide +kernel
theorem zd_U_play_30 : decode zc_U_play 30 = .ok (.iload_n 3, 1) := by decide +kernel
theorem zd_U_play_31 : decode zc_U_play 31 = .ok (.invokevirtual 32, 3) := by decide +kernel
theorem zd_U_play_34 : decode zc_U_play 34 = .ok (.aload_n 0, 1) := by decide +kernel
theorem zd_U_play_35 : decode zc_U_play 35 = .ok (.getfield 9, 3) := by decide +kernel
theorem zd_U_play_38 : decode zc_U_play 38 = .ok (.iload_n 2, 1) := by decide +kernel
theorem zd_U_play_39 : decode zc_U_play 39 = .ok (.iload_n 3, 1) := by decide +kernel
theorem zd_U_play_40 : decode zc_U_play 40 = .ok (.iastore, 1) := by decide +kernel
theorem zd_U_play_41 : decode zc_U_play 41 = .ok (.aload_n 0, 1) := by decide +kernel
theorem zd_U_play_42 : decode zc_U_play 42 = .ok (.iload_n 2, 1) := by decide +kernel
theorem zd_U_play_43 : decode zc_U_play 43 = .ok (.iconst 1, 1) := by decide +kernel
theorem zd_U_play_44 : decode zc_U_play 44 = .ok (.iadd, 1) := by decide +kernel
theorem zd_U_play_45 : decode zc_U_play 45 = .ok (.putfield 36, 3) := by decide +kernel
theorem zd_U_play_48 : decode zc_U_play 48 = .ok (.iinc 2 1, 3) := by decide +kernel
theorem zd_U_play_51 : decode zc_U_play 51 = .ok (.goto (-44), 3) := by decide +kernel
theorem zd_U_play_54 : decode zc_U_play 54 = .ok (.aload_n 0, 1) := by decide +kernel
theorem zd_U_play_55 : decode zc_U_play 55 = .ok (.iconst 1, 1) := by decide +kernel
theorem zd_U_play_56 : decode zc_U_play 56 = .ok (.putfield 40, 3) := by decide +kernel
theorem zd_U_play_59 : decode zc_U_play 59 = .ok (.return_, 1) := by decide +kernel
theorem zd_U_begin_0 : decode zc_U_begin 0 = .ok (.aload_n 0, 1) := by decide +kernel
theorem zd_U_begin_1 : decode zc_U_begin 1 = .ok (.iconst 0, 1) := by decide +kernel
theorem zd_U_begin_2 : decode zc_U_begin 2 = .ok (.putfield 36, 3) := by decide +kernel
theorem zd_U_begin_5 : decode zc_U_begin 5 = .ok (.iconst 0, 1) := by decide +kernel
theorem zd_U_begin_6 : decode zc_U_begin 6 = .ok (.istore_n 2, 1) := by decide +kernel
theorem zd_U_begin_7 : decode zc_U_begin 7 = .ok (.iload_n 2, 1) := by decide +kernel
theorem zd_U_begin_8 : decode zc_U_begin 8 = .ok (.aload_n 1, 1) := by decide +kernel
theorem zd_U_begin_9 : decode zc_U_begin 9 = .ok (.getfield 44, 3) := by decide +kernel
theorem zd_U_begin_12 : decode zc_U_begin 12 = .ok (.if_icmp .ge 21, 3) := by decide +kernel
theorem zd_U_begin_15 : decode zc_U_begin 15 = .ok (.aload_n 0, 1) := by decide +kernel
theorem zd_U_begin_16 : decode zc_U_begin 16 = .ok (.getfield 15, 3) := by decide +kernel
theorem zd_U_begin_19 : decode zc_U_begin 19 = .ok (.iload_n 2, 1) := by decide +kernel
theorem zd_U_begin_20 : decode zc_U_begin 20 = .ok (.aload_n 1, 1) := by decide +kernel
theorem zd_U_begin_21 : decode zc_U_begin 21 = .ok (.getfield 49, 3) := by decide +kernel
theorem zd_U_begin_24 : decode zc_U_begin 24 = .ok (.iload_n 2, 1) := by decide +kernel
theorem zd_U_begin_25 : decode zc_U_begin 25 = .ok (.iaload, 1) := by decide +kernel
theorem zd_U_begin_26 : decode zc_U_begin 26 = .ok (.iastore, 1) := by decide +kernel
theorem zd_U_begin_27 : decode zc_U_begin 27 = .ok (.iinc 2 1, 3) := by decide +kernel
theorem zd_U_begin_30 : decode zc_U_begin 30 = .ok (.goto (-23), 3) := by decide +kernel
theorem zd_U_begin_33 : decode zc_U_begin 33 = .ok (.iconst 0, 1) := by decide +kernel
theorem zd_U_begin_34 : decode zc_U_begin 34 = .ok (.istore_n 2, 1) := by decide +kernel
theorem zd_U_begin_35 : decode zc_U_begin 35 = .ok (.iload_n 2, 1) := by decide +kernel
theorem zd_U_begin_36 : decode zc_U_begin 36 = .ok (.aload_n 1, 1) := by decide +kernel
theorem zd_U_begin_37 : decode zc_U_begin 37 = .ok (.getfield 52, 3) := by decide +kernel
theorem zd_U_begin_40 : decode zc_U_begin 40 = .ok (.if_icmp .ge 33, 3) := by decide +kernel
theorem zd_U_begin_43 : decode zc_U_begin 43 = .ok (.aload_n 0, 1) := by decide +kernel
theorem zd_U_begin_44 : decode zc_U_begin 44 = .ok (.getfield 18, 3) := by decide +kernel
theorem zd_U_begin_47 : decode zc_U_begin 47 = .ok (.iload_n 2, 1) := by decide +kernel
theorem zd_U_begin_48 : decode zc_U_begin 48 = .ok (.aload_n 1, 1) := by decide +kernel
theorem zd_U_begin_49 : decode zc_U_begin 49 = .ok (.getfield 55, 3) := by decide +kernel
theorem zd_U_begin_52 : decode zc_U_begin 52 = .ok (.iload_n 2, 1) := by decide +kernel
theorem zd_U_begin_53 : decode zc_U_begin 53 = .ok (.iaload, 1) := by decide +kernel
theorem zd_U_begin_54 : decode zc_U_begin 54 = .ok (.iastore, 1) := by decide +kernel
theorem zd_U_begin_55 : decode zc_U_begin 55 = .ok (.aload_n 0, 1) := by decide +kernel
theorem zd_U_begin_56 : decode zc_U_begin 56 = .ok (.getfield 21, 3) := by decide +kernel
theorem zd_U_begin_59 : decode zc_U_begin 59 = .ok (.iload_n 2, 1) := by decide +kernel
theorem zd_U_begin_60 : decode zc_U_begin 60 = .ok (.aload_n 1, 1) := by decide +kernel
theorem zd_U_begin_61 : decode zc_U_begin 61 = .ok (.getfield 55, 3) := by decide +kernel
theorem zd_U_begin_64 : decode zc_U_begin 64 = .ok (.iload_n 2, 1) := by decide +kernel
theorem zd_U_begin_65 : decode zc_U_begin 65 = .ok (.iaload, 1) := by decide +kernel
theorem zd_U_begin_66 : decode zc_U_begin 66 = .ok (.iastore, 1) := by decide +kernel
theorem zd_U_begin_67 : decode zc_U_begin 67 = .ok (.iinc 2 1, 3) := by decide +kernel
theorem zd_U_begin_70 : decode zc_U_begin 70 = .ok (.goto (-35), 3) := by decide +kernel
theorem zd_U_begin_73 : decode zc_U_begin 73 = .ok (.return_, 1) := by decide +kernel
theorem zd_U_leastReady_0 : decode zc_U_leastReady 0 = .ok (.iconst 0, 1) := by decide +kernel
theorem zd_U_leastReady_1 : decode zc_U_leastReady 1 = .ok (.istore_n 2, 1) := by decide +kernel
theorem zd_U_leastReady_2 : decode zc_U_leastReady 2 = .ok (.iload_n 2, 1) := by decide +kernel
theorem zd_U_leastReady_3 : decode zc_U_leastReady 3 = .ok (.aload_n 1, 1) := by decide +kernel
theorem zd_U_leastReady_4 : decode zc_U_leastReady 4 = .ok (.getfield 44, 3) := by decide +kernel
theorem zd_U_leastReady_7 : decode zc_U_leastReady 7 = .ok (.if_icmp .ge 29, 3) := by decide +kernel
theorem zd_U_leastReady_10 : decode zc_U_leastReady 10 = .ok (.aload_n 0, 1) := by decide +kernel
theorem zd_U_leastReady_11 : decode zc_U_leastReady 11 = .ok (.getfield 15, 3) := by decide +kernel
theorem zd_U_leastReady_14 : decode zc_U_leastReady 14 = .ok (.iload_n 2, 1) := by decide +kernel
theorem zd_U_leastReady_15 : decode zc_U_leastReady 15 = .ok (.iaload, 1) := by decide +kernel
theorem zd_U_leastReady_16 : decode zc_U_leastReady 16 = .ok (.ifCond .le 14, 3) := by decide +kernel
theorem zd_U_leastReady_19 : decode zc_U_leastReady 19 = .ok (.aload_n 0, 1) := by decide +kernel
theorem zd_U_leastReady_20 : decode zc_U_leastReady 20 = .ok (.aload_n 1, 1) := by decide +kernel
theorem zd_U_leastReady_21 : decode zc_U_leastReady 21 = .ok (.iload_n 2, 1) := by decide +kernel
theorem zd_U_leastReady_22 : decode zc_U_leastReady 22 = .ok (.invokevirtual 58, 3) := by decide +kernel
theorem zd_U_leastReady_25 : decode zc_U_leastReady 25 = .ok (.ifCond .eq 5, 3) := by decide +kernel
theorem zd_U_leastReady_28 : decode zc_U_leastReady 28 = .ok (.iload_n 2, 1) := by decide +kernel
theorem zd_U_leastReady_29 : decode zc_U_leastReady 29 = .ok (.ireturn, 1) := by decide +kernel
theorem zd_U_leastReady_30 : decode zc_U_leastReady 30 = .ok (.iinc 2 1, 3) := by decide +kernel
theorem zd_U_leastReady_33 : decode zc_U_leastReady 33 = .ok (.goto (-31), 3) := by decide +kernel
theorem zd_U_leastReady_36 : decode zc_U_leastReady 36 = .ok (.iconst (-1), 1) := by decide +kernel
theorem zd_U_leastReady_37 : decode zc_U_leastReady 37 = .ok (.ireturn, 1) := by decide +kernel
theorem zd_U_hasEnough_0 : decode zc_U_hasEnough 0 = .ok (.iconst 0, 1) := by decide +kernel
theorem zd_U_hasEnough_1 : decode zc_U_hasEnough 1 = .ok (.istore_n 3, 1) := by decide +kernel
theorem zd_U_hasEnough_2 : decode zc_U_hasEnough 2 = .ok (.iload_n 3, 1) := by decide +kernel
theorem zd_U_hasEnough_3 : decode zc_U_hasEnough 3 = .ok (.aload_n 1, 1) := by decide +kernel
theorem zd_U_hasEnough_4 : decode zc_U_hasEnough 4 = .ok (.getfield 52, 3) := by decide +kernel
theorem zd_U_hasEnough_7 : decode zc_U_hasEnough 7 = .ok (.if_icmp .ge 36, 3) := by decide +kernel
theorem zd_U_hasEnough_10 : decode zc_U_hasEnough 10 = .ok (.aload_n 1, 1) := by decide +kernel
theorem zd_U_hasEnough_11 : decode zc_U_hasEnough 11 = .ok (.getfield 62, 3) := by decide +kernel
theorem zd_U_hasEnough_14 : decode zc_U_hasEnough 14 = .ok (.iload_n 3, 1) := by decide +kernel
theorem zd_U_hasEnough_15 : decode zc_U_hasEnough 15 = .ok (.iaload, 1) := by decide +kernel
theorem zd_U_hasEnough_16 : decode zc_U_hasEnough 16 = .ok (.iload_n 2, 1) := by decide +kernel
theorem zd_U_hasEnough_17 : decode zc_U_hasEnough 17 = .ok (.if_icmp .ne 20, 3) := by decide +kernel
theorem zd_U_hasEnough_20 : decode zc_U_hasEnough 20 = .ok (.aload_n 0, 1) := by decide +kernel
theorem zd_U_hasEnough_21 : decode zc_U_hasEnough 21 = .ok (.getfield 18, 3) := by decide +kernel
theorem zd_U_hasEnough_24 : decode zc_U_hasEnough 24 = .ok (.iload_n 3, 1) := by decide +kernel
theorem zd_U_hasEnough_25 : decode zc_U_hasEnough 25 = .ok (.iaload, 1) := by decide +kernel
theorem zd_U_hasEnough_26 : decode zc_U_hasEnough 26 = .ok (.aload_n 1, 1) := by decide +kernel
theorem zd_U_hasEnough_27 : decode zc_U_hasEnough 27 = .ok (.getfield 65, 3) := by decide +kernel
theorem zd_U_hasEnough_30 : decode zc_U_hasEnough 30 = .ok (.iload_n 3, 1) := by decide +kernel
theorem zd_U_hasEnough_31 : decode zc_U_hasEnough 31 = .ok (.iaload, 1) := by decide +kernel
theorem zd_U_hasEnough_32 : decode zc_U_hasEnough 32 = .ok (.if_icmp .ge 5, 3) := by decide +kernel
theorem zd_U_hasEnough_35 : decode zc_U_hasEnough 35 = .ok (.iconst 0, 1) := by decide +kernel
theorem zd_U_hasEnough_36 : decode zc_U_hasEnough 36 = .ok (.ireturn, 1) := by decide +kernel
theorem zd_U_hasEnough_37 : decode zc_U_hasEnough 37 = .ok (.iinc 3 1, 3) := by decide +kernel
theorem zd_U_hasEnough_40 : decode zc_U_hasEnough 40 = .ok (.goto (-38), 3) := by decide +kernel
theorem zd_U_hasEnough_43 : decode zc_U_hasEnough 43 = .ok (.iconst 1, 1) := by decide +kernel
theorem zd_U_hasEnough_44 : decode zc_U_hasEnough 44 = .ok (.ireturn, 1) := by decide +kernel
theorem zd_U_fire_0 : decode zc_U_fire 0 = .ok (.aload_n 0, 1) := by decide +kernel
theorem zd_U_fire_1 : decode zc_U_fire 1 = .ok (.getfield 15, 3) := by decide +kernel
theorem zd_U_fire_4 : decode zc_U_fire 4 = .ok (.iload_n 2, 1) := by decide +kernel
theorem zd_U_fire_5 : decode zc_U_fire 5 = .ok (.dup2, 1) := by decide +kernel
theorem zd_U_fire_6 : decode zc_U_fire 6 = .ok (.iaload, 1) := by decide +kernel
theorem zd_U_fire_7 : decode zc_U_fire 7 = .ok (.iconst 1, 1) := by decide +kernel
theorem zd_U_fire_8 : decode zc_U_fire 8 = .ok (.isub, 1) := by decide +kernel
theorem zd_U_fire_9 : decode zc_U_fire 9 = .ok (.iastore, 1) := by decide +kernel
theorem zd_U_fire_10 : decode zc_U_fire 10 = .ok (.iconst 0, 1) := by decide +kernel
theorem zd_U_fire_11 : decode zc_U_fire 11 = .ok (.istore_n 3, 1) := by decide +kernel
theorem zd_U_fire_12 : decode zc_U_fire 12 = .ok (.iload_n 3, 1) := by decide +kernel
theorem zd_U_fire_13 : decode zc_U_fire 13 = .ok (.aload_n 1, 1) := by decide +kernel
theorem zd_U_fire_14 : decode zc_U_fire 14 = .ok (.getfield 52, 3) := by decide +kernel
theorem zd_U_fire_17 : decode zc_U_fire 17 = .ok (.if_icmp .ge 80, 3) := by decide +kernel
theorem zd_U_fire_20 : decode zc_U_fire 20 = .ok (.aload_n 1, 1) := by decide +kernel
theorem zd_U_fire_21 : decode zc_U_fire 21 = .ok (.getfield 62, 3) := by decide +kernel
theorem zd_U_fire_24 : decode zc_U_fire 24 = .ok (.iload_n 3, 1) := by decide +kernel
theorem zd_U_fire_25 : decode zc_U_fire 25 = .ok (.iaload, 1) := by decide +kernel
theorem zd_U_fire_26 : decode zc_U_fire 26 = .ok (.iload_n 2, 1) := by decide +kernel
theorem zd_U_fire_27 : decode zc_U_fire 27 = .ok (.if_icmp .ne 18, 3) := by decide +kernel
theorem zd_U_fire_30 : decode zc_U_fire 30 = .ok (.aload_n 0, 1) := by decide +kernel
theorem zd_U_fire_31 : decode zc_U_fire 31 = .ok (.getfield 18, 3) := by decide +kernel
theorem zd_U_fire_34 : decode zc_U_fire 34 = .ok (.iload_n 3, 1) := by decide +kernel
theorem zd_U_fire_35 : decode zc_U_fire 35 = .ok (.dup2, 1) := by decide +kernel
theorem zd_U_fire_36 : decode zc_U_fire 36 = .ok (.iaload, 1) := by decide +kernel
theorem zd_U_fire_37 : decode zc_U_fire 37 = .ok (.aload_n 1, 1) := by decide +kernel
theorem zd_U_fire_38 : decode zc_U_fire 38 = .ok (.getfield 65, 3) := by decide +kernel
theorem zd_U_fire_41 : decode zc_U_fire 41 = .ok (.iload_n 3, 1) := by decide +kernel
theorem zd_U_fire_42 : decode zc_U_fire 42 = .ok (.iaload, 1) := by decide +kernel
theorem zd_U_fire_43 : decode zc_U_fire 43 = .ok (.isub, 1) := by decide +kernel
theorem zd_U_fire_44 : decode zc_U_fire 44 = .ok (.iastore, 1) := by decide +kernel
theorem zd_U_fire_45 : decode zc_U_fire 45 = .ok (.aload_n 1, 1) := by decide +kernel
theorem zd_U_fire_46 : decode zc_U_fire 46 = .ok (.getfield 68, 3) := by decide +kernel
theorem zd_U_fire_49 : decode zc_U_fire 49 = .ok (.iload_n 3, 1) := by decide +kernel
theorem zd_U_fire_50 : decode zc_U_fire 50 = .ok (.iaload, 1) := by decide +kernel
theorem zd_U_fire_51 : decode zc_U_fire 51 = .ok (.iload_n 2, 1) := by decide +kernel
theorem zd_U_fire_52 : decode zc_U_fire 52 = .ok (.if_icmp .ne 18, 3) := by decide +kernel
theorem zd_U_fire_55 : decode zc_U_fire 55 = .ok (.aload_n 0, 1) := by decide +kernel
theorem zd_U_fire_56 : decode zc_U_fire 56 = .ok (.getfield 18, 3) := by decide +kernel
theorem zd_U_fire_59 : decode zc_U_fire 59 = .ok (.iload_n 3, 1) := by decide +kernel
theorem zd_U_fire_60 : decode zc_U_fire 60 = .ok (.dup2, 1) := by decide +kernel
theorem zd_U_fire_61 : decode zc_U_fire 61 = .ok (.iaload, 1) := by decide +kernel
theorem zd_U_fire_62 : decode zc_U_fire 62 = .ok (.aload_n 1, 1) := by decide +kernel
theorem zd_U_fire_63 : decode zc_U_fire 63 = .ok (.getfield 71, 3) := by decide +kernel
theorem zd_U_fire_66 : decode zc_U_fire 66 = .ok (.iload_n 3, 1) := by decide +kernel
theorem zd_U_fire_67 : decode zc_U_fire 67 = .ok (.iaload, 1) := by decide +kernel
theorem zd_U_fire_68 : decode zc_U_fire 68 = .ok (.iadd, 1) := by decide +kernel
theorem zd_U_fire_69 : decode zc_U_fire 69 = .ok (.iastore, 1) := by decide +kernel
theorem zd_U_fire_70 : decode zc_U_fire 70 = .ok (.aload_n 0, 1) := by decide +kernel
theorem zd_U_fire_71 : decode zc_U_fire 71 = .ok (.getfield 21, 3) := by decide +kernel
theorem zd_U_fire_74 : decode zc_U_fire 74 = .ok (.iload_n 3, 1) := by decide +kernel
theorem zd_U_fire_75 : decode zc_U_fire 75 = .ok (.aload_n 0, 1) := by decide +kernel
theorem zd_U_fire_76 : decode zc_U_fire 76 = .ok (.getfield 21, 3) := by decide +kernel
theorem zd_U_fire_79 : decode zc_U_fire 79 = .ok (.iload_n 3, 1) := by decide +kernel
theorem zd_U_fire_80 : decode zc_U_fire 80 = .ok (.iaload, 1) := by decide +kernel
theorem zd_U_fire_81 : decode zc_U_fire 81 = .ok (.aload_n 0, 1) := by decide +kernel
theorem zd_U_fire_82 : decode zc_U_fire 82 = .ok (.getfield 18, 3) := by decide +kernel
theorem zd_U_fire_85 : decode zc_U_fire 85 = .ok (.iload_n 3, 1) := by decide +kernel
theorem zd_U_fire_86 : decode zc_U_fire 86 = .ok (.iaload, 1) := by decide +kernel
theorem zd_U_fire_87 : decode zc_U_fire 87 = .ok (.invokestatic 74, 3) := by decide +kernel
theorem zd_U_fire_90 : decode zc_U_fire 90 = .ok (.iastore, 1) := by decide +kernel
theorem zd_U_fire_91 : decode zc_U_fire 91 = .ok (.iinc 3 1, 3) := by decide +kernel
theorem zd_U_fire_94 : decode zc_U_fire 94 = .ok (.goto (-82), 3) := by decide +kernel
theorem zd_U_fire_97 : decode zc_U_fire 97 = .ok (.return_, 1) := by decide +kernel
theorem zd_U_isAlive_0 : decode zc_U_isAlive 0 = .ok (.iconst 0, 1) := by decide +kernel
theorem zd_U_isAlive_1 : decode zc_U_isAlive 1 = .ok (.istore_n 2, 1) := by decide +kernel
theorem zd_U_isAlive_2 : decode zc_U_isAlive 2 = .ok (.iload_n 2, 1) := by decide +kernel
theorem zd_U_isAlive_3 : decode zc_U_isAlive 3 = .ok (.aload_n 1, 1) := by decide +kernel
theorem zd_U_isAlive_4 : decode zc_U_isAlive 4 = .ok (.getfield 44, 3) := by decide +kernel
theorem zd_U_isAlive_7 : decode zc_U_isAlive 7 = .ok (.if_icmp .ge 20, 3) := by decide +kernel
theorem zd_U_isAlive_10 : decode zc_U_isAlive 10 = .ok (.aload_n 0, 1) := by decide +kernel
theorem zd_U_isAlive_11 : decode zc_U_isAlive 11 = .ok (.getfield 15, 3) := by decide +kernel
theorem zd_U_isAlive_14 : decode zc_U_isAlive 14 = .ok (.iload_n 2, 1) := by decide +kernel
theorem zd_U_isAlive_15 : decode zc_U_isAlive 15 = .ok (.iaload, 1) := by decide +kernel
theorem zd_U_isAlive_16 : decode zc_U_isAlive 16 = .ok (.ifCond .eq 5, 3) := by decide +kernel
theorem zd_U_isAlive_19 : decode zc_U_isAlive 19 = .ok (.iconst 0, 1) := by decide +kernel
theorem zd_U_isAlive_20 : decode zc_U_isAlive 20 = .ok (.ireturn, 1) := by decide +kernel
theorem zd_U_isAlive_21 : decode zc_U_isAlive 21 = .ok (.iinc 2 1, 3) := by decide +kernel
theorem zd_U_isAlive_24 : decode zc_U_isAlive 24 = .ok (.goto (-22), 3) := by decide +kernel
theorem zd_U_isAlive_27 : decode zc_U_isAlive 27 = .ok (.iconst 1, 1) := by decide +kernel
theorem zd_U_isAlive_28 : decode zc_U_isAlive 28 = .ok (.ireturn, 1) := by decide +kernel
end
section
theorem zd_P_init_0 : decode zc_P_init 0 = .ok (.aload_n 0, 1) := by decide +kernel
theorem zd_P_init_1 : decode zc_P_init 1 = .ok (.invokespecial 3, 3) := by decide +kernel
theorem zd_P_init_4 : decode zc_P_init 4 = .ok (.aload_n 0, 1) := by decide +kernel
theorem zd_P_init_5 : decode zc_P_init 5 = .ok (.bipush 8, 2) := by decide +kernel
theorem zd_P_init_7 : decode zc_P_init 7 = .ok (.newarray .int, 2) := by decide +kernel
theorem zd_P_init_9 : decode zc_P_init 9 = .ok (.putfield 9, 3) := by decide +kernel
theorem zd_P_init_12 : decode zc_P_init 12 = .ok (.aload_n 0, 1) := by decide +kernel
theorem zd_P_init_13 : decode zc_P_init 13 = .ok (.bipush 40, 2) := by decide +kernel
theorem zd_P_init_15 : decode zc_P_init 15 = .ok (.newarray .int, 2) := by decide +kernel
theorem zd_P_init_17 : decode zc_P_init 17 = .ok (.putfield 15, 3) := by decide +kernel
theorem zd_P_init_20 : decode zc_P_init 20 = .ok (.aload_n 0, 1) := by decide +kernel
theorem zd_P_init_21 : decode zc_P_init 21 = .ok (.sipush 600, 3) := by decide +kernel
theorem zd_P_init_24 : decode zc_P_init 24 = .ok (.newarray .int, 2) := by decide +kernel
theorem zd_P_init_26 : decode zc_P_init 26 = .ok (.putfield 18, 3) := by decide +kernel
theorem zd_P_init_29 : decode zc_P_init 29 = .ok (.aload_n 0, 1) := by decide +kernel
theorem zd_P_init_30 : decode zc_P_init 30 = .ok (.sipush 600, 3) := by decide +kernel
theorem zd_P_init_33 : decode zc_P_init 33 = .ok (.newarray .int, 2) := by decide +kernel
theorem zd_P_init_35 : decode zc_P_init 35 = .ok (.putfield 21, 3) := by decide +kernel
theorem zd_P_init_38 : decode zc_P_init 38 = .ok (.aload_n 0, 1) := by decide +kernel
theorem zd_P_init_39 : decode zc_P_init 39 = .ok (.sipush 600, 3) := by decide +kernel
theorem zd_P_init_42 : decode zc_P_init 42 = .ok (.newarray .int, 2) := by decide +kernel
theorem zd_P_init_44 : decode zc_P_init 44 = .ok (.putfield 24, 3) := by decide +kernel
theorem zd_P_init_47 : decode zc_P_init 47 = .ok (.aload_n 0, 1) := by decide +kernel
theorem zd_P_init_48 : decode zc_P_init 48 = .ok (.bipush 40, 2) := by decide +kernel
theorem zd_P_init_50 : decode zc_P_init 50 = .ok (.newarray .int, 2) := by decide +kernel
theorem zd_P_init_52 : decode zc_P_init 52 = .ok (.putfield 27, 3) := by decide +kernel
theorem zd_P_init_55 : decode zc_P_init 55 = .ok (.aload_n 0, 1) := by decide +kernel
theorem zd_P_init_56 : decode zc_P_init 56 = .ok (.bipush 40, 2) := by decide +kernel
theorem zd_P_init_58 : decode zc_P_init 58 = .ok (.newarray .int, 2) := by decide +kernel
theorem zd_P_init_60 : decode zc_P_init 60 = .ok (.putfield 30, 3) := by decide +kernel
theorem zd_P_init_63 : decode zc_P_init 63 = .ok (.aload_n 0, 1) := by decide +kernel
theorem zd_P_init_64 : decode zc_P_init 64 = .ok (.bipush 40, 2) := by decide +kernel
theorem zd_P_init_66 : decode zc_P_init 66 = .ok (.newarray .int, 2) := by decide +kernel
theorem zd_P_init_68 : decode zc_P_init 68 = .ok (.putfield 33, 3) := by decide +kernel
theorem zd_P_init_71 : decode zc_P_init 71 = .ok (.aload_n 0, 1) := by decide +kernel
theorem zd_P_init_72 : decode zc_P_init 72 = .ok (.iconst (-1), 1) := by decide +kernel
theorem zd_P_init_73 : decode zc_P_init 73 = .ok (.putfield 36, 3) := by decide +kernel
theorem zd_P_init_76 : decode zc_P_init 76 = .ok (.aload_n 0, 1) := by decide +kernel
theorem zd_P_init_77 : decode zc_P_init 77 = .ok (.iconst 1, 1) := by decide +kernel
theorem zd_P_init_78 : decode zc_P_init 78 = .ok (.putfield 40, 3) := by decide +kernel
theorem zd_P_init_81 : decode zc_P_init 81 = .ok (.aload_n 0, 1) := by decide +kernel
theorem zd_P_init_82 : decode zc_P_init 82 = .ok (.iconst 1, 1) := by decide +kernel
theorem zd_P_init_83 : decode zc_P_init 83 = .ok (.putfield 43, 3) := by decide +kernel
theorem zd_P_init_86 : decode zc_P_init 86 = .ok (.return_, 1) := by decide +kernel
theorem zd_P_find_0 : decode zc_P_find 0 = .ok (.aload_n 0, 1) := by decide +kernel
theorem zd_P_find_1 : decode zc_P_find 1 = .ok (.getfield 36, 3) := by decide +kernel
theorem zd_P_find_4 : decode zc_P_find 4 = .ok (.iload_n 2, 1) := by decide +kernel
theorem zd_P_find_5 : decode zc_P_find 5 = .ok (.if_icmp .ne 4, 3) := by decide +kernel
theorem zd_P_find_8 : decode zc_P_find 8 = .ok (.return_, 1) := by decide +kernel
theorem zd_P_find_9 : decode zc_P_find 9 = .ok (.aload_n 0, 1) := by decide +kernel
theorem zd_P_find_10 : decode zc_P_find 10 = .ok (.aload_n 1, 1) := by decide +kernel
theorem zd_P_find_11 : decode zc_P_find 11 = .ok (.iload_n 2, 1) := by decide +kernel
theorem zd_P_find_12 : decode zc_P_find 12 = .ok (.invokevirtual 46, 3) := by decide +kernel
theorem zd_P_find_15 : decode zc_P_find 15 = .ok (.aload_n 0, 1) := by decide +kernel
theorem zd_P_find_16 : decode zc_P_find 16 = .ok (.aload_n 1, 1) := by decide +kernel
theorem zd_P_find_17 : decode zc_P_find 17 = .ok (.iload_n 2, 1) := by decide +kernel
theorem zd_P_find_18 : decode zc_P_find 18 = .ok (.invokevirtual 50, 3) := by decide +kernel
theorem zd_P_find_21 : decode zc_P_find 21 = .ok (.aload_n 0, 1) := by decide +kernel
theorem zd_P_find_22 : decode zc_P_find 22 = .ok (.aload_n 1, 1) := by decide +kernel
theorem zd_P_find_23 : decode zc_P_find 23 = .ok (.iload_n 2, 1) := by decide +kernel
theorem zd_P_find_24 : decode zc_P_find 24 = .ok (.invokevirtual 53, 3) := by decide +kernel
theorem zd_P_find_27 : decode zc_P_find 27 = .ok (.iconst 0, 1) := by decide +kernel
theorem zd_P_find_28 : decode zc_P_find 28 = .ok (.istore_n 3, 1) := by decide +kernel
theorem zd_P_find_29 : decode zc_P_find 29 = .ok (.iload_n 3, 1) := by decide +kernel
theorem zd_P_find_30 : decode zc_P_find 30 = .ok (.sipush 10000, 3) := by decide +kernel
theorem zd_P_find_33 : decode zc_P_find 33 = .ok (.if_icmp .ge 30, 3) := by decide +kernel
theorem zd_P_find_36 : decode zc_P_find 36 = .ok (.aload_n 0, 1) := by decide +kernel
theorem zd_P_find_37 : decode zc_P_find 37 = .ok (.invokevirtual 56, 3) := by decide +kernel
theorem zd_P_find_40 : decode zc_P_find 40 = .ok (.istore 4, 2) := by decide +kernel
theorem zd_P_find_42 : decode zc_P_find 42 = .ok (.iload 4, 2) := by decide +kernel
theorem zd_P_find_44 : decode zc_P_find 44 = .ok (.iconst (-1), 1) := by decide +kernel
theorem zd_P_find_45 : decode zc_P_find 45 = .ok (.if_icmp .ne 6, 3) := by decide +kernel
theorem zd_P_find_48 : decode zc_P_find 48 = .ok (.goto 15, 3) := by decide +kernel
theorem zd_P_find_51 : decode zc_P_find 51 = .ok (.aload_n 0, 1) := by decide +kernel
theorem zd_P_find_52 : decode zc_P_find 52 = .ok (.iload 4, 2) := by decide +kernel
theorem zd_P_find_54 : decode zc_P_find 54 = .ok (.invokevirtual 60, 3) := by decide +kernel
theorem zd_P_find_57 : decode zc_P_find 57 = .ok (.iinc 3 1, 3) := by decide +kernel
theorem zd_P_find_60 : decode zc_P_find 60 = .ok (.goto (-31), 3) := by decide +kernel
theorem zd_P_find_63 : decode zc_P_find 63 = .ok (.aload_n 0, 1) := by decide +kernel
theorem zd_P_find_64 : decode zc_P_find 64 = .ok (.iload_n 2, 1) := by decide +kernel
theorem zd_P_find_65 : decode zc_P_find 65 = .ok (.putfield 36, 3) := by decide +kernel
theorem zd_P_find_68 : decode zc_P_find 68 = .ok (.return_, 1) := by decide +kernel
theorem zd_P_addFirings_0 : decode zc_P_addFirings 0 = .ok (.aload_n 0, 1) := by decide +kernel
theorem zd_P_addFirings_1 : decode zc_P_addFirings 1 = .ok (.iconst 0, 1) := by decide +kernel
theorem zd_P_addFirings_2 : decode zc_P_addFirings 2 = .ok (.putfield 64, 3) := by decide +kernel
theorem zd_P_addFirings_5 : decode zc_P_addFirings 5 = .ok (.aload_n 0, 1) := by decide +kernel
theorem zd_P_addFirings_6 : decode zc_P_addFirings 6 = .ok (.iconst 0, 1) := by decide +kernel
theorem zd_P_addFirings_7 : decode zc_P_addFirings 7 = .ok (.putfield 67, 3) := by decide +kernel
theorem zd_P_addFirings_10 : decode zc_P_addFirings 10 = .ok (.iconst 0, 1) := by decide +kernel
theorem zd_P_addFirings_11 : decode zc_P_addFirings 11 = .ok (.istore_n 3, 1) := by decide +kernel
theorem zd_P_addFirings_12 : decode zc_P_addFirings 12 = .ok (.iload_n 3, 1) := by decide +kernel
theorem zd_P_addFirings_13 : decode zc_P_addFirings 13 = .ok (.aload_n 1, 1) := by decide +kernel
theorem zd_P_addFirings_14 : decode zc_P_addFirings 14 = .ok (.getfield 70, 3) := by decide +kernel
theorem zd_P_addFirings_17 : decode zc_P_addFirings 17 = .ok (.if_icmp .ge 36, 3) := by decide +kernel
theorem zd_P_addFirings_20 : decode zc_P_addFirings 20 = .ok (.aload_n 1, 1) := by decide +kernel
theorem zd_P_addFirings_21 : decode zc_P_addFirings 21 = .ok (.getfield 75, 3) := by decide +kernel
theorem zd_P_addFirings_24 : decode zc_P_addFirings 24 = .ok (.iload_n 3, 1) := by decide +kernel
theorem zd_P_addFirings_25 : decode zc_P_addFirings 25 = .ok (.iaload, 1) := by decide +kernel
theorem zd_P_addFirings_26 : decode zc_P_addFirings 26 = .ok (.iload_n 2, 1) := by decide +kernel
theorem zd_P_addFirings_27 : decode zc_P_addFirings 27 = .ok (.if_icmp .ne 20, 3) := by decide +kernel
theorem zd_P_addFirings_30 : decode zc_P_addFirings 30 = .ok (.aload_n 0, 1) := by decide +kernel
theorem zd_P_addFirings_31 : decode zc_P_addFirings 31 = .ok (.iload_n 3, 1) := by decide +kernel
theorem zd_P_addFirings_32 : decode zc_P_addFirings 32 = .ok (.aload_n 1, 1) := by decide +kernel
theorem zd_P_addFirings_33 : decode zc_P_addFirings 33 = .ok (.getfield 78, 3) := by decide +kernel
theorem zd_P_addFirings_36 : decode zc_P_addFirings 36 = .ok (.iload_n 3, 1) := by decide +kernel
theorem zd_P_addFirings_37 : decode zc_P_addFirings 37 = .ok (.iaload, 1) := by decide +kernel
theorem zd_P_addFirings_38 : decode zc_P_addFirings 38 = .ok (.aload_n 1, 1) := by decide +kernel
theorem zd_P_addFirings_39 : decode zc_P_addFirings 39 = .ok (.getfield 81, 3) := by decide +kernel
theorem zd_P_addFirings_42 : decode zc_P_addFirings 42 = .ok (.iload_n 3, 1) := by decide +kernel
theorem zd_P_addFirings_43 : decode zc_P_addFirings 43 = .ok (.iaload, 1) := by decide +kernel
theorem zd_P_addFirings_44 : decode zc_P_addFirings 44 = .ok (.invokevirtual 84, 3) := by decide +kernel
theorem zd_P_addFirings_47 : decode zc_P_addFirings 47 = .ok (.iinc 3 1, 3) := by decide +kernel
theorem zd_P_addFirings_50 : decode zc_P_addFirings 50 = .ok (.goto (-38), 3) := by decide +kernel
theorem zd_P_addFirings_53 : decode zc_P_addFirings 53 = .ok (.return_, 1) := by decide +kernel
theorem zd_P_addFiringsOf_0 : decode zc_P_addFiringsOf 0 = .ok (.aload_n 0, 1) := by decide +kernel
theorem zd_P_addFiringsOf_1 : decode zc_P_addFiringsOf 1 = .ok (.getfield 64, 3) := by decide +kernel
theorem zd_P_addFiringsOf_4 : decode zc_P_addFiringsOf 4 = .ok (.iload_n 2, 1) := by decide +kernel
theorem zd_P_addFiringsOf_5 : decode zc_P_addFiringsOf 5 = .ok (.iadd, 1) := by decide +kernel
theorem zd_P_addFiringsOf_6 : decode zc_P_addFiringsOf 6 = .ok (.bipush 40, 2) := by decide +kernel
theorem zd_P_addFiringsOf_8 : decode zc_P_addFiringsOf 8 = .ok (.if_icmp .le 4, 3) := by decide +kernel
theorem zd_P_addFiringsOf_11 : decode zc_P_addFiringsOf 11 = .ok (.return_, 1) := by decide +kernel
theorem zd_P_addFiringsOf_12 : decode zc_P_addFiringsOf 12 = .ok (.aload_n 0, 1) := by decide +kernel
theorem zd_P_addFiringsOf_13 : decode zc_P_addFiringsOf 13 = .ok (.getfield 9, 3) := by decide +kernel
theorem zd_P_addFiringsOf_16 : decode zc_P_addFiringsOf 16 = .ok (.iload_n 1, 1) := by decide +kernel
theorem zd_P_addFiringsOf_17 : decode zc_P_addFiringsOf 17 = .ok (.aload_n 0, 1) := by decide +kernel
theorem zd_P_addFiringsOf_18 : decode zc_P_addFiringsOf 18 = .ok (.getfield 64, 3) := by decide +kernel
theorem zd_P_addFiringsOf_21 : decode zc_P_addFiringsOf 21 = .ok (.iastore, 1) := by decide +kernel
theorem zd_P_addFiringsOf_22 : decode zc_P_addFiringsOf 22 = .ok (.aload_n 0, 1) := by decide +kernel
theorem zd_P_addFiringsOf_23 : decode zc_P_addFiringsOf 23 = .ok (.aload_n 0, 1) := by decide +kernel
theorem zd_P_addFiringsOf_24 : decode zc_P_addFiringsOf 24 = .ok (.getfield 64, 3) := by decide +kernel
theorem zd_P_addFiringsOf_27 : decode zc_P_addFiringsOf 27 = .ok (.iload_n 2, 1) := by decide +kernel
theorem zd_P_addFiringsOf_28 : decode zc_P_addFiringsOf 28 = .ok (.iadd, 1) := by decide +kernel
theorem zd_P_addFiringsOf_29 : decode zc_P_addFiringsOf 29 = .ok (.iconst 1, 1) := by decide +kernel
theorem zd_P_addFiringsOf_30 : decode zc_P_addFiringsOf 30 = .ok (.isub, 1) := by decide +kernel
theorem zd_P_addFiringsOf_31 : decode zc_P_addFiringsOf 31 = .ok (.aload_n 0, 1) := by decide +kernel
theorem zd_P_addFiringsOf_32 : decode zc_P_addFiringsOf 32 = .ok (.getfield 64, 3) := by decide +kernel
theorem zd_P_addFiringsOf_35 : decode zc_P_addFiringsOf 35 = .ok (.iconst 1, 1) := by decide +kernel
theorem zd_P_addFiringsOf_36 : decode zc_P_addFiringsOf 36 = .ok (.invokevirtual 88, 3) := by decide +kernel
theorem zd_P_addFiringsOf_39 : decode zc_P_addFiringsOf 39 = .ok (.iconst 0, 1) := by decide +kernel
theorem zd_P_addFiringsOf_40 : decode zc_P_addFiringsOf 40 = .ok (.istore 4, 2) := by decide +kernel
theorem zd_P_addFiringsOf_42 : decode zc_P_addFiringsOf 42 = .ok (.iload 4, 2) := by decide +kernel
theorem zd_P_addFiringsOf_44 : decode zc_P_addFiringsOf 44 = .ok (.iload_n 2, 1) := by decide +kernel
theorem zd_P_addFiringsOf_45 : decode zc_P_addFiringsOf 45 = .ok (.if_icmp .ge 49, 3) := by decide +kernel
theorem zd_P_addFiringsOf_48 : decode zc_P_addFiringsOf 48 = .ok (.aload_n 0, 1) := by decide +kernel
theorem zd_P_addFiringsOf_49 : decode zc_P_addFiringsOf 49 = .ok (.getfield 15, 3) := by decide +kernel
theorem zd_P_addFiringsOf_52 : decode zc_P_addFiringsOf 52 = .ok (.aload_n 0, 1) := by decide +kernel
theorem zd_P_addFiringsOf_53 : decode zc_P_addFiringsOf 53 = .ok (.getfield 64, 3) := by decide +kernel
theorem zd_P_addFiringsOf_56 : decode zc_P_addFiringsOf 56 = .ok (.iload_n 3, 1) := by decide +kernel
theorem zd_P_addFiringsOf_57 : decode zc_P_addFiringsOf 57 = .ok (.iastore, 1) := by decide +kernel
theorem zd_P_addFiringsOf_58 : decode zc_P_addFiringsOf 58 = .ok (.iload 4, 2) := by decide +kernel
theorem zd_P_addFiringsOf_60 : decode zc_P_addFiringsOf 60 = .ok (.ifCond .le 18, 3) := by decide +kernel
theorem zd_P_addFiringsOf_63 : decode zc_P_addFiringsOf 63 = .ok (.aload_n 0, 1) := by decide +kernel
theorem zd_P_addFiringsOf_64 : decode zc_P_addFiringsOf 64 = .ok (.aload_n 0, 1) := by decide +kernel
theorem zd_P_addFiringsOf_65 : decode zc_P_addFiringsOf 65 = .ok (.getfield 64, 3) := by decide +kernel
theorem zd_P_addFiringsOf_68 : decode zc_P_addFiringsOf 68 = .ok (.iconst 1, 1) := by decide +kernel
theorem zd_P_addFiringsOf_69 : decode zc_P_addFiringsOf 69 = .ok (.isub, 1) := by decide +kernel
theorem zd_P_addFiringsOf_70 : decode zc_P_addFiringsOf 70 = .ok (.aload_n 0, 1) := by decide +kernel
theorem zd_P_addFiringsOf_71 : decode zc_P_addFiringsOf 71 = .ok (.getfield 64, 3) := by decide +kernel
theorem zd_P_addFiringsOf_74 : decode zc_P_addFiringsOf 74 = .ok (.iconst 0, 1) := by decide +kernel
theorem zd_P_addFiringsOf_75 : decode zc_P_addFiringsOf 75 = .ok (.invokevirtual 88, 3) := by decide +kernel
theorem zd_P_addFiringsOf_78 : decode zc_P_addFiringsOf 78 = .ok (.aload_n 0, 1) := by decide +kernel
theorem zd_P_addFiringsOf_79 : decode zc_P_addFiringsOf 79 = .ok (.dup, 1) := by decide +kernel
theorem zd_P_addFiringsOf_80 : decode zc_P_addFiringsOf 80 = .ok (.getfield 64, 3) := by decide +kernel
theorem zd_P_addFiringsOf_83 : decode zc_P_addFiringsOf 83 = .ok (.iconst 1, 1) := by decide +kernel
theorem zd_P_addFiringsOf_84 : decode zc_P_addFiringsOf 84 = .ok (.iadd, 1) := by decide +kernel
theorem zd_P_addFiringsOf_85 : decode zc_P_addFiringsOf 85 = .ok (.putfield 64, 3) := by decide +kernel
theorem zd_P_addFiringsOf_88 : decode zc_P_addFiringsOf 88 = .ok (.iinc 4 1, 3) := by decide +kernel
theorem zd_P_addFiringsOf_91 : decode zc_P_addFiringsOf 91 = .ok (.goto (-49), 3) := by decide +kernel
theorem zd_P_addFiringsOf_94 : decode zc_P_addFiringsOf 94 = .ok (.return_, 1) := by decide +kernel
theorem zd_P_addWaits_0 : decode zc_P_addWaits 0 = .ok (.iconst 0, 1) := by decide +kernel
theorem zd_P_addWaits_1 : decode zc_P_addWaits 1 = .ok (.istore_n 3, 1) := by decide +kernel
theorem zd_P_addWaits_2 : decode zc_P_addWaits 2 = .ok (.iload_n 3, 1) := by decide +kernel
theorem zd_P_addWaits_3 : decode zc_P_addWaits 3 = .ok (.aload_n 1, 1) := by decide +kernel
theorem zd_P_addWaits_4 : decode zc_P_addWaits 4 = .ok (.getfield 91, 3) := by decide +kernel
theorem zd_P_addWaits_7 : decode zc_P_addWaits 7 = .ok (.if_icmp .ge 30, 3) := by decide +kernel
theorem zd_P_addWaits_10 : decode zc_P_addWaits 10 = .ok (.aload_n 1, 1) := by decide +kernel
theorem zd_P_addWaits_11 : decode zc_P_addWaits 11 = .ok (.getfield 75, 3) := by decide +kernel
theorem zd_P_addWaits_14 : decode zc_P_addWaits 14 = .ok (.aload_n 1, 1) := by decide +kernel
theorem zd_P_addWaits_15 : decode zc_P_addWaits 15 = .ok (.getfield 94, 3) := by decide +kernel
theorem zd_P_addWaits_18 : decode zc_P_addWaits 18 = .ok (.iload_n 3, 1) := by decide +kernel
theorem zd_P_addWaits_19 : decode zc_P_addWaits 19 = .ok (.iaload, 1) := by decide +kernel
theorem zd_P_addWaits_20 : decode zc_P_addWaits 20 = .ok (.iaload, 1) := by decide +kernel
theorem zd_P_addWaits_21 : decode zc_P_addWaits 21 = .ok (.iload_n 2, 1) := by decide +kernel
theorem zd_P_addWaits_22 : decode zc_P_addWaits 22 = .ok (.if_icmp .ne 9, 3) := by decide +kernel
theorem zd_P_addWaits_25 : decode zc_P_addWaits 25 = .ok (.aload_n 0, 1) := by decide +kernel
theorem zd_P_addWaits_26 : decode zc_P_addWaits 26 = .ok (.aload_n 1, 1) := by decide +kernel
theorem zd_P_addWaits_27 : decode zc_P_addWaits 27 = .ok (.iload_n 3, 1) := by decide +kernel
theorem zd_P_addWaits_28 : decode zc_P_addWaits 28 = .ok (.invokevirtual 97, 3) := by decide +kernel
theorem zd_P_addWaits_31 : decode zc_P_addWaits 31 = .ok (.iinc 3 1, 3) := by decide +kernel
theorem zd_P_addWaits_34 : decode zc_P_addWaits 34 = .ok (.goto (-32), 3) := by decide +kernel
theorem zd_P_addWaits_37 : decode zc_P_addWaits 37 = .ok (.return_, 1) := by decide +kernel
theorem zd_P_addWaitsOf_0 : decode zc_P_addWaitsOf 0 = .ok (.aload_n 1, 1) := by decide +kernel
theorem zd_P_addWaitsOf_1 : decode zc_P_addWaitsOf 1 = .ok (.getfield 94, 3) := by decide +kernel
theorem zd_P_addWaitsOf_4 : decode zc_P_addWaitsOf 4 = .ok (.iload_n 2, 1) := by decide +kernel
theorem zd_P_addWaitsOf_5 : decode zc_P_addWaitsOf 5 = .ok (.iaload, 1) := by decide +kernel
theorem zd_P_addWaitsOf_6 : decode zc_P_addWaitsOf 6 = .ok (.istore_n 3, 1) := by decide +kernel
theorem zd_P_addWaitsOf_7 : decode zc_P_addWaitsOf 7 = .ok (.aload_n 1, 1) := by decide +kernel
theorem zd_P_addWaitsOf_8 : decode zc_P_addWaitsOf 8 = .ok (.getfield 100, 3) := by decide +kernel
theorem zd_P_addWaitsOf_11 : decode zc_P_addWaitsOf 11 = .ok (.iload_n 2, 1) := by decide +kernel
theorem zd_P_addWaitsOf_12 : decode zc_P_addWaitsOf 12 = .ok (.iaload, 1) := by decide +kernel
theorem zd_P_addWaitsOf_13 : decode zc_P_addWaitsOf 13 = .ok (.istore 4, 2) := by decide +kernel
theorem zd_P_addWaitsOf_15 : decode zc_P_addWaitsOf 15 = .ok (.aload_n 1, 1) := by decide +kernel
theorem zd_P_addWaitsOf_16 : decode zc_P_addWaitsOf 16 = .ok (.getfield 103, 3) := by decide +kernel
theorem zd_P_addWaitsOf_19 : decode zc_P_addWaitsOf 19 = .ok (.iload_n 2, 1) := by decide +kernel
theorem zd_P_addWaitsOf_20 : decode zc_P_addWaitsOf 20 = .ok (.iaload, 1) := by decide +kernel
theorem zd_P_addWaitsOf_21 : decode zc_P_addWaitsOf 21 = .ok (.istore 5, 2) := by decide +kernel
theorem zd_P_addWaitsOf_23 : decode zc_P_addWaitsOf 23 = .ok (.aload_n 1, 1) := by decide +kernel
theorem zd_P_addWaitsOf_24 : decode zc_P_addWaitsOf 24 = .ok (.getfield 78, 3) := by decide +kernel
theorem zd_P_addWaitsOf_27 : decode zc_P_addWaitsOf 27 = .ok (.iload_n 3, 1) := by decide +kernel
theorem zd_P_addWaitsOf_28 : decode zc_P_addWaitsOf 28 = .ok (.iaload, 1) := by decide +kernel
theorem zd_P_addWaitsOf_29 : decode zc_P_addWaitsOf 29 = .ok (.istore 6, 2) := by decide +kernel
theorem zd_P_addWaitsOf_31 : decode zc_P_addWaitsOf 31 = .ok (.iload 5, 2) := by decide +kernel
theorem zd_P_addWaitsOf_33 : decode zc_P_addWaitsOf 33 = .ok (.ifCond .le 8, 3) := by decide +kernel
theorem zd_P_addWaitsOf_36 : decode zc_P_addWaitsOf 36 = .ok (.iload 6, 2) := by decide +kernel
theorem zd_P_addWaitsOf_38 : decode zc_P_addWaitsOf 38 = .ok (.ifCond .gt 4, 3) := by decide +kernel
theorem zd_P_addWaitsOf_41 : decode zc_P_addWaitsOf 41 = .ok (.return_, 1) := by decide +kernel
theorem zd_P_addWaitsOf_42 : decode zc_P_addWaitsOf 42 = .ok (.iconst 0, 1) := by decide +kernel
theorem zd_P_addWaitsOf_43 : decode zc_P_addWaitsOf 43 = .ok (.istore 7, 2) := by decide +kernel
theorem zd_P_addWaitsOf_45 : decode zc_P_addWaitsOf 45 = .ok (.iload 7, 2) := by decide +kernel
theorem zd_P_addWaitsOf_47 : decode zc_P_addWaitsOf 47 = .ok (.aload_n 1, 1) := by decide +kernel
theorem zd_P_addWaitsOf_48 : decode zc_P_addWaitsOf 48 = .ok (.getfield 78, 3) := by decide +kernel
theorem zd_P_addWaitsOf_51 : decode zc_P_addWaitsOf 51 = .ok (.iload 4, 2) := by decide +kernel
theorem zd_P_addWaitsOf_53 : decode zc_P_addWaitsOf 53 = .ok (.iaload, 1) := by decide +kernel
theorem zd_P_addWaitsOf_54 : decode zc_P_addWaitsOf 54 = .ok (.if_icmp .ge 84, 3) := by decide +kernel
theorem zd_P_addWaitsOf_57 : decode zc_P_addWaitsOf 57 = .ok (.iload 7, 2) := by decide +kernel
theorem zd_P_addWaitsOf_59 : decode zc_P_addWaitsOf 59 = .ok (.iconst 1, 1) := by decide +kernel
theorem zd_P_addWaitsOf_60 : decode zc_P_addWaitsOf 60 = .ok (.iadd, 1) := by decide +kernel
theorem zd_P_addWaitsOf_61 : decode zc_P_addWaitsOf 61 = .ok (.aload_n 1, 1) := by decide +kernel
theorem zd_P_addWaitsOf_62 : decode zc_P_addWaitsOf 62 = .ok (.getfield 106, 3) := by decide +kernel
theorem zd_P_addWaitsOf_65 : decode zc_P_addWaitsOf 65 = .ok (.iload_n 2, 1) := by decide +kernel
theorem zd_P_addWaitsOf_66 : decode zc_P_addWaitsOf 66 = .ok (.iaload, 1) := by decide +kernel
theorem zd_P_addWaitsOf_67 : decode zc_P_addWaitsOf 67 = .ok (.imul, 1) := by decide +kernel
theorem zd_P_addWaitsOf_68 : decode zc_P_addWaitsOf 68 = .ok (.aload_n 1, 1) := by decide +kernel
theorem zd_P_addWaitsOf_69 : decode zc_P_addWaitsOf 69 = .ok (.getfield 109, 3) := by decide +kernel
theorem zd_P_addWaitsOf_72 : decode zc_P_addWaitsOf 72 = .ok (.iload_n 2, 1) := by decide +kernel
theorem zd_P_addWaitsOf_73 : decode zc_P_addWaitsOf 73 = .ok (.iaload, 1) := by decide +kernel
theorem zd_P_addWaitsOf_74 : decode zc_P_addWaitsOf 74 = .ok (.isub, 1) := by decide +kernel
theorem zd_P_addWaitsOf_75 : decode zc_P_addWaitsOf 75 = .ok (.iconst 1, 1) := by decide +kernel
theorem zd_P_addWaitsOf_76 : decode zc_P_addWaitsOf 76 = .ok (.isub, 1) := by decide +kernel
theorem zd_P_addWaitsOf_77 : decode zc_P_addWaitsOf 77 = .ok (.istore 8, 2) := by decide +kernel
theorem zd_P_addWaitsOf_79 : decode zc_P_addWaitsOf 79 = .ok (.iload 8, 2) := by decide +kernel
theorem zd_P_addWaitsOf_81 : decode zc_P_addWaitsOf 81 = .ok (.iload 5, 2) := by decide +kernel
theorem zd_P_addWaitsOf_83 : decode zc_P_addWaitsOf 83 = .ok (.invokestatic 112, 3) := by decide +kernel
theorem zd_P_addWaitsOf_86 : decode zc_P_addWaitsOf 86 = .ok (.istore 9, 2) := by decide +kernel
theorem zd_P_addWaitsOf_88 : decode zc_P_addWaitsOf 88 = .ok (.iload 9, 2) := by decide +kernel
theorem zd_P_addWaitsOf_90 : decode zc_P_addWaitsOf 90 = .ok (.iload 6, 2) := by decide +kernel
theorem zd_P_addWaitsOf_92 : decode zc_P_addWaitsOf 92 = .ok (.invokestatic 118, 3) := by decide +kernel
theorem zd_P_addWaitsOf_95 : decode zc_P_addWaitsOf 95 = .ok (.istore 10, 2) := by decide +kernel
theorem zd_P_addWaitsOf_97 : decode zc_P_addWaitsOf 97 = .ok (.iload 9, 2) := by decide +kernel
theorem zd_P_addWaitsOf_99 : decode zc_P_addWaitsOf 99 = .ok (.iload 6, 2) := by decide +kernel
theorem zd_P_addWaitsOf_101 : decode zc_P_addWaitsOf 101 = .ok (.invokestatic 112, 3) := by decide +kernel
theorem zd_P_addWaitsOf_104 : decode zc_P_addWaitsOf 104 = .ok (.ineg, 1) := by decide +kernel
theorem zd_P_addWaitsOf_105 : decode zc_P_addWaitsOf 105 = .ok (.istore 11, 2) := by decide +kernel
theorem zd_P_addWaitsOf_107 : decode zc_P_addWaitsOf 107 = .ok (.aload_n 0, 1) := by decide +kernel
theorem zd_P_addWaitsOf_108 : decode zc_P_addWaitsOf 108 = .ok (.aload_n 0, 1) := by decide +kernel
theorem zd_P_addWaitsOf_109 : decode zc_P_addWaitsOf 109 = .ok (.getfield 9, 3) := by decide +kernel
theorem zd_P_addWaitsOf_112 : decode zc_P_addWaitsOf 112 = .ok (.iload_n 3, 1) := by decide +kernel
theorem zd_P_addWaitsOf_113 : decode zc_P_addWaitsOf 113 = .ok (.iaload, 1) := by decide +kernel
theorem zd_P_addWaitsOf_114 : decode zc_P_addWaitsOf 114 = .ok (.iload 10, 2) := by decide +kernel
theorem zd_P_addWaitsOf_116 : decode zc_P_addWaitsOf 116 = .ok (.iadd, 1) := by decide +kernel
theorem zd_P_addWaitsOf_117 : decode zc_P_addWaitsOf 117 = .ok (.aload_n 0, 1) := by decide +kernel
theorem zd_P_addWaitsOf_118 : decode zc_P_addWaitsOf 118 = .ok (.getfield 9, 3) := by decide +kernel
theorem zd_P_addWaitsOf_121 : decode zc_P_addWaitsOf 121 = .ok (.iload 4, 2) := by decide +kernel
theorem zd_P_addWaitsOf_123 : decode zc_P_addWaitsOf 123 = .ok (.iaload, 1) := by decide +kernel
theorem zd_P_addWaitsOf_124 : decode zc_P_addWaitsOf 124 = .ok (.iload 7, 2) := by decide +kernel
theorem zd_P_addWaitsOf_126 : decode zc_P_addWaitsOf 126 = .ok (.iadd, 1) := by decide +kernel
theorem zd_P_addWaitsOf_127 : decode zc_P_addWaitsOf 127 = .ok (.iload 11, 2) := by decide +kernel
theorem zd_P_addWaitsOf_129 : decode zc_P_addWaitsOf 129 = .ok (.invokevirtual 88, 3) := by decide +kernel
theorem zd_P_addWaitsOf_132 : decode zc_P_addWaitsOf 132 = .ok (.iinc 7 1, 3) := by decide +kernel
theorem zd_P_addWaitsOf_135 : decode zc_P_addWaitsOf 135 = .ok (.goto (-90), 3) := by decide +kernel
theorem zd_P_addWaitsOf_138 : decode zc_P_addWaitsOf 138 = .ok (.return_, 1) := by decide +kernel
theorem zd_P_addEdge_0 : decode zc_P_addEdge 0 = .ok (.aload_n 0, 1) := by decide +kernel
theorem zd_P_addEdge_1 : decode zc_P_addEdge 1 = .ok (.getfield 67, 3) := by decide +kernel
theorem zd_P_addEdge_4 : decode zc_P_addEdge 4 = .ok (.sipush 600, 3) := by decide +kernel
theorem zd_P_addEdge_7 : decode zc_P_addEdge 7 = .ok (.if_icmp .ge 55, 3) := by decide +kernel
theorem zd_P_addEdge_10 : decode zc_P_addEdge 10 = .ok (.iload_n 1, 1) := by decide +kernel
theorem zd_P_addEdge_11 : decode zc_P_addEdge 11 = .ok (.bipush 40, 2) := by decide +kernel
theorem zd_P_addEdge_13 : decode zc_P_addEdge 13 = .ok (.if_icmp .ge 49, 3) := by decide +kernel
theorem zd_P_addEdge_16 : decode zc_P_addEdge 16 = .ok (.iload_n 2, 1) := by decide +kernel
theorem zd_P_addEdge_17 : decode zc_P_addEdge 17 = .ok (.bipush 40, 2) := by decide +kernel
theorem zd_P_addEdge_19 : decode zc_P_addEdge 19 = .ok (.if_icmp .ge 43, 3) := by decide +kernel
theorem zd_P_addEdge_22 : decode zc_P_addEdge 22 = .ok (.aload_n 0, 1) := by decide +kernel
theorem zd_P_addEdge_23 : decode zc_P_addEdge 23 = .ok (.getfield 18, 3) := by decide +kernel
theorem zd_P_addEdge_26 : decode zc_P_addEdge 26 = .ok (.aload_n 0, 1) := by decide +kernel
theorem zd_P_addEdge_27 : decode zc_P_addEdge 27 = .ok (.getfield 67, 3) := by decide +kernel
theorem zd_P_addEdge_30 : decode zc_P_addEdge 30 = .ok (.iload_n 1, 1) := by decide +kernel
theorem zd_P_addEdge_31 : decode zc_P_addEdge 31 = .ok (.iastore, 1) := by decide +kernel
theorem zd_P_addEdge_32 : decode zc_P_addEdge 32 = .ok (.aload_n 0, 1) := by decide +kernel
theorem zd_P_addEdge_33 : decode zc_P_addEdge 33 = .ok (.getfield 21, 3) := by decide +kernel
theorem zd_P_addEdge_36 : decode zc_P_addEdge 36 = .ok (.aload_n 0, 1) := by decide +kernel
theorem zd_P_addEdge_37 : decode zc_P_addEdge 37 = .ok (.getfield 67, 3) := by decide +kernel
theorem zd_P_addEdge_40 : decode zc_P_addEdge 40 = .ok (.iload_n 2, 1) := by decide +kernel
theorem zd_P_addEdge_41 : decode zc_P_addEdge 41 = .ok (.iastore, 1) := by decide +kernel
theorem zd_P_addEdge_42 : decode zc_P_addEdge 42 = .ok (.aload_n 0, 1) := by decide +kernel
theorem zd_P_addEdge_43 : decode zc_P_addEdge 43 = .ok (.getfield 24, 3) := by decide +kernel
theorem zd_P_addEdge_46 : decode zc_P_addEdge 46 = .ok (.aload_n 0, 1) := by decide +kernel
theorem zd_P_addEdge_47 : decode zc_P_addEdge 47 = .ok (.getfield 67, 3) := by decide +kernel
theorem zd_P_addEdge_50 : decode zc_P_addEdge 50 = .ok (.iload_n 3, 1) := by decide +kernel
theorem zd_P_addEdge_51 : decode zc_P_addEdge 51 = .ok (.iastore, 1) := by decide +kernel
theorem zd_P_addEdge_52 : decode zc_P_addEdge 52 = .ok (.aload_n 0, 1) := by decide +kernel
theorem zd_P_addEdge_53 : decode zc_P_addEdge 53 = .ok (.dup, 1) := by decide +kernel
theorem zd_P_addEdge_54 : decode zc_P_addEdge 54 = .ok (.getfield 67, 3) := by decide +kernel
theorem zd_P_addEdge_57 : decode zc_P_addEdge 57 = .ok (.iconst 1, 1) := by decide +kernel
theorem zd_P_addEdge_58 : decode zc_P_addEdge 58 = .ok (.iadd, 1) := by decide +kernel
theorem zd_P_addEdge_59 : decode zc_P_addEdge 59 = .ok (.putfield 67, 3) := by decide +kernel
theorem zd_P_addEdge_62 : decode zc_P_addEdge 62 = .ok (.return_, 1) := by decide +kernel
theorem zd_P_beginWithSlowestActor_0 : decode zc_P_beginWithSlowestActor 0 = .ok (.aload_n 0, 1) := by decide +kernel
theorem zd_P_beginWithSlowestActor_1 : decode zc_P_beginWithSlowestActor 1 = .ok (.iconst 0, 1) := by decide +kernel
theorem zd_P_beginWithSlowestActor_2 : decode zc_P_beginWithSlowestActor 2 = .ok (.putfield 40, 3) := by decide +kernel
theorem zd_P_beginWithSlowestActor_5 : decode zc_P_beginWithSlowestActor 5 = .ok (.aload_n 0, 1) := by decide +kernel
theorem zd_P_beginWithSlowestActor_6 : decode zc_P_beginWithSlowestActor 6 = .ok (.iconst 1, 1) := by decide +kernel
theorem zd_P_beginWithSlowestActor_7 : decode zc_P_beginWithSlowestActor 7 = .ok (.putfield 43, 3) := by decide +kernel
theorem zd_P_beginWithSlowestActor_10 : decode zc_P_beginWithSlowestActor 10 = .ok (.iconst 0, 1) := by decide +kernel
theorem zd_P_beginWithSlowestActor_11 : decode zc_P_beginWithSlowestActor 11 = .ok (.istore_n 3, 1) := by decide +kernel
theorem zd_P_beginWithSlowestActor_12 : decode zc_P_beginWithSlowestActor 12 = .ok (.iload_n 3, 1) := by decide +kernel
theorem zd_P_beginWithSlowestActor_13 : decode zc_P_beginWithSlowestActor 13 = .ok (.aload_n 1, 1) := by decide +kernel
theorem zd_P_beginWithSlowestActor_14 : decode zc_P_beginWithSlowestActor 14 = .ok (.getfield 70, 3) := by decide +kernel
theorem zd_P_beginWithSlowestActor_17 : decode zc_P_beginWithSlowestActor 17 = .ok (.if_icmp .ge 43, 3) := by decide +kernel
theorem zd_P_beginWithSlowestActor_20 : decode zc_P_beginWithSlowestActor 20 = .ok (.aload_n 1, 1) := by decide +kernel
theorem zd_P_beginWithSlowestActor_21 : decode zc_P_beginWithSlowestActor 21 = .ok (.getfield 75, 3) := by decide +kernel
theorem zd_P_beginWithSlowestActor_24 : decode zc_P_beginWithSlowestActor 24 = .ok (.iload_n 3, 1) := by decide +kernel
theorem zd_P_beginWithSlowestActor_25 : decode zc_P_beginWithSlowestActor 25 = .ok (.iaload, 1) := by decide +kernel
theorem zd_P_beginWithSlowestActor_26 : decode zc_P_beginWithSlowestActor 26 = .ok (.iload_n 2, 1) := by decide +kernel
theorem zd_P_beginWithSlowestActor_27 : decode zc_P_beginWithSlowestActor 27 = .ok (.if_icmp .ne 27, 3) := by decide +kernel
theorem zd_P_beginWithSlowestActor_30 : decode zc_P_beginWithSlowestActor 30 = .ok (.aload_n 0, 1) := by decide +kernel
theorem zd_P_beginWithSlowestActor_31 : decode zc_P_beginWithSlowestActor 31 = .ok (.aload_n 0, 1) := by decide +kernel
theorem zd_P_beginWithSlowestActor_32 : decode zc_P_beginWithSlowestActor 32 = .ok (.getfield 40, 3) := by decide +kernel
theorem zd_P_beginWithSlowestActor_35 : decode zc_P_beginWithSlowestActor 35 = .ok (.aload_n 1, 1) := by decide +kernel
theorem zd_P_beginWithSlowestActor_36 : decode zc_P_beginWithSlowestActor 36 = .ok (.getfield 78, 3) := by decide +kernel
theorem zd_P_beginWithSlowestActor_39 : decode zc_P_beginWithSlowestActor 39 = .ok (.iload_n 3, 1) := by decide +kernel
theorem zd_P_beginWithSlowestActor_40 : decode zc_P_beginWithSlowestActor 40 = .ok (.iaload, 1) := by decide +kernel
theorem zd_P_beginWithSlowestActor_41 : decode zc_P_beginWithSlowestActor 41 = .ok (.aload_n 1, 1) := by decide +kernel
theorem zd_P_beginWithSlowestActor_42 : decode zc_P_beginWithSlowestActor 42 = .ok (.getfield 81, 3) := by decide +kernel
theorem zd_P_beginWithSlowestActor_45 : decode zc_P_beginWithSlowestActor 45 = .ok (.iload_n 3, 1) := by decide +kernel
theorem zd_P_beginWithSlowestActor_46 : decode zc_P_beginWithSlowestActor 46 = .ok (.iaload, 1) := by decide +kernel
theorem zd_P_beginWithSlowestActor_47 : decode zc_P_beginWithSlowestActor 47 = .ok (.imul, 1) := by decide +kernel
theorem zd_P_beginWithSlowestActor_48 : decode zc_P_beginWithSlowestActor 48 = .ok (.invokestatic 121, 3) := by decide +kernel
theorem zd_P_beginWithSlowestActor_51 : decode zc_P_beginWithSlowestActor 51 = .ok (.putfield 40, 3) := by decide +kernel
theorem zd_P_beginWithSlowestActor_54 : decode zc_P_beginWithSlowestActor 54 = .ok (.iinc 3 1, 3) := by decide +kernel
theorem zd_P_beginWithSlowestActor_57 : decode zc_P_beginWithSlowestActor 57 = .ok (.goto (-45), 3) := by decide +kernel
theorem zd_P_beginWithSlowestActor_60 : decode zc_P_beginWithSlowestActor 60 = .ok (.return_, 1) := by decide +kernel
theorem zd_P_nodeOnSlowerLoop_0 : decode zc_P_nodeOnSlowerLoop 0 = .ok (.iconst 0, 1) := by decide +kernel
theorem zd_P_nodeOnSlowerLoop_1 : decode zc_P_nodeOnSlowerLoop 1 = .ok (.istore_n 1, 1) := by decide +kernel
theorem zd_P_nodeOnSlowerLoop_2 : decode zc_P_nodeOnSlowerLoop 2 = .ok (.iload_n 1, 1) := by decide +kernel
theorem zd_P_nodeOnSlowerLoop_3 : decode zc_P_nodeOnSlowerLoop 3 = .ok (.aload_n 0, 1) := by decide +kernel
theorem zd_P_nodeOnSlowerLoop_4 : decode zc_P_nodeOnSlowerLoop 4 = .ok (.getfield 64, 3) := by decide +kernel
theorem zd_P_nodeOnSlowerLoop_7 : decode zc_P_nodeOnSlowerLoop 7 = .ok (.if_icmp .ge 23, 3) := by decide +kernel
theorem zd_P_nodeOnSlowerLoop_10 : decode zc_P_nodeOnSlowerLoop 10 = .ok (.aload_n 0, 1) := by decide +kernel
theorem zd_P_nodeOnSlowerLoop_11 : decode zc_P_nodeOnSlowerLoop 11 = .ok (.getfield 27, 3) := by decide +kernel
theorem zd_P_nodeOnSlowerLoop_14 : decode zc_P_nodeOnSlowerLoop 14 = .ok (.iload_n 1, 1) := by decide +kernel
theorem zd_P_nodeOnSlowerLoop_15 : decode zc_P_nodeOnSlowerLoop 15 = .ok (.iconst 0, 1) := by decide +kernel
theorem zd_P_nodeOnSlowerLoop_16 : decode zc_P_nodeOnSlowerLoop 16 = .ok (.iastore, 1) := by decide +kernel
theorem zd_P_nodeOnSlowerLoop_17 : decode zc_P_nodeOnSlowerLoop 17 = .ok (.aload_n 0, 1) := by decide +kernel
theorem zd_P_nodeOnSlowerLoop_18 : decode zc_P_nodeOnSlowerLoop 18 = .ok (.getfield 30, 3) := by decide +kernel
theorem zd_P_nodeOnSlowerLoop_21 : decode zc_P_nodeOnSlowerLoop 21 = .ok (.iload_n 1, 1) := by decide +kernel
theorem zd_P_nodeOnSlowerLoop_22 : decode zc_P_nodeOnSlowerLoop 22 = .ok (.iconst (-1), 1) := by decide +kernel
theorem zd_P_nodeOnSlowerLoop_23 : decode zc_P_nodeOnSlowerLoop 23 = .ok (.iastore, 1) := by decide +kernel
theorem zd_P_nodeOnSlowerLoop_24 : decode zc_P_nodeOnSlowerLoop 24 = .ok (.iinc 1 1, 3) := by decide +kernel
theorem zd_P_nodeOnSlowerLoop_27 : decode zc_P_nodeOnSlowerLoop 27 = .ok (.goto (-25), 3) := by decide +kernel
theorem zd_P_nodeOnSlowerLoop_30 : decode zc_P_nodeOnSlowerLoop 30 = .ok (.iconst 0, 1) := by decide +kernel
theorem zd_P_nodeOnSlowerLoop_31 : decode zc_P_nodeOnSlowerLoop 31 = .ok (.istore_n 1, 1) := by decide +kernel
theorem zd_P_nodeOnSlowerLoop_32 : decode zc_P_nodeOnSlowerLoop 32 = .ok (.iload_n 1, 1) := by decide +kernel
theorem zd_P_nodeOnSlowerLoop_33 : decode zc_P_nodeOnSlowerLoop 33 = .ok (.sipush 1000, 3) := by decide +kernel
theorem zd_P_nodeOnSlowerLoop_36 : decode zc_P_nodeOnSlowerLoop 36 = .ok (.if_icmp .ge 30, 3) := by decide +kernel
theorem zd_P_nodeOnSlowerLoop_39 : decode zc_P_nodeOnSlowerLoop 39 = .ok (.aload_n 0, 1) := by decide +kernel
theorem zd_P_nodeOnSlowerLoop_40 : decode zc_P_nodeOnSlowerLoop 40 = .ok (.invokevirtual 124, 3) := by decide +kernel
theorem zd_P_nodeOnSlowerLoop_43 : decode zc_P_nodeOnSlowerLoop 43 = .ok (.ifCond .ne 5, 3) := by decide +kernel
theorem zd_P_nodeOnSlowerLoop_46 : decode zc_P_nodeOnSlowerLoop 46 = .ok (.iconst (-1), 1) := by decide +kernel
theorem zd_P_nodeOnSlowerLoop_47 : decode zc_P_nodeOnSlowerLoop 47 = .ok (.ireturn, 1) := by decide +kernel
theorem zd_P_nodeOnSlowerLoop_48 : decode zc_P_nodeOnSlowerLoop 48 = .ok (.aload_n 0, 1) := by decide +kernel
theorem zd_P_nodeOnSlowerLoop_49 : decode zc_P_nodeOnSlowerLoop 49 = .ok (.invokevirtual 128, 3) := by decide +kernel
theorem zd_P_nodeOnSlowerLoop_52 : decode zc_P_nodeOnSlowerLoop 52 = .ok (.istore_n 2, 1) := by decide +kernel
theorem zd_P_nodeOnSlowerLoop_53 : decode zc_P_nodeOnSlowerLoop 53 = .ok (.iload_n 2, 1) := by decide +kernel
theorem zd_P_nodeOnSlowerLoop_54 : decode zc_P_nodeOnSlowerLoop 54 = .ok (.iconst (-1), 1) := by decide +kernel
theorem zd_P_nodeOnSlowerLoop_55 : decode zc_P_nodeOnSlowerLoop 55 = .ok (.if_icmp .eq 5, 3) := by decide +kernel
theorem zd_P_nodeOnSlowerLoop_58 : decode zc_P_nodeOnSlowerLoop 58 = .ok (.iload_n 2, 1) := by decide +kernel
theorem zd_P_nodeOnSlowerLoop_59 : decode zc_P_nodeOnSlowerLoop 59 = .ok (.ireturn, 1) := by decide +kernel
theorem zd_P_nodeOnSlowerLoop_60 : decode zc_P_nodeOnSlowerLoop 60 = .ok (.iinc 1 1, 3) := by decide +kernel
theorem zd_P_nodeOnSlowerLoop_63 : decode zc_P_nodeOnSlowerLoop 63 = .ok (.goto (-31), 3) := by decide +kernel
theorem zd_P_nodeOnSlowerLoop_66 : decode zc_P_nodeOnSlowerLoop 66 = .ok (.iconst (-1), 1) := by decide +kernel
theorem zd_P_nodeOnSlowerLoop_67 : decode zc_P_nodeOnSlowerLoop 67 = .ok (.ireturn, 1) := by decide +kernel
theorem zd_P_raiseAll_0 : decode zc_P_raiseAll 0 = .ok (.iconst 0, 1) := by decide +kernel
theorem zd_P_raiseAll_1 : decode zc_P_raiseAll 1 = .ok (.istore_n 1, 1) := by decide +kernel
theorem zd_P_raiseAll_2 : decode zc_P_raiseAll 2 = .ok (.iconst 0, 1) := by decide +kernel
theorem zd_P_raiseAll_3 : decode zc_P_raiseAll 3 = .ok (.istore_n 2, 1) := by decide +kernel
theorem zd_P_raiseAll_4 : decode zc_P_raiseAll 4 = .ok (.iload_n 2, 1) := by decide +kernel
theorem zd_P_raiseAll_5 : decode zc_P_raiseAll 5 = .ok (.aload_n 0, 1) := by decide +kernel
theorem zd_P_raiseAll_6 : decode zc_P_raiseAll 6 = .ok (.getfield 67, 3) := by decide +kernel
theorem zd_P_raiseAll_9 : decode zc_P_raiseAll 9 = .ok (.if_icmp .ge 87, 3) := by decide +kernel
theorem zd_P_raiseAll_12 : decode zc_P_raiseAll 12 = .ok (.aload_n 0, 1) := by decide +kernel
theorem zd_P_raiseAll_13 : decode zc_P_raiseAll 13 = .ok (.getfield 18, 3) := by decide +kernel
theorem zd_P_raiseAll_16 : decode zc_P_raiseAll 16 = .ok (.iload_n 2, 1) := by decide +kernel
theorem zd_P_raiseAll_17 : decode zc_P_raiseAll 17 = .ok (.iaload, 1) := by decide +kernel
theorem zd_P_raiseAll_18 : decode zc_P_raiseAll 18 = .ok (.istore_n 3, 1) := by decide +kernel
theorem zd_P_raiseAll_19 : decode zc_P_raiseAll 19 = .ok (.aload_n 0, 1) := by decide +kernel
theorem zd_P_raiseAll_20 : decode zc_P_raiseAll 20 = .ok (.getfield 21, 3) := by decide +kernel
theorem zd_P_raiseAll_23 : decode zc_P_raiseAll 23 = .ok (.iload_n 2, 1) := by decide +kernel
theorem zd_P_raiseAll_24 : decode zc_P_raiseAll 24 = .ok (.iaload, 1) := by decide +kernel
theorem zd_P_raiseAll_25 : decode zc_P_raiseAll 25 = .ok (.istore 4, 2) := by decide +kernel
theorem zd_P_raiseAll_27 : decode zc_P_raiseAll 27 = .ok (.aload_n 0, 1) := by decide +kernel
theorem zd_P_raiseAll_28 : decode zc_P_raiseAll 28 = .ok (.getfield 27, 3) := by decide +kernel
theorem zd_P_raiseAll_31 : decode zc_P_raiseAll 31 = .ok (.iload_n 3, 1) := by decide +kernel
theorem zd_P_raiseAll_32 : decode zc_P_raiseAll 32 = .ok (.iaload, 1) := by decide +kernel
theorem zd_P_raiseAll_33 : decode zc_P_raiseAll 33 = .ok (.aload_n 0, 1) := by decide +kernel
theorem zd_P_raiseAll_34 : decode zc_P_raiseAll 34 = .ok (.getfield 15, 3) := by decide +kernel
theorem zd_P_raiseAll_37 : decode zc_P_raiseAll 37 = .ok (.iload_n 3, 1) := by decide +kernel
theorem zd_P_raiseAll_38 : decode zc_P_raiseAll 38 = .ok (.iaload, 1) := by decide +kernel
theorem zd_P_raiseAll_39 : decode zc_P_raiseAll 39 = .ok (.aload_n 0, 1) := by decide +kernel
theorem zd_P_raiseAll_40 : decode zc_P_raiseAll 40 = .ok (.getfield 43, 3) := by decide +kernel
theorem zd_P_raiseAll_43 : decode zc_P_raiseAll 43 = .ok (.imul, 1) := by decide +kernel
theorem zd_P_raiseAll_44 : decode zc_P_raiseAll 44 = .ok (.iadd, 1) := by decide +kernel
theorem zd_P_raiseAll_45 : decode zc_P_raiseAll 45 = .ok (.aload_n 0, 1) := by decide +kernel
theorem zd_P_raiseAll_46 : decode zc_P_raiseAll 46 = .ok (.getfield 24, 3) := by decide +kernel
theorem zd_P_raiseAll_49 : decode zc_P_raiseAll 49 = .ok (.iload_n 2, 1) := by decide +kernel
theorem zd_P_raiseAll_50 : decode zc_P_raiseAll 50 = .ok (.iaload, 1) := by decide +kernel
theorem zd_P_raiseAll_51 : decode zc_P_raiseAll 51 = .ok (.aload_n 0, 1) := by decide +kernel
theorem zd_P_raiseAll_52 : decode zc_P_raiseAll 52 = .ok (.getfield 40, 3) := by decide +kernel
theorem zd_P_raiseAll_55 : decode zc_P_raiseAll 55 = .ok (.imul, 1) := by decide +kernel
theorem zd_P_raiseAll_56 : decode zc_P_raiseAll 56 = .ok (.isub, 1) := by decide +kernel
theorem zd_P_raiseAll_57 : decode zc_P_raiseAll 57 = .ok (.istore 5, 2) := by decide +kernel
theorem zd_P_raiseAll_59 : decode zc_P_raiseAll 59 = .ok (.iload 5, 2) := by decide +kernel
theorem zd_P_raiseAll_61 : decode zc_P_raiseAll 61 = .ok (.aload_n 0, 1) := by decide +kernel
theorem zd_P_raiseAll_62 : decode zc_P_raiseAll 62 = .ok (.getfield 27, 3) := by decide +kernel
theorem zd_P_raiseAll_65 : decode zc_P_raiseAll 65 = .ok (.iload 4, 2) := by decide +kernel
theorem zd_P_raiseAll_67 : decode zc_P_raiseAll 67 = .ok (.iaload, 1) := by decide +kernel
theorem zd_P_raiseAll_68 : decode zc_P_raiseAll 68 = .ok (.if_icmp .le 22, 3) := by decide +kernel
theorem zd_P_raiseAll_71 : decode zc_P_raiseAll 71 = .ok (.aload_n 0, 1) := by decide +kernel
theorem zd_P_raiseAll_72 : decode zc_P_raiseAll 72 = .ok (.getfield 27, 3) := by decide +kernel
theorem zd_P_raiseAll_75 : decode zc_P_raiseAll 75 = .ok (.iload 4, 2) := by decide +kernel
theorem zd_P_raiseAll_77 : decode zc_P_raiseAll 77 = .ok (.iload 5, 2) := by decide +kernel
theorem zd_P_raiseAll_79 : decode zc_P_raiseAll 79 = .ok (.iastore, 1) := by decide +kernel
theorem zd_P_raiseAll_80 : decode zc_P_raiseAll 80 = .ok (.aload_n 0, 1) := by decide +kernel
theorem zd_P_raiseAll_81 : decode zc_P_raiseAll 81 = .ok (.getfield 30, 3) := by decide +kernel
theorem zd_P_raiseAll_84 : decode zc_P_raiseAll 84 = .ok (.iload 4, 2) := by decide +kernel
theorem zd_P_raiseAll_86 : decode zc_P_raiseAll 86 = .ok (.iload_n 2, 1) := by decide +kernel
theorem zd_P_raiseAll_87 : decode zc_P_raiseAll 87 = .ok (.iastore, 1) := by decide +kernel
theorem zd_P_raiseAll_88 : decode zc_P_raiseAll 88 = .ok (.iconst 1, 1) := by decide +kernel
theorem zd_P_raiseAll_89 : decode zc_P_raiseAll 89 = .ok (.istore_n 1, 1) := by decide +kernel
theorem zd_P_raiseAll_90 : decode zc_P_raiseAll 90 = .ok (.iinc 2 1, 3) := by decide +kernel
theorem zd_P_raiseAll_93 : decode zc_P_raiseAll 93 = .ok (.goto (-89), 3) := by decide +kernel
theorem zd_P_raiseAll_96 : decode zc_P_raiseAll 96 = .ok (.iload_n 1, 1) := by decide +kernel
theorem zd_P_raiseAll_97 : decode zc_P_raiseAll 97 = .ok (.ireturn, 1) := by decide +kernel
theorem zd_P_nodeOnLoopOfRaises_0 : decode zc_P_nodeOnLoopOfRaises 0 = .ok (.iconst 0, 1) := by decide +kernel
theorem zd_P_nodeOnLoopOfRaises_1 : decode zc_P_nodeOnLoopOfRaises 1 = .ok (.istore_n 1, 1) := by decide +kernel
theorem zd_P_nodeOnLoopOfRaises_2 : decode zc_P_nodeOnLoopOfRaises 2 = .ok (.iload_n 1, 1) := by decide +kernel
theorem zd_P_nodeOnLoopOfRaises_3 : decode zc_P_nodeOnLoopOfRaises 3 = .ok (.aload_n 0, 1) := by decide +kernel
theorem zd_P_nodeOnLoopOfRaises_4 : decode zc_P_nodeOnLoopOfRaises 4 = .ok (.getfield 64, 3) := by decide +kernel
theorem zd_P_nodeOnLoopOfRaises_7 : decode zc_P_nodeOnLoopOfRaises 7 = .ok (.if_icmp .ge 16, 3) := by decide +kernel
theorem zd_P_nodeOnLoopOfRaises_10 : decode zc_P_nodeOnLoopOfRaises 10 = .ok (.aload_n 0, 1) := by decide +kernel
theorem zd_P_nodeOnLoopOfRaises_11 : decode zc_P_nodeOnLoopOfRaises 11 = .ok (.getfield 33, 3) := by decide +kernel
theorem zd_P_nodeOnLoopOfRaises_14 : decode zc_P_nodeOnLoopOfRaises 14 = .ok (.iload_n 1, 1) := by decide +kernel
theorem zd_P_nodeOnLoopOfRaises_15 : decode zc_P_nodeOnLoopOfRaises 15 = .ok (.iconst (-1), 1) := by decide +kernel
theorem zd_P_nodeOnLoopOfRaises_16 : decode zc_P_nodeOnLoopOfRaises 16 = .ok (.iastore, 1) := by decide +kernel
theorem zd_P_nodeOnLoopOfRaises_17 : decode zc_P_nodeOnLoopOfRaises 17 = .ok (.iinc 1 1, 3) := by decide +kernel
theorem zd_P_nodeOnLoopOfRaises_20 : decode zc_P_nodeOnLoopOfRaises 20 = .ok (.goto (-18), 3) := by decide +kernel
theorem zd_P_nodeOnLoopOfRaises_23 : decode zc_P_nodeOnLoopOfRaises 23 = .ok (.iconst 0, 1) := by decide +kernel
theorem zd_P_nodeOnLoopOfRaises_24 : decode zc_P_nodeOnLoopOfRaises 24 = .ok (.istore_n 1, 1) := by decide +kernel
theorem zd_P_nodeOnLoopOfRaises_25 : decode zc_P_nodeOnLoopOfRaises 25 = .ok (.iload_n 1, 1) := by decide +kernel
theorem zd_P_nodeOnLoopOfRaises_26 : decode zc_P_nodeOnLoopOfRaises 26 = .ok (.aload_n 0, 1) := by decide +kernel
theorem zd_P_nodeOnLoopOfRaises_27 : decode zc_P_nodeOnLoopOfRaises 27 = .ok (.getfield 64, 3) := by decide +kernel
theorem zd_P_nodeOnLoopOfRaises_30 : decode zc_P_nodeOnLoopOfRaises 30 = .ok (.if_icmp .ge 72, 3) := by decide +kernel
theorem zd_P_nodeOnLoopOfRaises_33 : decode zc_P_nodeOnLoopOfRaises 33 = .ok (.iload_n 1, 1) := by decide +kernel
theorem zd_P_nodeOnLoopOfRaises_34 : decode zc_P_nodeOnLoopOfRaises 34 = .ok (.istore_n 2, 1) := by decide +kernel
theorem zd_P_nodeOnLoopOfRaises_35 : decode zc_P_nodeOnLoopOfRaises 35 = .ok (.iconst 0, 1) := by decide +kernel
theorem zd_P_nodeOnLoopOfRaises_36 : decode zc_P_nodeOnLoopOfRaises 36 = .ok (.istore_n 3, 1) := by decide +kernel
theorem zd_P_nodeOnLoopOfRaises_37 : decode zc_P_nodeOnLoopOfRaises 37 = .ok (.iload_n 3, 1) := by decide +kernel
theorem zd_P_nodeOnLoopOfRaises_38 : decode zc_P_nodeOnLoopOfRaises 38 = .ok (.aload_n 0, 1) := by decide +kernel
theorem zd_P_nodeOnLoopOfRaises_39 : decode zc_P_nodeOnLoopOfRaises 39 = .ok (.getfield 64, 3) := by decide +kernel
theorem zd_P_nodeOnLoopOfRaises_42 : decode zc_P_nodeOnLoopOfRaises 42 = .ok (.if_icmp .gt 37, 3) := by decide +kernel
theorem zd_P_nodeOnLoopOfRaises_45 : decode zc_P_nodeOnLoopOfRaises 45 = .ok (.iload_n 2, 1) := by decide +kernel
theorem zd_P_nodeOnLoopOfRaises_46 : decode zc_P_nodeOnLoopOfRaises 46 = .ok (.iconst (-1), 1) := by decide +kernel
theorem zd_P_nodeOnLoopOfRaises_47 : decode zc_P_nodeOnLoopOfRaises 47 = .ok (.if_icmp .eq 32, 3) := by decide +kernel
theorem zd_P_nodeOnLoopOfRaises_50 : decode zc_P_nodeOnLoopOfRaises 50 = .ok (.aload_n 0, 1) := by decide +kernel
theorem zd_P_nodeOnLoopOfRaises_51 : decode zc_P_nodeOnLoopOfRaises 51 = .ok (.getfield 33, 3) := by decide +kernel
theorem zd_P_nodeOnLoopOfRaises_54 : decode zc_P_nodeOnLoopOfRaises 54 = .ok (.iload_n 2, 1) := by decide +kernel
theorem zd_P_nodeOnLoopOfRaises_55 : decode zc_P_nodeOnLoopOfRaises 55 = .ok (.iaload, 1) := by decide +kernel
theorem zd_P_nodeOnLoopOfRaises_56 : decode zc_P_nodeOnLoopOfRaises 56 = .ok (.iconst (-1), 1) := by decide +kernel
theorem zd_P_nodeOnLoopOfRaises_57 : decode zc_P_nodeOnLoopOfRaises 57 = .ok (.if_icmp .ne 22, 3) := by decide +kernel
theorem zd_P_nodeOnLoopOfRaises_60 : decode zc_P_nodeOnLoopOfRaises 60 = .ok (.aload_n 0, 1) := by decide +kernel
theorem zd_P_nodeOnLoopOfRaises_61 : decode zc_P_nodeOnLoopOfRaises 61 = .ok (.getfield 33, 3) := by decide +kernel
theorem zd_P_nodeOnLoopOfRaises_64 : decode zc_P_nodeOnLoopOfRaises 64 = .ok (.iload_n 2, 1) := by decide +kernel
theorem zd_P_nodeOnLoopOfRaises_65 : decode zc_P_nodeOnLoopOfRaises 65 = .ok (.iload_n 1, 1) := by decide +kernel
theorem zd_P_nodeOnLoopOfRaises_66 : decode zc_P_nodeOnLoopOfRaises 66 = .ok (.iastore, 1) := by decide +kernel
theorem zd_P_nodeOnLoopOfRaises_67 : decode zc_P_nodeOnLoopOfRaises 67 = .ok (.aload_n 0, 1) := by decide +kernel
theorem zd_P_nodeOnLoopOfRaises_68 : decode zc_P_nodeOnLoopOfRaises 68 = .ok (.iload_n 2, 1) := by decide +kernel
theorem zd_P_nodeOnLoopOfRaises_69 : decode zc_P_nodeOnLoopOfRaises 69 = .ok (.invokevirtual 131, 3) := by decide +kernel
theorem zd_P_nodeOnLoopOfRaises_72 : decode zc_P_nodeOnLoopOfRaises 72 = .ok (.istore_n 2, 1) := by decide +kernel
theorem zd_P_nodeOnLoopOfRaises_73 : decode zc_P_nodeOnLoopOfRaises 73 = .ok (.iinc 3 1, 3) := by decide +kernel
theorem zd_P_nodeOnLoopOfRaises_76 : decode zc_P_nodeOnLoopOfRaises 76 = .ok (.goto (-39), 3) := by decide +kernel
theorem zd_P_nodeOnLoopOfRaises_79 : decode zc_P_nodeOnLoopOfRaises 79 = .ok (.iload_n 2, 1) := by decide +kernel
theorem zd_P_nodeOnLoopOfRaises_80 : decode zc_P_nodeOnLoopOfRaises 80 = .ok (.iconst (-1), 1) := by decide +kernel
theorem zd_P_nodeOnLoopOfRaises_81 : decode zc_P_nodeOnLoopOfRaises 81 = .ok (.if_icmp .eq 15, 3) := by decide +kernel
theorem zd_P_nodeOnLoopOfRaises_84 : decode zc_P_nodeOnLoopOfRaises 84 = .ok (.aload_n 0, 1) := by decide +kernel
theorem zd_P_nodeOnLoopOfRaises_85 : decode zc_P_nodeOnLoopOfRaises 85 = .ok (.getfield 33, 3) := by decide +kernel
theorem zd_P_nodeOnLoopOfRaises_88 : decode zc_P_nodeOnLoopOfRaises 88 = .ok (.iload_n 2, 1) := by decide +kernel
theorem zd_P_nodeOnLoopOfRaises_89 : decode zc_P_nodeOnLoopOfRaises 89 = .ok (.iaload, 1) := by decide +kernel
theorem zd_P_nodeOnLoopOfRaises_90 : decode zc_P_nodeOnLoopOfRaises 90 = .ok (.iload_n 1, 1) := by decide +kernel
theorem zd_P_nodeOnLoopOfRaises_91 : decode zc_P_nodeOnLoopOfRaises 91 = .ok (.if_icmp .ne 5, 3) := by decide +kernel
theorem zd_P_nodeOnLoopOfRaises_94 : decode zc_P_nodeOnLoopOfRaises 94 = .ok (.iload_n 2, 1) := by decide +kernel
theorem zd_P_nodeOnLoopOfRaises_95 : decode zc_P_nodeOnLoopOfRaises 95 = .ok (.ireturn, 1) := by decide +kernel
theorem zd_P_nodeOnLoopOfRaises_96 : decode zc_P_nodeOnLoopOfRaises 96 = .ok (.iinc 1 1, 3) := by decide +kernel
theorem zd_P_nodeOnLoopOfRaises_99 : decode zc_P_nodeOnLoopOfRaises 99 = .ok (.goto (-74), 3) := by decide +kernel
theorem zd_P_nodeOnLoopOfRaises_102 : decode zc_P_nodeOnLoopOfRaises 102 = .ok (.iconst (-1), 1) := by decide +kernel
theorem zd_P_nodeOnLoopOfRaises_103 : decode zc_P_nodeOnLoopOfRaises 103 = .ok (.ireturn, 1) := by decide +kernel
theorem zd_P_nodeAhead_0 : decode zc_P_nodeAhead 0 = .ok (.aload_n 0, 1) := by decide +kernel
theorem zd_P_nodeAhead_1 : decode zc_P_nodeAhead 1 = .ok (.getfield 30, 3) := by decide +kernel
theorem zd_P_nodeAhead_4 : decode zc_P_nodeAhead 4 = .ok (.iload_n 1, 1) := by decide +kernel
theorem zd_P_nodeAhead_5 : decode zc_P_nodeAhead 5 = .ok (.iaload, 1) := by decide +kernel
theorem zd_P_nodeAhead_6 : decode zc_P_nodeAhead 6 = .ok (.istore_n 2, 1) := by decide +kernel
theorem zd_P_nodeAhead_7 : decode zc_P_nodeAhead 7 = .ok (.iload_n 2, 1) := by decide +kernel
theorem zd_P_nodeAhead_8 : decode zc_P_nodeAhead 8 = .ok (.iconst (-1), 1) := by decide +kernel
theorem zd_P_nodeAhead_9 : decode zc_P_nodeAhead 9 = .ok (.if_icmp .ne 7, 3) := by decide +kernel
theorem zd_P_nodeAhead_12 : decode zc_P_nodeAhead 12 = .ok (.iconst (-1), 1) := by decide +kernel
theorem zd_P_nodeAhead_13 : decode zc_P_nodeAhead 13 = .ok (.goto 9, 3) := by decide +kernel
theorem zd_P_nodeAhead_16 : decode zc_P_nodeAhead 16 = .ok (.aload_n 0, 1) := by decide +kernel
theorem zd_P_nodeAhead_17 : decode zc_P_nodeAhead 17 = .ok (.getfield 18, 3) := by decide +kernel
theorem zd_P_nodeAhead_20 : decode zc_P_nodeAhead 20 = .ok (.iload_n 2, 1) := by decide +kernel
theorem zd_P_nodeAhead_21 : decode zc_P_nodeAhead 21 = .ok (.iaload, 1) := by decide +kernel
theorem zd_P_nodeAhead_22 : decode zc_P_nodeAhead 22 = .ok (.ireturn, 1) := by decide +kernel
theorem zd_P_takeRatioOf_0 : decode zc_P_takeRatioOf 0 = .ok (.iconst 0, 1) := by decide +kernel
theorem zd_P_takeRatioOf_1 : decode zc_P_takeRatioOf 1 = .ok (.istore_n 2, 1) := by decide +kernel
theorem zd_P_takeRatioOf_2 : decode zc_P_takeRatioOf 2 = .ok (.iconst 0, 1) := by decide +kernel
theorem zd_P_takeRatioOf_3 : decode zc_P_takeRatioOf 3 = .ok (.istore_n 3, 1) := by decide +kernel
theorem zd_P_takeRatioOf_4 : decode zc_P_takeRatioOf 4 = .ok (.iload_n 1, 1) := by decide +kernel
theorem zd_P_takeRatioOf_5 : decode zc_P_takeRatioOf 5 = .ok (.istore 4, 2) := by decide +kernel
theorem zd_P_takeRatioOf_7 : decode zc_P_takeRatioOf 7 = .ok (.iconst 0, 1) := by decide +kernel
theorem zd_P_takeRatioOf_8 : decode zc_P_takeRatioOf 8 = .ok (.istore 5, 2) := by decide +kernel
theorem zd_P_takeRatioOf_10 : decode zc_P_takeRatioOf 10 = .ok (.iload 5, 2) := by decide +kernel
theorem zd_P_takeRatioOf_12 : decode zc_P_takeRatioOf 12 = .ok (.aload_n 0, 1) := by decide +kernel
theorem zd_P_takeRatioOf_13 : decode zc_P_takeRatioOf 13 = .ok (.getfield 64, 3) := by decide +kernel
theorem zd_P_takeRatioOf_16 : decode zc_P_takeRatioOf 16 = .ok (.if_icmp .ge 74, 3) := by decide +kernel
theorem zd_P_takeRatioOf_19 : decode zc_P_takeRatioOf 19 = .ok (.iload 4, 2) := by decide +kernel
theorem zd_P_takeRatioOf_21 : decode zc_P_takeRatioOf 21 = .ok (.iconst (-1), 1) := by decide +kernel
theorem zd_P_takeRatioOf_22 : decode zc_P_takeRatioOf 22 = .ok (.if_icmp .eq 68, 3) := by decide +kernel
theorem zd_P_takeRatioOf_25 : decode zc_P_takeRatioOf 25 = .ok (.aload_n 0, 1) := by decide +kernel
theorem zd_P_takeRatioOf_26 : decode zc_P_takeRatioOf 26 = .ok (.getfield 30, 3) := by decide +kernel
theorem zd_P_takeRatioOf_29 : decode zc_P_takeRatioOf 29 = .ok (.iload 4, 2) := by decide +kernel
theorem zd_P_takeRatioOf_31 : decode zc_P_takeRatioOf 31 = .ok (.iaload, 1) := by decide +kernel
theorem zd_P_takeRatioOf_32 : decode zc_P_takeRatioOf 32 = .ok (.iconst (-1), 1) := by decide +kernel
theorem zd_P_takeRatioOf_33 : decode zc_P_takeRatioOf 33 = .ok (.if_icmp .eq 57, 3) := by decide +kernel
theorem zd_P_takeRatioOf_36 : decode zc_P_takeRatioOf 36 = .ok (.iload_n 3, 1) := by decide +kernel
theorem zd_P_takeRatioOf_37 : decode zc_P_takeRatioOf 37 = .ok (.aload_n 0, 1) := by decide +kernel
theorem zd_P_takeRatioOf_38 : decode zc_P_takeRatioOf 38 = .ok (.getfield 24, 3) := by decide +kernel
theorem zd_P_takeRatioOf_41 : decode zc_P_takeRatioOf 41 = .ok (.aload_n 0, 1) := by decide +kernel
theorem zd_P_takeRatioOf_42 : decode zc_P_takeRatioOf 42 = .ok (.getfield 30, 3) := by decide +kernel
theorem zd_P_takeRatioOf_45 : decode zc_P_takeRatioOf 45 = .ok (.iload 4, 2) := by decide +kernel
theorem zd_P_takeRatioOf_47 : decode zc_P_takeRatioOf 47 = .ok (.iaload, 1) := by decide +kernel
theorem zd_P_takeRatioOf_48 : decode zc_P_takeRatioOf 48 = .ok (.iaload, 1) := by decide +kernel
theorem zd_P_takeRatioOf_49 : decode zc_P_takeRatioOf 49 = .ok (.iadd, 1) := by decide +kernel
theorem zd_P_takeRatioOf_50 : decode zc_P_takeRatioOf 50 = .ok (.istore_n 3, 1) := by decide +kernel
theorem zd_P_takeRatioOf_51 : decode zc_P_takeRatioOf 51 = .ok (.aload_n 0, 1) := by decide +kernel
theorem zd_P_takeRatioOf_52 : decode zc_P_takeRatioOf 52 = .ok (.getfield 18, 3) := by decide +kernel
theorem zd_P_takeRatioOf_55 : decode zc_P_takeRatioOf 55 = .ok (.aload_n 0, 1) := by decide +kernel
theorem zd_P_takeRatioOf_56 : decode zc_P_takeRatioOf 56 = .ok (.getfield 30, 3) := by decide +kernel
theorem zd_P_takeRatioOf_59 : decode zc_P_takeRatioOf 59 = .ok (.iload 4, 2) := by decide +kernel
theorem zd_P_takeRatioOf_61 : decode zc_P_takeRatioOf 61 = .ok (.iaload, 1) := by decide +kernel
theorem zd_P_takeRatioOf_62 : decode zc_P_takeRatioOf 62 = .ok (.iaload, 1) := by decide +kernel
theorem zd_P_takeRatioOf_63 : decode zc_P_takeRatioOf 63 = .ok (.istore 4, 2) := by decide +kernel
theorem zd_P_takeRatioOf_65 : decode zc_P_takeRatioOf 65 = .ok (.iload_n 2, 1) := by decide +kernel
theorem zd_P_takeRatioOf_66 : decode zc_P_takeRatioOf 66 = .ok (.aload_n 0, 1) := by decide +kernel
theorem zd_P_takeRatioOf_67 : decode zc_P_takeRatioOf 67 = .ok (.getfield 15, 3) := by decide +kernel
theorem zd_P_takeRatioOf_70 : decode zc_P_takeRatioOf 70 = .ok (.iload 4, 2) := by decide +kernel
theorem zd_P_takeRatioOf_72 : decode zc_P_takeRatioOf 72 = .ok (.iaload, 1) := by decide +kernel
theorem zd_P_takeRatioOf_73 : decode zc_P_takeRatioOf 73 = .ok (.iadd, 1) := by decide +kernel
theorem zd_P_takeRatioOf_74 : decode zc_P_takeRatioOf 74 = .ok (.istore_n 2, 1) := by decide +kernel
theorem zd_P_takeRatioOf_75 : decode zc_P_takeRatioOf 75 = .ok (.iload 4, 2) := by decide +kernel
theorem zd_P_takeRatioOf_77 : decode zc_P_takeRatioOf 77 = .ok (.iload_n 1, 1) := by decide +kernel
theorem zd_P_takeRatioOf_78 : decode zc_P_takeRatioOf 78 = .ok (.if_icmp .ne 6, 3) := by decide +kernel
theorem zd_P_takeRatioOf_81 : decode zc_P_takeRatioOf 81 = .ok (.goto 9, 3) := by decide +kernel
theorem zd_P_takeRatioOf_84 : decode zc_P_takeRatioOf 84 = .ok (.iinc 5 1, 3) := by decide +kernel
theorem zd_P_takeRatioOf_87 : decode zc_P_takeRatioOf 87 = .ok (.goto (-77), 3) := by decide +kernel
theorem zd_P_takeRatioOf_90 : decode zc_P_takeRatioOf 90 = .ok (.iload_n 2, 1) := by decide +kernel
theorem zd_P_takeRatioOf_91 : decode zc_P_takeRatioOf 91 = .ok (.iload_n 3, 1) := by decide +kernel
theorem zd_P_takeRatioOf_92 : decode zc_P_takeRatioOf 92 = .ok (.invokestatic 135, 3) := by decide +kernel
theorem zd_P_takeRatioOf_95 : decode zc_P_takeRatioOf 95 = .ok (.istore 5, 2) := by decide +kernel
theorem zd_P_takeRatioOf_97 : decode zc_P_takeRatioOf 97 = .ok (.iload_n 3, 1) := by decide +kernel
theorem zd_P_takeRatioOf_98 : decode zc_P_takeRatioOf 98 = .ok (.ifCond .le 23, 3) := by decide +kernel
theorem zd_P_takeRatioOf_101 : decode zc_P_takeRatioOf 101 = .ok (.aload_n 0, 1) := by decide +kernel
theorem zd_P_takeRatioOf_102 : decode zc_P_takeRatioOf 102 = .ok (.iload_n 2, 1) := by decide +kernel
theorem zd_P_takeRatioOf_103 : decode zc_P_takeRatioOf 103 = .ok (.iload 5, 2) := by decide +kernel
theorem zd_P_takeRatioOf_105 : decode zc_P_takeRatioOf 105 = .ok (.invokestatic 138, 3) := by decide +kernel
theorem zd_P_takeRatioOf_108 : decode zc_P_takeRatioOf 108 = .ok (.putfield 40, 3) := by decide +kernel
theorem zd_P_takeRatioOf_111 : decode zc_P_takeRatioOf 111 = .ok (.aload_n 0, 1) := by decide +kernel
theorem zd_P_takeRatioOf_112 : decode zc_P_takeRatioOf 112 = .ok (.iload_n 3, 1) := by decide +kernel
theorem zd_P_takeRatioOf_113 : decode zc_P_takeRatioOf 113 = .ok (.iload 5, 2) := by decide +kernel
theorem zd_P_takeRatioOf_115 : decode zc_P_takeRatioOf 115 = .ok (.invokestatic 138, 3) := by decide +kernel
theorem zd_P_takeRatioOf_118 : decode zc_P_takeRatioOf 118 = .ok (.putfield 43, 3) := by decide +kernel
theorem zd_P_takeRatioOf_121 : decode zc_P_takeRatioOf 121 = .ok (.return_, 1) := by decide +kernel
theorem zd_M_init_0 : decode zc_M_init 0 = .ok (.aload_n 0, 1) := by decide +kernel
theorem zd_M_init_1 : decode zc_M_init 1 = .ok (.invokespecial 3, 3) := by decide +kernel
theorem zd_M_init_4 : decode zc_M_init 4 = .ok (.aload_n 0, 1) := by decide +kernel
theorem zd_M_init_5 : decode zc_M_init 5 = .ok (.bipush 8, 2) := by decide +kernel
theorem zd_M_init_7 : decode zc_M_init 7 = .ok (.bipush 8, 2) := by decide +kernel
theorem zd_M_init_9 : decode zc_M_init 9 = .ok (.multianewarray 9 2, 4) := by decide +kernel
theorem zd_M_init_13 : decode zc_M_init 13 = .ok (.putfield 11, 3) := by decide +kernel
theorem zd_M_init_16 : decode zc_M_init 16 = .ok (.return_, 1) := by decide +kernel
theorem zd_M_ofAll_0 : decode zc_M_ofAll 0 = .ok (.aload_n 1, 1) := by decide +kernel
theorem zd_M_ofAll_1 : decode zc_M_ofAll 1 = .ok (.getfield 16, 3) := by decide +kernel
theorem zd_M_ofAll_4 : decode zc_M_ofAll 4 = .ok (.iconst 1, 1) := by decide +kernel
theorem zd_M_ofAll_5 : decode zc_M_ofAll 5 = .ok (.isub, 1) := by decide +kernel
theorem zd_M_ofAll_6 : decode zc_M_ofAll 6 = .ok (.istore_n 2, 1) := by decide +kernel
theorem zd_M_ofAll_7 : decode zc_M_ofAll 7 = .ok (.iload_n 2, 1) := by decide +kernel
theorem zd_M_ofAll_8 : decode zc_M_ofAll 8 = .ok (.ifCond .lt 75, 3) := by decide +kernel
theorem zd_M_ofAll_11 : decode zc_M_ofAll 11 = .ok (.aload_n 0, 1) := by decide +kernel
theorem zd_M_ofAll_12 : decode zc_M_ofAll 12 = .ok (.getfield 11, 3) := by decide +kernel
theorem zd_M_ofAll_15 : decode zc_M_ofAll 15 = .ok (.iload_n 2, 1) := by decide +kernel
theorem zd_M_ofAll_16 : decode zc_M_ofAll 16 = .ok (.aaload, 1) := by decide +kernel
theorem zd_M_ofAll_17 : decode zc_M_ofAll 17 = .ok (.iload_n 2, 1) := by decide +kernel
theorem zd_M_ofAll_18 : decode zc_M_ofAll 18 = .ok (.iconst 0, 1) := by decide +kernel
theorem zd_M_ofAll_19 : decode zc_M_ofAll 19 = .ok (.iastore, 1) := by decide +kernel
theorem zd_M_ofAll_20 : decode zc_M_ofAll 20 = .ok (.aload_n 1, 1) := by decide +kernel
theorem zd_M_ofAll_21 : decode zc_M_ofAll 21 = .ok (.getfield 22, 3) := by decide +kernel
theorem zd_M_ofAll_24 : decode zc_M_ofAll 24 = .ok (.iload_n 2, 1) := by decide +kernel
theorem zd_M_ofAll_25 : decode zc_M_ofAll 25 = .ok (.iaload, 1) := by decide +kernel
theorem zd_M_ofAll_26 : decode zc_M_ofAll 26 = .ok (.istore_n 3, 1) := by decide +kernel
theorem zd_M_ofAll_27 : decode zc_M_ofAll 27 = .ok (.iload_n 2, 1) := by decide +kernel
theorem zd_M_ofAll_28 : decode zc_M_ofAll 28 = .ok (.iconst 1, 1) := by decide +kernel
theorem zd_M_ofAll_29 : decode zc_M_ofAll 29 = .ok (.iadd, 1) := by decide +kernel
theorem zd_M_ofAll_30 : decode zc_M_ofAll 30 = .ok (.istore 4, 2) := by decide +kernel
theorem zd_M_ofAll_32 : decode zc_M_ofAll 32 = .ok (.iload 4, 2) := by decide +kernel
theorem zd_M_ofAll_34 : decode zc_M_ofAll 34 = .ok (.aload_n 1, 1) := by decide +kernel
theorem zd_M_ofAll_35 : decode zc_M_ofAll 35 = .ok (.getfield 16, 3) := by decide +kernel
theorem zd_M_ofAll_38 : decode zc_M_ofAll 38 = .ok (.if_icmp .ge 39, 3) := by decide +kernel
theorem zd_M_ofAll_41 : decode zc_M_ofAll 41 = .ok (.iload_n 3, 1) := by decide +kernel
theorem zd_M_ofAll_42 : decode zc_M_ofAll 42 = .ok (.aload_n 1, 1) := by decide +kernel
theorem zd_M_ofAll_43 : decode zc_M_ofAll 43 = .ok (.getfield 22, 3) := by decide +kernel
theorem zd_M_ofAll_46 : decode zc_M_ofAll 46 = .ok (.iload 4, 2) := by decide +kernel
theorem zd_M_ofAll_48 : decode zc_M_ofAll 48 = .ok (.iaload, 1) := by decide +kernel
theorem zd_M_ofAll_49 : decode zc_M_ofAll 49 = .ok (.invokestatic 26, 3) := by decide +kernel
theorem zd_M_ofAll_52 : decode zc_M_ofAll 52 = .ok (.istore_n 3, 1) := by decide +kernel
theorem zd_M_ofAll_53 : decode zc_M_ofAll 53 = .ok (.aload_n 0, 1) := by decide +kernel
theorem zd_M_ofAll_54 : decode zc_M_ofAll 54 = .ok (.getfield 11, 3) := by decide +kernel
theorem zd_M_ofAll_57 : decode zc_M_ofAll 57 = .ok (.iload_n 2, 1) := by decide +kernel
theorem zd_M_ofAll_58 : decode zc_M_ofAll 58 = .ok (.aaload, 1) := by decide +kernel
theorem zd_M_ofAll_59 : decode zc_M_ofAll 59 = .ok (.iload 4, 2) := by decide +kernel
theorem zd_M_ofAll_61 : decode zc_M_ofAll 61 = .ok (.aload_n 0, 1) := by decide +kernel
theorem zd_M_ofAll_62 : decode zc_M_ofAll 62 = .ok (.aload_n 1, 1) := by decide +kernel
theorem zd_M_ofAll_63 : decode zc_M_ofAll 63 = .ok (.iload_n 2, 1) := by decide +kernel
theorem zd_M_ofAll_64 : decode zc_M_ofAll 64 = .ok (.iload 4, 2) := by decide +kernel
theorem zd_M_ofAll_66 : decode zc_M_ofAll 66 = .ok (.iload_n 3, 1) := by decide +kernel
theorem zd_M_ofAll_67 : decode zc_M_ofAll 67 = .ok (.invokevirtual 30, 3) := by decide +kernel
theorem zd_M_ofAll_70 : decode zc_M_ofAll 70 = .ok (.iastore, 1) := by decide +kernel
theorem zd_M_ofAll_71 : decode zc_M_ofAll 71 = .ok (.iinc 4 1, 3) := by decide +kernel
theorem zd_M_ofAll_74 : decode zc_M_ofAll 74 = .ok (.goto (-42), 3) := by decide +kernel
theorem zd_M_ofAll_77 : decode zc_M_ofAll 77 = .ok (.iinc 2 (-1), 3) := by decide +kernel
theorem zd_M_ofAll_80 : decode zc_M_ofAll 80 = .ok (.goto (-73), 3) := by decide +kernel
theorem zd_M_ofAll_83 : decode zc_M_ofAll 83 = .ok (.aload_n 0, 1) := by decide +kernel
theorem zd_M_ofAll_84 : decode zc_M_ofAll 84 = .ok (.getfield 11, 3) := by decide +kernel
theorem zd_M_ofAll_87 : decode zc_M_ofAll 87 = .ok (.iconst 0, 1) := by decide +kernel
theorem zd_M_ofAll_88 : decode zc_M_ofAll 88 = .ok (.aaload, 1) := by decide +kernel
theorem zd_M_ofAll_89 : decode zc_M_ofAll 89 = .ok (.aload_n 1, 1) := by decide +kernel
theorem zd_M_ofAll_90 : decode zc_M_ofAll 90 = .ok (.getfield 16, 3) := by decide +kernel
theorem zd_M_ofAll_93 : decode zc_M_ofAll 93 = .ok (.iconst 1, 1) := by decide +kernel
theorem zd_M_ofAll_94 : decode zc_M_ofAll 94 = .ok (.isub, 1) := by decide +kernel
theorem zd_M_ofAll_95 : decode zc_M_ofAll 95 = .ok (.iaload, 1) := by decide +kernel
theorem zd_M_ofAll_96 : decode zc_M_ofAll 96 = .ok (.ireturn, 1) := by decide +kernel
theorem zd_M_ofBestCut_0 : decode zc_M_ofBestCut 0 = .ok (.ldc 36, 2) := by decide +kernel
theorem zd_M_ofBestCut_2 : decode zc_M_ofBestCut 2 = .ok (.istore 5, 2) := by decide +kernel
theorem zd_M_ofBestCut_4 : decode zc_M_ofBestCut 4 = .ok (.iload_n 2, 1) := by decide +kernel
theorem zd_M_ofBestCut_5 : decode zc_M_ofBestCut 5 = .ok (.istore 6, 2) := by decide +kernel
theorem zd_M_ofBestCut_7 : decode zc_M_ofBestCut 7 = .ok (.iload 6, 2) := by decide +kernel
theorem zd_M_ofBestCut_9 : decode zc_M_ofBestCut 9 = .ok (.iload_n 3, 1) := by decide +kernel
theorem zd_M_ofBestCut_10 : decode zc_M_ofBestCut 10 = .ok (.if_icmp .ge 62, 3) := by decide +kernel
theorem zd_M_ofBestCut_13 : decode zc_M_ofBestCut 13 = .ok (.aload_n 1, 1) := by decide +kernel
theorem zd_M_ofBestCut_14 : decode zc_M_ofBestCut 14 = .ok (.getfield 22, 3) := by decide +kernel
theorem zd_M_ofBestCut_17 : decode zc_M_ofBestCut 17 = .ok (.iload 6, 2) := by decide +kernel
theorem zd_M_ofBestCut_19 : decode zc_M_ofBestCut 19 = .ok (.iaload, 1) := by decide +kernel
theorem zd_M_ofBestCut_20 : decode zc_M_ofBestCut 20 = .ok (.aload_n 1, 1) := by decide +kernel
theorem zd_M_ofBestCut_21 : decode zc_M_ofBestCut 21 = .ok (.getfield 37, 3) := by decide +kernel
theorem zd_M_ofBestCut_24 : decode zc_M_ofBestCut 24 = .ok (.iload 6, 2) := by decide +kernel
theorem zd_M_ofBestCut_26 : decode zc_M_ofBestCut 26 = .ok (.iaload, 1) := by decide +kernel
theorem zd_M_ofBestCut_27 : decode zc_M_ofBestCut 27 = .ok (.imul, 1) := by decide +kernel
theorem zd_M_ofBestCut_28 : decode zc_M_ofBestCut 28 = .ok (.iload 4, 2) := by decide +kernel
theorem zd_M_ofBestCut_30 : decode zc_M_ofBestCut 30 = .ok (.invokestatic 40, 3) := by decide +kernel
theorem zd_M_ofBestCut_33 : decode zc_M_ofBestCut 33 = .ok (.istore 7, 2) := by decide +kernel
theorem zd_M_ofBestCut_35 : decode zc_M_ofBestCut 35 = .ok (.iload 5, 2) := by decide +kernel
theorem zd_M_ofBestCut_37 : decode zc_M_ofBestCut 37 = .ok (.aload_n 0, 1) := by decide +kernel
theorem zd_M_ofBestCut_38 : decode zc_M_ofBestCut 38 = .ok (.getfield 11, 3) := by decide +kernel
theorem zd_M_ofBestCut_41 : decode zc_M_ofBestCut 41 = .ok (.iload_n 2, 1) := by decide +kernel
theorem zd_M_ofBestCut_42 : decode zc_M_ofBestCut 42 = .ok (.aaload, 1) := by decide +kernel
theorem zd_M_ofBestCut_43 : decode zc_M_ofBestCut 43 = .ok (.iload 6, 2) := by decide +kernel
theorem zd_M_ofBestCut_45 : decode zc_M_ofBestCut 45 = .ok (.iaload, 1) := by decide +kernel
theorem zd_M_ofBestCut_46 : decode zc_M_ofBestCut 46 = .ok (.aload_n 0, 1) := by decide +kernel
theorem zd_M_ofBestCut_47 : decode zc_M_ofBestCut 47 = .ok (.getfield 11, 3) := by decide +kernel
theorem zd_M_ofBestCut_50 : decode zc_M_ofBestCut 50 = .ok (.iload 6, 2) := by decide +kernel
theorem zd_M_ofBestCut_52 : decode zc_M_ofBestCut 52 = .ok (.iconst 1, 1) := by decide +kernel
theorem zd_M_ofBestCut_53 : decode zc_M_ofBestCut 53 = .ok (.iadd, 1) := by decide +kernel
theorem zd_M_ofBestCut_54 : decode zc_M_ofBestCut 54 = .ok (.aaload, 1) := by decide +kernel
theorem zd_M_ofBestCut_55 : decode zc_M_ofBestCut 55 = .ok (.iload_n 3, 1) := by decide +kernel
theorem zd_M_ofBestCut_56 : decode zc_M_ofBestCut 56 = .ok (.iaload, 1) := by decide +kernel
theorem zd_M_ofBestCut_57 : decode zc_M_ofBestCut 57 = .ok (.iadd, 1) := by decide +kernel
theorem zd_M_ofBestCut_58 : decode zc_M_ofBestCut 58 = .ok (.iload 7, 2) := by decide +kernel
theorem zd_M_ofBestCut_60 : decode zc_M_ofBestCut 60 = .ok (.iadd, 1) := by decide +kernel
theorem zd_M_ofBestCut_61 : decode zc_M_ofBestCut 61 = .ok (.invokestatic 43, 3) := by decide +kernel
theorem zd_M_ofBestCut_64 : decode zc_M_ofBestCut 64 = .ok (.istore 5, 2) := by decide +kernel
theorem zd_M_ofBestCut_66 : decode zc_M_ofBestCut 66 = .ok (.iinc 6 1, 3) := by decide +kernel
theorem zd_M_ofBestCut_69 : decode zc_M_ofBestCut 69 = .ok (.goto (-62), 3) := by decide +kernel
theorem zd_M_ofBestCut_72 : decode zc_M_ofBestCut 72 = .ok (.iload 5, 2) := by decide +kernel
theorem zd_M_ofBestCut_74 : decode zc_M_ofBestCut 74 = .ok (.ireturn, 1) := by decide +kernel
end
section
theorem zd_X_init_0 : decode zc_X_init 0 = .ok (.aload_n 0, 1) := by decide +kernel
theorem zd_X_init_1 : decode zc_X_init 1 = .ok (.invokespecial 1, 3) := by decide +kernel
theorem zd_X_init_4 : decode zc_X_init 4 = .ok (.aload_n 0, 1) := by decide +kernel
theorem zd_X_init_5 : decode zc_X_init 5 = .ok (.iconst 1, 1) := by decide +kernel
theorem zd_X_init_6 : decode zc_X_init 6 = .ok (.putfield 7, 3) := by decide +kernel
theorem zd_X_init_9 : decode zc_X_init 9 = .ok (.aload_n 0, 1) := by decide +kernel
theorem zd_X_init_10 : decode zc_X_init 10 = .ok (.bipush 8, 2) := by decide +kernel
theorem zd_X_init_12 : decode zc_X_init 12 = .ok (.newarray .int, 2) := by decide +kernel
theorem zd_X_init_14 : decode zc_X_init 14 = .ok (.dup, 1) := by decide +kernel
theorem zd_X_init_15 : decode zc_X_init 15 = .ok (.iconst 0, 1) := by decide +kernel
theorem zd_X_init_16 : decode zc_X_init 16 = .ok (.iconst 1, 1) := by decide +kernel
theorem zd_X_init_17 : decode zc_X_init 17 = .ok (.iastore, 1) := by decide +kernel
theorem zd_X_init_18 : decode zc_X_init 18 = .ok (.dup, 1) := by decide +kernel
theorem zd_X_init_19 : decode zc_X_init 19 = .ok (.iconst 1, 1) := by decide +kernel
theorem zd_X_init_20 : decode zc_X_init 20 = .ok (.iconst 1, 1) := by decide +kernel
theorem zd_X_init_21 : decode zc_X_init 21 = .ok (.iastore, 1) := by decide +kernel
theorem zd_X_init_22 : decode zc_X_init 22 = .ok (.dup, 1) := by decide +kernel
theorem zd_X_init_23 : decode zc_X_init 23 = .ok (.iconst 2, 1) := by decide +kernel
theorem zd_X_init_24 : decode zc_X_init 24 = .ok (.iconst 1, 1) := by decide +kernel
theorem zd_X_init_25 : decode zc_X_init 25 = .ok (.iastore, 1) := by decide +kernel
theorem zd_X_init_26 : decode zc_X_init 26 = .ok (.dup, 1) := by decide +kernel
theorem zd_X_init_27 : decode zc_X_init 27 = .ok (.iconst 3, 1) := by decide +kernel
theorem zd_X_init_28 : decode zc_X_init 28 = .ok (.iconst 1, 1) := by decide +kernel
theorem zd_X_init_29 : decode zc_X_init 29 = .ok (.iastore, 1) := by decide +kernel
theorem zd_X_init_30 : decode zc_X_init 30 = .ok (.dup, 1) := by decide +kernel
theorem zd_X_init_31 : decode zc_X_init 31 = .ok (.iconst 4, 1) := by decide +kernel
theorem zd_X_init_32 : decode zc_X_init 32 = .ok (.iconst 1, 1) := by decide +kernel
theorem zd_X_init_33 : decode zc_X_init 33 = .ok (.iastore, 1) := by decide +kernel
theorem zd_X_init_34 : decode zc_X_init 34 = .ok (.dup, 1) := by decide +kernel
theorem zd_X_init_35 : decode zc_X_init 35 = .ok (.iconst 5, 1) := by decide +kernel
theorem zd_X_init_36 : decode zc_X_init 36 = .ok (.iconst 1, 1) := by decide +kernel
theorem zd_X_init_37 : decode zc_X_init 37 = .ok (.iastore, 1) := by decide +kernel
theorem zd_X_init_38 : decode zc_X_init 38 = .ok (.dup, 1) := by decide +kernel
theorem zd_X_init_39 : decode zc_X_init 39 = .ok (.bipush 6, 2) := by decide +kernel
theorem zd_X_init_41 : decode zc_X_init 41 = .ok (.iconst 1, 1) := by decide +kernel
theorem zd_X_init_42 : decode zc_X_init 42 = .ok (.iastore, 1) := by decide +kernel
theorem zd_X_init_43 : decode zc_X_init 43 = .ok (.dup, 1) := by decide +kernel
theorem zd_X_init_44 : decode zc_X_init 44 = .ok (.bipush 7, 2) := by decide +kernel
theorem zd_X_init_46 : decode zc_X_init 46 = .ok (.iconst 1, 1) := by decide +kernel
theorem zd_X_init_47 : decode zc_X_init 47 = .ok (.iastore, 1) := by decide +kernel
theorem zd_X_init_48 : decode zc_X_init 48 = .ok (.putfield 13, 3) := by decide +kernel
theorem zd_X_init_51 : decode zc_X_init 51 = .ok (.aload_n 0, 1) := by decide +kernel
theorem zd_X_init_52 : decode zc_X_init 52 = .ok (.bipush 14, 2) := by decide +kernel
theorem zd_X_init_54 : decode zc_X_init 54 = .ok (.newarray .int, 2) := by decide +kernel
theorem zd_X_init_56 : decode zc_X_init 56 = .ok (.putfield 17, 3) := by decide +kernel
theorem zd_X_init_59 : decode zc_X_init 59 = .ok (.aload_n 0, 1) := by decide +kernel
theorem zd_X_init_60 : decode zc_X_init 60 = .ok (.bipush 14, 2) := by decide +kernel
theorem zd_X_init_62 : decode zc_X_init 62 = .ok (.newarray .int, 2) := by decide +kernel
theorem zd_X_init_64 : decode zc_X_init 64 = .ok (.putfield 20, 3) := by decide +kernel
theorem zd_X_init_67 : decode zc_X_init 67 = .ok (.aload_n 0, 1) := by decide +kernel
theorem zd_X_init_68 : decode zc_X_init 68 = .ok (.bipush 14, 2) := by decide +kernel
theorem zd_X_init_70 : decode zc_X_init 70 = .ok (.newarray .int, 2) := by decide +kernel
theorem zd_X_init_72 : decode zc_X_init 72 = .ok (.putfield 23, 3) := by decide +kernel
theorem zd_X_init_75 : decode zc_X_init 75 = .ok (.aload_n 0, 1) := by decide +kernel
theorem zd_X_init_76 : decode zc_X_init 76 = .ok (.bipush 14, 2) := by decide +kernel
theorem zd_X_init_78 : decode zc_X_init 78 = .ok (.newarray .int, 2) := by decide +kernel
theorem zd_X_init_80 : decode zc_X_init 80 = .ok (.putfield 26, 3) := by decide +kernel
theorem zd_X_init_83 : decode zc_X_init 83 = .ok (.aload_n 0, 1) := by decide +kernel
theorem zd_X_init_84 : decode zc_X_init 84 = .ok (.bipush 14, 2) := by decide +kernel
theorem zd_X_init_86 : decode zc_X_init 86 = .ok (.newarray .int, 2) := by decide +kernel
theorem zd_X_init_88 : decode zc_X_init 88 = .ok (.putfield 29, 3) := by decide +kernel
theorem zd_X_init_91 : decode zc_X_init 91 = .ok (.aload_n 0, 1) := by decide +kernel
theorem zd_X_init_92 : decode zc_X_init 92 = .ok (.bipush 8, 2) := by decide +kernel
theorem zd_X_init_94 : decode zc_X_init 94 = .ok (.newarray .int, 2) := by decide +kernel
theorem zd_X_init_96 : decode zc_X_init 96 = .ok (.putfield 32, 3) := by decide +kernel
theorem zd_X_init_99 : decode zc_X_init 99 = .ok (.aload_n 0, 1) := by decide +kernel
theorem zd_X_init_100 : decode zc_X_init 100 = .ok (.bipush 8, 2) := by decide +kernel
theorem zd_X_init_102 : decode zc_X_init 102 = .ok (.newarray .long, 2) := by decide +kernel
theorem zd_X_init_104 : decode zc_X_init 104 = .ok (.putfield 35, 3) := by decide +kernel
theorem zd_X_init_107 : decode zc_X_init 107 = .ok (.aload_n 0, 1) := by decide +kernel
theorem zd_X_init_108 : decode zc_X_init 108 = .ok (.bipush 8, 2) := by decide +kernel
theorem zd_X_init_110 : decode zc_X_init 110 = .ok (.newarray .long, 2) := by decide +kernel
theorem zd_X_init_112 : decode zc_X_init 112 = .ok (.putfield 39, 3) := by decide +kernel
theorem zd_X_init_115 : decode zc_X_init 115 = .ok (.aload_n 0, 1) := by decide +kernel
theorem zd_X_init_116 : decode zc_X_init 116 = .ok (.bipush 8, 2) := by decide +kernel
theorem zd_X_init_118 : decode zc_X_init 118 = .ok (.newarray .int, 2) := by decide +kernel
theorem zd_X_init_120 : decode zc_X_init 120 = .ok (.putfield 42, 3) := by decide +kernel
theorem zd_X_init_123 : decode zc_X_init 123 = .ok (.aload_n 0, 1) := by decide +kernel
theorem zd_X_init_124 : decode zc_X_init 124 = .ok (.bipush 8, 2) := by decide +kernel
theorem zd_X_init_126 : decode zc_X_init 126 = .ok (.newarray .int, 2) := by decide +kernel
theorem zd_X_init_128 : decode zc_X_init 128 = .ok (.putfield 45, 3) := by decide +kernel
theorem zd_X_init_131 : decode zc_X_init 131 = .ok (.aload_n 0, 1) := by decide +kernel
theorem zd_X_init_132 : decode zc_X_init 132 = .ok (.bipush 14, 2) := by decide +kernel
theorem zd_X_init_134 : decode zc_X_init 134 = .ok (.newarray .int, 2) := by decide +kernel
theorem zd_X_init_136 : decode zc_X_init 136 = .ok (.putfield 48, 3) := by decide +kernel
theorem zd_X_init_139 : decode zc_X_init 139 = .ok (.aload_n 0, 1) := by decide +kernel
theorem zd_X_init_140 : decode zc_X_init 140 = .ok (.bipush 14, 2) := by decide +kernel
theorem zd_X_init_142 : decode zc_X_init 142 = .ok (.newarray .int, 2) := by decide +kernel
theorem zd_X_init_144 : decode zc_X_init 144 = .ok (.putfield 51, 3) := by decide +kernel
theorem zd_X_init_147 : decode zc_X_init 147 = .ok (.aload_n 0, 1) := by decide +kernel
theorem zd_X_init_148 : decode zc_X_init 148 = .ok (.sipush 400, 3) := by decide +kernel
theorem zd_X_init_151 : decode zc_X_init 151 = .ok (.newarray .int, 2) := by decide +kernel
theorem zd_X_init_153 : decode zc_X_init 153 = .ok (.putfield 54, 3) := by decide +kernel
theorem zd_X_init_156 : decode zc_X_init 156 = .ok (.aload_n 0, 1) := by decide +kernel
theorem zd_X_init_157 : decode zc_X_init 157 = .ok (.bipush 8, 2) := by decide +kernel
theorem zd_X_init_159 : decode zc_X_init 159 = .ok (.newarray .boolean, 2) := by decide +kernel
theorem zd_X_init_161 : decode zc_X_init 161 = .ok (.putfield 57, 3) := by decide +kernel
theorem zd_X_init_164 : decode zc_X_init 164 = .ok (.aload_n 0, 1) := by decide +kernel
theorem zd_X_init_165 : decode zc_X_init 165 = .ok (.bipush 8, 2) := by decide +kernel
theorem zd_X_init_167 : decode zc_X_init 167 = .ok (.newarray .int, 2) := by decide +kernel
theorem zd_X_init_169 : decode zc_X_init 169 = .ok (.putfield 61, 3) := by decide +kernel
theorem zd_X_init_172 : decode zc_X_init 172 = .ok (.aload_n 0, 1) := by decide +kernel
theorem zd_X_init_173 : decode zc_X_init 173 = .ok (.sipush 700, 3) := by decide +kernel
theorem zd_X_init_176 : decode zc_X_init 176 = .ok (.newarray .int, 2) := by decide +kernel
theorem zd_X_init_178 : decode zc_X_init 178 = .ok (.putfield 64, 3) := by decide +kernel
theorem zd_X_init_181 : decode zc_X_init 181 = .ok (.aload_n 0, 1) := by decide +kernel
theorem zd_X_init_182 : decode zc_X_init 182 = .ok (.sipush 700, 3) := by decide +kernel
theorem zd_X_init_185 : decode zc_X_init 185 = .ok (.newarray .int, 2) := by decide +kernel
theorem zd_X_init_187 : decode zc_X_init 187 = .ok (.putfield 67, 3) := by decide +kernel
theorem zd_X_init_190 : decode zc_X_init 190 = .ok (.aload_n 0, 1) := by decide +kernel
theorem zd_X_init_191 : decode zc_X_init 191 = .ok (.sipush 700, 3) := by decide +kernel
theorem zd_X_init_194 : decode zc_X_init 194 = .ok (.newarray .int, 2) := by decide +kernel
theorem zd_X_init_196 : decode zc_X_init 196 = .ok (.putfield 70, 3) := by decide +kernel
theorem zd_X_init_199 : decode zc_X_init 199 = .ok (.aload_n 0, 1) := by decide +kernel
theorem zd_X_init_200 : decode zc_X_init 200 = .ok (.sipush 700, 3) := by decide +kernel
theorem zd_X_init_203 : decode zc_X_init 203 = .ok (.newarray .int, 2) := by decide +kernel
theorem zd_X_init_205 : decode zc_X_init 205 = .ok (.putfield 73, 3) := by decide +kernel
theorem zd_X_init_208 : decode zc_X_init 208 = .ok (.aload_n 0, 1) := by decide +kernel
theorem zd_X_init_209 : decode zc_X_init 209 = .ok (.bipush 40, 2) := by decide +kernel
theorem zd_X_init_211 : decode zc_X_init 211 = .ok (.newarray .long, 2) := by decide +kernel
theorem zd_X_init_213 : decode zc_X_init 213 = .ok (.putfield 76, 3) := by decide +kernel
theorem zd_X_init_216 : decode zc_X_init 216 = .ok (.aload_n 0, 1) := by decide +kernel
theorem zd_X_init_217 : decode zc_X_init 217 = .ok (.bipush 64, 2) := by decide +kernel
theorem zd_X_init_219 : decode zc_X_init 219 = .ok (.newarray .int, 2) := by decide +kernel
theorem zd_X_init_221 : decode zc_X_init 221 = .ok (.putfield 79, 3) := by decide +kernel
theorem zd_X_init_224 : decode zc_X_init 224 = .ok (.return_, 1) := by decide +kernel
theorem zd_X_thrown_0 : decode zc_X_thrown 0 = .ok (.aload_n 0, 1) := by decide +kernel
theorem zd_X_thrown_1 : decode zc_X_thrown 1 = .ok (.getfield 82, 3) := by decide +kernel
theorem zd_X_thrown_4 : decode zc_X_thrown 4 = .ok (.ireturn, 1) := by decide +kernel
theorem zd_X_in_0 : decode zc_X_in 0 = .ok (.iload_n 0, 1) := by decide +kernel
theorem zd_X_in_1 : decode zc_X_in 1 = .ok (.iload_n 1, 1) := by decide +kernel
theorem zd_X_in_2 : decode zc_X_in 2 = .ok (.if_icmp .lt 12, 3) := by decide +kernel
theorem zd_X_in_5 : decode zc_X_in 5 = .ok (.iload_n 0, 1) := by decide +kernel
theorem zd_X_in_6 : decode zc_X_in 6 = .ok (.iload_n 2, 1) := by decide +kernel
theorem zd_X_in_7 : decode zc_X_in 7 = .ok (.if_icmp .gt 7, 3) := by decide +kernel
theorem zd_X_in_10 : decode zc_X_in 10 = .ok (.iconst 1, 1) := by decide +kernel
theorem zd_X_in_11 : decode zc_X_in 11 = .ok (.goto 4, 3) := by decide +kernel
theorem zd_X_in_14 : decode zc_X_in 14 = .ok (.iconst 0, 1) := by decide +kernel
theorem zd_X_in_15 : decode zc_X_in 15 = .ok (.ireturn, 1) := by decide +kernel
theorem zd_X_raise_0 : decode zc_X_raise 0 = .ok (.aload_n 0, 1) := by decide +kernel
theorem zd_X_raise_1 : decode zc_X_raise 1 = .ok (.iload_n 1, 1) := by decide +kernel
theorem zd_X_raise_2 : decode zc_X_raise 2 = .ok (.putfield 82, 3) := by decide +kernel
theorem zd_X_raise_5 : decode zc_X_raise 5 = .ok (.iconst 0, 1) := by decide +kernel
theorem zd_X_raise_6 : decode zc_X_raise 6 = .ok (.ireturn, 1) := by decide +kernel
theorem zd_X_graph_0 : decode zc_X_graph 0 = .ok (.aload_n 0, 1) := by decide +kernel
theorem zd_X_graph_1 : decode zc_X_graph 1 = .ok (.iconst 0, 1) := by decide +kernel
theorem zd_X_graph_2 : decode zc_X_graph 2 = .ok (.putfield 82, 3) := by decide +kernel
theorem zd_X_graph_5 : decode zc_X_graph 5 = .ok (.iload_n 1, 1) := by decide +kernel
theorem zd_X_graph_6 : decode zc_X_graph 6 = .ok (.iconst 1, 1) := by decide +kernel
theorem zd_X_graph_7 : decode zc_X_graph 7 = .ok (.bipush 8, 2) := by decide +kernel
theorem zd_X_graph_9 : decode zc_X_graph 9 = .ok (.invokestatic 85, 3) := by decide +kernel
theorem zd_X_graph_12 : decode zc_X_graph 12 = .ok (.ifCond .ne 5, 3) := by decide +kernel
theorem zd_X_graph_15 : decode zc_X_graph 15 = .ok (.iconst 0, 1) := by decide +kernel
theorem zd_X_graph_16 : decode zc_X_graph 16 = .ok (.ireturn, 1) := by decide +kernel
theorem zd_X_graph_17 : decode zc_X_graph 17 = .ok (.aload_n 0, 1) := by decide +kernel
theorem zd_X_graph_18 : decode zc_X_graph 18 = .ok (.iload_n 1, 1) := by decide +kernel
theorem zd_X_graph_19 : decode zc_X_graph 19 = .ok (.putfield 7, 3) := by decide +kernel
theorem zd_X_graph_22 : decode zc_X_graph 22 = .ok (.aload_n 0, 1) := by decide +kernel
theorem zd_X_graph_23 : decode zc_X_graph 23 = .ok (.iconst 0, 1) := by decide +kernel
theorem zd_X_graph_24 : decode zc_X_graph 24 = .ok (.putfield 89, 3) := by decide +kernel
theorem zd_X_graph_27 : decode zc_X_graph 27 = .ok (.iconst 0, 1) := by decide +kernel
theorem zd_X_graph_28 : decode zc_X_graph 28 = .ok (.istore_n 2, 1) := by decide +kernel
theorem zd_X_graph_29 : decode zc_X_graph 29 = .ok (.iload_n 2, 1) := by decide +kernel
theorem zd_X_graph_30 : decode zc_X_graph 30 = .ok (.bipush 8, 2) := by decide +kernel
theorem zd_X_graph_32 : decode zc_X_graph 32 = .ok (.if_icmp .ge 16, 3) := by decide +kernel
theorem zd_X_graph_35 : decode zc_X_graph 35 = .ok (.aload_n 0, 1) := by decide +kernel
theorem zd_X_graph_36 : decode zc_X_graph 36 = .ok (.getfield 13, 3) := by decide +kernel
theorem zd_X_graph_39 : decode zc_X_graph 39 = .ok (.iload_n 2, 1) := by decide +kernel
theorem zd_X_graph_40 : decode zc_X_graph 40 = .ok (.iconst 1, 1) := by decide +kernel
theorem zd_X_graph_41 : decode zc_X_graph 41 = .ok (.iastore, 1) := by decide +kernel
theorem zd_X_graph_42 : decode zc_X_graph 42 = .ok (.iinc 2 1, 3) := by decide +kernel
theorem zd_X_graph_45 : decode zc_X_graph 45 = .ok (.goto (-16), 3) := by decide +kernel
theorem zd_X_graph_48 : decode zc_X_graph 48 = .ok (.aload_n 0, 1) := by decide +kernel
theorem zd_X_graph_49 : decode zc_X_graph 49 = .ok (.iconst 0, 1) := by decide +kernel
theorem zd_X_graph_50 : decode zc_X_graph 50 = .ok (.putfield 92, 3) := by decide +kernel
theorem zd_X_graph_53 : decode zc_X_graph 53 = .ok (.iconst 1, 1) := by decide +kernel
theorem zd_X_graph_54 : decode zc_X_graph 54 = .ok (.ireturn, 1) := by decide +kernel
theorem zd_X_time_0 : decode zc_X_time 0 = .ok (.aload_n 0, 1) := by decide +kernel
theorem zd_X_time_1 : decode zc_X_time 1 = .ok (.iconst 0, 1) := by decide +kernel
theorem zd_X_time_2 : decode zc_X_time 2 = .ok (.putfield 82, 3) := by decide +kernel
theorem zd_X_time_5 : decode zc_X_time 5 = .ok (.iload_n 1, 1) := by decide +kernel
theorem zd_X_time_6 : decode zc_X_time 6 = .ok (.iconst 0, 1) := by decide +kernel
theorem zd_X_time_7 : decode zc_X_time 7 = .ok (.aload_n 0, 1) := by decide +kernel
theorem zd_X_time_8 : decode zc_X_time 8 = .ok (.getfield 7, 3) := by decide +kernel
theorem zd_X_time_11 : decode zc_X_time 11 = .ok (.iconst 1, 1) := by decide +kernel
theorem zd_X_time_12 : decode zc_X_time 12 = .ok (.isub, 1) := by decide +kernel
theorem zd_X_time_13 : decode zc_X_time 13 = .ok (.invokestatic 85, 3) := by decide +kernel
theorem zd_X_time_16 : decode zc_X_time 16 = .ok (.ifCond .eq 13, 3) := by decide +kernel
theorem zd_X_time_19 : decode zc_X_time 19 = .ok (.iload_n 2, 1) := by decide +kernel
theorem zd_X_time_20 : decode zc_X_time 20 = .ok (.iconst 1, 1) := by decide +kernel
theorem zd_X_time_21 : decode zc_X_time 21 = .ok (.bipush 9, 2) := by decide +kernel
theorem zd_X_time_23 : decode zc_X_time 23 = .ok (.invokestatic 85, 3) := by decide +kernel
theorem zd_X_time_26 : decode zc_X_time 26 = .ok (.ifCond .ne 5, 3) := by decide +kernel
theorem zd_X_time_29 : decode zc_X_time 29 = .ok (.iconst 0, 1) := by decide +kernel
theorem zd_X_time_30 : decode zc_X_time 30 = .ok (.ireturn, 1) := by decide +kernel
theorem zd_X_time_31 : decode zc_X_time 31 = .ok (.aload_n 0, 1) := by decide +kernel
theorem zd_X_time_32 : decode zc_X_time 32 = .ok (.getfield 13, 3) := by decide +kernel
theorem zd_X_time_35 : decode zc_X_time 35 = .ok (.iload_n 1, 1) := by decide +kernel
theorem zd_X_time_36 : decode zc_X_time 36 = .ok (.iload_n 2, 1) := by decide +kernel
theorem zd_X_time_37 : decode zc_X_time 37 = .ok (.iastore, 1) := by decide +kernel
theorem zd_X_time_38 : decode zc_X_time 38 = .ok (.iconst 1, 1) := by decide +kernel
theorem zd_X_time_39 : decode zc_X_time 39 = .ok (.ireturn, 1) := by decide +kernel
theorem zd_X_channel_0 : decode zc_X_channel 0 = .ok (.aload_n 0, 1) := by decide +kernel
theorem zd_X_channel_1 : decode zc_X_channel 1 = .ok (.iconst 0, 1) := by decide +kernel
theorem zd_X_channel_2 : decode zc_X_channel 2 = .ok (.putfield 82, 3) := by decide +kernel
theorem zd_X_channel_5 : decode zc_X_channel 5 = .ok (.iload_n 1, 1) := by decide +kernel
theorem zd_X_channel_6 : decode zc_X_channel 6 = .ok (.iconst 0, 1) := by decide +kernel
theorem zd_X_channel_7 : decode zc_X_channel 7 = .ok (.aload_n 0, 1) := by decide +kernel
theorem zd_X_channel_8 : decode zc_X_channel 8 = .ok (.getfield 7, 3) := by decide +kernel
theorem zd_X_channel_11 : decode zc_X_channel 11 = .ok (.iconst 1, 1) := by decide +kernel
theorem zd_X_channel_12 : decode zc_X_channel 12 = .ok (.isub, 1) := by decide +kernel
theorem zd_X_channel_13 : decode zc_X_channel 13 = .ok (.invokestatic 85, 3) := by decide +kernel
theorem zd_X_channel_16 : decode zc_X_channel 16 = .ok (.ifCond .eq 58, 3) := by decide +kernel
theorem zd_X_channel_19 : decode zc_X_channel 19 = .ok (.iload_n 2, 1) := by decide +kernel
theorem zd_X_channel_20 : decode zc_X_channel 20 = .ok (.iconst 0, 1) := by decide +kernel
theorem zd_X_channel_21 : decode zc_X_channel 21 = .ok (.aload_n 0, 1) := by decide +kernel
theorem zd_X_channel_22 : decode zc_X_channel 22 = .ok (.getfield 7, 3) := by decide +kernel
theorem zd_X_channel_25 : decode zc_X_channel 25 = .ok (.iconst 1, 1) := by decide +kernel
theorem zd_X_channel_26 : decode zc_X_channel 26 = .ok (.isub, 1) := by decide +kernel
theorem zd_X_channel_27 : decode zc_X_channel 27 = .ok (.invokestatic 85, 3) := by decide +kernel
theorem zd_X_channel_30 : decode zc_X_channel 30 = .ok (.ifCond .eq 44, 3) := by decide +kernel
theorem zd_X_channel_33 : decode zc_X_channel 33 = .ok (.iload_n 3, 1) := by decide +kernel
theorem zd_X_channel_34 : decode zc_X_channel 34 = .ok (.iconst 1, 1) := by decide +kernel
theorem zd_X_channel_35 : decode zc_X_channel 35 = .ok (.bipush 9, 2) := by decide +kernel
theorem zd_X_channel_37 : decode zc_X_channel 37 = .ok (.invokestatic 85, 3) := by decide +kernel
theorem zd_X_channel_40 : decode zc_X_channel 40 = .ok (.ifCond .eq 34, 3) := by decide +kernel
theorem zd_X_channel_43 : decode zc_X_channel 43 = .ok (.iload 4, 2) := by decide +kernel
theorem zd_X_channel_45 : decode zc_X_channel 45 = .ok (.iconst 1, 1) := by decide +kernel
theorem zd_X_channel_46 : decode zc_X_channel 46 = .ok (.bipush 9, 2) := by decide +kernel
theorem zd_X_channel_48 : decode zc_X_channel 48 = .ok (.invokestatic 85, 3) := by decide +kernel
theorem zd_X_channel_51 : decode zc_X_channel 51 = .ok (.ifCond .eq 23, 3) := by decide +kernel
theorem zd_X_channel_54 : decode zc_X_channel 54 = .ok (.iload 5, 2) := by decide +kernel
theorem zd_X_channel_56 : decode zc_X_channel 56 = .ok (.iconst 0, 1) := by decide +kernel
theorem zd_X_channel_57 : decode zc_X_channel 57 = .ok (.bipush 99, 2) := by decide +kernel
theorem zd_X_channel_59 : decode zc_X_channel 59 = .ok (.invokestatic 85, 3) := by decide +kernel
theorem zd_X_channel_62 : decode zc_X_channel 62 = .ok (.ifCond .eq 12, 3) := by decide +kernel
theorem zd_X_channel_65 : decode zc_X_channel 65 = .ok (.aload_n 0, 1) := by decide +kernel
theorem zd_X_channel_66 : decode zc_X_channel 66 = .ok (.getfield 89, 3) := by decide +kernel
theorem zd_X_channel_69 : decode zc_X_channel 69 = .ok (.bipush 14, 2) := by decide +kernel
theorem zd_X_channel_71 : decode zc_X_channel 71 = .ok (.if_icmp .ne 5, 3) := by decide +kernel
theorem zd_X_channel_74 : decode zc_X_channel 74 = .ok (.iconst (-1), 1) := by decide +kernel
theorem zd_X_channel_75 : decode zc_X_channel 75 = .ok (.ireturn, 1) := by decide +kernel
theorem zd_X_channel_76 : decode zc_X_channel 76 = .ok (.aload_n 0, 1) := by decide +kernel
theorem zd_X_channel_77 : decode zc_X_channel 77 = .ok (.getfield 17, 3) := by decide +kernel
theorem zd_X_channel_80 : decode zc_X_channel 80 = .ok (.aload_n 0, 1) := by decide +kernel
theorem zd_X_channel_81 : decode zc_X_channel 81 = .ok (.getfield 89, 3) := by decide +kernel
theorem zd_X_channel_84 : decode zc_X_channel 84 = .ok (.iload_n 1, 1) := by decide +kernel
theorem zd_X_channel_85 : decode zc_X_channel 85 = .ok (.iastore, 1) := by decide +kernel
theorem zd_X_channel_86 : decode zc_X_channel 86 = .ok (.aload_n 0, 1) := by decide +kernel
theorem zd_X_channel_87 : decode zc_X_channel 87 = .ok (.getfield 20, 3) := by decide +kernel
theorem zd_X_channel_90 : decode zc_X_channel 90 = .ok (.aload_n 0, 1) := by decide +kernel
theorem zd_X_channel_91 : decode zc_X_channel 91 = .ok (.getfield 89, 3) := by decide +kernel
theorem zd_X_channel_94 : decode zc_X_channel 94 = .ok (.iload_n 2, 1) := by decide +kernel
theorem zd_X_channel_95 : decode zc_X_channel 95 = .ok (.iastore, 1) := by decide +kernel
theorem zd_X_channel_96 : decode zc_X_channel 96 = .ok (.aload_n 0, 1) := by decide +kernel
theorem zd_X_channel_97 : decode zc_X_channel 97 = .ok (.getfield 23, 3) := by decide +kernel
theorem zd_X_channel_100 : decode zc_X_channel 100 = .ok (.aload_n 0, 1) := by decide +kernel
theorem zd_X_channel_101 : decode zc_X_channel 101 = .ok (.getfield 89, 3) := by decide +kernel
theorem zd_X_channel_104 : decode zc_X_channel 104 = .ok (.iload_n 3, 1) := by decide +kernel
theorem zd_X_channel_105 : decode zc_X_channel 105 = .ok (.iastore, 1) := by decide +kernel
theorem zd_X_channel_106 : decode zc_X_channel 106 = .ok (.aload_n 0, 1) := by decide +kernel
theorem zd_X_channel_107 : decode zc_X_channel 107 = .ok (.getfield 26, 3) := by decide +kernel
theorem zd_X_channel_110 : decode zc_X_channel 110 = .ok (.aload_n 0, 1) := by decide +kernel
theorem zd_X_channel_111 : decode zc_X_channel 111 = .ok (.getfield 89, 3) := by decide +kernel
theorem zd_X_channel_114 : decode zc_X_channel 114 = .ok (.iload 4, 2) := by decide +kernel
theorem zd_X_channel_116 : decode zc_X_channel 116 = .ok (.iastore, 1) := by decide +kernel
theorem zd_X_channel_117 : decode zc_X_channel 117 = .ok (.aload_n 0, 1) := by decide +kernel
theorem zd_X_channel_118 : decode zc_X_channel 118 = .ok (.getfield 29, 3) := by decide +kernel
theorem zd_X_channel_121 : decode zc_X_channel 121 = .ok (.aload_n 0, 1) := by decide +kernel
theorem zd_X_channel_122 : decode zc_X_channel 122 = .ok (.getfield 89, 3) := by decide +kernel
theorem zd_X_channel_125 : decode zc_X_channel 125 = .ok (.iload 5, 2) := by decide +kernel
theorem zd_X_channel_127 : decode zc_X_channel 127 = .ok (.iastore, 1) := by decide +kernel
theorem zd_X_channel_128 : decode zc_X_channel 128 = .ok (.aload_n 0, 1) := by decide +kernel
theorem zd_X_channel_129 : decode zc_X_channel 129 = .ok (.dup, 1) := by decide +kernel
theorem zd_X_channel_130 : decode zc_X_channel 130 = .ok (.getfield 89, 3) := by decide +kernel
theorem zd_X_channel_133 : decode zc_X_channel 133 = .ok (.iconst 1, 1) := by decide +kernel
theorem zd_X_channel_134 : decode zc_X_channel 134 = .ok (.iadd, 1) := by decide +kernel
theorem zd_X_channel_135 : decode zc_X_channel 135 = .ok (.putfield 89, 3) := by decide +kernel
theorem zd_X_channel_138 : decode zc_X_channel 138 = .ok (.aload_n 0, 1) := by decide +kernel
theorem zd_X_channel_139 : decode zc_X_channel 139 = .ok (.iconst 0, 1) := by decide +kernel
theorem zd_X_channel_140 : decode zc_X_channel 140 = .ok (.putfield 92, 3) := by decide +kernel
theorem zd_X_channel_143 : decode zc_X_channel 143 = .ok (.aload_n 0, 1) := by decide +kernel
theorem zd_X_channel_144 : decode zc_X_channel 144 = .ok (.getfield 89, 3) := by decide +kernel
theorem zd_X_channel_147 : decode zc_X_channel 147 = .ok (.iconst 1, 1) := by decide +kernel
theorem zd_X_channel_148 : decode zc_X_channel 148 = .ok (.isub, 1) := by decide +kernel
theorem zd_X_channel_149 : decode zc_X_channel 149 = .ok (.ireturn, 1) := by decide +kernel
theorem zd_X_divisor_0 : decode zc_X_divisor 0 = .ok (.lload_n 0, 1) := by decide +kernel
theorem zd_X_divisor_1 : decode zc_X_divisor 1 = .ok (.lstore 4, 2) := by decide +kernel
theorem zd_X_divisor_3 : decode zc_X_divisor 3 = .ok (.lload_n 2, 1) := by decide +kernel
theorem zd_X_divisor_4 : decode zc_X_divisor 4 = .ok (.lstore 6, 2) := by decide +kernel
theorem zd_X_divisor_6 : decode zc_X_divisor 6 = .ok (.lload 6, 2) := by decide +kernel
theorem zd_X_divisor_8 : decode zc_X_divisor 8 = .ok (.lconst 0, 1) := by decide +kernel
theorem zd_X_divisor_9 : decode zc_X_divisor 9 = .ok (.lcmp, 1) := by decide +kernel
theorem zd_X_divisor_10 : decode zc_X_divisor 10 = .ok (.ifCond .eq 21, 3) := by decide +kernel
theorem zd_X_divisor_13 : decode zc_X_divisor 13 = .ok (.lload 4, 2) := by decide +kernel
theorem zd_X_divisor_15 : decode zc_X_divisor 15 = .ok (.lload 6, 2) := by decide +kernel
theorem zd_X_divisor_17 : decode zc_X_divisor 17 = .ok (.lrem, 1) := by decide +kernel
theorem zd_X_divisor_18 : decode zc_X_divisor 18 = .ok (.lstore 8, 2) := by decide +kernel
theorem zd_X_divisor_20 : decode zc_X_divisor 20 = .ok (.lload 6, 2) := by decide +kernel
theorem zd_X_divisor_22 : decode zc_X_divisor 22 = .ok (.lstore 4, 2) := by decide +kernel
theorem zd_X_divisor_24 : decode zc_X_divisor 24 = .ok (.lload 8, 2) := by decide +kernel
theorem zd_X_divisor_26 : decode zc_X_divisor 26 = .ok (.lstore 6, 2) := by decide +kernel
theorem zd_X_divisor_28 : decode zc_X_divisor 28 = .ok (.goto (-22), 3) := by decide +kernel
theorem zd_X_divisor_31 : decode zc_X_divisor 31 = .ok (.lload 4, 2) := by decide +kernel
theorem zd_X_divisor_33 : decode zc_X_divisor 33 = .ok (.lreturn, 1) := by decide +kernel
theorem zd_X_set_0 : decode zc_X_set 0 = .ok (.lload_n 2, 1) := by decide +kernel
theorem zd_X_set_1 : decode zc_X_set 1 = .ok (.lload 4, 2) := by decide +kernel
theorem zd_X_set_3 : decode zc_X_set 3 = .ok (.invokestatic 96, 3) := by decide +kernel
theorem zd_X_set_6 : decode zc_X_set 6 = .ok (.lstore 6, 2) := by decide +kernel
theorem zd_X_set_8 : decode zc_X_set 8 = .ok (.aload_n 0, 1) := by decide +kernel
theorem zd_X_set_9 : decode zc_X_set 9 = .ok (.getfield 35, 3) := by decide +kernel
theorem zd_X_set_12 : decode zc_X_set 12 = .ok (.iload_n 1, 1) := by decide +kernel
theorem zd_X_set_13 : decode zc_X_set 13 = .ok (.lload_n 2, 1) := by decide +kernel
theorem zd_X_set_14 : decode zc_X_set 14 = .ok (.lload 6, 2) := by decide +kernel
theorem zd_X_set_16 : decode zc_X_set 16 = .ok (.ldiv, 1) := by decide +kernel
theorem zd_X_set_17 : decode zc_X_set 17 = .ok (.lastore, 1) := by decide +kernel
theorem zd_X_set_18 : decode zc_X_set 18 = .ok (.aload_n 0, 1) := by decide +kernel
theorem zd_X_set_19 : decode zc_X_set 19 = .ok (.getfield 39, 3) := by decide +kernel
theorem zd_X_set_22 : decode zc_X_set 22 = .ok (.iload_n 1, 1) := by decide +kernel
theorem zd_X_set_23 : decode zc_X_set 23 = .ok (.lload 4, 2) := by decide +kernel
theorem zd_X_set_25 : decode zc_X_set 25 = .ok (.lload 6, 2) := by decide +kernel
theorem zd_X_set_27 : decode zc_X_set 27 = .ok (.ldiv, 1) := by decide +kernel
theorem zd_X_set_28 : decode zc_X_set 28 = .ok (.lastore, 1) := by decide +kernel
theorem zd_X_set_29 : decode zc_X_set 29 = .ok (.return_, 1) := by decide +kernel
theorem zd_X_fits_0 : decode zc_X_fits 0 = .ok (.iconst 0, 1) := by decide +kernel
theorem zd_X_fits_1 : decode zc_X_fits 1 = .ok (.istore_n 2, 1) := by decide +kernel
theorem zd_X_fits_2 : decode zc_X_fits 2 = .ok (.iload_n 2, 1) := by decide +kernel
theorem zd_X_fits_3 : decode zc_X_fits 3 = .ok (.aload_n 0, 1) := by decide +kernel
theorem zd_X_fits_4 : decode zc_X_fits 4 = .ok (.getfield 7, 3) := by decide +kernel
theorem zd_X_fits_7 : decode zc_X_fits 7 = .ok (.if_icmp .ge 16, 3) := by decide +kernel
theorem zd_X_fits_10 : decode zc_X_fits 10 = .ok (.aload_n 0, 1) := by decide +kernel
theorem zd_X_fits_11 : decode zc_X_fits 11 = .ok (.getfield 32, 3) := by decide +kernel
theorem zd_X_fits_14 : decode zc_X_fits 14 = .ok (.iload_n 2, 1) := by decide +kernel
theorem zd_X_fits_15 : decode zc_X_fits 15 = .ok (.iconst (-1), 1) := by decide +kernel
theorem zd_X_fits_16 : decode zc_X_fits 16 = .ok (.iastore, 1) := by decide +kernel
theorem zd_X_fits_17 : decode zc_X_fits 17 = .ok (.iinc 2 1, 3) := by decide +kernel
theorem zd_X_fits_20 : decode zc_X_fits 20 = .ok (.goto (-18), 3) := by decide +kernel
theorem zd_X_fits_23 : decode zc_X_fits 23 = .ok (.iconst 0, 1) := by decide +kernel
theorem zd_X_fits_24 : decode zc_X_fits 24 = .ok (.istore_n 2, 1) := by decide +kernel
theorem zd_X_fits_25 : decode zc_X_fits 25 = .ok (.iload_n 2, 1) := by decide +kernel
theorem zd_X_fits_26 : decode zc_X_fits 26 = .ok (.aload_n 0, 1) := by decide +kernel
theorem zd_X_fits_27 : decode zc_X_fits 27 = .ok (.getfield 7, 3) := by decide +kernel
theorem zd_X_fits_30 : decode zc_X_fits 30 = .ok (.if_icmp .ge 81, 3) := by decide +kernel
theorem zd_X_fits_33 : decode zc_X_fits 33 = .ok (.aload_n 0, 1) := by decide +kernel
theorem zd_X_fits_34 : decode zc_X_fits 34 = .ok (.getfield 32, 3) := by decide +kernel
theorem zd_X_fits_37 : decode zc_X_fits 37 = .ok (.iload_n 2, 1) := by decide +kernel
theorem zd_X_fits_38 : decode zc_X_fits 38 = .ok (.iaload, 1) := by decide +kernel
theorem zd_X_fits_39 : decode zc_X_fits 39 = .ok (.iconst (-1), 1) := by decide +kernel
theorem zd_X_fits_40 : decode zc_X_fits 40 = .ok (.if_icmp .eq 6, 3) := by decide +kernel
theorem zd_X_fits_43 : decode zc_X_fits 43 = .ok (.goto 62, 3) := by decide +kernel
theorem zd_X_fits_46 : decode zc_X_fits 46 = .ok (.aload_n 0, 1) := by decide +kernel
theorem zd_X_fits_47 : decode zc_X_fits 47 = .ok (.getfield 32, 3) := by decide +kernel
theorem zd_X_fits_50 : decode zc_X_fits 50 = .ok (.iload_n 2, 1) := by decide +kernel
theorem zd_X_fits_51 : decode zc_X_fits 51 = .ok (.iload_n 2, 1) := by decide +kernel
theorem zd_X_fits_52 : decode zc_X_fits 52 = .ok (.iastore, 1) := by decide +kernel
theorem zd_X_fits_53 : decode zc_X_fits 53 = .ok (.aload_n 0, 1) := by decide +kernel
theorem zd_X_fits_54 : decode zc_X_fits 54 = .ok (.iload_n 2, 1) := by decide +kernel
theorem zd_X_fits_55 : decode zc_X_fits 55 = .ok (.lconst 1, 1) := by decide +kernel
theorem zd_X_fits_56 : decode zc_X_fits 56 = .ok (.lconst 1, 1) := by decide +kernel
theorem zd_X_fits_57 : decode zc_X_fits 57 = .ok (.invokevirtual 100, 3) := by decide +kernel
theorem zd_X_fits_60 : decode zc_X_fits 60 = .ok (.iconst 1, 1) := by decide +kernel
theorem zd_X_fits_61 : decode zc_X_fits 61 = .ok (.istore_n 3, 1) := by decide +kernel
theorem zd_X_fits_62 : decode zc_X_fits 62 = .ok (.iload_n 3, 1) := by decide +kernel
theorem zd_X_fits_63 : decode zc_X_fits 63 = .ok (.ifCond .eq 42, 3) := by decide +kernel
theorem zd_X_fits_66 : decode zc_X_fits 66 = .ok (.iconst 0, 1) := by decide +kernel
theorem zd_X_fits_67 : decode zc_X_fits 67 = .ok (.istore_n 3, 1) := by decide +kernel
theorem zd_X_fits_68 : decode zc_X_fits 68 = .ok (.iconst 0, 1) := by decide +kernel
theorem zd_X_fits_69 : decode zc_X_fits 69 = .ok (.istore 4, 2) := by decide +kernel
theorem zd_X_fits_71 : decode zc_X_fits 71 = .ok (.iload 4, 2) := by decide +kernel
theorem zd_X_fits_73 : decode zc_X_fits 73 = .ok (.iload_n 1, 1) := by decide +kernel
theorem zd_X_fits_74 : decode zc_X_fits 74 = .ok (.if_icmp .ge 28, 3) := by decide +kernel
theorem zd_X_fits_77 : decode zc_X_fits 77 = .ok (.aload_n 0, 1) := by decide +kernel
theorem zd_X_fits_78 : decode zc_X_fits 78 = .ok (.iload 4, 2) := by decide +kernel
theorem zd_X_fits_80 : decode zc_X_fits 80 = .ok (.invokevirtual 104, 3) := by decide +kernel
theorem zd_X_fits_83 : decode zc_X_fits 83 = .ok (.ifCond .ne 7, 3) := by decide +kernel
theorem zd_X_fits_86 : decode zc_X_fits 86 = .ok (.iload_n 3, 1) := by decide +kernel
theorem zd_X_fits_87 : decode zc_X_fits 87 = .ok (.ifCond .eq 7, 3) := by decide +kernel
theorem zd_X_fits_90 : decode zc_X_fits 90 = .ok (.iconst 1, 1) := by decide +kernel
theorem zd_X_fits_91 : decode zc_X_fits 91 = .ok (.goto 4, 3) := by decide +kernel
theorem zd_X_fits_94 : decode zc_X_fits 94 = .ok (.iconst 0, 1) := by decide +kernel
theorem zd_X_fits_95 : decode zc_X_fits 95 = .ok (.istore_n 3, 1) := by decide +kernel
theorem zd_X_fits_96 : decode zc_X_fits 96 = .ok (.iinc 4 1, 3) := by decide +kernel
theorem zd_X_fits_99 : decode zc_X_fits 99 = .ok (.goto (-28), 3) := by decide +kernel
theorem zd_X_fits_102 : decode zc_X_fits 102 = .ok (.goto (-40), 3) := by decide +kernel
theorem zd_X_fits_105 : decode zc_X_fits 105 = .ok (.iinc 2 1, 3) := by decide +kernel
theorem zd_X_fits_108 : decode zc_X_fits 108 = .ok (.goto (-83), 3) := by decide +kernel
theorem zd_X_fits_111 : decode zc_X_fits 111 = .ok (.iconst 0, 1) := by decide +kernel
theorem zd_X_fits_112 : decode zc_X_fits 112 = .ok (.istore_n 2, 1) := by decide +kernel
theorem zd_X_fits_113 : decode zc_X_fits 113 = .ok (.iload_n 2, 1) := by decide +kernel
theorem zd_X_fits_114 : decode zc_X_fits 114 = .ok (.iload_n 1, 1) := by decide +kernel
theorem zd_X_fits_115 : decode zc_X_fits 115 = .ok (.if_icmp .ge 77, 3) := by decide +kernel
theorem zd_X_fits_118 : decode zc_X_fits 118 = .ok (.aload_n 0, 1) := by decide +kernel
theorem zd_X_fits_119 : decode zc_X_fits 119 = .ok (.getfield 35, 3) := by decide +kernel
theorem zd_X_fits_122 : decode zc_X_fits 122 = .ok (.aload_n 0, 1) := by decide +kernel
theorem zd_X_fits_123 : decode zc_X_fits 123 = .ok (.getfield 17, 3) := by decide +kernel
theorem zd_X_fits_126 : decode zc_X_fits 126 = .ok (.iload_n 2, 1) := by decide +kernel
theorem zd_X_fits_127 : decode zc_X_fits 127 = .ok (.iaload, 1) := by decide +kernel
theorem zd_X_fits_128 : decode zc_X_fits 128 = .ok (.laload, 1) := by decide +kernel
theorem zd_X_fits_129 : decode zc_X_fits 129 = .ok (.aload_n 0, 1) := by decide +kernel
theorem zd_X_fits_130 : decode zc_X_fits 130 = .ok (.getfield 23, 3) := by decide +kernel
theorem zd_X_fits_133 : decode zc_X_fits 133 = .ok (.iload_n 2, 1) := by decide +kernel
theorem zd_X_fits_134 : decode zc_X_fits 134 = .ok (.iaload, 1) := by decide +kernel
theorem zd_X_fits_135 : decode zc_X_fits 135 = .ok (.i2l, 1) := by decide +kernel
theorem zd_X_fits_136 : decode zc_X_fits 136 = .ok (.lmul, 1) := by decide +kernel
theorem zd_X_fits_137 : decode zc_X_fits 137 = .ok (.aload_n 0, 1) := by decide +kernel
theorem zd_X_fits_138 : decode zc_X_fits 138 = .ok (.getfield 39, 3) := by decide +kernel
theorem zd_X_fits_141 : decode zc_X_fits 141 = .ok (.aload_n 0, 1) := by decide +kernel
theorem zd_X_fits_142 : decode zc_X_fits 142 = .ok (.getfield 20, 3) := by decide +kernel
theorem zd_X_fits_145 : decode zc_X_fits 145 = .ok (.iload_n 2, 1) := by decide +kernel
theorem zd_X_fits_146 : decode zc_X_fits 146 = .ok (.iaload, 1) := by decide +kernel
theorem zd_X_fits_147 : decode zc_X_fits 147 = .ok (.laload, 1) := by decide +kernel
theorem zd_X_fits_148 : decode zc_X_fits 148 = .ok (.lmul, 1) := by decide +kernel
theorem zd_X_fits_149 : decode zc_X_fits 149 = .ok (.aload_n 0, 1) := by decide +kernel
theorem zd_X_fits_150 : decode zc_X_fits 150 = .ok (.getfield 35, 3) := by decide +kernel
theorem zd_X_fits_153 : decode zc_X_fits 153 = .ok (.aload_n 0, 1) := by decide +kernel
theorem zd_X_fits_154 : decode zc_X_fits 154 = .ok (.getfield 20, 3) := by decide +kernel
theorem zd_X_fits_157 : decode zc_X_fits 157 = .ok (.iload_n 2, 1) := by decide +kernel
theorem zd_X_fits_158 : decode zc_X_fits 158 = .ok (.iaload, 1) := by decide +kernel
theorem zd_X_fits_159 : decode zc_X_fits 159 = .ok (.laload, 1) := by decide +kernel
theorem zd_X_fits_160 : decode zc_X_fits 160 = .ok (.aload_n 0, 1) := by decide +kernel
theorem zd_X_fits_161 : decode zc_X_fits 161 = .ok (.getfield 26, 3) := by decide +kernel
theorem zd_X_fits_164 : decode zc_X_fits 164 = .ok (.iload_n 2, 1) := by decide +kernel
theorem zd_X_fits_165 : decode zc_X_fits 165 = .ok (.iaload, 1) := by decide +kernel
theorem zd_X_fits_166 : decode zc_X_fits 166 = .ok (.i2l, 1) := by decide +kernel
theorem zd_X_fits_167 : decode zc_X_fits 167 = .ok (.lmul, 1) := by decide +kernel
theorem zd_X_fits_168 : decode zc_X_fits 168 = .ok (.aload_n 0, 1) := by decide +kernel
theorem zd_X_fits_169 : decode zc_X_fits 169 = .ok (.getfield 39, 3) := by decide +kernel
theorem zd_X_fits_172 : decode zc_X_fits 172 = .ok (.aload_n 0, 1) := by decide +kernel
theorem zd_X_fits_173 : decode zc_X_fits 173 = .ok (.getfield 17, 3) := by decide +kernel
theorem zd_X_fits_176 : decode zc_X_fits 176 = .ok (.iload_n 2, 1) := by decide +kernel
theorem zd_X_fits_177 : decode zc_X_fits 177 = .ok (.iaload, 1) := by decide +kernel
theorem zd_X_fits_178 : decode zc_X_fits 178 = .ok (.laload, 1) := by decide +kernel
theorem zd_X_fits_179 : decode zc_X_fits 179 = .ok (.lmul, 1) := by decide +kernel
theorem zd_X_fits_180 : decode zc_X_fits 180 = .ok (.lcmp, 1) := by decide +kernel
theorem zd_X_fits_181 : decode zc_X_fits 181 = .ok (.ifCond .eq 5, 3) := by decide +kernel
theorem zd_X_fits_184 : decode zc_X_fits 184 = .ok (.iconst 0, 1) := by decide +kernel
theorem zd_X_fits_185 : decode zc_X_fits 185 = .ok (.ireturn, 1) := by decide +kernel
theorem zd_X_fits_186 : decode zc_X_fits 186 = .ok (.iinc 2 1, 3) := by decide +kernel
theorem zd_X_fits_189 : decode zc_X_fits 189 = .ok (.goto (-76), 3) := by decide +kernel
theorem zd_X_fits_192 : decode zc_X_fits 192 = .ok (.iconst 1, 1) := by decide +kernel
theorem zd_X_fits_193 : decode zc_X_fits 193 = .ok (.ireturn, 1) := by decide +kernel
theorem zd_X_reach_0 : decode zc_X_reach 0 = .ok (.aload_n 0, 1) := by decide +kernel
theorem zd_X_reach_1 : decode zc_X_reach 1 = .ok (.getfield 17, 3) := by decide +kernel
theorem zd_X_reach_4 : decode zc_X_reach 4 = .ok (.iload_n 1, 1) := by decide +kernel
theorem zd_X_reach_5 : decode zc_X_reach 5 = .ok (.iaload, 1) := by decide +kernel
theorem zd_X_reach_6 : decode zc_X_reach 6 = .ok (.istore_n 2, 1) := by decide +kernel
theorem zd_X_reach_7 : decode zc_X_reach 7 = .ok (.aload_n 0, 1) := by decide +kernel
theorem zd_X_reach_8 : decode zc_X_reach 8 = .ok (.getfield 20, 3) := by decide +kernel
theorem zd_X_reach_11 : decode zc_X_reach 11 = .ok (.iload_n 1, 1) := by decide +kernel
theorem zd_X_reach_12 : decode zc_X_reach 12 = .ok (.iaload, 1) := by decide +kernel
theorem zd_X_reach_13 : decode zc_X_reach 13 = .ok (.istore_n 3, 1) := by decide +kernel
theorem zd_X_reach_14 : decode zc_X_reach 14 = .ok (.aload_n 0, 1) := by decide +kernel
theorem zd_X_reach_15 : decode zc_X_reach 15 = .ok (.getfield 32, 3) := by decide +kernel
theorem zd_X_reach_18 : decode zc_X_reach 18 = .ok (.iload_n 2, 1) := by decide +kernel
theorem zd_X_reach_19 : decode zc_X_reach 19 = .ok (.iaload, 1) := by decide +kernel
theorem zd_X_reach_20 : decode zc_X_reach 20 = .ok (.iconst (-1), 1) := by decide +kernel
theorem zd_X_reach_21 : decode zc_X_reach 21 = .ok (.if_icmp .ne 7, 3) := by decide +kernel
theorem zd_X_reach_24 : decode zc_X_reach 24 = .ok (.iconst 1, 1) := by decide +kernel
theorem zd_X_reach_25 : decode zc_X_reach 25 = .ok (.goto 4, 3) := by decide +kernel
theorem zd_X_reach_28 : decode zc_X_reach 28 = .ok (.iconst 0, 1) := by decide +kernel
theorem zd_X_reach_29 : decode zc_X_reach 29 = .ok (.aload_n 0, 1) := by decide +kernel
theorem zd_X_reach_30 : decode zc_X_reach 30 = .ok (.getfield 32, 3) := by decide +kernel
theorem zd_X_reach_33 : decode zc_X_reach 33 = .ok (.iload_n 3, 1) := by decide +kernel
theorem zd_X_reach_34 : decode zc_X_reach 34 = .ok (.iaload, 1) := by decide +kernel
theorem zd_X_reach_35 : decode zc_X_reach 35 = .ok (.iconst (-1), 1) := by decide +kernel
theorem zd_X_reach_36 : decode zc_X_reach 36 = .ok (.if_icmp .ne 7, 3) := by decide +kernel
theorem zd_X_reach_39 : decode zc_X_reach 39 = .ok (.iconst 1, 1) := by decide +kernel
theorem zd_X_reach_40 : decode zc_X_reach 40 = .ok (.goto 4, 3) := by decide +kernel
theorem zd_X_reach_43 : decode zc_X_reach 43 = .ok (.iconst 0, 1) := by decide +kernel
theorem zd_X_reach_44 : decode zc_X_reach 44 = .ok (.if_icmp .ne 5, 3) := by decide +kernel
theorem zd_X_reach_47 : decode zc_X_reach 47 = .ok (.iconst 0, 1) := by decide +kernel
theorem zd_X_reach_48 : decode zc_X_reach 48 = .ok (.ireturn, 1) := by decide +kernel
theorem zd_X_reach_49 : decode zc_X_reach 49 = .ok (.aload_n 0, 1) := by decide +kernel
theorem zd_X_reach_50 : decode zc_X_reach 50 = .ok (.getfield 32, 3) := by decide +kernel
theorem zd_X_reach_53 : decode zc_X_reach 53 = .ok (.iload_n 3, 1) := by decide +kernel
theorem zd_X_reach_54 : decode zc_X_reach 54 = .ok (.iaload, 1) := by decide +kernel
theorem zd_X_reach_55 : decode zc_X_reach 55 = .ok (.iconst (-1), 1) := by decide +kernel
theorem zd_X_reach_56 : decode zc_X_reach 56 = .ok (.if_icmp .ne 51, 3) := by decide +kernel
theorem zd_X_reach_59 : decode zc_X_reach 59 = .ok (.aload_n 0, 1) := by decide +kernel
theorem zd_X_reach_60 : decode zc_X_reach 60 = .ok (.iload_n 3, 1) := by decide +kernel
theorem zd_X_reach_61 : decode zc_X_reach 61 = .ok (.aload_n 0, 1) := by decide +kernel
theorem zd_X_reach_62 : decode zc_X_reach 62 = .ok (.getfield 35, 3) := by decide +kernel
theorem zd_X_reach_65 : decode zc_X_reach 65 = .ok (.iload_n 2, 1) := by decide +kernel
theorem zd_X_reach_66 : decode zc_X_reach 66 = .ok (.laload, 1) := by decide +kernel
theorem zd_X_reach_67 : decode zc_X_reach 67 = .ok (.aload_n 0, 1) := by decide +kernel
theorem zd_X_reach_68 : decode zc_X_reach 68 = .ok (.getfield 23, 3) := by decide +kernel
theorem zd_X_reach_71 : decode zc_X_reach 71 = .ok (.iload_n 1, 1) := by decide +kernel
theorem zd_X_reach_72 : decode zc_X_reach 72 = .ok (.iaload, 1) := by decide +kernel
theorem zd_X_reach_73 : decode zc_X_reach 73 = .ok (.i2l, 1) := by decide +kernel
theorem zd_X_reach_74 : decode zc_X_reach 74 = .ok (.lmul, 1) := by decide +kernel
theorem zd_X_reach_75 : decode zc_X_reach 75 = .ok (.aload_n 0, 1) := by decide +kernel
theorem zd_X_reach_76 : decode zc_X_reach 76 = .ok (.getfield 39, 3) := by decide +kernel
theorem zd_X_reach_79 : decode zc_X_reach 79 = .ok (.iload_n 2, 1) := by decide +kernel
theorem zd_X_reach_80 : decode zc_X_reach 80 = .ok (.laload, 1) := by decide +kernel
theorem zd_X_reach_81 : decode zc_X_reach 81 = .ok (.aload_n 0, 1) := by decide +kernel
theorem zd_X_reach_82 : decode zc_X_reach 82 = .ok (.getfield 26, 3) := by decide +kernel
theorem zd_X_reach_85 : decode zc_X_reach 85 = .ok (.iload_n 1, 1) := by decide +kernel
theorem zd_X_reach_86 : decode zc_X_reach 86 = .ok (.iaload, 1) := by decide +kernel
theorem zd_X_reach_87 : decode zc_X_reach 87 = .ok (.i2l, 1) := by decide +kernel
theorem zd_X_reach_88 : decode zc_X_reach 88 = .ok (.lmul, 1) := by decide +kernel
theorem zd_X_reach_89 : decode zc_X_reach 89 = .ok (.invokevirtual 100, 3) := by decide +kernel
theorem zd_X_reach_92 : decode zc_X_reach 92 = .ok (.aload_n 0, 1) := by decide +kernel
theorem zd_X_reach_93 : decode zc_X_reach 93 = .ok (.getfield 32, 3) := by decide +kernel
theorem zd_X_reach_96 : decode zc_X_reach 96 = .ok (.iload_n 3, 1) := by decide +kernel
theorem zd_X_reach_97 : decode zc_X_reach 97 = .ok (.aload_n 0, 1) := by decide +kernel
theorem zd_X_reach_98 : decode zc_X_reach 98 = .ok (.getfield 32, 3) := by decide +kernel
theorem zd_X_reach_101 : decode zc_X_reach 101 = .ok (.iload_n 2, 1) := by decide +kernel
theorem zd_X_reach_102 : decode zc_X_reach 102 = .ok (.iaload, 1) := by decide +kernel
theorem zd_X_reach_103 : decode zc_X_reach 103 = .ok (.iastore, 1) := by decide +kernel
theorem zd_X_reach_104 : decode zc_X_reach 104 = .ok (.goto 48, 3) := by decide +kernel
theorem zd_X_reach_107 : decode zc_X_reach 107 = .ok (.aload_n 0, 1) := by decide +kernel
theorem zd_X_reach_108 : decode zc_X_reach 108 = .ok (.iload_n 2, 1) := by decide +kernel
theorem zd_X_reach_109 : decode zc_X_reach 109 = .ok (.aload_n 0, 1) := by decide +kernel
theorem zd_X_reach_110 : decode zc_X_reach 110 = .ok (.getfield 35, 3) := by decide +kernel
theorem zd_X_reach_113 : decode zc_X_reach 113 = .ok (.iload_n 3, 1) := by decide +kernel
theorem zd_X_reach_114 : decode zc_X_reach 114 = .ok (.laload, 1) := by decide +kernel
theorem zd_X_reach_115 : decode zc_X_reach 115 = .ok (.aload_n 0, 1) := by decide +kernel
theorem zd_X_reach_116 : decode zc_X_reach 116 = .ok (.getfield 26, 3) := by decide +kernel
theorem zd_X_reach_119 : decode zc_X_reach 119 = .ok (.iload_n 1, 1) := by decide +kernel
theorem zd_X_reach_120 : decode zc_X_reach 120 = .ok (.iaload, 1) := by decide +kernel
theorem zd_X_reach_121 : decode zc_X_reach 121 = .ok (.i2l, 1) := by decide +kernel
theorem zd_X_reach_122 : decode zc_X_reach 122 = .ok (.lmul, 1) := by decide +kernel
theorem zd_X_reach_123 : decode zc_X_reach 123 = .ok (.aload_n 0, 1) := by decide +kernel
theorem zd_X_reach_124 : decode zc_X_reach 124 = .ok (.getfield 39, 3) := by decide +kernel
theorem zd_X_reach_127 : decode zc_X_reach 127 = .ok (.iload_n 3, 1) := by decide +kernel
theorem zd_X_reach_128 : decode zc_X_reach 128 = .ok (.laload, 1) := by decide +kernel
theorem zd_X_reach_129 : decode zc_X_reach 129 = .ok (.aload_n 0, 1) := by decide +kernel
theorem zd_X_reach_130 : decode zc_X_reach 130 = .ok (.getfield 23, 3) := by decide +kernel
theorem zd_X_reach_133 : decode zc_X_reach 133 = .ok (.iload_n 1, 1) := by decide +kernel
theorem zd_X_reach_134 : decode zc_X_reach 134 = .ok (.iaload, 1) := by decide +kernel
theorem zd_X_reach_135 : decode zc_X_reach 135 = .ok (.i2l, 1) := by decide +kernel
theorem zd_X_reach_136 : decode zc_X_reach 136 = .ok (.lmul, 1) := by decide +kernel
theorem zd_X_reach_137 : decode zc_X_reach 137 = .ok (.invokevirtual 100, 3) := by decide +kernel
theorem zd_X_reach_140 : decode zc_X_reach 140 = .ok (.aload_n 0, 1) := by decide +kernel
theorem zd_X_reach_141 : decode zc_X_reach 141 = .ok (.getfield 32, 3) := by decide +kernel
theorem zd_X_reach_144 : decode zc_X_reach 144 = .ok (.iload_n 2, 1) := by decide +kernel
theorem zd_X_reach_145 : decode zc_X_reach 145 = .ok (.aload_n 0, 1) := by decide +kernel
theorem zd_X_reach_146 : decode zc_X_reach 146 = .ok (.getfield 32, 3) := by decide +kernel
theorem zd_X_reach_149 : decode zc_X_reach 149 = .ok (.iload_n 3, 1) := by decide +kernel
theorem zd_X_reach_150 : decode zc_X_reach 150 = .ok (.iaload, 1) := by decide +kernel
theorem zd_X_reach_151 : decode zc_X_reach 151 = .ok (.iastore, 1) := by decide +kernel
theorem zd_X_reach_152 : decode zc_X_reach 152 = .ok (.iconst 1, 1) := by decide +kernel
theorem zd_X_reach_153 : decode zc_X_reach 153 = .ok (.ireturn, 1) := by decide +kernel
theorem zd_X_leastOf_0 : decode zc_X_leastOf 0 = .ok (.iconst 1, 1) := by decide +kernel
theorem zd_X_leastOf_1 : decode zc_X_leastOf 1 = .ok (.istore_n 2, 1) := by decide +kernel
theorem zd_X_leastOf_2 : decode zc_X_leastOf 2 = .ok (.iload_n 2, 1) := by decide +kernel
theorem zd_X_leastOf_3 : decode zc_X_leastOf 3 = .ok (.sipush 400, 3) := by decide +kernel
theorem zd_X_leastOf_6 : decode zc_X_leastOf 6 = .ok (.if_icmp .gt 71, 3) := by decide +kernel
theorem zd_X_leastOf_9 : decode zc_X_leastOf 9 = .ok (.iconst 1, 1) := by decide +kernel
theorem zd_X_leastOf_10 : decode zc_X_leastOf 10 = .ok (.istore_n 3, 1) := by decide +kernel
theorem zd_X_leastOf_11 : decode zc_X_leastOf 11 = .ok (.iconst 0, 1) := by decide +kernel
theorem zd_X_leastOf_12 : decode zc_X_leastOf 12 = .ok (.istore 4, 2) := by decide +kernel
theorem zd_X_leastOf_14 : decode zc_X_leastOf 14 = .ok (.iload 4, 2) := by decide +kernel
theorem zd_X_leastOf_16 : decode zc_X_leastOf 16 = .ok (.aload_n 0, 1) := by decide +kernel
theorem zd_X_leastOf_17 : decode zc_X_leastOf 17 = .ok (.getfield 7, 3) := by decide +kernel
theorem zd_X_leastOf_20 : decode zc_X_leastOf 20 = .ok (.if_icmp .ge 45, 3) := by decide +kernel
theorem zd_X_leastOf_23 : decode zc_X_leastOf 23 = .ok (.aload_n 0, 1) := by decide +kernel
theorem zd_X_leastOf_24 : decode zc_X_leastOf 24 = .ok (.getfield 32, 3) := by decide +kernel
theorem zd_X_leastOf_27 : decode zc_X_leastOf 27 = .ok (.iload 4, 2) := by decide +kernel
theorem zd_X_leastOf_29 : decode zc_X_leastOf 29 = .ok (.iaload, 1) := by decide +kernel
theorem zd_X_leastOf_30 : decode zc_X_leastOf 30 = .ok (.iload_n 1, 1) := by decide +kernel
theorem zd_X_leastOf_31 : decode zc_X_leastOf 31 = .ok (.if_icmp .ne 28, 3) := by decide +kernel
theorem zd_X_leastOf_34 : decode zc_X_leastOf 34 = .ok (.iload_n 2, 1) := by decide +kernel
theorem zd_X_leastOf_35 : decode zc_X_leastOf 35 = .ok (.i2l, 1) := by decide +kernel
theorem zd_X_leastOf_36 : decode zc_X_leastOf 36 = .ok (.aload_n 0, 1) := by decide +kernel
theorem zd_X_leastOf_37 : decode zc_X_leastOf 37 = .ok (.getfield 35, 3) := by decide +kernel
theorem zd_X_leastOf_40 : decode zc_X_leastOf 40 = .ok (.iload 4, 2) := by decide +kernel
theorem zd_X_leastOf_42 : decode zc_X_leastOf 42 = .ok (.laload, 1) := by decide +kernel
theorem zd_X_leastOf_43 : decode zc_X_leastOf 43 = .ok (.lmul, 1) := by decide +kernel
theorem zd_X_leastOf_44 : decode zc_X_leastOf 44 = .ok (.aload_n 0, 1) := by decide +kernel
theorem zd_X_leastOf_45 : decode zc_X_leastOf 45 = .ok (.getfield 39, 3) := by decide +kernel
theorem zd_X_leastOf_48 : decode zc_X_leastOf 48 = .ok (.iload 4, 2) := by decide +kernel
theorem zd_X_leastOf_50 : decode zc_X_leastOf 50 = .ok (.laload, 1) := by decide +kernel
theorem zd_X_leastOf_51 : decode zc_X_leastOf 51 = .ok (.lrem, 1) := by decide +kernel
theorem zd_X_leastOf_52 : decode zc_X_leastOf 52 = .ok (.lconst 0, 1) := by decide +kernel
theorem zd_X_leastOf_53 : decode zc_X_leastOf 53 = .ok (.lcmp, 1) := by decide +kernel
theorem zd_X_leastOf_54 : decode zc_X_leastOf 54 = .ok (.ifCond .eq 5, 3) := by decide +kernel
theorem zd_X_leastOf_57 : decode zc_X_leastOf 57 = .ok (.iconst 0, 1) := by decide +kernel
theorem zd_X_leastOf_58 : decode zc_X_leastOf 58 = .ok (.istore_n 3, 1) := by decide +kernel
theorem zd_X_leastOf_59 : decode zc_X_leastOf 59 = .ok (.iinc 4 1, 3) := by decide +kernel
theorem zd_X_leastOf_62 : decode zc_X_leastOf 62 = .ok (.goto (-48), 3) := by decide +kernel
theorem zd_X_leastOf_65 : decode zc_X_leastOf 65 = .ok (.iload_n 3, 1) := by decide +kernel
theorem zd_X_leastOf_66 : decode zc_X_leastOf 66 = .ok (.ifCond .eq 5, 3) := by decide +kernel
theorem zd_X_leastOf_69 : decode zc_X_leastOf 69 = .ok (.iload_n 2, 1) := by decide +kernel
theorem zd_X_leastOf_70 : decode zc_X_leastOf 70 = .ok (.ireturn, 1) := by decide +kernel
theorem zd_X_leastOf_71 : decode zc_X_leastOf 71 = .ok (.iinc 2 1, 3) := by decide +kernel
theorem zd_X_leastOf_74 : decode zc_X_leastOf 74 = .ok (.goto (-72), 3) := by decide +kernel
theorem zd_X_leastOf_77 : decode zc_X_leastOf 77 = .ok (.iconst 0, 1) := by decide +kernel
theorem zd_X_leastOf_78 : decode zc_X_leastOf 78 = .ok (.ireturn, 1) := by decide +kernel
theorem zd_X_findCounts_0 : decode zc_X_findCounts 0 = .ok (.aload_n 0, 1) := by decide +kernel
theorem zd_X_findCounts_1 : decode zc_X_findCounts 1 = .ok (.iconst 0, 1) := by decide +kernel
theorem zd_X_findCounts_2 : decode zc_X_findCounts 2 = .ok (.putfield 108, 3) := by decide +kernel
theorem zd_X_findCounts_5 : decode zc_X_findCounts 5 = .ok (.aload_n 0, 1) := by decide +kernel
theorem zd_X_findCounts_6 : decode zc_X_findCounts 6 = .ok (.iconst 0, 1) := by decide +kernel
theorem zd_X_findCounts_7 : decode zc_X_findCounts 7 = .ok (.putfield 111, 3) := by decide +kernel
theorem zd_X_findCounts_10 : decode zc_X_findCounts 10 = .ok (.lconst 0, 1) := by decide +kernel
theorem zd_X_findCounts_11 : decode zc_X_findCounts 11 = .ok (.lstore_n 1, 1) := by decide +kernel
theorem zd_X_findCounts_12 : decode zc_X_findCounts 12 = .ok (.iconst 0, 1) := by decide +kernel
theorem zd_X_findCounts_13 : decode zc_X_findCounts 13 = .ok (.istore_n 3, 1) := by decide +kernel
theorem zd_X_findCounts_14 : decode zc_X_findCounts 14 = .ok (.iload_n 3, 1) := by decide +kernel
theorem zd_X_findCounts_15 : decode zc_X_findCounts 15 = .ok (.aload_n 0, 1) := by decide +kernel
theorem zd_X_findCounts_16 : decode zc_X_findCounts 16 = .ok (.getfield 7, 3) := by decide +kernel
theorem zd_X_findCounts_19 : decode zc_X_findCounts 19 = .ok (.if_icmp .ge 137, 3) := by decide +kernel
theorem zd_X_findCounts_22 : decode zc_X_findCounts 22 = .ok (.aload_n 0, 1) := by decide +kernel
theorem zd_X_findCounts_23 : decode zc_X_findCounts 23 = .ok (.getfield 32, 3) := by decide +kernel
theorem zd_X_findCounts_26 : decode zc_X_findCounts 26 = .ok (.iload_n 3, 1) := by decide +kernel
theorem zd_X_findCounts_27 : decode zc_X_findCounts 27 = .ok (.iaload, 1) := by decide +kernel
theorem zd_X_findCounts_28 : decode zc_X_findCounts 28 = .ok (.iload_n 3, 1) := by decide +kernel
theorem zd_X_findCounts_29 : decode zc_X_findCounts 29 = .ok (.if_icmp .eq 6, 3) := by decide +kernel
theorem zd_X_findCounts_32 : decode zc_X_findCounts 32 = .ok (.goto 118, 3) := by decide +kernel
theorem zd_X_findCounts_35 : decode zc_X_findCounts 35 = .ok (.aload_n 0, 1) := by decide +kernel
theorem zd_X_findCounts_36 : decode zc_X_findCounts 36 = .ok (.dup, 1) := by decide +kernel
theorem zd_X_findCounts_37 : decode zc_X_findCounts 37 = .ok (.getfield 111, 3) := by decide +kernel
theorem zd_X_findCounts_40 : decode zc_X_findCounts 40 = .ok (.iconst 1, 1) := by decide +kernel
theorem zd_X_findCounts_41 : decode zc_X_findCounts 41 = .ok (.iadd, 1) := by decide +kernel
theorem zd_X_findCounts_42 : decode zc_X_findCounts 42 = .ok (.putfield 111, 3) := by decide +kernel
theorem zd_X_findCounts_45 : decode zc_X_findCounts 45 = .ok (.aload_n 0, 1) := by decide +kernel
theorem zd_X_findCounts_46 : decode zc_X_findCounts 46 = .ok (.iload_n 3, 1) := by decide +kernel
theorem zd_X_findCounts_47 : decode zc_X_findCounts 47 = .ok (.invokevirtual 114, 3) := by decide +kernel
theorem zd_X_findCounts_50 : decode zc_X_findCounts 50 = .ok (.istore 4, 2) := by decide +kernel
theorem zd_X_findCounts_52 : decode zc_X_findCounts 52 = .ok (.iload 4, 2) := by decide +kernel
theorem zd_X_findCounts_54 : decode zc_X_findCounts 54 = .ok (.ifCond .ne 8, 3) := by decide +kernel
theorem zd_X_findCounts_57 : decode zc_X_findCounts 57 = .ok (.aload_n 0, 1) := by decide +kernel
theorem zd_X_findCounts_58 : decode zc_X_findCounts 58 = .ok (.iconst 1, 1) := by decide +kernel
theorem zd_X_findCounts_59 : decode zc_X_findCounts 59 = .ok (.putfield 108, 3) := by decide +kernel
theorem zd_X_findCounts_62 : decode zc_X_findCounts 62 = .ok (.iconst 0, 1) := by decide +kernel
theorem zd_X_findCounts_63 : decode zc_X_findCounts 63 = .ok (.istore 5, 2) := by decide +kernel
theorem zd_X_findCounts_65 : decode zc_X_findCounts 65 = .ok (.iload 5, 2) := by decide +kernel
theorem zd_X_findCounts_67 : decode zc_X_findCounts 67 = .ok (.aload_n 0, 1) := by decide +kernel
theorem zd_X_findCounts_68 : decode zc_X_findCounts 68 = .ok (.getfield 7, 3) := by decide +kernel
theorem zd_X_findCounts_71 : decode zc_X_findCounts 71 = .ok (.if_icmp .ge 79, 3) := by decide +kernel
theorem zd_X_findCounts_74 : decode zc_X_findCounts 74 = .ok (.aload_n 0, 1) := by decide +kernel
theorem zd_X_findCounts_75 : decode zc_X_findCounts 75 = .ok (.getfield 32, 3) := by decide +kernel
theorem zd_X_findCounts_78 : decode zc_X_findCounts 78 = .ok (.iload 5, 2) := by decide +kernel
theorem zd_X_findCounts_80 : decode zc_X_findCounts 80 = .ok (.iaload, 1) := by decide +kernel
theorem zd_X_findCounts_81 : decode zc_X_findCounts 81 = .ok (.iload_n 3, 1) := by decide +kernel
theorem zd_X_findCounts_82 : decode zc_X_findCounts 82 = .ok (.if_icmp .ne 62, 3) := by decide +kernel
theorem zd_X_findCounts_85 : decode zc_X_findCounts 85 = .ok (.iload 4, 2) := by decide +kernel
theorem zd_X_findCounts_87 : decode zc_X_findCounts 87 = .ok (.ifCond .ne 6, 3) := by decide +kernel
theorem zd_X_findCounts_90 : decode zc_X_findCounts 90 = .ok (.goto 54, 3) := by decide +kernel
theorem zd_X_findCounts_93 : decode zc_X_findCounts 93 = .ok (.iload 4, 2) := by decide +kernel
theorem zd_X_findCounts_95 : decode zc_X_findCounts 95 = .ok (.i2l, 1) := by decide +kernel
theorem zd_X_findCounts_96 : decode zc_X_findCounts 96 = .ok (.aload_n 0, 1) := by decide +kernel
theorem zd_X_findCounts_97 : decode zc_X_findCounts 97 = .ok (.getfield 35, 3) := by decide +kernel
theorem zd_X_findCounts_100 : decode zc_X_findCounts 100 = .ok (.iload 5, 2) := by decide +kernel
theorem zd_X_findCounts_102 : decode zc_X_findCounts 102 = .ok (.laload, 1) := by decide +kernel
theorem zd_X_findCounts_103 : decode zc_X_findCounts 103 = .ok (.lmul, 1) := by decide +kernel
theorem zd_X_findCounts_104 : decode zc_X_findCounts 104 = .ok (.aload_n 0, 1) := by decide +kernel
theorem zd_X_findCounts_105 : decode zc_X_findCounts 105 = .ok (.getfield 39, 3) := by decide +kernel
theorem zd_X_findCounts_108 : decode zc_X_findCounts 108 = .ok (.iload 5, 2) := by decide +kernel
theorem zd_X_findCounts_110 : decode zc_X_findCounts 110 = .ok (.laload, 1) := by decide +kernel
theorem zd_X_findCounts_111 : decode zc_X_findCounts 111 = .ok (.ldiv, 1) := by decide +kernel
theorem zd_X_findCounts_112 : decode zc_X_findCounts 112 = .ok (.lstore 6, 2) := by decide +kernel
theorem zd_X_findCounts_114 : decode zc_X_findCounts 114 = .ok (.lload_n 1, 1) := by decide +kernel
theorem zd_X_findCounts_115 : decode zc_X_findCounts 115 = .ok (.lload 6, 2) := by decide +kernel
theorem zd_X_findCounts_117 : decode zc_X_findCounts 117 = .ok (.ladd, 1) := by decide +kernel
theorem zd_X_findCounts_118 : decode zc_X_findCounts 118 = .ok (.lstore_n 1, 1) := by decide +kernel
theorem zd_X_findCounts_119 : decode zc_X_findCounts 119 = .ok (.aload_n 0, 1) := by decide +kernel
theorem zd_X_findCounts_120 : decode zc_X_findCounts 120 = .ok (.getfield 42, 3) := by decide +kernel
theorem zd_X_findCounts_123 : decode zc_X_findCounts 123 = .ok (.iload 5, 2) := by decide +kernel
theorem zd_X_findCounts_125 : decode zc_X_findCounts 125 = .ok (.lload 6, 2) := by decide +kernel
theorem zd_X_findCounts_127 : decode zc_X_findCounts 127 = .ok (.ldc2_w 118, 3) := by decide +kernel
theorem zd_X_findCounts_130 : decode zc_X_findCounts 130 = .ok (.lcmp, 1) := by decide +kernel
theorem zd_X_findCounts_131 : decode zc_X_findCounts 131 = .ok (.ifCond .le 9, 3) := by decide +kernel
theorem zd_X_findCounts_134 : decode zc_X_findCounts 134 = .ok (.sipush 400, 3) := by decide +kernel
theorem zd_X_findCounts_137 : decode zc_X_findCounts 137 = .ok (.goto 6, 3) := by decide +kernel
theorem zd_X_findCounts_140 : decode zc_X_findCounts 140 = .ok (.lload 6, 2) := by decide +kernel
theorem zd_X_findCounts_142 : decode zc_X_findCounts 142 = .ok (.l2i, 1) := by decide +kernel
theorem zd_X_findCounts_143 : decode zc_X_findCounts 143 = .ok (.iastore, 1) := by decide +kernel
theorem zd_X_findCounts_144 : decode zc_X_findCounts 144 = .ok (.iinc 5 1, 3) := by decide +kernel
theorem zd_X_findCounts_147 : decode zc_X_findCounts 147 = .ok (.goto (-82), 3) := by decide +kernel
theorem zd_X_findCounts_150 : decode zc_X_findCounts 150 = .ok (.iinc 3 1, 3) := by decide +kernel
theorem zd_X_findCounts_153 : decode zc_X_findCounts 153 = .ok (.goto (-139), 3) := by decide +kernel
theorem zd_X_findCounts_156 : decode zc_X_findCounts 156 = .ok (.aload_n 0, 1) := by decide +kernel
theorem zd_X_findCounts_157 : decode zc_X_findCounts 157 = .ok (.aload_n 0, 1) := by decide +kernel
theorem zd_X_findCounts_158 : decode zc_X_findCounts 158 = .ok (.getfield 108, 3) := by decide +kernel
theorem zd_X_findCounts_161 : decode zc_X_findCounts 161 = .ok (.ifCond .ne 11, 3) := by decide +kernel
theorem zd_X_findCounts_164 : decode zc_X_findCounts 164 = .ok (.lload_n 1, 1) := by decide +kernel
theorem zd_X_findCounts_165 : decode zc_X_findCounts 165 = .ok (.ldc2_w 118, 3) := by decide +kernel
theorem zd_X_findCounts_168 : decode zc_X_findCounts 168 = .ok (.lcmp, 1) := by decide +kernel
theorem zd_X_findCounts_169 : decode zc_X_findCounts 169 = .ok (.ifCond .le 7, 3) := by decide +kernel
theorem zd_X_findCounts_172 : decode zc_X_findCounts 172 = .ok (.iconst 1, 1) := by decide +kernel
theorem zd_X_findCounts_173 : decode zc_X_findCounts 173 = .ok (.goto 4, 3) := by decide +kernel
theorem zd_X_findCounts_176 : decode zc_X_findCounts 176 = .ok (.iconst 0, 1) := by decide +kernel
theorem zd_X_findCounts_177 : decode zc_X_findCounts 177 = .ok (.putfield 108, 3) := by decide +kernel
theorem zd_X_findCounts_180 : decode zc_X_findCounts 180 = .ok (.return_, 1) := by decide +kernel
theorem zd_X_canBeDone_0 : decode zc_X_canBeDone 0 = .ok (.aload_n 0, 1) := by decide +kernel
theorem zd_X_canBeDone_1 : decode zc_X_canBeDone 1 = .ok (.getfield 45, 3) := by decide +kernel
theorem zd_X_canBeDone_4 : decode zc_X_canBeDone 4 = .ok (.iload_n 1, 1) := by decide +kernel
theorem zd_X_canBeDone_5 : decode zc_X_canBeDone 5 = .ok (.iaload, 1) := by decide +kernel
theorem zd_X_canBeDone_6 : decode zc_X_canBeDone 6 = .ok (.ifCond .ne 5, 3) := by decide +kernel
theorem zd_X_canBeDone_9 : decode zc_X_canBeDone 9 = .ok (.iconst 0, 1) := by decide +kernel
theorem zd_X_canBeDone_10 : decode zc_X_canBeDone 10 = .ok (.ireturn, 1) := by decide +kernel
theorem zd_X_canBeDone_11 : decode zc_X_canBeDone 11 = .ok (.iconst 0, 1) := by decide +kernel
theorem zd_X_canBeDone_12 : decode zc_X_canBeDone 12 = .ok (.istore_n 2, 1) := by decide +kernel
theorem zd_X_canBeDone_13 : decode zc_X_canBeDone 13 = .ok (.iload_n 2, 1) := by decide +kernel
theorem zd_X_canBeDone_14 : decode zc_X_canBeDone 14 = .ok (.aload_n 0, 1) := by decide +kernel
theorem zd_X_canBeDone_15 : decode zc_X_canBeDone 15 = .ok (.getfield 89, 3) := by decide +kernel
theorem zd_X_canBeDone_18 : decode zc_X_canBeDone 18 = .ok (.if_icmp .ge 36, 3) := by decide +kernel
theorem zd_X_canBeDone_21 : decode zc_X_canBeDone 21 = .ok (.aload_n 0, 1) := by decide +kernel
theorem zd_X_canBeDone_22 : decode zc_X_canBeDone 22 = .ok (.getfield 20, 3) := by decide +kernel
theorem zd_X_canBeDone_25 : decode zc_X_canBeDone 25 = .ok (.iload_n 2, 1) := by decide +kernel
theorem zd_X_canBeDone_26 : decode zc_X_canBeDone 26 = .ok (.iaload, 1) := by decide +kernel
theorem zd_X_canBeDone_27 : decode zc_X_canBeDone 27 = .ok (.iload_n 1, 1) := by decide +kernel
theorem zd_X_canBeDone_28 : decode zc_X_canBeDone 28 = .ok (.if_icmp .ne 20, 3) := by decide +kernel
theorem zd_X_canBeDone_31 : decode zc_X_canBeDone 31 = .ok (.aload_n 0, 1) := by decide +kernel
theorem zd_X_canBeDone_32 : decode zc_X_canBeDone 32 = .ok (.getfield 48, 3) := by decide +kernel
theorem zd_X_canBeDone_35 : decode zc_X_canBeDone 35 = .ok (.iload_n 2, 1) := by decide +kernel
theorem zd_X_canBeDone_36 : decode zc_X_canBeDone 36 = .ok (.iaload, 1) := by decide +kernel
theorem zd_X_canBeDone_37 : decode zc_X_canBeDone 37 = .ok (.aload_n 0, 1) := by decide +kernel
theorem zd_X_canBeDone_38 : decode zc_X_canBeDone 38 = .ok (.getfield 26, 3) := by decide +kernel
theorem zd_X_canBeDone_41 : decode zc_X_canBeDone 41 = .ok (.iload_n 2, 1) := by decide +kernel
theorem zd_X_canBeDone_42 : decode zc_X_canBeDone 42 = .ok (.iaload, 1) := by decide +kernel
theorem zd_X_canBeDone_43 : decode zc_X_canBeDone 43 = .ok (.if_icmp .ge 5, 3) := by decide +kernel
theorem zd_X_canBeDone_46 : decode zc_X_canBeDone 46 = .ok (.iconst 0, 1) := by decide +kernel
theorem zd_X_canBeDone_47 : decode zc_X_canBeDone 47 = .ok (.ireturn, 1) := by decide +kernel
theorem zd_X_canBeDone_48 : decode zc_X_canBeDone 48 = .ok (.iinc 2 1, 3) := by decide +kernel
theorem zd_X_canBeDone_51 : decode zc_X_canBeDone 51 = .ok (.goto (-38), 3) := by decide +kernel
theorem zd_X_canBeDone_54 : decode zc_X_canBeDone 54 = .ok (.iconst 1, 1) := by decide +kernel
theorem zd_X_canBeDone_55 : decode zc_X_canBeDone 55 = .ok (.ireturn, 1) := by decide +kernel
theorem zd_X_round_0 : decode zc_X_round 0 = .ok (.aload_n 0, 1) := by decide +kernel
theorem zd_X_round_1 : decode zc_X_round 1 = .ok (.iconst 0, 1) := by decide +kernel
theorem zd_X_round_2 : decode zc_X_round 2 = .ok (.putfield 120, 3) := by decide +kernel
theorem zd_X_round_5 : decode zc_X_round 5 = .ok (.iconst 0, 1) := by decide +kernel
theorem zd_X_round_6 : decode zc_X_round 6 = .ok (.istore_n 1, 1) := by decide +kernel
theorem zd_X_round_7 : decode zc_X_round 7 = .ok (.iload_n 1, 1) := by decide +kernel
theorem zd_X_round_8 : decode zc_X_round 8 = .ok (.aload_n 0, 1) := by decide +kernel
theorem zd_X_round_9 : decode zc_X_round 9 = .ok (.getfield 89, 3) := by decide +kernel
theorem zd_X_round_12 : decode zc_X_round 12 = .ok (.if_icmp .ge 33, 3) := by decide +kernel
theorem zd_X_round_15 : decode zc_X_round 15 = .ok (.aload_n 0, 1) := by decide +kernel
theorem zd_X_round_16 : decode zc_X_round 16 = .ok (.getfield 48, 3) := by decide +kernel
theorem zd_X_round_19 : decode zc_X_round 19 = .ok (.iload_n 1, 1) := by decide +kernel
theorem zd_X_round_20 : decode zc_X_round 20 = .ok (.aload_n 0, 1) := by decide +kernel
theorem zd_X_round_21 : decode zc_X_round 21 = .ok (.getfield 29, 3) := by decide +kernel
theorem zd_X_round_24 : decode zc_X_round 24 = .ok (.iload_n 1, 1) := by decide +kernel
theorem zd_X_round_25 : decode zc_X_round 25 = .ok (.iaload, 1) := by decide +kernel
theorem zd_X_round_26 : decode zc_X_round 26 = .ok (.iastore, 1) := by decide +kernel
theorem zd_X_round_27 : decode zc_X_round 27 = .ok (.aload_n 0, 1) := by decide +kernel
theorem zd_X_round_28 : decode zc_X_round 28 = .ok (.getfield 51, 3) := by decide +kernel
theorem zd_X_round_31 : decode zc_X_round 31 = .ok (.iload_n 1, 1) := by decide +kernel
theorem zd_X_round_32 : decode zc_X_round 32 = .ok (.aload_n 0, 1) := by decide +kernel
theorem zd_X_round_33 : decode zc_X_round 33 = .ok (.getfield 29, 3) := by decide +kernel
theorem zd_X_round_36 : decode zc_X_round 36 = .ok (.iload_n 1, 1) := by decide +kernel
theorem zd_X_round_37 : decode zc_X_round 37 = .ok (.iaload, 1) := by decide +kernel
theorem zd_X_round_38 : decode zc_X_round 38 = .ok (.iastore, 1) := by decide +kernel
theorem zd_X_round_39 : decode zc_X_round 39 = .ok (.iinc 1 1, 3) := by decide +kernel
theorem zd_X_round_42 : decode zc_X_round 42 = .ok (.goto (-35), 3) := by decide +kernel
theorem zd_X_round_45 : decode zc_X_round 45 = .ok (.iconst 0, 1) := by decide +kernel
theorem zd_X_round_46 : decode zc_X_round 46 = .ok (.istore_n 1, 1) := by decide +kernel
theorem zd_X_round_47 : decode zc_X_round 47 = .ok (.iload_n 1, 1) := by decide +kernel
theorem zd_X_round_48 : decode zc_X_round 48 = .ok (.aload_n 0, 1) := by decide +kernel
theorem zd_X_round_49 : decode zc_X_round 49 = .ok (.getfield 7, 3) := by decide +kernel
theorem zd_X_round_52 : decode zc_X_round 52 = .ok (.if_icmp .ge 21, 3) := by decide +kernel
theorem zd_X_round_55 : decode zc_X_round 55 = .ok (.aload_n 0, 1) := by decide +kernel
theorem zd_X_round_56 : decode zc_X_round 56 = .ok (.getfield 45, 3) := by decide +kernel
theorem zd_X_round_59 : decode zc_X_round 59 = .ok (.iload_n 1, 1) := by decide +kernel
theorem zd_X_round_60 : decode zc_X_round 60 = .ok (.aload_n 0, 1) := by decide +kernel
theorem zd_X_round_61 : decode zc_X_round 61 = .ok (.getfield 42, 3) := by decide +kernel
theorem zd_X_round_64 : decode zc_X_round 64 = .ok (.iload_n 1, 1) := by decide +kernel
theorem zd_X_round_65 : decode zc_X_round 65 = .ok (.iaload, 1) := by decide +kernel
theorem zd_X_round_66 : decode zc_X_round 66 = .ok (.iastore, 1) := by decide +kernel
theorem zd_X_round_67 : decode zc_X_round 67 = .ok (.iinc 1 1, 3) := by decide +kernel
theorem zd_X_round_70 : decode zc_X_round 70 = .ok (.goto (-23), 3) := by decide +kernel
theorem zd_X_round_73 : decode zc_X_round 73 = .ok (.iconst 0, 1) := by decide +kernel
theorem zd_X_round_74 : decode zc_X_round 74 = .ok (.istore_n 1, 1) := by decide +kernel
theorem zd_X_round_75 : decode zc_X_round 75 = .ok (.iload_n 1, 1) := by decide +kernel
theorem zd_X_round_76 : decode zc_X_round 76 = .ok (.aload_n 0, 1) := by decide +kernel
theorem zd_X_round_77 : decode zc_X_round 77 = .ok (.getfield 7, 3) := by decide +kernel
theorem zd_X_round_80 : decode zc_X_round 80 = .ok (.if_icmp .ge 170, 3) := by decide +kernel
theorem zd_X_round_83 : decode zc_X_round 83 = .ok (.aload_n 0, 1) := by decide +kernel
theorem zd_X_round_84 : decode zc_X_round 84 = .ok (.iload_n 1, 1) := by decide +kernel
theorem zd_X_round_85 : decode zc_X_round 85 = .ok (.invokevirtual 123, 3) := by decide +kernel
theorem zd_X_round_88 : decode zc_X_round 88 = .ok (.ifCond .ne 9, 3) := by decide +kernel
theorem zd_X_round_91 : decode zc_X_round 91 = .ok (.iinc 1 1, 3) := by decide +kernel
theorem zd_X_round_94 : decode zc_X_round 94 = .ok (.goto (-19), 3) := by decide +kernel
theorem zd_X_round_97 : decode zc_X_round 97 = .ok (.iconst 0, 1) := by decide +kernel
theorem zd_X_round_98 : decode zc_X_round 98 = .ok (.istore_n 2, 1) := by decide +kernel
theorem zd_X_round_99 : decode zc_X_round 99 = .ok (.iload_n 2, 1) := by decide +kernel
theorem zd_X_round_100 : decode zc_X_round 100 = .ok (.aload_n 0, 1) := by decide +kernel
theorem zd_X_round_101 : decode zc_X_round 101 = .ok (.getfield 89, 3) := by decide +kernel
theorem zd_X_round_104 : decode zc_X_round 104 = .ok (.if_icmp .ge 59, 3) := by decide +kernel
theorem zd_X_round_107 : decode zc_X_round 107 = .ok (.aload_n 0, 1) := by decide +kernel
theorem zd_X_round_108 : decode zc_X_round 108 = .ok (.getfield 48, 3) := by decide +kernel
theorem zd_X_round_111 : decode zc_X_round 111 = .ok (.iload_n 2, 1) := by decide +kernel
theorem zd_X_round_112 : decode zc_X_round 112 = .ok (.dup2, 1) := by decide +kernel
theorem zd_X_round_113 : decode zc_X_round 113 = .ok (.iaload, 1) := by decide +kernel
theorem zd_X_round_114 : decode zc_X_round 114 = .ok (.aload_n 0, 1) := by decide +kernel
theorem zd_X_round_115 : decode zc_X_round 115 = .ok (.getfield 17, 3) := by decide +kernel
theorem zd_X_round_118 : decode zc_X_round 118 = .ok (.iload_n 2, 1) := by decide +kernel
theorem zd_X_round_119 : decode zc_X_round 119 = .ok (.iaload, 1) := by decide +kernel
theorem zd_X_round_120 : decode zc_X_round 120 = .ok (.iload_n 1, 1) := by decide +kernel
theorem zd_X_round_121 : decode zc_X_round 121 = .ok (.if_icmp .ne 12, 3) := by decide +kernel
theorem zd_X_round_124 : decode zc_X_round 124 = .ok (.aload_n 0, 1) := by decide +kernel
theorem zd_X_round_125 : decode zc_X_round 125 = .ok (.getfield 23, 3) := by decide +kernel
theorem zd_X_round_128 : decode zc_X_round 128 = .ok (.iload_n 2, 1) := by decide +kernel
theorem zd_X_round_129 : decode zc_X_round 129 = .ok (.iaload, 1) := by decide +kernel
theorem zd_X_round_130 : decode zc_X_round 130 = .ok (.goto 4, 3) := by decide +kernel
theorem zd_X_round_133 : decode zc_X_round 133 = .ok (.iconst 0, 1) := by decide +kernel
theorem zd_X_round_134 : decode zc_X_round 134 = .ok (.aload_n 0, 1) := by decide +kernel
theorem zd_X_round_135 : decode zc_X_round 135 = .ok (.getfield 20, 3) := by decide +kernel
theorem zd_X_round_138 : decode zc_X_round 138 = .ok (.iload_n 2, 1) := by decide +kernel
theorem zd_X_round_139 : decode zc_X_round 139 = .ok (.iaload, 1) := by decide +kernel
theorem zd_X_round_140 : decode zc_X_round 140 = .ok (.iload_n 1, 1) := by decide +kernel
theorem zd_X_round_141 : decode zc_X_round 141 = .ok (.if_icmp .ne 12, 3) := by decide +kernel
theorem zd_X_round_144 : decode zc_X_round 144 = .ok (.aload_n 0, 1) := by decide +kernel
theorem zd_X_round_145 : decode zc_X_round 145 = .ok (.getfield 26, 3) := by decide +kernel
theorem zd_X_round_148 : decode zc_X_round 148 = .ok (.iload_n 2, 1) := by decide +kernel
theorem zd_X_round_149 : decode zc_X_round 149 = .ok (.iaload, 1) := by decide +kernel
theorem zd_X_round_150 : decode zc_X_round 150 = .ok (.goto 4, 3) := by decide +kernel
theorem zd_X_round_153 : decode zc_X_round 153 = .ok (.iconst 0, 1) := by decide +kernel
theorem zd_X_round_154 : decode zc_X_round 154 = .ok (.isub, 1) := by decide +kernel
theorem zd_X_round_155 : decode zc_X_round 155 = .ok (.iadd, 1) := by decide +kernel
theorem zd_X_round_156 : decode zc_X_round 156 = .ok (.iastore, 1) := by decide +kernel
theorem zd_X_round_157 : decode zc_X_round 157 = .ok (.iinc 2 1, 3) := by decide +kernel
theorem zd_X_round_160 : decode zc_X_round 160 = .ok (.goto (-61), 3) := by decide +kernel
theorem zd_X_round_163 : decode zc_X_round 163 = .ok (.iconst 0, 1) := by decide +kernel
theorem zd_X_round_164 : decode zc_X_round 164 = .ok (.istore_n 2, 1) := by decide +kernel
theorem zd_X_round_165 : decode zc_X_round 165 = .ok (.iload_n 2, 1) := by decide +kernel
theorem zd_X_round_166 : decode zc_X_round 166 = .ok (.aload_n 0, 1) := by decide +kernel
theorem zd_X_round_167 : decode zc_X_round 167 = .ok (.getfield 89, 3) := by decide +kernel
theorem zd_X_round_170 : decode zc_X_round 170 = .ok (.if_icmp .ge 45, 3) := by decide +kernel
theorem zd_X_round_173 : decode zc_X_round 173 = .ok (.aload_n 0, 1) := by decide +kernel
theorem zd_X_round_174 : decode zc_X_round 174 = .ok (.getfield 51, 3) := by decide +kernel
theorem zd_X_round_177 : decode zc_X_round 177 = .ok (.iload_n 2, 1) := by decide +kernel
theorem zd_X_round_178 : decode zc_X_round 178 = .ok (.aload_n 0, 1) := by decide +kernel
theorem zd_X_round_179 : decode zc_X_round 179 = .ok (.getfield 48, 3) := by decide +kernel
theorem zd_X_round_182 : decode zc_X_round 182 = .ok (.iload_n 2, 1) := by decide +kernel
theorem zd_X_round_183 : decode zc_X_round 183 = .ok (.iaload, 1) := by decide +kernel
theorem zd_X_round_184 : decode zc_X_round 184 = .ok (.aload_n 0, 1) := by decide +kernel
theorem zd_X_round_185 : decode zc_X_round 185 = .ok (.getfield 51, 3) := by decide +kernel
theorem zd_X_round_188 : decode zc_X_round 188 = .ok (.iload_n 2, 1) := by decide +kernel
theorem zd_X_round_189 : decode zc_X_round 189 = .ok (.iaload, 1) := by decide +kernel
theorem zd_X_round_190 : decode zc_X_round 190 = .ok (.if_icmp .le 12, 3) := by decide +kernel
theorem zd_X_round_193 : decode zc_X_round 193 = .ok (.aload_n 0, 1) := by decide +kernel
theorem zd_X_round_194 : decode zc_X_round 194 = .ok (.getfield 48, 3) := by decide +kernel
theorem zd_X_round_197 : decode zc_X_round 197 = .ok (.iload_n 2, 1) := by decide +kernel
theorem zd_X_round_198 : decode zc_X_round 198 = .ok (.iaload, 1) := by decide +kernel
theorem zd_X_round_199 : decode zc_X_round 199 = .ok (.goto 9, 3) := by decide +kernel
theorem zd_X_round_202 : decode zc_X_round 202 = .ok (.aload_n 0, 1) := by decide +kernel
theorem zd_X_round_203 : decode zc_X_round 203 = .ok (.getfield 51, 3) := by decide +kernel
theorem zd_X_round_206 : decode zc_X_round 206 = .ok (.iload_n 2, 1) := by decide +kernel
theorem zd_X_round_207 : decode zc_X_round 207 = .ok (.iaload, 1) := by decide +kernel
theorem zd_X_round_208 : decode zc_X_round 208 = .ok (.iastore, 1) := by decide +kernel
theorem zd_X_round_209 : decode zc_X_round 209 = .ok (.iinc 2 1, 3) := by decide +kernel
theorem zd_X_round_212 : decode zc_X_round 212 = .ok (.goto (-47), 3) := by decide +kernel
theorem zd_X_round_215 : decode zc_X_round 215 = .ok (.aload_n 0, 1) := by decide +kernel
theorem zd_X_round_216 : decode zc_X_round 216 = .ok (.getfield 45, 3) := by decide +kernel
theorem zd_X_round_219 : decode zc_X_round 219 = .ok (.iload_n 1, 1) := by decide +kernel
theorem zd_X_round_220 : decode zc_X_round 220 = .ok (.dup2, 1) := by decide +kernel
theorem zd_X_round_221 : decode zc_X_round 221 = .ok (.iaload, 1) := by decide +kernel
theorem zd_X_round_222 : decode zc_X_round 222 = .ok (.iconst 1, 1) := by decide +kernel
theorem zd_X_round_223 : decode zc_X_round 223 = .ok (.isub, 1) := by decide +kernel
theorem zd_X_round_224 : decode zc_X_round 224 = .ok (.iastore, 1) := by decide +kernel
theorem zd_X_round_225 : decode zc_X_round 225 = .ok (.aload_n 0, 1) := by decide +kernel
theorem zd_X_round_226 : decode zc_X_round 226 = .ok (.getfield 54, 3) := by decide +kernel
theorem zd_X_round_229 : decode zc_X_round 229 = .ok (.aload_n 0, 1) := by decide +kernel
theorem zd_X_round_230 : decode zc_X_round 230 = .ok (.getfield 120, 3) := by decide +kernel
theorem zd_X_round_233 : decode zc_X_round 233 = .ok (.iload_n 1, 1) := by decide +kernel
theorem zd_X_round_234 : decode zc_X_round 234 = .ok (.iastore, 1) := by decide +kernel
theorem zd_X_round_235 : decode zc_X_round 235 = .ok (.aload_n 0, 1) := by decide +kernel
theorem zd_X_round_236 : decode zc_X_round 236 = .ok (.dup, 1) := by decide +kernel
theorem zd_X_round_237 : decode zc_X_round 237 = .ok (.getfield 120, 3) := by decide +kernel
theorem zd_X_round_240 : decode zc_X_round 240 = .ok (.iconst 1, 1) := by decide +kernel
theorem zd_X_round_241 : decode zc_X_round 241 = .ok (.iadd, 1) := by decide +kernel
theorem zd_X_round_242 : decode zc_X_round 242 = .ok (.putfield 120, 3) := by decide +kernel
theorem zd_X_round_245 : decode zc_X_round 245 = .ok (.iconst 0, 1) := by decide +kernel
theorem zd_X_round_246 : decode zc_X_round 246 = .ok (.istore_n 1, 1) := by decide +kernel
theorem zd_X_round_247 : decode zc_X_round 247 = .ok (.goto (-172), 3) := by decide +kernel
theorem zd_X_round_250 : decode zc_X_round 250 = .ok (.return_, 1) := by decide +kernel
theorem zd_X_know_0 : decode zc_X_know 0 = .ok (.aload_n 0, 1) := by decide +kernel
theorem zd_X_know_1 : decode zc_X_know 1 = .ok (.getfield 92, 3) := by decide +kernel
theorem zd_X_know_4 : decode zc_X_know 4 = .ok (.ifCond .eq 4, 3) := by decide +kernel
theorem zd_X_know_7 : decode zc_X_know 7 = .ok (.return_, 1) := by decide +kernel
theorem zd_X_know_8 : decode zc_X_know 8 = .ok (.aload_n 0, 1) := by decide +kernel
theorem zd_X_know_9 : decode zc_X_know 9 = .ok (.iconst 1, 1) := by decide +kernel
theorem zd_X_know_10 : decode zc_X_know 10 = .ok (.putfield 92, 3) := by decide +kernel
theorem zd_X_know_13 : decode zc_X_know 13 = .ok (.aload_n 0, 1) := by decide +kernel
theorem zd_X_know_14 : decode zc_X_know 14 = .ok (.iconst (-1), 1) := by decide +kernel
theorem zd_X_know_15 : decode zc_X_know 15 = .ok (.putfield 126, 3) := by decide +kernel
theorem zd_X_know_18 : decode zc_X_know 18 = .ok (.iconst 1, 1) := by decide +kernel
theorem zd_X_know_19 : decode zc_X_know 19 = .ok (.istore_n 1, 1) := by decide +kernel
theorem zd_X_know_20 : decode zc_X_know 20 = .ok (.iload_n 1, 1) := by decide +kernel
theorem zd_X_know_21 : decode zc_X_know 21 = .ok (.aload_n 0, 1) := by decide +kernel
theorem zd_X_know_22 : decode zc_X_know 22 = .ok (.getfield 89, 3) := by decide +kernel
theorem zd_X_know_25 : decode zc_X_know 25 = .ok (.if_icmp .gt 32, 3) := by decide +kernel
theorem zd_X_know_28 : decode zc_X_know 28 = .ok (.aload_n 0, 1) := by decide +kernel
theorem zd_X_know_29 : decode zc_X_know 29 = .ok (.getfield 126, 3) := by decide +kernel
theorem zd_X_know_32 : decode zc_X_know 32 = .ok (.iconst (-1), 1) := by decide +kernel
theorem zd_X_know_33 : decode zc_X_know 33 = .ok (.if_icmp .ne 24, 3) := by decide +kernel
theorem zd_X_know_36 : decode zc_X_know 36 = .ok (.aload_n 0, 1) := by decide +kernel
theorem zd_X_know_37 : decode zc_X_know 37 = .ok (.iload_n 1, 1) := by decide +kernel
theorem zd_X_know_38 : decode zc_X_know 38 = .ok (.invokevirtual 129, 3) := by decide +kernel
theorem zd_X_know_41 : decode zc_X_know 41 = .ok (.ifCond .ne 10, 3) := by decide +kernel
theorem zd_X_know_44 : decode zc_X_know 44 = .ok (.aload_n 0, 1) := by decide +kernel
theorem zd_X_know_45 : decode zc_X_know 45 = .ok (.iload_n 1, 1) := by decide +kernel
theorem zd_X_know_46 : decode zc_X_know 46 = .ok (.iconst 1, 1) := by decide +kernel
theorem zd_X_know_47 : decode zc_X_know 47 = .ok (.isub, 1) := by decide +kernel
theorem zd_X_know_48 : decode zc_X_know 48 = .ok (.putfield 126, 3) := by decide +kernel
theorem zd_X_know_51 : decode zc_X_know 51 = .ok (.iinc 1 1, 3) := by decide +kernel
theorem zd_X_know_54 : decode zc_X_know 54 = .ok (.goto (-34), 3) := by decide +kernel
theorem zd_X_know_57 : decode zc_X_know 57 = .ok (.aload_n 0, 1) := by decide +kernel
theorem zd_X_know_58 : decode zc_X_know 58 = .ok (.aload_n 0, 1) := by decide +kernel
theorem zd_X_know_59 : decode zc_X_know 59 = .ok (.getfield 89, 3) := by decide +kernel
theorem zd_X_know_62 : decode zc_X_know 62 = .ok (.invokevirtual 129, 3) := by decide +kernel
theorem zd_X_know_65 : decode zc_X_know 65 = .ok (.pop, 1) := by decide +kernel
theorem zd_X_know_66 : decode zc_X_know 66 = .ok (.aload_n 0, 1) := by decide +kernel
theorem zd_X_know_67 : decode zc_X_know 67 = .ok (.iconst 0, 1) := by decide +kernel
theorem zd_X_know_68 : decode zc_X_know 68 = .ok (.putfield 111, 3) := by decide +kernel
theorem zd_X_know_71 : decode zc_X_know 71 = .ok (.iconst 0, 1) := by decide +kernel
theorem zd_X_know_72 : decode zc_X_know 72 = .ok (.istore_n 1, 1) := by decide +kernel
theorem zd_X_know_73 : decode zc_X_know 73 = .ok (.iload_n 1, 1) := by decide +kernel
theorem zd_X_know_74 : decode zc_X_know 74 = .ok (.aload_n 0, 1) := by decide +kernel
theorem zd_X_know_75 : decode zc_X_know 75 = .ok (.getfield 7, 3) := by decide +kernel
theorem zd_X_know_78 : decode zc_X_know 78 = .ok (.if_icmp .ge 33, 3) := by decide +kernel
theorem zd_X_know_81 : decode zc_X_know 81 = .ok (.aload_n 0, 1) := by decide +kernel
theorem zd_X_know_82 : decode zc_X_know 82 = .ok (.dup, 1) := by decide +kernel
theorem zd_X_know_83 : decode zc_X_know 83 = .ok (.getfield 111, 3) := by decide +kernel
theorem zd_X_know_86 : decode zc_X_know 86 = .ok (.aload_n 0, 1) := by decide +kernel
theorem zd_X_know_87 : decode zc_X_know 87 = .ok (.getfield 32, 3) := by decide +kernel
theorem zd_X_know_90 : decode zc_X_know 90 = .ok (.iload_n 1, 1) := by decide +kernel
theorem zd_X_know_91 : decode zc_X_know 91 = .ok (.iaload, 1) := by decide +kernel
theorem zd_X_know_92 : decode zc_X_know 92 = .ok (.iload_n 1, 1) := by decide +kernel
theorem zd_X_know_93 : decode zc_X_know 93 = .ok (.if_icmp .ne 7, 3) := by decide +kernel
theorem zd_X_know_96 : decode zc_X_know 96 = .ok (.iconst 1, 1) := by decide +kernel
theorem zd_X_know_97 : decode zc_X_know 97 = .ok (.goto 4, 3) := by decide +kernel
theorem zd_X_know_100 : decode zc_X_know 100 = .ok (.iconst 0, 1) := by decide +kernel
theorem zd_X_know_101 : decode zc_X_know 101 = .ok (.iadd, 1) := by decide +kernel
theorem zd_X_know_102 : decode zc_X_know 102 = .ok (.putfield 111, 3) := by decide +kernel
theorem zd_X_know_105 : decode zc_X_know 105 = .ok (.iinc 1 1, 3) := by decide +kernel
theorem zd_X_know_108 : decode zc_X_know 108 = .ok (.goto (-35), 3) := by decide +kernel
theorem zd_X_know_111 : decode zc_X_know 111 = .ok (.aload_n 0, 1) := by decide +kernel
theorem zd_X_know_112 : decode zc_X_know 112 = .ok (.iconst 0, 1) := by decide +kernel
theorem zd_X_know_113 : decode zc_X_know 113 = .ok (.putfield 108, 3) := by decide +kernel
theorem zd_X_know_116 : decode zc_X_know 116 = .ok (.aload_n 0, 1) := by decide +kernel
theorem zd_X_know_117 : decode zc_X_know 117 = .ok (.iconst 0, 1) := by decide +kernel
theorem zd_X_know_118 : decode zc_X_know 118 = .ok (.putfield 120, 3) := by decide +kernel
theorem zd_X_know_121 : decode zc_X_know 121 = .ok (.aload_n 0, 1) := by decide +kernel
theorem zd_X_know_122 : decode zc_X_know 122 = .ok (.getfield 126, 3) := by decide +kernel
theorem zd_X_know_125 : decode zc_X_know 125 = .ok (.iconst (-1), 1) := by decide +kernel
theorem zd_X_know_126 : decode zc_X_know 126 = .ok (.if_icmp .eq 4, 3) := by decide +kernel
theorem zd_X_know_129 : decode zc_X_know 129 = .ok (.return_, 1) := by decide +kernel
theorem zd_X_know_130 : decode zc_X_know 130 = .ok (.aload_n 0, 1) := by decide +kernel
theorem zd_X_know_131 : decode zc_X_know 131 = .ok (.invokevirtual 132, 3) := by decide +kernel
theorem zd_X_know_134 : decode zc_X_know 134 = .ok (.aload_n 0, 1) := by decide +kernel
theorem zd_X_know_135 : decode zc_X_know 135 = .ok (.getfield 108, 3) := by decide +kernel
theorem zd_X_know_138 : decode zc_X_know 138 = .ok (.ifCond .ne 7, 3) := by decide +kernel
theorem zd_X_know_141 : decode zc_X_know 141 = .ok (.aload_n 0, 1) := by decide +kernel
theorem zd_X_know_142 : decode zc_X_know 142 = .ok (.invokevirtual 135, 3) := by decide +kernel
theorem zd_X_know_145 : decode zc_X_know 145 = .ok (.return_, 1) := by decide +kernel
end
section
theorem zd_X_isPlain_0 : decode zc_X_isPlain 0 = .ok (.aload_n 0, 1) := by decide +kernel
theorem zd_X_isPlain_1 : decode zc_X_isPlain 1 = .ok (.invokevirtual 138, 3) := by decide +kernel
theorem zd_X_isPlain_4 : decode zc_X_isPlain 4 = .ok (.aload_n 0, 1) := by decide +kernel
theorem zd_X_isPlain_5 : decode zc_X_isPlain 5 = .ok (.getfield 126, 3) := by decide +kernel
theorem zd_X_isPlain_8 : decode zc_X_isPlain 8 = .ok (.iconst (-1), 1) := by decide +kernel
theorem zd_X_isPlain_9 : decode zc_X_isPlain 9 = .ok (.if_icmp .ne 14, 3) := by decide +kernel
theorem zd_X_isPlain_12 : decode zc_X_isPlain 12 = .ok (.aload_n 0, 1) := by decide +kernel
theorem zd_X_isPlain_13 : decode zc_X_isPlain 13 = .ok (.getfield 108, 3) := by decide +kernel
theorem zd_X_isPlain_16 : decode zc_X_isPlain 16 = .ok (.ifCond .ne 7, 3) := by decide +kernel
theorem zd_X_isPlain_19 : decode zc_X_isPlain 19 = .ok (.iconst 1, 1) := by decide +kernel
theorem zd_X_isPlain_20 : decode zc_X_isPlain 20 = .ok (.goto 4, 3) := by decide +kernel
theorem zd_X_isPlain_23 : decode zc_X_isPlain 23 = .ok (.iconst 0, 1) := by decide +kernel
theorem zd_X_isPlain_24 : decode zc_X_isPlain 24 = .ok (.ireturn, 1) := by decide +kernel
theorem zd_X_uneven_0 : decode zc_X_uneven 0 = .ok (.aload_n 0, 1) := by decide +kernel
theorem zd_X_uneven_1 : decode zc_X_uneven 1 = .ok (.iconst 0, 1) := by decide +kernel
theorem zd_X_uneven_2 : decode zc_X_uneven 2 = .ok (.putfield 82, 3) := by decide +kernel
theorem zd_X_uneven_5 : decode zc_X_uneven 5 = .ok (.aload_n 0, 1) := by decide +kernel
theorem zd_X_uneven_6 : decode zc_X_uneven 6 = .ok (.invokevirtual 138, 3) := by decide +kernel
theorem zd_X_uneven_9 : decode zc_X_uneven 9 = .ok (.aload_n 0, 1) := by decide +kernel
theorem zd_X_uneven_10 : decode zc_X_uneven 10 = .ok (.getfield 126, 3) := by decide +kernel
theorem zd_X_uneven_13 : decode zc_X_uneven 13 = .ok (.ireturn, 1) := by decide +kernel
theorem zd_X_count_0 : decode zc_X_count 0 = .ok (.aload_n 0, 1) := by decide +kernel
theorem zd_X_count_1 : decode zc_X_count 1 = .ok (.iconst 0, 1) := by decide +kernel
theorem zd_X_count_2 : decode zc_X_count 2 = .ok (.putfield 82, 3) := by decide +kernel
theorem zd_X_count_5 : decode zc_X_count 5 = .ok (.iload_n 1, 1) := by decide +kernel
theorem zd_X_count_6 : decode zc_X_count 6 = .ok (.iconst 0, 1) := by decide +kernel
theorem zd_X_count_7 : decode zc_X_count 7 = .ok (.aload_n 0, 1) := by decide +kernel
theorem zd_X_count_8 : decode zc_X_count 8 = .ok (.getfield 7, 3) := by decide +kernel
theorem zd_X_count_11 : decode zc_X_count 11 = .ok (.iconst 1, 1) := by decide +kernel
theorem zd_X_count_12 : decode zc_X_count 12 = .ok (.isub, 1) := by decide +kernel
theorem zd_X_count_13 : decode zc_X_count 13 = .ok (.invokestatic 85, 3) := by decide +kernel
theorem zd_X_count_16 : decode zc_X_count 16 = .ok (.ifCond .ne 5, 3) := by decide +kernel
theorem zd_X_count_19 : decode zc_X_count 19 = .ok (.iconst (-1), 1) := by decide +kernel
theorem zd_X_count_20 : decode zc_X_count 20 = .ok (.ireturn, 1) := by decide +kernel
theorem zd_X_count_21 : decode zc_X_count 21 = .ok (.aload_n 0, 1) := by decide +kernel
theorem zd_X_count_22 : decode zc_X_count 22 = .ok (.invokevirtual 138, 3) := by decide +kernel
theorem zd_X_count_25 : decode zc_X_count 25 = .ok (.aload_n 0, 1) := by decide +kernel
theorem zd_X_count_26 : decode zc_X_count 26 = .ok (.getfield 126, 3) := by decide +kernel
theorem zd_X_count_29 : decode zc_X_count 29 = .ok (.iconst (-1), 1) := by decide +kernel
theorem zd_X_count_30 : decode zc_X_count 30 = .ok (.if_icmp .eq 9, 3) := by decide +kernel
theorem zd_X_count_33 : decode zc_X_count 33 = .ok (.aload_n 0, 1) := by decide +kernel
theorem zd_X_count_34 : decode zc_X_count 34 = .ok (.iconst 1, 1) := by decide +kernel
theorem zd_X_count_35 : decode zc_X_count 35 = .ok (.invokevirtual 141, 3) := by decide +kernel
theorem zd_X_count_38 : decode zc_X_count 38 = .ok (.ireturn, 1) := by decide +kernel
theorem zd_X_count_39 : decode zc_X_count 39 = .ok (.aload_n 0, 1) := by decide +kernel
theorem zd_X_count_40 : decode zc_X_count 40 = .ok (.getfield 108, 3) := by decide +kernel
theorem zd_X_count_43 : decode zc_X_count 43 = .ok (.ifCond .eq 11, 3) := by decide +kernel
theorem zd_X_count_46 : decode zc_X_count 46 = .ok (.aload_n 0, 1) := by decide +kernel
theorem zd_X_count_47 : decode zc_X_count 47 = .ok (.iconst 2, 1) := by decide +kernel
theorem zd_X_count_48 : decode zc_X_count 48 = .ok (.invokevirtual 141, 3) := by decide +kernel
theorem zd_X_count_51 : decode zc_X_count 51 = .ok (.goto 9, 3) := by decide +kernel
theorem zd_X_count_54 : decode zc_X_count 54 = .ok (.aload_n 0, 1) := by decide +kernel
theorem zd_X_count_55 : decode zc_X_count 55 = .ok (.getfield 42, 3) := by decide +kernel
theorem zd_X_count_58 : decode zc_X_count 58 = .ok (.iload_n 1, 1) := by decide +kernel
theorem zd_X_count_59 : decode zc_X_count 59 = .ok (.iaload, 1) := by decide +kernel
theorem zd_X_count_60 : decode zc_X_count 60 = .ok (.ireturn, 1) := by decide +kernel
theorem zd_X_order_0 : decode zc_X_order 0 = .ok (.aload_n 0, 1) := by decide +kernel
theorem zd_X_order_1 : decode zc_X_order 1 = .ok (.aload_n 0, 1) := by decide +kernel
theorem zd_X_order_2 : decode zc_X_order 2 = .ok (.invokevirtual 144, 3) := by decide +kernel
theorem zd_X_order_5 : decode zc_X_order 5 = .ok (.ifCond .eq 21, 3) := by decide +kernel
theorem zd_X_order_8 : decode zc_X_order 8 = .ok (.iload_n 1, 1) := by decide +kernel
theorem zd_X_order_9 : decode zc_X_order 9 = .ok (.iconst 0, 1) := by decide +kernel
theorem zd_X_order_10 : decode zc_X_order 10 = .ok (.aload_n 0, 1) := by decide +kernel
theorem zd_X_order_11 : decode zc_X_order 11 = .ok (.getfield 120, 3) := by decide +kernel
theorem zd_X_order_14 : decode zc_X_order 14 = .ok (.iconst 1, 1) := by decide +kernel
theorem zd_X_order_15 : decode zc_X_order 15 = .ok (.isub, 1) := by decide +kernel
theorem zd_X_order_16 : decode zc_X_order 16 = .ok (.invokestatic 85, 3) := by decide +kernel
theorem zd_X_order_19 : decode zc_X_order 19 = .ok (.ifCond .eq 7, 3) := by decide +kernel
theorem zd_X_order_22 : decode zc_X_order 22 = .ok (.iconst 0, 1) := by decide +kernel
theorem zd_X_order_23 : decode zc_X_order 23 = .ok (.goto 4, 3) := by decide +kernel
theorem zd_X_order_26 : decode zc_X_order 26 = .ok (.iconst 1, 1) := by decide +kernel
theorem zd_X_order_27 : decode zc_X_order 27 = .ok (.putfield 82, 3) := by decide +kernel
theorem zd_X_order_30 : decode zc_X_order 30 = .ok (.aload_n 0, 1) := by decide +kernel
theorem zd_X_order_31 : decode zc_X_order 31 = .ok (.getfield 82, 3) := by decide +kernel
theorem zd_X_order_34 : decode zc_X_order 34 = .ok (.ifCond .ne 12, 3) := by decide +kernel
theorem zd_X_order_37 : decode zc_X_order 37 = .ok (.aload_n 0, 1) := by decide +kernel
theorem zd_X_order_38 : decode zc_X_order 38 = .ok (.getfield 54, 3) := by decide +kernel
theorem zd_X_order_41 : decode zc_X_order 41 = .ok (.iload_n 1, 1) := by decide +kernel
theorem zd_X_order_42 : decode zc_X_order 42 = .ok (.iaload, 1) := by decide +kernel
theorem zd_X_order_43 : decode zc_X_order 43 = .ok (.goto 4, 3) := by decide +kernel
theorem zd_X_order_46 : decode zc_X_order 46 = .ok (.iconst 0, 1) := by decide +kernel
theorem zd_X_order_47 : decode zc_X_order 47 = .ok (.ireturn, 1) := by decide +kernel
theorem zd_X_left_0 : decode zc_X_left 0 = .ok (.aload_n 0, 1) := by decide +kernel
theorem zd_X_left_1 : decode zc_X_left 1 = .ok (.iconst 0, 1) := by decide +kernel
theorem zd_X_left_2 : decode zc_X_left 2 = .ok (.putfield 82, 3) := by decide +kernel
theorem zd_X_left_5 : decode zc_X_left 5 = .ok (.iload_n 1, 1) := by decide +kernel
theorem zd_X_left_6 : decode zc_X_left 6 = .ok (.iconst 0, 1) := by decide +kernel
theorem zd_X_left_7 : decode zc_X_left 7 = .ok (.aload_n 0, 1) := by decide +kernel
theorem zd_X_left_8 : decode zc_X_left 8 = .ok (.getfield 7, 3) := by decide +kernel
theorem zd_X_left_11 : decode zc_X_left 11 = .ok (.iconst 1, 1) := by decide +kernel
theorem zd_X_left_12 : decode zc_X_left 12 = .ok (.isub, 1) := by decide +kernel
theorem zd_X_left_13 : decode zc_X_left 13 = .ok (.invokestatic 85, 3) := by decide +kernel
theorem zd_X_left_16 : decode zc_X_left 16 = .ok (.ifCond .eq 19, 3) := by decide +kernel
theorem zd_X_left_19 : decode zc_X_left 19 = .ok (.aload_n 0, 1) := by decide +kernel
theorem zd_X_left_20 : decode zc_X_left 20 = .ok (.invokevirtual 144, 3) := by decide +kernel
theorem zd_X_left_23 : decode zc_X_left 23 = .ok (.ifCond .eq 12, 3) := by decide +kernel
theorem zd_X_left_26 : decode zc_X_left 26 = .ok (.aload_n 0, 1) := by decide +kernel
theorem zd_X_left_27 : decode zc_X_left 27 = .ok (.getfield 45, 3) := by decide +kernel
theorem zd_X_left_30 : decode zc_X_left 30 = .ok (.iload_n 1, 1) := by decide +kernel
theorem zd_X_left_31 : decode zc_X_left 31 = .ok (.iaload, 1) := by decide +kernel
theorem zd_X_left_32 : decode zc_X_left 32 = .ok (.goto 4, 3) := by decide +kernel
theorem zd_X_left_35 : decode zc_X_left 35 = .ok (.iconst (-1), 1) := by decide +kernel
theorem zd_X_left_36 : decode zc_X_left 36 = .ok (.ireturn, 1) := by decide +kernel
theorem zd_X_peak_0 : decode zc_X_peak 0 = .ok (.aload_n 0, 1) := by decide +kernel
theorem zd_X_peak_1 : decode zc_X_peak 1 = .ok (.iconst 0, 1) := by decide +kernel
theorem zd_X_peak_2 : decode zc_X_peak 2 = .ok (.putfield 82, 3) := by decide +kernel
theorem zd_X_peak_5 : decode zc_X_peak 5 = .ok (.iload_n 1, 1) := by decide +kernel
theorem zd_X_peak_6 : decode zc_X_peak 6 = .ok (.iconst 0, 1) := by decide +kernel
theorem zd_X_peak_7 : decode zc_X_peak 7 = .ok (.aload_n 0, 1) := by decide +kernel
theorem zd_X_peak_8 : decode zc_X_peak 8 = .ok (.getfield 89, 3) := by decide +kernel
theorem zd_X_peak_11 : decode zc_X_peak 11 = .ok (.iconst 1, 1) := by decide +kernel
theorem zd_X_peak_12 : decode zc_X_peak 12 = .ok (.isub, 1) := by decide +kernel
theorem zd_X_peak_13 : decode zc_X_peak 13 = .ok (.invokestatic 85, 3) := by decide +kernel
theorem zd_X_peak_16 : decode zc_X_peak 16 = .ok (.ifCond .eq 19, 3) := by decide +kernel
theorem zd_X_peak_19 : decode zc_X_peak 19 = .ok (.aload_n 0, 1) := by decide +kernel
theorem zd_X_peak_20 : decode zc_X_peak 20 = .ok (.invokevirtual 144, 3) := by decide +kernel
theorem zd_X_peak_23 : decode zc_X_peak 23 = .ok (.ifCond .eq 12, 3) := by decide +kernel
theorem zd_X_peak_26 : decode zc_X_peak 26 = .ok (.aload_n 0, 1) := by decide +kernel
theorem zd_X_peak_27 : decode zc_X_peak 27 = .ok (.getfield 51, 3) := by decide +kernel
theorem zd_X_peak_30 : decode zc_X_peak 30 = .ok (.iload_n 1, 1) := by decide +kernel
theorem zd_X_peak_31 : decode zc_X_peak 31 = .ok (.iaload, 1) := by decide +kernel
theorem zd_X_peak_32 : decode zc_X_peak 32 = .ok (.goto 4, 3) := by decide +kernel
theorem zd_X_peak_35 : decode zc_X_peak 35 = .ok (.iconst (-1), 1) := by decide +kernel
theorem zd_X_peak_36 : decode zc_X_peak 36 = .ok (.ireturn, 1) := by decide +kernel
theorem zd_X_comesToAll_0 : decode zc_X_comesToAll 0 = .ok (.iconst 0, 1) := by decide +kernel
theorem zd_X_comesToAll_1 : decode zc_X_comesToAll 1 = .ok (.istore_n 3, 1) := by decide +kernel
theorem zd_X_comesToAll_2 : decode zc_X_comesToAll 2 = .ok (.iload_n 3, 1) := by decide +kernel
theorem zd_X_comesToAll_3 : decode zc_X_comesToAll 3 = .ok (.aload_n 0, 1) := by decide +kernel
theorem zd_X_comesToAll_4 : decode zc_X_comesToAll 4 = .ok (.getfield 7, 3) := by decide +kernel
theorem zd_X_comesToAll_7 : decode zc_X_comesToAll 7 = .ok (.if_icmp .ge 25, 3) := by decide +kernel
theorem zd_X_comesToAll_10 : decode zc_X_comesToAll 10 = .ok (.aload_n 0, 1) := by decide +kernel
theorem zd_X_comesToAll_11 : decode zc_X_comesToAll 11 = .ok (.getfield 57, 3) := by decide +kernel
theorem zd_X_comesToAll_14 : decode zc_X_comesToAll 14 = .ok (.iload_n 3, 1) := by decide +kernel
theorem zd_X_comesToAll_15 : decode zc_X_comesToAll 15 = .ok (.iload_n 3, 1) := by decide +kernel
theorem zd_X_comesToAll_16 : decode zc_X_comesToAll 16 = .ok (.iload_n 1, 1) := by decide +kernel
theorem zd_X_comesToAll_17 : decode zc_X_comesToAll 17 = .ok (.if_icmp .ne 7, 3) := by decide +kernel
theorem zd_X_comesToAll_20 : decode zc_X_comesToAll 20 = .ok (.iconst 1, 1) := by decide +kernel
theorem zd_X_comesToAll_21 : decode zc_X_comesToAll 21 = .ok (.goto 4, 3) := by decide +kernel
theorem zd_X_comesToAll_24 : decode zc_X_comesToAll 24 = .ok (.iconst 0, 1) := by decide +kernel
theorem zd_X_comesToAll_25 : decode zc_X_comesToAll 25 = .ok (.bastore, 1) := by decide +kernel
theorem zd_X_comesToAll_26 : decode zc_X_comesToAll 26 = .ok (.iinc 3 1, 3) := by decide +kernel
theorem zd_X_comesToAll_29 : decode zc_X_comesToAll 29 = .ok (.goto (-27), 3) := by decide +kernel
theorem zd_X_comesToAll_32 : decode zc_X_comesToAll 32 = .ok (.iconst 1, 1) := by decide +kernel
theorem zd_X_comesToAll_33 : decode zc_X_comesToAll 33 = .ok (.istore_n 3, 1) := by decide +kernel
theorem zd_X_comesToAll_34 : decode zc_X_comesToAll 34 = .ok (.iload_n 3, 1) := by decide +kernel
theorem zd_X_comesToAll_35 : decode zc_X_comesToAll 35 = .ok (.ifCond .eq 105, 3) := by decide +kernel
theorem zd_X_comesToAll_38 : decode zc_X_comesToAll 38 = .ok (.iconst 0, 1) := by decide +kernel
theorem zd_X_comesToAll_39 : decode zc_X_comesToAll 39 = .ok (.istore_n 3, 1) := by decide +kernel
theorem zd_X_comesToAll_40 : decode zc_X_comesToAll 40 = .ok (.iconst 0, 1) := by decide +kernel
theorem zd_X_comesToAll_41 : decode zc_X_comesToAll 41 = .ok (.istore 4, 2) := by decide +kernel
theorem zd_X_comesToAll_43 : decode zc_X_comesToAll 43 = .ok (.iload 4, 2) := by decide +kernel
theorem zd_X_comesToAll_45 : decode zc_X_comesToAll 45 = .ok (.aload_n 0, 1) := by decide +kernel
theorem zd_X_comesToAll_46 : decode zc_X_comesToAll 46 = .ok (.getfield 89, 3) := by decide +kernel
theorem zd_X_comesToAll_49 : decode zc_X_comesToAll 49 = .ok (.if_icmp .ge 88, 3) := by decide +kernel
theorem zd_X_comesToAll_52 : decode zc_X_comesToAll 52 = .ok (.iload_n 2, 1) := by decide +kernel
theorem zd_X_comesToAll_53 : decode zc_X_comesToAll 53 = .ok (.ifCond .eq 13, 3) := by decide +kernel
theorem zd_X_comesToAll_56 : decode zc_X_comesToAll 56 = .ok (.aload_n 0, 1) := by decide +kernel
theorem zd_X_comesToAll_57 : decode zc_X_comesToAll 57 = .ok (.getfield 20, 3) := by decide +kernel
theorem zd_X_comesToAll_60 : decode zc_X_comesToAll 60 = .ok (.iload 4, 2) := by decide +kernel
theorem zd_X_comesToAll_62 : decode zc_X_comesToAll 62 = .ok (.iaload, 1) := by decide +kernel
theorem zd_X_comesToAll_63 : decode zc_X_comesToAll 63 = .ok (.goto 10, 3) := by decide +kernel
theorem zd_X_comesToAll_66 : decode zc_X_comesToAll 66 = .ok (.aload_n 0, 1) := by decide +kernel
theorem zd_X_comesToAll_67 : decode zc_X_comesToAll 67 = .ok (.getfield 17, 3) := by decide +kernel
theorem zd_X_comesToAll_70 : decode zc_X_comesToAll 70 = .ok (.iload 4, 2) := by decide +kernel
theorem zd_X_comesToAll_72 : decode zc_X_comesToAll 72 = .ok (.iaload, 1) := by decide +kernel
theorem zd_X_comesToAll_73 : decode zc_X_comesToAll 73 = .ok (.istore 5, 2) := by decide +kernel
theorem zd_X_comesToAll_75 : decode zc_X_comesToAll 75 = .ok (.iload_n 2, 1) := by decide +kernel
theorem zd_X_comesToAll_76 : decode zc_X_comesToAll 76 = .ok (.ifCond .eq 13, 3) := by decide +kernel
theorem zd_X_comesToAll_79 : decode zc_X_comesToAll 79 = .ok (.aload_n 0, 1) := by decide +kernel
theorem zd_X_comesToAll_80 : decode zc_X_comesToAll 80 = .ok (.getfield 17, 3) := by decide +kernel
theorem zd_X_comesToAll_83 : decode zc_X_comesToAll 83 = .ok (.iload 4, 2) := by decide +kernel
theorem zd_X_comesToAll_85 : decode zc_X_comesToAll 85 = .ok (.iaload, 1) := by decide +kernel
theorem zd_X_comesToAll_86 : decode zc_X_comesToAll 86 = .ok (.goto 10, 3) := by decide +kernel
theorem zd_X_comesToAll_89 : decode zc_X_comesToAll 89 = .ok (.aload_n 0, 1) := by decide +kernel
theorem zd_X_comesToAll_90 : decode zc_X_comesToAll 90 = .ok (.getfield 20, 3) := by decide +kernel
theorem zd_X_comesToAll_93 : decode zc_X_comesToAll 93 = .ok (.iload 4, 2) := by decide +kernel
theorem zd_X_comesToAll_95 : decode zc_X_comesToAll 95 = .ok (.iaload, 1) := by decide +kernel
theorem zd_X_comesToAll_96 : decode zc_X_comesToAll 96 = .ok (.istore 6, 2) := by decide +kernel
theorem zd_X_comesToAll_98 : decode zc_X_comesToAll 98 = .ok (.aload_n 0, 1) := by decide +kernel
theorem zd_X_comesToAll_99 : decode zc_X_comesToAll 99 = .ok (.getfield 57, 3) := by decide +kernel
theorem zd_X_comesToAll_102 : decode zc_X_comesToAll 102 = .ok (.iload 5, 2) := by decide +kernel
theorem zd_X_comesToAll_104 : decode zc_X_comesToAll 104 = .ok (.baload, 1) := by decide +kernel
theorem zd_X_comesToAll_105 : decode zc_X_comesToAll 105 = .ok (.ifCond .eq 26, 3) := by decide +kernel
theorem zd_X_comesToAll_108 : decode zc_X_comesToAll 108 = .ok (.aload_n 0, 1) := by decide +kernel
theorem zd_X_comesToAll_109 : decode zc_X_comesToAll 109 = .ok (.getfield 57, 3) := by decide +kernel
theorem zd_X_comesToAll_112 : decode zc_X_comesToAll 112 = .ok (.iload 6, 2) := by decide +kernel
theorem zd_X_comesToAll_114 : decode zc_X_comesToAll 114 = .ok (.baload, 1) := by decide +kernel
theorem zd_X_comesToAll_115 : decode zc_X_comesToAll 115 = .ok (.ifCond .eq 6, 3) := by decide +kernel
theorem zd_X_comesToAll_118 : decode zc_X_comesToAll 118 = .ok (.goto 13, 3) := by decide +kernel
theorem zd_X_comesToAll_121 : decode zc_X_comesToAll 121 = .ok (.aload_n 0, 1) := by decide +kernel
theorem zd_X_comesToAll_122 : decode zc_X_comesToAll 122 = .ok (.getfield 57, 3) := by decide +kernel
theorem zd_X_comesToAll_125 : decode zc_X_comesToAll 125 = .ok (.iload 6, 2) := by decide +kernel
theorem zd_X_comesToAll_127 : decode zc_X_comesToAll 127 = .ok (.iconst 1, 1) := by decide +kernel
theorem zd_X_comesToAll_128 : decode zc_X_comesToAll 128 = .ok (.bastore, 1) := by decide +kernel
theorem zd_X_comesToAll_129 : decode zc_X_comesToAll 129 = .ok (.iconst 1, 1) := by decide +kernel
theorem zd_X_comesToAll_130 : decode zc_X_comesToAll 130 = .ok (.istore_n 3, 1) := by decide +kernel
theorem zd_X_comesToAll_131 : decode zc_X_comesToAll 131 = .ok (.iinc 4 1, 3) := by decide +kernel
theorem zd_X_comesToAll_134 : decode zc_X_comesToAll 134 = .ok (.goto (-91), 3) := by decide +kernel
theorem zd_X_comesToAll_137 : decode zc_X_comesToAll 137 = .ok (.goto (-103), 3) := by decide +kernel
theorem zd_X_comesToAll_140 : decode zc_X_comesToAll 140 = .ok (.iconst 0, 1) := by decide +kernel
theorem zd_X_comesToAll_141 : decode zc_X_comesToAll 141 = .ok (.istore 4, 2) := by decide +kernel
theorem zd_X_comesToAll_143 : decode zc_X_comesToAll 143 = .ok (.iload 4, 2) := by decide +kernel
theorem zd_X_comesToAll_145 : decode zc_X_comesToAll 145 = .ok (.aload_n 0, 1) := by decide +kernel
theorem zd_X_comesToAll_146 : decode zc_X_comesToAll 146 = .ok (.getfield 7, 3) := by decide +kernel
theorem zd_X_comesToAll_149 : decode zc_X_comesToAll 149 = .ok (.if_icmp .ge 37, 3) := by decide +kernel
theorem zd_X_comesToAll_152 : decode zc_X_comesToAll 152 = .ok (.aload_n 0, 1) := by decide +kernel
theorem zd_X_comesToAll_153 : decode zc_X_comesToAll 153 = .ok (.getfield 32, 3) := by decide +kernel
theorem zd_X_comesToAll_156 : decode zc_X_comesToAll 156 = .ok (.iload 4, 2) := by decide +kernel
theorem zd_X_comesToAll_158 : decode zc_X_comesToAll 158 = .ok (.iaload, 1) := by decide +kernel
theorem zd_X_comesToAll_159 : decode zc_X_comesToAll 159 = .ok (.aload_n 0, 1) := by decide +kernel
theorem zd_X_comesToAll_160 : decode zc_X_comesToAll 160 = .ok (.getfield 32, 3) := by decide +kernel
theorem zd_X_comesToAll_163 : decode zc_X_comesToAll 163 = .ok (.iload_n 1, 1) := by decide +kernel
theorem zd_X_comesToAll_164 : decode zc_X_comesToAll 164 = .ok (.iaload, 1) := by decide +kernel
theorem zd_X_comesToAll_165 : decode zc_X_comesToAll 165 = .ok (.if_icmp .ne 15, 3) := by decide +kernel
theorem zd_X_comesToAll_168 : decode zc_X_comesToAll 168 = .ok (.aload_n 0, 1) := by decide +kernel
theorem zd_X_comesToAll_169 : decode zc_X_comesToAll 169 = .ok (.getfield 57, 3) := by decide +kernel
theorem zd_X_comesToAll_172 : decode zc_X_comesToAll 172 = .ok (.iload 4, 2) := by decide +kernel
theorem zd_X_comesToAll_174 : decode zc_X_comesToAll 174 = .ok (.baload, 1) := by decide +kernel
theorem zd_X_comesToAll_175 : decode zc_X_comesToAll 175 = .ok (.ifCond .ne 5, 3) := by decide +kernel
theorem zd_X_comesToAll_178 : decode zc_X_comesToAll 178 = .ok (.iconst 0, 1) := by decide +kernel
theorem zd_X_comesToAll_179 : decode zc_X_comesToAll 179 = .ok (.ireturn, 1) := by decide +kernel
theorem zd_X_comesToAll_180 : decode zc_X_comesToAll 180 = .ok (.iinc 4 1, 3) := by decide +kernel
theorem zd_X_comesToAll_183 : decode zc_X_comesToAll 183 = .ok (.goto (-40), 3) := by decide +kernel
theorem zd_X_comesToAll_186 : decode zc_X_comesToAll 186 = .ok (.iconst 1, 1) := by decide +kernel
theorem zd_X_comesToAll_187 : decode zc_X_comesToAll 187 = .ok (.ireturn, 1) := by decide +kernel
theorem zd_X_edge_0 : decode zc_X_edge 0 = .ok (.aload_n 0, 1) := by decide +kernel
theorem zd_X_edge_1 : decode zc_X_edge 1 = .ok (.getfield 64, 3) := by decide +kernel
theorem zd_X_edge_4 : decode zc_X_edge 4 = .ok (.aload_n 0, 1) := by decide +kernel
theorem zd_X_edge_5 : decode zc_X_edge 5 = .ok (.getfield 148, 3) := by decide +kernel
theorem zd_X_edge_8 : decode zc_X_edge 8 = .ok (.iload_n 1, 1) := by decide +kernel
theorem zd_X_edge_9 : decode zc_X_edge 9 = .ok (.iastore, 1) := by decide +kernel
theorem zd_X_edge_10 : decode zc_X_edge 10 = .ok (.aload_n 0, 1) := by decide +kernel
theorem zd_X_edge_11 : decode zc_X_edge 11 = .ok (.getfield 67, 3) := by decide +kernel
theorem zd_X_edge_14 : decode zc_X_edge 14 = .ok (.aload_n 0, 1) := by decide +kernel
theorem zd_X_edge_15 : decode zc_X_edge 15 = .ok (.getfield 148, 3) := by decide +kernel
theorem zd_X_edge_18 : decode zc_X_edge 18 = .ok (.iload_n 2, 1) := by decide +kernel
theorem zd_X_edge_19 : decode zc_X_edge 19 = .ok (.iastore, 1) := by decide +kernel
theorem zd_X_edge_20 : decode zc_X_edge 20 = .ok (.aload_n 0, 1) := by decide +kernel
theorem zd_X_edge_21 : decode zc_X_edge 21 = .ok (.getfield 70, 3) := by decide +kernel
theorem zd_X_edge_24 : decode zc_X_edge 24 = .ok (.aload_n 0, 1) := by decide +kernel
theorem zd_X_edge_25 : decode zc_X_edge 25 = .ok (.getfield 148, 3) := by decide +kernel
theorem zd_X_edge_28 : decode zc_X_edge 28 = .ok (.iload_n 3, 1) := by decide +kernel
theorem zd_X_edge_29 : decode zc_X_edge 29 = .ok (.iastore, 1) := by decide +kernel
theorem zd_X_edge_30 : decode zc_X_edge 30 = .ok (.aload_n 0, 1) := by decide +kernel
theorem zd_X_edge_31 : decode zc_X_edge 31 = .ok (.getfield 73, 3) := by decide +kernel
theorem zd_X_edge_34 : decode zc_X_edge 34 = .ok (.aload_n 0, 1) := by decide +kernel
theorem zd_X_edge_35 : decode zc_X_edge 35 = .ok (.getfield 148, 3) := by decide +kernel
theorem zd_X_edge_38 : decode zc_X_edge 38 = .ok (.iload 4, 2) := by decide +kernel
theorem zd_X_edge_40 : decode zc_X_edge 40 = .ok (.iastore, 1) := by decide +kernel
theorem zd_X_edge_41 : decode zc_X_edge 41 = .ok (.aload_n 0, 1) := by decide +kernel
theorem zd_X_edge_42 : decode zc_X_edge 42 = .ok (.dup, 1) := by decide +kernel
theorem zd_X_edge_43 : decode zc_X_edge 43 = .ok (.getfield 148, 3) := by decide +kernel
theorem zd_X_edge_46 : decode zc_X_edge 46 = .ok (.iconst 1, 1) := by decide +kernel
theorem zd_X_edge_47 : decode zc_X_edge 47 = .ok (.iadd, 1) := by decide +kernel
theorem zd_X_edge_48 : decode zc_X_edge 48 = .ok (.putfield 148, 3) := by decide +kernel
theorem zd_X_edge_51 : decode zc_X_edge 51 = .ok (.return_, 1) := by decide +kernel
theorem zd_X_down_0 : decode zc_X_down 0 = .ok (.iload_n 0, 1) := by decide +kernel
theorem zd_X_down_1 : decode zc_X_down 1 = .ok (.ifCond .lt 9, 3) := by decide +kernel
theorem zd_X_down_4 : decode zc_X_down 4 = .ok (.iload_n 0, 1) := by decide +kernel
theorem zd_X_down_5 : decode zc_X_down 5 = .ok (.iload_n 1, 1) := by decide +kernel
theorem zd_X_down_6 : decode zc_X_down 6 = .ok (.idiv, 1) := by decide +kernel
theorem zd_X_down_7 : decode zc_X_down 7 = .ok (.goto 11, 3) := by decide +kernel
theorem zd_X_down_10 : decode zc_X_down 10 = .ok (.iload_n 1, 1) := by decide +kernel
theorem zd_X_down_11 : decode zc_X_down 11 = .ok (.iconst 1, 1) := by decide +kernel
theorem zd_X_down_12 : decode zc_X_down 12 = .ok (.isub, 1) := by decide +kernel
theorem zd_X_down_13 : decode zc_X_down 13 = .ok (.iload_n 0, 1) := by decide +kernel
theorem zd_X_down_14 : decode zc_X_down 14 = .ok (.isub, 1) := by decide +kernel
theorem zd_X_down_15 : decode zc_X_down 15 = .ok (.iload_n 1, 1) := by decide +kernel
theorem zd_X_down_16 : decode zc_X_down 16 = .ok (.idiv, 1) := by decide +kernel
theorem zd_X_down_17 : decode zc_X_down 17 = .ok (.ineg, 1) := by decide +kernel
theorem zd_X_down_18 : decode zc_X_down 18 = .ok (.ireturn, 1) := by decide +kernel
theorem zd_X_build_0 : decode zc_X_build 0 = .ok (.aload_n 0, 1) := by decide +kernel
theorem zd_X_build_1 : decode zc_X_build 1 = .ok (.iconst 0, 1) := by decide +kernel
theorem zd_X_build_2 : decode zc_X_build 2 = .ok (.putfield 151, 3) := by decide +kernel
theorem zd_X_build_5 : decode zc_X_build 5 = .ok (.aload_n 0, 1) := by decide +kernel
theorem zd_X_build_6 : decode zc_X_build 6 = .ok (.iconst 0, 1) := by decide +kernel
theorem zd_X_build_7 : decode zc_X_build 7 = .ok (.putfield 148, 3) := by decide +kernel
theorem zd_X_build_10 : decode zc_X_build 10 = .ok (.iconst 0, 1) := by decide +kernel
theorem zd_X_build_11 : decode zc_X_build 11 = .ok (.istore_n 2, 1) := by decide +kernel
theorem zd_X_build_12 : decode zc_X_build 12 = .ok (.iload_n 2, 1) := by decide +kernel
theorem zd_X_build_13 : decode zc_X_build 13 = .ok (.aload_n 0, 1) := by decide +kernel
theorem zd_X_build_14 : decode zc_X_build 14 = .ok (.getfield 7, 3) := by decide +kernel
theorem zd_X_build_17 : decode zc_X_build 17 = .ok (.if_icmp .ge 117, 3) := by decide +kernel
theorem zd_X_build_20 : decode zc_X_build 20 = .ok (.aload_n 0, 1) := by decide +kernel
theorem zd_X_build_21 : decode zc_X_build 21 = .ok (.getfield 32, 3) := by decide +kernel
theorem zd_X_build_24 : decode zc_X_build 24 = .ok (.iload_n 2, 1) := by decide +kernel
theorem zd_X_build_25 : decode zc_X_build 25 = .ok (.iaload, 1) := by decide +kernel
theorem zd_X_build_26 : decode zc_X_build 26 = .ok (.iload_n 1, 1) := by decide +kernel
theorem zd_X_build_27 : decode zc_X_build 27 = .ok (.if_icmp .eq 6, 3) := by decide +kernel
theorem zd_X_build_30 : decode zc_X_build 30 = .ok (.goto 98, 3) := by decide +kernel
theorem zd_X_build_33 : decode zc_X_build 33 = .ok (.aload_n 0, 1) := by decide +kernel
theorem zd_X_build_34 : decode zc_X_build 34 = .ok (.getfield 61, 3) := by decide +kernel
theorem zd_X_build_37 : decode zc_X_build 37 = .ok (.iload_n 2, 1) := by decide +kernel
theorem zd_X_build_38 : decode zc_X_build 38 = .ok (.aload_n 0, 1) := by decide +kernel
theorem zd_X_build_39 : decode zc_X_build 39 = .ok (.getfield 151, 3) := by decide +kernel
theorem zd_X_build_42 : decode zc_X_build 42 = .ok (.iastore, 1) := by decide +kernel
theorem zd_X_build_43 : decode zc_X_build 43 = .ok (.aload_n 0, 1) := by decide +kernel
theorem zd_X_build_44 : decode zc_X_build 44 = .ok (.dup, 1) := by decide +kernel
theorem zd_X_build_45 : decode zc_X_build 45 = .ok (.getfield 151, 3) := by decide +kernel
theorem zd_X_build_48 : decode zc_X_build 48 = .ok (.aload_n 0, 1) := by decide +kernel
theorem zd_X_build_49 : decode zc_X_build 49 = .ok (.getfield 42, 3) := by decide +kernel
theorem zd_X_build_52 : decode zc_X_build 52 = .ok (.iload_n 2, 1) := by decide +kernel
theorem zd_X_build_53 : decode zc_X_build 53 = .ok (.iaload, 1) := by decide +kernel
theorem zd_X_build_54 : decode zc_X_build 54 = .ok (.iadd, 1) := by decide +kernel
theorem zd_X_build_55 : decode zc_X_build 55 = .ok (.putfield 151, 3) := by decide +kernel
theorem zd_X_build_58 : decode zc_X_build 58 = .ok (.iconst 0, 1) := by decide +kernel
theorem zd_X_build_59 : decode zc_X_build 59 = .ok (.istore_n 3, 1) := by decide +kernel
theorem zd_X_build_60 : decode zc_X_build 60 = .ok (.iload_n 3, 1) := by decide +kernel
theorem zd_X_build_61 : decode zc_X_build 61 = .ok (.aload_n 0, 1) := by decide +kernel
theorem zd_X_build_62 : decode zc_X_build 62 = .ok (.getfield 42, 3) := by decide +kernel
theorem zd_X_build_65 : decode zc_X_build 65 = .ok (.iload_n 2, 1) := by decide +kernel
theorem zd_X_build_66 : decode zc_X_build 66 = .ok (.iaload, 1) := by decide +kernel
theorem zd_X_build_67 : decode zc_X_build 67 = .ok (.if_icmp .ge 61, 3) := by decide +kernel
theorem zd_X_build_70 : decode zc_X_build 70 = .ok (.aload_n 0, 1) := by decide +kernel
theorem zd_X_build_71 : decode zc_X_build 71 = .ok (.aload_n 0, 1) := by decide +kernel
theorem zd_X_build_72 : decode zc_X_build 72 = .ok (.getfield 61, 3) := by decide +kernel
theorem zd_X_build_75 : decode zc_X_build 75 = .ok (.iload_n 2, 1) := by decide +kernel
theorem zd_X_build_76 : decode zc_X_build 76 = .ok (.iaload, 1) := by decide +kernel
theorem zd_X_build_77 : decode zc_X_build 77 = .ok (.iload_n 3, 1) := by decide +kernel
theorem zd_X_build_78 : decode zc_X_build 78 = .ok (.ifCond .ne 14, 3) := by decide +kernel
theorem zd_X_build_81 : decode zc_X_build 81 = .ok (.aload_n 0, 1) := by decide +kernel
theorem zd_X_build_82 : decode zc_X_build 82 = .ok (.getfield 42, 3) := by decide +kernel
theorem zd_X_build_85 : decode zc_X_build 85 = .ok (.iload_n 2, 1) := by decide +kernel
theorem zd_X_build_86 : decode zc_X_build 86 = .ok (.iaload, 1) := by decide +kernel
theorem zd_X_build_87 : decode zc_X_build 87 = .ok (.iconst 1, 1) := by decide +kernel
theorem zd_X_build_88 : decode zc_X_build 88 = .ok (.isub, 1) := by decide +kernel
theorem zd_X_build_89 : decode zc_X_build 89 = .ok (.goto 6, 3) := by decide +kernel
theorem zd_X_build_92 : decode zc_X_build 92 = .ok (.iload_n 3, 1) := by decide +kernel
theorem zd_X_build_93 : decode zc_X_build 93 = .ok (.iconst 1, 1) := by decide +kernel
theorem zd_X_build_94 : decode zc_X_build 94 = .ok (.isub, 1) := by decide +kernel
theorem zd_X_build_95 : decode zc_X_build 95 = .ok (.iadd, 1) := by decide +kernel
theorem zd_X_build_96 : decode zc_X_build 96 = .ok (.aload_n 0, 1) := by decide +kernel
theorem zd_X_build_97 : decode zc_X_build 97 = .ok (.getfield 61, 3) := by decide +kernel
theorem zd_X_build_100 : decode zc_X_build 100 = .ok (.iload_n 2, 1) := by decide +kernel
theorem zd_X_build_101 : decode zc_X_build 101 = .ok (.iaload, 1) := by decide +kernel
theorem zd_X_build_102 : decode zc_X_build 102 = .ok (.iload_n 3, 1) := by decide +kernel
theorem zd_X_build_103 : decode zc_X_build 103 = .ok (.iadd, 1) := by decide +kernel
theorem zd_X_build_104 : decode zc_X_build 104 = .ok (.aload_n 0, 1) := by decide +kernel
theorem zd_X_build_105 : decode zc_X_build 105 = .ok (.getfield 13, 3) := by decide +kernel
theorem zd_X_build_108 : decode zc_X_build 108 = .ok (.iload_n 2, 1) := by decide +kernel
theorem zd_X_build_109 : decode zc_X_build 109 = .ok (.iaload, 1) := by decide +kernel
theorem zd_X_build_110 : decode zc_X_build 110 = .ok (.iload_n 3, 1) := by decide +kernel
theorem zd_X_build_111 : decode zc_X_build 111 = .ok (.ifCond .ne 7, 3) := by decide +kernel
theorem zd_X_build_114 : decode zc_X_build 114 = .ok (.iconst 1, 1) := by decide +kernel
theorem zd_X_build_115 : decode zc_X_build 115 = .ok (.goto 4, 3) := by decide +kernel
theorem zd_X_build_118 : decode zc_X_build 118 = .ok (.iconst 0, 1) := by decide +kernel
theorem zd_X_build_119 : decode zc_X_build 119 = .ok (.invokevirtual 154, 3) := by decide +kernel
theorem zd_X_build_122 : decode zc_X_build 122 = .ok (.iinc 3 1, 3) := by decide +kernel
theorem zd_X_build_125 : decode zc_X_build 125 = .ok (.goto (-65), 3) := by decide +kernel
theorem zd_X_build_128 : decode zc_X_build 128 = .ok (.iinc 2 1, 3) := by decide +kernel
theorem zd_X_build_131 : decode zc_X_build 131 = .ok (.goto (-119), 3) := by decide +kernel
theorem zd_X_build_134 : decode zc_X_build 134 = .ok (.iconst 0, 1) := by decide +kernel
theorem zd_X_build_135 : decode zc_X_build 135 = .ok (.istore_n 2, 1) := by decide +kernel
theorem zd_X_build_136 : decode zc_X_build 136 = .ok (.iload_n 2, 1) := by decide +kernel
theorem zd_X_build_137 : decode zc_X_build 137 = .ok (.aload_n 0, 1) := by decide +kernel
theorem zd_X_build_138 : decode zc_X_build 138 = .ok (.getfield 89, 3) := by decide +kernel
theorem zd_X_build_141 : decode zc_X_build 141 = .ok (.if_icmp .ge 155, 3) := by decide +kernel
theorem zd_X_build_144 : decode zc_X_build 144 = .ok (.aload_n 0, 1) := by decide +kernel
theorem zd_X_build_145 : decode zc_X_build 145 = .ok (.getfield 32, 3) := by decide +kernel
theorem zd_X_build_148 : decode zc_X_build 148 = .ok (.aload_n 0, 1) := by decide +kernel
theorem zd_X_build_149 : decode zc_X_build 149 = .ok (.getfield 17, 3) := by decide +kernel
theorem zd_X_build_152 : decode zc_X_build 152 = .ok (.iload_n 2, 1) := by decide +kernel
theorem zd_X_build_153 : decode zc_X_build 153 = .ok (.iaload, 1) := by decide +kernel
theorem zd_X_build_154 : decode zc_X_build 154 = .ok (.iaload, 1) := by decide +kernel
theorem zd_X_build_155 : decode zc_X_build 155 = .ok (.iload_n 1, 1) := by decide +kernel
theorem zd_X_build_156 : decode zc_X_build 156 = .ok (.if_icmp .eq 6, 3) := by decide +kernel
theorem zd_X_build_159 : decode zc_X_build 159 = .ok (.goto 131, 3) := by decide +kernel
theorem zd_X_build_162 : decode zc_X_build 162 = .ok (.aload_n 0, 1) := by decide +kernel
theorem zd_X_build_163 : decode zc_X_build 163 = .ok (.getfield 42, 3) := by decide +kernel
theorem zd_X_build_166 : decode zc_X_build 166 = .ok (.aload_n 0, 1) := by decide +kernel
theorem zd_X_build_167 : decode zc_X_build 167 = .ok (.getfield 17, 3) := by decide +kernel
theorem zd_X_build_170 : decode zc_X_build 170 = .ok (.iload_n 2, 1) := by decide +kernel
theorem zd_X_build_171 : decode zc_X_build 171 = .ok (.iaload, 1) := by decide +kernel
theorem zd_X_build_172 : decode zc_X_build 172 = .ok (.iaload, 1) := by decide +kernel
theorem zd_X_build_173 : decode zc_X_build 173 = .ok (.istore_n 3, 1) := by decide +kernel
theorem zd_X_build_174 : decode zc_X_build 174 = .ok (.iconst 0, 1) := by decide +kernel
theorem zd_X_build_175 : decode zc_X_build 175 = .ok (.istore 4, 2) := by decide +kernel
theorem zd_X_build_177 : decode zc_X_build 177 = .ok (.iload 4, 2) := by decide +kernel
theorem zd_X_build_179 : decode zc_X_build 179 = .ok (.aload_n 0, 1) := by decide +kernel
theorem zd_X_build_180 : decode zc_X_build 180 = .ok (.getfield 42, 3) := by decide +kernel
theorem zd_X_build_183 : decode zc_X_build 183 = .ok (.aload_n 0, 1) := by decide +kernel
theorem zd_X_build_184 : decode zc_X_build 184 = .ok (.getfield 20, 3) := by decide +kernel
theorem zd_X_build_187 : decode zc_X_build 187 = .ok (.iload_n 2, 1) := by decide +kernel
theorem zd_X_build_188 : decode zc_X_build 188 = .ok (.iaload, 1) := by decide +kernel
theorem zd_X_build_189 : decode zc_X_build 189 = .ok (.iaload, 1) := by decide +kernel
theorem zd_X_build_190 : decode zc_X_build 190 = .ok (.if_icmp .ge 100, 3) := by decide +kernel
theorem zd_X_build_193 : decode zc_X_build 193 = .ok (.aload_n 0, 1) := by decide +kernel
theorem zd_X_build_194 : decode zc_X_build 194 = .ok (.getfield 29, 3) := by decide +kernel
theorem zd_X_build_197 : decode zc_X_build 197 = .ok (.iload_n 2, 1) := by decide +kernel
theorem zd_X_build_198 : decode zc_X_build 198 = .ok (.iaload, 1) := by decide +kernel
theorem zd_X_build_199 : decode zc_X_build 199 = .ok (.aload_n 0, 1) := by decide +kernel
theorem zd_X_build_200 : decode zc_X_build 200 = .ok (.getfield 26, 3) := by decide +kernel
theorem zd_X_build_203 : decode zc_X_build 203 = .ok (.iload_n 2, 1) := by decide +kernel
theorem zd_X_build_204 : decode zc_X_build 204 = .ok (.iaload, 1) := by decide +kernel
theorem zd_X_build_205 : decode zc_X_build 205 = .ok (.iload 4, 2) := by decide +kernel
theorem zd_X_build_207 : decode zc_X_build 207 = .ok (.iconst 1, 1) := by decide +kernel
theorem zd_X_build_208 : decode zc_X_build 208 = .ok (.iadd, 1) := by decide +kernel
theorem zd_X_build_209 : decode zc_X_build 209 = .ok (.imul, 1) := by decide +kernel
theorem zd_X_build_210 : decode zc_X_build 210 = .ok (.isub, 1) := by decide +kernel
theorem zd_X_build_211 : decode zc_X_build 211 = .ok (.aload_n 0, 1) := by decide +kernel
theorem zd_X_build_212 : decode zc_X_build 212 = .ok (.getfield 23, 3) := by decide +kernel
theorem zd_X_build_215 : decode zc_X_build 215 = .ok (.iload_n 2, 1) := by decide +kernel
theorem zd_X_build_216 : decode zc_X_build 216 = .ok (.iaload, 1) := by decide +kernel
theorem zd_X_build_217 : decode zc_X_build 217 = .ok (.invokestatic 158, 3) := by decide +kernel
theorem zd_X_build_220 : decode zc_X_build 220 = .ok (.ineg, 1) := by decide +kernel
theorem zd_X_build_221 : decode zc_X_build 221 = .ok (.iconst 1, 1) := by decide +kernel
theorem zd_X_build_222 : decode zc_X_build 222 = .ok (.isub, 1) := by decide +kernel
theorem zd_X_build_223 : decode zc_X_build 223 = .ok (.istore 5, 2) := by decide +kernel
theorem zd_X_build_225 : decode zc_X_build 225 = .ok (.iload 5, 2) := by decide +kernel
theorem zd_X_build_227 : decode zc_X_build 227 = .ok (.iload_n 3, 1) := by decide +kernel
theorem zd_X_build_228 : decode zc_X_build 228 = .ok (.invokestatic 158, 3) := by decide +kernel
theorem zd_X_build_231 : decode zc_X_build 231 = .ok (.ineg, 1) := by decide +kernel
theorem zd_X_build_232 : decode zc_X_build 232 = .ok (.istore 6, 2) := by decide +kernel
theorem zd_X_build_234 : decode zc_X_build 234 = .ok (.aload_n 0, 1) := by decide +kernel
theorem zd_X_build_235 : decode zc_X_build 235 = .ok (.aload_n 0, 1) := by decide +kernel
theorem zd_X_build_236 : decode zc_X_build 236 = .ok (.getfield 61, 3) := by decide +kernel
theorem zd_X_build_239 : decode zc_X_build 239 = .ok (.aload_n 0, 1) := by decide +kernel
theorem zd_X_build_240 : decode zc_X_build 240 = .ok (.getfield 17, 3) := by decide +kernel
theorem zd_X_build_243 : decode zc_X_build 243 = .ok (.iload_n 2, 1) := by decide +kernel
theorem zd_X_build_244 : decode zc_X_build 244 = .ok (.iaload, 1) := by decide +kernel
theorem zd_X_build_245 : decode zc_X_build 245 = .ok (.iaload, 1) := by decide +kernel
theorem zd_X_build_246 : decode zc_X_build 246 = .ok (.iload 5, 2) := by decide +kernel
theorem zd_X_build_248 : decode zc_X_build 248 = .ok (.iadd, 1) := by decide +kernel
theorem zd_X_build_249 : decode zc_X_build 249 = .ok (.iload 6, 2) := by decide +kernel
theorem zd_X_build_251 : decode zc_X_build 251 = .ok (.iload_n 3, 1) := by decide +kernel
theorem zd_X_build_252 : decode zc_X_build 252 = .ok (.imul, 1) := by decide +kernel
theorem zd_X_build_253 : decode zc_X_build 253 = .ok (.iadd, 1) := by decide +kernel
theorem zd_X_build_254 : decode zc_X_build 254 = .ok (.aload_n 0, 1) := by decide +kernel
theorem zd_X_build_255 : decode zc_X_build 255 = .ok (.getfield 61, 3) := by decide +kernel
theorem zd_X_build_258 : decode zc_X_build 258 = .ok (.aload_n 0, 1) := by decide +kernel
theorem zd_X_build_259 : decode zc_X_build 259 = .ok (.getfield 20, 3) := by decide +kernel
theorem zd_X_build_262 : decode zc_X_build 262 = .ok (.iload_n 2, 1) := by decide +kernel
theorem zd_X_build_263 : decode zc_X_build 263 = .ok (.iaload, 1) := by decide +kernel
theorem zd_X_build_264 : decode zc_X_build 264 = .ok (.iaload, 1) := by decide +kernel
theorem zd_X_build_265 : decode zc_X_build 265 = .ok (.iload 4, 2) := by decide +kernel
theorem zd_X_build_267 : decode zc_X_build 267 = .ok (.iadd, 1) := by decide +kernel
theorem zd_X_build_268 : decode zc_X_build 268 = .ok (.aload_n 0, 1) := by decide +kernel
theorem zd_X_build_269 : decode zc_X_build 269 = .ok (.getfield 13, 3) := by decide +kernel
theorem zd_X_build_272 : decode zc_X_build 272 = .ok (.aload_n 0, 1) := by decide +kernel
theorem zd_X_build_273 : decode zc_X_build 273 = .ok (.getfield 17, 3) := by decide +kernel
theorem zd_X_build_276 : decode zc_X_build 276 = .ok (.iload_n 2, 1) := by decide +kernel
theorem zd_X_build_277 : decode zc_X_build 277 = .ok (.iaload, 1) := by decide +kernel
theorem zd_X_build_278 : decode zc_X_build 278 = .ok (.iaload, 1) := by decide +kernel
theorem zd_X_build_279 : decode zc_X_build 279 = .ok (.iload 6, 2) := by decide +kernel
theorem zd_X_build_281 : decode zc_X_build 281 = .ok (.invokevirtual 154, 3) := by decide +kernel
theorem zd_X_build_284 : decode zc_X_build 284 = .ok (.iinc 4 1, 3) := by decide +kernel
theorem zd_X_build_287 : decode zc_X_build 287 = .ok (.goto (-110), 3) := by decide +kernel
theorem zd_X_build_290 : decode zc_X_build 290 = .ok (.iinc 2 1, 3) := by decide +kernel
theorem zd_X_build_293 : decode zc_X_build 293 = .ok (.goto (-157), 3) := by decide +kernel
theorem zd_X_build_296 : decode zc_X_build 296 = .ok (.return_, 1) := by decide +kernel
theorem zd_X_isSlower_0 : decode zc_X_isSlower 0 = .ok (.iconst 0, 1) := by decide +kernel
theorem zd_X_isSlower_1 : decode zc_X_isSlower 1 = .ok (.istore_n 3, 1) := by decide +kernel
theorem zd_X_isSlower_2 : decode zc_X_isSlower 2 = .ok (.iload_n 3, 1) := by decide +kernel
theorem zd_X_isSlower_3 : decode zc_X_isSlower 3 = .ok (.aload_n 0, 1) := by decide +kernel
theorem zd_X_isSlower_4 : decode zc_X_isSlower 4 = .ok (.getfield 151, 3) := by decide +kernel
theorem zd_X_isSlower_7 : decode zc_X_isSlower 7 = .ok (.if_icmp .ge 16, 3) := by decide +kernel
theorem zd_X_isSlower_10 : decode zc_X_isSlower 10 = .ok (.aload_n 0, 1) := by decide +kernel
theorem zd_X_isSlower_11 : decode zc_X_isSlower 11 = .ok (.getfield 76, 3) := by decide +kernel
theorem zd_X_isSlower_14 : decode zc_X_isSlower 14 = .ok (.iload_n 3, 1) := by decide +kernel
theorem zd_X_isSlower_15 : decode zc_X_isSlower 15 = .ok (.lconst 0, 1) := by decide +kernel
theorem zd_X_isSlower_16 : decode zc_X_isSlower 16 = .ok (.lastore, 1) := by decide +kernel
theorem zd_X_isSlower_17 : decode zc_X_isSlower 17 = .ok (.iinc 3 1, 3) := by decide +kernel
theorem zd_X_isSlower_20 : decode zc_X_isSlower 20 = .ok (.goto (-18), 3) := by decide +kernel
theorem zd_X_isSlower_23 : decode zc_X_isSlower 23 = .ok (.iconst 1, 1) := by decide +kernel
theorem zd_X_isSlower_24 : decode zc_X_isSlower 24 = .ok (.istore_n 3, 1) := by decide +kernel
theorem zd_X_isSlower_25 : decode zc_X_isSlower 25 = .ok (.iconst 0, 1) := by decide +kernel
theorem zd_X_isSlower_26 : decode zc_X_isSlower 26 = .ok (.istore 4, 2) := by decide +kernel
theorem zd_X_isSlower_28 : decode zc_X_isSlower 28 = .ok (.iload 4, 2) := by decide +kernel
theorem zd_X_isSlower_30 : decode zc_X_isSlower 30 = .ok (.aload_n 0, 1) := by decide +kernel
theorem zd_X_isSlower_31 : decode zc_X_isSlower 31 = .ok (.getfield 151, 3) := by decide +kernel
theorem zd_X_isSlower_34 : decode zc_X_isSlower 34 = .ok (.if_icmp .gt 107, 3) := by decide +kernel
theorem zd_X_isSlower_37 : decode zc_X_isSlower 37 = .ok (.iload_n 3, 1) := by decide +kernel
theorem zd_X_isSlower_38 : decode zc_X_isSlower 38 = .ok (.ifCond .eq 103, 3) := by decide +kernel
theorem zd_X_isSlower_41 : decode zc_X_isSlower 41 = .ok (.iconst 0, 1) := by decide +kernel
theorem zd_X_isSlower_42 : decode zc_X_isSlower 42 = .ok (.istore_n 3, 1) := by decide +kernel
theorem zd_X_isSlower_43 : decode zc_X_isSlower 43 = .ok (.iconst 0, 1) := by decide +kernel
theorem zd_X_isSlower_44 : decode zc_X_isSlower 44 = .ok (.istore 5, 2) := by decide +kernel
theorem zd_X_isSlower_46 : decode zc_X_isSlower 46 = .ok (.iload 5, 2) := by decide +kernel
theorem zd_X_isSlower_48 : decode zc_X_isSlower 48 = .ok (.aload_n 0, 1) := by decide +kernel
theorem zd_X_isSlower_49 : decode zc_X_isSlower 49 = .ok (.getfield 148, 3) := by decide +kernel
theorem zd_X_isSlower_52 : decode zc_X_isSlower 52 = .ok (.if_icmp .ge 83, 3) := by decide +kernel
theorem zd_X_isSlower_55 : decode zc_X_isSlower 55 = .ok (.aload_n 0, 1) := by decide +kernel
theorem zd_X_isSlower_56 : decode zc_X_isSlower 56 = .ok (.getfield 76, 3) := by decide +kernel
theorem zd_X_isSlower_59 : decode zc_X_isSlower 59 = .ok (.aload_n 0, 1) := by decide +kernel
theorem zd_X_isSlower_60 : decode zc_X_isSlower 60 = .ok (.getfield 64, 3) := by decide +kernel
theorem zd_X_isSlower_63 : decode zc_X_isSlower 63 = .ok (.iload 5, 2) := by decide +kernel
theorem zd_X_isSlower_65 : decode zc_X_isSlower 65 = .ok (.iaload, 1) := by decide +kernel
theorem zd_X_isSlower_66 : decode zc_X_isSlower 66 = .ok (.laload, 1) := by decide +kernel
theorem zd_X_isSlower_67 : decode zc_X_isSlower 67 = .ok (.aload_n 0, 1) := by decide +kernel
theorem zd_X_isSlower_68 : decode zc_X_isSlower 68 = .ok (.getfield 70, 3) := by decide +kernel
theorem zd_X_isSlower_71 : decode zc_X_isSlower 71 = .ok (.iload 5, 2) := by decide +kernel
theorem zd_X_isSlower_73 : decode zc_X_isSlower 73 = .ok (.iaload, 1) := by decide +kernel
theorem zd_X_isSlower_74 : decode zc_X_isSlower 74 = .ok (.i2l, 1) := by decide +kernel
theorem zd_X_isSlower_75 : decode zc_X_isSlower 75 = .ok (.bipush 24, 2) := by decide +kernel
theorem zd_X_isSlower_77 : decode zc_X_isSlower 77 = .ok (.lshl, 1) := by decide +kernel
theorem zd_X_isSlower_78 : decode zc_X_isSlower 78 = .ok (.ladd, 1) := by decide +kernel
theorem zd_X_isSlower_79 : decode zc_X_isSlower 79 = .ok (.lload_n 1, 1) := by decide +kernel
theorem zd_X_isSlower_80 : decode zc_X_isSlower 80 = .ok (.aload_n 0, 1) := by decide +kernel
theorem zd_X_isSlower_81 : decode zc_X_isSlower 81 = .ok (.getfield 73, 3) := by decide +kernel
theorem zd_X_isSlower_84 : decode zc_X_isSlower 84 = .ok (.iload 5, 2) := by decide +kernel
theorem zd_X_isSlower_86 : decode zc_X_isSlower 86 = .ok (.iaload, 1) := by decide +kernel
theorem zd_X_isSlower_87 : decode zc_X_isSlower 87 = .ok (.i2l, 1) := by decide +kernel
theorem zd_X_isSlower_88 : decode zc_X_isSlower 88 = .ok (.lmul, 1) := by decide +kernel
theorem zd_X_isSlower_89 : decode zc_X_isSlower 89 = .ok (.lsub, 1) := by decide +kernel
theorem zd_X_isSlower_90 : decode zc_X_isSlower 90 = .ok (.lstore 6, 2) := by decide +kernel
theorem zd_X_isSlower_92 : decode zc_X_isSlower 92 = .ok (.lload 6, 2) := by decide +kernel
theorem zd_X_isSlower_94 : decode zc_X_isSlower 94 = .ok (.aload_n 0, 1) := by decide +kernel
theorem zd_X_isSlower_95 : decode zc_X_isSlower 95 = .ok (.getfield 76, 3) := by decide +kernel
theorem zd_X_isSlower_98 : decode zc_X_isSlower 98 = .ok (.aload_n 0, 1) := by decide +kernel
theorem zd_X_isSlower_99 : decode zc_X_isSlower 99 = .ok (.getfield 67, 3) := by decide +kernel
theorem zd_X_isSlower_102 : decode zc_X_isSlower 102 = .ok (.iload 5, 2) := by decide +kernel
theorem zd_X_isSlower_104 : decode zc_X_isSlower 104 = .ok (.iaload, 1) := by decide +kernel
theorem zd_X_isSlower_105 : decode zc_X_isSlower 105 = .ok (.laload, 1) := by decide +kernel
theorem zd_X_isSlower_106 : decode zc_X_isSlower 106 = .ok (.lcmp, 1) := by decide +kernel
theorem zd_X_isSlower_107 : decode zc_X_isSlower 107 = .ok (.ifCond .gt 6, 3) := by decide +kernel
theorem zd_X_isSlower_110 : decode zc_X_isSlower 110 = .ok (.goto 19, 3) := by decide +kernel
theorem zd_X_isSlower_113 : decode zc_X_isSlower 113 = .ok (.aload_n 0, 1) := by decide +kernel
theorem zd_X_isSlower_114 : decode zc_X_isSlower 114 = .ok (.getfield 76, 3) := by decide +kernel
theorem zd_X_isSlower_117 : decode zc_X_isSlower 117 = .ok (.aload_n 0, 1) := by decide +kernel
theorem zd_X_isSlower_118 : decode zc_X_isSlower 118 = .ok (.getfield 67, 3) := by decide +kernel
theorem zd_X_isSlower_121 : decode zc_X_isSlower 121 = .ok (.iload 5, 2) := by decide +kernel
theorem zd_X_isSlower_123 : decode zc_X_isSlower 123 = .ok (.iaload, 1) := by decide +kernel
theorem zd_X_isSlower_124 : decode zc_X_isSlower 124 = .ok (.lload 6, 2) := by decide +kernel
theorem zd_X_isSlower_126 : decode zc_X_isSlower 126 = .ok (.lastore, 1) := by decide +kernel
theorem zd_X_isSlower_127 : decode zc_X_isSlower 127 = .ok (.iconst 1, 1) := by decide +kernel
theorem zd_X_isSlower_128 : decode zc_X_isSlower 128 = .ok (.istore_n 3, 1) := by decide +kernel
theorem zd_X_isSlower_129 : decode zc_X_isSlower 129 = .ok (.iinc 5 1, 3) := by decide +kernel
theorem zd_X_isSlower_132 : decode zc_X_isSlower 132 = .ok (.goto (-86), 3) := by decide +kernel
theorem zd_X_isSlower_135 : decode zc_X_isSlower 135 = .ok (.iinc 4 1, 3) := by decide +kernel
theorem zd_X_isSlower_138 : decode zc_X_isSlower 138 = .ok (.goto (-110), 3) := by decide +kernel
theorem zd_X_isSlower_141 : decode zc_X_isSlower 141 = .ok (.iload_n 3, 1) := by decide +kernel
theorem zd_X_isSlower_142 : decode zc_X_isSlower 142 = .ok (.ireturn, 1) := by decide +kernel
theorem zd_X_findPace_0 : decode zc_X_findPace 0 = .ok (.aload_n 0, 1) := by decide +kernel
theorem zd_X_findPace_1 : decode zc_X_findPace 1 = .ok (.iload_n 1, 1) := by decide +kernel
theorem zd_X_findPace_2 : decode zc_X_findPace 2 = .ok (.invokevirtual 162, 3) := by decide +kernel
theorem zd_X_findPace_5 : decode zc_X_findPace 5 = .ok (.lconst 0, 1) := by decide +kernel
theorem zd_X_findPace_6 : decode zc_X_findPace 6 = .ok (.lstore_n 2, 1) := by decide +kernel
theorem zd_X_findPace_7 : decode zc_X_findPace 7 = .ok (.ldc2_w 166, 3) := by decide +kernel
theorem zd_X_findPace_10 : decode zc_X_findPace 10 = .ok (.lstore 4, 2) := by decide +kernel
theorem zd_X_findPace_12 : decode zc_X_findPace 12 = .ok (.lload 4, 2) := by decide +kernel
theorem zd_X_findPace_14 : decode zc_X_findPace 14 = .ok (.lload_n 2, 1) := by decide +kernel
theorem zd_X_findPace_15 : decode zc_X_findPace 15 = .ok (.lsub, 1) := by decide +kernel
theorem zd_X_findPace_16 : decode zc_X_findPace 16 = .ok (.lconst 1, 1) := by decide +kernel
theorem zd_X_findPace_17 : decode zc_X_findPace 17 = .ok (.lcmp, 1) := by decide +kernel
theorem zd_X_findPace_18 : decode zc_X_findPace 18 = .ok (.ifCond .le 33, 3) := by decide +kernel
theorem zd_X_findPace_21 : decode zc_X_findPace 21 = .ok (.lload_n 2, 1) := by decide +kernel
theorem zd_X_findPace_22 : decode zc_X_findPace 22 = .ok (.lload 4, 2) := by decide +kernel
theorem zd_X_findPace_24 : decode zc_X_findPace 24 = .ok (.ladd, 1) := by decide +kernel
theorem zd_X_findPace_25 : decode zc_X_findPace 25 = .ok (.iconst 1, 1) := by decide +kernel
theorem zd_X_findPace_26 : decode zc_X_findPace 26 = .ok (.lshr, 1) := by decide +kernel
theorem zd_X_findPace_27 : decode zc_X_findPace 27 = .ok (.lstore 6, 2) := by decide +kernel
theorem zd_X_findPace_29 : decode zc_X_findPace 29 = .ok (.aload_n 0, 1) := by decide +kernel
theorem zd_X_findPace_30 : decode zc_X_findPace 30 = .ok (.lload 6, 2) := by decide +kernel
theorem zd_X_findPace_32 : decode zc_X_findPace 32 = .ok (.invokevirtual 168, 3) := by decide +kernel
theorem zd_X_findPace_35 : decode zc_X_findPace 35 = .ok (.ifCond .eq 9, 3) := by decide +kernel
theorem zd_X_findPace_38 : decode zc_X_findPace 38 = .ok (.lload 6, 2) := by decide +kernel
theorem zd_X_findPace_40 : decode zc_X_findPace 40 = .ok (.lstore_n 2, 1) := by decide +kernel
theorem zd_X_findPace_41 : decode zc_X_findPace 41 = .ok (.goto 7, 3) := by decide +kernel
theorem zd_X_findPace_44 : decode zc_X_findPace 44 = .ok (.lload 6, 2) := by decide +kernel
theorem zd_X_findPace_46 : decode zc_X_findPace 46 = .ok (.lstore 4, 2) := by decide +kernel
theorem zd_X_findPace_48 : decode zc_X_findPace 48 = .ok (.goto (-36), 3) := by decide +kernel
theorem zd_X_findPace_51 : decode zc_X_findPace 51 = .ok (.aload_n 0, 1) := by decide +kernel
theorem zd_X_findPace_52 : decode zc_X_findPace 52 = .ok (.iconst 1, 1) := by decide +kernel
theorem zd_X_findPace_53 : decode zc_X_findPace 53 = .ok (.putfield 172, 3) := by decide +kernel
theorem zd_X_findPace_56 : decode zc_X_findPace 56 = .ok (.lload 4, 2) := by decide +kernel
theorem zd_X_findPace_58 : decode zc_X_findPace 58 = .ok (.aload_n 0, 1) := by decide +kernel
theorem zd_X_findPace_59 : decode zc_X_findPace 59 = .ok (.getfield 172, 3) := by decide +kernel
theorem zd_X_findPace_62 : decode zc_X_findPace 62 = .ok (.i2l, 1) := by decide +kernel
theorem zd_X_findPace_63 : decode zc_X_findPace 63 = .ok (.lmul, 1) := by decide +kernel
theorem zd_X_findPace_64 : decode zc_X_findPace 64 = .ok (.bipush 24, 2) := by decide +kernel
theorem zd_X_findPace_66 : decode zc_X_findPace 66 = .ok (.lshr, 1) := by decide +kernel
theorem zd_X_findPace_67 : decode zc_X_findPace 67 = .ok (.bipush 24, 2) := by decide +kernel
theorem zd_X_findPace_69 : decode zc_X_findPace 69 = .ok (.lshl, 1) := by decide +kernel
theorem zd_X_findPace_70 : decode zc_X_findPace 70 = .ok (.lload_n 2, 1) := by decide +kernel
theorem zd_X_findPace_71 : decode zc_X_findPace 71 = .ok (.aload_n 0, 1) := by decide +kernel
theorem zd_X_findPace_72 : decode zc_X_findPace 72 = .ok (.getfield 172, 3) := by decide +kernel
theorem zd_X_findPace_75 : decode zc_X_findPace 75 = .ok (.i2l, 1) := by decide +kernel
theorem zd_X_findPace_76 : decode zc_X_findPace 76 = .ok (.lmul, 1) := by decide +kernel
theorem zd_X_findPace_77 : decode zc_X_findPace 77 = .ok (.lcmp, 1) := by decide +kernel
theorem zd_X_findPace_78 : decode zc_X_findPace 78 = .ok (.ifCond .gt 26, 3) := by decide +kernel
theorem zd_X_findPace_81 : decode zc_X_findPace 81 = .ok (.aload_n 0, 1) := by decide +kernel
theorem zd_X_findPace_82 : decode zc_X_findPace 82 = .ok (.getfield 172, 3) := by decide +kernel
theorem zd_X_findPace_85 : decode zc_X_findPace 85 = .ok (.sipush 2100, 3) := by decide +kernel
theorem zd_X_findPace_88 : decode zc_X_findPace 88 = .ok (.if_icmp .ge 16, 3) := by decide +kernel
theorem zd_X_findPace_91 : decode zc_X_findPace 91 = .ok (.aload_n 0, 1) := by decide +kernel
theorem zd_X_findPace_92 : decode zc_X_findPace 92 = .ok (.dup, 1) := by decide +kernel
theorem zd_X_findPace_93 : decode zc_X_findPace 93 = .ok (.getfield 172, 3) := by decide +kernel
theorem zd_X_findPace_96 : decode zc_X_findPace 96 = .ok (.iconst 1, 1) := by decide +kernel
theorem zd_X_findPace_97 : decode zc_X_findPace 97 = .ok (.iadd, 1) := by decide +kernel
theorem zd_X_findPace_98 : decode zc_X_findPace 98 = .ok (.putfield 172, 3) := by decide +kernel
theorem zd_X_findPace_101 : decode zc_X_findPace 101 = .ok (.goto (-45), 3) := by decide +kernel
theorem zd_X_findPace_104 : decode zc_X_findPace 104 = .ok (.aload_n 0, 1) := by decide +kernel
theorem zd_X_findPace_105 : decode zc_X_findPace 105 = .ok (.lload 4, 2) := by decide +kernel
theorem zd_X_findPace_107 : decode zc_X_findPace 107 = .ok (.aload_n 0, 1) := by decide +kernel
theorem zd_X_findPace_108 : decode zc_X_findPace 108 = .ok (.getfield 172, 3) := by decide +kernel
theorem zd_X_findPace_111 : decode zc_X_findPace 111 = .ok (.i2l, 1) := by decide +kernel
theorem zd_X_findPace_112 : decode zc_X_findPace 112 = .ok (.lmul, 1) := by decide +kernel
theorem zd_X_findPace_113 : decode zc_X_findPace 113 = .ok (.bipush 24, 2) := by decide +kernel
theorem zd_X_findPace_115 : decode zc_X_findPace 115 = .ok (.lshr, 1) := by decide +kernel
theorem zd_X_findPace_116 : decode zc_X_findPace 116 = .ok (.l2i, 1) := by decide +kernel
theorem zd_X_findPace_117 : decode zc_X_findPace 117 = .ok (.putfield 175, 3) := by decide +kernel
theorem zd_X_findPace_120 : decode zc_X_findPace 120 = .ok (.return_, 1) := by decide +kernel
theorem zd_X_pace_0 : decode zc_X_pace 0 = .ok (.aload_n 0, 1) := by decide +kernel
theorem zd_X_pace_1 : decode zc_X_pace 1 = .ok (.iconst 0, 1) := by decide +kernel
theorem zd_X_pace_2 : decode zc_X_pace 2 = .ok (.putfield 82, 3) := by decide +kernel
theorem zd_X_pace_5 : decode zc_X_pace 5 = .ok (.iload_n 1, 1) := by decide +kernel
theorem zd_X_pace_6 : decode zc_X_pace 6 = .ok (.iconst 0, 1) := by decide +kernel
theorem zd_X_pace_7 : decode zc_X_pace 7 = .ok (.aload_n 0, 1) := by decide +kernel
theorem zd_X_pace_8 : decode zc_X_pace 8 = .ok (.getfield 7, 3) := by decide +kernel
theorem zd_X_pace_11 : decode zc_X_pace 11 = .ok (.iconst 1, 1) := by decide +kernel
theorem zd_X_pace_12 : decode zc_X_pace 12 = .ok (.isub, 1) := by decide +kernel
theorem zd_X_pace_13 : decode zc_X_pace 13 = .ok (.invokestatic 85, 3) := by decide +kernel
theorem zd_X_pace_16 : decode zc_X_pace 16 = .ok (.ifCond .eq 12, 3) := by decide +kernel
theorem zd_X_pace_19 : decode zc_X_pace 19 = .ok (.iload_n 2, 1) := by decide +kernel
theorem zd_X_pace_20 : decode zc_X_pace 20 = .ok (.iconst 0, 1) := by decide +kernel
theorem zd_X_pace_21 : decode zc_X_pace 21 = .ok (.iconst 1, 1) := by decide +kernel
theorem zd_X_pace_22 : decode zc_X_pace 22 = .ok (.invokestatic 85, 3) := by decide +kernel
theorem zd_X_pace_25 : decode zc_X_pace 25 = .ok (.ifCond .ne 9, 3) := by decide +kernel
theorem zd_X_pace_28 : decode zc_X_pace 28 = .ok (.aload_n 0, 1) := by decide +kernel
theorem zd_X_pace_29 : decode zc_X_pace 29 = .ok (.iconst 1, 1) := by decide +kernel
theorem zd_X_pace_30 : decode zc_X_pace 30 = .ok (.invokevirtual 141, 3) := by decide +kernel
theorem zd_X_pace_33 : decode zc_X_pace 33 = .ok (.ireturn, 1) := by decide +kernel
theorem zd_X_pace_34 : decode zc_X_pace 34 = .ok (.aload_n 0, 1) := by decide +kernel
theorem zd_X_pace_35 : decode zc_X_pace 35 = .ok (.invokevirtual 144, 3) := by decide +kernel
theorem zd_X_pace_38 : decode zc_X_pace 38 = .ok (.ifCond .ne 9, 3) := by decide +kernel
theorem zd_X_pace_41 : decode zc_X_pace 41 = .ok (.aload_n 0, 1) := by decide +kernel
theorem zd_X_pace_42 : decode zc_X_pace 42 = .ok (.iconst 2, 1) := by decide +kernel
theorem zd_X_pace_43 : decode zc_X_pace 43 = .ok (.invokevirtual 141, 3) := by decide +kernel
theorem zd_X_pace_46 : decode zc_X_pace 46 = .ok (.ireturn, 1) := by decide +kernel
theorem zd_X_pace_47 : decode zc_X_pace 47 = .ok (.iconst 0, 1) := by decide +kernel
theorem zd_X_pace_48 : decode zc_X_pace 48 = .ok (.istore_n 3, 1) := by decide +kernel
theorem zd_X_pace_49 : decode zc_X_pace 49 = .ok (.iconst 0, 1) := by decide +kernel
theorem zd_X_pace_50 : decode zc_X_pace 50 = .ok (.istore 4, 2) := by decide +kernel
theorem zd_X_pace_52 : decode zc_X_pace 52 = .ok (.iload 4, 2) := by decide +kernel
theorem zd_X_pace_54 : decode zc_X_pace 54 = .ok (.aload_n 0, 1) := by decide +kernel
theorem zd_X_pace_55 : decode zc_X_pace 55 = .ok (.getfield 7, 3) := by decide +kernel
theorem zd_X_pace_58 : decode zc_X_pace 58 = .ok (.if_icmp .ge 55, 3) := by decide +kernel
theorem zd_X_pace_61 : decode zc_X_pace 61 = .ok (.aload_n 0, 1) := by decide +kernel
theorem zd_X_pace_62 : decode zc_X_pace 62 = .ok (.getfield 45, 3) := by decide +kernel
theorem zd_X_pace_65 : decode zc_X_pace 65 = .ok (.iload 4, 2) := by decide +kernel
theorem zd_X_pace_67 : decode zc_X_pace 67 = .ok (.iaload, 1) := by decide +kernel
theorem zd_X_pace_68 : decode zc_X_pace 68 = .ok (.ifCond .eq 9, 3) := by decide +kernel
theorem zd_X_pace_71 : decode zc_X_pace 71 = .ok (.aload_n 0, 1) := by decide +kernel
theorem zd_X_pace_72 : decode zc_X_pace 72 = .ok (.iconst 2, 1) := by decide +kernel
theorem zd_X_pace_73 : decode zc_X_pace 73 = .ok (.invokevirtual 141, 3) := by decide +kernel
theorem zd_X_pace_76 : decode zc_X_pace 76 = .ok (.ireturn, 1) := by decide +kernel
theorem zd_X_pace_77 : decode zc_X_pace 77 = .ok (.iload_n 3, 1) := by decide +kernel
theorem zd_X_pace_78 : decode zc_X_pace 78 = .ok (.aload_n 0, 1) := by decide +kernel
theorem zd_X_pace_79 : decode zc_X_pace 79 = .ok (.getfield 32, 3) := by decide +kernel
theorem zd_X_pace_82 : decode zc_X_pace 82 = .ok (.iload 4, 2) := by decide +kernel
theorem zd_X_pace_84 : decode zc_X_pace 84 = .ok (.iaload, 1) := by decide +kernel
theorem zd_X_pace_85 : decode zc_X_pace 85 = .ok (.aload_n 0, 1) := by decide +kernel
theorem zd_X_pace_86 : decode zc_X_pace 86 = .ok (.getfield 32, 3) := by decide +kernel
theorem zd_X_pace_89 : decode zc_X_pace 89 = .ok (.iload_n 1, 1) := by decide +kernel
theorem zd_X_pace_90 : decode zc_X_pace 90 = .ok (.iaload, 1) := by decide +kernel
theorem zd_X_pace_91 : decode zc_X_pace 91 = .ok (.if_icmp .ne 13, 3) := by decide +kernel
theorem zd_X_pace_94 : decode zc_X_pace 94 = .ok (.aload_n 0, 1) := by decide +kernel
theorem zd_X_pace_95 : decode zc_X_pace 95 = .ok (.getfield 42, 3) := by decide +kernel
theorem zd_X_pace_98 : decode zc_X_pace 98 = .ok (.iload 4, 2) := by decide +kernel
theorem zd_X_pace_100 : decode zc_X_pace 100 = .ok (.iaload, 1) := by decide +kernel
theorem zd_X_pace_101 : decode zc_X_pace 101 = .ok (.goto 4, 3) := by decide +kernel
theorem zd_X_pace_104 : decode zc_X_pace 104 = .ok (.iconst 0, 1) := by decide +kernel
theorem zd_X_pace_105 : decode zc_X_pace 105 = .ok (.iadd, 1) := by decide +kernel
theorem zd_X_pace_106 : decode zc_X_pace 106 = .ok (.istore_n 3, 1) := by decide +kernel
theorem zd_X_pace_107 : decode zc_X_pace 107 = .ok (.iinc 4 1, 3) := by decide +kernel
theorem zd_X_pace_110 : decode zc_X_pace 110 = .ok (.goto (-58), 3) := by decide +kernel
theorem zd_X_pace_113 : decode zc_X_pace 113 = .ok (.aload_n 0, 1) := by decide +kernel
theorem zd_X_pace_114 : decode zc_X_pace 114 = .ok (.iload_n 1, 1) := by decide +kernel
theorem zd_X_pace_115 : decode zc_X_pace 115 = .ok (.iconst 0, 1) := by decide +kernel
theorem zd_X_pace_116 : decode zc_X_pace 116 = .ok (.invokevirtual 178, 3) := by decide +kernel
theorem zd_X_pace_119 : decode zc_X_pace 119 = .ok (.ifCond .eq 12, 3) := by decide +kernel
theorem zd_X_pace_122 : decode zc_X_pace 122 = .ok (.aload_n 0, 1) := by decide +kernel
theorem zd_X_pace_123 : decode zc_X_pace 123 = .ok (.iload_n 1, 1) := by decide +kernel
theorem zd_X_pace_124 : decode zc_X_pace 124 = .ok (.iconst 1, 1) := by decide +kernel
theorem zd_X_pace_125 : decode zc_X_pace 125 = .ok (.invokevirtual 178, 3) := by decide +kernel
theorem zd_X_pace_128 : decode zc_X_pace 128 = .ok (.ifCond .ne 9, 3) := by decide +kernel
theorem zd_X_pace_131 : decode zc_X_pace 131 = .ok (.aload_n 0, 1) := by decide +kernel
theorem zd_X_pace_132 : decode zc_X_pace 132 = .ok (.iconst 2, 1) := by decide +kernel
theorem zd_X_pace_133 : decode zc_X_pace 133 = .ok (.invokevirtual 141, 3) := by decide +kernel
theorem zd_X_pace_136 : decode zc_X_pace 136 = .ok (.ireturn, 1) := by decide +kernel
theorem zd_X_pace_137 : decode zc_X_pace 137 = .ok (.iload_n 3, 1) := by decide +kernel
theorem zd_X_pace_138 : decode zc_X_pace 138 = .ok (.bipush 40, 2) := by decide +kernel
theorem zd_X_pace_140 : decode zc_X_pace 140 = .ok (.if_icmp .le 9, 3) := by decide +kernel
theorem zd_X_pace_143 : decode zc_X_pace 143 = .ok (.aload_n 0, 1) := by decide +kernel
theorem zd_X_pace_144 : decode zc_X_pace 144 = .ok (.iconst 3, 1) := by decide +kernel
theorem zd_X_pace_145 : decode zc_X_pace 145 = .ok (.invokevirtual 141, 3) := by decide +kernel
theorem zd_X_pace_148 : decode zc_X_pace 148 = .ok (.ireturn, 1) := by decide +kernel
theorem zd_X_pace_149 : decode zc_X_pace 149 = .ok (.aload_n 0, 1) := by decide +kernel
theorem zd_X_pace_150 : decode zc_X_pace 150 = .ok (.aload_n 0, 1) := by decide +kernel
theorem zd_X_pace_151 : decode zc_X_pace 151 = .ok (.getfield 32, 3) := by decide +kernel
theorem zd_X_pace_154 : decode zc_X_pace 154 = .ok (.iload_n 1, 1) := by decide +kernel
theorem zd_X_pace_155 : decode zc_X_pace 155 = .ok (.iaload, 1) := by decide +kernel
theorem zd_X_pace_156 : decode zc_X_pace 156 = .ok (.invokevirtual 182, 3) := by decide +kernel
theorem zd_X_pace_159 : decode zc_X_pace 159 = .ok (.iload_n 2, 1) := by decide +kernel
theorem zd_X_pace_160 : decode zc_X_pace 160 = .ok (.ifCond .ne 10, 3) := by decide +kernel
theorem zd_X_pace_163 : decode zc_X_pace 163 = .ok (.aload_n 0, 1) := by decide +kernel
theorem zd_X_pace_164 : decode zc_X_pace 164 = .ok (.getfield 175, 3) := by decide +kernel
theorem zd_X_pace_167 : decode zc_X_pace 167 = .ok (.goto 7, 3) := by decide +kernel
theorem zd_X_pace_170 : decode zc_X_pace 170 = .ok (.aload_n 0, 1) := by decide +kernel
theorem zd_X_pace_171 : decode zc_X_pace 171 = .ok (.getfield 172, 3) := by decide +kernel
theorem zd_X_pace_174 : decode zc_X_pace 174 = .ok (.ireturn, 1) := by decide +kernel
theorem zd_X_isChain_0 : decode zc_X_isChain 0 = .ok (.aload_n 0, 1) := by decide +kernel
theorem zd_X_isChain_1 : decode zc_X_isChain 1 = .ok (.getfield 89, 3) := by decide +kernel
theorem zd_X_isChain_4 : decode zc_X_isChain 4 = .ok (.aload_n 0, 1) := by decide +kernel
theorem zd_X_isChain_5 : decode zc_X_isChain 5 = .ok (.getfield 7, 3) := by decide +kernel
theorem zd_X_isChain_8 : decode zc_X_isChain 8 = .ok (.iconst 1, 1) := by decide +kernel
theorem zd_X_isChain_9 : decode zc_X_isChain 9 = .ok (.isub, 1) := by decide +kernel
theorem zd_X_isChain_10 : decode zc_X_isChain 10 = .ok (.if_icmp .eq 5, 3) := by decide +kernel
theorem zd_X_isChain_13 : decode zc_X_isChain 13 = .ok (.iconst 0, 1) := by decide +kernel
theorem zd_X_isChain_14 : decode zc_X_isChain 14 = .ok (.ireturn, 1) := by decide +kernel
theorem zd_X_isChain_15 : decode zc_X_isChain 15 = .ok (.iconst 0, 1) := by decide +kernel
theorem zd_X_isChain_16 : decode zc_X_isChain 16 = .ok (.istore_n 1, 1) := by decide +kernel
theorem zd_X_isChain_17 : decode zc_X_isChain 17 = .ok (.iload_n 1, 1) := by decide +kernel
theorem zd_X_isChain_18 : decode zc_X_isChain 18 = .ok (.aload_n 0, 1) := by decide +kernel
theorem zd_X_isChain_19 : decode zc_X_isChain 19 = .ok (.getfield 89, 3) := by decide +kernel
theorem zd_X_isChain_22 : decode zc_X_isChain 22 = .ok (.if_icmp .ge 42, 3) := by decide +kernel
theorem zd_X_isChain_25 : decode zc_X_isChain 25 = .ok (.aload_n 0, 1) := by decide +kernel
theorem zd_X_isChain_26 : decode zc_X_isChain 26 = .ok (.getfield 17, 3) := by decide +kernel
theorem zd_X_isChain_29 : decode zc_X_isChain 29 = .ok (.iload_n 1, 1) := by decide +kernel
theorem zd_X_isChain_30 : decode zc_X_isChain 30 = .ok (.iaload, 1) := by decide +kernel
theorem zd_X_isChain_31 : decode zc_X_isChain 31 = .ok (.iload_n 1, 1) := by decide +kernel
theorem zd_X_isChain_32 : decode zc_X_isChain 32 = .ok (.if_icmp .ne 24, 3) := by decide +kernel
theorem zd_X_isChain_35 : decode zc_X_isChain 35 = .ok (.aload_n 0, 1) := by decide +kernel
theorem zd_X_isChain_36 : decode zc_X_isChain 36 = .ok (.getfield 20, 3) := by decide +kernel
theorem zd_X_isChain_39 : decode zc_X_isChain 39 = .ok (.iload_n 1, 1) := by decide +kernel
theorem zd_X_isChain_40 : decode zc_X_isChain 40 = .ok (.iaload, 1) := by decide +kernel
theorem zd_X_isChain_41 : decode zc_X_isChain 41 = .ok (.iload_n 1, 1) := by decide +kernel
theorem zd_X_isChain_42 : decode zc_X_isChain 42 = .ok (.iconst 1, 1) := by decide +kernel
theorem zd_X_isChain_43 : decode zc_X_isChain 43 = .ok (.iadd, 1) := by decide +kernel
theorem zd_X_isChain_44 : decode zc_X_isChain 44 = .ok (.if_icmp .ne 12, 3) := by decide +kernel
theorem zd_X_isChain_47 : decode zc_X_isChain 47 = .ok (.aload_n 0, 1) := by decide +kernel
theorem zd_X_isChain_48 : decode zc_X_isChain 48 = .ok (.getfield 29, 3) := by decide +kernel
theorem zd_X_isChain_51 : decode zc_X_isChain 51 = .ok (.iload_n 1, 1) := by decide +kernel
theorem zd_X_isChain_52 : decode zc_X_isChain 52 = .ok (.iaload, 1) := by decide +kernel
theorem zd_X_isChain_53 : decode zc_X_isChain 53 = .ok (.ifCond .eq 5, 3) := by decide +kernel
theorem zd_X_isChain_56 : decode zc_X_isChain 56 = .ok (.iconst 0, 1) := by decide +kernel
theorem zd_X_isChain_57 : decode zc_X_isChain 57 = .ok (.ireturn, 1) := by decide +kernel
theorem zd_X_isChain_58 : decode zc_X_isChain 58 = .ok (.iinc 1 1, 3) := by decide +kernel
theorem zd_X_isChain_61 : decode zc_X_isChain 61 = .ok (.goto (-44), 3) := by decide +kernel
theorem zd_X_isChain_64 : decode zc_X_isChain 64 = .ok (.iconst 1, 1) := by decide +kernel
theorem zd_X_isChain_65 : decode zc_X_isChain 65 = .ok (.ireturn, 1) := by decide +kernel
theorem zd_X_divisorOf_0 : decode zc_X_divisorOf 0 = .ok (.aload_n 0, 1) := by decide +kernel
theorem zd_X_divisorOf_1 : decode zc_X_divisorOf 1 = .ok (.getfield 42, 3) := by decide +kernel
theorem zd_X_divisorOf_4 : decode zc_X_divisorOf 4 = .ok (.iload_n 1, 1) := by decide +kernel
theorem zd_X_divisorOf_5 : decode zc_X_divisorOf 5 = .ok (.iaload, 1) := by decide +kernel
theorem zd_X_divisorOf_6 : decode zc_X_divisorOf 6 = .ok (.i2l, 1) := by decide +kernel
theorem zd_X_divisorOf_7 : decode zc_X_divisorOf 7 = .ok (.lstore_n 3, 1) := by decide +kernel
theorem zd_X_divisorOf_8 : decode zc_X_divisorOf 8 = .ok (.iload_n 1, 1) := by decide +kernel
theorem zd_X_divisorOf_9 : decode zc_X_divisorOf 9 = .ok (.iconst 1, 1) := by decide +kernel
theorem zd_X_divisorOf_10 : decode zc_X_divisorOf 10 = .ok (.iadd, 1) := by decide +kernel
theorem zd_X_divisorOf_11 : decode zc_X_divisorOf 11 = .ok (.istore 5, 2) := by decide +kernel
theorem zd_X_divisorOf_13 : decode zc_X_divisorOf 13 = .ok (.iload 5, 2) := by decide +kernel
theorem zd_X_divisorOf_15 : decode zc_X_divisorOf 15 = .ok (.iload_n 2, 1) := by decide +kernel
theorem zd_X_divisorOf_16 : decode zc_X_divisorOf 16 = .ok (.if_icmp .gt 22, 3) := by decide +kernel
theorem zd_X_divisorOf_19 : decode zc_X_divisorOf 19 = .ok (.lload_n 3, 1) := by decide +kernel
theorem zd_X_divisorOf_20 : decode zc_X_divisorOf 20 = .ok (.aload_n 0, 1) := by decide +kernel
theorem zd_X_divisorOf_21 : decode zc_X_divisorOf 21 = .ok (.getfield 42, 3) := by decide +kernel
theorem zd_X_divisorOf_24 : decode zc_X_divisorOf 24 = .ok (.iload 5, 2) := by decide +kernel
theorem zd_X_divisorOf_26 : decode zc_X_divisorOf 26 = .ok (.iaload, 1) := by decide +kernel
theorem zd_X_divisorOf_27 : decode zc_X_divisorOf 27 = .ok (.i2l, 1) := by decide +kernel
theorem zd_X_divisorOf_28 : decode zc_X_divisorOf 28 = .ok (.invokestatic 96, 3) := by decide +kernel
theorem zd_X_divisorOf_31 : decode zc_X_divisorOf 31 = .ok (.lstore_n 3, 1) := by decide +kernel
theorem zd_X_divisorOf_32 : decode zc_X_divisorOf 32 = .ok (.iinc 5 1, 3) := by decide +kernel
theorem zd_X_divisorOf_35 : decode zc_X_divisorOf 35 = .ok (.goto (-22), 3) := by decide +kernel
theorem zd_X_divisorOf_38 : decode zc_X_divisorOf 38 = .ok (.lload_n 3, 1) := by decide +kernel
theorem zd_X_divisorOf_39 : decode zc_X_divisorOf 39 = .ok (.l2i, 1) := by decide +kernel
theorem zd_X_divisorOf_40 : decode zc_X_divisorOf 40 = .ok (.ireturn, 1) := by decide +kernel
theorem zd_X_room_0 : decode zc_X_room 0 = .ok (.aload_n 0, 1) := by decide +kernel
theorem zd_X_room_1 : decode zc_X_room 1 = .ok (.iconst 0, 1) := by decide +kernel
theorem zd_X_room_2 : decode zc_X_room 2 = .ok (.putfield 82, 3) := by decide +kernel
theorem zd_X_room_5 : decode zc_X_room 5 = .ok (.aload_n 0, 1) := by decide +kernel
theorem zd_X_room_6 : decode zc_X_room 6 = .ok (.invokevirtual 185, 3) := by decide +kernel
theorem zd_X_room_9 : decode zc_X_room 9 = .ok (.ifCond .eq 10, 3) := by decide +kernel
theorem zd_X_room_12 : decode zc_X_room 12 = .ok (.aload_n 0, 1) := by decide +kernel
theorem zd_X_room_13 : decode zc_X_room 13 = .ok (.invokevirtual 144, 3) := by decide +kernel
theorem zd_X_room_16 : decode zc_X_room 16 = .ok (.ifCond .ne 5, 3) := by decide +kernel
theorem zd_X_room_19 : decode zc_X_room 19 = .ok (.iconst (-1), 1) := by decide +kernel
theorem zd_X_room_20 : decode zc_X_room 20 = .ok (.ireturn, 1) := by decide +kernel
theorem zd_X_room_21 : decode zc_X_room 21 = .ok (.iconst 0, 1) := by decide +kernel
theorem zd_X_room_22 : decode zc_X_room 22 = .ok (.istore_n 1, 1) := by decide +kernel
theorem zd_X_room_23 : decode zc_X_room 23 = .ok (.iload_n 1, 1) := by decide +kernel
theorem zd_X_room_24 : decode zc_X_room 24 = .ok (.aload_n 0, 1) := by decide +kernel
theorem zd_X_room_25 : decode zc_X_room 25 = .ok (.getfield 7, 3) := by decide +kernel
theorem zd_X_room_28 : decode zc_X_room 28 = .ok (.if_icmp .ge 144, 3) := by decide +kernel
theorem zd_X_room_31 : decode zc_X_room 31 = .ok (.iconst 0, 1) := by decide +kernel
theorem zd_X_room_32 : decode zc_X_room 32 = .ok (.istore_n 2, 1) := by decide +kernel
theorem zd_X_room_33 : decode zc_X_room 33 = .ok (.iload_n 2, 1) := by decide +kernel
theorem zd_X_room_34 : decode zc_X_room 34 = .ok (.iload_n 1, 1) := by decide +kernel
theorem zd_X_room_35 : decode zc_X_room 35 = .ok (.iadd, 1) := by decide +kernel
theorem zd_X_room_36 : decode zc_X_room 36 = .ok (.aload_n 0, 1) := by decide +kernel
theorem zd_X_room_37 : decode zc_X_room 37 = .ok (.getfield 7, 3) := by decide +kernel
theorem zd_X_room_40 : decode zc_X_room 40 = .ok (.if_icmp .ge 126, 3) := by decide +kernel
theorem zd_X_room_43 : decode zc_X_room 43 = .ok (.iload_n 2, 1) := by decide +kernel
theorem zd_X_room_44 : decode zc_X_room 44 = .ok (.iload_n 1, 1) := by decide +kernel
theorem zd_X_room_45 : decode zc_X_room 45 = .ok (.iadd, 1) := by decide +kernel
theorem zd_X_room_46 : decode zc_X_room 46 = .ok (.istore_n 3, 1) := by decide +kernel
theorem zd_X_room_47 : decode zc_X_room 47 = .ok (.iload_n 1, 1) := by decide +kernel
theorem zd_X_room_48 : decode zc_X_room 48 = .ok (.ifCond .ne 7, 3) := by decide +kernel
theorem zd_X_room_51 : decode zc_X_room 51 = .ok (.iconst 0, 1) := by decide +kernel
theorem zd_X_room_52 : decode zc_X_room 52 = .ok (.goto 4, 3) := by decide +kernel
theorem zd_X_room_55 : decode zc_X_room 55 = .ok (.iconst (-1), 1) := by decide +kernel
theorem zd_X_room_56 : decode zc_X_room 56 = .ok (.istore 4, 2) := by decide +kernel
theorem zd_X_room_58 : decode zc_X_room 58 = .ok (.iload_n 2, 1) := by decide +kernel
theorem zd_X_room_59 : decode zc_X_room 59 = .ok (.istore 5, 2) := by decide +kernel
theorem zd_X_room_61 : decode zc_X_room 61 = .ok (.iload 5, 2) := by decide +kernel
theorem zd_X_room_63 : decode zc_X_room 63 = .ok (.iload_n 3, 1) := by decide +kernel
theorem zd_X_room_64 : decode zc_X_room 64 = .ok (.if_icmp .ge 83, 3) := by decide +kernel
theorem zd_X_room_67 : decode zc_X_room 67 = .ok (.aload_n 0, 1) := by decide +kernel
theorem zd_X_room_68 : decode zc_X_room 68 = .ok (.getfield 79, 3) := by decide +kernel
theorem zd_X_room_71 : decode zc_X_room 71 = .ok (.bipush 8, 2) := by decide +kernel
theorem zd_X_room_73 : decode zc_X_room 73 = .ok (.iload_n 2, 1) := by decide +kernel
theorem zd_X_room_74 : decode zc_X_room 74 = .ok (.imul, 1) := by decide +kernel
theorem zd_X_room_75 : decode zc_X_room 75 = .ok (.iload 5, 2) := by decide +kernel
theorem zd_X_room_77 : decode zc_X_room 77 = .ok (.iadd, 1) := by decide +kernel
theorem zd_X_room_78 : decode zc_X_room 78 = .ok (.iaload, 1) := by decide +kernel
theorem zd_X_room_79 : decode zc_X_room 79 = .ok (.aload_n 0, 1) := by decide +kernel
theorem zd_X_room_80 : decode zc_X_room 80 = .ok (.getfield 79, 3) := by decide +kernel
theorem zd_X_room_83 : decode zc_X_room 83 = .ok (.bipush 8, 2) := by decide +kernel
theorem zd_X_room_85 : decode zc_X_room 85 = .ok (.iload 5, 2) := by decide +kernel
theorem zd_X_room_87 : decode zc_X_room 87 = .ok (.iconst 1, 1) := by decide +kernel
theorem zd_X_room_88 : decode zc_X_room 88 = .ok (.iadd, 1) := by decide +kernel
theorem zd_X_room_89 : decode zc_X_room 89 = .ok (.imul, 1) := by decide +kernel
theorem zd_X_room_90 : decode zc_X_room 90 = .ok (.iload_n 3, 1) := by decide +kernel
theorem zd_X_room_91 : decode zc_X_room 91 = .ok (.iadd, 1) := by decide +kernel
theorem zd_X_room_92 : decode zc_X_room 92 = .ok (.iaload, 1) := by decide +kernel
theorem zd_X_room_93 : decode zc_X_room 93 = .ok (.iadd, 1) := by decide +kernel
theorem zd_X_room_94 : decode zc_X_room 94 = .ok (.aload_n 0, 1) := by decide +kernel
theorem zd_X_room_95 : decode zc_X_room 95 = .ok (.getfield 42, 3) := by decide +kernel
theorem zd_X_room_98 : decode zc_X_room 98 = .ok (.iload 5, 2) := by decide +kernel
theorem zd_X_room_100 : decode zc_X_room 100 = .ok (.iaload, 1) := by decide +kernel
theorem zd_X_room_101 : decode zc_X_room 101 = .ok (.aload_n 0, 1) := by decide +kernel
theorem zd_X_room_102 : decode zc_X_room 102 = .ok (.getfield 23, 3) := by decide +kernel
theorem zd_X_room_105 : decode zc_X_room 105 = .ok (.iload 5, 2) := by decide +kernel
theorem zd_X_room_107 : decode zc_X_room 107 = .ok (.iaload, 1) := by decide +kernel
theorem zd_X_room_108 : decode zc_X_room 108 = .ok (.imul, 1) := by decide +kernel
theorem zd_X_room_109 : decode zc_X_room 109 = .ok (.aload_n 0, 1) := by decide +kernel
theorem zd_X_room_110 : decode zc_X_room 110 = .ok (.iload_n 2, 1) := by decide +kernel
theorem zd_X_room_111 : decode zc_X_room 111 = .ok (.iload_n 3, 1) := by decide +kernel
theorem zd_X_room_112 : decode zc_X_room 112 = .ok (.invokevirtual 188, 3) := by decide +kernel
theorem zd_X_room_115 : decode zc_X_room 115 = .ok (.idiv, 1) := by decide +kernel
theorem zd_X_room_116 : decode zc_X_room 116 = .ok (.iadd, 1) := by decide +kernel
theorem zd_X_room_117 : decode zc_X_room 117 = .ok (.istore 6, 2) := by decide +kernel
theorem zd_X_room_119 : decode zc_X_room 119 = .ok (.iload 4, 2) := by decide +kernel
theorem zd_X_room_121 : decode zc_X_room 121 = .ok (.iconst (-1), 1) := by decide +kernel
theorem zd_X_room_122 : decode zc_X_room 122 = .ok (.if_icmp .eq 10, 3) := by decide +kernel
theorem zd_X_room_125 : decode zc_X_room 125 = .ok (.iload 6, 2) := by decide +kernel
theorem zd_X_room_127 : decode zc_X_room 127 = .ok (.iload 4, 2) := by decide +kernel
theorem zd_X_room_129 : decode zc_X_room 129 = .ok (.if_icmp .ge 8, 3) := by decide +kernel
theorem zd_X_room_132 : decode zc_X_room 132 = .ok (.iload 6, 2) := by decide +kernel
theorem zd_X_room_134 : decode zc_X_room 134 = .ok (.goto 5, 3) := by decide +kernel
theorem zd_X_room_137 : decode zc_X_room 137 = .ok (.iload 4, 2) := by decide +kernel
theorem zd_X_room_139 : decode zc_X_room 139 = .ok (.istore 4, 2) := by decide +kernel
theorem zd_X_room_141 : decode zc_X_room 141 = .ok (.iinc 5 1, 3) := by decide +kernel
theorem zd_X_room_144 : decode zc_X_room 144 = .ok (.goto (-83), 3) := by decide +kernel
theorem zd_X_room_147 : decode zc_X_room 147 = .ok (.aload_n 0, 1) := by decide +kernel
theorem zd_X_room_148 : decode zc_X_room 148 = .ok (.getfield 79, 3) := by decide +kernel
theorem zd_X_room_151 : decode zc_X_room 151 = .ok (.bipush 8, 2) := by decide +kernel
theorem zd_X_room_153 : decode zc_X_room 153 = .ok (.iload_n 2, 1) := by decide +kernel
theorem zd_X_room_154 : decode zc_X_room 154 = .ok (.imul, 1) := by decide +kernel
theorem zd_X_room_155 : decode zc_X_room 155 = .ok (.iload_n 3, 1) := by decide +kernel
theorem zd_X_room_156 : decode zc_X_room 156 = .ok (.iadd, 1) := by decide +kernel
theorem zd_X_room_157 : decode zc_X_room 157 = .ok (.iload 4, 2) := by decide +kernel
theorem zd_X_room_159 : decode zc_X_room 159 = .ok (.iastore, 1) := by decide +kernel
theorem zd_X_room_160 : decode zc_X_room 160 = .ok (.iinc 2 1, 3) := by decide +kernel
theorem zd_X_room_163 : decode zc_X_room 163 = .ok (.goto (-130), 3) := by decide +kernel
theorem zd_X_room_166 : decode zc_X_room 166 = .ok (.iinc 1 1, 3) := by decide +kernel
theorem zd_X_room_169 : decode zc_X_room 169 = .ok (.goto (-146), 3) := by decide +kernel
theorem zd_X_room_172 : decode zc_X_room 172 = .ok (.aload_n 0, 1) := by decide +kernel
theorem zd_X_room_173 : decode zc_X_room 173 = .ok (.getfield 79, 3) := by decide +kernel
theorem zd_X_room_176 : decode zc_X_room 176 = .ok (.aload_n 0, 1) := by decide +kernel
theorem zd_X_room_177 : decode zc_X_room 177 = .ok (.getfield 7, 3) := by decide +kernel
theorem zd_X_room_180 : decode zc_X_room 180 = .ok (.iconst 1, 1) := by decide +kernel
theorem zd_X_room_181 : decode zc_X_room 181 = .ok (.isub, 1) := by decide +kernel
theorem zd_X_room_182 : decode zc_X_room 182 = .ok (.iaload, 1) := by decide +kernel
theorem zd_X_room_183 : decode zc_X_room 183 = .ok (.ireturn, 1) := by decide +kernel
theorem zd_X_total_0 : decode zc_X_total 0 = .ok (.aload_n 0, 1) := by decide +kernel
theorem zd_X_total_1 : decode zc_X_total 1 = .ok (.iconst 0, 1) := by decide +kernel
theorem zd_X_total_2 : decode zc_X_total 2 = .ok (.putfield 82, 3) := by decide +kernel
theorem zd_X_total_5 : decode zc_X_total 5 = .ok (.aload_n 0, 1) := by decide +kernel
theorem zd_X_total_6 : decode zc_X_total 6 = .ok (.invokevirtual 138, 3) := by decide +kernel
theorem zd_X_total_9 : decode zc_X_total 9 = .ok (.iload_n 1, 1) := by decide +kernel
theorem zd_X_total_10 : decode zc_X_total 10 = .ok (.ifCond .ne 10, 3) := by decide +kernel
theorem zd_X_total_13 : decode zc_X_total 13 = .ok (.aload_n 0, 1) := by decide +kernel
theorem zd_X_total_14 : decode zc_X_total 14 = .ok (.getfield 7, 3) := by decide +kernel
theorem zd_X_total_17 : decode zc_X_total 17 = .ok (.goto 40, 3) := by decide +kernel
theorem zd_X_total_20 : decode zc_X_total 20 = .ok (.iload_n 1, 1) := by decide +kernel
theorem zd_X_total_21 : decode zc_X_total 21 = .ok (.iconst 1, 1) := by decide +kernel
theorem zd_X_total_22 : decode zc_X_total 22 = .ok (.if_icmp .ne 10, 3) := by decide +kernel
theorem zd_X_total_25 : decode zc_X_total 25 = .ok (.aload_n 0, 1) := by decide +kernel
theorem zd_X_total_26 : decode zc_X_total 26 = .ok (.getfield 89, 3) := by decide +kernel
theorem zd_X_total_29 : decode zc_X_total 29 = .ok (.goto 28, 3) := by decide +kernel
theorem zd_X_total_32 : decode zc_X_total 32 = .ok (.iload_n 1, 1) := by decide +kernel
theorem zd_X_total_33 : decode zc_X_total 33 = .ok (.iconst 2, 1) := by decide +kernel
theorem zd_X_total_34 : decode zc_X_total 34 = .ok (.if_icmp .ne 10, 3) := by decide +kernel
theorem zd_X_total_37 : decode zc_X_total 37 = .ok (.aload_n 0, 1) := by decide +kernel
theorem zd_X_total_38 : decode zc_X_total 38 = .ok (.getfield 111, 3) := by decide +kernel
theorem zd_X_total_41 : decode zc_X_total 41 = .ok (.goto 16, 3) := by decide +kernel
theorem zd_X_total_44 : decode zc_X_total 44 = .ok (.iload_n 1, 1) := by decide +kernel
theorem zd_X_total_45 : decode zc_X_total 45 = .ok (.iconst 3, 1) := by decide +kernel
theorem zd_X_total_46 : decode zc_X_total 46 = .ok (.if_icmp .ne 10, 3) := by decide +kernel
theorem zd_X_total_49 : decode zc_X_total 49 = .ok (.aload_n 0, 1) := by decide +kernel
theorem zd_X_total_50 : decode zc_X_total 50 = .ok (.getfield 120, 3) := by decide +kernel
theorem zd_X_total_53 : decode zc_X_total 53 = .ok (.goto 4, 3) := by decide +kernel
theorem zd_X_total_56 : decode zc_X_total 56 = .ok (.iconst (-1), 1) := by decide +kernel
theorem zd_X_total_57 : decode zc_X_total 57 = .ok (.ireturn, 1) := by decide +kernel
end
section
theorem zd_L_count_0 : decode zc_L_count 0 = .ok (.aload_n 2, 1) := by decide +kernel
theorem zd_L_count_1 : decode zc_L_count 1 = .ok (.iconst 0, 1) := by decide +kernel
theorem zd_L_count_2 : decode zc_L_count 2 = .ok (.aload_n 0, 1) := by decide +kernel
theorem zd_L_count_3 : decode zc_L_count 3 = .ok (.iload_n 1, 1) := by decide +kernel
theorem zd_L_count_4 : decode zc_L_count 4 = .ok (.invokevirtual 7, 3) := by decide +kernel
theorem zd_L_count_7 : decode zc_L_count 7 = .ok (.i2l, 1) := by decide +kernel
theorem zd_L_count_8 : decode zc_L_count 8 = .ok (.lastore, 1) := by decide +kernel
theorem zd_L_count_9 : decode zc_L_count 9 = .ok (.goto 9, 3) := by decide +kernel
theorem zd_L_count_12 : decode zc_L_count 12 = .ok (.astore_n 3, 1) := by decide +kernel
theorem zd_L_count_13 : decode zc_L_count 13 = .ok (.iconst 1, 1) := by decide +kernel
theorem zd_L_count_14 : decode zc_L_count 14 = .ok (.ireturn, 1) := by decide +kernel
theorem zd_L_count_15 : decode zc_L_count 15 = .ok (.astore_n 3, 1) := by decide +kernel
theorem zd_L_count_16 : decode zc_L_count 16 = .ok (.iconst 2, 1) := by decide +kernel
theorem zd_L_count_17 : decode zc_L_count 17 = .ok (.ireturn, 1) := by decide +kernel
theorem zd_L_count_18 : decode zc_L_count 18 = .ok (.iconst 0, 1) := by decide +kernel
theorem zd_L_count_19 : decode zc_L_count 19 = .ok (.ireturn, 1) := by decide +kernel
theorem zd_L_order_0 : decode zc_L_order 0 = .ok (.aload_n 2, 1) := by decide +kernel
theorem zd_L_order_1 : decode zc_L_order 1 = .ok (.iconst 0, 1) := by decide +kernel
theorem zd_L_order_2 : decode zc_L_order 2 = .ok (.aload_n 0, 1) := by decide +kernel
theorem zd_L_order_3 : decode zc_L_order 3 = .ok (.iload_n 1, 1) := by decide +kernel
theorem zd_L_order_4 : decode zc_L_order 4 = .ok (.invokevirtual 17, 3) := by decide +kernel
theorem zd_L_order_7 : decode zc_L_order 7 = .ok (.i2l, 1) := by decide +kernel
theorem zd_L_order_8 : decode zc_L_order 8 = .ok (.lastore, 1) := by decide +kernel
theorem zd_L_order_9 : decode zc_L_order 9 = .ok (.goto 6, 3) := by decide +kernel
theorem zd_L_order_12 : decode zc_L_order 12 = .ok (.astore_n 3, 1) := by decide +kernel
theorem zd_L_order_13 : decode zc_L_order 13 = .ok (.iconst 1, 1) := by decide +kernel
theorem zd_L_order_14 : decode zc_L_order 14 = .ok (.ireturn, 1) := by decide +kernel
theorem zd_L_order_15 : decode zc_L_order 15 = .ok (.iconst 0, 1) := by decide +kernel
theorem zd_L_order_16 : decode zc_L_order 16 = .ok (.ireturn, 1) := by decide +kernel
theorem zd_L_pace_0 : decode zc_L_pace 0 = .ok (.aload_n 3, 1) := by decide +kernel
theorem zd_L_pace_1 : decode zc_L_pace 1 = .ok (.iconst 0, 1) := by decide +kernel
theorem zd_L_pace_2 : decode zc_L_pace 2 = .ok (.aload_n 0, 1) := by decide +kernel
theorem zd_L_pace_3 : decode zc_L_pace 3 = .ok (.iload_n 1, 1) := by decide +kernel
theorem zd_L_pace_4 : decode zc_L_pace 4 = .ok (.iload_n 2, 1) := by decide +kernel
theorem zd_L_pace_5 : decode zc_L_pace 5 = .ok (.invokevirtual 22, 3) := by decide +kernel
theorem zd_L_pace_8 : decode zc_L_pace 8 = .ok (.i2l, 1) := by decide +kernel
theorem zd_L_pace_9 : decode zc_L_pace 9 = .ok (.lastore, 1) := by decide +kernel
theorem zd_L_pace_10 : decode zc_L_pace 10 = .ok (.goto 15, 3) := by decide +kernel
theorem zd_L_pace_13 : decode zc_L_pace 13 = .ok (.astore 4, 2) := by decide +kernel
theorem zd_L_pace_15 : decode zc_L_pace 15 = .ok (.iconst 1, 1) := by decide +kernel
theorem zd_L_pace_16 : decode zc_L_pace 16 = .ok (.ireturn, 1) := by decide +kernel
theorem zd_L_pace_17 : decode zc_L_pace 17 = .ok (.astore 4, 2) := by decide +kernel
theorem zd_L_pace_19 : decode zc_L_pace 19 = .ok (.iconst 2, 1) := by decide +kernel
theorem zd_L_pace_20 : decode zc_L_pace 20 = .ok (.ireturn, 1) := by decide +kernel
theorem zd_L_pace_21 : decode zc_L_pace 21 = .ok (.astore 4, 2) := by decide +kernel
theorem zd_L_pace_23 : decode zc_L_pace 23 = .ok (.iconst 3, 1) := by decide +kernel
theorem zd_L_pace_24 : decode zc_L_pace 24 = .ok (.ireturn, 1) := by decide +kernel
theorem zd_L_pace_25 : decode zc_L_pace 25 = .ok (.iconst 0, 1) := by decide +kernel
theorem zd_L_pace_26 : decode zc_L_pace 26 = .ok (.ireturn, 1) := by decide +kernel
theorem zd_L_law_0 : decode zc_L_law 0 = .ok (.new 8, 3) := by decide +kernel
theorem zd_L_law_3 : decode zc_L_law 3 = .ok (.dup, 1) := by decide +kernel
theorem zd_L_law_4 : decode zc_L_law 4 = .ok (.invokespecial 26, 3) := by decide +kernel
theorem zd_L_law_7 : decode zc_L_law 7 = .ok (.astore_n 1, 1) := by decide +kernel
theorem zd_L_law_8 : decode zc_L_law 8 = .ok (.new 27, 3) := by decide +kernel
theorem zd_L_law_11 : decode zc_L_law 11 = .ok (.dup, 1) := by decide +kernel
theorem zd_L_law_12 : decode zc_L_law 12 = .ok (.invokespecial 29, 3) := by decide +kernel
theorem zd_L_law_15 : decode zc_L_law 15 = .ok (.astore_n 2, 1) := by decide +kernel
theorem zd_L_law_16 : decode zc_L_law 16 = .ok (.iconst 1, 1) := by decide +kernel
theorem zd_L_law_17 : decode zc_L_law 17 = .ok (.newarray .long, 2) := by decide +kernel
theorem zd_L_law_19 : decode zc_L_law 19 = .ok (.astore_n 3, 1) := by decide +kernel
theorem zd_L_law_20 : decode zc_L_law 20 = .ok (.iconst 0, 1) := by decide +kernel
theorem zd_L_law_21 : decode zc_L_law 21 = .ok (.istore 4, 2) := by decide +kernel
theorem zd_L_law_23 : decode zc_L_law 23 = .ok (.iload 4, 2) := by decide +kernel
theorem zd_L_law_25 : decode zc_L_law 25 = .ok (.aload_n 0, 1) := by decide +kernel
theorem zd_L_law_26 : decode zc_L_law 26 = .ok (.arraylength, 1) := by decide +kernel
theorem zd_L_law_27 : decode zc_L_law 27 = .ok (.bipush 6, 2) := by decide +kernel
theorem zd_L_law_29 : decode zc_L_law 29 = .ok (.isub, 1) := by decide +kernel
theorem zd_L_law_30 : decode zc_L_law 30 = .ok (.if_icmp .gt 492, 3) := by decide +kernel
theorem zd_L_law_33 : decode zc_L_law 33 = .ok (.aload_n 0, 1) := by decide +kernel
theorem zd_L_law_34 : decode zc_L_law 34 = .ok (.iload 4, 2) := by decide +kernel
theorem zd_L_law_36 : decode zc_L_law 36 = .ok (.iaload, 1) := by decide +kernel
theorem zd_L_law_37 : decode zc_L_law 37 = .ok (.bipush 15, 2) := by decide +kernel
theorem zd_L_law_39 : decode zc_L_law 39 = .ok (.iand, 1) := by decide +kernel
theorem zd_L_law_40 : decode zc_L_law 40 = .ok (.tableswitch 476 0 10 #[60, 85, 122, 195, 208, 264, 320, 345, 370, 438, 451], 60) := by decide +kernel
theorem zd_L_law_100 : decode zc_L_law 100 = .ok (.aload_n 1, 1) := by decide +kernel
theorem zd_L_law_101 : decode zc_L_law 101 = .ok (.aload_n 0, 1) := by decide +kernel
theorem zd_L_law_102 : decode zc_L_law 102 = .ok (.iload 4, 2) := by decide +kernel
theorem zd_L_law_104 : decode zc_L_law 104 = .ok (.iconst 1, 1) := by decide +kernel
theorem zd_L_law_105 : decode zc_L_law 105 = .ok (.iadd, 1) := by decide +kernel
theorem zd_L_law_106 : decode zc_L_law 106 = .ok (.iaload, 1) := by decide +kernel
theorem zd_L_law_107 : decode zc_L_law 107 = .ok (.invokevirtual 30, 3) := by decide +kernel
theorem zd_L_law_110 : decode zc_L_law 110 = .ok (.aload_n 2, 1) := by decide +kernel
theorem zd_L_law_111 : decode zc_L_law 111 = .ok (.aload_n 0, 1) := by decide +kernel
theorem zd_L_law_112 : decode zc_L_law 112 = .ok (.iload 4, 2) := by decide +kernel
theorem zd_L_law_114 : decode zc_L_law 114 = .ok (.iconst 1, 1) := by decide +kernel
theorem zd_L_law_115 : decode zc_L_law 115 = .ok (.iadd, 1) := by decide +kernel
theorem zd_L_law_116 : decode zc_L_law 116 = .ok (.iaload, 1) := by decide +kernel
theorem zd_L_law_117 : decode zc_L_law 117 = .ok (.invokevirtual 34, 3) := by decide +kernel
theorem zd_L_law_120 : decode zc_L_law 120 = .ok (.if_icmp .eq 396, 3) := by decide +kernel
theorem zd_L_law_123 : decode zc_L_law 123 = .ok (.iconst 0, 1) := by decide +kernel
theorem zd_L_law_124 : decode zc_L_law 124 = .ok (.ireturn, 1) := by decide +kernel
theorem zd_L_law_125 : decode zc_L_law 125 = .ok (.aload_n 1, 1) := by decide +kernel
theorem zd_L_law_126 : decode zc_L_law 126 = .ok (.aload_n 0, 1) := by decide +kernel
theorem zd_L_law_127 : decode zc_L_law 127 = .ok (.iload 4, 2) := by decide +kernel
theorem zd_L_law_129 : decode zc_L_law 129 = .ok (.iconst 1, 1) := by decide +kernel
theorem zd_L_law_130 : decode zc_L_law 130 = .ok (.iadd, 1) := by decide +kernel
theorem zd_L_law_131 : decode zc_L_law 131 = .ok (.iaload, 1) := by decide +kernel
theorem zd_L_law_132 : decode zc_L_law 132 = .ok (.aload_n 0, 1) := by decide +kernel
theorem zd_L_law_133 : decode zc_L_law 133 = .ok (.iload 4, 2) := by decide +kernel
theorem zd_L_law_135 : decode zc_L_law 135 = .ok (.iconst 2, 1) := by decide +kernel
theorem zd_L_law_136 : decode zc_L_law 136 = .ok (.iadd, 1) := by decide +kernel
theorem zd_L_law_137 : decode zc_L_law 137 = .ok (.iaload, 1) := by decide +kernel
theorem zd_L_law_138 : decode zc_L_law 138 = .ok (.invokevirtual 35, 3) := by decide +kernel
theorem zd_L_law_141 : decode zc_L_law 141 = .ok (.aload_n 2, 1) := by decide +kernel
theorem zd_L_law_142 : decode zc_L_law 142 = .ok (.aload_n 0, 1) := by decide +kernel
theorem zd_L_law_143 : decode zc_L_law 143 = .ok (.iload 4, 2) := by decide +kernel
theorem zd_L_law_145 : decode zc_L_law 145 = .ok (.iconst 1, 1) := by decide +kernel
theorem zd_L_law_146 : decode zc_L_law 146 = .ok (.iadd, 1) := by decide +kernel
theorem zd_L_law_147 : decode zc_L_law 147 = .ok (.iaload, 1) := by decide +kernel
theorem zd_L_law_148 : decode zc_L_law 148 = .ok (.aload_n 0, 1) := by decide +kernel
theorem zd_L_law_149 : decode zc_L_law 149 = .ok (.iload 4, 2) := by decide +kernel
theorem zd_L_law_151 : decode zc_L_law 151 = .ok (.iconst 2, 1) := by decide +kernel
theorem zd_L_law_152 : decode zc_L_law 152 = .ok (.iadd, 1) := by decide +kernel
theorem zd_L_law_153 : decode zc_L_law 153 = .ok (.iaload, 1) := by decide +kernel
theorem zd_L_law_154 : decode zc_L_law 154 = .ok (.invokevirtual 39, 3) := by decide +kernel
theorem zd_L_law_157 : decode zc_L_law 157 = .ok (.if_icmp .eq 359, 3) := by decide +kernel
theorem zd_L_law_160 : decode zc_L_law 160 = .ok (.iconst 0, 1) := by decide +kernel
theorem zd_L_law_161 : decode zc_L_law 161 = .ok (.ireturn, 1) := by decide +kernel
theorem zd_L_law_162 : decode zc_L_law 162 = .ok (.aload_n 1, 1) := by decide +kernel
theorem zd_L_law_163 : decode zc_L_law 163 = .ok (.aload_n 0, 1) := by decide +kernel
theorem zd_L_law_164 : decode zc_L_law 164 = .ok (.iload 4, 2) := by decide +kernel
theorem zd_L_law_166 : decode zc_L_law 166 = .ok (.iconst 1, 1) := by decide +kernel
theorem zd_L_law_167 : decode zc_L_law 167 = .ok (.iadd, 1) := by decide +kernel
theorem zd_L_law_168 : decode zc_L_law 168 = .ok (.iaload, 1) := by decide +kernel
theorem zd_L_law_169 : decode zc_L_law 169 = .ok (.aload_n 0, 1) := by decide +kernel
theorem zd_L_law_170 : decode zc_L_law 170 = .ok (.iload 4, 2) := by decide +kernel
theorem zd_L_law_172 : decode zc_L_law 172 = .ok (.iconst 2, 1) := by decide +kernel
theorem zd_L_law_173 : decode zc_L_law 173 = .ok (.iadd, 1) := by decide +kernel
theorem zd_L_law_174 : decode zc_L_law 174 = .ok (.iaload, 1) := by decide +kernel
theorem zd_L_law_175 : decode zc_L_law 175 = .ok (.aload_n 0, 1) := by decide +kernel
theorem zd_L_law_176 : decode zc_L_law 176 = .ok (.iload 4, 2) := by decide +kernel
theorem zd_L_law_178 : decode zc_L_law 178 = .ok (.iconst 3, 1) := by decide +kernel
theorem zd_L_law_179 : decode zc_L_law 179 = .ok (.iadd, 1) := by decide +kernel
theorem zd_L_law_180 : decode zc_L_law 180 = .ok (.iaload, 1) := by decide +kernel
theorem zd_L_law_181 : decode zc_L_law 181 = .ok (.aload_n 0, 1) := by decide +kernel
theorem zd_L_law_182 : decode zc_L_law 182 = .ok (.iload 4, 2) := by decide +kernel
theorem zd_L_law_184 : decode zc_L_law 184 = .ok (.iconst 4, 1) := by decide +kernel
theorem zd_L_law_185 : decode zc_L_law 185 = .ok (.iadd, 1) := by decide +kernel
theorem zd_L_law_186 : decode zc_L_law 186 = .ok (.iaload, 1) := by decide +kernel
theorem zd_L_law_187 : decode zc_L_law 187 = .ok (.aload_n 0, 1) := by decide +kernel
theorem zd_L_law_188 : decode zc_L_law 188 = .ok (.iload 4, 2) := by decide +kernel
theorem zd_L_law_190 : decode zc_L_law 190 = .ok (.iconst 5, 1) := by decide +kernel
theorem zd_L_law_191 : decode zc_L_law 191 = .ok (.iadd, 1) := by decide +kernel
theorem zd_L_law_192 : decode zc_L_law 192 = .ok (.iaload, 1) := by decide +kernel
theorem zd_L_law_193 : decode zc_L_law 193 = .ok (.invokevirtual 40, 3) := by decide +kernel
theorem zd_L_law_196 : decode zc_L_law 196 = .ok (.aload_n 2, 1) := by decide +kernel
theorem zd_L_law_197 : decode zc_L_law 197 = .ok (.aload_n 0, 1) := by decide +kernel
theorem zd_L_law_198 : decode zc_L_law 198 = .ok (.iload 4, 2) := by decide +kernel
theorem zd_L_law_200 : decode zc_L_law 200 = .ok (.iconst 1, 1) := by decide +kernel
theorem zd_L_law_201 : decode zc_L_law 201 = .ok (.iadd, 1) := by decide +kernel
theorem zd_L_law_202 : decode zc_L_law 202 = .ok (.iaload, 1) := by decide +kernel
theorem zd_L_law_203 : decode zc_L_law 203 = .ok (.aload_n 0, 1) := by decide +kernel
theorem zd_L_law_204 : decode zc_L_law 204 = .ok (.iload 4, 2) := by decide +kernel
theorem zd_L_law_206 : decode zc_L_law 206 = .ok (.iconst 2, 1) := by decide +kernel
theorem zd_L_law_207 : decode zc_L_law 207 = .ok (.iadd, 1) := by decide +kernel
theorem zd_L_law_208 : decode zc_L_law 208 = .ok (.iaload, 1) := by decide +kernel
theorem zd_L_law_209 : decode zc_L_law 209 = .ok (.aload_n 0, 1) := by decide +kernel
theorem zd_L_law_210 : decode zc_L_law 210 = .ok (.iload 4, 2) := by decide +kernel
theorem zd_L_law_212 : decode zc_L_law 212 = .ok (.iconst 3, 1) := by decide +kernel
theorem zd_L_law_213 : decode zc_L_law 213 = .ok (.iadd, 1) := by decide +kernel
theorem zd_L_law_214 : decode zc_L_law 214 = .ok (.iaload, 1) := by decide +kernel
theorem zd_L_law_215 : decode zc_L_law 215 = .ok (.aload_n 0, 1) := by decide +kernel
theorem zd_L_law_216 : decode zc_L_law 216 = .ok (.iload 4, 2) := by decide +kernel
theorem zd_L_law_218 : decode zc_L_law 218 = .ok (.iconst 4, 1) := by decide +kernel
theorem zd_L_law_219 : decode zc_L_law 219 = .ok (.iadd, 1) := by decide +kernel
theorem zd_L_law_220 : decode zc_L_law 220 = .ok (.iaload, 1) := by decide +kernel
theorem zd_L_law_221 : decode zc_L_law 221 = .ok (.aload_n 0, 1) := by decide +kernel
theorem zd_L_law_222 : decode zc_L_law 222 = .ok (.iload 4, 2) := by decide +kernel
theorem zd_L_law_224 : decode zc_L_law 224 = .ok (.iconst 5, 1) := by decide +kernel
theorem zd_L_law_225 : decode zc_L_law 225 = .ok (.iadd, 1) := by decide +kernel
theorem zd_L_law_226 : decode zc_L_law 226 = .ok (.iaload, 1) := by decide +kernel
theorem zd_L_law_227 : decode zc_L_law 227 = .ok (.invokevirtual 44, 3) := by decide +kernel
theorem zd_L_law_230 : decode zc_L_law 230 = .ok (.if_icmp .eq 286, 3) := by decide +kernel
theorem zd_L_law_233 : decode zc_L_law 233 = .ok (.iconst 0, 1) := by decide +kernel
theorem zd_L_law_234 : decode zc_L_law 234 = .ok (.ireturn, 1) := by decide +kernel
theorem zd_L_law_235 : decode zc_L_law 235 = .ok (.aload_n 1, 1) := by decide +kernel
theorem zd_L_law_236 : decode zc_L_law 236 = .ok (.invokevirtual 45, 3) := by decide +kernel
theorem zd_L_law_239 : decode zc_L_law 239 = .ok (.aload_n 2, 1) := by decide +kernel
theorem zd_L_law_240 : decode zc_L_law 240 = .ok (.invokevirtual 49, 3) := by decide +kernel
theorem zd_L_law_243 : decode zc_L_law 243 = .ok (.if_icmp .eq 273, 3) := by decide +kernel
theorem zd_L_law_246 : decode zc_L_law 246 = .ok (.iconst 0, 1) := by decide +kernel
theorem zd_L_law_247 : decode zc_L_law 247 = .ok (.ireturn, 1) := by decide +kernel
theorem zd_L_law_248 : decode zc_L_law 248 = .ok (.aload_n 1, 1) := by decide +kernel
theorem zd_L_law_249 : decode zc_L_law 249 = .ok (.aload_n 0, 1) := by decide +kernel
theorem zd_L_law_250 : decode zc_L_law 250 = .ok (.iload 4, 2) := by decide +kernel
theorem zd_L_law_252 : decode zc_L_law 252 = .ok (.iconst 1, 1) := by decide +kernel
theorem zd_L_law_253 : decode zc_L_law 253 = .ok (.iadd, 1) := by decide +kernel
theorem zd_L_law_254 : decode zc_L_law 254 = .ok (.iaload, 1) := by decide +kernel
theorem zd_L_law_255 : decode zc_L_law 255 = .ok (.aload_n 3, 1) := by decide +kernel
theorem zd_L_law_256 : decode zc_L_law 256 = .ok (.invokestatic 50, 3) := by decide +kernel
theorem zd_L_law_259 : decode zc_L_law 259 = .ok (.istore 5, 2) := by decide +kernel
theorem zd_L_law_261 : decode zc_L_law 261 = .ok (.aload_n 2, 1) := by decide +kernel
theorem zd_L_law_262 : decode zc_L_law 262 = .ok (.aload_n 0, 1) := by decide +kernel
theorem zd_L_law_263 : decode zc_L_law 263 = .ok (.iload 4, 2) := by decide +kernel
theorem zd_L_law_265 : decode zc_L_law 265 = .ok (.iconst 1, 1) := by decide +kernel
theorem zd_L_law_266 : decode zc_L_law 266 = .ok (.iadd, 1) := by decide +kernel
theorem zd_L_law_267 : decode zc_L_law 267 = .ok (.iaload, 1) := by decide +kernel
theorem zd_L_law_268 : decode zc_L_law 268 = .ok (.invokevirtual 55, 3) := by decide +kernel
theorem zd_L_law_271 : decode zc_L_law 271 = .ok (.istore 6, 2) := by decide +kernel
theorem zd_L_law_273 : decode zc_L_law 273 = .ok (.aload_n 2, 1) := by decide +kernel
theorem zd_L_law_274 : decode zc_L_law 274 = .ok (.invokevirtual 56, 3) := by decide +kernel
theorem zd_L_law_277 : decode zc_L_law 277 = .ok (.iload 5, 2) := by decide +kernel
theorem zd_L_law_279 : decode zc_L_law 279 = .ok (.if_icmp .eq 5, 3) := by decide +kernel
theorem zd_L_law_282 : decode zc_L_law 282 = .ok (.iconst 0, 1) := by decide +kernel
theorem zd_L_law_283 : decode zc_L_law 283 = .ok (.ireturn, 1) := by decide +kernel
theorem zd_L_law_284 : decode zc_L_law 284 = .ok (.iload 5, 2) := by decide +kernel
theorem zd_L_law_286 : decode zc_L_law 286 = .ok (.ifCond .ne 15, 3) := by decide +kernel
theorem zd_L_law_289 : decode zc_L_law 289 = .ok (.aload_n 3, 1) := by decide +kernel
theorem zd_L_law_290 : decode zc_L_law 290 = .ok (.iconst 0, 1) := by decide +kernel
theorem zd_L_law_291 : decode zc_L_law 291 = .ok (.laload, 1) := by decide +kernel
theorem zd_L_law_292 : decode zc_L_law 292 = .ok (.iload 6, 2) := by decide +kernel
theorem zd_L_law_294 : decode zc_L_law 294 = .ok (.i2l, 1) := by decide +kernel
theorem zd_L_law_295 : decode zc_L_law 295 = .ok (.lcmp, 1) := by decide +kernel
theorem zd_L_law_296 : decode zc_L_law 296 = .ok (.ifCond .eq 5, 3) := by decide +kernel
theorem zd_L_law_299 : decode zc_L_law 299 = .ok (.iconst 0, 1) := by decide +kernel
theorem zd_L_law_300 : decode zc_L_law 300 = .ok (.ireturn, 1) := by decide +kernel
theorem zd_L_law_301 : decode zc_L_law 301 = .ok (.goto 215, 3) := by decide +kernel
theorem zd_L_law_304 : decode zc_L_law 304 = .ok (.aload_n 1, 1) := by decide +kernel
theorem zd_L_law_305 : decode zc_L_law 305 = .ok (.aload_n 0, 1) := by decide +kernel
theorem zd_L_law_306 : decode zc_L_law 306 = .ok (.iload 4, 2) := by decide +kernel
theorem zd_L_law_308 : decode zc_L_law 308 = .ok (.iconst 1, 1) := by decide +kernel
theorem zd_L_law_309 : decode zc_L_law 309 = .ok (.iadd, 1) := by decide +kernel
theorem zd_L_law_310 : decode zc_L_law 310 = .ok (.iaload, 1) := by decide +kernel
theorem zd_L_law_311 : decode zc_L_law 311 = .ok (.aload_n 3, 1) := by decide +kernel
theorem zd_L_law_312 : decode zc_L_law 312 = .ok (.invokestatic 59, 3) := by decide +kernel
theorem zd_L_law_315 : decode zc_L_law 315 = .ok (.istore 5, 2) := by decide +kernel
theorem zd_L_law_317 : decode zc_L_law 317 = .ok (.aload_n 2, 1) := by decide +kernel
theorem zd_L_law_318 : decode zc_L_law 318 = .ok (.aload_n 0, 1) := by decide +kernel
theorem zd_L_law_319 : decode zc_L_law 319 = .ok (.iload 4, 2) := by decide +kernel
theorem zd_L_law_321 : decode zc_L_law 321 = .ok (.iconst 1, 1) := by decide +kernel
theorem zd_L_law_322 : decode zc_L_law 322 = .ok (.iadd, 1) := by decide +kernel
theorem zd_L_law_323 : decode zc_L_law 323 = .ok (.iaload, 1) := by decide +kernel
theorem zd_L_law_324 : decode zc_L_law 324 = .ok (.invokevirtual 61, 3) := by decide +kernel
theorem zd_L_law_327 : decode zc_L_law 327 = .ok (.istore 6, 2) := by decide +kernel
theorem zd_L_law_329 : decode zc_L_law 329 = .ok (.aload_n 2, 1) := by decide +kernel
theorem zd_L_law_330 : decode zc_L_law 330 = .ok (.invokevirtual 56, 3) := by decide +kernel
theorem zd_L_law_333 : decode zc_L_law 333 = .ok (.iload 5, 2) := by decide +kernel
theorem zd_L_law_335 : decode zc_L_law 335 = .ok (.if_icmp .eq 5, 3) := by decide +kernel
theorem zd_L_law_338 : decode zc_L_law 338 = .ok (.iconst 0, 1) := by decide +kernel
theorem zd_L_law_339 : decode zc_L_law 339 = .ok (.ireturn, 1) := by decide +kernel
theorem zd_L_law_340 : decode zc_L_law 340 = .ok (.iload 5, 2) := by decide +kernel
theorem zd_L_law_342 : decode zc_L_law 342 = .ok (.ifCond .ne 15, 3) := by decide +kernel
theorem zd_L_law_345 : decode zc_L_law 345 = .ok (.aload_n 3, 1) := by decide +kernel
theorem zd_L_law_346 : decode zc_L_law 346 = .ok (.iconst 0, 1) := by decide +kernel
theorem zd_L_law_347 : decode zc_L_law 347 = .ok (.laload, 1) := by decide +kernel
theorem zd_L_law_348 : decode zc_L_law 348 = .ok (.iload 6, 2) := by decide +kernel
theorem zd_L_law_350 : decode zc_L_law 350 = .ok (.i2l, 1) := by decide +kernel
theorem zd_L_law_351 : decode zc_L_law 351 = .ok (.lcmp, 1) := by decide +kernel
theorem zd_L_law_352 : decode zc_L_law 352 = .ok (.ifCond .eq 5, 3) := by decide +kernel
theorem zd_L_law_355 : decode zc_L_law 355 = .ok (.iconst 0, 1) := by decide +kernel
theorem zd_L_law_356 : decode zc_L_law 356 = .ok (.ireturn, 1) := by decide +kernel
theorem zd_L_law_357 : decode zc_L_law 357 = .ok (.goto 159, 3) := by decide +kernel
theorem zd_L_law_360 : decode zc_L_law 360 = .ok (.aload_n 1, 1) := by decide +kernel
theorem zd_L_law_361 : decode zc_L_law 361 = .ok (.aload_n 0, 1) := by decide +kernel
theorem zd_L_law_362 : decode zc_L_law 362 = .ok (.iload 4, 2) := by decide +kernel
theorem zd_L_law_364 : decode zc_L_law 364 = .ok (.iconst 1, 1) := by decide +kernel
theorem zd_L_law_365 : decode zc_L_law 365 = .ok (.iadd, 1) := by decide +kernel
theorem zd_L_law_366 : decode zc_L_law 366 = .ok (.iaload, 1) := by decide +kernel
theorem zd_L_law_367 : decode zc_L_law 367 = .ok (.invokevirtual 62, 3) := by decide +kernel
theorem zd_L_law_370 : decode zc_L_law 370 = .ok (.aload_n 2, 1) := by decide +kernel
theorem zd_L_law_371 : decode zc_L_law 371 = .ok (.aload_n 0, 1) := by decide +kernel
theorem zd_L_law_372 : decode zc_L_law 372 = .ok (.iload 4, 2) := by decide +kernel
theorem zd_L_law_374 : decode zc_L_law 374 = .ok (.iconst 1, 1) := by decide +kernel
theorem zd_L_law_375 : decode zc_L_law 375 = .ok (.iadd, 1) := by decide +kernel
theorem zd_L_law_376 : decode zc_L_law 376 = .ok (.iaload, 1) := by decide +kernel
theorem zd_L_law_377 : decode zc_L_law 377 = .ok (.invokevirtual 65, 3) := by decide +kernel
theorem zd_L_law_380 : decode zc_L_law 380 = .ok (.if_icmp .eq 136, 3) := by decide +kernel
theorem zd_L_law_383 : decode zc_L_law 383 = .ok (.iconst 0, 1) := by decide +kernel
theorem zd_L_law_384 : decode zc_L_law 384 = .ok (.ireturn, 1) := by decide +kernel
theorem zd_L_law_385 : decode zc_L_law 385 = .ok (.aload_n 1, 1) := by decide +kernel
theorem zd_L_law_386 : decode zc_L_law 386 = .ok (.aload_n 0, 1) := by decide +kernel
theorem zd_L_law_387 : decode zc_L_law 387 = .ok (.iload 4, 2) := by decide +kernel
theorem zd_L_law_389 : decode zc_L_law 389 = .ok (.iconst 1, 1) := by decide +kernel
theorem zd_L_law_390 : decode zc_L_law 390 = .ok (.iadd, 1) := by decide +kernel
theorem zd_L_law_391 : decode zc_L_law 391 = .ok (.iaload, 1) := by decide +kernel
theorem zd_L_law_392 : decode zc_L_law 392 = .ok (.invokevirtual 66, 3) := by decide +kernel
theorem zd_L_law_395 : decode zc_L_law 395 = .ok (.aload_n 2, 1) := by decide +kernel
theorem zd_L_law_396 : decode zc_L_law 396 = .ok (.aload_n 0, 1) := by decide +kernel
theorem zd_L_law_397 : decode zc_L_law 397 = .ok (.iload 4, 2) := by decide +kernel
theorem zd_L_law_399 : decode zc_L_law 399 = .ok (.iconst 1, 1) := by decide +kernel
theorem zd_L_law_400 : decode zc_L_law 400 = .ok (.iadd, 1) := by decide +kernel
theorem zd_L_law_401 : decode zc_L_law 401 = .ok (.iaload, 1) := by decide +kernel
theorem zd_L_law_402 : decode zc_L_law 402 = .ok (.invokevirtual 69, 3) := by decide +kernel
theorem zd_L_law_405 : decode zc_L_law 405 = .ok (.if_icmp .eq 111, 3) := by decide +kernel
theorem zd_L_law_408 : decode zc_L_law 408 = .ok (.iconst 0, 1) := by decide +kernel
theorem zd_L_law_409 : decode zc_L_law 409 = .ok (.ireturn, 1) := by decide +kernel
theorem zd_L_law_410 : decode zc_L_law 410 = .ok (.aload_n 1, 1) := by decide +kernel
theorem zd_L_law_411 : decode zc_L_law 411 = .ok (.aload_n 0, 1) := by decide +kernel
theorem zd_L_law_412 : decode zc_L_law 412 = .ok (.iload 4, 2) := by decide +kernel
theorem zd_L_law_414 : decode zc_L_law 414 = .ok (.iconst 1, 1) := by decide +kernel
theorem zd_L_law_415 : decode zc_L_law 415 = .ok (.iadd, 1) := by decide +kernel
theorem zd_L_law_416 : decode zc_L_law 416 = .ok (.iaload, 1) := by decide +kernel
theorem zd_L_law_417 : decode zc_L_law 417 = .ok (.aload_n 0, 1) := by decide +kernel
theorem zd_L_law_418 : decode zc_L_law 418 = .ok (.iload 4, 2) := by decide +kernel
theorem zd_L_law_420 : decode zc_L_law 420 = .ok (.iconst 2, 1) := by decide +kernel
theorem zd_L_law_421 : decode zc_L_law 421 = .ok (.iadd, 1) := by decide +kernel
theorem zd_L_law_422 : decode zc_L_law 422 = .ok (.iaload, 1) := by decide +kernel
theorem zd_L_law_423 : decode zc_L_law 423 = .ok (.aload_n 3, 1) := by decide +kernel
theorem zd_L_law_424 : decode zc_L_law 424 = .ok (.invokestatic 70, 3) := by decide +kernel
theorem zd_L_law_427 : decode zc_L_law 427 = .ok (.istore 5, 2) := by decide +kernel
theorem zd_L_law_429 : decode zc_L_law 429 = .ok (.aload_n 2, 1) := by decide +kernel
theorem zd_L_law_430 : decode zc_L_law 430 = .ok (.aload_n 0, 1) := by decide +kernel
theorem zd_L_law_431 : decode zc_L_law 431 = .ok (.iload 4, 2) := by decide +kernel
theorem zd_L_law_433 : decode zc_L_law 433 = .ok (.iconst 1, 1) := by decide +kernel
theorem zd_L_law_434 : decode zc_L_law 434 = .ok (.iadd, 1) := by decide +kernel
theorem zd_L_law_435 : decode zc_L_law 435 = .ok (.iaload, 1) := by decide +kernel
theorem zd_L_law_436 : decode zc_L_law 436 = .ok (.aload_n 0, 1) := by decide +kernel
theorem zd_L_law_437 : decode zc_L_law 437 = .ok (.iload 4, 2) := by decide +kernel
theorem zd_L_law_439 : decode zc_L_law 439 = .ok (.iconst 2, 1) := by decide +kernel
theorem zd_L_law_440 : decode zc_L_law 440 = .ok (.iadd, 1) := by decide +kernel
theorem zd_L_law_441 : decode zc_L_law 441 = .ok (.iaload, 1) := by decide +kernel
theorem zd_L_law_442 : decode zc_L_law 442 = .ok (.invokevirtual 73, 3) := by decide +kernel
theorem zd_L_law_445 : decode zc_L_law 445 = .ok (.istore 6, 2) := by decide +kernel
theorem zd_L_law_447 : decode zc_L_law 447 = .ok (.aload_n 2, 1) := by decide +kernel
theorem zd_L_law_448 : decode zc_L_law 448 = .ok (.invokevirtual 56, 3) := by decide +kernel
theorem zd_L_law_451 : decode zc_L_law 451 = .ok (.iload 5, 2) := by decide +kernel
theorem zd_L_law_453 : decode zc_L_law 453 = .ok (.if_icmp .eq 5, 3) := by decide +kernel
theorem zd_L_law_456 : decode zc_L_law 456 = .ok (.iconst 0, 1) := by decide +kernel
theorem zd_L_law_457 : decode zc_L_law 457 = .ok (.ireturn, 1) := by decide +kernel
theorem zd_L_law_458 : decode zc_L_law 458 = .ok (.iload 5, 2) := by decide +kernel
theorem zd_L_law_460 : decode zc_L_law 460 = .ok (.ifCond .ne 15, 3) := by decide +kernel
theorem zd_L_law_463 : decode zc_L_law 463 = .ok (.aload_n 3, 1) := by decide +kernel
theorem zd_L_law_464 : decode zc_L_law 464 = .ok (.iconst 0, 1) := by decide +kernel
theorem zd_L_law_465 : decode zc_L_law 465 = .ok (.laload, 1) := by decide +kernel
theorem zd_L_law_466 : decode zc_L_law 466 = .ok (.iload 6, 2) := by decide +kernel
theorem zd_L_law_468 : decode zc_L_law 468 = .ok (.i2l, 1) := by decide +kernel
theorem zd_L_law_469 : decode zc_L_law 469 = .ok (.lcmp, 1) := by decide +kernel
theorem zd_L_law_470 : decode zc_L_law 470 = .ok (.ifCond .eq 5, 3) := by decide +kernel
theorem zd_L_law_473 : decode zc_L_law 473 = .ok (.iconst 0, 1) := by decide +kernel
theorem zd_L_law_474 : decode zc_L_law 474 = .ok (.ireturn, 1) := by decide +kernel
theorem zd_L_law_475 : decode zc_L_law 475 = .ok (.goto 41, 3) := by decide +kernel
theorem zd_L_law_478 : decode zc_L_law 478 = .ok (.aload_n 1, 1) := by decide +kernel
theorem zd_L_law_479 : decode zc_L_law 479 = .ok (.invokevirtual 74, 3) := by decide +kernel
theorem zd_L_law_482 : decode zc_L_law 482 = .ok (.aload_n 2, 1) := by decide +kernel
theorem zd_L_law_483 : decode zc_L_law 483 = .ok (.invokevirtual 77, 3) := by decide +kernel
theorem zd_L_law_486 : decode zc_L_law 486 = .ok (.if_icmp .eq 30, 3) := by decide +kernel
theorem zd_L_law_489 : decode zc_L_law 489 = .ok (.iconst 0, 1) := by decide +kernel
theorem zd_L_law_490 : decode zc_L_law 490 = .ok (.ireturn, 1) := by decide +kernel
theorem zd_L_law_491 : decode zc_L_law 491 = .ok (.aload_n 1, 1) := by decide +kernel
theorem zd_L_law_492 : decode zc_L_law 492 = .ok (.aload_n 0, 1) := by decide +kernel
theorem zd_L_law_493 : decode zc_L_law 493 = .ok (.iload 4, 2) := by decide +kernel
theorem zd_L_law_495 : decode zc_L_law 495 = .ok (.iconst 1, 1) := by decide +kernel
theorem zd_L_law_496 : decode zc_L_law 496 = .ok (.iadd, 1) := by decide +kernel
theorem zd_L_law_497 : decode zc_L_law 497 = .ok (.iaload, 1) := by decide +kernel
theorem zd_L_law_498 : decode zc_L_law 498 = .ok (.invokevirtual 78, 3) := by decide +kernel
theorem zd_L_law_501 : decode zc_L_law 501 = .ok (.aload_n 2, 1) := by decide +kernel
theorem zd_L_law_502 : decode zc_L_law 502 = .ok (.aload_n 0, 1) := by decide +kernel
theorem zd_L_law_503 : decode zc_L_law 503 = .ok (.iload 4, 2) := by decide +kernel
theorem zd_L_law_505 : decode zc_L_law 505 = .ok (.iconst 1, 1) := by decide +kernel
theorem zd_L_law_506 : decode zc_L_law 506 = .ok (.iadd, 1) := by decide +kernel
theorem zd_L_law_507 : decode zc_L_law 507 = .ok (.iaload, 1) := by decide +kernel
theorem zd_L_law_508 : decode zc_L_law 508 = .ok (.invokevirtual 81, 3) := by decide +kernel
theorem zd_L_law_511 : decode zc_L_law 511 = .ok (.if_icmp .eq 5, 3) := by decide +kernel
theorem zd_L_law_514 : decode zc_L_law 514 = .ok (.iconst 0, 1) := by decide +kernel
theorem zd_L_law_515 : decode zc_L_law 515 = .ok (.ireturn, 1) := by decide +kernel
theorem zd_L_law_516 : decode zc_L_law 516 = .ok (.iinc 4 6, 3) := by decide +kernel
theorem zd_L_law_519 : decode zc_L_law 519 = .ok (.goto (-496), 3) := by decide +kernel
theorem zd_L_law_522 : decode zc_L_law 522 = .ok (.iconst 1, 1) := by decide +kernel
theorem zd_L_law_523 : decode zc_L_law 523 = .ok (.ireturn, 1) := by decide +kernel
end
section
/-- the words that a call keeps -/
def zG : List Cond := lw_tbl.filter goodWord
theorem zG_of {w : Cond} {i : Nat} (h : lw_tbl[i]? = some w) (g : goodWord w = true) : w ∈ zG := List.mem_filter.mpr ⟨List.mem_of_getElem? h, g⟩
theorem zG_good {big : List Cond} (h : ∀ w ∈ zG, w ∈ big) : GoodIn big zG := fun w hw => ⟨h w hw, good_of_word (List.mem_filter.mp hw).2⟩
def zIsN : Cond → Bool
  | .fieldLinkNest .. => true
  | .methodLinkNest .. => true
  | _ => false
/-- the words of the nest -/
def zNs : List Cond := lw_tbl.filter zIsN
theorem zN_of {w : Cond} {i : Nat} (h : lw_tbl[i]? = some w) (g : zIsN w = true) : w ∈ zNs := List.mem_filter.mpr ⟨List.mem_of_getElem? h, g⟩
theorem zN_on {w : Cond} (h : zIsN w = true) : w.onTables = true := by cases w <;> first | rfl | exact absurd h Bool.false_ne_true
def zNW (U : State) : Prop := ∀ w ∈ zNs, va_Nw w U
theorem zNW.warm {s U : State} (hW : s.WarmedH U.vm) (h : zNW s) : zNW U := fun w hw => by
  have h1 := h w hw
  have h2 := (List.mem_filter.mp hw).2
  cases w <;> first | exact va_Nw.warmF hW h1 | exact va_Nw.warmM hW h1 | exact absurd h2 Bool.false_ne_true
theorem zNW.same {u U : State} (h : u.vm = U.vm) (hZ : zNW u) : zNW U := fun w hw => va_Nw.same (zN_on (List.mem_filter.mp hw).2) h (hZ w hw)
theorem zNW.use {w : Cond} {s : State} {A : Array Value} (h : zNW s) (hw : w ∈ zNs) : w.before A s = true := va_Nw.use (zN_on (List.mem_filter.mp hw).2) (h w hw)
theorem zNW.of {s : State} {A : Array Value} (h : ∀ w ∈ lw_tbl, w.before A s = true) : zNW s := fun w hw => va_Nw.of (zN_on (List.mem_filter.mp hw).2) (h w (List.mem_filter.mp hw).1)
theorem zs_0 : Cond.selects "RatePlans$Net" ⟨"RatePlans$Net", "begin", "(I)V"⟩ ⟨"RatePlans$Net", "begin", "(I)V"⟩ ∈ zG := zG_of (i := 0) rfl (by decide +kernel)
theorem zs_1 : Cond.selects "RatePlans" ⟨"RatePlans", "forgetAnswers", "()V"⟩ ⟨"RatePlans", "forgetAnswers", "()V"⟩ ∈ zG := zG_of (i := 1) rfl (by decide +kernel)
theorem zs_2 : Cond.selects "RatePlans$Net" ⟨"RatePlans$Net", "hasActor", "(I)Z"⟩ ⟨"RatePlans$Net", "hasActor", "(I)Z"⟩ ∈ zG := zG_of (i := 2) rfl (by decide +kernel)
theorem zs_3 : Cond.selects "RatePlans$Net" ⟨"RatePlans$Net", "add", "(IIIII)I"⟩ ⟨"RatePlans$Net", "add", "(IIIII)I"⟩ ∈ zG := zG_of (i := 3) rfl (by decide +kernel)
theorem zs_4 : Cond.selects "RatePlans$Net" ⟨"RatePlans$Net", "balance", "(I)V"⟩ ⟨"RatePlans$Net", "balance", "(I)V"⟩ ∈ zG := zG_of (i := 4) rfl (by decide +kernel)
theorem zs_5 : Cond.selects "RatePlans$Net" ⟨"RatePlans$Net", "multiply", "(II)V"⟩ ⟨"RatePlans$Net", "multiply", "(II)V"⟩ ∈ zG := zG_of (i := 5) rfl (by decide +kernel)
theorem zs_6 : Cond.selects "RatePlans$Net" ⟨"RatePlans$Net", "join", "(II)V"⟩ ⟨"RatePlans$Net", "join", "(II)V"⟩ ∈ zG := zG_of (i := 6) rfl (by decide +kernel)
theorem zs_7 : Cond.selects "RatePlans" ⟨"RatePlans", "findRound", "()Z"⟩ ⟨"RatePlans", "findRound", "()Z"⟩ ∈ zG := zG_of (i := 7) rfl (by decide +kernel)
theorem zs_8 : Cond.selects "RatePlans$Net" ⟨"RatePlans$Net", "isUneven", "()Z"⟩ ⟨"RatePlans$Net", "isUneven", "()Z"⟩ ∈ zG := zG_of (i := 8) rfl (by decide +kernel)
theorem zs_9 : Cond.selects "RatePlans$Net" ⟨"RatePlans$Net", "isGreat", "()Z"⟩ ⟨"RatePlans$Net", "isGreat", "()Z"⟩ ∈ zG := zG_of (i := 9) rfl (by decide +kernel)
theorem zs_10 : Cond.selects "RatePlans$Round" ⟨"RatePlans$Round", "play", "(LRatePlans$Net;)V"⟩ ⟨"RatePlans$Round", "play", "(LRatePlans$Net;)V"⟩ ∈ zG := zG_of (i := 10) rfl (by decide +kernel)
theorem zs_11 : Cond.selects "RatePlans$Round" ⟨"RatePlans$Round", "begin", "(LRatePlans$Net;)V"⟩ ⟨"RatePlans$Round", "begin", "(LRatePlans$Net;)V"⟩ ∈ zG := zG_of (i := 11) rfl (by decide +kernel)
theorem zs_12 : Cond.selects "RatePlans$Round" ⟨"RatePlans$Round", "leastReady", "(LRatePlans$Net;)I"⟩ ⟨"RatePlans$Round", "leastReady", "(LRatePlans$Net;)I"⟩ ∈ zG := zG_of (i := 12) rfl (by decide +kernel)
theorem zs_13 : Cond.selects "RatePlans$Round" ⟨"RatePlans$Round", "hasEnough", "(LRatePlans$Net;I)Z"⟩ ⟨"RatePlans$Round", "hasEnough", "(LRatePlans$Net;I)Z"⟩ ∈ zG := zG_of (i := 13) rfl (by decide +kernel)
theorem zs_14 : Cond.selects "RatePlans$Round" ⟨"RatePlans$Round", "fire", "(LRatePlans$Net;I)V"⟩ ⟨"RatePlans$Round", "fire", "(LRatePlans$Net;I)V"⟩ ∈ zG := zG_of (i := 14) rfl (by decide +kernel)
theorem zs_15 : Cond.selects "RatePlans$Net" ⟨"RatePlans$Net", "hasChannel", "(I)Z"⟩ ⟨"RatePlans$Net", "hasChannel", "(I)Z"⟩ ∈ zG := zG_of (i := 15) rfl (by decide +kernel)
theorem zs_16 : Cond.selects "RatePlans$Net" ⟨"RatePlans$Net", "isChain", "()Z"⟩ ⟨"RatePlans$Net", "isChain", "()Z"⟩ ∈ zG := zG_of (i := 16) rfl (by decide +kernel)
theorem zs_17 : Cond.selects "RatePlans$Rooms" ⟨"RatePlans$Rooms", "ofAll", "(LRatePlans$Net;)I"⟩ ⟨"RatePlans$Rooms", "ofAll", "(LRatePlans$Net;)I"⟩ ∈ zG := zG_of (i := 17) rfl (by decide +kernel)
theorem zs_18 : Cond.selects "RatePlans$Rooms" ⟨"RatePlans$Rooms", "ofBestCut", "(LRatePlans$Net;III)I"⟩ ⟨"RatePlans$Rooms", "ofBestCut", "(LRatePlans$Net;III)I"⟩ ∈ zG := zG_of (i := 18) rfl (by decide +kernel)
theorem zs_19 : Cond.selects "RatePlans$Net" ⟨"RatePlans$Net", "parts", "()I"⟩ ⟨"RatePlans$Net", "parts", "()I"⟩ ∈ zG := zG_of (i := 19) rfl (by decide +kernel)
theorem zs_20 : Cond.selects "java/lang/Throwable" ⟨"java/lang/Throwable", "fillInStackTrace", "(I)Ljava/lang/Throwable;"⟩ ⟨"java/lang/Throwable", "fillInStackTrace", "(I)Ljava/lang/Throwable;"⟩ ∈ zG := zG_of (i := 20) rfl (by decide +kernel)
theorem zs_21 : Cond.selects "RatePlans$Round" ⟨"RatePlans$Round", "isAlive", "(LRatePlans$Net;)Z"⟩ ⟨"RatePlans$Round", "isAlive", "(LRatePlans$Net;)Z"⟩ ∈ zG := zG_of (i := 21) rfl (by decide +kernel)
theorem zs_22 : Cond.selects "RatePlans$Net" ⟨"RatePlans$Net", "isClosed", "(I)Z"⟩ ⟨"RatePlans$Net", "isClosed", "(I)Z"⟩ ∈ zG := zG_of (i := 22) rfl (by decide +kernel)
theorem zs_23 : Cond.selects "RatePlans$Net" ⟨"RatePlans$Net", "reached", "(I[I[I)I"⟩ ⟨"RatePlans$Net", "reached", "(I[I[I)I"⟩ ∈ zG := zG_of (i := 23) rfl (by decide +kernel)
theorem zs_24 : Cond.selects "RatePlans$Net" ⟨"RatePlans$Net", "countsOfPart", "(I)I"⟩ ⟨"RatePlans$Net", "countsOfPart", "(I)I"⟩ ∈ zG := zG_of (i := 24) rfl (by decide +kernel)
theorem zs_25 : Cond.selects "RatePlans$Pacer" ⟨"RatePlans$Pacer", "find", "(LRatePlans$Net;I)V"⟩ ⟨"RatePlans$Pacer", "find", "(LRatePlans$Net;I)V"⟩ ∈ zG := zG_of (i := 25) rfl (by decide +kernel)
theorem zs_26 : Cond.selects "RatePlans$Pacer" ⟨"RatePlans$Pacer", "addFirings", "(LRatePlans$Net;I)V"⟩ ⟨"RatePlans$Pacer", "addFirings", "(LRatePlans$Net;I)V"⟩ ∈ zG := zG_of (i := 26) rfl (by decide +kernel)
theorem zs_27 : Cond.selects "RatePlans$Pacer" ⟨"RatePlans$Pacer", "addFiringsOf", "(III)V"⟩ ⟨"RatePlans$Pacer", "addFiringsOf", "(III)V"⟩ ∈ zG := zG_of (i := 27) rfl (by decide +kernel)
theorem zs_28 : Cond.selects "RatePlans$Pacer" ⟨"RatePlans$Pacer", "addEdge", "(III)V"⟩ ⟨"RatePlans$Pacer", "addEdge", "(III)V"⟩ ∈ zG := zG_of (i := 28) rfl (by decide +kernel)
theorem zs_29 : Cond.selects "RatePlans$Pacer" ⟨"RatePlans$Pacer", "addWaits", "(LRatePlans$Net;I)V"⟩ ⟨"RatePlans$Pacer", "addWaits", "(LRatePlans$Net;I)V"⟩ ∈ zG := zG_of (i := 29) rfl (by decide +kernel)
theorem zs_30 : Cond.selects "RatePlans$Pacer" ⟨"RatePlans$Pacer", "addWaitsOf", "(LRatePlans$Net;I)V"⟩ ⟨"RatePlans$Pacer", "addWaitsOf", "(LRatePlans$Net;I)V"⟩ ∈ zG := zG_of (i := 30) rfl (by decide +kernel)
theorem zs_31 : Cond.selects "RatePlans$Pacer" ⟨"RatePlans$Pacer", "beginWithSlowestActor", "(LRatePlans$Net;I)V"⟩ ⟨"RatePlans$Pacer", "beginWithSlowestActor", "(LRatePlans$Net;I)V"⟩ ∈ zG := zG_of (i := 31) rfl (by decide +kernel)
theorem zs_32 : Cond.selects "RatePlans$Pacer" ⟨"RatePlans$Pacer", "nodeOnSlowerLoop", "()I"⟩ ⟨"RatePlans$Pacer", "nodeOnSlowerLoop", "()I"⟩ ∈ zG := zG_of (i := 32) rfl (by decide +kernel)
theorem zs_33 : Cond.selects "RatePlans$Pacer" ⟨"RatePlans$Pacer", "raiseAll", "()Z"⟩ ⟨"RatePlans$Pacer", "raiseAll", "()Z"⟩ ∈ zG := zG_of (i := 33) rfl (by decide +kernel)
theorem zs_34 : Cond.selects "RatePlans$Pacer" ⟨"RatePlans$Pacer", "nodeOnLoopOfRaises", "()I"⟩ ⟨"RatePlans$Pacer", "nodeOnLoopOfRaises", "()I"⟩ ∈ zG := zG_of (i := 34) rfl (by decide +kernel)
theorem zs_35 : Cond.selects "RatePlans$Pacer" ⟨"RatePlans$Pacer", "nodeAhead", "(I)I"⟩ ⟨"RatePlans$Pacer", "nodeAhead", "(I)I"⟩ ∈ zG := zG_of (i := 35) rfl (by decide +kernel)
theorem zs_36 : Cond.selects "RatePlans$Pacer" ⟨"RatePlans$Pacer", "takeRatioOf", "(I)V"⟩ ⟨"RatePlans$Pacer", "takeRatioOf", "(I)V"⟩ ∈ zG := zG_of (i := 36) rfl (by decide +kernel)
theorem zs_37 : Cond.selects "RatePlansModel" ⟨"RatePlansModel", "know", "()V"⟩ ⟨"RatePlansModel", "know", "()V"⟩ ∈ zG := zG_of (i := 37) rfl (by decide +kernel)
theorem zs_38 : Cond.selects "RatePlansModel" ⟨"RatePlansModel", "fits", "(I)Z"⟩ ⟨"RatePlansModel", "fits", "(I)Z"⟩ ∈ zG := zG_of (i := 38) rfl (by decide +kernel)
theorem zs_39 : Cond.selects "RatePlansModel" ⟨"RatePlansModel", "set", "(IJJ)V"⟩ ⟨"RatePlansModel", "set", "(IJJ)V"⟩ ∈ zG := zG_of (i := 39) rfl (by decide +kernel)
theorem zs_40 : Cond.selects "RatePlansModel" ⟨"RatePlansModel", "reach", "(I)Z"⟩ ⟨"RatePlansModel", "reach", "(I)Z"⟩ ∈ zG := zG_of (i := 40) rfl (by decide +kernel)
theorem zs_41 : Cond.selects "RatePlansModel" ⟨"RatePlansModel", "findCounts", "()V"⟩ ⟨"RatePlansModel", "findCounts", "()V"⟩ ∈ zG := zG_of (i := 41) rfl (by decide +kernel)
theorem zs_42 : Cond.selects "RatePlansModel" ⟨"RatePlansModel", "leastOf", "(I)I"⟩ ⟨"RatePlansModel", "leastOf", "(I)I"⟩ ∈ zG := zG_of (i := 42) rfl (by decide +kernel)
theorem zs_43 : Cond.selects "RatePlansModel" ⟨"RatePlansModel", "round", "()V"⟩ ⟨"RatePlansModel", "round", "()V"⟩ ∈ zG := zG_of (i := 43) rfl (by decide +kernel)
theorem zs_44 : Cond.selects "RatePlansModel" ⟨"RatePlansModel", "canBeDone", "(I)Z"⟩ ⟨"RatePlansModel", "canBeDone", "(I)Z"⟩ ∈ zG := zG_of (i := 44) rfl (by decide +kernel)
theorem zs_45 : Cond.selects "RatePlansModel" ⟨"RatePlansModel", "raise", "(I)I"⟩ ⟨"RatePlansModel", "raise", "(I)I"⟩ ∈ zG := zG_of (i := 45) rfl (by decide +kernel)
theorem zs_46 : Cond.selects "RatePlansModel" ⟨"RatePlansModel", "isPlain", "()Z"⟩ ⟨"RatePlansModel", "isPlain", "()Z"⟩ ∈ zG := zG_of (i := 46) rfl (by decide +kernel)
theorem zs_47 : Cond.selects "RatePlansModel" ⟨"RatePlansModel", "comesToAll", "(IZ)Z"⟩ ⟨"RatePlansModel", "comesToAll", "(IZ)Z"⟩ ∈ zG := zG_of (i := 47) rfl (by decide +kernel)
theorem zs_48 : Cond.selects "RatePlansModel" ⟨"RatePlansModel", "findPace", "(I)V"⟩ ⟨"RatePlansModel", "findPace", "(I)V"⟩ ∈ zG := zG_of (i := 48) rfl (by decide +kernel)
theorem zs_49 : Cond.selects "RatePlansModel" ⟨"RatePlansModel", "build", "(I)V"⟩ ⟨"RatePlansModel", "build", "(I)V"⟩ ∈ zG := zG_of (i := 49) rfl (by decide +kernel)
theorem zs_50 : Cond.selects "RatePlansModel" ⟨"RatePlansModel", "edge", "(IIII)V"⟩ ⟨"RatePlansModel", "edge", "(IIII)V"⟩ ∈ zG := zG_of (i := 50) rfl (by decide +kernel)
theorem zs_51 : Cond.selects "RatePlansModel" ⟨"RatePlansModel", "isSlower", "(J)Z"⟩ ⟨"RatePlansModel", "isSlower", "(J)Z"⟩ ∈ zG := zG_of (i := 51) rfl (by decide +kernel)
theorem zs_52 : Cond.selects "RatePlansModel" ⟨"RatePlansModel", "isChain", "()Z"⟩ ⟨"RatePlansModel", "isChain", "()Z"⟩ ∈ zG := zG_of (i := 52) rfl (by decide +kernel)
theorem zs_53 : Cond.selects "RatePlansModel" ⟨"RatePlansModel", "divisorOf", "(II)I"⟩ ⟨"RatePlansModel", "divisorOf", "(II)I"⟩ ∈ zG := zG_of (i := 53) rfl (by decide +kernel)
set_option maxRecDepth 100000 in
theorem zw_0 : Cond.initialized "RatePlansLaw" ∈ zG := zG_of (i := 54) rfl (by decide +kernel)
set_option maxRecDepth 100000 in
theorem zw_1 : Cond.initialized "RatePlans" ∈ zG := zG_of (i := 55) rfl (by decide +kernel)
set_option maxRecDepth 100000 in
theorem zw_2 : Cond.initialized "RatePlans$Net" ∈ zG := zG_of (i := 56) rfl (by decide +kernel)
set_option maxRecDepth 100000 in
theorem zw_3 : Cond.initialized "RatePlans$Round" ∈ zG := zG_of (i := 57) rfl (by decide +kernel)
set_option maxRecDepth 100000 in
theorem zw_4 : Cond.initialized "RatePlans$Pacer" ∈ zG := zG_of (i := 58) rfl (by decide +kernel)
set_option maxRecDepth 100000 in
theorem zw_5 : Cond.initialized "RatePlans$Rooms" ∈ zG := zG_of (i := 59) rfl (by decide +kernel)
set_option maxRecDepth 100000 in
theorem zw_6 : Cond.initialized "RatePlansModel" ∈ zG := zG_of (i := 60) rfl (by decide +kernel)
set_option maxRecDepth 100000 in
theorem zw_7 : Cond.initialized "java/lang/Math" ∈ zG := zG_of (i := 61) rfl (by decide +kernel)
set_option maxRecDepth 100000 in
theorem zw_8 : Cond.initialized "java/lang/Throwable" ∈ zG := zG_of (i := 62) rfl (by decide +kernel)
set_option maxRecDepth 100000 in
theorem zw_9 : Cond.initialized "java/lang/Exception" ∈ zG := zG_of (i := 63) rfl (by decide +kernel)
set_option maxRecDepth 100000 in
theorem zw_10 : Cond.initialized "java/lang/RuntimeException" ∈ zG := zG_of (i := 64) rfl (by decide +kernel)
set_option maxRecDepth 100000 in
theorem zw_11 : Cond.initialized "java/lang/IllegalStateException" ∈ zG := zG_of (i := 65) rfl (by decide +kernel)
set_option maxRecDepth 100000 in
theorem zw_12 : Cond.initialized "java/lang/ArithmeticException" ∈ zG := zG_of (i := 66) rfl (by decide +kernel)
set_option maxRecDepth 100000 in
theorem zw_13 : Cond.initialized "java/util/NoSuchElementException" ∈ zG := zG_of (i := 67) rfl (by decide +kernel)
set_option maxRecDepth 100000 in
theorem zw_14 : Cond.classLink "RatePlansLaw" (8 : Nat) "RatePlans" ∈ zG := zG_of (i := 68) rfl (by decide +kernel)
set_option maxRecDepth 100000 in
theorem zw_15 : Cond.instantiable "RatePlans" (4 : Nat) ∈ zG := zG_of (i := 69) rfl (by decide +kernel)
set_option maxRecDepth 100000 in
theorem zw_16 : Cond.methodLink "RatePlansLaw" (26 : Nat) ({ cls := "RatePlans", name := "<init>", desc := "()V" } : Jvm.MethodName) ∈ zG := zG_of (i := 70) rfl (by decide +kernel)
set_option maxRecDepth 100000 in
theorem zw_17 : Cond.instanceMethod ({ cls := "RatePlans", name := "<init>", desc := "()V" } : Jvm.MethodName) ∈ zG := zG_of (i := 71) rfl (by decide +kernel)
set_option maxRecDepth 100000 in
theorem zw_18 : Cond.code ({ cls := "RatePlans", name := "<init>", desc := "()V" } : Jvm.MethodName) prog_1_method_1_code (1 : Nat) (Option.none : Option Jvm.ClassFile.FieldType) ∈ zG := zG_of (i := 72) rfl (by decide +kernel)
set_option maxRecDepth 100000 in
theorem zw_19 : Cond.methodLink "RatePlans" (3 : Nat) ({ cls := "java/lang/Object", name := "<init>", desc := "()V" } : Jvm.MethodName) ∈ zG := zG_of (i := 73) rfl (by decide +kernel)
set_option maxRecDepth 100000 in
theorem zw_20 : Cond.instanceMethod ({ cls := "java/lang/Object", name := "<init>", desc := "()V" } : Jvm.MethodName) ∈ zG := zG_of (i := 74) rfl (by decide +kernel)
set_option maxRecDepth 100000 in
theorem zw_21 : Cond.code ({ cls := "java/lang/Object", name := "<init>", desc := "()V" } : Jvm.MethodName) object_method_1_code (1 : Nat) (Option.none : Option Jvm.ClassFile.FieldType) ∈ zG := zG_of (i := 75) rfl (by decide +kernel)
set_option maxRecDepth 100000 in
theorem zw_22 : Cond.classLink "RatePlans" (9 : Nat) "RatePlans$Net" ∈ zG := zG_of (i := 76) rfl (by decide +kernel)
set_option maxRecDepth 100000 in
theorem zw_23 : Cond.instantiable "RatePlans$Net" (11 : Nat) ∈ zG := zG_of (i := 77) rfl (by decide +kernel)
set_option maxRecDepth 100000 in
theorem zw_24 : Cond.methodLinkNest "RatePlans" (11 : Nat) ({ cls := "RatePlans$Net", name := "<init>", desc := "()V" } : Jvm.MethodName) "RatePlans" ∈ zNs := zN_of (i := 78) rfl (by decide +kernel)
set_option maxRecDepth 100000 in
theorem zw_25 : Cond.instanceMethod ({ cls := "RatePlans$Net", name := "<init>", desc := "()V" } : Jvm.MethodName) ∈ zG := zG_of (i := 79) rfl (by decide +kernel)
set_option maxRecDepth 100000 in
theorem zw_26 : Cond.code ({ cls := "RatePlans$Net", name := "<init>", desc := "()V" } : Jvm.MethodName) prog_2_method_1_code (1 : Nat) (Option.none : Option Jvm.ClassFile.FieldType) ∈ zG := zG_of (i := 80) rfl (by decide +kernel)
set_option maxRecDepth 100000 in
theorem zw_27 : Cond.methodLink "RatePlans$Net" (3 : Nat) ({ cls := "java/lang/Object", name := "<init>", desc := "()V" } : Jvm.MethodName) ∈ zG := zG_of (i := 81) rfl (by decide +kernel)
set_option maxRecDepth 100000 in
theorem zw_28 : Cond.methodLink "RatePlans$Net" (36 : Nat) ({ cls := "RatePlans$Net", name := "begin", desc := "(I)V" } : Jvm.MethodName) ∈ zG := zG_of (i := 82) rfl (by decide +kernel)
set_option maxRecDepth 100000 in
theorem zw_30 : Cond.instanceMethod ({ cls := "RatePlans$Net", name := "begin", desc := "(I)V" } : Jvm.MethodName) ∈ zG := zG_of (i := 84) rfl (by decide +kernel)
set_option maxRecDepth 100000 in
theorem zw_31 : Cond.code ({ cls := "RatePlans$Net", name := "begin", desc := "(I)V" } : Jvm.MethodName) prog_2_method_2_code (3 : Nat) (Option.none : Option Jvm.ClassFile.FieldType) ∈ zG := zG_of (i := 85) rfl (by decide +kernel)
set_option maxRecDepth 100000 in
theorem zw_32 : Cond.fieldLinkNest "RatePlans$Rooms" (16 : Nat) "RatePlans$Net" "actors" "I" "RatePlans" ∈ zNs := zN_of (i := 86) rfl (by decide +kernel)
set_option maxRecDepth 100000 in
theorem zw_33 : Cond.fieldLink "RatePlans$Net" (40 : Nat) "RatePlans$Net" "actors" "I" ∈ zG := zG_of (i := 87) rfl (by decide +kernel)
set_option maxRecDepth 100000 in
theorem zw_34 : Cond.fieldLinkNest "RatePlans$Round" (44 : Nat) "RatePlans$Net" "actors" "I" "RatePlans" ∈ zNs := zN_of (i := 88) rfl (by decide +kernel)
set_option maxRecDepth 100000 in
theorem zw_35 : Cond.fieldLinkNest "RatePlans$Pacer" (70 : Nat) "RatePlans$Net" "actors" "I" "RatePlans" ∈ zNs := zN_of (i := 89) rfl (by decide +kernel)
set_option maxRecDepth 100000 in
theorem zw_36 : Cond.fieldLinkNest "RatePlans" (149 : Nat) "RatePlans$Net" "actors" "I" "RatePlans" ∈ zNs := zN_of (i := 90) rfl (by decide +kernel)
set_option maxRecDepth 100000 in
theorem zw_37 : Cond.fieldLink "RatePlans$Net" (44 : Nat) "RatePlans$Net" "channels" "I" ∈ zG := zG_of (i := 91) rfl (by decide +kernel)
set_option maxRecDepth 100000 in
theorem zw_38 : Cond.fieldLinkNest "RatePlans$Round" (52 : Nat) "RatePlans$Net" "channels" "I" "RatePlans" ∈ zNs := zN_of (i := 92) rfl (by decide +kernel)
set_option maxRecDepth 100000 in
theorem zw_39 : Cond.fieldLinkNest "RatePlans" (56 : Nat) "RatePlans$Net" "channels" "I" "RatePlans" ∈ zNs := zN_of (i := 93) rfl (by decide +kernel)
set_option maxRecDepth 100000 in
theorem zw_40 : Cond.fieldLinkNest "RatePlans$Pacer" (91 : Nat) "RatePlans$Net" "channels" "I" "RatePlans" ∈ zNs := zN_of (i := 94) rfl (by decide +kernel)
set_option maxRecDepth 100000 in
theorem zw_41 : Cond.fieldLink "RatePlans$Net" (47 : Nat) "RatePlans$Net" "uneven" "I" ∈ zG := zG_of (i := 95) rfl (by decide +kernel)
set_option maxRecDepth 100000 in
theorem zw_42 : Cond.fieldLinkNest "RatePlans" (64 : Nat) "RatePlans$Net" "uneven" "I" "RatePlans" ∈ zNs := zN_of (i := 96) rfl (by decide +kernel)
set_option maxRecDepth 100000 in
theorem zw_43 : Cond.fieldLink "RatePlans$Net" (9 : Nat) "RatePlans$Net" "time" "[I" ∈ zG := zG_of (i := 97) rfl (by decide +kernel)
set_option maxRecDepth 100000 in
theorem zw_44 : Cond.fieldLinkNest "RatePlans" (52 : Nat) "RatePlans$Net" "time" "[I" "RatePlans" ∈ zNs := zN_of (i := 98) rfl (by decide +kernel)
set_option maxRecDepth 100000 in
theorem zw_45 : Cond.fieldLinkNest "RatePlans$Pacer" (81 : Nat) "RatePlans$Net" "time" "[I" "RatePlans" ∈ zNs := zN_of (i := 99) rfl (by decide +kernel)
set_option maxRecDepth 100000 in
theorem zw_46 : Cond.fieldLink "RatePlans$Net" (15 : Nat) "RatePlans$Net" "count" "[I" ∈ zG := zG_of (i := 100) rfl (by decide +kernel)
set_option maxRecDepth 100000 in
theorem zw_47 : Cond.fieldLinkNest "RatePlans$Rooms" (22 : Nat) "RatePlans$Net" "count" "[I" "RatePlans" ∈ zNs := zN_of (i := 101) rfl (by decide +kernel)
set_option maxRecDepth 100000 in
theorem zw_48 : Cond.fieldLinkNest "RatePlans$Round" (49 : Nat) "RatePlans$Net" "count" "[I" "RatePlans" ∈ zNs := zN_of (i := 102) rfl (by decide +kernel)
set_option maxRecDepth 100000 in
theorem zw_49 : Cond.fieldLinkNest "RatePlans$Pacer" (78 : Nat) "RatePlans$Net" "count" "[I" "RatePlans" ∈ zNs := zN_of (i := 103) rfl (by decide +kernel)
set_option maxRecDepth 100000 in
theorem zw_50 : Cond.fieldLinkNest "RatePlans" (86 : Nat) "RatePlans$Net" "count" "[I" "RatePlans" ∈ zNs := zN_of (i := 104) rfl (by decide +kernel)
set_option maxRecDepth 100000 in
theorem zw_51 : Cond.fieldLink "RatePlans$Net" (18 : Nat) "RatePlans$Net" "part" "[I" ∈ zG := zG_of (i := 105) rfl (by decide +kernel)
set_option maxRecDepth 100000 in
theorem zw_52 : Cond.fieldLinkNest "RatePlans$Pacer" (75 : Nat) "RatePlans$Net" "part" "[I" "RatePlans" ∈ zNs := zN_of (i := 106) rfl (by decide +kernel)
set_option maxRecDepth 100000 in
theorem zw_53 : Cond.fieldLinkNest "RatePlans" (129 : Nat) "RatePlans$Net" "part" "[I" "RatePlans" ∈ zNs := zN_of (i := 107) rfl (by decide +kernel)
set_option maxRecDepth 100000 in
theorem zw_54 : Cond.fieldLink "RatePlans$Net" (21 : Nat) "RatePlans$Net" "from" "[I" ∈ zG := zG_of (i := 108) rfl (by decide +kernel)
set_option maxRecDepth 100000 in
theorem zw_55 : Cond.fieldLinkNest "RatePlans$Pacer" (94 : Nat) "RatePlans$Net" "from" "[I" "RatePlans" ∈ zNs := zN_of (i := 109) rfl (by decide +kernel)
set_option maxRecDepth 100000 in
theorem zw_56 : Cond.fieldLinkNest "RatePlans$Round" (68 : Nat) "RatePlans$Net" "from" "[I" "RatePlans" ∈ zNs := zN_of (i := 110) rfl (by decide +kernel)
set_option maxRecDepth 100000 in
theorem zw_57 : Cond.fieldLink "RatePlans$Net" (24 : Nat) "RatePlans$Net" "to" "[I" ∈ zG := zG_of (i := 111) rfl (by decide +kernel)
set_option maxRecDepth 100000 in
theorem zw_58 : Cond.fieldLinkNest "RatePlans$Round" (62 : Nat) "RatePlans$Net" "to" "[I" "RatePlans" ∈ zNs := zN_of (i := 112) rfl (by decide +kernel)
set_option maxRecDepth 100000 in
theorem zw_59 : Cond.fieldLinkNest "RatePlans$Pacer" (100 : Nat) "RatePlans$Net" "to" "[I" "RatePlans" ∈ zNs := zN_of (i := 113) rfl (by decide +kernel)
set_option maxRecDepth 100000 in
theorem zw_60 : Cond.fieldLink "RatePlans$Net" (27 : Nat) "RatePlans$Net" "puts" "[I" ∈ zG := zG_of (i := 114) rfl (by decide +kernel)
set_option maxRecDepth 100000 in
theorem zw_61 : Cond.fieldLinkNest "RatePlans$Rooms" (37 : Nat) "RatePlans$Net" "puts" "[I" "RatePlans" ∈ zNs := zN_of (i := 115) rfl (by decide +kernel)
set_option maxRecDepth 100000 in
theorem zw_62 : Cond.fieldLinkNest "RatePlans$Pacer" (103 : Nat) "RatePlans$Net" "puts" "[I" "RatePlans" ∈ zNs := zN_of (i := 116) rfl (by decide +kernel)
set_option maxRecDepth 100000 in
theorem zw_63 : Cond.fieldLinkNest "RatePlans$Round" (71 : Nat) "RatePlans$Net" "puts" "[I" "RatePlans" ∈ zNs := zN_of (i := 117) rfl (by decide +kernel)
set_option maxRecDepth 100000 in
theorem zw_64 : Cond.fieldLink "RatePlans$Net" (30 : Nat) "RatePlans$Net" "takes" "[I" ∈ zG := zG_of (i := 118) rfl (by decide +kernel)
set_option maxRecDepth 100000 in
theorem zw_65 : Cond.fieldLinkNest "RatePlans$Round" (65 : Nat) "RatePlans$Net" "takes" "[I" "RatePlans" ∈ zNs := zN_of (i := 119) rfl (by decide +kernel)
set_option maxRecDepth 100000 in
theorem zw_66 : Cond.fieldLinkNest "RatePlans$Pacer" (106 : Nat) "RatePlans$Net" "takes" "[I" "RatePlans" ∈ zNs := zN_of (i := 120) rfl (by decide +kernel)
set_option maxRecDepth 100000 in
theorem zw_67 : Cond.fieldLink "RatePlans$Net" (33 : Nat) "RatePlans$Net" "tokens" "[I" ∈ zG := zG_of (i := 121) rfl (by decide +kernel)
set_option maxRecDepth 100000 in
theorem zw_68 : Cond.fieldLinkNest "RatePlans$Round" (55 : Nat) "RatePlans$Net" "tokens" "[I" "RatePlans" ∈ zNs := zN_of (i := 122) rfl (by decide +kernel)
set_option maxRecDepth 100000 in
theorem zw_69 : Cond.fieldLinkNest "RatePlans$Pacer" (109 : Nat) "RatePlans$Net" "tokens" "[I" "RatePlans" ∈ zNs := zN_of (i := 123) rfl (by decide +kernel)
set_option maxRecDepth 100000 in
theorem zw_70 : Cond.lays "RatePlans$Net" "RatePlans$Net" "actors" "I" ∈ zG := zG_of (i := 124) rfl (by decide +kernel)
set_option maxRecDepth 100000 in
theorem zw_71 : Cond.soleField "RatePlans$Net" "actors" ∈ zG := zG_of (i := 125) rfl (by decide +kernel)
set_option maxRecDepth 100000 in
theorem zw_72 : Cond.lays "RatePlans$Net" "RatePlans$Net" "channels" "I" ∈ zG := zG_of (i := 126) rfl (by decide +kernel)
set_option maxRecDepth 100000 in
theorem zw_73 : Cond.soleField "RatePlans$Net" "channels" ∈ zG := zG_of (i := 127) rfl (by decide +kernel)
set_option maxRecDepth 100000 in
theorem zw_74 : Cond.lays "RatePlans$Net" "RatePlans$Net" "uneven" "I" ∈ zG := zG_of (i := 128) rfl (by decide +kernel)
set_option maxRecDepth 100000 in
theorem zw_75 : Cond.soleField "RatePlans$Net" "uneven" ∈ zG := zG_of (i := 129) rfl (by decide +kernel)
set_option maxRecDepth 100000 in
theorem zw_76 : Cond.laysFinal "RatePlans$Net" "RatePlans$Net" "time" "[I" ∈ zG := zG_of (i := 130) rfl (by decide +kernel)
set_option maxRecDepth 100000 in
theorem zw_77 : Cond.soleField "RatePlans$Net" "time" ∈ zG := zG_of (i := 131) rfl (by decide +kernel)
set_option maxRecDepth 100000 in
theorem zw_78 : Cond.laysFinal "RatePlans$Net" "RatePlans$Net" "count" "[I" ∈ zG := zG_of (i := 132) rfl (by decide +kernel)
set_option maxRecDepth 100000 in
theorem zw_79 : Cond.soleField "RatePlans$Net" "count" ∈ zG := zG_of (i := 133) rfl (by decide +kernel)
set_option maxRecDepth 100000 in
theorem zw_80 : Cond.laysFinal "RatePlans$Net" "RatePlans$Net" "part" "[I" ∈ zG := zG_of (i := 134) rfl (by decide +kernel)
set_option maxRecDepth 100000 in
theorem zw_81 : Cond.soleField "RatePlans$Net" "part" ∈ zG := zG_of (i := 135) rfl (by decide +kernel)
set_option maxRecDepth 100000 in
theorem zw_82 : Cond.laysFinal "RatePlans$Net" "RatePlans$Net" "from" "[I" ∈ zG := zG_of (i := 136) rfl (by decide +kernel)
set_option maxRecDepth 100000 in
theorem zw_83 : Cond.soleField "RatePlans$Net" "from" ∈ zG := zG_of (i := 137) rfl (by decide +kernel)
set_option maxRecDepth 100000 in
theorem zw_84 : Cond.laysFinal "RatePlans$Net" "RatePlans$Net" "to" "[I" ∈ zG := zG_of (i := 138) rfl (by decide +kernel)
set_option maxRecDepth 100000 in
theorem zw_85 : Cond.soleField "RatePlans$Net" "to" ∈ zG := zG_of (i := 139) rfl (by decide +kernel)
set_option maxRecDepth 100000 in
theorem zw_86 : Cond.laysFinal "RatePlans$Net" "RatePlans$Net" "puts" "[I" ∈ zG := zG_of (i := 140) rfl (by decide +kernel)
set_option maxRecDepth 100000 in
theorem zw_87 : Cond.soleField "RatePlans$Net" "puts" ∈ zG := zG_of (i := 141) rfl (by decide +kernel)
set_option maxRecDepth 100000 in
theorem zw_88 : Cond.laysFinal "RatePlans$Net" "RatePlans$Net" "takes" "[I" ∈ zG := zG_of (i := 142) rfl (by decide +kernel)
set_option maxRecDepth 100000 in
theorem zw_89 : Cond.soleField "RatePlans$Net" "takes" ∈ zG := zG_of (i := 143) rfl (by decide +kernel)
set_option maxRecDepth 100000 in
theorem zw_90 : Cond.laysFinal "RatePlans$Net" "RatePlans$Net" "tokens" "[I" ∈ zG := zG_of (i := 144) rfl (by decide +kernel)
set_option maxRecDepth 100000 in
theorem zw_91 : Cond.soleField "RatePlans$Net" "tokens" ∈ zG := zG_of (i := 145) rfl (by decide +kernel)
set_option maxRecDepth 100000 in
theorem zw_93 : Cond.arrayClass Jvm.ClassFile.FieldType.int ∈ zG := zG_of (i := 147) rfl (by decide +kernel)
set_option maxRecDepth 100000 in
theorem zw_94 : Cond.classLink "RatePlans" (16 : Nat) "RatePlans$Round" ∈ zG := zG_of (i := 148) rfl (by decide +kernel)
set_option maxRecDepth 100000 in
theorem zw_95 : Cond.instantiable "RatePlans$Round" (6 : Nat) ∈ zG := zG_of (i := 149) rfl (by decide +kernel)
set_option maxRecDepth 100000 in
theorem zw_96 : Cond.methodLinkNest "RatePlans" (18 : Nat) ({ cls := "RatePlans$Round", name := "<init>", desc := "()V" } : Jvm.MethodName) "RatePlans" ∈ zNs := zN_of (i := 150) rfl (by decide +kernel)
set_option maxRecDepth 100000 in
theorem zw_97 : Cond.instanceMethod ({ cls := "RatePlans$Round", name := "<init>", desc := "()V" } : Jvm.MethodName) ∈ zG := zG_of (i := 151) rfl (by decide +kernel)
set_option maxRecDepth 100000 in
theorem zw_98 : Cond.code ({ cls := "RatePlans$Round", name := "<init>", desc := "()V" } : Jvm.MethodName) prog_5_method_1_code (1 : Nat) (Option.none : Option Jvm.ClassFile.FieldType) ∈ zG := zG_of (i := 152) rfl (by decide +kernel)
set_option maxRecDepth 100000 in
theorem zw_99 : Cond.methodLink "RatePlans$Round" (3 : Nat) ({ cls := "java/lang/Object", name := "<init>", desc := "()V" } : Jvm.MethodName) ∈ zG := zG_of (i := 153) rfl (by decide +kernel)
set_option maxRecDepth 100000 in
theorem zw_100 : Cond.fieldLink "RatePlans$Round" (40 : Nat) "RatePlans$Round" "known" "Z" ∈ zG := zG_of (i := 154) rfl (by decide +kernel)
set_option maxRecDepth 100000 in
theorem zw_101 : Cond.fieldLinkNest "RatePlans" (156 : Nat) "RatePlans$Round" "known" "Z" "RatePlans" ∈ zNs := zN_of (i := 155) rfl (by decide +kernel)
set_option maxRecDepth 100000 in
theorem zw_102 : Cond.fieldLink "RatePlans$Round" (36 : Nat) "RatePlans$Round" "done" "I" ∈ zG := zG_of (i := 156) rfl (by decide +kernel)
set_option maxRecDepth 100000 in
theorem zw_103 : Cond.fieldLinkNest "RatePlans" (92 : Nat) "RatePlans$Round" "done" "I" "RatePlans" ∈ zNs := zN_of (i := 157) rfl (by decide +kernel)
set_option maxRecDepth 100000 in
theorem zw_104 : Cond.fieldLink "RatePlans$Round" (9 : Nat) "RatePlans$Round" "order" "[I" ∈ zG := zG_of (i := 158) rfl (by decide +kernel)
set_option maxRecDepth 100000 in
theorem zw_105 : Cond.fieldLinkNest "RatePlans" (100 : Nat) "RatePlans$Round" "order" "[I" "RatePlans" ∈ zNs := zN_of (i := 159) rfl (by decide +kernel)
set_option maxRecDepth 100000 in
theorem zw_106 : Cond.fieldLink "RatePlans$Round" (15 : Nat) "RatePlans$Round" "left" "[I" ∈ zG := zG_of (i := 160) rfl (by decide +kernel)
set_option maxRecDepth 100000 in
theorem zw_107 : Cond.fieldLinkNest "RatePlans" (103 : Nat) "RatePlans$Round" "left" "[I" "RatePlans" ∈ zNs := zN_of (i := 161) rfl (by decide +kernel)
set_option maxRecDepth 100000 in
theorem zw_108 : Cond.fieldLink "RatePlans$Round" (18 : Nat) "RatePlans$Round" "lying" "[I" ∈ zG := zG_of (i := 162) rfl (by decide +kernel)
set_option maxRecDepth 100000 in
theorem zw_109 : Cond.fieldLink "RatePlans$Round" (21 : Nat) "RatePlans$Round" "peak" "[I" ∈ zG := zG_of (i := 163) rfl (by decide +kernel)
set_option maxRecDepth 100000 in
theorem zw_110 : Cond.fieldLinkNest "RatePlans" (109 : Nat) "RatePlans$Round" "peak" "[I" "RatePlans" ∈ zNs := zN_of (i := 164) rfl (by decide +kernel)
set_option maxRecDepth 100000 in
theorem zw_111 : Cond.lays "RatePlans$Round" "RatePlans$Round" "known" "Z" ∈ zG := zG_of (i := 165) rfl (by decide +kernel)
set_option maxRecDepth 100000 in
theorem zw_112 : Cond.soleField "RatePlans$Round" "known" ∈ zG := zG_of (i := 166) rfl (by decide +kernel)
set_option maxRecDepth 100000 in
theorem zw_113 : Cond.lays "RatePlans$Round" "RatePlans$Round" "done" "I" ∈ zG := zG_of (i := 167) rfl (by decide +kernel)
set_option maxRecDepth 100000 in
theorem zw_114 : Cond.soleField "RatePlans$Round" "done" ∈ zG := zG_of (i := 168) rfl (by decide +kernel)
set_option maxRecDepth 100000 in
theorem zw_115 : Cond.laysFinal "RatePlans$Round" "RatePlans$Round" "order" "[I" ∈ zG := zG_of (i := 169) rfl (by decide +kernel)
set_option maxRecDepth 100000 in
theorem zw_116 : Cond.soleField "RatePlans$Round" "order" ∈ zG := zG_of (i := 170) rfl (by decide +kernel)
set_option maxRecDepth 100000 in
theorem zw_117 : Cond.laysFinal "RatePlans$Round" "RatePlans$Round" "left" "[I" ∈ zG := zG_of (i := 171) rfl (by decide +kernel)
set_option maxRecDepth 100000 in
theorem zw_118 : Cond.soleField "RatePlans$Round" "left" ∈ zG := zG_of (i := 172) rfl (by decide +kernel)
set_option maxRecDepth 100000 in
theorem zw_119 : Cond.laysFinal "RatePlans$Round" "RatePlans$Round" "lying" "[I" ∈ zG := zG_of (i := 173) rfl (by decide +kernel)
set_option maxRecDepth 100000 in
theorem zw_120 : Cond.soleField "RatePlans$Round" "lying" ∈ zG := zG_of (i := 174) rfl (by decide +kernel)
set_option maxRecDepth 100000 in
theorem zw_121 : Cond.laysFinal "RatePlans$Round" "RatePlans$Round" "peak" "[I" ∈ zG := zG_of (i := 175) rfl (by decide +kernel)
set_option maxRecDepth 100000 in
theorem zw_122 : Cond.soleField "RatePlans$Round" "peak" ∈ zG := zG_of (i := 176) rfl (by decide +kernel)
set_option maxRecDepth 100000 in
theorem zw_124 : Cond.classLink "RatePlans" (23 : Nat) "RatePlans$Pacer" ∈ zG := zG_of (i := 178) rfl (by decide +kernel)
set_option maxRecDepth 100000 in
theorem zw_125 : Cond.instantiable "RatePlans$Pacer" (13 : Nat) ∈ zG := zG_of (i := 179) rfl (by decide +kernel)
set_option maxRecDepth 100000 in
theorem zw_126 : Cond.methodLinkNest "RatePlans" (25 : Nat) ({ cls := "RatePlans$Pacer", name := "<init>", desc := "()V" } : Jvm.MethodName) "RatePlans" ∈ zNs := zN_of (i := 180) rfl (by decide +kernel)
set_option maxRecDepth 100000 in
theorem zw_127 : Cond.instanceMethod ({ cls := "RatePlans$Pacer", name := "<init>", desc := "()V" } : Jvm.MethodName) ∈ zG := zG_of (i := 181) rfl (by decide +kernel)
set_option maxRecDepth 100000 in
theorem zw_128 : Cond.code ({ cls := "RatePlans$Pacer", name := "<init>", desc := "()V" } : Jvm.MethodName) prog_3_method_1_code (1 : Nat) (Option.none : Option Jvm.ClassFile.FieldType) ∈ zG := zG_of (i := 182) rfl (by decide +kernel)
set_option maxRecDepth 100000 in
theorem zw_129 : Cond.methodLink "RatePlans$Pacer" (3 : Nat) ({ cls := "java/lang/Object", name := "<init>", desc := "()V" } : Jvm.MethodName) ∈ zG := zG_of (i := 183) rfl (by decide +kernel)
set_option maxRecDepth 100000 in
theorem zw_130 : Cond.fieldLink "RatePlans$Pacer" (36 : Nat) "RatePlans$Pacer" "knownPart" "I" ∈ zG := zG_of (i := 184) rfl (by decide +kernel)
set_option maxRecDepth 100000 in
theorem zw_131 : Cond.fieldLinkNest "RatePlans" (160 : Nat) "RatePlans$Pacer" "knownPart" "I" "RatePlans" ∈ zNs := zN_of (i := 185) rfl (by decide +kernel)
set_option maxRecDepth 100000 in
theorem zw_132 : Cond.fieldLink "RatePlans$Pacer" (40 : Nat) "RatePlans$Pacer" "paceTime" "I" ∈ zG := zG_of (i := 186) rfl (by decide +kernel)
set_option maxRecDepth 100000 in
theorem zw_133 : Cond.fieldLinkNest "RatePlans" (136 : Nat) "RatePlans$Pacer" "paceTime" "I" "RatePlans" ∈ zNs := zN_of (i := 187) rfl (by decide +kernel)
set_option maxRecDepth 100000 in
theorem zw_134 : Cond.fieldLink "RatePlans$Pacer" (43 : Nat) "RatePlans$Pacer" "paceRounds" "I" ∈ zG := zG_of (i := 188) rfl (by decide +kernel)
set_option maxRecDepth 100000 in
theorem zw_135 : Cond.fieldLinkNest "RatePlans" (139 : Nat) "RatePlans$Pacer" "paceRounds" "I" "RatePlans" ∈ zNs := zN_of (i := 189) rfl (by decide +kernel)
set_option maxRecDepth 100000 in
theorem zw_136 : Cond.fieldLink "RatePlans$Pacer" (64 : Nat) "RatePlans$Pacer" "nodes" "I" ∈ zG := zG_of (i := 190) rfl (by decide +kernel)
set_option maxRecDepth 100000 in
theorem zw_137 : Cond.fieldLink "RatePlans$Pacer" (67 : Nat) "RatePlans$Pacer" "edges" "I" ∈ zG := zG_of (i := 191) rfl (by decide +kernel)
set_option maxRecDepth 100000 in
theorem zw_138 : Cond.fieldLink "RatePlans$Pacer" (9 : Nat) "RatePlans$Pacer" "firstNode" "[I" ∈ zG := zG_of (i := 192) rfl (by decide +kernel)
set_option maxRecDepth 100000 in
theorem zw_139 : Cond.fieldLink "RatePlans$Pacer" (15 : Nat) "RatePlans$Pacer" "nodeTime" "[I" ∈ zG := zG_of (i := 193) rfl (by decide +kernel)
set_option maxRecDepth 100000 in
theorem zw_140 : Cond.fieldLink "RatePlans$Pacer" (18 : Nat) "RatePlans$Pacer" "edgeFrom" "[I" ∈ zG := zG_of (i := 194) rfl (by decide +kernel)
set_option maxRecDepth 100000 in
theorem zw_141 : Cond.fieldLink "RatePlans$Pacer" (21 : Nat) "RatePlans$Pacer" "edgeTo" "[I" ∈ zG := zG_of (i := 195) rfl (by decide +kernel)
set_option maxRecDepth 100000 in
theorem zw_142 : Cond.fieldLink "RatePlans$Pacer" (24 : Nat) "RatePlans$Pacer" "edgeRounds" "[I" ∈ zG := zG_of (i := 196) rfl (by decide +kernel)
set_option maxRecDepth 100000 in
theorem zw_143 : Cond.fieldLink "RatePlans$Pacer" (27 : Nat) "RatePlans$Pacer" "excess" "[I" ∈ zG := zG_of (i := 197) rfl (by decide +kernel)
set_option maxRecDepth 100000 in
theorem zw_144 : Cond.fieldLink "RatePlans$Pacer" (30 : Nat) "RatePlans$Pacer" "via" "[I" ∈ zG := zG_of (i := 198) rfl (by decide +kernel)
set_option maxRecDepth 100000 in
theorem zw_145 : Cond.fieldLink "RatePlans$Pacer" (33 : Nat) "RatePlans$Pacer" "seenFrom" "[I" ∈ zG := zG_of (i := 199) rfl (by decide +kernel)
set_option maxRecDepth 100000 in
theorem zw_146 : Cond.lays "RatePlans$Pacer" "RatePlans$Pacer" "knownPart" "I" ∈ zG := zG_of (i := 200) rfl (by decide +kernel)
set_option maxRecDepth 100000 in
theorem zw_147 : Cond.soleField "RatePlans$Pacer" "knownPart" ∈ zG := zG_of (i := 201) rfl (by decide +kernel)
set_option maxRecDepth 100000 in
theorem zw_148 : Cond.lays "RatePlans$Pacer" "RatePlans$Pacer" "paceTime" "I" ∈ zG := zG_of (i := 202) rfl (by decide +kernel)
set_option maxRecDepth 100000 in
theorem zw_149 : Cond.soleField "RatePlans$Pacer" "paceTime" ∈ zG := zG_of (i := 203) rfl (by decide +kernel)
set_option maxRecDepth 100000 in
theorem zw_150 : Cond.lays "RatePlans$Pacer" "RatePlans$Pacer" "paceRounds" "I" ∈ zG := zG_of (i := 204) rfl (by decide +kernel)
set_option maxRecDepth 100000 in
theorem zw_151 : Cond.soleField "RatePlans$Pacer" "paceRounds" ∈ zG := zG_of (i := 205) rfl (by decide +kernel)
set_option maxRecDepth 100000 in
theorem zw_152 : Cond.lays "RatePlans$Pacer" "RatePlans$Pacer" "nodes" "I" ∈ zG := zG_of (i := 206) rfl (by decide +kernel)
set_option maxRecDepth 100000 in
theorem zw_153 : Cond.soleField "RatePlans$Pacer" "nodes" ∈ zG := zG_of (i := 207) rfl (by decide +kernel)
set_option maxRecDepth 100000 in
theorem zw_154 : Cond.lays "RatePlans$Pacer" "RatePlans$Pacer" "edges" "I" ∈ zG := zG_of (i := 208) rfl (by decide +kernel)
set_option maxRecDepth 100000 in
theorem zw_155 : Cond.soleField "RatePlans$Pacer" "edges" ∈ zG := zG_of (i := 209) rfl (by decide +kernel)
set_option maxRecDepth 100000 in
theorem zw_156 : Cond.laysFinal "RatePlans$Pacer" "RatePlans$Pacer" "firstNode" "[I" ∈ zG := zG_of (i := 210) rfl (by decide +kernel)
set_option maxRecDepth 100000 in
theorem zw_157 : Cond.soleField "RatePlans$Pacer" "firstNode" ∈ zG := zG_of (i := 211) rfl (by decide +kernel)
set_option maxRecDepth 100000 in
theorem zw_158 : Cond.laysFinal "RatePlans$Pacer" "RatePlans$Pacer" "nodeTime" "[I" ∈ zG := zG_of (i := 212) rfl (by decide +kernel)
set_option maxRecDepth 100000 in
theorem zw_159 : Cond.soleField "RatePlans$Pacer" "nodeTime" ∈ zG := zG_of (i := 213) rfl (by decide +kernel)
set_option maxRecDepth 100000 in
theorem zw_160 : Cond.laysFinal "RatePlans$Pacer" "RatePlans$Pacer" "edgeFrom" "[I" ∈ zG := zG_of (i := 214) rfl (by decide +kernel)
set_option maxRecDepth 100000 in
theorem zw_161 : Cond.soleField "RatePlans$Pacer" "edgeFrom" ∈ zG := zG_of (i := 215) rfl (by decide +kernel)
set_option maxRecDepth 100000 in
theorem zw_162 : Cond.laysFinal "RatePlans$Pacer" "RatePlans$Pacer" "edgeTo" "[I" ∈ zG := zG_of (i := 216) rfl (by decide +kernel)
set_option maxRecDepth 100000 in
theorem zw_163 : Cond.soleField "RatePlans$Pacer" "edgeTo" ∈ zG := zG_of (i := 217) rfl (by decide +kernel)
set_option maxRecDepth 100000 in
theorem zw_164 : Cond.laysFinal "RatePlans$Pacer" "RatePlans$Pacer" "edgeRounds" "[I" ∈ zG := zG_of (i := 218) rfl (by decide +kernel)
set_option maxRecDepth 100000 in
theorem zw_165 : Cond.soleField "RatePlans$Pacer" "edgeRounds" ∈ zG := zG_of (i := 219) rfl (by decide +kernel)
set_option maxRecDepth 100000 in
theorem zw_166 : Cond.laysFinal "RatePlans$Pacer" "RatePlans$Pacer" "excess" "[I" ∈ zG := zG_of (i := 220) rfl (by decide +kernel)
set_option maxRecDepth 100000 in
theorem zw_167 : Cond.soleField "RatePlans$Pacer" "excess" ∈ zG := zG_of (i := 221) rfl (by decide +kernel)
set_option maxRecDepth 100000 in
theorem zw_168 : Cond.laysFinal "RatePlans$Pacer" "RatePlans$Pacer" "via" "[I" ∈ zG := zG_of (i := 222) rfl (by decide +kernel)
set_option maxRecDepth 100000 in
theorem zw_169 : Cond.soleField "RatePlans$Pacer" "via" ∈ zG := zG_of (i := 223) rfl (by decide +kernel)
set_option maxRecDepth 100000 in
theorem zw_170 : Cond.laysFinal "RatePlans$Pacer" "RatePlans$Pacer" "seenFrom" "[I" ∈ zG := zG_of (i := 224) rfl (by decide +kernel)
set_option maxRecDepth 100000 in
theorem zw_171 : Cond.soleField "RatePlans$Pacer" "seenFrom" ∈ zG := zG_of (i := 225) rfl (by decide +kernel)
set_option maxRecDepth 100000 in
theorem zw_173 : Cond.classLink "RatePlans" (30 : Nat) "RatePlans$Rooms" ∈ zG := zG_of (i := 227) rfl (by decide +kernel)
set_option maxRecDepth 100000 in
theorem zw_174 : Cond.instantiable "RatePlans$Rooms" (1 : Nat) ∈ zG := zG_of (i := 228) rfl (by decide +kernel)
set_option maxRecDepth 100000 in
theorem zw_175 : Cond.methodLinkNest "RatePlans" (32 : Nat) ({ cls := "RatePlans$Rooms", name := "<init>", desc := "()V" } : Jvm.MethodName) "RatePlans" ∈ zNs := zN_of (i := 229) rfl (by decide +kernel)
set_option maxRecDepth 100000 in
theorem zw_176 : Cond.instanceMethod ({ cls := "RatePlans$Rooms", name := "<init>", desc := "()V" } : Jvm.MethodName) ∈ zG := zG_of (i := 230) rfl (by decide +kernel)
set_option maxRecDepth 100000 in
theorem zw_177 : Cond.code ({ cls := "RatePlans$Rooms", name := "<init>", desc := "()V" } : Jvm.MethodName) prog_4_method_1_code (1 : Nat) (Option.none : Option Jvm.ClassFile.FieldType) ∈ zG := zG_of (i := 231) rfl (by decide +kernel)
set_option maxRecDepth 100000 in
theorem zw_178 : Cond.methodLink "RatePlans$Rooms" (3 : Nat) ({ cls := "java/lang/Object", name := "<init>", desc := "()V" } : Jvm.MethodName) ∈ zG := zG_of (i := 232) rfl (by decide +kernel)
set_option maxRecDepth 100000 in
theorem zw_179 : Cond.classLink "RatePlans$Rooms" (9 : Nat) "[[I" ∈ zG := zG_of (i := 233) rfl (by decide +kernel)
set_option maxRecDepth 100000 in
theorem zw_181 : Cond.fieldLink "RatePlans$Rooms" (11 : Nat) "RatePlans$Rooms" "least" "[[I" ∈ zG := zG_of (i := 235) rfl (by decide +kernel)
set_option maxRecDepth 100000 in
theorem zw_182 : Cond.laysFinal "RatePlans$Rooms" "RatePlans$Rooms" "least" "[[I" ∈ zG := zG_of (i := 236) rfl (by decide +kernel)
set_option maxRecDepth 100000 in
theorem zw_183 : Cond.soleField "RatePlans$Rooms" "least" ∈ zG := zG_of (i := 237) rfl (by decide +kernel)
set_option maxRecDepth 100000 in
theorem zw_185 : Cond.fieldLink "RatePlans" (12 : Nat) "RatePlans" "net" "LRatePlans$Net;" ∈ zG := zG_of (i := 239) rfl (by decide +kernel)
set_option maxRecDepth 100000 in
theorem zw_186 : Cond.fieldLink "RatePlans" (19 : Nat) "RatePlans" "round" "LRatePlans$Round;" ∈ zG := zG_of (i := 240) rfl (by decide +kernel)
set_option maxRecDepth 100000 in
theorem zw_187 : Cond.fieldLink "RatePlans" (26 : Nat) "RatePlans" "pacer" "LRatePlans$Pacer;" ∈ zG := zG_of (i := 241) rfl (by decide +kernel)
set_option maxRecDepth 100000 in
theorem zw_188 : Cond.fieldLink "RatePlans" (33 : Nat) "RatePlans" "rooms" "LRatePlans$Rooms;" ∈ zG := zG_of (i := 242) rfl (by decide +kernel)
set_option maxRecDepth 100000 in
theorem zw_189 : Cond.laysFinal "RatePlans" "RatePlans" "net" "LRatePlans$Net;" ∈ zG := zG_of (i := 243) rfl (by decide +kernel)
set_option maxRecDepth 100000 in
theorem zw_190 : Cond.soleField "RatePlans" "net" ∈ zG := zG_of (i := 244) rfl (by decide +kernel)
set_option maxRecDepth 100000 in
theorem zw_191 : Cond.laysFinal "RatePlans" "RatePlans" "round" "LRatePlans$Round;" ∈ zG := zG_of (i := 245) rfl (by decide +kernel)
set_option maxRecDepth 100000 in
theorem zw_192 : Cond.soleField "RatePlans" "round" ∈ zG := zG_of (i := 246) rfl (by decide +kernel)
set_option maxRecDepth 100000 in
theorem zw_193 : Cond.laysFinal "RatePlans" "RatePlans" "pacer" "LRatePlans$Pacer;" ∈ zG := zG_of (i := 247) rfl (by decide +kernel)
set_option maxRecDepth 100000 in
theorem zw_194 : Cond.soleField "RatePlans" "pacer" ∈ zG := zG_of (i := 248) rfl (by decide +kernel)
set_option maxRecDepth 100000 in
theorem zw_195 : Cond.laysFinal "RatePlans" "RatePlans" "rooms" "LRatePlans$Rooms;" ∈ zG := zG_of (i := 249) rfl (by decide +kernel)
set_option maxRecDepth 100000 in
theorem zw_196 : Cond.soleField "RatePlans" "rooms" ∈ zG := zG_of (i := 250) rfl (by decide +kernel)
set_option maxRecDepth 100000 in
theorem zw_198 : Cond.methodLink "RatePlansLaw" (30 : Nat) ({ cls := "RatePlans", name := "graph", desc := "(I)Z" } : Jvm.MethodName) ∈ zG := zG_of (i := 252) rfl (by decide +kernel)
set_option maxRecDepth 100000 in
theorem zw_199 : Cond.instanceMethod ({ cls := "RatePlans", name := "graph", desc := "(I)Z" } : Jvm.MethodName) ∈ zG := zG_of (i := 253) rfl (by decide +kernel)
set_option maxRecDepth 100000 in
theorem zw_200 : Cond.selects "RatePlans" ({ cls := "RatePlans", name := "graph", desc := "(I)Z" } : Jvm.MethodName) ({ cls := "RatePlans", name := "graph", desc := "(I)Z" } : Jvm.MethodName) ∈ zG := zG_of (i := 254) rfl (by decide +kernel)
set_option maxRecDepth 100000 in
theorem zw_201 : Cond.code ({ cls := "RatePlans", name := "graph", desc := "(I)Z" } : Jvm.MethodName) prog_1_method_2_code (2 : Nat) (Option.some Jvm.ClassFile.FieldType.boolean) ∈ zG := zG_of (i := 255) rfl (by decide +kernel)
set_option maxRecDepth 100000 in
theorem zw_202 : Cond.methodLink "RatePlans" (37 : Nat) ({ cls := "RatePlans", name := "isWithin", desc := "(III)Z" } : Jvm.MethodName) ∈ zG := zG_of (i := 256) rfl (by decide +kernel)
set_option maxRecDepth 100000 in
theorem zw_203 : Cond.static ({ cls := "RatePlans", name := "isWithin", desc := "(III)Z" } : Jvm.MethodName) ∈ zG := zG_of (i := 257) rfl (by decide +kernel)
set_option maxRecDepth 100000 in
theorem zw_204 : Cond.code ({ cls := "RatePlans", name := "isWithin", desc := "(III)Z" } : Jvm.MethodName) prog_1_method_15_code (3 : Nat) (Option.some Jvm.ClassFile.FieldType.boolean) ∈ zG := zG_of (i := 258) rfl (by decide +kernel)
set_option maxRecDepth 100000 in
theorem zw_205 : Cond.methodLinkNest "RatePlans" (41 : Nat) ({ cls := "RatePlans$Net", name := "begin", desc := "(I)V" } : Jvm.MethodName) "RatePlans" ∈ zNs := zN_of (i := 259) rfl (by decide +kernel)
set_option maxRecDepth 100000 in
theorem zw_206 : Cond.methodLink "RatePlans" (45 : Nat) ({ cls := "RatePlans", name := "forgetAnswers", desc := "()V" } : Jvm.MethodName) ∈ zG := zG_of (i := 260) rfl (by decide +kernel)
set_option maxRecDepth 100000 in
theorem zw_208 : Cond.instanceMethod ({ cls := "RatePlans", name := "forgetAnswers", desc := "()V" } : Jvm.MethodName) ∈ zG := zG_of (i := 262) rfl (by decide +kernel)
set_option maxRecDepth 100000 in
theorem zw_209 : Cond.code ({ cls := "RatePlans", name := "forgetAnswers", desc := "()V" } : Jvm.MethodName) prog_1_method_13_code (1 : Nat) (Option.none : Option Jvm.ClassFile.FieldType) ∈ zG := zG_of (i := 263) rfl (by decide +kernel)
set_option maxRecDepth 100000 in
theorem zw_210 : Cond.methodLink "RatePlansLaw" (35 : Nat) ({ cls := "RatePlans", name := "time", desc := "(II)Z" } : Jvm.MethodName) ∈ zG := zG_of (i := 264) rfl (by decide +kernel)
set_option maxRecDepth 100000 in
theorem zw_211 : Cond.instanceMethod ({ cls := "RatePlans", name := "time", desc := "(II)Z" } : Jvm.MethodName) ∈ zG := zG_of (i := 265) rfl (by decide +kernel)
set_option maxRecDepth 100000 in
theorem zw_212 : Cond.selects "RatePlans" ({ cls := "RatePlans", name := "time", desc := "(II)Z" } : Jvm.MethodName) ({ cls := "RatePlans", name := "time", desc := "(II)Z" } : Jvm.MethodName) ∈ zG := zG_of (i := 266) rfl (by decide +kernel)
set_option maxRecDepth 100000 in
theorem zw_213 : Cond.code ({ cls := "RatePlans", name := "time", desc := "(II)Z" } : Jvm.MethodName) prog_1_method_3_code (3 : Nat) (Option.some Jvm.ClassFile.FieldType.boolean) ∈ zG := zG_of (i := 267) rfl (by decide +kernel)
set_option maxRecDepth 100000 in
theorem zw_214 : Cond.methodLinkNest "RatePlans" (48 : Nat) ({ cls := "RatePlans$Net", name := "hasActor", desc := "(I)Z" } : Jvm.MethodName) "RatePlans" ∈ zNs := zN_of (i := 268) rfl (by decide +kernel)
set_option maxRecDepth 100000 in
theorem zw_216 : Cond.instanceMethod ({ cls := "RatePlans$Net", name := "hasActor", desc := "(I)Z" } : Jvm.MethodName) ∈ zG := zG_of (i := 270) rfl (by decide +kernel)
set_option maxRecDepth 100000 in
theorem zw_217 : Cond.code ({ cls := "RatePlans$Net", name := "hasActor", desc := "(I)Z" } : Jvm.MethodName) prog_2_method_3_code (2 : Nat) (Option.some Jvm.ClassFile.FieldType.boolean) ∈ zG := zG_of (i := 271) rfl (by decide +kernel)
set_option maxRecDepth 100000 in
theorem zw_218 : Cond.methodLink "RatePlansLaw" (40 : Nat) ({ cls := "RatePlans", name := "channel", desc := "(IIIII)I" } : Jvm.MethodName) ∈ zG := zG_of (i := 272) rfl (by decide +kernel)
set_option maxRecDepth 100000 in
theorem zw_219 : Cond.instanceMethod ({ cls := "RatePlans", name := "channel", desc := "(IIIII)I" } : Jvm.MethodName) ∈ zG := zG_of (i := 273) rfl (by decide +kernel)
set_option maxRecDepth 100000 in
theorem zw_220 : Cond.selects "RatePlans" ({ cls := "RatePlans", name := "channel", desc := "(IIIII)I" } : Jvm.MethodName) ({ cls := "RatePlans", name := "channel", desc := "(IIIII)I" } : Jvm.MethodName) ∈ zG := zG_of (i := 274) rfl (by decide +kernel)
set_option maxRecDepth 100000 in
theorem zw_221 : Cond.code ({ cls := "RatePlans", name := "channel", desc := "(IIIII)I" } : Jvm.MethodName) prog_1_method_4_code (6 : Nat) (Option.some Jvm.ClassFile.FieldType.int) ∈ zG := zG_of (i := 275) rfl (by decide +kernel)
set_option maxRecDepth 100000 in
theorem zw_222 : Cond.methodLinkNest "RatePlans" (60 : Nat) ({ cls := "RatePlans$Net", name := "add", desc := "(IIIII)I" } : Jvm.MethodName) "RatePlans" ∈ zNs := zN_of (i := 276) rfl (by decide +kernel)
set_option maxRecDepth 100000 in
theorem zw_224 : Cond.instanceMethod ({ cls := "RatePlans$Net", name := "add", desc := "(IIIII)I" } : Jvm.MethodName) ∈ zG := zG_of (i := 278) rfl (by decide +kernel)
set_option maxRecDepth 100000 in
theorem zw_225 : Cond.code ({ cls := "RatePlans$Net", name := "add", desc := "(IIIII)I" } : Jvm.MethodName) prog_2_method_5_code (7 : Nat) (Option.some Jvm.ClassFile.FieldType.int) ∈ zG := zG_of (i := 279) rfl (by decide +kernel)
set_option maxRecDepth 100000 in
theorem zw_226 : Cond.methodLink "RatePlans$Net" (50 : Nat) ({ cls := "RatePlans$Net", name := "balance", desc := "(I)V" } : Jvm.MethodName) ∈ zG := zG_of (i := 280) rfl (by decide +kernel)
set_option maxRecDepth 100000 in
theorem zw_228 : Cond.instanceMethod ({ cls := "RatePlans$Net", name := "balance", desc := "(I)V" } : Jvm.MethodName) ∈ zG := zG_of (i := 282) rfl (by decide +kernel)
set_option maxRecDepth 100000 in
theorem zw_229 : Cond.code ({ cls := "RatePlans$Net", name := "balance", desc := "(I)V" } : Jvm.MethodName) prog_2_method_6_code (7 : Nat) (Option.none : Option Jvm.ClassFile.FieldType) ∈ zG := zG_of (i := 283) rfl (by decide +kernel)
set_option maxRecDepth 100000 in
theorem zw_230 : Cond.methodLinkNest "RatePlans$Net" (53 : Nat) ({ cls := "RatePlans", name := "commonDivisor", desc := "(II)I" } : Jvm.MethodName) "RatePlans" ∈ zNs := zN_of (i := 284) rfl (by decide +kernel)
set_option maxRecDepth 100000 in
theorem zw_231 : Cond.static ({ cls := "RatePlans", name := "commonDivisor", desc := "(II)I" } : Jvm.MethodName) ∈ zG := zG_of (i := 285) rfl (by decide +kernel)
set_option maxRecDepth 100000 in
theorem zw_232 : Cond.code ({ cls := "RatePlans", name := "commonDivisor", desc := "(II)I" } : Jvm.MethodName) prog_1_method_16_code (6 : Nat) (Option.some Jvm.ClassFile.FieldType.int) ∈ zG := zG_of (i := 286) rfl (by decide +kernel)
set_option maxRecDepth 100000 in
theorem zw_233 : Cond.methodLinkNest "RatePlans$Net" (57 : Nat) ({ cls := "RatePlans", name := "divided", desc := "(II)I" } : Jvm.MethodName) "RatePlans" ∈ zNs := zN_of (i := 287) rfl (by decide +kernel)
set_option maxRecDepth 100000 in
theorem zw_234 : Cond.static ({ cls := "RatePlans", name := "divided", desc := "(II)I" } : Jvm.MethodName) ∈ zG := zG_of (i := 288) rfl (by decide +kernel)
set_option maxRecDepth 100000 in
theorem zw_235 : Cond.code ({ cls := "RatePlans", name := "divided", desc := "(II)I" } : Jvm.MethodName) prog_1_method_17_code (2 : Nat) (Option.some Jvm.ClassFile.FieldType.int) ∈ zG := zG_of (i := 289) rfl (by decide +kernel)
set_option maxRecDepth 100000 in
theorem zw_236 : Cond.methodLink "RatePlans$Net" (60 : Nat) ({ cls := "RatePlans$Net", name := "multiply", desc := "(II)V" } : Jvm.MethodName) ∈ zG := zG_of (i := 290) rfl (by decide +kernel)
set_option maxRecDepth 100000 in
theorem zw_238 : Cond.instanceMethod ({ cls := "RatePlans$Net", name := "multiply", desc := "(II)V" } : Jvm.MethodName) ∈ zG := zG_of (i := 292) rfl (by decide +kernel)
set_option maxRecDepth 100000 in
theorem zw_239 : Cond.code ({ cls := "RatePlans$Net", name := "multiply", desc := "(II)V" } : Jvm.MethodName) prog_2_method_7_code (4 : Nat) (Option.none : Option Jvm.ClassFile.FieldType) ∈ zG := zG_of (i := 293) rfl (by decide +kernel)
set_option maxRecDepth 100000 in
theorem zw_240 : Cond.methodLink "RatePlans$Net" (64 : Nat) ({ cls := "RatePlans$Net", name := "join", desc := "(II)V" } : Jvm.MethodName) ∈ zG := zG_of (i := 294) rfl (by decide +kernel)
set_option maxRecDepth 100000 in
theorem zw_242 : Cond.instanceMethod ({ cls := "RatePlans$Net", name := "join", desc := "(II)V" } : Jvm.MethodName) ∈ zG := zG_of (i := 296) rfl (by decide +kernel)
set_option maxRecDepth 100000 in
theorem zw_243 : Cond.code ({ cls := "RatePlans$Net", name := "join", desc := "(II)V" } : Jvm.MethodName) prog_2_method_8_code (6 : Nat) (Option.none : Option Jvm.ClassFile.FieldType) ∈ zG := zG_of (i := 297) rfl (by decide +kernel)
set_option maxRecDepth 100000 in
theorem zw_244 : Cond.methodLink "RatePlans$Net" (67 : Nat) ({ cls := "java/lang/Math", name := "min", desc := "(II)I" } : Jvm.MethodName) ∈ zG := zG_of (i := 298) rfl (by decide +kernel)
set_option maxRecDepth 100000 in
theorem zw_245 : Cond.static ({ cls := "java/lang/Math", name := "min", desc := "(II)I" } : Jvm.MethodName) ∈ zG := zG_of (i := 299) rfl (by decide +kernel)
set_option maxRecDepth 100000 in
theorem zw_246 : Cond.code ({ cls := "java/lang/Math", name := "min", desc := "(II)I" } : Jvm.MethodName) prog_11_method_69_code (2 : Nat) (Option.some Jvm.ClassFile.FieldType.int) ∈ zG := zG_of (i := 300) rfl (by decide +kernel)
set_option maxRecDepth 100000 in
theorem zw_247 : Cond.methodLink "RatePlans$Net" (72 : Nat) ({ cls := "java/lang/Math", name := "max", desc := "(II)I" } : Jvm.MethodName) ∈ zG := zG_of (i := 301) rfl (by decide +kernel)
set_option maxRecDepth 100000 in
theorem zw_248 : Cond.static ({ cls := "java/lang/Math", name := "max", desc := "(II)I" } : Jvm.MethodName) ∈ zG := zG_of (i := 302) rfl (by decide +kernel)
set_option maxRecDepth 100000 in
theorem zw_249 : Cond.code ({ cls := "java/lang/Math", name := "max", desc := "(II)I" } : Jvm.MethodName) prog_11_method_65_code (2 : Nat) (Option.some Jvm.ClassFile.FieldType.int) ∈ zG := zG_of (i := 303) rfl (by decide +kernel)
set_option maxRecDepth 100000 in
theorem zw_250 : Cond.methodLink "RatePlansLaw" (45 : Nat) ({ cls := "RatePlans", name := "uneven", desc := "()I" } : Jvm.MethodName) ∈ zG := zG_of (i := 304) rfl (by decide +kernel)
set_option maxRecDepth 100000 in
theorem zw_251 : Cond.instanceMethod ({ cls := "RatePlans", name := "uneven", desc := "()I" } : Jvm.MethodName) ∈ zG := zG_of (i := 305) rfl (by decide +kernel)
set_option maxRecDepth 100000 in
theorem zw_252 : Cond.selects "RatePlans" ({ cls := "RatePlans", name := "uneven", desc := "()I" } : Jvm.MethodName) ({ cls := "RatePlans", name := "uneven", desc := "()I" } : Jvm.MethodName) ∈ zG := zG_of (i := 306) rfl (by decide +kernel)
set_option maxRecDepth 100000 in
theorem zw_253 : Cond.code ({ cls := "RatePlans", name := "uneven", desc := "()I" } : Jvm.MethodName) prog_1_method_5_code (1 : Nat) (Option.some Jvm.ClassFile.FieldType.int) ∈ zG := zG_of (i := 307) rfl (by decide +kernel)
set_option maxRecDepth 100000 in
theorem zw_254 : Cond.methodLink "RatePlansLaw" (62 : Nat) ({ cls := "RatePlans", name := "left", desc := "(I)I" } : Jvm.MethodName) ∈ zG := zG_of (i := 308) rfl (by decide +kernel)
set_option maxRecDepth 100000 in
theorem zw_255 : Cond.instanceMethod ({ cls := "RatePlans", name := "left", desc := "(I)I" } : Jvm.MethodName) ∈ zG := zG_of (i := 309) rfl (by decide +kernel)
set_option maxRecDepth 100000 in
theorem zw_256 : Cond.selects "RatePlans" ({ cls := "RatePlans", name := "left", desc := "(I)I" } : Jvm.MethodName) ({ cls := "RatePlans", name := "left", desc := "(I)I" } : Jvm.MethodName) ∈ zG := zG_of (i := 310) rfl (by decide +kernel)
set_option maxRecDepth 100000 in
theorem zw_257 : Cond.code ({ cls := "RatePlans", name := "left", desc := "(I)I" } : Jvm.MethodName) prog_1_method_8_code (2 : Nat) (Option.some Jvm.ClassFile.FieldType.int) ∈ zG := zG_of (i := 311) rfl (by decide +kernel)
set_option maxRecDepth 100000 in
theorem zw_258 : Cond.methodLink "RatePlans" (89 : Nat) ({ cls := "RatePlans", name := "findRound", desc := "()Z" } : Jvm.MethodName) ∈ zG := zG_of (i := 312) rfl (by decide +kernel)
set_option maxRecDepth 100000 in
theorem zw_260 : Cond.instanceMethod ({ cls := "RatePlans", name := "findRound", desc := "()Z" } : Jvm.MethodName) ∈ zG := zG_of (i := 314) rfl (by decide +kernel)
set_option maxRecDepth 100000 in
theorem zw_261 : Cond.code ({ cls := "RatePlans", name := "findRound", desc := "()Z" } : Jvm.MethodName) prog_1_method_14_code (1 : Nat) (Option.some Jvm.ClassFile.FieldType.boolean) ∈ zG := zG_of (i := 315) rfl (by decide +kernel)
set_option maxRecDepth 100000 in
theorem zw_262 : Cond.methodLinkNest "RatePlans" (67 : Nat) ({ cls := "RatePlans$Net", name := "isUneven", desc := "()Z" } : Jvm.MethodName) "RatePlans" ∈ zNs := zN_of (i := 316) rfl (by decide +kernel)
set_option maxRecDepth 100000 in
theorem zw_264 : Cond.instanceMethod ({ cls := "RatePlans$Net", name := "isUneven", desc := "()Z" } : Jvm.MethodName) ∈ zG := zG_of (i := 318) rfl (by decide +kernel)
set_option maxRecDepth 100000 in
theorem zw_265 : Cond.code ({ cls := "RatePlans$Net", name := "isUneven", desc := "()Z" } : Jvm.MethodName) prog_2_method_10_code (1 : Nat) (Option.some Jvm.ClassFile.FieldType.boolean) ∈ zG := zG_of (i := 319) rfl (by decide +kernel)
set_option maxRecDepth 100000 in
theorem zw_266 : Cond.methodLinkNest "RatePlans" (78 : Nat) ({ cls := "RatePlans$Net", name := "isGreat", desc := "()Z" } : Jvm.MethodName) "RatePlans" ∈ zNs := zN_of (i := 320) rfl (by decide +kernel)
set_option maxRecDepth 100000 in
theorem zw_268 : Cond.instanceMethod ({ cls := "RatePlans$Net", name := "isGreat", desc := "()Z" } : Jvm.MethodName) ∈ zG := zG_of (i := 322) rfl (by decide +kernel)
set_option maxRecDepth 100000 in
theorem zw_269 : Cond.code ({ cls := "RatePlans$Net", name := "isGreat", desc := "()Z" } : Jvm.MethodName) prog_2_method_11_code (3 : Nat) (Option.some Jvm.ClassFile.FieldType.boolean) ∈ zG := zG_of (i := 323) rfl (by decide +kernel)
set_option maxRecDepth 100000 in
theorem zw_270 : Cond.methodLinkNest "RatePlans" (163 : Nat) ({ cls := "RatePlans$Round", name := "play", desc := "(LRatePlans$Net;)V" } : Jvm.MethodName) "RatePlans" ∈ zNs := zN_of (i := 324) rfl (by decide +kernel)
set_option maxRecDepth 100000 in
theorem zw_272 : Cond.instanceMethod ({ cls := "RatePlans$Round", name := "play", desc := "(LRatePlans$Net;)V" } : Jvm.MethodName) ∈ zG := zG_of (i := 326) rfl (by decide +kernel)
set_option maxRecDepth 100000 in
theorem zw_273 : Cond.code ({ cls := "RatePlans$Round", name := "play", desc := "(LRatePlans$Net;)V" } : Jvm.MethodName) prog_5_method_2_code (4 : Nat) (Option.none : Option Jvm.ClassFile.FieldType) ∈ zG := zG_of (i := 327) rfl (by decide +kernel)
set_option maxRecDepth 100000 in
theorem zw_274 : Cond.methodLink "RatePlans$Round" (24 : Nat) ({ cls := "RatePlans$Round", name := "begin", desc := "(LRatePlans$Net;)V" } : Jvm.MethodName) ∈ zG := zG_of (i := 328) rfl (by decide +kernel)
set_option maxRecDepth 100000 in
theorem zw_276 : Cond.instanceMethod ({ cls := "RatePlans$Round", name := "begin", desc := "(LRatePlans$Net;)V" } : Jvm.MethodName) ∈ zG := zG_of (i := 330) rfl (by decide +kernel)
set_option maxRecDepth 100000 in
theorem zw_277 : Cond.code ({ cls := "RatePlans$Round", name := "begin", desc := "(LRatePlans$Net;)V" } : Jvm.MethodName) prog_5_method_3_code (3 : Nat) (Option.none : Option Jvm.ClassFile.FieldType) ∈ zG := zG_of (i := 331) rfl (by decide +kernel)
set_option maxRecDepth 100000 in
theorem zw_278 : Cond.methodLink "RatePlans$Round" (28 : Nat) ({ cls := "RatePlans$Round", name := "leastReady", desc := "(LRatePlans$Net;)I" } : Jvm.MethodName) ∈ zG := zG_of (i := 332) rfl (by decide +kernel)
set_option maxRecDepth 100000 in
theorem zw_280 : Cond.instanceMethod ({ cls := "RatePlans$Round", name := "leastReady", desc := "(LRatePlans$Net;)I" } : Jvm.MethodName) ∈ zG := zG_of (i := 334) rfl (by decide +kernel)
set_option maxRecDepth 100000 in
theorem zw_281 : Cond.code ({ cls := "RatePlans$Round", name := "leastReady", desc := "(LRatePlans$Net;)I" } : Jvm.MethodName) prog_5_method_4_code (3 : Nat) (Option.some Jvm.ClassFile.FieldType.int) ∈ zG := zG_of (i := 335) rfl (by decide +kernel)
set_option maxRecDepth 100000 in
theorem zw_282 : Cond.methodLink "RatePlans$Round" (58 : Nat) ({ cls := "RatePlans$Round", name := "hasEnough", desc := "(LRatePlans$Net;I)Z" } : Jvm.MethodName) ∈ zG := zG_of (i := 336) rfl (by decide +kernel)
set_option maxRecDepth 100000 in
theorem zw_284 : Cond.instanceMethod ({ cls := "RatePlans$Round", name := "hasEnough", desc := "(LRatePlans$Net;I)Z" } : Jvm.MethodName) ∈ zG := zG_of (i := 338) rfl (by decide +kernel)
set_option maxRecDepth 100000 in
theorem zw_285 : Cond.code ({ cls := "RatePlans$Round", name := "hasEnough", desc := "(LRatePlans$Net;I)Z" } : Jvm.MethodName) prog_5_method_5_code (4 : Nat) (Option.some Jvm.ClassFile.FieldType.boolean) ∈ zG := zG_of (i := 339) rfl (by decide +kernel)
set_option maxRecDepth 100000 in
theorem zw_286 : Cond.methodLink "RatePlans$Round" (32 : Nat) ({ cls := "RatePlans$Round", name := "fire", desc := "(LRatePlans$Net;I)V" } : Jvm.MethodName) ∈ zG := zG_of (i := 340) rfl (by decide +kernel)
set_option maxRecDepth 100000 in
theorem zw_288 : Cond.instanceMethod ({ cls := "RatePlans$Round", name := "fire", desc := "(LRatePlans$Net;I)V" } : Jvm.MethodName) ∈ zG := zG_of (i := 342) rfl (by decide +kernel)
set_option maxRecDepth 100000 in
theorem zw_289 : Cond.code ({ cls := "RatePlans$Round", name := "fire", desc := "(LRatePlans$Net;I)V" } : Jvm.MethodName) prog_5_method_6_code (4 : Nat) (Option.none : Option Jvm.ClassFile.FieldType) ∈ zG := zG_of (i := 343) rfl (by decide +kernel)
set_option maxRecDepth 100000 in
theorem zw_290 : Cond.methodLink "RatePlans$Round" (74 : Nat) ({ cls := "java/lang/Math", name := "max", desc := "(II)I" } : Jvm.MethodName) ∈ zG := zG_of (i := 344) rfl (by decide +kernel)
set_option maxRecDepth 100000 in
theorem zw_291 : Cond.methodLink "RatePlansLaw" (66 : Nat) ({ cls := "RatePlans", name := "peak", desc := "(I)I" } : Jvm.MethodName) ∈ zG := zG_of (i := 345) rfl (by decide +kernel)
set_option maxRecDepth 100000 in
theorem zw_292 : Cond.instanceMethod ({ cls := "RatePlans", name := "peak", desc := "(I)I" } : Jvm.MethodName) ∈ zG := zG_of (i := 346) rfl (by decide +kernel)
set_option maxRecDepth 100000 in
theorem zw_293 : Cond.selects "RatePlans" ({ cls := "RatePlans", name := "peak", desc := "(I)I" } : Jvm.MethodName) ({ cls := "RatePlans", name := "peak", desc := "(I)I" } : Jvm.MethodName) ∈ zG := zG_of (i := 347) rfl (by decide +kernel)
set_option maxRecDepth 100000 in
theorem zw_294 : Cond.code ({ cls := "RatePlans", name := "peak", desc := "(I)I" } : Jvm.MethodName) prog_1_method_9_code (2 : Nat) (Option.some Jvm.ClassFile.FieldType.int) ∈ zG := zG_of (i := 348) rfl (by decide +kernel)
set_option maxRecDepth 100000 in
theorem zw_295 : Cond.methodLinkNest "RatePlans" (106 : Nat) ({ cls := "RatePlans$Net", name := "hasChannel", desc := "(I)Z" } : Jvm.MethodName) "RatePlans" ∈ zNs := zN_of (i := 349) rfl (by decide +kernel)
set_option maxRecDepth 100000 in
theorem zw_297 : Cond.instanceMethod ({ cls := "RatePlans$Net", name := "hasChannel", desc := "(I)Z" } : Jvm.MethodName) ∈ zG := zG_of (i := 351) rfl (by decide +kernel)
set_option maxRecDepth 100000 in
theorem zw_298 : Cond.code ({ cls := "RatePlans$Net", name := "hasChannel", desc := "(I)Z" } : Jvm.MethodName) prog_2_method_4_code (2 : Nat) (Option.some Jvm.ClassFile.FieldType.boolean) ∈ zG := zG_of (i := 352) rfl (by decide +kernel)
set_option maxRecDepth 100000 in
theorem zw_299 : Cond.methodLink "RatePlansLaw" (74 : Nat) ({ cls := "RatePlans", name := "room", desc := "()I" } : Jvm.MethodName) ∈ zG := zG_of (i := 353) rfl (by decide +kernel)
set_option maxRecDepth 100000 in
theorem zw_300 : Cond.instanceMethod ({ cls := "RatePlans", name := "room", desc := "()I" } : Jvm.MethodName) ∈ zG := zG_of (i := 354) rfl (by decide +kernel)
set_option maxRecDepth 100000 in
theorem zw_301 : Cond.selects "RatePlans" ({ cls := "RatePlans", name := "room", desc := "()I" } : Jvm.MethodName) ({ cls := "RatePlans", name := "room", desc := "()I" } : Jvm.MethodName) ∈ zG := zG_of (i := 355) rfl (by decide +kernel)
set_option maxRecDepth 100000 in
theorem zw_302 : Cond.code ({ cls := "RatePlans", name := "room", desc := "()I" } : Jvm.MethodName) prog_1_method_11_code (1 : Nat) (Option.some Jvm.ClassFile.FieldType.int) ∈ zG := zG_of (i := 356) rfl (by decide +kernel)
set_option maxRecDepth 100000 in
theorem zw_303 : Cond.methodLinkNest "RatePlans" (142 : Nat) ({ cls := "RatePlans$Net", name := "isChain", desc := "()Z" } : Jvm.MethodName) "RatePlans" ∈ zNs := zN_of (i := 357) rfl (by decide +kernel)
set_option maxRecDepth 100000 in
theorem zw_305 : Cond.instanceMethod ({ cls := "RatePlans$Net", name := "isChain", desc := "()Z" } : Jvm.MethodName) ∈ zG := zG_of (i := 359) rfl (by decide +kernel)
set_option maxRecDepth 100000 in
theorem zw_306 : Cond.code ({ cls := "RatePlans$Net", name := "isChain", desc := "()Z" } : Jvm.MethodName) prog_2_method_15_code (2 : Nat) (Option.some Jvm.ClassFile.FieldType.boolean) ∈ zG := zG_of (i := 360) rfl (by decide +kernel)
set_option maxRecDepth 100000 in
theorem zw_307 : Cond.methodLinkNest "RatePlans" (145 : Nat) ({ cls := "RatePlans$Rooms", name := "ofAll", desc := "(LRatePlans$Net;)I" } : Jvm.MethodName) "RatePlans" ∈ zNs := zN_of (i := 361) rfl (by decide +kernel)
set_option maxRecDepth 100000 in
theorem zw_309 : Cond.instanceMethod ({ cls := "RatePlans$Rooms", name := "ofAll", desc := "(LRatePlans$Net;)I" } : Jvm.MethodName) ∈ zG := zG_of (i := 363) rfl (by decide +kernel)
set_option maxRecDepth 100000 in
theorem zw_310 : Cond.code ({ cls := "RatePlans$Rooms", name := "ofAll", desc := "(LRatePlans$Net;)I" } : Jvm.MethodName) prog_4_method_2_code (5 : Nat) (Option.some Jvm.ClassFile.FieldType.int) ∈ zG := zG_of (i := 364) rfl (by decide +kernel)
set_option maxRecDepth 100000 in
theorem zw_311 : Cond.methodLinkNest "RatePlans$Rooms" (26 : Nat) ({ cls := "RatePlans", name := "commonDivisor", desc := "(II)I" } : Jvm.MethodName) "RatePlans" ∈ zNs := zN_of (i := 365) rfl (by decide +kernel)
set_option maxRecDepth 100000 in
theorem zw_312 : Cond.methodLink "RatePlans$Rooms" (30 : Nat) ({ cls := "RatePlans$Rooms", name := "ofBestCut", desc := "(LRatePlans$Net;III)I" } : Jvm.MethodName) ∈ zG := zG_of (i := 366) rfl (by decide +kernel)
set_option maxRecDepth 100000 in
theorem zw_314 : Cond.instanceMethod ({ cls := "RatePlans$Rooms", name := "ofBestCut", desc := "(LRatePlans$Net;III)I" } : Jvm.MethodName) ∈ zG := zG_of (i := 368) rfl (by decide +kernel)
set_option maxRecDepth 100000 in
theorem zw_315 : Cond.code ({ cls := "RatePlans$Rooms", name := "ofBestCut", desc := "(LRatePlans$Net;III)I" } : Jvm.MethodName) prog_4_method_3_code (8 : Nat) (Option.some Jvm.ClassFile.FieldType.int) ∈ zG := zG_of (i := 369) rfl (by decide +kernel)
set_option maxRecDepth 100000 in
theorem zw_316 : Cond.constant "RatePlans$Rooms" (36 : Nat) (2147483647 : Int32) ∈ zG := zG_of (i := 370) rfl (by decide +kernel)
set_option maxRecDepth 100000 in
theorem zw_317 : Cond.methodLinkNest "RatePlans$Rooms" (40 : Nat) ({ cls := "RatePlans", name := "divided", desc := "(II)I" } : Jvm.MethodName) "RatePlans" ∈ zNs := zN_of (i := 371) rfl (by decide +kernel)
set_option maxRecDepth 100000 in
theorem zw_318 : Cond.methodLink "RatePlans$Rooms" (43 : Nat) ({ cls := "java/lang/Math", name := "min", desc := "(II)I" } : Jvm.MethodName) ∈ zG := zG_of (i := 372) rfl (by decide +kernel)
set_option maxRecDepth 100000 in
theorem zw_319 : Cond.methodLink "RatePlansLaw" (78 : Nat) ({ cls := "RatePlans", name := "total", desc := "(I)I" } : Jvm.MethodName) ∈ zG := zG_of (i := 373) rfl (by decide +kernel)
set_option maxRecDepth 100000 in
theorem zw_320 : Cond.instanceMethod ({ cls := "RatePlans", name := "total", desc := "(I)I" } : Jvm.MethodName) ∈ zG := zG_of (i := 374) rfl (by decide +kernel)
set_option maxRecDepth 100000 in
theorem zw_321 : Cond.selects "RatePlans" ({ cls := "RatePlans", name := "total", desc := "(I)I" } : Jvm.MethodName) ({ cls := "RatePlans", name := "total", desc := "(I)I" } : Jvm.MethodName) ∈ zG := zG_of (i := 375) rfl (by decide +kernel)
set_option maxRecDepth 100000 in
theorem zw_322 : Cond.code ({ cls := "RatePlans", name := "total", desc := "(I)I" } : Jvm.MethodName) prog_1_method_12_code (2 : Nat) (Option.some Jvm.ClassFile.FieldType.int) ∈ zG := zG_of (i := 376) rfl (by decide +kernel)
set_option maxRecDepth 100000 in
theorem zw_323 : Cond.methodLinkNest "RatePlans" (152 : Nat) ({ cls := "RatePlans$Net", name := "parts", desc := "()I" } : Jvm.MethodName) "RatePlans" ∈ zNs := zN_of (i := 377) rfl (by decide +kernel)
set_option maxRecDepth 100000 in
theorem zw_325 : Cond.instanceMethod ({ cls := "RatePlans$Net", name := "parts", desc := "()I" } : Jvm.MethodName) ∈ zG := zG_of (i := 379) rfl (by decide +kernel)
set_option maxRecDepth 100000 in
theorem zw_326 : Cond.code ({ cls := "RatePlans$Net", name := "parts", desc := "()I" } : Jvm.MethodName) prog_2_method_9_code (3 : Nat) (Option.some Jvm.ClassFile.FieldType.int) ∈ zG := zG_of (i := 380) rfl (by decide +kernel)
set_option maxRecDepth 100000 in
theorem zw_327 : Cond.methodLink "RatePlansLaw" (50 : Nat) ({ cls := "RatePlansLaw", name := "count", desc := "(LRatePlans;I[J)I" } : Jvm.MethodName) ∈ zG := zG_of (i := 381) rfl (by decide +kernel)
set_option maxRecDepth 100000 in
theorem zw_328 : Cond.static ({ cls := "RatePlansLaw", name := "count", desc := "(LRatePlans;I[J)I" } : Jvm.MethodName) ∈ zG := zG_of (i := 382) rfl (by decide +kernel)
set_option maxRecDepth 100000 in
theorem zw_332 : Cond.methodLink "RatePlansLaw" (7 : Nat) ({ cls := "RatePlans", name := "count", desc := "(I)I" } : Jvm.MethodName) ∈ zG := zG_of (i := 386) rfl (by decide +kernel)
set_option maxRecDepth 100000 in
theorem zw_333 : Cond.instanceMethod ({ cls := "RatePlans", name := "count", desc := "(I)I" } : Jvm.MethodName) ∈ zG := zG_of (i := 387) rfl (by decide +kernel)
set_option maxRecDepth 100000 in
theorem zw_334 : Cond.selects "RatePlans" ({ cls := "RatePlans", name := "count", desc := "(I)I" } : Jvm.MethodName) ({ cls := "RatePlans", name := "count", desc := "(I)I" } : Jvm.MethodName) ∈ zG := zG_of (i := 388) rfl (by decide +kernel)
set_option maxRecDepth 100000 in
theorem zw_335 : Cond.code ({ cls := "RatePlans", name := "count", desc := "(I)I" } : Jvm.MethodName) prog_1_method_6_code (2 : Nat) (Option.some Jvm.ClassFile.FieldType.int) ∈ zG := zG_of (i := 389) rfl (by decide +kernel)
set_option maxRecDepth 100000 in
theorem zw_359 : Cond.instanceMethod ({ cls := "java/lang/Throwable", name := "<init>", desc := "()V" } : Jvm.MethodName) ∈ zG := zG_of (i := 413) rfl (by decide +kernel)
set_option maxRecDepth 100000 in
theorem zw_360 : Cond.code ({ cls := "java/lang/Throwable", name := "<init>", desc := "()V" } : Jvm.MethodName) prog_14_method_1_code (1 : Nat) (Option.none : Option Jvm.ClassFile.FieldType) ∈ zG := zG_of (i := 414) rfl (by decide +kernel)
set_option maxRecDepth 100000 in
theorem zw_361 : Cond.methodLink "java/lang/Throwable" (1 : Nat) ({ cls := "java/lang/Object", name := "<init>", desc := "()V" } : Jvm.MethodName) ∈ zG := zG_of (i := 415) rfl (by decide +kernel)
set_option maxRecDepth 100000 in
theorem zw_366 : Cond.methodLink "java/lang/Throwable" (27 : Nat) ({ cls := "java/lang/Throwable", name := "fillInStackTrace", desc := "()Ljava/lang/Throwable;" } : Jvm.MethodName) ∈ zG := zG_of (i := 420) rfl (by decide +kernel)
set_option maxRecDepth 100000 in
theorem zw_367 : Cond.instanceMethod ({ cls := "java/lang/Throwable", name := "fillInStackTrace", desc := "()Ljava/lang/Throwable;" } : Jvm.MethodName) ∈ zG := zG_of (i := 421) rfl (by decide +kernel)
set_option maxRecDepth 100000 in
theorem zw_372 : Cond.methodLink "java/lang/Throwable" (202 : Nat) ({ cls := "java/lang/Throwable", name := "fillInStackTrace", desc := "(I)Ljava/lang/Throwable;" } : Jvm.MethodName) ∈ zG := zG_of (i := 426) rfl (by decide +kernel)
set_option maxRecDepth 100000 in
theorem zw_374 : Cond.instanceMethod ({ cls := "java/lang/Throwable", name := "fillInStackTrace", desc := "(I)Ljava/lang/Throwable;" } : Jvm.MethodName) ∈ zG := zG_of (i := 428) rfl (by decide +kernel)
set_option maxRecDepth 100000 in
theorem zw_378 : Cond.methodLink "RatePlans" (75 : Nat) ({ cls := "java/lang/IllegalStateException", name := "<init>", desc := "(Ljava/lang/String;)V" } : Jvm.MethodName) ∈ zG := zG_of (i := 432) rfl (by decide +kernel)
set_option maxRecDepth 100000 in
theorem zw_379 : Cond.instanceMethod ({ cls := "java/lang/IllegalStateException", name := "<init>", desc := "(Ljava/lang/String;)V" } : Jvm.MethodName) ∈ zG := zG_of (i := 433) rfl (by decide +kernel)
set_option maxRecDepth 100000 in
theorem zw_380 : Cond.code ({ cls := "java/lang/IllegalStateException", name := "<init>", desc := "(Ljava/lang/String;)V" } : Jvm.MethodName) prog_10_method_2_code (2 : Nat) (Option.none : Option Jvm.ClassFile.FieldType) ∈ zG := zG_of (i := 434) rfl (by decide +kernel)
set_option maxRecDepth 100000 in
theorem zw_381 : Cond.methodLink "java/lang/IllegalStateException" (7 : Nat) ({ cls := "java/lang/RuntimeException", name := "<init>", desc := "(Ljava/lang/String;)V" } : Jvm.MethodName) ∈ zG := zG_of (i := 435) rfl (by decide +kernel)
set_option maxRecDepth 100000 in
theorem zw_382 : Cond.instanceMethod ({ cls := "java/lang/RuntimeException", name := "<init>", desc := "(Ljava/lang/String;)V" } : Jvm.MethodName) ∈ zG := zG_of (i := 436) rfl (by decide +kernel)
set_option maxRecDepth 100000 in
theorem zw_383 : Cond.code ({ cls := "java/lang/RuntimeException", name := "<init>", desc := "(Ljava/lang/String;)V" } : Jvm.MethodName) prog_12_method_2_code (2 : Nat) (Option.none : Option Jvm.ClassFile.FieldType) ∈ zG := zG_of (i := 437) rfl (by decide +kernel)
set_option maxRecDepth 100000 in
theorem zw_384 : Cond.methodLink "java/lang/RuntimeException" (7 : Nat) ({ cls := "java/lang/Exception", name := "<init>", desc := "(Ljava/lang/String;)V" } : Jvm.MethodName) ∈ zG := zG_of (i := 438) rfl (by decide +kernel)
set_option maxRecDepth 100000 in
theorem zw_385 : Cond.instanceMethod ({ cls := "java/lang/Exception", name := "<init>", desc := "(Ljava/lang/String;)V" } : Jvm.MethodName) ∈ zG := zG_of (i := 439) rfl (by decide +kernel)
set_option maxRecDepth 100000 in
theorem zw_386 : Cond.code ({ cls := "java/lang/Exception", name := "<init>", desc := "(Ljava/lang/String;)V" } : Jvm.MethodName) prog_9_method_2_code (2 : Nat) (Option.none : Option Jvm.ClassFile.FieldType) ∈ zG := zG_of (i := 440) rfl (by decide +kernel)
set_option maxRecDepth 100000 in
theorem zw_387 : Cond.methodLink "java/lang/Exception" (7 : Nat) ({ cls := "java/lang/Throwable", name := "<init>", desc := "(Ljava/lang/String;)V" } : Jvm.MethodName) ∈ zG := zG_of (i := 441) rfl (by decide +kernel)
set_option maxRecDepth 100000 in
theorem zw_388 : Cond.instanceMethod ({ cls := "java/lang/Throwable", name := "<init>", desc := "(Ljava/lang/String;)V" } : Jvm.MethodName) ∈ zG := zG_of (i := 442) rfl (by decide +kernel)
set_option maxRecDepth 100000 in
theorem zw_389 : Cond.code ({ cls := "java/lang/Throwable", name := "<init>", desc := "(Ljava/lang/String;)V" } : Jvm.MethodName) prog_14_method_2_code (2 : Nat) (Option.none : Option Jvm.ClassFile.FieldType) ∈ zG := zG_of (i := 443) rfl (by decide +kernel)
set_option maxRecDepth 100000 in
theorem zw_403 : Cond.arrayClass Jvm.ClassFile.FieldType.byte ∈ zG := zG_of (i := 457) rfl (by decide +kernel)
set_option maxRecDepth 100000 in
theorem zw_414 : Cond.methodLink "RatePlans" (85 : Nat) ({ cls := "java/lang/ArithmeticException", name := "<init>", desc := "(Ljava/lang/String;)V" } : Jvm.MethodName) ∈ zG := zG_of (i := 468) rfl (by decide +kernel)
set_option maxRecDepth 100000 in
theorem zw_415 : Cond.instanceMethod ({ cls := "java/lang/ArithmeticException", name := "<init>", desc := "(Ljava/lang/String;)V" } : Jvm.MethodName) ∈ zG := zG_of (i := 469) rfl (by decide +kernel)
set_option maxRecDepth 100000 in
theorem zw_416 : Cond.code ({ cls := "java/lang/ArithmeticException", name := "<init>", desc := "(Ljava/lang/String;)V" } : Jvm.MethodName) prog_8_method_2_code (2 : Nat) (Option.none : Option Jvm.ClassFile.FieldType) ∈ zG := zG_of (i := 470) rfl (by decide +kernel)
set_option maxRecDepth 100000 in
theorem zw_417 : Cond.methodLink "java/lang/ArithmeticException" (7 : Nat) ({ cls := "java/lang/RuntimeException", name := "<init>", desc := "(Ljava/lang/String;)V" } : Jvm.MethodName) ∈ zG := zG_of (i := 471) rfl (by decide +kernel)
set_option maxRecDepth 100000 in
theorem zw_420 : Cond.methodLink "RatePlansLaw" (59 : Nat) ({ cls := "RatePlansLaw", name := "order", desc := "(LRatePlans;I[J)I" } : Jvm.MethodName) ∈ zG := zG_of (i := 474) rfl (by decide +kernel)
set_option maxRecDepth 100000 in
theorem zw_421 : Cond.static ({ cls := "RatePlansLaw", name := "order", desc := "(LRatePlans;I[J)I" } : Jvm.MethodName) ∈ zG := zG_of (i := 475) rfl (by decide +kernel)
set_option maxRecDepth 100000 in
theorem zw_424 : Cond.methodLink "RatePlansLaw" (17 : Nat) ({ cls := "RatePlans", name := "order", desc := "(I)I" } : Jvm.MethodName) ∈ zG := zG_of (i := 478) rfl (by decide +kernel)
set_option maxRecDepth 100000 in
theorem zw_425 : Cond.instanceMethod ({ cls := "RatePlans", name := "order", desc := "(I)I" } : Jvm.MethodName) ∈ zG := zG_of (i := 479) rfl (by decide +kernel)
set_option maxRecDepth 100000 in
theorem zw_426 : Cond.selects "RatePlans" ({ cls := "RatePlans", name := "order", desc := "(I)I" } : Jvm.MethodName) ({ cls := "RatePlans", name := "order", desc := "(I)I" } : Jvm.MethodName) ∈ zG := zG_of (i := 480) rfl (by decide +kernel)
set_option maxRecDepth 100000 in
theorem zw_427 : Cond.code ({ cls := "RatePlans", name := "order", desc := "(I)I" } : Jvm.MethodName) prog_1_method_7_code (2 : Nat) (Option.some Jvm.ClassFile.FieldType.int) ∈ zG := zG_of (i := 481) rfl (by decide +kernel)
set_option maxRecDepth 100000 in
theorem zw_438 : Cond.methodLink "RatePlans" (99 : Nat) ({ cls := "java/util/NoSuchElementException", name := "<init>", desc := "(Ljava/lang/String;)V" } : Jvm.MethodName) ∈ zG := zG_of (i := 492) rfl (by decide +kernel)
set_option maxRecDepth 100000 in
theorem zw_439 : Cond.instanceMethod ({ cls := "java/util/NoSuchElementException", name := "<init>", desc := "(Ljava/lang/String;)V" } : Jvm.MethodName) ∈ zG := zG_of (i := 493) rfl (by decide +kernel)
set_option maxRecDepth 100000 in
theorem zw_440 : Cond.code ({ cls := "java/util/NoSuchElementException", name := "<init>", desc := "(Ljava/lang/String;)V" } : Jvm.MethodName) prog_15_method_4_code (2 : Nat) (Option.none : Option Jvm.ClassFile.FieldType) ∈ zG := zG_of (i := 494) rfl (by decide +kernel)
set_option maxRecDepth 100000 in
theorem zw_441 : Cond.methodLink "java/util/NoSuchElementException" (13 : Nat) ({ cls := "java/lang/RuntimeException", name := "<init>", desc := "(Ljava/lang/String;)V" } : Jvm.MethodName) ∈ zG := zG_of (i := 495) rfl (by decide +kernel)
set_option maxRecDepth 100000 in
theorem zw_444 : Cond.methodLink "RatePlansLaw" (70 : Nat) ({ cls := "RatePlansLaw", name := "pace", desc := "(LRatePlans;II[J)I" } : Jvm.MethodName) ∈ zG := zG_of (i := 498) rfl (by decide +kernel)
set_option maxRecDepth 100000 in
theorem zw_445 : Cond.static ({ cls := "RatePlansLaw", name := "pace", desc := "(LRatePlans;II[J)I" } : Jvm.MethodName) ∈ zG := zG_of (i := 499) rfl (by decide +kernel)
set_option maxRecDepth 100000 in
theorem zw_447 : Cond.methodLink "RatePlansLaw" (22 : Nat) ({ cls := "RatePlans", name := "pace", desc := "(II)I" } : Jvm.MethodName) ∈ zG := zG_of (i := 501) rfl (by decide +kernel)
set_option maxRecDepth 100000 in
theorem zw_448 : Cond.instanceMethod ({ cls := "RatePlans", name := "pace", desc := "(II)I" } : Jvm.MethodName) ∈ zG := zG_of (i := 502) rfl (by decide +kernel)
set_option maxRecDepth 100000 in
theorem zw_449 : Cond.selects "RatePlans" ({ cls := "RatePlans", name := "pace", desc := "(II)I" } : Jvm.MethodName) ({ cls := "RatePlans", name := "pace", desc := "(II)I" } : Jvm.MethodName) ∈ zG := zG_of (i := 503) rfl (by decide +kernel)
set_option maxRecDepth 100000 in
theorem zw_450 : Cond.code ({ cls := "RatePlans", name := "pace", desc := "(II)I" } : Jvm.MethodName) prog_1_method_10_code (3 : Nat) (Option.some Jvm.ClassFile.FieldType.int) ∈ zG := zG_of (i := 504) rfl (by decide +kernel)
set_option maxRecDepth 100000 in
theorem zw_452 : Cond.methodLinkNest "RatePlans" (114 : Nat) ({ cls := "RatePlans$Round", name := "isAlive", desc := "(LRatePlans$Net;)Z" } : Jvm.MethodName) "RatePlans" ∈ zNs := zN_of (i := 506) rfl (by decide +kernel)
set_option maxRecDepth 100000 in
theorem zw_454 : Cond.instanceMethod ({ cls := "RatePlans$Round", name := "isAlive", desc := "(LRatePlans$Net;)Z" } : Jvm.MethodName) ∈ zG := zG_of (i := 508) rfl (by decide +kernel)
set_option maxRecDepth 100000 in
theorem zw_455 : Cond.code ({ cls := "RatePlans$Round", name := "isAlive", desc := "(LRatePlans$Net;)Z" } : Jvm.MethodName) prog_5_method_7_code (3 : Nat) (Option.some Jvm.ClassFile.FieldType.boolean) ∈ zG := zG_of (i := 509) rfl (by decide +kernel)
set_option maxRecDepth 100000 in
theorem zw_456 : Cond.methodLinkNest "RatePlans" (118 : Nat) ({ cls := "RatePlans$Net", name := "isClosed", desc := "(I)Z" } : Jvm.MethodName) "RatePlans" ∈ zNs := zN_of (i := 510) rfl (by decide +kernel)
set_option maxRecDepth 100000 in
theorem zw_458 : Cond.instanceMethod ({ cls := "RatePlans$Net", name := "isClosed", desc := "(I)Z" } : Jvm.MethodName) ∈ zG := zG_of (i := 512) rfl (by decide +kernel)
set_option maxRecDepth 100000 in
theorem zw_459 : Cond.code ({ cls := "RatePlans$Net", name := "isClosed", desc := "(I)Z" } : Jvm.MethodName) prog_2_method_13_code (4 : Nat) (Option.some Jvm.ClassFile.FieldType.boolean) ∈ zG := zG_of (i := 513) rfl (by decide +kernel)
set_option maxRecDepth 100000 in
theorem zw_460 : Cond.methodLink "RatePlans$Net" (75 : Nat) ({ cls := "RatePlans$Net", name := "reached", desc := "(I[I[I)I" } : Jvm.MethodName) ∈ zG := zG_of (i := 514) rfl (by decide +kernel)
set_option maxRecDepth 100000 in
theorem zw_462 : Cond.instanceMethod ({ cls := "RatePlans$Net", name := "reached", desc := "(I[I[I)I" } : Jvm.MethodName) ∈ zG := zG_of (i := 516) rfl (by decide +kernel)
set_option maxRecDepth 100000 in
theorem zw_463 : Cond.code ({ cls := "RatePlans$Net", name := "reached", desc := "(I[I[I)I" } : Jvm.MethodName) prog_2_method_14_code (7 : Nat) (Option.some Jvm.ClassFile.FieldType.int) ∈ zG := zG_of (i := 517) rfl (by decide +kernel)
set_option maxRecDepth 100000 in
theorem zw_465 : Cond.methodLinkNest "RatePlans" (123 : Nat) ({ cls := "RatePlans$Net", name := "countsOfPart", desc := "(I)I" } : Jvm.MethodName) "RatePlans" ∈ zNs := zN_of (i := 519) rfl (by decide +kernel)
set_option maxRecDepth 100000 in
theorem zw_467 : Cond.instanceMethod ({ cls := "RatePlans$Net", name := "countsOfPart", desc := "(I)I" } : Jvm.MethodName) ∈ zG := zG_of (i := 521) rfl (by decide +kernel)
set_option maxRecDepth 100000 in
theorem zw_468 : Cond.code ({ cls := "RatePlans$Net", name := "countsOfPart", desc := "(I)I" } : Jvm.MethodName) prog_2_method_12_code (4 : Nat) (Option.some Jvm.ClassFile.FieldType.int) ∈ zG := zG_of (i := 522) rfl (by decide +kernel)
set_option maxRecDepth 100000 in
theorem zw_470 : Cond.methodLinkNest "RatePlans" (132 : Nat) ({ cls := "RatePlans$Pacer", name := "find", desc := "(LRatePlans$Net;I)V" } : Jvm.MethodName) "RatePlans" ∈ zNs := zN_of (i := 524) rfl (by decide +kernel)
set_option maxRecDepth 100000 in
theorem zw_472 : Cond.instanceMethod ({ cls := "RatePlans$Pacer", name := "find", desc := "(LRatePlans$Net;I)V" } : Jvm.MethodName) ∈ zG := zG_of (i := 526) rfl (by decide +kernel)
set_option maxRecDepth 100000 in
theorem zw_473 : Cond.code ({ cls := "RatePlans$Pacer", name := "find", desc := "(LRatePlans$Net;I)V" } : Jvm.MethodName) prog_3_method_2_code (5 : Nat) (Option.none : Option Jvm.ClassFile.FieldType) ∈ zG := zG_of (i := 527) rfl (by decide +kernel)
set_option maxRecDepth 100000 in
theorem zw_474 : Cond.methodLink "RatePlans$Pacer" (46 : Nat) ({ cls := "RatePlans$Pacer", name := "addFirings", desc := "(LRatePlans$Net;I)V" } : Jvm.MethodName) ∈ zG := zG_of (i := 528) rfl (by decide +kernel)
set_option maxRecDepth 100000 in
theorem zw_476 : Cond.instanceMethod ({ cls := "RatePlans$Pacer", name := "addFirings", desc := "(LRatePlans$Net;I)V" } : Jvm.MethodName) ∈ zG := zG_of (i := 530) rfl (by decide +kernel)
set_option maxRecDepth 100000 in
theorem zw_477 : Cond.code ({ cls := "RatePlans$Pacer", name := "addFirings", desc := "(LRatePlans$Net;I)V" } : Jvm.MethodName) prog_3_method_3_code (4 : Nat) (Option.none : Option Jvm.ClassFile.FieldType) ∈ zG := zG_of (i := 531) rfl (by decide +kernel)
set_option maxRecDepth 100000 in
theorem zw_478 : Cond.methodLink "RatePlans$Pacer" (84 : Nat) ({ cls := "RatePlans$Pacer", name := "addFiringsOf", desc := "(III)V" } : Jvm.MethodName) ∈ zG := zG_of (i := 532) rfl (by decide +kernel)
set_option maxRecDepth 100000 in
theorem zw_480 : Cond.instanceMethod ({ cls := "RatePlans$Pacer", name := "addFiringsOf", desc := "(III)V" } : Jvm.MethodName) ∈ zG := zG_of (i := 534) rfl (by decide +kernel)
set_option maxRecDepth 100000 in
theorem zw_481 : Cond.code ({ cls := "RatePlans$Pacer", name := "addFiringsOf", desc := "(III)V" } : Jvm.MethodName) prog_3_method_4_code (5 : Nat) (Option.none : Option Jvm.ClassFile.FieldType) ∈ zG := zG_of (i := 535) rfl (by decide +kernel)
set_option maxRecDepth 100000 in
theorem zw_482 : Cond.methodLink "RatePlans$Pacer" (88 : Nat) ({ cls := "RatePlans$Pacer", name := "addEdge", desc := "(III)V" } : Jvm.MethodName) ∈ zG := zG_of (i := 536) rfl (by decide +kernel)
set_option maxRecDepth 100000 in
theorem zw_484 : Cond.instanceMethod ({ cls := "RatePlans$Pacer", name := "addEdge", desc := "(III)V" } : Jvm.MethodName) ∈ zG := zG_of (i := 538) rfl (by decide +kernel)
set_option maxRecDepth 100000 in
theorem zw_485 : Cond.code ({ cls := "RatePlans$Pacer", name := "addEdge", desc := "(III)V" } : Jvm.MethodName) prog_3_method_7_code (4 : Nat) (Option.none : Option Jvm.ClassFile.FieldType) ∈ zG := zG_of (i := 539) rfl (by decide +kernel)
set_option maxRecDepth 100000 in
theorem zw_486 : Cond.methodLink "RatePlans$Pacer" (50 : Nat) ({ cls := "RatePlans$Pacer", name := "addWaits", desc := "(LRatePlans$Net;I)V" } : Jvm.MethodName) ∈ zG := zG_of (i := 540) rfl (by decide +kernel)
set_option maxRecDepth 100000 in
theorem zw_488 : Cond.instanceMethod ({ cls := "RatePlans$Pacer", name := "addWaits", desc := "(LRatePlans$Net;I)V" } : Jvm.MethodName) ∈ zG := zG_of (i := 542) rfl (by decide +kernel)
set_option maxRecDepth 100000 in
theorem zw_489 : Cond.code ({ cls := "RatePlans$Pacer", name := "addWaits", desc := "(LRatePlans$Net;I)V" } : Jvm.MethodName) prog_3_method_5_code (4 : Nat) (Option.none : Option Jvm.ClassFile.FieldType) ∈ zG := zG_of (i := 543) rfl (by decide +kernel)
set_option maxRecDepth 100000 in
theorem zw_490 : Cond.methodLink "RatePlans$Pacer" (97 : Nat) ({ cls := "RatePlans$Pacer", name := "addWaitsOf", desc := "(LRatePlans$Net;I)V" } : Jvm.MethodName) ∈ zG := zG_of (i := 544) rfl (by decide +kernel)
set_option maxRecDepth 100000 in
theorem zw_492 : Cond.instanceMethod ({ cls := "RatePlans$Pacer", name := "addWaitsOf", desc := "(LRatePlans$Net;I)V" } : Jvm.MethodName) ∈ zG := zG_of (i := 546) rfl (by decide +kernel)
set_option maxRecDepth 100000 in
theorem zw_493 : Cond.code ({ cls := "RatePlans$Pacer", name := "addWaitsOf", desc := "(LRatePlans$Net;I)V" } : Jvm.MethodName) prog_3_method_6_code (12 : Nat) (Option.none : Option Jvm.ClassFile.FieldType) ∈ zG := zG_of (i := 547) rfl (by decide +kernel)
set_option maxRecDepth 100000 in
theorem zw_494 : Cond.methodLink "RatePlans$Pacer" (112 : Nat) ({ cls := "java/lang/Math", name := "floorDiv", desc := "(II)I" } : Jvm.MethodName) ∈ zG := zG_of (i := 548) rfl (by decide +kernel)
set_option maxRecDepth 100000 in
theorem zw_495 : Cond.static ({ cls := "java/lang/Math", name := "floorDiv", desc := "(II)I" } : Jvm.MethodName) ∈ zG := zG_of (i := 549) rfl (by decide +kernel)
set_option maxRecDepth 100000 in
theorem zw_496 : Cond.code ({ cls := "java/lang/Math", name := "floorDiv", desc := "(II)I" } : Jvm.MethodName) prog_11_method_47_code (3 : Nat) (Option.some Jvm.ClassFile.FieldType.int) ∈ zG := zG_of (i := 550) rfl (by decide +kernel)
set_option maxRecDepth 100000 in
theorem zw_497 : Cond.methodLink "RatePlans$Pacer" (118 : Nat) ({ cls := "java/lang/Math", name := "floorMod", desc := "(II)I" } : Jvm.MethodName) ∈ zG := zG_of (i := 551) rfl (by decide +kernel)
set_option maxRecDepth 100000 in
theorem zw_498 : Cond.static ({ cls := "java/lang/Math", name := "floorMod", desc := "(II)I" } : Jvm.MethodName) ∈ zG := zG_of (i := 552) rfl (by decide +kernel)
set_option maxRecDepth 100000 in
theorem zw_499 : Cond.code ({ cls := "java/lang/Math", name := "floorMod", desc := "(II)I" } : Jvm.MethodName) prog_11_method_50_code (3 : Nat) (Option.some Jvm.ClassFile.FieldType.int) ∈ zG := zG_of (i := 553) rfl (by decide +kernel)
set_option maxRecDepth 100000 in
theorem zw_500 : Cond.methodLink "RatePlans$Pacer" (53 : Nat) ({ cls := "RatePlans$Pacer", name := "beginWithSlowestActor", desc := "(LRatePlans$Net;I)V" } : Jvm.MethodName) ∈ zG := zG_of (i := 554) rfl (by decide +kernel)
set_option maxRecDepth 100000 in
theorem zw_502 : Cond.instanceMethod ({ cls := "RatePlans$Pacer", name := "beginWithSlowestActor", desc := "(LRatePlans$Net;I)V" } : Jvm.MethodName) ∈ zG := zG_of (i := 556) rfl (by decide +kernel)
set_option maxRecDepth 100000 in
theorem zw_503 : Cond.code ({ cls := "RatePlans$Pacer", name := "beginWithSlowestActor", desc := "(LRatePlans$Net;I)V" } : Jvm.MethodName) prog_3_method_8_code (4 : Nat) (Option.none : Option Jvm.ClassFile.FieldType) ∈ zG := zG_of (i := 557) rfl (by decide +kernel)
set_option maxRecDepth 100000 in
theorem zw_504 : Cond.methodLink "RatePlans$Pacer" (121 : Nat) ({ cls := "java/lang/Math", name := "max", desc := "(II)I" } : Jvm.MethodName) ∈ zG := zG_of (i := 558) rfl (by decide +kernel)
set_option maxRecDepth 100000 in
theorem zw_505 : Cond.methodLink "RatePlans$Pacer" (56 : Nat) ({ cls := "RatePlans$Pacer", name := "nodeOnSlowerLoop", desc := "()I" } : Jvm.MethodName) ∈ zG := zG_of (i := 559) rfl (by decide +kernel)
set_option maxRecDepth 100000 in
theorem zw_507 : Cond.instanceMethod ({ cls := "RatePlans$Pacer", name := "nodeOnSlowerLoop", desc := "()I" } : Jvm.MethodName) ∈ zG := zG_of (i := 561) rfl (by decide +kernel)
set_option maxRecDepth 100000 in
theorem zw_508 : Cond.code ({ cls := "RatePlans$Pacer", name := "nodeOnSlowerLoop", desc := "()I" } : Jvm.MethodName) prog_3_method_9_code (3 : Nat) (Option.some Jvm.ClassFile.FieldType.int) ∈ zG := zG_of (i := 562) rfl (by decide +kernel)
set_option maxRecDepth 100000 in
theorem zw_509 : Cond.methodLink "RatePlans$Pacer" (124 : Nat) ({ cls := "RatePlans$Pacer", name := "raiseAll", desc := "()Z" } : Jvm.MethodName) ∈ zG := zG_of (i := 563) rfl (by decide +kernel)
set_option maxRecDepth 100000 in
theorem zw_511 : Cond.instanceMethod ({ cls := "RatePlans$Pacer", name := "raiseAll", desc := "()Z" } : Jvm.MethodName) ∈ zG := zG_of (i := 565) rfl (by decide +kernel)
set_option maxRecDepth 100000 in
theorem zw_512 : Cond.code ({ cls := "RatePlans$Pacer", name := "raiseAll", desc := "()Z" } : Jvm.MethodName) prog_3_method_10_code (6 : Nat) (Option.some Jvm.ClassFile.FieldType.boolean) ∈ zG := zG_of (i := 566) rfl (by decide +kernel)
set_option maxRecDepth 100000 in
theorem zw_513 : Cond.methodLink "RatePlans$Pacer" (128 : Nat) ({ cls := "RatePlans$Pacer", name := "nodeOnLoopOfRaises", desc := "()I" } : Jvm.MethodName) ∈ zG := zG_of (i := 567) rfl (by decide +kernel)
set_option maxRecDepth 100000 in
theorem zw_515 : Cond.instanceMethod ({ cls := "RatePlans$Pacer", name := "nodeOnLoopOfRaises", desc := "()I" } : Jvm.MethodName) ∈ zG := zG_of (i := 569) rfl (by decide +kernel)
set_option maxRecDepth 100000 in
theorem zw_516 : Cond.code ({ cls := "RatePlans$Pacer", name := "nodeOnLoopOfRaises", desc := "()I" } : Jvm.MethodName) prog_3_method_11_code (4 : Nat) (Option.some Jvm.ClassFile.FieldType.int) ∈ zG := zG_of (i := 570) rfl (by decide +kernel)
set_option maxRecDepth 100000 in
theorem zw_517 : Cond.methodLink "RatePlans$Pacer" (131 : Nat) ({ cls := "RatePlans$Pacer", name := "nodeAhead", desc := "(I)I" } : Jvm.MethodName) ∈ zG := zG_of (i := 571) rfl (by decide +kernel)
set_option maxRecDepth 100000 in
theorem zw_519 : Cond.instanceMethod ({ cls := "RatePlans$Pacer", name := "nodeAhead", desc := "(I)I" } : Jvm.MethodName) ∈ zG := zG_of (i := 573) rfl (by decide +kernel)
set_option maxRecDepth 100000 in
theorem zw_520 : Cond.code ({ cls := "RatePlans$Pacer", name := "nodeAhead", desc := "(I)I" } : Jvm.MethodName) prog_3_method_12_code (3 : Nat) (Option.some Jvm.ClassFile.FieldType.int) ∈ zG := zG_of (i := 574) rfl (by decide +kernel)
set_option maxRecDepth 100000 in
theorem zw_521 : Cond.methodLink "RatePlans$Pacer" (60 : Nat) ({ cls := "RatePlans$Pacer", name := "takeRatioOf", desc := "(I)V" } : Jvm.MethodName) ∈ zG := zG_of (i := 575) rfl (by decide +kernel)
set_option maxRecDepth 100000 in
theorem zw_523 : Cond.instanceMethod ({ cls := "RatePlans$Pacer", name := "takeRatioOf", desc := "(I)V" } : Jvm.MethodName) ∈ zG := zG_of (i := 577) rfl (by decide +kernel)
set_option maxRecDepth 100000 in
theorem zw_524 : Cond.code ({ cls := "RatePlans$Pacer", name := "takeRatioOf", desc := "(I)V" } : Jvm.MethodName) prog_3_method_13_code (6 : Nat) (Option.none : Option Jvm.ClassFile.FieldType) ∈ zG := zG_of (i := 578) rfl (by decide +kernel)
set_option maxRecDepth 100000 in
theorem zw_525 : Cond.methodLinkNest "RatePlans$Pacer" (135 : Nat) ({ cls := "RatePlans", name := "commonDivisor", desc := "(II)I" } : Jvm.MethodName) "RatePlans" ∈ zNs := zN_of (i := 579) rfl (by decide +kernel)
set_option maxRecDepth 100000 in
theorem zw_526 : Cond.methodLinkNest "RatePlans$Pacer" (138 : Nat) ({ cls := "RatePlans", name := "divided", desc := "(II)I" } : Jvm.MethodName) "RatePlans" ∈ zNs := zN_of (i := 580) rfl (by decide +kernel)
set_option maxRecDepth 100000 in
theorem zw_527 : Cond.classLink "RatePlansLaw" (27 : Nat) "RatePlansModel" ∈ zG := zG_of (i := 581) rfl (by decide +kernel)
set_option maxRecDepth 100000 in
theorem zw_528 : Cond.instantiable "RatePlansModel" (34 : Nat) ∈ zG := zG_of (i := 582) rfl (by decide +kernel)
set_option maxRecDepth 100000 in
theorem zw_529 : Cond.methodLink "RatePlansLaw" (29 : Nat) ({ cls := "RatePlansModel", name := "<init>", desc := "()V" } : Jvm.MethodName) ∈ zG := zG_of (i := 583) rfl (by decide +kernel)
set_option maxRecDepth 100000 in
theorem zw_530 : Cond.instanceMethod ({ cls := "RatePlansModel", name := "<init>", desc := "()V" } : Jvm.MethodName) ∈ zG := zG_of (i := 584) rfl (by decide +kernel)
set_option maxRecDepth 100000 in
theorem zw_531 : Cond.code ({ cls := "RatePlansModel", name := "<init>", desc := "()V" } : Jvm.MethodName) prog_7_method_1_code (1 : Nat) (Option.none : Option Jvm.ClassFile.FieldType) ∈ zG := zG_of (i := 585) rfl (by decide +kernel)
set_option maxRecDepth 100000 in
theorem zw_532 : Cond.methodLink "RatePlansModel" (1 : Nat) ({ cls := "java/lang/Object", name := "<init>", desc := "()V" } : Jvm.MethodName) ∈ zG := zG_of (i := 586) rfl (by decide +kernel)
set_option maxRecDepth 100000 in
theorem zw_533 : Cond.fieldLink "RatePlansModel" (82 : Nat) "RatePlansModel" "thrown" "I" ∈ zG := zG_of (i := 587) rfl (by decide +kernel)
set_option maxRecDepth 100000 in
theorem zw_534 : Cond.fieldLink "RatePlansModel" (7 : Nat) "RatePlansModel" "actors" "I" ∈ zG := zG_of (i := 588) rfl (by decide +kernel)
set_option maxRecDepth 100000 in
theorem zw_535 : Cond.fieldLink "RatePlansModel" (89 : Nat) "RatePlansModel" "channels" "I" ∈ zG := zG_of (i := 589) rfl (by decide +kernel)
set_option maxRecDepth 100000 in
theorem zw_536 : Cond.fieldLink "RatePlansModel" (13 : Nat) "RatePlansModel" "time" "[I" ∈ zG := zG_of (i := 590) rfl (by decide +kernel)
set_option maxRecDepth 100000 in
theorem zw_537 : Cond.fieldLink "RatePlansModel" (17 : Nat) "RatePlansModel" "from" "[I" ∈ zG := zG_of (i := 591) rfl (by decide +kernel)
set_option maxRecDepth 100000 in
theorem zw_538 : Cond.fieldLink "RatePlansModel" (20 : Nat) "RatePlansModel" "to" "[I" ∈ zG := zG_of (i := 592) rfl (by decide +kernel)
set_option maxRecDepth 100000 in
theorem zw_539 : Cond.fieldLink "RatePlansModel" (23 : Nat) "RatePlansModel" "puts" "[I" ∈ zG := zG_of (i := 593) rfl (by decide +kernel)
set_option maxRecDepth 100000 in
theorem zw_540 : Cond.fieldLink "RatePlansModel" (26 : Nat) "RatePlansModel" "takes" "[I" ∈ zG := zG_of (i := 594) rfl (by decide +kernel)
set_option maxRecDepth 100000 in
theorem zw_541 : Cond.fieldLink "RatePlansModel" (29 : Nat) "RatePlansModel" "tokens" "[I" ∈ zG := zG_of (i := 595) rfl (by decide +kernel)
set_option maxRecDepth 100000 in
theorem zw_542 : Cond.fieldLink "RatePlansModel" (92 : Nat) "RatePlansModel" "isKnown" "Z" ∈ zG := zG_of (i := 596) rfl (by decide +kernel)
set_option maxRecDepth 100000 in
theorem zw_543 : Cond.fieldLink "RatePlansModel" (126 : Nat) "RatePlansModel" "uneven" "I" ∈ zG := zG_of (i := 597) rfl (by decide +kernel)
set_option maxRecDepth 100000 in
theorem zw_544 : Cond.fieldLink "RatePlansModel" (108 : Nat) "RatePlansModel" "isGreat" "Z" ∈ zG := zG_of (i := 598) rfl (by decide +kernel)
set_option maxRecDepth 100000 in
theorem zw_545 : Cond.fieldLink "RatePlansModel" (111 : Nat) "RatePlansModel" "parts" "I" ∈ zG := zG_of (i := 599) rfl (by decide +kernel)
set_option maxRecDepth 100000 in
theorem zw_546 : Cond.fieldLink "RatePlansModel" (32 : Nat) "RatePlansModel" "part" "[I" ∈ zG := zG_of (i := 600) rfl (by decide +kernel)
set_option maxRecDepth 100000 in
theorem zw_547 : Cond.fieldLink "RatePlansModel" (35 : Nat) "RatePlansModel" "over" "[J" ∈ zG := zG_of (i := 601) rfl (by decide +kernel)
set_option maxRecDepth 100000 in
theorem zw_548 : Cond.fieldLink "RatePlansModel" (39 : Nat) "RatePlansModel" "under" "[J" ∈ zG := zG_of (i := 602) rfl (by decide +kernel)
set_option maxRecDepth 100000 in
theorem zw_549 : Cond.fieldLink "RatePlansModel" (42 : Nat) "RatePlansModel" "count" "[I" ∈ zG := zG_of (i := 603) rfl (by decide +kernel)
set_option maxRecDepth 100000 in
theorem zw_550 : Cond.fieldLink "RatePlansModel" (45 : Nat) "RatePlansModel" "left" "[I" ∈ zG := zG_of (i := 604) rfl (by decide +kernel)
set_option maxRecDepth 100000 in
theorem zw_551 : Cond.fieldLink "RatePlansModel" (48 : Nat) "RatePlansModel" "lies" "[I" ∈ zG := zG_of (i := 605) rfl (by decide +kernel)
set_option maxRecDepth 100000 in
theorem zw_552 : Cond.fieldLink "RatePlansModel" (51 : Nat) "RatePlansModel" "peak" "[I" ∈ zG := zG_of (i := 606) rfl (by decide +kernel)
set_option maxRecDepth 100000 in
theorem zw_553 : Cond.fieldLink "RatePlansModel" (120 : Nat) "RatePlansModel" "dones" "I" ∈ zG := zG_of (i := 607) rfl (by decide +kernel)
set_option maxRecDepth 100000 in
theorem zw_554 : Cond.fieldLink "RatePlansModel" (54 : Nat) "RatePlansModel" "done" "[I" ∈ zG := zG_of (i := 608) rfl (by decide +kernel)
set_option maxRecDepth 100000 in
theorem zw_555 : Cond.fieldLink "RatePlansModel" (57 : Nat) "RatePlansModel" "isThere" "[Z" ∈ zG := zG_of (i := 609) rfl (by decide +kernel)
set_option maxRecDepth 100000 in
theorem zw_556 : Cond.fieldLink "RatePlansModel" (151 : Nat) "RatePlansModel" "nodes" "I" ∈ zG := zG_of (i := 610) rfl (by decide +kernel)
set_option maxRecDepth 100000 in
theorem zw_557 : Cond.fieldLink "RatePlansModel" (61 : Nat) "RatePlansModel" "firstNode" "[I" ∈ zG := zG_of (i := 611) rfl (by decide +kernel)
set_option maxRecDepth 100000 in
theorem zw_558 : Cond.fieldLink "RatePlansModel" (148 : Nat) "RatePlansModel" "edges" "I" ∈ zG := zG_of (i := 612) rfl (by decide +kernel)
set_option maxRecDepth 100000 in
theorem zw_559 : Cond.fieldLink "RatePlansModel" (64 : Nat) "RatePlansModel" "edgeFrom" "[I" ∈ zG := zG_of (i := 613) rfl (by decide +kernel)
set_option maxRecDepth 100000 in
theorem zw_560 : Cond.fieldLink "RatePlansModel" (67 : Nat) "RatePlansModel" "edgeTo" "[I" ∈ zG := zG_of (i := 614) rfl (by decide +kernel)
set_option maxRecDepth 100000 in
theorem zw_561 : Cond.fieldLink "RatePlansModel" (70 : Nat) "RatePlansModel" "edgeTime" "[I" ∈ zG := zG_of (i := 615) rfl (by decide +kernel)
set_option maxRecDepth 100000 in
theorem zw_562 : Cond.fieldLink "RatePlansModel" (73 : Nat) "RatePlansModel" "edgeRounds" "[I" ∈ zG := zG_of (i := 616) rfl (by decide +kernel)
set_option maxRecDepth 100000 in
theorem zw_563 : Cond.fieldLink "RatePlansModel" (76 : Nat) "RatePlansModel" "far" "[J" ∈ zG := zG_of (i := 617) rfl (by decide +kernel)
set_option maxRecDepth 100000 in
theorem zw_564 : Cond.fieldLink "RatePlansModel" (175 : Nat) "RatePlansModel" "paceOver" "I" ∈ zG := zG_of (i := 618) rfl (by decide +kernel)
set_option maxRecDepth 100000 in
theorem zw_565 : Cond.fieldLink "RatePlansModel" (172 : Nat) "RatePlansModel" "paceUnder" "I" ∈ zG := zG_of (i := 619) rfl (by decide +kernel)
set_option maxRecDepth 100000 in
theorem zw_566 : Cond.fieldLink "RatePlansModel" (79 : Nat) "RatePlansModel" "rooms" "[I" ∈ zG := zG_of (i := 620) rfl (by decide +kernel)
set_option maxRecDepth 100000 in
theorem zw_567 : Cond.lays "RatePlansModel" "RatePlansModel" "thrown" "I" ∈ zG := zG_of (i := 621) rfl (by decide +kernel)
set_option maxRecDepth 100000 in
theorem zw_568 : Cond.soleField "RatePlansModel" "thrown" ∈ zG := zG_of (i := 622) rfl (by decide +kernel)
set_option maxRecDepth 100000 in
theorem zw_569 : Cond.lays "RatePlansModel" "RatePlansModel" "actors" "I" ∈ zG := zG_of (i := 623) rfl (by decide +kernel)
set_option maxRecDepth 100000 in
theorem zw_570 : Cond.soleField "RatePlansModel" "actors" ∈ zG := zG_of (i := 624) rfl (by decide +kernel)
set_option maxRecDepth 100000 in
theorem zw_571 : Cond.lays "RatePlansModel" "RatePlansModel" "channels" "I" ∈ zG := zG_of (i := 625) rfl (by decide +kernel)
set_option maxRecDepth 100000 in
theorem zw_572 : Cond.soleField "RatePlansModel" "channels" ∈ zG := zG_of (i := 626) rfl (by decide +kernel)
set_option maxRecDepth 100000 in
theorem zw_573 : Cond.laysFinal "RatePlansModel" "RatePlansModel" "time" "[I" ∈ zG := zG_of (i := 627) rfl (by decide +kernel)
set_option maxRecDepth 100000 in
theorem zw_574 : Cond.soleField "RatePlansModel" "time" ∈ zG := zG_of (i := 628) rfl (by decide +kernel)
set_option maxRecDepth 100000 in
theorem zw_575 : Cond.laysFinal "RatePlansModel" "RatePlansModel" "from" "[I" ∈ zG := zG_of (i := 629) rfl (by decide +kernel)
set_option maxRecDepth 100000 in
theorem zw_576 : Cond.soleField "RatePlansModel" "from" ∈ zG := zG_of (i := 630) rfl (by decide +kernel)
set_option maxRecDepth 100000 in
theorem zw_577 : Cond.laysFinal "RatePlansModel" "RatePlansModel" "to" "[I" ∈ zG := zG_of (i := 631) rfl (by decide +kernel)
set_option maxRecDepth 100000 in
theorem zw_578 : Cond.soleField "RatePlansModel" "to" ∈ zG := zG_of (i := 632) rfl (by decide +kernel)
set_option maxRecDepth 100000 in
theorem zw_579 : Cond.laysFinal "RatePlansModel" "RatePlansModel" "puts" "[I" ∈ zG := zG_of (i := 633) rfl (by decide +kernel)
set_option maxRecDepth 100000 in
theorem zw_580 : Cond.soleField "RatePlansModel" "puts" ∈ zG := zG_of (i := 634) rfl (by decide +kernel)
set_option maxRecDepth 100000 in
theorem zw_581 : Cond.laysFinal "RatePlansModel" "RatePlansModel" "takes" "[I" ∈ zG := zG_of (i := 635) rfl (by decide +kernel)
set_option maxRecDepth 100000 in
theorem zw_582 : Cond.soleField "RatePlansModel" "takes" ∈ zG := zG_of (i := 636) rfl (by decide +kernel)
set_option maxRecDepth 100000 in
theorem zw_583 : Cond.laysFinal "RatePlansModel" "RatePlansModel" "tokens" "[I" ∈ zG := zG_of (i := 637) rfl (by decide +kernel)
set_option maxRecDepth 100000 in
theorem zw_584 : Cond.soleField "RatePlansModel" "tokens" ∈ zG := zG_of (i := 638) rfl (by decide +kernel)
set_option maxRecDepth 100000 in
theorem zw_585 : Cond.lays "RatePlansModel" "RatePlansModel" "isKnown" "Z" ∈ zG := zG_of (i := 639) rfl (by decide +kernel)
set_option maxRecDepth 100000 in
theorem zw_586 : Cond.soleField "RatePlansModel" "isKnown" ∈ zG := zG_of (i := 640) rfl (by decide +kernel)
set_option maxRecDepth 100000 in
theorem zw_587 : Cond.lays "RatePlansModel" "RatePlansModel" "uneven" "I" ∈ zG := zG_of (i := 641) rfl (by decide +kernel)
set_option maxRecDepth 100000 in
theorem zw_588 : Cond.soleField "RatePlansModel" "uneven" ∈ zG := zG_of (i := 642) rfl (by decide +kernel)
set_option maxRecDepth 100000 in
theorem zw_589 : Cond.lays "RatePlansModel" "RatePlansModel" "isGreat" "Z" ∈ zG := zG_of (i := 643) rfl (by decide +kernel)
set_option maxRecDepth 100000 in
theorem zw_590 : Cond.soleField "RatePlansModel" "isGreat" ∈ zG := zG_of (i := 644) rfl (by decide +kernel)
set_option maxRecDepth 100000 in
theorem zw_591 : Cond.lays "RatePlansModel" "RatePlansModel" "parts" "I" ∈ zG := zG_of (i := 645) rfl (by decide +kernel)
set_option maxRecDepth 100000 in
theorem zw_592 : Cond.soleField "RatePlansModel" "parts" ∈ zG := zG_of (i := 646) rfl (by decide +kernel)
set_option maxRecDepth 100000 in
theorem zw_593 : Cond.laysFinal "RatePlansModel" "RatePlansModel" "part" "[I" ∈ zG := zG_of (i := 647) rfl (by decide +kernel)
set_option maxRecDepth 100000 in
theorem zw_594 : Cond.soleField "RatePlansModel" "part" ∈ zG := zG_of (i := 648) rfl (by decide +kernel)
set_option maxRecDepth 100000 in
theorem zw_595 : Cond.laysFinal "RatePlansModel" "RatePlansModel" "over" "[J" ∈ zG := zG_of (i := 649) rfl (by decide +kernel)
set_option maxRecDepth 100000 in
theorem zw_596 : Cond.soleField "RatePlansModel" "over" ∈ zG := zG_of (i := 650) rfl (by decide +kernel)
set_option maxRecDepth 100000 in
theorem zw_597 : Cond.laysFinal "RatePlansModel" "RatePlansModel" "under" "[J" ∈ zG := zG_of (i := 651) rfl (by decide +kernel)
set_option maxRecDepth 100000 in
theorem zw_598 : Cond.soleField "RatePlansModel" "under" ∈ zG := zG_of (i := 652) rfl (by decide +kernel)
set_option maxRecDepth 100000 in
theorem zw_599 : Cond.laysFinal "RatePlansModel" "RatePlansModel" "count" "[I" ∈ zG := zG_of (i := 653) rfl (by decide +kernel)
set_option maxRecDepth 100000 in
theorem zw_600 : Cond.soleField "RatePlansModel" "count" ∈ zG := zG_of (i := 654) rfl (by decide +kernel)
set_option maxRecDepth 100000 in
theorem zw_601 : Cond.laysFinal "RatePlansModel" "RatePlansModel" "left" "[I" ∈ zG := zG_of (i := 655) rfl (by decide +kernel)
set_option maxRecDepth 100000 in
theorem zw_602 : Cond.soleField "RatePlansModel" "left" ∈ zG := zG_of (i := 656) rfl (by decide +kernel)
set_option maxRecDepth 100000 in
theorem zw_603 : Cond.laysFinal "RatePlansModel" "RatePlansModel" "lies" "[I" ∈ zG := zG_of (i := 657) rfl (by decide +kernel)
set_option maxRecDepth 100000 in
theorem zw_604 : Cond.soleField "RatePlansModel" "lies" ∈ zG := zG_of (i := 658) rfl (by decide +kernel)
set_option maxRecDepth 100000 in
theorem zw_605 : Cond.laysFinal "RatePlansModel" "RatePlansModel" "peak" "[I" ∈ zG := zG_of (i := 659) rfl (by decide +kernel)
set_option maxRecDepth 100000 in
theorem zw_606 : Cond.soleField "RatePlansModel" "peak" ∈ zG := zG_of (i := 660) rfl (by decide +kernel)
set_option maxRecDepth 100000 in
theorem zw_607 : Cond.lays "RatePlansModel" "RatePlansModel" "dones" "I" ∈ zG := zG_of (i := 661) rfl (by decide +kernel)
set_option maxRecDepth 100000 in
theorem zw_608 : Cond.soleField "RatePlansModel" "dones" ∈ zG := zG_of (i := 662) rfl (by decide +kernel)
set_option maxRecDepth 100000 in
theorem zw_609 : Cond.laysFinal "RatePlansModel" "RatePlansModel" "done" "[I" ∈ zG := zG_of (i := 663) rfl (by decide +kernel)
set_option maxRecDepth 100000 in
theorem zw_610 : Cond.soleField "RatePlansModel" "done" ∈ zG := zG_of (i := 664) rfl (by decide +kernel)
set_option maxRecDepth 100000 in
theorem zw_611 : Cond.laysFinal "RatePlansModel" "RatePlansModel" "isThere" "[Z" ∈ zG := zG_of (i := 665) rfl (by decide +kernel)
set_option maxRecDepth 100000 in
theorem zw_612 : Cond.soleField "RatePlansModel" "isThere" ∈ zG := zG_of (i := 666) rfl (by decide +kernel)
set_option maxRecDepth 100000 in
theorem zw_613 : Cond.lays "RatePlansModel" "RatePlansModel" "nodes" "I" ∈ zG := zG_of (i := 667) rfl (by decide +kernel)
set_option maxRecDepth 100000 in
theorem zw_614 : Cond.soleField "RatePlansModel" "nodes" ∈ zG := zG_of (i := 668) rfl (by decide +kernel)
set_option maxRecDepth 100000 in
theorem zw_615 : Cond.laysFinal "RatePlansModel" "RatePlansModel" "firstNode" "[I" ∈ zG := zG_of (i := 669) rfl (by decide +kernel)
set_option maxRecDepth 100000 in
theorem zw_616 : Cond.soleField "RatePlansModel" "firstNode" ∈ zG := zG_of (i := 670) rfl (by decide +kernel)
set_option maxRecDepth 100000 in
theorem zw_617 : Cond.lays "RatePlansModel" "RatePlansModel" "edges" "I" ∈ zG := zG_of (i := 671) rfl (by decide +kernel)
set_option maxRecDepth 100000 in
theorem zw_618 : Cond.soleField "RatePlansModel" "edges" ∈ zG := zG_of (i := 672) rfl (by decide +kernel)
set_option maxRecDepth 100000 in
theorem zw_619 : Cond.laysFinal "RatePlansModel" "RatePlansModel" "edgeFrom" "[I" ∈ zG := zG_of (i := 673) rfl (by decide +kernel)
set_option maxRecDepth 100000 in
theorem zw_620 : Cond.soleField "RatePlansModel" "edgeFrom" ∈ zG := zG_of (i := 674) rfl (by decide +kernel)
set_option maxRecDepth 100000 in
theorem zw_621 : Cond.laysFinal "RatePlansModel" "RatePlansModel" "edgeTo" "[I" ∈ zG := zG_of (i := 675) rfl (by decide +kernel)
set_option maxRecDepth 100000 in
theorem zw_622 : Cond.soleField "RatePlansModel" "edgeTo" ∈ zG := zG_of (i := 676) rfl (by decide +kernel)
set_option maxRecDepth 100000 in
theorem zw_623 : Cond.laysFinal "RatePlansModel" "RatePlansModel" "edgeTime" "[I" ∈ zG := zG_of (i := 677) rfl (by decide +kernel)
set_option maxRecDepth 100000 in
theorem zw_624 : Cond.soleField "RatePlansModel" "edgeTime" ∈ zG := zG_of (i := 678) rfl (by decide +kernel)
set_option maxRecDepth 100000 in
theorem zw_625 : Cond.laysFinal "RatePlansModel" "RatePlansModel" "edgeRounds" "[I" ∈ zG := zG_of (i := 679) rfl (by decide +kernel)
set_option maxRecDepth 100000 in
theorem zw_626 : Cond.soleField "RatePlansModel" "edgeRounds" ∈ zG := zG_of (i := 680) rfl (by decide +kernel)
set_option maxRecDepth 100000 in
theorem zw_627 : Cond.laysFinal "RatePlansModel" "RatePlansModel" "far" "[J" ∈ zG := zG_of (i := 681) rfl (by decide +kernel)
set_option maxRecDepth 100000 in
theorem zw_628 : Cond.soleField "RatePlansModel" "far" ∈ zG := zG_of (i := 682) rfl (by decide +kernel)
set_option maxRecDepth 100000 in
theorem zw_629 : Cond.lays "RatePlansModel" "RatePlansModel" "paceOver" "I" ∈ zG := zG_of (i := 683) rfl (by decide +kernel)
set_option maxRecDepth 100000 in
theorem zw_630 : Cond.soleField "RatePlansModel" "paceOver" ∈ zG := zG_of (i := 684) rfl (by decide +kernel)
set_option maxRecDepth 100000 in
theorem zw_631 : Cond.lays "RatePlansModel" "RatePlansModel" "paceUnder" "I" ∈ zG := zG_of (i := 685) rfl (by decide +kernel)
set_option maxRecDepth 100000 in
theorem zw_632 : Cond.soleField "RatePlansModel" "paceUnder" ∈ zG := zG_of (i := 686) rfl (by decide +kernel)
set_option maxRecDepth 100000 in
theorem zw_633 : Cond.laysFinal "RatePlansModel" "RatePlansModel" "rooms" "[I" ∈ zG := zG_of (i := 687) rfl (by decide +kernel)
set_option maxRecDepth 100000 in
theorem zw_634 : Cond.soleField "RatePlansModel" "rooms" ∈ zG := zG_of (i := 688) rfl (by decide +kernel)
set_option maxRecDepth 100000 in
theorem zw_636 : Cond.arrayClass Jvm.ClassFile.FieldType.long ∈ zG := zG_of (i := 690) rfl (by decide +kernel)
set_option maxRecDepth 100000 in
theorem zw_637 : Cond.arrayClass Jvm.ClassFile.FieldType.boolean ∈ zG := zG_of (i := 691) rfl (by decide +kernel)
set_option maxRecDepth 100000 in
theorem zw_638 : Cond.methodLink "RatePlansLaw" (56 : Nat) ({ cls := "RatePlansModel", name := "thrown", desc := "()I" } : Jvm.MethodName) ∈ zG := zG_of (i := 692) rfl (by decide +kernel)
set_option maxRecDepth 100000 in
theorem zw_639 : Cond.instanceMethod ({ cls := "RatePlansModel", name := "thrown", desc := "()I" } : Jvm.MethodName) ∈ zG := zG_of (i := 693) rfl (by decide +kernel)
set_option maxRecDepth 100000 in
theorem zw_640 : Cond.selects "RatePlansModel" ({ cls := "RatePlansModel", name := "thrown", desc := "()I" } : Jvm.MethodName) ({ cls := "RatePlansModel", name := "thrown", desc := "()I" } : Jvm.MethodName) ∈ zG := zG_of (i := 694) rfl (by decide +kernel)
set_option maxRecDepth 100000 in
theorem zw_641 : Cond.code ({ cls := "RatePlansModel", name := "thrown", desc := "()I" } : Jvm.MethodName) prog_7_method_2_code (1 : Nat) (Option.some Jvm.ClassFile.FieldType.int) ∈ zG := zG_of (i := 695) rfl (by decide +kernel)
set_option maxRecDepth 100000 in
theorem zw_642 : Cond.methodLink "RatePlansLaw" (34 : Nat) ({ cls := "RatePlansModel", name := "graph", desc := "(I)Z" } : Jvm.MethodName) ∈ zG := zG_of (i := 696) rfl (by decide +kernel)
set_option maxRecDepth 100000 in
theorem zw_643 : Cond.instanceMethod ({ cls := "RatePlansModel", name := "graph", desc := "(I)Z" } : Jvm.MethodName) ∈ zG := zG_of (i := 697) rfl (by decide +kernel)
set_option maxRecDepth 100000 in
theorem zw_644 : Cond.selects "RatePlansModel" ({ cls := "RatePlansModel", name := "graph", desc := "(I)Z" } : Jvm.MethodName) ({ cls := "RatePlansModel", name := "graph", desc := "(I)Z" } : Jvm.MethodName) ∈ zG := zG_of (i := 698) rfl (by decide +kernel)
set_option maxRecDepth 100000 in
theorem zw_645 : Cond.code ({ cls := "RatePlansModel", name := "graph", desc := "(I)Z" } : Jvm.MethodName) prog_7_method_5_code (3 : Nat) (Option.some Jvm.ClassFile.FieldType.boolean) ∈ zG := zG_of (i := 699) rfl (by decide +kernel)
set_option maxRecDepth 100000 in
theorem zw_646 : Cond.methodLink "RatePlansModel" (85 : Nat) ({ cls := "RatePlansModel", name := "in", desc := "(III)Z" } : Jvm.MethodName) ∈ zG := zG_of (i := 700) rfl (by decide +kernel)
set_option maxRecDepth 100000 in
theorem zw_647 : Cond.static ({ cls := "RatePlansModel", name := "in", desc := "(III)Z" } : Jvm.MethodName) ∈ zG := zG_of (i := 701) rfl (by decide +kernel)
set_option maxRecDepth 100000 in
theorem zw_648 : Cond.code ({ cls := "RatePlansModel", name := "in", desc := "(III)Z" } : Jvm.MethodName) prog_7_method_3_code (3 : Nat) (Option.some Jvm.ClassFile.FieldType.boolean) ∈ zG := zG_of (i := 702) rfl (by decide +kernel)
set_option maxRecDepth 100000 in
theorem zw_649 : Cond.methodLink "RatePlansLaw" (39 : Nat) ({ cls := "RatePlansModel", name := "time", desc := "(II)Z" } : Jvm.MethodName) ∈ zG := zG_of (i := 703) rfl (by decide +kernel)
set_option maxRecDepth 100000 in
theorem zw_650 : Cond.instanceMethod ({ cls := "RatePlansModel", name := "time", desc := "(II)Z" } : Jvm.MethodName) ∈ zG := zG_of (i := 704) rfl (by decide +kernel)
set_option maxRecDepth 100000 in
theorem zw_651 : Cond.selects "RatePlansModel" ({ cls := "RatePlansModel", name := "time", desc := "(II)Z" } : Jvm.MethodName) ({ cls := "RatePlansModel", name := "time", desc := "(II)Z" } : Jvm.MethodName) ∈ zG := zG_of (i := 705) rfl (by decide +kernel)
set_option maxRecDepth 100000 in
theorem zw_652 : Cond.code ({ cls := "RatePlansModel", name := "time", desc := "(II)Z" } : Jvm.MethodName) prog_7_method_6_code (3 : Nat) (Option.some Jvm.ClassFile.FieldType.boolean) ∈ zG := zG_of (i := 706) rfl (by decide +kernel)
set_option maxRecDepth 100000 in
theorem zw_653 : Cond.methodLink "RatePlansLaw" (44 : Nat) ({ cls := "RatePlansModel", name := "channel", desc := "(IIIII)I" } : Jvm.MethodName) ∈ zG := zG_of (i := 707) rfl (by decide +kernel)
set_option maxRecDepth 100000 in
theorem zw_654 : Cond.instanceMethod ({ cls := "RatePlansModel", name := "channel", desc := "(IIIII)I" } : Jvm.MethodName) ∈ zG := zG_of (i := 708) rfl (by decide +kernel)
set_option maxRecDepth 100000 in
theorem zw_655 : Cond.selects "RatePlansModel" ({ cls := "RatePlansModel", name := "channel", desc := "(IIIII)I" } : Jvm.MethodName) ({ cls := "RatePlansModel", name := "channel", desc := "(IIIII)I" } : Jvm.MethodName) ∈ zG := zG_of (i := 709) rfl (by decide +kernel)
set_option maxRecDepth 100000 in
theorem zw_656 : Cond.code ({ cls := "RatePlansModel", name := "channel", desc := "(IIIII)I" } : Jvm.MethodName) prog_7_method_7_code (6 : Nat) (Option.some Jvm.ClassFile.FieldType.int) ∈ zG := zG_of (i := 710) rfl (by decide +kernel)
set_option maxRecDepth 100000 in
theorem zw_657 : Cond.methodLink "RatePlansLaw" (49 : Nat) ({ cls := "RatePlansModel", name := "uneven", desc := "()I" } : Jvm.MethodName) ∈ zG := zG_of (i := 711) rfl (by decide +kernel)
set_option maxRecDepth 100000 in
theorem zw_658 : Cond.instanceMethod ({ cls := "RatePlansModel", name := "uneven", desc := "()I" } : Jvm.MethodName) ∈ zG := zG_of (i := 712) rfl (by decide +kernel)
set_option maxRecDepth 100000 in
theorem zw_659 : Cond.selects "RatePlansModel" ({ cls := "RatePlansModel", name := "uneven", desc := "()I" } : Jvm.MethodName) ({ cls := "RatePlansModel", name := "uneven", desc := "()I" } : Jvm.MethodName) ∈ zG := zG_of (i := 713) rfl (by decide +kernel)
set_option maxRecDepth 100000 in
theorem zw_660 : Cond.code ({ cls := "RatePlansModel", name := "uneven", desc := "()I" } : Jvm.MethodName) prog_7_method_18_code (1 : Nat) (Option.some Jvm.ClassFile.FieldType.int) ∈ zG := zG_of (i := 714) rfl (by decide +kernel)
set_option maxRecDepth 100000 in
theorem zw_661 : Cond.methodLink "RatePlansModel" (138 : Nat) ({ cls := "RatePlansModel", name := "know", desc := "()V" } : Jvm.MethodName) ∈ zG := zG_of (i := 715) rfl (by decide +kernel)
set_option maxRecDepth 100000 in
theorem zw_663 : Cond.instanceMethod ({ cls := "RatePlansModel", name := "know", desc := "()V" } : Jvm.MethodName) ∈ zG := zG_of (i := 717) rfl (by decide +kernel)
set_option maxRecDepth 100000 in
theorem zw_664 : Cond.code ({ cls := "RatePlansModel", name := "know", desc := "()V" } : Jvm.MethodName) prog_7_method_16_code (2 : Nat) (Option.none : Option Jvm.ClassFile.FieldType) ∈ zG := zG_of (i := 718) rfl (by decide +kernel)
set_option maxRecDepth 100000 in
theorem zw_665 : Cond.methodLink "RatePlansModel" (129 : Nat) ({ cls := "RatePlansModel", name := "fits", desc := "(I)Z" } : Jvm.MethodName) ∈ zG := zG_of (i := 719) rfl (by decide +kernel)
set_option maxRecDepth 100000 in
theorem zw_667 : Cond.instanceMethod ({ cls := "RatePlansModel", name := "fits", desc := "(I)Z" } : Jvm.MethodName) ∈ zG := zG_of (i := 721) rfl (by decide +kernel)
set_option maxRecDepth 100000 in
theorem zw_668 : Cond.code ({ cls := "RatePlansModel", name := "fits", desc := "(I)Z" } : Jvm.MethodName) prog_7_method_10_code (5 : Nat) (Option.some Jvm.ClassFile.FieldType.boolean) ∈ zG := zG_of (i := 722) rfl (by decide +kernel)
set_option maxRecDepth 100000 in
theorem zw_669 : Cond.methodLink "RatePlansModel" (100 : Nat) ({ cls := "RatePlansModel", name := "set", desc := "(IJJ)V" } : Jvm.MethodName) ∈ zG := zG_of (i := 723) rfl (by decide +kernel)
set_option maxRecDepth 100000 in
theorem zw_671 : Cond.instanceMethod ({ cls := "RatePlansModel", name := "set", desc := "(IJJ)V" } : Jvm.MethodName) ∈ zG := zG_of (i := 725) rfl (by decide +kernel)
set_option maxRecDepth 100000 in
theorem zw_672 : Cond.code ({ cls := "RatePlansModel", name := "set", desc := "(IJJ)V" } : Jvm.MethodName) prog_7_method_9_code (8 : Nat) (Option.none : Option Jvm.ClassFile.FieldType) ∈ zG := zG_of (i := 726) rfl (by decide +kernel)
set_option maxRecDepth 100000 in
theorem zw_673 : Cond.methodLink "RatePlansModel" (96 : Nat) ({ cls := "RatePlansModel", name := "divisor", desc := "(JJ)J" } : Jvm.MethodName) ∈ zG := zG_of (i := 727) rfl (by decide +kernel)
set_option maxRecDepth 100000 in
theorem zw_674 : Cond.static ({ cls := "RatePlansModel", name := "divisor", desc := "(JJ)J" } : Jvm.MethodName) ∈ zG := zG_of (i := 728) rfl (by decide +kernel)
set_option maxRecDepth 100000 in
theorem zw_675 : Cond.code ({ cls := "RatePlansModel", name := "divisor", desc := "(JJ)J" } : Jvm.MethodName) prog_7_method_8_code (10 : Nat) (Option.some Jvm.ClassFile.FieldType.long) ∈ zG := zG_of (i := 729) rfl (by decide +kernel)
set_option maxRecDepth 100000 in
theorem zw_676 : Cond.methodLink "RatePlansModel" (104 : Nat) ({ cls := "RatePlansModel", name := "reach", desc := "(I)Z" } : Jvm.MethodName) ∈ zG := zG_of (i := 730) rfl (by decide +kernel)
set_option maxRecDepth 100000 in
theorem zw_678 : Cond.instanceMethod ({ cls := "RatePlansModel", name := "reach", desc := "(I)Z" } : Jvm.MethodName) ∈ zG := zG_of (i := 732) rfl (by decide +kernel)
set_option maxRecDepth 100000 in
theorem zw_679 : Cond.code ({ cls := "RatePlansModel", name := "reach", desc := "(I)Z" } : Jvm.MethodName) prog_7_method_11_code (4 : Nat) (Option.some Jvm.ClassFile.FieldType.boolean) ∈ zG := zG_of (i := 733) rfl (by decide +kernel)
set_option maxRecDepth 100000 in
theorem zw_680 : Cond.methodLink "RatePlansModel" (132 : Nat) ({ cls := "RatePlansModel", name := "findCounts", desc := "()V" } : Jvm.MethodName) ∈ zG := zG_of (i := 734) rfl (by decide +kernel)
set_option maxRecDepth 100000 in
theorem zw_682 : Cond.instanceMethod ({ cls := "RatePlansModel", name := "findCounts", desc := "()V" } : Jvm.MethodName) ∈ zG := zG_of (i := 736) rfl (by decide +kernel)
set_option maxRecDepth 100000 in
theorem zw_683 : Cond.code ({ cls := "RatePlansModel", name := "findCounts", desc := "()V" } : Jvm.MethodName) prog_7_method_13_code (8 : Nat) (Option.none : Option Jvm.ClassFile.FieldType) ∈ zG := zG_of (i := 737) rfl (by decide +kernel)
set_option maxRecDepth 100000 in
theorem zw_684 : Cond.methodLink "RatePlansModel" (114 : Nat) ({ cls := "RatePlansModel", name := "leastOf", desc := "(I)I" } : Jvm.MethodName) ∈ zG := zG_of (i := 738) rfl (by decide +kernel)
set_option maxRecDepth 100000 in
theorem zw_686 : Cond.instanceMethod ({ cls := "RatePlansModel", name := "leastOf", desc := "(I)I" } : Jvm.MethodName) ∈ zG := zG_of (i := 740) rfl (by decide +kernel)
set_option maxRecDepth 100000 in
theorem zw_687 : Cond.code ({ cls := "RatePlansModel", name := "leastOf", desc := "(I)I" } : Jvm.MethodName) prog_7_method_12_code (5 : Nat) (Option.some Jvm.ClassFile.FieldType.int) ∈ zG := zG_of (i := 741) rfl (by decide +kernel)
set_option maxRecDepth 100000 in
theorem zw_688 : Cond.constantLong "RatePlansModel" (118 : Nat) (400 : Int64) ∈ zG := zG_of (i := 742) rfl (by decide +kernel)
set_option maxRecDepth 100000 in
theorem zw_689 : Cond.methodLink "RatePlansModel" (135 : Nat) ({ cls := "RatePlansModel", name := "round", desc := "()V" } : Jvm.MethodName) ∈ zG := zG_of (i := 743) rfl (by decide +kernel)
set_option maxRecDepth 100000 in
theorem zw_691 : Cond.instanceMethod ({ cls := "RatePlansModel", name := "round", desc := "()V" } : Jvm.MethodName) ∈ zG := zG_of (i := 745) rfl (by decide +kernel)
set_option maxRecDepth 100000 in
theorem zw_692 : Cond.code ({ cls := "RatePlansModel", name := "round", desc := "()V" } : Jvm.MethodName) prog_7_method_15_code (3 : Nat) (Option.none : Option Jvm.ClassFile.FieldType) ∈ zG := zG_of (i := 746) rfl (by decide +kernel)
set_option maxRecDepth 100000 in
theorem zw_693 : Cond.methodLink "RatePlansModel" (123 : Nat) ({ cls := "RatePlansModel", name := "canBeDone", desc := "(I)Z" } : Jvm.MethodName) ∈ zG := zG_of (i := 747) rfl (by decide +kernel)
set_option maxRecDepth 100000 in
theorem zw_695 : Cond.instanceMethod ({ cls := "RatePlansModel", name := "canBeDone", desc := "(I)Z" } : Jvm.MethodName) ∈ zG := zG_of (i := 749) rfl (by decide +kernel)
set_option maxRecDepth 100000 in
theorem zw_696 : Cond.code ({ cls := "RatePlansModel", name := "canBeDone", desc := "(I)Z" } : Jvm.MethodName) prog_7_method_14_code (3 : Nat) (Option.some Jvm.ClassFile.FieldType.boolean) ∈ zG := zG_of (i := 750) rfl (by decide +kernel)
set_option maxRecDepth 100000 in
theorem zw_697 : Cond.methodLink "RatePlansLaw" (55 : Nat) ({ cls := "RatePlansModel", name := "count", desc := "(I)I" } : Jvm.MethodName) ∈ zG := zG_of (i := 751) rfl (by decide +kernel)
set_option maxRecDepth 100000 in
theorem zw_698 : Cond.instanceMethod ({ cls := "RatePlansModel", name := "count", desc := "(I)I" } : Jvm.MethodName) ∈ zG := zG_of (i := 752) rfl (by decide +kernel)
set_option maxRecDepth 100000 in
theorem zw_699 : Cond.selects "RatePlansModel" ({ cls := "RatePlansModel", name := "count", desc := "(I)I" } : Jvm.MethodName) ({ cls := "RatePlansModel", name := "count", desc := "(I)I" } : Jvm.MethodName) ∈ zG := zG_of (i := 753) rfl (by decide +kernel)
set_option maxRecDepth 100000 in
theorem zw_700 : Cond.code ({ cls := "RatePlansModel", name := "count", desc := "(I)I" } : Jvm.MethodName) prog_7_method_19_code (2 : Nat) (Option.some Jvm.ClassFile.FieldType.int) ∈ zG := zG_of (i := 754) rfl (by decide +kernel)
set_option maxRecDepth 100000 in
theorem zw_701 : Cond.methodLink "RatePlansModel" (141 : Nat) ({ cls := "RatePlansModel", name := "raise", desc := "(I)I" } : Jvm.MethodName) ∈ zG := zG_of (i := 755) rfl (by decide +kernel)
set_option maxRecDepth 100000 in
theorem zw_703 : Cond.instanceMethod ({ cls := "RatePlansModel", name := "raise", desc := "(I)I" } : Jvm.MethodName) ∈ zG := zG_of (i := 757) rfl (by decide +kernel)
set_option maxRecDepth 100000 in
theorem zw_704 : Cond.code ({ cls := "RatePlansModel", name := "raise", desc := "(I)I" } : Jvm.MethodName) prog_7_method_4_code (2 : Nat) (Option.some Jvm.ClassFile.FieldType.int) ∈ zG := zG_of (i := 758) rfl (by decide +kernel)
set_option maxRecDepth 100000 in
theorem zw_705 : Cond.methodLink "RatePlansLaw" (61 : Nat) ({ cls := "RatePlansModel", name := "order", desc := "(I)I" } : Jvm.MethodName) ∈ zG := zG_of (i := 759) rfl (by decide +kernel)
set_option maxRecDepth 100000 in
theorem zw_706 : Cond.instanceMethod ({ cls := "RatePlansModel", name := "order", desc := "(I)I" } : Jvm.MethodName) ∈ zG := zG_of (i := 760) rfl (by decide +kernel)
set_option maxRecDepth 100000 in
theorem zw_707 : Cond.selects "RatePlansModel" ({ cls := "RatePlansModel", name := "order", desc := "(I)I" } : Jvm.MethodName) ({ cls := "RatePlansModel", name := "order", desc := "(I)I" } : Jvm.MethodName) ∈ zG := zG_of (i := 761) rfl (by decide +kernel)
set_option maxRecDepth 100000 in
theorem zw_708 : Cond.code ({ cls := "RatePlansModel", name := "order", desc := "(I)I" } : Jvm.MethodName) prog_7_method_20_code (2 : Nat) (Option.some Jvm.ClassFile.FieldType.int) ∈ zG := zG_of (i := 762) rfl (by decide +kernel)
set_option maxRecDepth 100000 in
theorem zw_709 : Cond.methodLink "RatePlansModel" (144 : Nat) ({ cls := "RatePlansModel", name := "isPlain", desc := "()Z" } : Jvm.MethodName) ∈ zG := zG_of (i := 763) rfl (by decide +kernel)
set_option maxRecDepth 100000 in
theorem zw_711 : Cond.instanceMethod ({ cls := "RatePlansModel", name := "isPlain", desc := "()Z" } : Jvm.MethodName) ∈ zG := zG_of (i := 765) rfl (by decide +kernel)
set_option maxRecDepth 100000 in
theorem zw_712 : Cond.code ({ cls := "RatePlansModel", name := "isPlain", desc := "()Z" } : Jvm.MethodName) prog_7_method_17_code (1 : Nat) (Option.some Jvm.ClassFile.FieldType.boolean) ∈ zG := zG_of (i := 766) rfl (by decide +kernel)
set_option maxRecDepth 100000 in
theorem zw_713 : Cond.methodLink "RatePlansLaw" (65 : Nat) ({ cls := "RatePlansModel", name := "left", desc := "(I)I" } : Jvm.MethodName) ∈ zG := zG_of (i := 767) rfl (by decide +kernel)
set_option maxRecDepth 100000 in
theorem zw_714 : Cond.instanceMethod ({ cls := "RatePlansModel", name := "left", desc := "(I)I" } : Jvm.MethodName) ∈ zG := zG_of (i := 768) rfl (by decide +kernel)
set_option maxRecDepth 100000 in
theorem zw_715 : Cond.selects "RatePlansModel" ({ cls := "RatePlansModel", name := "left", desc := "(I)I" } : Jvm.MethodName) ({ cls := "RatePlansModel", name := "left", desc := "(I)I" } : Jvm.MethodName) ∈ zG := zG_of (i := 769) rfl (by decide +kernel)
set_option maxRecDepth 100000 in
theorem zw_716 : Cond.code ({ cls := "RatePlansModel", name := "left", desc := "(I)I" } : Jvm.MethodName) prog_7_method_21_code (2 : Nat) (Option.some Jvm.ClassFile.FieldType.int) ∈ zG := zG_of (i := 770) rfl (by decide +kernel)
set_option maxRecDepth 100000 in
theorem zw_717 : Cond.methodLink "RatePlansLaw" (69 : Nat) ({ cls := "RatePlansModel", name := "peak", desc := "(I)I" } : Jvm.MethodName) ∈ zG := zG_of (i := 771) rfl (by decide +kernel)
set_option maxRecDepth 100000 in
theorem zw_718 : Cond.instanceMethod ({ cls := "RatePlansModel", name := "peak", desc := "(I)I" } : Jvm.MethodName) ∈ zG := zG_of (i := 772) rfl (by decide +kernel)
set_option maxRecDepth 100000 in
theorem zw_719 : Cond.selects "RatePlansModel" ({ cls := "RatePlansModel", name := "peak", desc := "(I)I" } : Jvm.MethodName) ({ cls := "RatePlansModel", name := "peak", desc := "(I)I" } : Jvm.MethodName) ∈ zG := zG_of (i := 773) rfl (by decide +kernel)
set_option maxRecDepth 100000 in
theorem zw_720 : Cond.code ({ cls := "RatePlansModel", name := "peak", desc := "(I)I" } : Jvm.MethodName) prog_7_method_22_code (2 : Nat) (Option.some Jvm.ClassFile.FieldType.int) ∈ zG := zG_of (i := 774) rfl (by decide +kernel)
set_option maxRecDepth 100000 in
theorem zw_721 : Cond.methodLink "RatePlansLaw" (73 : Nat) ({ cls := "RatePlansModel", name := "pace", desc := "(II)I" } : Jvm.MethodName) ∈ zG := zG_of (i := 775) rfl (by decide +kernel)
set_option maxRecDepth 100000 in
theorem zw_722 : Cond.instanceMethod ({ cls := "RatePlansModel", name := "pace", desc := "(II)I" } : Jvm.MethodName) ∈ zG := zG_of (i := 776) rfl (by decide +kernel)
set_option maxRecDepth 100000 in
theorem zw_723 : Cond.selects "RatePlansModel" ({ cls := "RatePlansModel", name := "pace", desc := "(II)I" } : Jvm.MethodName) ({ cls := "RatePlansModel", name := "pace", desc := "(II)I" } : Jvm.MethodName) ∈ zG := zG_of (i := 777) rfl (by decide +kernel)
set_option maxRecDepth 100000 in
theorem zw_724 : Cond.code ({ cls := "RatePlansModel", name := "pace", desc := "(II)I" } : Jvm.MethodName) prog_7_method_29_code (5 : Nat) (Option.some Jvm.ClassFile.FieldType.int) ∈ zG := zG_of (i := 778) rfl (by decide +kernel)
set_option maxRecDepth 100000 in
theorem zw_725 : Cond.methodLink "RatePlansModel" (178 : Nat) ({ cls := "RatePlansModel", name := "comesToAll", desc := "(IZ)Z" } : Jvm.MethodName) ∈ zG := zG_of (i := 779) rfl (by decide +kernel)
set_option maxRecDepth 100000 in
theorem zw_727 : Cond.instanceMethod ({ cls := "RatePlansModel", name := "comesToAll", desc := "(IZ)Z" } : Jvm.MethodName) ∈ zG := zG_of (i := 781) rfl (by decide +kernel)
set_option maxRecDepth 100000 in
theorem zw_728 : Cond.code ({ cls := "RatePlansModel", name := "comesToAll", desc := "(IZ)Z" } : Jvm.MethodName) prog_7_method_23_code (7 : Nat) (Option.some Jvm.ClassFile.FieldType.boolean) ∈ zG := zG_of (i := 782) rfl (by decide +kernel)
set_option maxRecDepth 100000 in
theorem zw_729 : Cond.methodLink "RatePlansModel" (182 : Nat) ({ cls := "RatePlansModel", name := "findPace", desc := "(I)V" } : Jvm.MethodName) ∈ zG := zG_of (i := 783) rfl (by decide +kernel)
set_option maxRecDepth 100000 in
theorem zw_731 : Cond.instanceMethod ({ cls := "RatePlansModel", name := "findPace", desc := "(I)V" } : Jvm.MethodName) ∈ zG := zG_of (i := 785) rfl (by decide +kernel)
set_option maxRecDepth 100000 in
theorem zw_732 : Cond.code ({ cls := "RatePlansModel", name := "findPace", desc := "(I)V" } : Jvm.MethodName) prog_7_method_28_code (8 : Nat) (Option.none : Option Jvm.ClassFile.FieldType) ∈ zG := zG_of (i := 786) rfl (by decide +kernel)
set_option maxRecDepth 100000 in
theorem zw_733 : Cond.methodLink "RatePlansModel" (162 : Nat) ({ cls := "RatePlansModel", name := "build", desc := "(I)V" } : Jvm.MethodName) ∈ zG := zG_of (i := 787) rfl (by decide +kernel)
set_option maxRecDepth 100000 in
theorem zw_735 : Cond.instanceMethod ({ cls := "RatePlansModel", name := "build", desc := "(I)V" } : Jvm.MethodName) ∈ zG := zG_of (i := 789) rfl (by decide +kernel)
set_option maxRecDepth 100000 in
theorem zw_736 : Cond.code ({ cls := "RatePlansModel", name := "build", desc := "(I)V" } : Jvm.MethodName) prog_7_method_26_code (7 : Nat) (Option.none : Option Jvm.ClassFile.FieldType) ∈ zG := zG_of (i := 790) rfl (by decide +kernel)
set_option maxRecDepth 100000 in
theorem zw_737 : Cond.methodLink "RatePlansModel" (154 : Nat) ({ cls := "RatePlansModel", name := "edge", desc := "(IIII)V" } : Jvm.MethodName) ∈ zG := zG_of (i := 791) rfl (by decide +kernel)
set_option maxRecDepth 100000 in
theorem zw_739 : Cond.instanceMethod ({ cls := "RatePlansModel", name := "edge", desc := "(IIII)V" } : Jvm.MethodName) ∈ zG := zG_of (i := 793) rfl (by decide +kernel)
set_option maxRecDepth 100000 in
theorem zw_740 : Cond.code ({ cls := "RatePlansModel", name := "edge", desc := "(IIII)V" } : Jvm.MethodName) prog_7_method_24_code (5 : Nat) (Option.none : Option Jvm.ClassFile.FieldType) ∈ zG := zG_of (i := 794) rfl (by decide +kernel)
set_option maxRecDepth 100000 in
theorem zw_741 : Cond.methodLink "RatePlansModel" (158 : Nat) ({ cls := "RatePlansModel", name := "down", desc := "(II)I" } : Jvm.MethodName) ∈ zG := zG_of (i := 795) rfl (by decide +kernel)
set_option maxRecDepth 100000 in
theorem zw_742 : Cond.static ({ cls := "RatePlansModel", name := "down", desc := "(II)I" } : Jvm.MethodName) ∈ zG := zG_of (i := 796) rfl (by decide +kernel)
set_option maxRecDepth 100000 in
theorem zw_743 : Cond.code ({ cls := "RatePlansModel", name := "down", desc := "(II)I" } : Jvm.MethodName) prog_7_method_25_code (2 : Nat) (Option.some Jvm.ClassFile.FieldType.int) ∈ zG := zG_of (i := 797) rfl (by decide +kernel)
set_option maxRecDepth 100000 in
theorem zw_744 : Cond.constantLong "RatePlansModel" (166 : Nat) (6710886400 : Int64) ∈ zG := zG_of (i := 798) rfl (by decide +kernel)
set_option maxRecDepth 100000 in
theorem zw_745 : Cond.methodLink "RatePlansModel" (168 : Nat) ({ cls := "RatePlansModel", name := "isSlower", desc := "(J)Z" } : Jvm.MethodName) ∈ zG := zG_of (i := 799) rfl (by decide +kernel)
set_option maxRecDepth 100000 in
theorem zw_747 : Cond.instanceMethod ({ cls := "RatePlansModel", name := "isSlower", desc := "(J)Z" } : Jvm.MethodName) ∈ zG := zG_of (i := 801) rfl (by decide +kernel)
set_option maxRecDepth 100000 in
theorem zw_748 : Cond.code ({ cls := "RatePlansModel", name := "isSlower", desc := "(J)Z" } : Jvm.MethodName) prog_7_method_27_code (8 : Nat) (Option.some Jvm.ClassFile.FieldType.boolean) ∈ zG := zG_of (i := 802) rfl (by decide +kernel)
set_option maxRecDepth 100000 in
theorem zw_749 : Cond.methodLink "RatePlansLaw" (77 : Nat) ({ cls := "RatePlansModel", name := "room", desc := "()I" } : Jvm.MethodName) ∈ zG := zG_of (i := 803) rfl (by decide +kernel)
set_option maxRecDepth 100000 in
theorem zw_750 : Cond.instanceMethod ({ cls := "RatePlansModel", name := "room", desc := "()I" } : Jvm.MethodName) ∈ zG := zG_of (i := 804) rfl (by decide +kernel)
set_option maxRecDepth 100000 in
theorem zw_751 : Cond.selects "RatePlansModel" ({ cls := "RatePlansModel", name := "room", desc := "()I" } : Jvm.MethodName) ({ cls := "RatePlansModel", name := "room", desc := "()I" } : Jvm.MethodName) ∈ zG := zG_of (i := 805) rfl (by decide +kernel)
set_option maxRecDepth 100000 in
theorem zw_752 : Cond.code ({ cls := "RatePlansModel", name := "room", desc := "()I" } : Jvm.MethodName) prog_7_method_32_code (7 : Nat) (Option.some Jvm.ClassFile.FieldType.int) ∈ zG := zG_of (i := 806) rfl (by decide +kernel)
set_option maxRecDepth 100000 in
theorem zw_753 : Cond.methodLink "RatePlansModel" (185 : Nat) ({ cls := "RatePlansModel", name := "isChain", desc := "()Z" } : Jvm.MethodName) ∈ zG := zG_of (i := 807) rfl (by decide +kernel)
set_option maxRecDepth 100000 in
theorem zw_755 : Cond.instanceMethod ({ cls := "RatePlansModel", name := "isChain", desc := "()Z" } : Jvm.MethodName) ∈ zG := zG_of (i := 809) rfl (by decide +kernel)
set_option maxRecDepth 100000 in
theorem zw_756 : Cond.code ({ cls := "RatePlansModel", name := "isChain", desc := "()Z" } : Jvm.MethodName) prog_7_method_30_code (2 : Nat) (Option.some Jvm.ClassFile.FieldType.boolean) ∈ zG := zG_of (i := 810) rfl (by decide +kernel)
set_option maxRecDepth 100000 in
theorem zw_757 : Cond.methodLink "RatePlansModel" (188 : Nat) ({ cls := "RatePlansModel", name := "divisorOf", desc := "(II)I" } : Jvm.MethodName) ∈ zG := zG_of (i := 811) rfl (by decide +kernel)
set_option maxRecDepth 100000 in
theorem zw_759 : Cond.instanceMethod ({ cls := "RatePlansModel", name := "divisorOf", desc := "(II)I" } : Jvm.MethodName) ∈ zG := zG_of (i := 813) rfl (by decide +kernel)
set_option maxRecDepth 100000 in
theorem zw_760 : Cond.code ({ cls := "RatePlansModel", name := "divisorOf", desc := "(II)I" } : Jvm.MethodName) prog_7_method_31_code (6 : Nat) (Option.some Jvm.ClassFile.FieldType.int) ∈ zG := zG_of (i := 814) rfl (by decide +kernel)
set_option maxRecDepth 100000 in
theorem zw_761 : Cond.methodLink "RatePlansLaw" (81 : Nat) ({ cls := "RatePlansModel", name := "total", desc := "(I)I" } : Jvm.MethodName) ∈ zG := zG_of (i := 815) rfl (by decide +kernel)
set_option maxRecDepth 100000 in
theorem zw_762 : Cond.instanceMethod ({ cls := "RatePlansModel", name := "total", desc := "(I)I" } : Jvm.MethodName) ∈ zG := zG_of (i := 816) rfl (by decide +kernel)
set_option maxRecDepth 100000 in
theorem zw_763 : Cond.selects "RatePlansModel" ({ cls := "RatePlansModel", name := "total", desc := "(I)I" } : Jvm.MethodName) ({ cls := "RatePlansModel", name := "total", desc := "(I)I" } : Jvm.MethodName) ∈ zG := zG_of (i := 817) rfl (by decide +kernel)
set_option maxRecDepth 100000 in
theorem zw_764 : Cond.code ({ cls := "RatePlansModel", name := "total", desc := "(I)I" } : Jvm.MethodName) prog_7_method_33_code (2 : Nat) (Option.some Jvm.ClassFile.FieldType.int) ∈ zG := zG_of (i := 818) rfl (by decide +kernel)
set_option maxRecDepth 100000 in
theorem zi_C : ∀ w ∈ u_ws zR_C zT_C 4, w ∈ zG := by decide +kernel
set_option maxRecDepth 100000 in
theorem zi_N : ∀ w ∈ u_ws zR_N zT_N 11, w ∈ zG := by decide +kernel
set_option maxRecDepth 100000 in
theorem zi_U : ∀ w ∈ u_ws zR_U zT_U 6, w ∈ zG := by decide +kernel
set_option maxRecDepth 100000 in
theorem zi_P : ∀ w ∈ u_ws zR_P zT_P 13, w ∈ zG := by decide +kernel
set_option maxRecDepth 100000 in
theorem zi_M : ∀ w ∈ u_ws zR_M zT_M 1, w ∈ zG := by decide +kernel
set_option maxRecDepth 100000 in
theorem zi_X : ∀ w ∈ u_ws zR_X zT_X 34, w ∈ zG := by decide +kernel
end
section
/-! Ints as numbers: iI z is the int of the number z; all values of the walks are kept in this form -/
def iI (z : Int) : Int32 := Int32.ofInt z
abbrev ib (z : Int) : Prop := -2147483648 ≤ z ∧ z ≤ 2147483647
theorem iI_add (a b : Int) : iI a + iI b = iI (a + b) := (Int32.ofInt_add a b).symm
theorem iI_sub (a b : Int) : iI a - iI b = iI (a - b) := (Int32.ofInt_sub a b).symm
theorem iI_mul (a b : Int) : iI a * iI b = iI (a * b) := (Int32.ofInt_mul a b).symm
theorem iI_neg (a : Int) : -iI a = iI (-a) := (Int32.ofInt_neg a).symm
theorem iI_toInt {z : Int} (h : ib z) : (iI z).toInt = z := Int32.toInt_ofInt_of_le (by have := h.1; omega) (by have := h.2; omega)
theorem iI_of (x : Int32) : x = iI x.toInt := (Int32.ofInt_toInt x).symm
theorem ib_of (x : Int32) : ib x.toInt := ⟨by have := x.le_toInt; omega, by have := x.toInt_lt; omega⟩
theorem iI_lt {a b : Int} (ha : ib a) (hb : ib b) : iI a < iI b ↔ a < b := by rw [Int32.lt_iff_toInt_lt, iI_toInt ha, iI_toInt hb]
theorem iI_le {a b : Int} (ha : ib a) (hb : ib b) : iI a ≤ iI b ↔ a ≤ b := by rw [Int32.le_iff_toInt_le, iI_toInt ha, iI_toInt hb]
theorem iI_eq {a b : Int} (ha : ib a) (hb : ib b) : iI a = iI b ↔ a = b := by rw [← Int32.toInt_inj, iI_toInt ha, iI_toInt hb]
theorem iI_0 : iI 0 = 0 := rfl
theorem ib_0 : ib 0 := ⟨by decide, by decide⟩
theorem iI_max : Int32.maxValue.toInt = 2147483647 := by decide
theorem iI_min : Int32.minValue.toInt = -2147483648 := by decide
theorem iI_div {a b : Int} (ha : ib a) (hb : ib b) : iI a / iI b = iI (a.tdiv b) := (Int32.ofInt_tdiv (by rw [iI_min]; exact ha.1) (by rw [iI_max]; exact ha.2) (by rw [iI_min]; exact hb.1) (by rw [iI_max]; exact hb.2)).symm
theorem iI_rem {a b : Int} (ha : ib a) (hb : ib b) : iI a - iI a / iI b * iI b = iI (a.tmod b) := by
  rw [iI_div ha hb, iI_mul, iI_sub, Int.tmod_def, Int.mul_comm b]
theorem iI_clamp {i : Int} (h0 : 0 ≤ i) (h1 : i ≤ 2147483647) : (iI i).toNatClampNeg = i.toNat := Int32.toNatClampNeg_ofInt_of_le (by omega) (by omega)
theorem iI_in {i : Int} {n : Nat} (h0 : 0 ≤ i) (h1 : i < (n : Int)) (hn : n < 2147483648) : vp_in (iI i) n := by
  rw [vp_in_iff, iI_toInt ⟨by omega, by omega⟩]
  exact ⟨h0, h1⟩
/-- the ints of an array of numbers -/
def aI (f : Int → Int) : Nat → Int32 := fun j => iI (f (j : Int))
def upI (f : Int → Int) (k x : Int) : Int → Int := fun j => if j = k then x else f j
theorem upI_s {f : Int → Int} {k x : Int} : upI f k x k = x := by simp [upI]
theorem upI_n {f : Int → Int} {k x j : Int} (h : j ≠ k) : upI f k x j = f j := by simp [upI, h]
theorem aI_upd {f : Int → Int} {i x : Int} (h0 : 0 ≤ i) (h1 : i ≤ 2147483647) : upd (aI f) (iI i).toNatClampNeg (iI x) = aI (upI f i x) := by
  funext j
  simp only [upd, aI, upI, iI_clamp h0 h1]
  by_cases h : j = i.toNat
  · rw [if_pos h, if_pos (by omega)]
  · rw [if_neg h, if_neg (by omega)]
theorem aI_at {f : Int → Int} {i : Int} (h0 : 0 ≤ i) (h1 : i ≤ 2147483647) : aI f (iI i).toNatClampNeg = iI (f i) := by
  simp only [aI, iI_clamp h0 h1]
  rw [show ((i.toNat : Nat) : Int) = i by omega]
def lI (z : Int) : Int64 := Int64.ofInt z
def aL (f : Int → Int) : Nat → Int64 := fun j => lI (f (j : Int))
/-- numbers by their places, and arrays of numbers by theirs -/
def fuP (F : Nat → Int) (k : Nat) (x : Int) : Nat → Int := fun j => if j = k then x else F j
def auP (A : Nat → Int → Int) (k : Nat) (i x : Int) : Nat → Int → Int := fun j => if j = k then upI (A k) i x else A j
section XW
variable {p : Program} {l : Launch} {e : Env} {R : Room} {s : State} {m : MethodId} {args : Array Value} {below : List Frame} {meth : Method} {c : Code} {H : Heap} {locs : List Loc} {cells slots : Nat} {Q : State → Prop}
variable {cc : ByteArray} {pc : Nat} {ls : Array Slot} {rest : List Value}
theorem x_iadd (hexec : p.tables.exec = Jvm.exec) (hb : c.code = cc) {x y : Int} (hdg : decode cc pc = .ok (.iadd, 1)) (k : W p l e R s m args below meth c H locs cells slots Q (F0 m (pc + 1) ls (.int (iI (x + y)) :: rest))) : W p l e R s m args below meth c H locs cells slots Q (F0 m pc ls (.int (iI y) :: .int (iI x) :: rest)) :=
  lv_iadd hexec hb hdg (by rw [iI_add]; exact k)
theorem x_isub (hexec : p.tables.exec = Jvm.exec) (hb : c.code = cc) {x y : Int} (hdg : decode cc pc = .ok (.isub, 1)) (k : W p l e R s m args below meth c H locs cells slots Q (F0 m (pc + 1) ls (.int (iI (x - y)) :: rest))) : W p l e R s m args below meth c H locs cells slots Q (F0 m pc ls (.int (iI y) :: .int (iI x) :: rest)) :=
  lv_isub hexec hb hdg (by rw [iI_sub]; exact k)
theorem x_imul (hexec : p.tables.exec = Jvm.exec) (hb : c.code = cc) {x y : Int} (hdg : decode cc pc = .ok (.imul, 1)) (k : W p l e R s m args below meth c H locs cells slots Q (F0 m (pc + 1) ls (.int (iI (x * y)) :: rest))) : W p l e R s m args below meth c H locs cells slots Q (F0 m pc ls (.int (iI y) :: .int (iI x) :: rest)) :=
  lv_imul hexec hb hdg (by rw [iI_mul]; exact k)
theorem x_ineg (hexec : p.tables.exec = Jvm.exec) (hb : c.code = cc) {x : Int} (hdg : decode cc pc = .ok (.ineg, 1)) (k : W p l e R s m args below meth c H locs cells slots Q (F0 m (pc + 1) ls (.int (iI (-x)) :: rest))) : W p l e R s m args below meth c H locs cells slots Q (F0 m pc ls (.int (iI x) :: rest)) :=
  lv_ineg hexec hb hdg (by rw [iI_neg]; exact k)
theorem x_idiv (hexec : p.tables.exec = Jvm.exec) (hb : c.code = cc) {x y : Int} (hdg : decode cc pc = .ok (.idiv, 1)) (hx : ib x) (hy : ib y) (h0 : ¬ y = 0) (k : W p l e R s m args below meth c H locs cells slots Q (F0 m (pc + 1) ls (.int (iI (x.tdiv y)) :: rest))) : W p l e R s m args below meth c H locs cells slots Q (F0 m pc ls (.int (iI y) :: .int (iI x) :: rest)) :=
  lv_idiv hexec hb hdg (fun h => h0 ((iI_eq hy ib_0).mp h)) (by rw [iI_div hx hy]; exact k)
theorem x_irem (hexec : p.tables.exec = Jvm.exec) (hb : c.code = cc) {x y : Int} (hdg : decode cc pc = .ok (.irem, 1)) (hx : ib x) (hy : ib y) (h0 : ¬ y = 0) (k : W p l e R s m args below meth c H locs cells slots Q (F0 m (pc + 1) ls (.int (iI (x.tmod y)) :: rest))) : W p l e R s m args below meth c H locs cells slots Q (F0 m pc ls (.int (iI y) :: .int (iI x) :: rest)) :=
  lv_irem hexec hb hdg (fun h => h0 ((iI_eq hy ib_0).mp h)) (by rw [iI_rem hx hy]; exact k)
theorem x_icmp_eq (hexec : p.tables.exec = Jvm.exec) (hb : c.code = cc) {x y : Int} {off : Int} {tgt : Nat} (hdg : decode cc pc = .ok (.if_icmp .eq off, 3)) (ht : (pc : Int) + off = (tgt : Int)) (hx : ib x) (hy : ib y) (kt : x = y → W p l e R s m args below meth c H locs cells slots Q (F0 m tgt ls rest)) (kf : ¬ x = y → W p l e R s m args below meth c H locs cells slots Q (F0 m (pc + 3) ls rest)) : W p l e R s m args below meth c H locs cells slots Q (F0 m pc ls (.int (iI y) :: .int (iI x) :: rest)) :=
  lv_icmp_eq hexec hb hdg ht (fun h => kt ((iI_eq hx hy).mp h)) (fun h => kf (fun z => h ((iI_eq hx hy).mpr z)))
theorem x_icmp_ne (hexec : p.tables.exec = Jvm.exec) (hb : c.code = cc) {x y : Int} {off : Int} {tgt : Nat} (hdg : decode cc pc = .ok (.if_icmp .ne off, 3)) (ht : (pc : Int) + off = (tgt : Int)) (hx : ib x) (hy : ib y) (kt : ¬ x = y → W p l e R s m args below meth c H locs cells slots Q (F0 m tgt ls rest)) (kf : x = y → W p l e R s m args below meth c H locs cells slots Q (F0 m (pc + 3) ls rest)) : W p l e R s m args below meth c H locs cells slots Q (F0 m pc ls (.int (iI y) :: .int (iI x) :: rest)) :=
  lv_icmp_ne hexec hb hdg ht (fun h => kt (fun z => h ((iI_eq hx hy).mpr z))) (fun h => kf ((iI_eq hx hy).mp h))
theorem x_icmp_lt (hexec : p.tables.exec = Jvm.exec) (hb : c.code = cc) {x y : Int} {off : Int} {tgt : Nat} (hdg : decode cc pc = .ok (.if_icmp .lt off, 3)) (ht : (pc : Int) + off = (tgt : Int)) (hx : ib x) (hy : ib y) (kt : x < y → W p l e R s m args below meth c H locs cells slots Q (F0 m tgt ls rest)) (kf : ¬ x < y → W p l e R s m args below meth c H locs cells slots Q (F0 m (pc + 3) ls rest)) : W p l e R s m args below meth c H locs cells slots Q (F0 m pc ls (.int (iI y) :: .int (iI x) :: rest)) :=
  lv_icmp_lt hexec hb hdg ht (fun h => kt ((iI_lt hx hy).mp h)) (fun h => kf (fun z => h ((iI_lt hx hy).mpr z)))
theorem x_icmp_ge (hexec : p.tables.exec = Jvm.exec) (hb : c.code = cc) {x y : Int} {off : Int} {tgt : Nat} (hdg : decode cc pc = .ok (.if_icmp .ge off, 3)) (ht : (pc : Int) + off = (tgt : Int)) (hx : ib x) (hy : ib y) (kt : y ≤ x → W p l e R s m args below meth c H locs cells slots Q (F0 m tgt ls rest)) (kf : ¬ y ≤ x → W p l e R s m args below meth c H locs cells slots Q (F0 m (pc + 3) ls rest)) : W p l e R s m args below meth c H locs cells slots Q (F0 m pc ls (.int (iI y) :: .int (iI x) :: rest)) :=
  lv_icmp_ge hexec hb hdg ht (fun h => kt ((iI_le hy hx).mp h)) (fun h => kf (fun z => h ((iI_le hy hx).mpr z)))
theorem x_icmp_gt (hexec : p.tables.exec = Jvm.exec) (hb : c.code = cc) {x y : Int} {off : Int} {tgt : Nat} (hdg : decode cc pc = .ok (.if_icmp .gt off, 3)) (ht : (pc : Int) + off = (tgt : Int)) (hx : ib x) (hy : ib y) (kt : y < x → W p l e R s m args below meth c H locs cells slots Q (F0 m tgt ls rest)) (kf : ¬ y < x → W p l e R s m args below meth c H locs cells slots Q (F0 m (pc + 3) ls rest)) : W p l e R s m args below meth c H locs cells slots Q (F0 m pc ls (.int (iI y) :: .int (iI x) :: rest)) :=
  lv_icmp_gt hexec hb hdg ht (fun h => kt ((iI_lt hy hx).mp h)) (fun h => kf (fun z => h ((iI_lt hy hx).mpr z)))
theorem x_icmp_le (hexec : p.tables.exec = Jvm.exec) (hb : c.code = cc) {x y : Int} {off : Int} {tgt : Nat} (hdg : decode cc pc = .ok (.if_icmp .le off, 3)) (ht : (pc : Int) + off = (tgt : Int)) (hx : ib x) (hy : ib y) (kt : x ≤ y → W p l e R s m args below meth c H locs cells slots Q (F0 m tgt ls rest)) (kf : ¬ x ≤ y → W p l e R s m args below meth c H locs cells slots Q (F0 m (pc + 3) ls rest)) : W p l e R s m args below meth c H locs cells slots Q (F0 m pc ls (.int (iI y) :: .int (iI x) :: rest)) :=
  lv_icmp_le hexec hb hdg ht (fun h => kt ((iI_le hx hy).mp h)) (fun h => kf (fun z => h ((iI_le hx hy).mpr z)))
theorem x_if_eq (hexec : p.tables.exec = Jvm.exec) (hb : c.code = cc) {x : Int} {off : Int} {tgt : Nat} (hdg : decode cc pc = .ok (.ifCond .eq off, 3)) (ht : (pc : Int) + off = (tgt : Int)) (hx : ib x) (kt : x = 0 → W p l e R s m args below meth c H locs cells slots Q (F0 m tgt ls rest)) (kf : ¬ x = 0 → W p l e R s m args below meth c H locs cells slots Q (F0 m (pc + 3) ls rest)) : W p l e R s m args below meth c H locs cells slots Q (F0 m pc ls (.int (iI x) :: rest)) :=
  lv_if_eq hexec hb hdg ht (fun h => kt ((iI_eq hx ib_0).mp h)) (fun h => kf (fun z => h ((iI_eq hx ib_0).mpr z)))
theorem x_if_ne (hexec : p.tables.exec = Jvm.exec) (hb : c.code = cc) {x : Int} {off : Int} {tgt : Nat} (hdg : decode cc pc = .ok (.ifCond .ne off, 3)) (ht : (pc : Int) + off = (tgt : Int)) (hx : ib x) (kt : ¬ x = 0 → W p l e R s m args below meth c H locs cells slots Q (F0 m tgt ls rest)) (kf : x = 0 → W p l e R s m args below meth c H locs cells slots Q (F0 m (pc + 3) ls rest)) : W p l e R s m args below meth c H locs cells slots Q (F0 m pc ls (.int (iI x) :: rest)) :=
  lv_if_ne hexec hb hdg ht (fun h => kt (fun z => h ((iI_eq hx ib_0).mpr z))) (fun h => kf ((iI_eq hx ib_0).mp h))
theorem x_if_lt (hexec : p.tables.exec = Jvm.exec) (hb : c.code = cc) {x : Int} {off : Int} {tgt : Nat} (hdg : decode cc pc = .ok (.ifCond .lt off, 3)) (ht : (pc : Int) + off = (tgt : Int)) (hx : ib x) (kt : x < 0 → W p l e R s m args below meth c H locs cells slots Q (F0 m tgt ls rest)) (kf : ¬ x < 0 → W p l e R s m args below meth c H locs cells slots Q (F0 m (pc + 3) ls rest)) : W p l e R s m args below meth c H locs cells slots Q (F0 m pc ls (.int (iI x) :: rest)) :=
  lv_if_lt hexec hb hdg ht (fun h => kt ((iI_lt hx ib_0).mp h)) (fun h => kf (fun z => h ((iI_lt hx ib_0).mpr z)))
theorem x_if_ge (hexec : p.tables.exec = Jvm.exec) (hb : c.code = cc) {x : Int} {off : Int} {tgt : Nat} (hdg : decode cc pc = .ok (.ifCond .ge off, 3)) (ht : (pc : Int) + off = (tgt : Int)) (hx : ib x) (kt : 0 ≤ x → W p l e R s m args below meth c H locs cells slots Q (F0 m tgt ls rest)) (kf : ¬ 0 ≤ x → W p l e R s m args below meth c H locs cells slots Q (F0 m (pc + 3) ls rest)) : W p l e R s m args below meth c H locs cells slots Q (F0 m pc ls (.int (iI x) :: rest)) :=
  lv_if_ge hexec hb hdg ht (fun h => kt ((iI_le ib_0 hx).mp h)) (fun h => kf (fun z => h ((iI_le ib_0 hx).mpr z)))
theorem x_if_gt (hexec : p.tables.exec = Jvm.exec) (hb : c.code = cc) {x : Int} {off : Int} {tgt : Nat} (hdg : decode cc pc = .ok (.ifCond .gt off, 3)) (ht : (pc : Int) + off = (tgt : Int)) (hx : ib x) (kt : 0 < x → W p l e R s m args below meth c H locs cells slots Q (F0 m tgt ls rest)) (kf : ¬ 0 < x → W p l e R s m args below meth c H locs cells slots Q (F0 m (pc + 3) ls rest)) : W p l e R s m args below meth c H locs cells slots Q (F0 m pc ls (.int (iI x) :: rest)) :=
  lv_if_gt hexec hb hdg ht (fun h => kt ((iI_lt ib_0 hx).mp h)) (fun h => kf (fun z => h ((iI_lt ib_0 hx).mpr z)))
theorem x_if_le (hexec : p.tables.exec = Jvm.exec) (hb : c.code = cc) {x : Int} {off : Int} {tgt : Nat} (hdg : decode cc pc = .ok (.ifCond .le off, 3)) (ht : (pc : Int) + off = (tgt : Int)) (hx : ib x) (kt : x ≤ 0 → W p l e R s m args below meth c H locs cells slots Q (F0 m tgt ls rest)) (kf : ¬ x ≤ 0 → W p l e R s m args below meth c H locs cells slots Q (F0 m (pc + 3) ls rest)) : W p l e R s m args below meth c H locs cells slots Q (F0 m pc ls (.int (iI x) :: rest)) :=
  lv_if_le hexec hb hdg ht (fun h => kt ((iI_le hx ib_0).mp h)) (fun h => kf (fun z => h ((iI_le hx ib_0).mpr z)))
variable {D : va_G} {cl : List vw_C} {A : Nat → Prop} {a : Nat} {tys : List (ClassId × FieldType)} {ws : va_W} {H0 : Heap}
theorem x_iald (hexec : p.tables.exec = Jvm.exec) (hb : c.code = cc) (hK : va_K D cl tys s) (hP : va_P D cl ws H) (q0 t0 : Nat) {cA : ClassId} {n : Nat} {f : Int → Int} (ha : ws[q0]? = some (a, .inl (cA, n, .inl (aI f)))) (ht : tys[t0]? = some (cA, .int)) {i v : Int} (hn : n < 2147483648) (h0 : 0 ≤ i) (h1 : i < (n : Int)) (hv : f i = v) (hdg : decode cc pc = .ok (.iaload, 1)) (kk : W p l e R s m args below meth c H locs cells slots Q (F0 m (pc + 1) ls (.int (iI v) :: rest))) : W p l e R s m args below meth c H locs cells slots Q (F0 m pc ls (.int (iI i) :: .ref a :: rest)) :=
  va_iald hexec hb hK hP q0 t0 ha ht (iI_in h0 h1 hn) hdg (by rw [aI_at h0 (by omega), hv]; exact kk)
theorem x_iast (hexec : p.tables.exec = Jvm.exec) (hb : c.code = cc) (hK : va_K D cl tys s) (hP : va_P D cl ws H) (hD : va_D A ws) (hS : va_S A H0 H locs) (q0 t0 : Nat) {cA : ClassId} {n : Nat} {f : Int → Int} (ha : ws[q0]? = some (a, .inl (cA, n, .inl (aI f)))) (ht : tys[t0]? = some (cA, .int)) {i x : Int} (hn : n < 2147483648) (h0 : 0 ≤ i) (h1 : i < (n : Int)) (hdg : decode cc pc = .ok (.iastore, 1)) (kk : ∀ (H1 : Heap) (locs1 : List Loc), va_P D cl (ws.set q0 (a, .inl (cA, n, .inl (aI (upI f i x))))) H1 → va_D A (ws.set q0 (a, .inl (cA, n, .inl (aI (upI f i x))))) → va_S A H0 H1 locs1 → W p l e R s m args below meth c H1 locs1 cells slots Q (F0 m (pc + 1) ls rest)) : W p l e R s m args below meth c H locs cells slots Q (F0 m pc ls (.int (iI x) :: .int (iI i) :: .ref a :: rest)) :=
  va_iast hexec hb hK hP hD hS q0 t0 ha ht (iI_in h0 h1 hn) hdg (by rw [aI_upd h0 (by omega)]; exact kk)
end XW
/-- a call on the whole world: what the callee leaves is the world -/
theorem x_free {ws : va_W} {A0 : Nat → Prop} {H0 H : Heap} {locs : List Loc} (hD : va_D A0 ws) (hS : va_S A0 H0 H locs) (hA : ∀ q, H0.size ≤ q → A0 q) : ∀ q, va_A ws H.size q → A0 q := by
  intro q h
  rcases h with ⟨k, e, h⟩ | h
  · exact hD.2 k (q, e) h
  · exact hA q (Nat.le_trans hS.1 h)
section XC
variable {p : Program} {l : Launch} {e : Env} {R : Room} {s : State} {m : MethodId} {args : Array Value} {below : List Frame} {meth : Method} {c : Code} {H : Heap} {locs : List Loc} {cells slots : Nat} {Q : State → Prop}
variable {pc : Nat} {ls : Array Slot} {rest st0 : List Value} {a : Array Value} {A0 : Nat → Prop} {H0 : Heap} {mc ms : Nat} {D : va_G} {cl : List vw_C} {ws : va_W}
theorem x_calli {S : Type} {post : Int32 → S → Prop} {gwf : S → va_W} (hr : va_Run p l e R s m args below meth c H locs cells slots mc ms (F0 m pc ls st0) rest (va_Qi post (fun u t => va_P D cl (gwf u) t.heap ∧ va_D (va_A ws H.size) (gwf u)) (va_A ws H.size) a) (va_A ws H.size)) (hD : va_D A0 ws) (hS : va_S A0 H0 H locs) (hA : ∀ q, H0.size ≤ q → A0 q)
    (kk : ∀ (r : Int32) (u : S) (H1 : Heap) (locs1 : List Loc), post r u → va_P D cl (gwf u) H1 → va_D A0 (gwf u) → va_S A0 H0 H1 locs1 → W p l e R s m args below meth c H1 locs1 (cells + mc) (slots + ms) Q (F0 m (pc + 3) ls (.int r :: rest))) : W p l e R s m args below meth c H locs cells slots Q (F0 m pc ls st0) := by
  have hF := x_free hD hS hA
  refine va_calli hr hS (fun q _ h => hF q h) hF (fun r u t H1 locs1 ht hvm hw hB hz hk hS' => ?_)
  obtain ⟨h1, h3⟩ := hB
  exact kk r u H1 locs1 hw (by rw [← ht]; exact h1) (h3.weaken (fun _ _ _ h => hF _ h)) hS'
theorem x_callv {S : Type} {post : S → Prop} {gwf : S → va_W} (hr : va_Run p l e R s m args below meth c H locs cells slots mc ms (F0 m pc ls st0) rest (va_Qv post (fun u t => va_P D cl (gwf u) t.heap ∧ va_D (va_A ws H.size) (gwf u)) (va_A ws H.size) a) (va_A ws H.size)) (hD : va_D A0 ws) (hS : va_S A0 H0 H locs) (hA : ∀ q, H0.size ≤ q → A0 q)
    (kk : ∀ (u : S) (H1 : Heap) (locs1 : List Loc), post u → va_P D cl (gwf u) H1 → va_D A0 (gwf u) → va_S A0 H0 H1 locs1 → W p l e R s m args below meth c H1 locs1 (cells + mc) (slots + ms) Q (F0 m (pc + 3) ls rest)) : W p l e R s m args below meth c H locs cells slots Q (F0 m pc ls st0) := by
  have hF := x_free hD hS hA
  refine va_callv hr hS (fun q _ h => hF q h) hF (fun u t H1 locs1 ht hvm hw hB hz hk hS' => ?_)
  obtain ⟨h1, h3⟩ := hB
  exact kk u H1 locs1 hw (by rw [← ht]; exact h1) (h3.weaken (fun _ _ _ h => hF _ h)) hS'
end XC
end
section
/-! Pure: iterates of a parent function, weights along them, and what a raise of one label keeps -/
def rx_it (f : Int → Int) : Nat → Int → Int
  | 0, v => v
  | k + 1, v => rx_it f k (f v)
def rx_pw (f : Int → Int) (g : Int → Int) : Nat → Int → Int
  | 0, _ => 0
  | k + 1, v => g v + rx_pw f g k (f v)
theorem rx_it_add (f : Int → Int) : ∀ (a b : Nat) (v : Int), rx_it f (a + b) v = rx_it f b (rx_it f a v)
  | 0, b, v => by simp [rx_it]
  | a + 1, b, v => by
    rw [show a + 1 + b = (a + b) + 1 by omega]
    show rx_it f (a + b) (f v) = rx_it f b (rx_it f a (f v))
    exact rx_it_add f a b (f v)
theorem rx_it_succ (f : Int → Int) (k : Nat) (v : Int) : rx_it f (k + 1) v = f (rx_it f k v) := by
  rw [rx_it_add f k 1 v]; rfl
theorem rx_pw_add (f : Int → Int) (g : Int → Int) : ∀ (a b : Nat) (v : Int), rx_pw f g (a + b) v = rx_pw f g a v + rx_pw f g b (rx_it f a v)
  | 0, b, v => by simp [rx_pw, rx_it]
  | a + 1, b, v => by
    rw [show a + 1 + b = (a + b) + 1 by omega]
    show g v + rx_pw f g (a + b) (f v) = (g v + rx_pw f g a (f v)) + rx_pw f g b (rx_it f a (f v))
    rw [rx_pw_add f g a b (f v)]; omega
/-- labels along a path of parents -/
theorem rx_tele {N : Int → Prop} {x g : Int → Int} {f : Int → Int} {hv : Int → Prop} (h : ∀ y, N y → hv y → N (f y) ∧ x y ≤ x (f y) + g y) :
    ∀ (k : Nat) (y : Int), N y → (∀ i, i < k → hv (rx_it f i y)) → N (rx_it f k y) ∧ x y ≤ x (rx_it f k y) + rx_pw f g k y := by
  intro k
  induction k with
  | zero => intro y hy _; exact ⟨hy, by simp [rx_it, rx_pw]⟩
  | succ k ih =>
    intro y hy hp
    obtain ⟨h1, h2⟩ := h y hy (hp 0 (by omega))
    obtain ⟨h3, h4⟩ := ih (f y) h1 (fun i hi => hp (i + 1) (by omega))
    refine ⟨h3, ?_⟩
    show x y ≤ x (rx_it f k (f y)) + (g y + rx_pw f g k (f y))
    omega
/-- .. and strictly, if a strict edge lies on it -/
theorem rx_tele_s {N : Int → Prop} {x g : Int → Int} {f : Int → Int} {hv : Int → Prop} {s : Int} (h : ∀ y, N y → hv y → N (f y) ∧ x y ≤ x (f y) + g y) (hs : x s < x (f s) + g s) :
    ∀ (k : Nat) (y : Int), N y → (∀ i, i < k → hv (rx_it f i y)) → (∃ i, i < k ∧ rx_it f i y = s) → x y < x (rx_it f k y) + rx_pw f g k y := by
  intro k y hy hp ⟨i, hi, hs2⟩
  obtain ⟨h1, h2⟩ := rx_tele h i y hy (fun j hj => hp j (by omega))
  have h3 := hp i hi
  rw [hs2] at h1 h2 h3
  obtain ⟨h4, -⟩ := h s h1 h3
  have h5 : ∀ j, j < k - i - 1 → hv (rx_it f j (f s)) := by
    intro j hj
    have := hp (i + (1 + j)) (by omega)
    rw [rx_it_add, hs2, rx_it_add] at this
    exact this
  obtain ⟨h6, h7⟩ := rx_tele h (k - i - 1) (f s) h4 h5
  have e1 : rx_it f k y = rx_it f (k - i - 1) (f s) := by
    rw [show k = i + (1 + (k - i - 1)) by omega, rx_it_add, hs2, rx_it_add]
    rw [show i + (1 + (k - i - 1)) - i - 1 = k - i - 1 by omega]; rfl
  have e2 : rx_pw f g k y = rx_pw f g i y + (g s + rx_pw f g (k - i - 1) (f s)) := by
    have : rx_pw f g (i + (1 + (k - i - 1))) y = rx_pw f g i y + (g s + rx_pw f g (k - i - 1) (f s)) := by
      rw [rx_pw_add, hs2, rx_pw_add]
      show _ + (g s + 0 + rx_pw f g (k - i - 1) (f s)) = _
      omega
    rw [← this, show i + (1 + (k - i - 1)) = k by omega]
  rw [e1, e2]
  omega
/-- the parents' graph of labels: each edge holds, each loop is above 0 -/
def rx_ok (N : Int → Prop) (x : Int → Int) (hv : Int → Prop) (f : Int → Int) (g : Int → Int) : Prop :=
  (∀ y, N y → hv y → N (f y) ∧ x y ≤ x (f y) + g y) ∧
  ∀ y, N y → ∀ k : Nat, 1 ≤ k → (∀ i, i < k → hv (rx_it f i y)) → rx_it f k y = y → 0 < rx_pw f g k y
theorem rx_it_cong {f f' : Int → Int} : ∀ (k : Nat) (y : Int), (∀ i, i < k → f' (rx_it f' i y) = f (rx_it f' i y)) → ∀ i, i ≤ k → rx_it f' i y = rx_it f i y := by
  intro k y h i
  induction i with
  | zero => intro _; rfl
  | succ i ih =>
    intro hi
    rw [rx_it_succ, rx_it_succ, h i (by omega), ih (by omega)]
theorem rx_pw_cong {f f' : Int → Int} {g g' : Int → Int} : ∀ (k : Nat) (y : Int), (∀ i, i < k → f' (rx_it f' i y) = f (rx_it f' i y) ∧ g' (rx_it f' i y) = g (rx_it f' i y)) → rx_pw f' g' k y = rx_pw f g k y := by
  intro k
  induction k with
  | zero => intro y _; rfl
  | succ k ih =>
    intro y h
    have h0 := h 0 (by omega)
    have h0' : f' y = f y ∧ g' y = g y := h0
    show g' y + rx_pw f' g' k (f' y) = g y + rx_pw f g k (f y)
    rw [ih (f' y) (fun i hi => h (i + 1) (by omega)), h0'.1, h0'.2]
/-- a raise of the label of v by an edge from u -/
theorem rx_raise {N : Int → Prop} {x g : Int → Int} {hv : Int → Prop} {f : Int → Int} {u v : Int} {w : Int} {x' g' : Int → Int} {hv' : Int → Prop} {f' : Int → Int} (h : rx_ok N x hv f g) (hu : N u) (hlt : x v < x u + w)
    (hx : ∀ y, x' y = if y = v then x u + w else x y) (hh : ∀ y, y ≠ v → hv' y → hv y) (hf : ∀ y, f' y = if y = v then u else f y) (hg : ∀ y, g' y = if y = v then w else g y) : rx_ok N x' hv' f' g' := by
  have old : ∀ y, N y → hv' y → N (f' y) ∧ x y ≤ x (f' y) + g' y := by
    intro y hy hhy
    by_cases e : y = v
    · subst e; rw [hf, hg, if_pos rfl, if_pos rfl]; exact ⟨hu, by omega⟩
    · rw [hf, hg, if_neg e, if_neg e]; exact h.1 y hy (hh y e hhy)
  refine ⟨fun y hy hhy => ?_, fun y hy k hk hp hc => ?_⟩
  · obtain ⟨h1, h2⟩ := old y hy hhy
    refine ⟨h1, ?_⟩
    have mono : ∀ z, x z ≤ x' z := by
      intro z; rw [hx]; split
      · rename_i e; subst e; omega
      · omega
    by_cases e : y = v
    · subst e
      have := mono (f' y)
      rw [hx y, if_pos rfl]
      rw [hf, if_pos rfl] at this ⊢
      rw [hg, if_pos rfl]
      omega
    · rw [hx y, if_neg e]
      have := mono (f' y)
      omega
  · by_cases hon : ∃ i, i < k ∧ rx_it f' i y = v
    · have hs : x v < x (f' v) + g' v := by rw [hf, hg, if_pos rfl, if_pos rfl]; exact hlt
      have := rx_tele_s old hs k y hy hp hon
      rw [hc] at this
      omega
    · have hne : ∀ i, i < k → rx_it f' i y ≠ v := fun i hi e => hon ⟨i, hi, e⟩
      have e1 : ∀ i, i ≤ k → rx_it f' i y = rx_it f i y := rx_it_cong k y (fun i hi => by rw [hf, if_neg (hne i hi)])
      have e2 : rx_pw f' g' k y = rx_pw f g k y := rx_pw_cong k y (fun i hi => ⟨by rw [hf, if_neg (hne i hi)], by rw [hg, if_neg (hne i hi)]⟩)
      rw [e2]
      refine h.2 y hy k hk (fun i hi => ?_) (by rw [← e1 k (Nat.le_refl k)]; exact hc)
      rw [← e1 i (by omega)]
      exact hh _ (hne i hi) (hp i hi)
/-- pigeons: k + 1 numbers below n, n ≤ k: two are one -/
theorem rx_pigeon : ∀ (n k : Nat) (a : Nat → Nat), (∀ i, i ≤ k → a i < n) → n ≤ k → ∃ i j, i < j ∧ j ≤ k ∧ a i = a j := by
  intro n
  induction n with
  | zero => intro k a h _; exact absurd (h 0 (by omega)) (by omega)
  | succ n ih =>
    intro k a h hk
    by_cases hl : ∃ i, i < k ∧ a i = a k
    · obtain ⟨i, hi, e⟩ := hl; exact ⟨i, k, hi, Nat.le_refl k, e⟩
    · have hne : ∀ i, i < k → a i ≠ a k := fun i hi e => hl ⟨i, hi, e⟩
      have hk0 : a k < n + 1 := h k (Nat.le_refl k)
      obtain ⟨i, j, h1, h2, h3⟩ := ih (k - 1) (fun i => if a i = n then a k else a i) (fun i hi => by
        show (if a i = n then a k else a i) < n
        have := h i (by omega)
        have := hne i (by omega)
        split <;> omega) (by omega)
      refine ⟨i, j, h1, by omega, ?_⟩
      try dsimp only at h3
      have := hne i (by omega)
      have := hne j (by omega)
      by_cases e1 : a i = n <;> by_cases e2 : a j = n <;> simp [e1, e2] at h3 <;> omega
theorem rx_pigeonI {n k : Nat} {a : Nat → Int} (h : ∀ i, i ≤ k → 0 ≤ a i ∧ a i < (n : Int)) (hk : n ≤ k) : ∃ i j, i < j ∧ j ≤ k ∧ a i = a j := by
  obtain ⟨i, j, h1, h2, h3⟩ := rx_pigeon n k (fun i => (a i).toNat) (fun i hi => by have := h i hi; show (a i).toNat < n; omega) hk
  refine ⟨i, j, h1, h2, ?_⟩
  have := h i (by omega)
  have := h j h2
  try dsimp only at h3
  omega
/-! Passes over edges -/
def px_sat (ef et w : Int → Int) (S : (Int → Int) × (Int → Int)) (e : Int) : Prop := S.1 (ef e) + w e ≤ S.1 (et e)
def px_step (ef et w : Int → Int) (S : (Int → Int) × (Int → Int)) (e : Int) : (Int → Int) × (Int → Int) :=
  if S.1 (et e) < S.1 (ef e) + w e then (upI S.1 (et e) (S.1 (ef e) + w e), upI S.2 (et e) e) else S
def px_pass (ef et w : Int → Int) (S : (Int → Int) × (Int → Int)) : Nat → (Int → Int) × (Int → Int)
  | 0 => S
  | j + 1 => px_step ef et w (px_pass ef et w S j) j
/-- has the pass raised a label among its first j edges -/
def px_rai (ef et w : Int → Int) (S : (Int → Int) × (Int → Int)) : Nat → Bool
  | 0 => false
  | j + 1 => px_rai ef et w S j || decide ((px_pass ef et w S j).1 (et j) < (px_pass ef et w S j).1 (ef j) + w j)
def px_N (n : Nat) (v : Int) : Prop := 0 ≤ v ∧ v < (n : Int)
def px_hv (S : (Int → Int) × (Int → Int)) (v : Int) : Prop := S.2 v ≠ -1
def px_f (ef : Int → Int) (S : (Int → Int) × (Int → Int)) (v : Int) : Int := ef (S.2 v)
def px_I (n m : Nat) (ef et w : Int → Int) (S : (Int → Int) × (Int → Int)) : Prop :=
  rx_ok (px_N n) S.1 (px_hv S) (px_f ef S) (fun v => w (S.2 v)) ∧ ∀ v, px_N n v → S.2 v ≠ -1 → px_N m (S.2 v) ∧ et (S.2 v) = v
/-- the pass k has looked at the edges below j; c v: the pass that raised v last -/
def px_J (n m : Nat) (ef et w : Int → Int) (S : (Int → Int) × (Int → Int)) (c : Int → Nat) (k : Nat) (j : Int) : Prop :=
  (∀ v, px_N n v → c v ≤ k ∧ (S.2 v ≠ -1 → c v ≤ c (px_f ef S v) + 1) ∧ (S.2 v = -1 → c v = 0)) ∧
  ∀ e, px_N m e → (e < j → c (ef e) < k → px_sat ef et w S e) ∧ (j ≤ e → c (ef e) + 1 < k → px_sat ef et w S e)
theorem px_step_I {n m : Nat} {ef et w : Int → Int} {S : (Int → Int) × (Int → Int)} {e : Int} (he : px_N m e) (hE : ∀ e, px_N m e → px_N n (ef e) ∧ px_N n (et e)) (h : px_I n m ef et w S) : px_I n m ef et w (px_step ef et w S e) := by
  unfold px_step
  split
  · rename_i hlt
    obtain ⟨h1, h2⟩ := h
    refine ⟨rx_raise (u := ef e) (v := et e) (w := w e) h1 (hE e he).1 hlt (fun y => rfl) (fun y hy hh => ?_) (fun y => ?_) (fun y => ?_), fun v hv hne => ?_⟩
    · simp only [px_hv, upI_n hy] at hh; exact hh
    · by_cases hy : y = et e
      · simp [px_f, hy, upI_s]
      · simp [px_f, upI_n hy, hy]
    · by_cases hy : y = et e
      · simp [hy, upI_s]
      · simp [upI_n hy, hy]
    · by_cases hy : v = et e
      · subst hy; dsimp only; rw [upI_s]; exact ⟨he, rfl⟩
      · dsimp only at hne ⊢; rw [upI_n hy] at hne ⊢; exact h2 v hv hne
  · exact h
theorem px_step_J {n m : Nat} {ef et w : Int → Int} {S : (Int → Int) × (Int → Int)} {c : Int → Nat} {k : Nat} {e : Int} (hk : 1 ≤ k) (he : px_N m e) (hE : ∀ e, px_N m e → px_N n (ef e) ∧ px_N n (et e)) (h : px_J n m ef et w S c k e) :
    ∃ c', px_J n m ef et w (px_step ef et w S e) c' k (e + 1) ∧ ((∃ v, px_N n v ∧ c v = k) → ∃ v, px_N n v ∧ c' v = k) ∧ (S.1 (et e) < S.1 (ef e) + w e → ∃ v, px_N n v ∧ c' v = k) := by
  obtain ⟨h1, h2⟩ := h
  unfold px_step
  split
  · rename_i hlt
    have hek : k ≤ c (ef e) + 1 := by
      refine Nat.le_of_not_lt (fun hc => ?_)
      have := (h2 e he).2 (Int.le_refl e) hc
      unfold px_sat at this
      omega
    refine ⟨fun v => if v = et e then k else c v, ⟨fun v hv => ?_, fun e2 he2 => ?_⟩, fun _ => ⟨et e, (hE e he).2, by simp⟩, fun _ => ⟨et e, (hE e he).2, by simp⟩⟩
    · obtain ⟨a1, a2, a3⟩ := h1 v hv
      by_cases hy : v = et e
      · subst hy
        refine ⟨by simp, fun _ => ?_, fun hz => ?_⟩
        · simp only [px_f, upI_s, if_true]
          by_cases hs : ef e = et e
          · simp [hs]
          · simp only [hs, if_false]; exact hek
        · simp only [upI_s] at hz
          have := he.1
          omega
      · refine ⟨by simp only [hy, if_false]; exact a1, fun hn => ?_, fun hz => ?_⟩
        · simp only [upI_n hy] at hn
          have a2 := a2 hn
          simp only [px_f, upI_n hy, hy, if_false] at a2 ⊢
          by_cases hs : ef (S.2 v) = et e
          · simp only [hs, if_true]; omega
          · simp only [hs, if_false]; exact a2
        · simp only [upI_n hy] at hz
          simp only [hy, if_false]
          exact a3 hz
    · have mono : ∀ v, v ≠ et e → upI S.1 (et e) (S.1 (ef e) + w e) v = S.1 v := fun v hv => upI_n hv
      have mono2 : ∀ v, S.1 v ≤ upI S.1 (et e) (S.1 (ef e) + w e) v := by
        intro v
        by_cases hy : v = et e
        · subst hy; rw [upI_s]; omega
        · rw [upI_n hy]; omega
      have keep : ∀ e3, px_N m e3 → ef e3 ≠ et e → px_sat ef et w S e3 → px_sat ef et w (upI S.1 (et e) (S.1 (ef e) + w e), upI S.2 (et e) e) e3 := by
        intro e3 _ hne hs
        unfold px_sat at hs ⊢
        dsimp only
        rw [mono _ hne]
        have := mono2 (et e3)
        omega
      refine ⟨fun hj hc => ?_, fun hj hc => ?_⟩
      · by_cases hs : ef e2 = et e
        · simp only [hs, if_true] at hc; omega
        · simp only [hs, if_false] at hc
          by_cases hee : e2 = e
          · subst hee
            unfold px_sat
            dsimp only
            rw [mono _ hs, upI_s]
            exact Int.le_refl _
          · exact keep e2 he2 hs ((h2 e2 he2).1 (by omega) hc)
      · by_cases hs : ef e2 = et e
        · simp only [hs, if_true] at hc; omega
        · simp only [hs, if_false] at hc
          exact keep e2 he2 hs ((h2 e2 he2).2 (by omega) hc)
  · rename_i hlt
    refine ⟨c, ⟨h1, fun e2 he2 => ⟨fun hj hc => ?_, fun hj hc => (h2 e2 he2).2 (by omega) hc⟩⟩, id, fun hc => absurd hc hlt⟩
    by_cases hee : e2 = e
    · subst hee; unfold px_sat; omega
    · exact (h2 e2 he2).1 (by omega) hc
theorem px_pass_ok {n m : Nat} {ef et w : Int → Int} {S : (Int → Int) × (Int → Int)} {c : Int → Nat} {k : Nat} (hk : 1 ≤ k) (hE : ∀ e, px_N m e → px_N n (ef e) ∧ px_N n (et e)) (hI : px_I n m ef et w S) (hJ : px_J n m ef et w S c k 0) :
    ∀ j : Nat, j ≤ m → px_I n m ef et w (px_pass ef et w S j) ∧ ∃ c', px_J n m ef et w (px_pass ef et w S j) c' k j ∧ (px_rai ef et w S j = true → ∃ v, px_N n v ∧ c' v = k) := by
  intro j
  induction j with
  | zero => intro _; exact ⟨hI, c, hJ, fun h => by simp [px_rai] at h⟩
  | succ j ih =>
    intro hj
    obtain ⟨i1, c1, i2, i3⟩ := ih (by omega)
    have he : px_N m (j : Int) := ⟨by omega, by omega⟩
    refine ⟨px_step_I he hE i1, ?_⟩
    obtain ⟨c2, j1, j2, j3⟩ := px_step_J hk he hE i2
    refine ⟨c2, by rw [show ((j + 1 : Nat) : Int) = (j : Int) + 1 by omega]; exact j1, fun hr => ?_⟩
    simp only [px_rai, Bool.or_eq_true, decide_eq_true_eq] at hr
    rcases hr with hr | hr
    · exact j2 (i3 hr)
    · exact j3 hr
/-- a pass that raises nothing: all edges hold -/
theorem px_still {ef et w : Int → Int} {S : (Int → Int) × (Int → Int)} : ∀ j : Nat, px_rai ef et w S j = false → px_pass ef et w S j = S ∧ ∀ e : Nat, e < j → px_sat ef et w S e := by
  intro j
  induction j with
  | zero => intro _; exact ⟨rfl, fun e he => by omega⟩
  | succ j ih =>
    intro hr
    simp only [px_rai, Bool.or_eq_false_iff, decide_eq_false_iff_not] at hr
    obtain ⟨i1, i2⟩ := ih hr.1
    have hlt := hr.2
    rw [i1] at hlt
    refine ⟨by simp only [px_pass, i1, px_step, hlt, if_false], fun e he => ?_⟩
    by_cases hee : e = j
    · subst hee; unfold px_sat; omega
    · exact i2 e (by omega)
/-- at the end of pass k that raised something, k at least the nodes' number: there is a loop of parents -/
theorem px_loop {n m : Nat} {ef et w : Int → Int} {S : (Int → Int) × (Int → Int)} {c : Int → Nat} {k : Nat} (hI : px_I n m ef et w S) (hJ : ∀ v, px_N n v → (S.2 v ≠ -1 → c v ≤ c (px_f ef S v) + 1) ∧ (S.2 v = -1 → c v = 0)) (hr : ∃ v, px_N n v ∧ c v = k) (hn : n ≤ k) :
    ∃ y, px_N n y ∧ ∃ i : Nat, 1 ≤ i ∧ (∀ j, j < i → px_hv S (rx_it (px_f ef S) j y)) ∧ rx_it (px_f ef S) i y = y := by
  obtain ⟨v, hv, hc⟩ := hr
  have key : ∀ i, i ≤ k → px_N n (rx_it (px_f ef S) i v) ∧ k ≤ c (rx_it (px_f ef S) i v) + i ∧ ∀ j, j < i → px_hv S (rx_it (px_f ef S) j v) := by
    intro i
    induction i with
    | zero => intro _; exact ⟨hv, by simp only [rx_it]; omega, fun j hj => by omega⟩
    | succ i ih =>
      intro hi
      obtain ⟨a1, a2, a3⟩ := ih (by omega)
      obtain ⟨b1, b2⟩ := hJ _ a1
      have hne : S.2 (rx_it (px_f ef S) i v) ≠ -1 := fun h => by have := b2 h; omega
      have b1 := b1 hne
      rw [rx_it_succ]
      refine ⟨(hI.1.1 _ a1 hne).1, by omega, fun j hj => ?_⟩
      by_cases h : j = i
      · subst h; exact hne
      · exact a3 j (by omega)
  obtain ⟨i, j, h1, h2, h3⟩ := rx_pigeonI (n := n) (k := k) (a := fun i => rx_it (px_f ef S) i v) (fun i hi => (key i hi).1) hn
  refine ⟨rx_it (px_f ef S) i v, (key i (by omega)).1, j - i, by omega, fun t ht => ?_, ?_⟩
  · rw [← rx_it_add]; exact (key j h2).2.2 (i + t) (by omega)
  · rw [← rx_it_add, show i + (j - i) = j by omega]; exact h3.symm
end
section
/-! The world: cell k at the address q k; F: the numbers in objects (100 * the object + the field), A: the numbers in arrays (by cell) -/
def gw (q : Nat → Nat) (c : Nat → ClassId) (F : Nat → Int) (A : Nat → Int → Int) : va_W := [
  (q 0, .inr (0, [.ref (q 1), .ref (q 2), .ref (q 3), .ref (q 4)])),
  (q 1, .inr (1, [.int (iI (F 100)), .int (iI (F 101)), .int (iI (F 102)), .ref (q 6), .ref (q 7), .ref (q 8), .ref (q 9), .ref (q 10), .ref (q 11), .ref (q 12), .ref (q 13)])),
  (q 2, .inr (2, [.int (iI (F 200)), .int (iI (F 201)), .ref (q 14), .ref (q 15), .ref (q 16), .ref (q 17)])),
  (q 3, .inr (3, [.int (iI (F 300)), .int (iI (F 301)), .int (iI (F 302)), .int (iI (F 303)), .int (iI (F 304)), .ref (q 18), .ref (q 19), .ref (q 20), .ref (q 21), .ref (q 22), .ref (q 23), .ref (q 24), .ref (q 25)])),
  (q 4, .inr (4, [.ref (q 26)])),
  (q 5, .inr (5, [.int (iI (F 500)), .int (iI (F 501)), .int (iI (F 502)), .ref (q 35), .ref (q 36), .ref (q 37), .ref (q 38), .ref (q 39), .ref (q 40), .int (iI (F 509)), .int (iI (F 510)), .int (iI (F 511)), .int (iI (F 512)), .ref (q 41), .ref (q 42), .ref (q 43), .ref (q 44), .ref (q 45), .ref (q 46), .ref (q 47), .int (iI (F 520)), .ref (q 48), .ref (q 49), .int (iI (F 523)), .ref (q 50), .int (iI (F 525)), .ref (q 51), .ref (q 52), .ref (q 53), .ref (q 54), .ref (q 55), .int (iI (F 531)), .int (iI (F 532)), .ref (q 56)])),
  (q 6, .inl (c 0, 8, .inl (aI (A 6)))),
  (q 7, .inl (c 0, 8, .inl (aI (A 7)))),
  (q 8, .inl (c 0, 8, .inl (aI (A 8)))),
  (q 9, .inl (c 0, 14, .inl (aI (A 9)))),
  (q 10, .inl (c 0, 14, .inl (aI (A 10)))),
  (q 11, .inl (c 0, 14, .inl (aI (A 11)))),
  (q 12, .inl (c 0, 14, .inl (aI (A 12)))),
  (q 13, .inl (c 0, 14, .inl (aI (A 13)))),
  (q 14, .inl (c 0, 400, .inl (aI (A 14)))),
  (q 15, .inl (c 0, 8, .inl (aI (A 15)))),
  (q 16, .inl (c 0, 14, .inl (aI (A 16)))),
  (q 17, .inl (c 0, 14, .inl (aI (A 17)))),
  (q 18, .inl (c 0, 8, .inl (aI (A 18)))),
  (q 19, .inl (c 0, 40, .inl (aI (A 19)))),
  (q 20, .inl (c 0, 600, .inl (aI (A 20)))),
  (q 21, .inl (c 0, 600, .inl (aI (A 21)))),
  (q 22, .inl (c 0, 600, .inl (aI (A 22)))),
  (q 23, .inl (c 0, 40, .inl (aI (A 23)))),
  (q 24, .inl (c 0, 40, .inl (aI (A 24)))),
  (q 25, .inl (c 0, 40, .inl (aI (A 25)))),
  (q 26, .inl (c 3, 8, .inr (.inr (.inr (.inr (fun i => if i < 8 then some (q (27 + i)) else none)))))),
  (q 27, .inl (c 0, 8, .inl (aI (A 27)))),
  (q 28, .inl (c 0, 8, .inl (aI (A 28)))),
  (q 29, .inl (c 0, 8, .inl (aI (A 29)))),
  (q 30, .inl (c 0, 8, .inl (aI (A 30)))),
  (q 31, .inl (c 0, 8, .inl (aI (A 31)))),
  (q 32, .inl (c 0, 8, .inl (aI (A 32)))),
  (q 33, .inl (c 0, 8, .inl (aI (A 33)))),
  (q 34, .inl (c 0, 8, .inl (aI (A 34)))),
  (q 35, .inl (c 0, 8, .inl (aI (A 35)))),
  (q 36, .inl (c 0, 14, .inl (aI (A 36)))),
  (q 37, .inl (c 0, 14, .inl (aI (A 37)))),
  (q 38, .inl (c 0, 14, .inl (aI (A 38)))),
  (q 39, .inl (c 0, 14, .inl (aI (A 39)))),
  (q 40, .inl (c 0, 14, .inl (aI (A 40)))),
  (q 41, .inl (c 0, 8, .inl (aI (A 41)))),
  (q 42, .inl (c 1, 8, .inr (.inl (aL (A 42))))),
  (q 43, .inl (c 1, 8, .inr (.inl (aL (A 43))))),
  (q 44, .inl (c 0, 8, .inl (aI (A 44)))),
  (q 45, .inl (c 0, 8, .inl (aI (A 45)))),
  (q 46, .inl (c 0, 14, .inl (aI (A 46)))),
  (q 47, .inl (c 0, 14, .inl (aI (A 47)))),
  (q 48, .inl (c 0, 400, .inl (aI (A 48)))),
  (q 49, .inl (c 2, 8, .inl (aI (A 49)))),
  (q 50, .inl (c 0, 8, .inl (aI (A 50)))),
  (q 51, .inl (c 0, 700, .inl (aI (A 51)))),
  (q 52, .inl (c 0, 700, .inl (aI (A 52)))),
  (q 53, .inl (c 0, 700, .inl (aI (A 53)))),
  (q 54, .inl (c 0, 700, .inl (aI (A 54)))),
  (q 55, .inl (c 1, 40, .inr (.inl (aL (A 55))))),
  (q 56, .inl (c 0, 64, .inl (aI (A 56)))),
  (q 57, .inl (c 1, 1, .inr (.inl (aL (A 57)))))]
section GW
variable {q : Nat → Nat} {c : Nat → ClassId} {F : Nat → Int} {A : Nat → Int → Int}
theorem ga_0 : (gw q c F A)[0]? = some (q 0, .inr (0, [.ref (q 1), .ref (q 2), .ref (q 3), .ref (q 4)])) := rfl
theorem ga_1 : (gw q c F A)[1]? = some (q 1, .inr (1, [.int (iI (F 100)), .int (iI (F 101)), .int (iI (F 102)), .ref (q 6), .ref (q 7), .ref (q 8), .ref (q 9), .ref (q 10), .ref (q 11), .ref (q 12), .ref (q 13)])) := rfl
theorem ga_2 : (gw q c F A)[2]? = some (q 2, .inr (2, [.int (iI (F 200)), .int (iI (F 201)), .ref (q 14), .ref (q 15), .ref (q 16), .ref (q 17)])) := rfl
theorem ga_3 : (gw q c F A)[3]? = some (q 3, .inr (3, [.int (iI (F 300)), .int (iI (F 301)), .int (iI (F 302)), .int (iI (F 303)), .int (iI (F 304)), .ref (q 18), .ref (q 19), .ref (q 20), .ref (q 21), .ref (q 22), .ref (q 23), .ref (q 24), .ref (q 25)])) := rfl
theorem ga_4 : (gw q c F A)[4]? = some (q 4, .inr (4, [.ref (q 26)])) := rfl
theorem ga_5 : (gw q c F A)[5]? = some (q 5, .inr (5, [.int (iI (F 500)), .int (iI (F 501)), .int (iI (F 502)), .ref (q 35), .ref (q 36), .ref (q 37), .ref (q 38), .ref (q 39), .ref (q 40), .int (iI (F 509)), .int (iI (F 510)), .int (iI (F 511)), .int (iI (F 512)), .ref (q 41), .ref (q 42), .ref (q 43), .ref (q 44), .ref (q 45), .ref (q 46), .ref (q 47), .int (iI (F 520)), .ref (q 48), .ref (q 49), .int (iI (F 523)), .ref (q 50), .int (iI (F 525)), .ref (q 51), .ref (q 52), .ref (q 53), .ref (q 54), .ref (q 55), .int (iI (F 531)), .int (iI (F 532)), .ref (q 56)])) := rfl
theorem ga_6 : (gw q c F A)[6]? = some (q 6, .inl (c 0, 8, .inl (aI (A 6)))) := rfl
theorem ga_7 : (gw q c F A)[7]? = some (q 7, .inl (c 0, 8, .inl (aI (A 7)))) := rfl
theorem ga_8 : (gw q c F A)[8]? = some (q 8, .inl (c 0, 8, .inl (aI (A 8)))) := rfl
theorem ga_9 : (gw q c F A)[9]? = some (q 9, .inl (c 0, 14, .inl (aI (A 9)))) := rfl
theorem ga_10 : (gw q c F A)[10]? = some (q 10, .inl (c 0, 14, .inl (aI (A 10)))) := rfl
theorem ga_11 : (gw q c F A)[11]? = some (q 11, .inl (c 0, 14, .inl (aI (A 11)))) := rfl
theorem ga_12 : (gw q c F A)[12]? = some (q 12, .inl (c 0, 14, .inl (aI (A 12)))) := rfl
theorem ga_13 : (gw q c F A)[13]? = some (q 13, .inl (c 0, 14, .inl (aI (A 13)))) := rfl
theorem ga_14 : (gw q c F A)[14]? = some (q 14, .inl (c 0, 400, .inl (aI (A 14)))) := rfl
theorem ga_15 : (gw q c F A)[15]? = some (q 15, .inl (c 0, 8, .inl (aI (A 15)))) := rfl
theorem ga_16 : (gw q c F A)[16]? = some (q 16, .inl (c 0, 14, .inl (aI (A 16)))) := rfl
theorem ga_17 : (gw q c F A)[17]? = some (q 17, .inl (c 0, 14, .inl (aI (A 17)))) := rfl
theorem ga_18 : (gw q c F A)[18]? = some (q 18, .inl (c 0, 8, .inl (aI (A 18)))) := rfl
theorem ga_19 : (gw q c F A)[19]? = some (q 19, .inl (c 0, 40, .inl (aI (A 19)))) := rfl
theorem ga_20 : (gw q c F A)[20]? = some (q 20, .inl (c 0, 600, .inl (aI (A 20)))) := rfl
theorem ga_21 : (gw q c F A)[21]? = some (q 21, .inl (c 0, 600, .inl (aI (A 21)))) := rfl
theorem ga_22 : (gw q c F A)[22]? = some (q 22, .inl (c 0, 600, .inl (aI (A 22)))) := rfl
theorem ga_23 : (gw q c F A)[23]? = some (q 23, .inl (c 0, 40, .inl (aI (A 23)))) := rfl
theorem ga_24 : (gw q c F A)[24]? = some (q 24, .inl (c 0, 40, .inl (aI (A 24)))) := rfl
theorem ga_25 : (gw q c F A)[25]? = some (q 25, .inl (c 0, 40, .inl (aI (A 25)))) := rfl
theorem ga_26 : (gw q c F A)[26]? = some (q 26, .inl (c 3, 8, .inr (.inr (.inr (.inr (fun i => if i < 8 then some (q (27 + i)) else none)))))) := rfl
theorem ga_27 : (gw q c F A)[27]? = some (q 27, .inl (c 0, 8, .inl (aI (A 27)))) := rfl
theorem ga_28 : (gw q c F A)[28]? = some (q 28, .inl (c 0, 8, .inl (aI (A 28)))) := rfl
theorem ga_29 : (gw q c F A)[29]? = some (q 29, .inl (c 0, 8, .inl (aI (A 29)))) := rfl
theorem ga_30 : (gw q c F A)[30]? = some (q 30, .inl (c 0, 8, .inl (aI (A 30)))) := rfl
theorem ga_31 : (gw q c F A)[31]? = some (q 31, .inl (c 0, 8, .inl (aI (A 31)))) := rfl
theorem ga_32 : (gw q c F A)[32]? = some (q 32, .inl (c 0, 8, .inl (aI (A 32)))) := rfl
theorem ga_33 : (gw q c F A)[33]? = some (q 33, .inl (c 0, 8, .inl (aI (A 33)))) := rfl
theorem ga_34 : (gw q c F A)[34]? = some (q 34, .inl (c 0, 8, .inl (aI (A 34)))) := rfl
theorem ga_35 : (gw q c F A)[35]? = some (q 35, .inl (c 0, 8, .inl (aI (A 35)))) := rfl
theorem ga_36 : (gw q c F A)[36]? = some (q 36, .inl (c 0, 14, .inl (aI (A 36)))) := rfl
theorem ga_37 : (gw q c F A)[37]? = some (q 37, .inl (c 0, 14, .inl (aI (A 37)))) := rfl
theorem ga_38 : (gw q c F A)[38]? = some (q 38, .inl (c 0, 14, .inl (aI (A 38)))) := rfl
theorem ga_39 : (gw q c F A)[39]? = some (q 39, .inl (c 0, 14, .inl (aI (A 39)))) := rfl
theorem ga_40 : (gw q c F A)[40]? = some (q 40, .inl (c 0, 14, .inl (aI (A 40)))) := rfl
theorem ga_41 : (gw q c F A)[41]? = some (q 41, .inl (c 0, 8, .inl (aI (A 41)))) := rfl
theorem ga_42 : (gw q c F A)[42]? = some (q 42, .inl (c 1, 8, .inr (.inl (aL (A 42))))) := rfl
theorem ga_43 : (gw q c F A)[43]? = some (q 43, .inl (c 1, 8, .inr (.inl (aL (A 43))))) := rfl
theorem ga_44 : (gw q c F A)[44]? = some (q 44, .inl (c 0, 8, .inl (aI (A 44)))) := rfl
theorem ga_45 : (gw q c F A)[45]? = some (q 45, .inl (c 0, 8, .inl (aI (A 45)))) := rfl
theorem ga_46 : (gw q c F A)[46]? = some (q 46, .inl (c 0, 14, .inl (aI (A 46)))) := rfl
theorem ga_47 : (gw q c F A)[47]? = some (q 47, .inl (c 0, 14, .inl (aI (A 47)))) := rfl
theorem ga_48 : (gw q c F A)[48]? = some (q 48, .inl (c 0, 400, .inl (aI (A 48)))) := rfl
theorem ga_49 : (gw q c F A)[49]? = some (q 49, .inl (c 2, 8, .inl (aI (A 49)))) := rfl
theorem ga_50 : (gw q c F A)[50]? = some (q 50, .inl (c 0, 8, .inl (aI (A 50)))) := rfl
theorem ga_51 : (gw q c F A)[51]? = some (q 51, .inl (c 0, 700, .inl (aI (A 51)))) := rfl
theorem ga_52 : (gw q c F A)[52]? = some (q 52, .inl (c 0, 700, .inl (aI (A 52)))) := rfl
theorem ga_53 : (gw q c F A)[53]? = some (q 53, .inl (c 0, 700, .inl (aI (A 53)))) := rfl
theorem ga_54 : (gw q c F A)[54]? = some (q 54, .inl (c 0, 700, .inl (aI (A 54)))) := rfl
theorem ga_55 : (gw q c F A)[55]? = some (q 55, .inl (c 1, 40, .inr (.inl (aL (A 55))))) := rfl
theorem ga_56 : (gw q c F A)[56]? = some (q 56, .inl (c 0, 64, .inl (aI (A 56)))) := rfl
theorem ga_57 : (gw q c F A)[57]? = some (q 57, .inl (c 1, 1, .inr (.inl (aL (A 57))))) := rfl
theorem gs_1_0 {x : Int} : (gw q c F A).set 1 (q 1, .inr (1, ([.int (iI (F 100)), .int (iI (F 101)), .int (iI (F 102)), .ref (q 6), .ref (q 7), .ref (q 8), .ref (q 9), .ref (q 10), .ref (q 11), .ref (q 12), .ref (q 13)] : List Value).set 0 (.int (iI x)))) = gw q c (fuP F 100 x) A := rfl
theorem gs_1_1 {x : Int} : (gw q c F A).set 1 (q 1, .inr (1, ([.int (iI (F 100)), .int (iI (F 101)), .int (iI (F 102)), .ref (q 6), .ref (q 7), .ref (q 8), .ref (q 9), .ref (q 10), .ref (q 11), .ref (q 12), .ref (q 13)] : List Value).set 1 (.int (iI x)))) = gw q c (fuP F 101 x) A := rfl
theorem gs_1_2 {x : Int} : (gw q c F A).set 1 (q 1, .inr (1, ([.int (iI (F 100)), .int (iI (F 101)), .int (iI (F 102)), .ref (q 6), .ref (q 7), .ref (q 8), .ref (q 9), .ref (q 10), .ref (q 11), .ref (q 12), .ref (q 13)] : List Value).set 2 (.int (iI x)))) = gw q c (fuP F 102 x) A := rfl
theorem gs_2_0 {x : Int} : (gw q c F A).set 2 (q 2, .inr (2, ([.int (iI (F 200)), .int (iI (F 201)), .ref (q 14), .ref (q 15), .ref (q 16), .ref (q 17)] : List Value).set 0 (.int (iI x)))) = gw q c (fuP F 200 x) A := rfl
theorem gs_2_1 {x : Int} : (gw q c F A).set 2 (q 2, .inr (2, ([.int (iI (F 200)), .int (iI (F 201)), .ref (q 14), .ref (q 15), .ref (q 16), .ref (q 17)] : List Value).set 1 (.int (iI x)))) = gw q c (fuP F 201 x) A := rfl
theorem gs_3_0 {x : Int} : (gw q c F A).set 3 (q 3, .inr (3, ([.int (iI (F 300)), .int (iI (F 301)), .int (iI (F 302)), .int (iI (F 303)), .int (iI (F 304)), .ref (q 18), .ref (q 19), .ref (q 20), .ref (q 21), .ref (q 22), .ref (q 23), .ref (q 24), .ref (q 25)] : List Value).set 0 (.int (iI x)))) = gw q c (fuP F 300 x) A := rfl
theorem gs_3_1 {x : Int} : (gw q c F A).set 3 (q 3, .inr (3, ([.int (iI (F 300)), .int (iI (F 301)), .int (iI (F 302)), .int (iI (F 303)), .int (iI (F 304)), .ref (q 18), .ref (q 19), .ref (q 20), .ref (q 21), .ref (q 22), .ref (q 23), .ref (q 24), .ref (q 25)] : List Value).set 1 (.int (iI x)))) = gw q c (fuP F 301 x) A := rfl
theorem gs_3_2 {x : Int} : (gw q c F A).set 3 (q 3, .inr (3, ([.int (iI (F 300)), .int (iI (F 301)), .int (iI (F 302)), .int (iI (F 303)), .int (iI (F 304)), .ref (q 18), .ref (q 19), .ref (q 20), .ref (q 21), .ref (q 22), .ref (q 23), .ref (q 24), .ref (q 25)] : List Value).set 2 (.int (iI x)))) = gw q c (fuP F 302 x) A := rfl
theorem gs_3_3 {x : Int} : (gw q c F A).set 3 (q 3, .inr (3, ([.int (iI (F 300)), .int (iI (F 301)), .int (iI (F 302)), .int (iI (F 303)), .int (iI (F 304)), .ref (q 18), .ref (q 19), .ref (q 20), .ref (q 21), .ref (q 22), .ref (q 23), .ref (q 24), .ref (q 25)] : List Value).set 3 (.int (iI x)))) = gw q c (fuP F 303 x) A := rfl
theorem gs_3_4 {x : Int} : (gw q c F A).set 3 (q 3, .inr (3, ([.int (iI (F 300)), .int (iI (F 301)), .int (iI (F 302)), .int (iI (F 303)), .int (iI (F 304)), .ref (q 18), .ref (q 19), .ref (q 20), .ref (q 21), .ref (q 22), .ref (q 23), .ref (q 24), .ref (q 25)] : List Value).set 4 (.int (iI x)))) = gw q c (fuP F 304 x) A := rfl
theorem gs_5_0 {x : Int} : (gw q c F A).set 5 (q 5, .inr (5, ([.int (iI (F 500)), .int (iI (F 501)), .int (iI (F 502)), .ref (q 35), .ref (q 36), .ref (q 37), .ref (q 38), .ref (q 39), .ref (q 40), .int (iI (F 509)), .int (iI (F 510)), .int (iI (F 511)), .int (iI (F 512)), .ref (q 41), .ref (q 42), .ref (q 43), .ref (q 44), .ref (q 45), .ref (q 46), .ref (q 47), .int (iI (F 520)), .ref (q 48), .ref (q 49), .int (iI (F 523)), .ref (q 50), .int (iI (F 525)), .ref (q 51), .ref (q 52), .ref (q 53), .ref (q 54), .ref (q 55), .int (iI (F 531)), .int (iI (F 532)), .ref (q 56)] : List Value).set 0 (.int (iI x)))) = gw q c (fuP F 500 x) A := rfl
theorem gs_5_1 {x : Int} : (gw q c F A).set 5 (q 5, .inr (5, ([.int (iI (F 500)), .int (iI (F 501)), .int (iI (F 502)), .ref (q 35), .ref (q 36), .ref (q 37), .ref (q 38), .ref (q 39), .ref (q 40), .int (iI (F 509)), .int (iI (F 510)), .int (iI (F 511)), .int (iI (F 512)), .ref (q 41), .ref (q 42), .ref (q 43), .ref (q 44), .ref (q 45), .ref (q 46), .ref (q 47), .int (iI (F 520)), .ref (q 48), .ref (q 49), .int (iI (F 523)), .ref (q 50), .int (iI (F 525)), .ref (q 51), .ref (q 52), .ref (q 53), .ref (q 54), .ref (q 55), .int (iI (F 531)), .int (iI (F 532)), .ref (q 56)] : List Value).set 1 (.int (iI x)))) = gw q c (fuP F 501 x) A := rfl
theorem gs_5_2 {x : Int} : (gw q c F A).set 5 (q 5, .inr (5, ([.int (iI (F 500)), .int (iI (F 501)), .int (iI (F 502)), .ref (q 35), .ref (q 36), .ref (q 37), .ref (q 38), .ref (q 39), .ref (q 40), .int (iI (F 509)), .int (iI (F 510)), .int (iI (F 511)), .int (iI (F 512)), .ref (q 41), .ref (q 42), .ref (q 43), .ref (q 44), .ref (q 45), .ref (q 46), .ref (q 47), .int (iI (F 520)), .ref (q 48), .ref (q 49), .int (iI (F 523)), .ref (q 50), .int (iI (F 525)), .ref (q 51), .ref (q 52), .ref (q 53), .ref (q 54), .ref (q 55), .int (iI (F 531)), .int (iI (F 532)), .ref (q 56)] : List Value).set 2 (.int (iI x)))) = gw q c (fuP F 502 x) A := rfl
theorem gs_5_9 {x : Int} : (gw q c F A).set 5 (q 5, .inr (5, ([.int (iI (F 500)), .int (iI (F 501)), .int (iI (F 502)), .ref (q 35), .ref (q 36), .ref (q 37), .ref (q 38), .ref (q 39), .ref (q 40), .int (iI (F 509)), .int (iI (F 510)), .int (iI (F 511)), .int (iI (F 512)), .ref (q 41), .ref (q 42), .ref (q 43), .ref (q 44), .ref (q 45), .ref (q 46), .ref (q 47), .int (iI (F 520)), .ref (q 48), .ref (q 49), .int (iI (F 523)), .ref (q 50), .int (iI (F 525)), .ref (q 51), .ref (q 52), .ref (q 53), .ref (q 54), .ref (q 55), .int (iI (F 531)), .int (iI (F 532)), .ref (q 56)] : List Value).set 9 (.int (iI x)))) = gw q c (fuP F 509 x) A := rfl
theorem gs_5_10 {x : Int} : (gw q c F A).set 5 (q 5, .inr (5, ([.int (iI (F 500)), .int (iI (F 501)), .int (iI (F 502)), .ref (q 35), .ref (q 36), .ref (q 37), .ref (q 38), .ref (q 39), .ref (q 40), .int (iI (F 509)), .int (iI (F 510)), .int (iI (F 511)), .int (iI (F 512)), .ref (q 41), .ref (q 42), .ref (q 43), .ref (q 44), .ref (q 45), .ref (q 46), .ref (q 47), .int (iI (F 520)), .ref (q 48), .ref (q 49), .int (iI (F 523)), .ref (q 50), .int (iI (F 525)), .ref (q 51), .ref (q 52), .ref (q 53), .ref (q 54), .ref (q 55), .int (iI (F 531)), .int (iI (F 532)), .ref (q 56)] : List Value).set 10 (.int (iI x)))) = gw q c (fuP F 510 x) A := rfl
theorem gs_5_11 {x : Int} : (gw q c F A).set 5 (q 5, .inr (5, ([.int (iI (F 500)), .int (iI (F 501)), .int (iI (F 502)), .ref (q 35), .ref (q 36), .ref (q 37), .ref (q 38), .ref (q 39), .ref (q 40), .int (iI (F 509)), .int (iI (F 510)), .int (iI (F 511)), .int (iI (F 512)), .ref (q 41), .ref (q 42), .ref (q 43), .ref (q 44), .ref (q 45), .ref (q 46), .ref (q 47), .int (iI (F 520)), .ref (q 48), .ref (q 49), .int (iI (F 523)), .ref (q 50), .int (iI (F 525)), .ref (q 51), .ref (q 52), .ref (q 53), .ref (q 54), .ref (q 55), .int (iI (F 531)), .int (iI (F 532)), .ref (q 56)] : List Value).set 11 (.int (iI x)))) = gw q c (fuP F 511 x) A := rfl
theorem gs_5_12 {x : Int} : (gw q c F A).set 5 (q 5, .inr (5, ([.int (iI (F 500)), .int (iI (F 501)), .int (iI (F 502)), .ref (q 35), .ref (q 36), .ref (q 37), .ref (q 38), .ref (q 39), .ref (q 40), .int (iI (F 509)), .int (iI (F 510)), .int (iI (F 511)), .int (iI (F 512)), .ref (q 41), .ref (q 42), .ref (q 43), .ref (q 44), .ref (q 45), .ref (q 46), .ref (q 47), .int (iI (F 520)), .ref (q 48), .ref (q 49), .int (iI (F 523)), .ref (q 50), .int (iI (F 525)), .ref (q 51), .ref (q 52), .ref (q 53), .ref (q 54), .ref (q 55), .int (iI (F 531)), .int (iI (F 532)), .ref (q 56)] : List Value).set 12 (.int (iI x)))) = gw q c (fuP F 512 x) A := rfl
theorem gs_5_20 {x : Int} : (gw q c F A).set 5 (q 5, .inr (5, ([.int (iI (F 500)), .int (iI (F 501)), .int (iI (F 502)), .ref (q 35), .ref (q 36), .ref (q 37), .ref (q 38), .ref (q 39), .ref (q 40), .int (iI (F 509)), .int (iI (F 510)), .int (iI (F 511)), .int (iI (F 512)), .ref (q 41), .ref (q 42), .ref (q 43), .ref (q 44), .ref (q 45), .ref (q 46), .ref (q 47), .int (iI (F 520)), .ref (q 48), .ref (q 49), .int (iI (F 523)), .ref (q 50), .int (iI (F 525)), .ref (q 51), .ref (q 52), .ref (q 53), .ref (q 54), .ref (q 55), .int (iI (F 531)), .int (iI (F 532)), .ref (q 56)] : List Value).set 20 (.int (iI x)))) = gw q c (fuP F 520 x) A := rfl
theorem gs_5_23 {x : Int} : (gw q c F A).set 5 (q 5, .inr (5, ([.int (iI (F 500)), .int (iI (F 501)), .int (iI (F 502)), .ref (q 35), .ref (q 36), .ref (q 37), .ref (q 38), .ref (q 39), .ref (q 40), .int (iI (F 509)), .int (iI (F 510)), .int (iI (F 511)), .int (iI (F 512)), .ref (q 41), .ref (q 42), .ref (q 43), .ref (q 44), .ref (q 45), .ref (q 46), .ref (q 47), .int (iI (F 520)), .ref (q 48), .ref (q 49), .int (iI (F 523)), .ref (q 50), .int (iI (F 525)), .ref (q 51), .ref (q 52), .ref (q 53), .ref (q 54), .ref (q 55), .int (iI (F 531)), .int (iI (F 532)), .ref (q 56)] : List Value).set 23 (.int (iI x)))) = gw q c (fuP F 523 x) A := rfl
theorem gs_5_25 {x : Int} : (gw q c F A).set 5 (q 5, .inr (5, ([.int (iI (F 500)), .int (iI (F 501)), .int (iI (F 502)), .ref (q 35), .ref (q 36), .ref (q 37), .ref (q 38), .ref (q 39), .ref (q 40), .int (iI (F 509)), .int (iI (F 510)), .int (iI (F 511)), .int (iI (F 512)), .ref (q 41), .ref (q 42), .ref (q 43), .ref (q 44), .ref (q 45), .ref (q 46), .ref (q 47), .int (iI (F 520)), .ref (q 48), .ref (q 49), .int (iI (F 523)), .ref (q 50), .int (iI (F 525)), .ref (q 51), .ref (q 52), .ref (q 53), .ref (q 54), .ref (q 55), .int (iI (F 531)), .int (iI (F 532)), .ref (q 56)] : List Value).set 25 (.int (iI x)))) = gw q c (fuP F 525 x) A := rfl
theorem gs_5_31 {x : Int} : (gw q c F A).set 5 (q 5, .inr (5, ([.int (iI (F 500)), .int (iI (F 501)), .int (iI (F 502)), .ref (q 35), .ref (q 36), .ref (q 37), .ref (q 38), .ref (q 39), .ref (q 40), .int (iI (F 509)), .int (iI (F 510)), .int (iI (F 511)), .int (iI (F 512)), .ref (q 41), .ref (q 42), .ref (q 43), .ref (q 44), .ref (q 45), .ref (q 46), .ref (q 47), .int (iI (F 520)), .ref (q 48), .ref (q 49), .int (iI (F 523)), .ref (q 50), .int (iI (F 525)), .ref (q 51), .ref (q 52), .ref (q 53), .ref (q 54), .ref (q 55), .int (iI (F 531)), .int (iI (F 532)), .ref (q 56)] : List Value).set 31 (.int (iI x)))) = gw q c (fuP F 531 x) A := rfl
theorem gs_5_32 {x : Int} : (gw q c F A).set 5 (q 5, .inr (5, ([.int (iI (F 500)), .int (iI (F 501)), .int (iI (F 502)), .ref (q 35), .ref (q 36), .ref (q 37), .ref (q 38), .ref (q 39), .ref (q 40), .int (iI (F 509)), .int (iI (F 510)), .int (iI (F 511)), .int (iI (F 512)), .ref (q 41), .ref (q 42), .ref (q 43), .ref (q 44), .ref (q 45), .ref (q 46), .ref (q 47), .int (iI (F 520)), .ref (q 48), .ref (q 49), .int (iI (F 523)), .ref (q 50), .int (iI (F 525)), .ref (q 51), .ref (q 52), .ref (q 53), .ref (q 54), .ref (q 55), .int (iI (F 531)), .int (iI (F 532)), .ref (q 56)] : List Value).set 32 (.int (iI x)))) = gw q c (fuP F 532 x) A := rfl
theorem gs_6 {i x : Int} : (gw q c F A).set 6 (q 6, .inl (c 0, 8, .inl (aI (upI (A 6) i x)))) = gw q c F (auP A 6 i x) := rfl
theorem gs_7 {i x : Int} : (gw q c F A).set 7 (q 7, .inl (c 0, 8, .inl (aI (upI (A 7) i x)))) = gw q c F (auP A 7 i x) := rfl
theorem gs_8 {i x : Int} : (gw q c F A).set 8 (q 8, .inl (c 0, 8, .inl (aI (upI (A 8) i x)))) = gw q c F (auP A 8 i x) := rfl
theorem gs_9 {i x : Int} : (gw q c F A).set 9 (q 9, .inl (c 0, 14, .inl (aI (upI (A 9) i x)))) = gw q c F (auP A 9 i x) := rfl
theorem gs_10 {i x : Int} : (gw q c F A).set 10 (q 10, .inl (c 0, 14, .inl (aI (upI (A 10) i x)))) = gw q c F (auP A 10 i x) := rfl
theorem gs_11 {i x : Int} : (gw q c F A).set 11 (q 11, .inl (c 0, 14, .inl (aI (upI (A 11) i x)))) = gw q c F (auP A 11 i x) := rfl
theorem gs_12 {i x : Int} : (gw q c F A).set 12 (q 12, .inl (c 0, 14, .inl (aI (upI (A 12) i x)))) = gw q c F (auP A 12 i x) := rfl
theorem gs_13 {i x : Int} : (gw q c F A).set 13 (q 13, .inl (c 0, 14, .inl (aI (upI (A 13) i x)))) = gw q c F (auP A 13 i x) := rfl
theorem gs_14 {i x : Int} : (gw q c F A).set 14 (q 14, .inl (c 0, 400, .inl (aI (upI (A 14) i x)))) = gw q c F (auP A 14 i x) := rfl
theorem gs_15 {i x : Int} : (gw q c F A).set 15 (q 15, .inl (c 0, 8, .inl (aI (upI (A 15) i x)))) = gw q c F (auP A 15 i x) := rfl
theorem gs_16 {i x : Int} : (gw q c F A).set 16 (q 16, .inl (c 0, 14, .inl (aI (upI (A 16) i x)))) = gw q c F (auP A 16 i x) := rfl
theorem gs_17 {i x : Int} : (gw q c F A).set 17 (q 17, .inl (c 0, 14, .inl (aI (upI (A 17) i x)))) = gw q c F (auP A 17 i x) := rfl
theorem gs_18 {i x : Int} : (gw q c F A).set 18 (q 18, .inl (c 0, 8, .inl (aI (upI (A 18) i x)))) = gw q c F (auP A 18 i x) := rfl
theorem gs_19 {i x : Int} : (gw q c F A).set 19 (q 19, .inl (c 0, 40, .inl (aI (upI (A 19) i x)))) = gw q c F (auP A 19 i x) := rfl
theorem gs_20 {i x : Int} : (gw q c F A).set 20 (q 20, .inl (c 0, 600, .inl (aI (upI (A 20) i x)))) = gw q c F (auP A 20 i x) := rfl
theorem gs_21 {i x : Int} : (gw q c F A).set 21 (q 21, .inl (c 0, 600, .inl (aI (upI (A 21) i x)))) = gw q c F (auP A 21 i x) := rfl
theorem gs_22 {i x : Int} : (gw q c F A).set 22 (q 22, .inl (c 0, 600, .inl (aI (upI (A 22) i x)))) = gw q c F (auP A 22 i x) := rfl
theorem gs_23 {i x : Int} : (gw q c F A).set 23 (q 23, .inl (c 0, 40, .inl (aI (upI (A 23) i x)))) = gw q c F (auP A 23 i x) := rfl
theorem gs_24 {i x : Int} : (gw q c F A).set 24 (q 24, .inl (c 0, 40, .inl (aI (upI (A 24) i x)))) = gw q c F (auP A 24 i x) := rfl
theorem gs_25 {i x : Int} : (gw q c F A).set 25 (q 25, .inl (c 0, 40, .inl (aI (upI (A 25) i x)))) = gw q c F (auP A 25 i x) := rfl
theorem gs_27 {i x : Int} : (gw q c F A).set 27 (q 27, .inl (c 0, 8, .inl (aI (upI (A 27) i x)))) = gw q c F (auP A 27 i x) := rfl
theorem gs_28 {i x : Int} : (gw q c F A).set 28 (q 28, .inl (c 0, 8, .inl (aI (upI (A 28) i x)))) = gw q c F (auP A 28 i x) := rfl
theorem gs_29 {i x : Int} : (gw q c F A).set 29 (q 29, .inl (c 0, 8, .inl (aI (upI (A 29) i x)))) = gw q c F (auP A 29 i x) := rfl
theorem gs_30 {i x : Int} : (gw q c F A).set 30 (q 30, .inl (c 0, 8, .inl (aI (upI (A 30) i x)))) = gw q c F (auP A 30 i x) := rfl
theorem gs_31 {i x : Int} : (gw q c F A).set 31 (q 31, .inl (c 0, 8, .inl (aI (upI (A 31) i x)))) = gw q c F (auP A 31 i x) := rfl
theorem gs_32 {i x : Int} : (gw q c F A).set 32 (q 32, .inl (c 0, 8, .inl (aI (upI (A 32) i x)))) = gw q c F (auP A 32 i x) := rfl
theorem gs_33 {i x : Int} : (gw q c F A).set 33 (q 33, .inl (c 0, 8, .inl (aI (upI (A 33) i x)))) = gw q c F (auP A 33 i x) := rfl
theorem gs_34 {i x : Int} : (gw q c F A).set 34 (q 34, .inl (c 0, 8, .inl (aI (upI (A 34) i x)))) = gw q c F (auP A 34 i x) := rfl
theorem gs_35 {i x : Int} : (gw q c F A).set 35 (q 35, .inl (c 0, 8, .inl (aI (upI (A 35) i x)))) = gw q c F (auP A 35 i x) := rfl
theorem gs_36 {i x : Int} : (gw q c F A).set 36 (q 36, .inl (c 0, 14, .inl (aI (upI (A 36) i x)))) = gw q c F (auP A 36 i x) := rfl
theorem gs_37 {i x : Int} : (gw q c F A).set 37 (q 37, .inl (c 0, 14, .inl (aI (upI (A 37) i x)))) = gw q c F (auP A 37 i x) := rfl
theorem gs_38 {i x : Int} : (gw q c F A).set 38 (q 38, .inl (c 0, 14, .inl (aI (upI (A 38) i x)))) = gw q c F (auP A 38 i x) := rfl
theorem gs_39 {i x : Int} : (gw q c F A).set 39 (q 39, .inl (c 0, 14, .inl (aI (upI (A 39) i x)))) = gw q c F (auP A 39 i x) := rfl
theorem gs_40 {i x : Int} : (gw q c F A).set 40 (q 40, .inl (c 0, 14, .inl (aI (upI (A 40) i x)))) = gw q c F (auP A 40 i x) := rfl
theorem gs_41 {i x : Int} : (gw q c F A).set 41 (q 41, .inl (c 0, 8, .inl (aI (upI (A 41) i x)))) = gw q c F (auP A 41 i x) := rfl
theorem gs_42 {i x : Int} : (gw q c F A).set 42 (q 42, .inl (c 1, 8, .inr (.inl (aL (upI (A 42) i x))))) = gw q c F (auP A 42 i x) := rfl
theorem gs_43 {i x : Int} : (gw q c F A).set 43 (q 43, .inl (c 1, 8, .inr (.inl (aL (upI (A 43) i x))))) = gw q c F (auP A 43 i x) := rfl
theorem gs_44 {i x : Int} : (gw q c F A).set 44 (q 44, .inl (c 0, 8, .inl (aI (upI (A 44) i x)))) = gw q c F (auP A 44 i x) := rfl
theorem gs_45 {i x : Int} : (gw q c F A).set 45 (q 45, .inl (c 0, 8, .inl (aI (upI (A 45) i x)))) = gw q c F (auP A 45 i x) := rfl
theorem gs_46 {i x : Int} : (gw q c F A).set 46 (q 46, .inl (c 0, 14, .inl (aI (upI (A 46) i x)))) = gw q c F (auP A 46 i x) := rfl
theorem gs_47 {i x : Int} : (gw q c F A).set 47 (q 47, .inl (c 0, 14, .inl (aI (upI (A 47) i x)))) = gw q c F (auP A 47 i x) := rfl
theorem gs_48 {i x : Int} : (gw q c F A).set 48 (q 48, .inl (c 0, 400, .inl (aI (upI (A 48) i x)))) = gw q c F (auP A 48 i x) := rfl
theorem gs_49 {i x : Int} : (gw q c F A).set 49 (q 49, .inl (c 2, 8, .inl (aI (upI (A 49) i x)))) = gw q c F (auP A 49 i x) := rfl
theorem gs_50 {i x : Int} : (gw q c F A).set 50 (q 50, .inl (c 0, 8, .inl (aI (upI (A 50) i x)))) = gw q c F (auP A 50 i x) := rfl
theorem gs_51 {i x : Int} : (gw q c F A).set 51 (q 51, .inl (c 0, 700, .inl (aI (upI (A 51) i x)))) = gw q c F (auP A 51 i x) := rfl
theorem gs_52 {i x : Int} : (gw q c F A).set 52 (q 52, .inl (c 0, 700, .inl (aI (upI (A 52) i x)))) = gw q c F (auP A 52 i x) := rfl
theorem gs_53 {i x : Int} : (gw q c F A).set 53 (q 53, .inl (c 0, 700, .inl (aI (upI (A 53) i x)))) = gw q c F (auP A 53 i x) := rfl
theorem gs_54 {i x : Int} : (gw q c F A).set 54 (q 54, .inl (c 0, 700, .inl (aI (upI (A 54) i x)))) = gw q c F (auP A 54 i x) := rfl
theorem gs_55 {i x : Int} : (gw q c F A).set 55 (q 55, .inl (c 1, 40, .inr (.inl (aL (upI (A 55) i x))))) = gw q c F (auP A 55 i x) := rfl
theorem gs_56 {i x : Int} : (gw q c F A).set 56 (q 56, .inl (c 0, 64, .inl (aI (upI (A 56) i x)))) = gw q c F (auP A 56 i x) := rfl
theorem gs_57 {i x : Int} : (gw q c F A).set 57 (q 57, .inl (c 1, 1, .inr (.inl (aL (upI (A 57) i x))))) = gw q c F (auP A 57 i x) := rfl
end GW
abbrev zS : Type := (Nat → Int) × (Nat → Int → Int)
def zty (c : Nat → ClassId) : List (ClassId × FieldType) := [(c 0, .int), (c 1, .long), (c 2, .boolean), (c 3, .array .int)]
def zB (D : va_G) (q : Nat → Nat) (c : Nat → ClassId) (F : Nat → Int) (A : Nat → Int → Int) (sz : Nat) : State → Prop := fun U => U.heap.size = sz ∧ va_P D zcl (gw q c F A) U.heap ∧ (va_K D zcl (zty c) U ∧ zNW U) ∧ va_D (fun _ => True) (gw q c F A)
def zPi (post : Int → (Nat → Int) → (Nat → Int → Int) → Prop) : Int32 → zS → Prop := fun r u => ∃ z, r = iI z ∧ post z u.1 u.2
def zPl (post : Int → (Nat → Int) → (Nat → Int → Int) → Prop) : Int64 → zS → Prop := fun r u => ∃ z, r = lI z ∧ post z u.1 u.2
def zPv (post : (Nat → Int) → (Nat → Int → Int) → Prop) : zS → Prop := fun u => post u.1 u.2
def zW (D : va_G) (q : Nat → Nat) (c : Nat → ClassId) (A0 : Nat → Prop) : zS → State → Prop := fun u t => va_P D zcl (gw q c u.1 u.2) t.heap ∧ va_D A0 (gw q c u.1 u.2)
/-- contracts over the whole world: the method answers z and leaves F', A' with 'post z F' A'' -/
def zMI (l : Launch) (y : MethodName) (bytes : ByteArray) (maxL : Nat) (ret : Option FieldType) (rm : Room) (D : va_G) (q : Nat → Nat) (c : Nat → ClassId) (sz : Nat) (av : List Value) (F : Nat → Int) (A : Nat → Int → Int) (post : Int → (Nat → Int) → (Nat → Int → Int) → Prop) : Prop :=
  Met l y (Cond.code y bytes maxL ret :: zG) rm (va_Pc av (zB D q c F A sz)) (va_Qi (zPi post) (zW D q c (va_A (gw q c F A) sz)) (va_A (gw q c F A) sz)) 0 0 (va_A (gw q c F A) sz)
def zML (l : Launch) (y : MethodName) (bytes : ByteArray) (maxL : Nat) (ret : Option FieldType) (rm : Room) (D : va_G) (q : Nat → Nat) (c : Nat → ClassId) (sz : Nat) (av : List Value) (F : Nat → Int) (A : Nat → Int → Int) (post : Int → (Nat → Int) → (Nat → Int → Int) → Prop) : Prop :=
  Met l y (Cond.code y bytes maxL ret :: zG) rm (va_Pc av (zB D q c F A sz)) (va_Ql (zPl post) (zW D q c (va_A (gw q c F A) sz)) (va_A (gw q c F A) sz)) 0 0 (va_A (gw q c F A) sz)
def zMV (l : Launch) (y : MethodName) (bytes : ByteArray) (maxL : Nat) (ret : Option FieldType) (rm : Room) (D : va_G) (q : Nat → Nat) (c : Nat → ClassId) (sz : Nat) (av : List Value) (F : Nat → Int) (A : Nat → Int → Int) (post : (Nat → Int) → (Nat → Int → Int) → Prop) : Prop :=
  Met l y (Cond.code y bytes maxL ret :: zG) rm (va_Pc av (zB D q c F A sz)) (va_Qv (zPv post) (zW D q c (va_A (gw q c F A) sz)) (va_A (gw q c F A) sz)) 0 0 (va_A (gw q c F A) sz)
theorem z_blind {D : va_G} {q : Nat → Nat} {c : Nat → ClassId} {F : Nat → Int} {A : Nat → Int → Int} {sz : Nat} {av : List Value} : FrameBlind (va_Pc av (zB D q c F A sz)) := fun a U g mk h => by
  obtain ⟨q0, q1, qP, qK, qD⟩ := h
  exact ⟨q0, q1, qP, ⟨va_K.moved (u := U) (U := U.calling g mk a) (Vm.Alike.refl U.vm) qK.1, zNW.same (u := U) rfl qK.2⟩, qD⟩
theorem z_pre {D : va_G} {q : Nat → Nat} {c : Nat → ClassId} {F : Nat → Int} {A : Nat → Int → Int} {av : List Value} {s : State} {H : Heap} {A0 : Nat → Prop} (hK : va_K D zcl (zty c) s ∧ zNW s) (hP : va_P D zcl (gw q c F A) H) (hD : va_D A0 (gw q c F A)) : ∀ U : State, U.heap = H → s.WarmedH U.vm → va_Pc av (zB D q c F A H.size) av.toArray U := fun U hU hW => ⟨rfl, by rw [hU], by rw [hU]; exact hP, ⟨va_K.moved hW.alike hK.1, zNW.warm hW hK.2⟩, hD.weaken (fun _ _ _ _ => trivial)⟩
section ZR
variable {p : Program} {l : Launch} {e : Env} {R : Room} {s : State} {m : MethodId} {args : Array Value} {below : List Frame} {meth : Method} {c0 : Code} {H : Heap} {locs : List Loc}
variable {cc : ByteArray} {pc : Nat} {ls : Array Slot} {D : va_G} {q : Nat → Nat} {c : Nat → ClassId} {F : Nat → Int} {A : Nat → Int → Int} {A0 : Nat → Prop}
theorem z_iret {post : Int → (Nat → Int) → (Nat → Int → Int) → Prop} {z : Int} (hexec : p.tables.exec = Jvm.exec) (hb : c0.code = cc) (hr : meth.sig.returnType = some .int) (hlocks : meth.locks = false) (hP : va_P D zcl (gw q c F A) H) (hD : va_D A0 (gw q c F A)) (hS : va_S A0 s.heap H locs) (hdg : decode cc pc = .ok (.ireturn, 1)) (hpost : post z F A) :
    W p l e R s m args below meth c0 H locs 0 0 (MQ below (va_Qi (zPi post) (zW D q c A0) A0) args s 0 0 A0) (F0 m pc ls [.int (iI z)]) :=
  W.iret (v := iI z) hexec hb hr (fun t ht hW => ⟨⟨iI z, (F, A), rfl, ⟨z, rfl, hpost⟩, by rw [ht]; exact hP, hD⟩, hS.F ht⟩) hS.2.2 hdg hlocks
theorem z_bret {post : Int → (Nat → Int) → (Nat → Int → Int) → Prop} {z : Int} (hexec : p.tables.exec = Jvm.exec) (hb : c0.code = cc) (hr : meth.sig.returnType = some .boolean) (hlocks : meth.locks = false) (hP : va_P D zcl (gw q c F A) H) (hD : va_D A0 (gw q c F A)) (hS : va_S A0 s.heap H locs) (hdg : decode cc pc = .ok (.ireturn, 1)) (hz : z = 0 ∨ z = 1) (hpost : post z F A) :
    W p l e R s m args below meth c0 H locs 0 0 (MQ below (va_Qi (zPi post) (zW D q c A0) A0) args s 0 0 A0) (F0 m pc ls [.int (iI z)]) :=
  W.zret (v := iI z) (ty := .boolean) hexec hb hr (by rcases hz with rfl | rfl <;> rfl) (fun t ht hW => ⟨⟨iI z, (F, A), rfl, ⟨z, rfl, hpost⟩, by rw [ht]; exact hP, hD⟩, hS.F ht⟩) hS.2.2 hdg hlocks
theorem z_lret {post : Int → (Nat → Int) → (Nat → Int → Int) → Prop} {z : Int} (hexec : p.tables.exec = Jvm.exec) (hb : c0.code = cc) (hr : meth.sig.returnType = some .long) (hlocks : meth.locks = false) (hP : va_P D zcl (gw q c F A) H) (hD : va_D A0 (gw q c F A)) (hS : va_S A0 s.heap H locs) (hdg : decode cc pc = .ok (.lreturn, 1)) (hpost : post z F A) :
    W p l e R s m args below meth c0 H locs 0 0 (MQ below (va_Ql (zPl post) (zW D q c A0) A0) args s 0 0 A0) (F0 m pc ls [.long (lI z)]) :=
  W.lret (v := lI z) hexec hb hr (fun t ht hW => ⟨⟨lI z, (F, A), rfl, ⟨z, rfl, hpost⟩, by rw [ht]; exact hP, hD⟩, hS.F ht⟩) hS.2.2 hdg hlocks
theorem z_vret {post : (Nat → Int) → (Nat → Int → Int) → Prop} (hexec : p.tables.exec = Jvm.exec) (hb : c0.code = cc) (hr : meth.sig.returnType = none) (hlocks : meth.locks = false) (hP : va_P D zcl (gw q c F A) H) (hD : va_D A0 (gw q c F A)) (hS : va_S A0 s.heap H locs) (hdg : decode cc pc = .ok (.return_, 1)) (hpost : post F A) :
    W p l e R s m args below meth c0 H locs 0 0 (MQ below (va_Qv (zPv post) (zW D q c A0) A0) args s 0 0 A0) (F0 m pc ls []) :=
  W.vret hexec hb hr (fun t ht hW => ⟨⟨(F, A), rfl, hpost, by rw [ht]; exact hP, hD⟩, hS.F ht⟩) hS.2.2 hdg hlocks
end ZR
/-- a method's body, from its entry: 'ret' is its end -/
abbrev zCtx (l : Launch) (y : MethodName) (bytes : ByteArray) (maxL : Nat) (ret : Option FieldType) (D : va_G) (c : Nat → ClassId) (p : Program) (s : State) (m : MethodId) (args : Array Value) (c0 : Code) (A0 : Nat → Prop) : Prop :=
  CallFix p m c0 bytes maxL s args (Cond.code y bytes maxL ret :: zG) y.cls ∧ (va_K D zcl (zty c) s ∧ zNW s) ∧ ∀ x, s.heap.size ≤ x → A0 x
section ZM
variable {l : Launch} {y : MethodName} {bytes : ByteArray} {maxL : Nat} {rm : Room} {D : va_G} {q : Nat → Nat} {c : Nat → ClassId} {sz : Nat} {av : List Value} {F : Nat → Int} {A : Nat → Int → Int}
theorem z_ofI {post : Int → (Nat → Int) → (Nat → Int → Int) → Prop} (hy : plainName y.cls = true) (hlen : (lg_sl av).length ≤ maxL)
    (body : ∀ (p : Program) (e : Env) (s : State) (m : MethodId) (args : Array Value) (below : List Frame) (meth : Method) (c0 : Code) (A0 : Nat → Prop) (Q : State → Prop), zCtx l y bytes maxL (some .int) D c p s m args c0 A0 →
      (∀ (z : Int) (F1 : Nat → Int) (A1 : Nat → Int → Int) (H : Heap) (locs : List Loc) (pc : Nat) (ls : Array Slot), decode bytes pc = .ok (.ireturn, 1) → va_P D zcl (gw q c F1 A1) H → va_D A0 (gw q c F1 A1) → va_S A0 s.heap H locs → post z F1 A1 → W p l e rm s m args below meth c0 H locs 0 0 Q (F0 m pc ls [.int (iI z)])) →
      va_P D zcl (gw q c F A) s.heap → va_D A0 (gw q c F A) → va_S A0 s.heap s.heap [] → ∀ ls : Array Slot, lv_has ls maxL (lv_args 0 av) → W p l e rm s m args below meth c0 s.heap [] 0 0 Q (F0 m 0 ls [])) :
    zMI l y bytes maxL (some .int) rm D q c sz av F A post := by
  refine Met.ofW (cc := bytes) (maxL := maxL) (ret := (some .int)) hy rfl ?_
  intro p e s m args below meth c0 s₁ B hml hv
  obtain ⟨rfl, hsz, hP, hK, hD0⟩ := hv
  subst hsz
  have hl := lv_entry av (n := maxL) hlen
  rw [lg_entry_eq]
  refine body p e s m _ below meth c0 (va_A (gw q c F A) s.heap.size) _ ⟨⟨B.exec, B.bytes, hml, findClass_of_methodNamed B.named, atoms_spec (ws := Cond.code y bytes maxL (some .int) :: zG) B.pre⟩, hK, fun x h => Or.inr h⟩ ?_ hP hD0.self va_S.rf _ hl
  intro z F1 A1 H locs pc ls hdg hP1 hD1 hS1 hpost
  exact z_iret B.exec B.bytes B.returns B.notSynchronized hP1 hD1 hS1 hdg hpost
theorem z_ofB {post : Int → (Nat → Int) → (Nat → Int → Int) → Prop} (hy : plainName y.cls = true) (hlen : (lg_sl av).length ≤ maxL)
    (body : ∀ (p : Program) (e : Env) (s : State) (m : MethodId) (args : Array Value) (below : List Frame) (meth : Method) (c0 : Code) (A0 : Nat → Prop) (Q : State → Prop), zCtx l y bytes maxL (some .boolean) D c p s m args c0 A0 →
      (∀ (z : Int) (F1 : Nat → Int) (A1 : Nat → Int → Int) (H : Heap) (locs : List Loc) (pc : Nat) (ls : Array Slot), decode bytes pc = .ok (.ireturn, 1) → va_P D zcl (gw q c F1 A1) H → va_D A0 (gw q c F1 A1) → va_S A0 s.heap H locs → z = 0 ∨ z = 1 → post z F1 A1 → W p l e rm s m args below meth c0 H locs 0 0 Q (F0 m pc ls [.int (iI z)])) →
      va_P D zcl (gw q c F A) s.heap → va_D A0 (gw q c F A) → va_S A0 s.heap s.heap [] → ∀ ls : Array Slot, lv_has ls maxL (lv_args 0 av) → W p l e rm s m args below meth c0 s.heap [] 0 0 Q (F0 m 0 ls [])) :
    zMI l y bytes maxL (some .boolean) rm D q c sz av F A post := by
  refine Met.ofW (cc := bytes) (maxL := maxL) (ret := (some .boolean)) hy rfl ?_
  intro p e s m args below meth c0 s₁ B hml hv
  obtain ⟨rfl, hsz, hP, hK, hD0⟩ := hv
  subst hsz
  have hl := lv_entry av (n := maxL) hlen
  rw [lg_entry_eq]
  refine body p e s m _ below meth c0 (va_A (gw q c F A) s.heap.size) _ ⟨⟨B.exec, B.bytes, hml, findClass_of_methodNamed B.named, atoms_spec (ws := Cond.code y bytes maxL (some .boolean) :: zG) B.pre⟩, hK, fun x h => Or.inr h⟩ ?_ hP hD0.self va_S.rf _ hl
  intro z F1 A1 H locs pc ls hdg hP1 hD1 hS1 hz hpost
  exact z_bret B.exec B.bytes B.returns B.notSynchronized hP1 hD1 hS1 hdg hz hpost
theorem z_ofL {post : Int → (Nat → Int) → (Nat → Int → Int) → Prop} (hy : plainName y.cls = true) (hlen : (lg_sl av).length ≤ maxL)
    (body : ∀ (p : Program) (e : Env) (s : State) (m : MethodId) (args : Array Value) (below : List Frame) (meth : Method) (c0 : Code) (A0 : Nat → Prop) (Q : State → Prop), zCtx l y bytes maxL (some .long) D c p s m args c0 A0 →
      (∀ (z : Int) (F1 : Nat → Int) (A1 : Nat → Int → Int) (H : Heap) (locs : List Loc) (pc : Nat) (ls : Array Slot), decode bytes pc = .ok (.lreturn, 1) → va_P D zcl (gw q c F1 A1) H → va_D A0 (gw q c F1 A1) → va_S A0 s.heap H locs → post z F1 A1 → W p l e rm s m args below meth c0 H locs 0 0 Q (F0 m pc ls [.long (lI z)])) →
      va_P D zcl (gw q c F A) s.heap → va_D A0 (gw q c F A) → va_S A0 s.heap s.heap [] → ∀ ls : Array Slot, lv_has ls maxL (lv_args 0 av) → W p l e rm s m args below meth c0 s.heap [] 0 0 Q (F0 m 0 ls [])) :
    zML l y bytes maxL (some .long) rm D q c sz av F A post := by
  refine Met.ofW (cc := bytes) (maxL := maxL) (ret := (some .long)) hy rfl ?_
  intro p e s m args below meth c0 s₁ B hml hv
  obtain ⟨rfl, hsz, hP, hK, hD0⟩ := hv
  subst hsz
  have hl := lv_entry av (n := maxL) hlen
  rw [lg_entry_eq]
  refine body p e s m _ below meth c0 (va_A (gw q c F A) s.heap.size) _ ⟨⟨B.exec, B.bytes, hml, findClass_of_methodNamed B.named, atoms_spec (ws := Cond.code y bytes maxL (some .long) :: zG) B.pre⟩, hK, fun x h => Or.inr h⟩ ?_ hP hD0.self va_S.rf _ hl
  intro z F1 A1 H locs pc ls hdg hP1 hD1 hS1 hpost
  exact z_lret B.exec B.bytes B.returns B.notSynchronized hP1 hD1 hS1 hdg hpost
theorem z_ofV {post : (Nat → Int) → (Nat → Int → Int) → Prop} (hy : plainName y.cls = true) (hlen : (lg_sl av).length ≤ maxL)
    (body : ∀ (p : Program) (e : Env) (s : State) (m : MethodId) (args : Array Value) (below : List Frame) (meth : Method) (c0 : Code) (A0 : Nat → Prop) (Q : State → Prop), zCtx l y bytes maxL none D c p s m args c0 A0 →
      (∀ (F1 : Nat → Int) (A1 : Nat → Int → Int) (H : Heap) (locs : List Loc) (pc : Nat) (ls : Array Slot), decode bytes pc = .ok (.return_, 1) → va_P D zcl (gw q c F1 A1) H → va_D A0 (gw q c F1 A1) → va_S A0 s.heap H locs → post F1 A1 → W p l e rm s m args below meth c0 H locs 0 0 Q (F0 m pc ls [])) →
      va_P D zcl (gw q c F A) s.heap → va_D A0 (gw q c F A) → va_S A0 s.heap s.heap [] → ∀ ls : Array Slot, lv_has ls maxL (lv_args 0 av) → W p l e rm s m args below meth c0 s.heap [] 0 0 Q (F0 m 0 ls [])) :
    zMV l y bytes maxL none rm D q c sz av F A post := by
  refine Met.ofW (cc := bytes) (maxL := maxL) (ret := none) hy rfl ?_
  intro p e s m args below meth c0 s₁ B hml hv
  obtain ⟨rfl, hsz, hP, hK, hD0⟩ := hv
  subst hsz
  have hl := lv_entry av (n := maxL) hlen
  rw [lg_entry_eq]
  refine body p e s m _ below meth c0 (va_A (gw q c F A) s.heap.size) _ ⟨⟨B.exec, B.bytes, hml, findClass_of_methodNamed B.named, atoms_spec (ws := Cond.code y bytes maxL none :: zG) B.pre⟩, hK, fun x h => Or.inr h⟩ ?_ hP hD0.self va_S.rf _ hl
  intro F1 A1 H locs pc ls hdg hP1 hD1 hS1 hpost
  exact z_vret B.exec B.bytes B.returns B.notSynchronized hP1 hD1 hS1 hdg hpost
end ZM
theorem z_gS {w0 w1 : Cond} (h5 : w1 ∈ zG) : GoodIn (w0 :: zG) (w1 :: zG) := fun w h => by
  rcases List.mem_cons.mp h with rfl | h
  · exact ⟨List.mem_cons_of_mem _ h5, good_of_word (List.mem_filter.mp h5).2⟩
  · exact ⟨List.mem_cons_of_mem _ h, good_of_word (List.mem_filter.mp h).2⟩
theorem z_gA {w0 : Cond} {pre ws : List Cond} (hp : ∀ w ∈ pre, w ∈ zG) (h : GoodIn (w0 :: zG) ws) : GoodIn (w0 :: zG) (pre ++ ws) := fun w hw => by
  rcases List.mem_append.mp hw with h1 | h1
  · exact ⟨List.mem_cons_of_mem _ (hp w h1), good_of_word (List.mem_filter.mp (hp w h1)).2⟩
  · exact h w h1
/-- which way a call goes: how many words, the words themselves -/
abbrev zCW (R : Room) (y : MethodName) (maxL : Nat) (rm : Room) (n : Nat) : Prop := (y.cls ≠ "java/lang/invoke/MethodHandle" ∧ y.cls ≠ "java/lang/invoke/VarHandle" ∧ (parseMethodDescriptor y.desc).map (fun d => d.parameters.length) = some n) ∧ (rm.frames + 1 ≤ R.frames ∧ 8 + (maxL + 11) + rm.locals ≤ R.locals) ∧ rm.cells = 0 ∧ rm.slots = 0
section ZC
variable {p : Program} {l : Launch} {e : Env} {R : Room} {s : State} {m : MethodId} {args : Array Value} {below : List Frame} {meth : Method} {c0 : Code} {H : Heap} {locs : List Loc} {cells slots : Nat} {Q : State → Prop}
variable {cc bytes : ByteArray} {maxL nL n index : Nat} {ret : Option FieldType} {rm : Room} {w0 : Cond} {own C host : String} {y : MethodName} {b : Addr} {As rest st0 : List Value} {pc : Nat} {ls : Array Slot}
variable {D : va_G} {q : Nat → Nat} {c : Nat → ClassId} {F : Nat → Int} {A : Nat → Int → Int} {A0 : Nat → Prop}
/-- the runs -/
theorem z_runV {Qc : Array Value → State → Outcome → State → Prop} {free : Addr → Prop} {k ci : Nat} {r : vw_C} {fs : List Value} (S : CallFix p m c0 cc nL s args (w0 :: zG) own) (hM : Met l y (Cond.code y bytes maxL ret :: zG) rm (va_Pc (.ref b :: As) (zB D q c F A H.size)) Qc 0 0 free)
    (h1 : Cond.methodLink own index y ∈ zG) (h2 : Cond.instanceMethod y ∈ zG) (h3 : Cond.selects y.cls y y ∈ zG) (h4 : Cond.initialized y.cls ∈ zG) (h5 : Cond.code y bytes maxL ret ∈ zG) (hd : zCW R y maxL rm n)
    (hK : va_K D zcl (zty c) s ∧ zNW s) (hP : va_P D zcl (gw q c F A) H) (hD : va_D A0 (gw q c F A)) (hk : (gw q c F A)[k]? = some (b, .inr (ci, fs))) (hc : zcl[ci]? = some r) (hr : r.1 = y.cls) (hn : As.length = n) (hsz : ls.size = nL) (hst : st0 = As.reverse ++ .ref b :: rest) (hW : (rest.map fun v => v.category).sum ≤ 8) (hdg : decode cc pc = .ok (.invokevirtual index, 3)) (hf : cells ≤ R.cells ∧ slots ≤ R.slots) :
    va_Run p l e R s m args below meth c0 H locs cells slots 0 0 (F0 m pc ls st0) rest (Qc (Value.ref b :: As).toArray) free := by
  refine va_runV (C := y.cls) S hM (cwV n S.2.2.2.2 (z_gA (fun w hw => ?_) (z_gS h5)) rfl hd.2.2.1 hd.2.2.2 ⟨rfl, hd.1⟩ hd.2.1) ⟨z_blind, by rw [← hr]; exact va_recv hK.1 hP hc hk, z_pre hK hP hD⟩ rfl hn hsz hst (lv_room hW) hdg hf
  simp only [List.mem_cons, List.not_mem_nil, or_false] at hw
  rcases hw with rfl | rfl | rfl | rfl <;> assumption
theorem z_runVN {Qc : Array Value → State → Outcome → State → Prop} {free : Addr → Prop} {k ci : Nat} {r : vw_C} {fs : List Value} (S : CallFix p m c0 cc nL s args (w0 :: zG) own) (hM : Met l y (Cond.code y bytes maxL ret :: zG) rm (va_Pc (.ref b :: As) (zB D q c F A H.size)) Qc 0 0 free)
    (h1 : Cond.methodLinkNest own index y host ∈ zNs) (h2 : Cond.instanceMethod y ∈ zG) (h3 : Cond.selects y.cls y y ∈ zG) (h4 : Cond.initialized y.cls ∈ zG) (h5 : Cond.code y bytes maxL ret ∈ zG) (hd : zCW R y maxL rm n)
    (hK : va_K D zcl (zty c) s ∧ zNW s) (hP : va_P D zcl (gw q c F A) H) (hD : va_D A0 (gw q c F A)) (hk : (gw q c F A)[k]? = some (b, .inr (ci, fs))) (hc : zcl[ci]? = some r) (hr : r.1 = y.cls) (hn : As.length = n) (hsz : ls.size = nL) (hst : st0 = As.reverse ++ .ref b :: rest) (hW : (rest.map fun v => v.category).sum ≤ 8) (hdg : decode cc pc = .ok (.invokevirtual index, 3)) (hf : cells ≤ R.cells ∧ slots ≤ R.slots) :
    va_Run p l e R s m args below meth c0 H locs cells slots 0 0 (F0 m pc ls st0) rest (Qc (Value.ref b :: As).toArray) free := by
  have ok : ∀ w ∈ zG, w.before args s = true := fun w h => S.2.2.2.2 w (List.mem_cons_of_mem _ h)
  exact va_runVN (C := y.cls) S hM ⟨va_cnB n S.2.2.2.2 (z_gS h5) rfl hd.2.2.1 hd.2.2.2 (hK.2 _ h1) (ok _ h4) hd.1 hd.2.1, ok _ h2, ok _ h3⟩ ⟨z_blind, by rw [← hr]; exact va_recv hK.1 hP hc hk, z_pre hK hP hD⟩ rfl hn hsz hst (lv_room hW) hdg hf
theorem z_runS {Qc : Array Value → State → Outcome → State → Prop} {free : Addr → Prop} (S : CallFix p m c0 cc nL s args (w0 :: zG) own) (hM : Met l y (Cond.code y bytes maxL ret :: zG) rm (va_Pc As (zB D q c F A H.size)) Qc 0 0 free)
    (h1 : Cond.methodLink own index y ∈ zG) (h2 : Cond.static y ∈ zG) (h4 : Cond.initialized own ∈ zG) (h5 : Cond.code y bytes maxL ret ∈ zG) (hd : zCW R y maxL rm n) (ho : y.cls = own)
    (hK : va_K D zcl (zty c) s ∧ zNW s) (hP : va_P D zcl (gw q c F A) H) (hD : va_D A0 (gw q c F A)) (hn : As.length = n) (hsz : ls.size = nL) (hst : st0 = As.reverse ++ rest) (hW : (rest.map fun v => v.category).sum ≤ 8) (hdg : decode cc pc = .ok (.invokestatic index, 3)) (hf : cells ≤ R.cells ∧ slots ≤ R.slots) :
    va_Run p l e R s m args below meth c0 H locs cells slots 0 0 (F0 m pc ls st0) rest (Qc As.toArray) free := by
  refine va_runS S hM (cwS n S.2.2.2.2 (z_gA (fun w hw => ?_) (z_gS h5)) rfl hd.2.2.1 hd.2.2.2 ⟨ho, hd.1⟩ hd.2.1) ⟨z_blind, z_pre hK hP hD⟩ rfl hn hsz hst (lv_room hW) hdg hf
  simp only [List.mem_cons, List.not_mem_nil, or_false] at hw
  rcases hw with rfl | rfl | rfl <;> assumption
theorem z_runSN {Qc : Array Value → State → Outcome → State → Prop} {free : Addr → Prop} (S : CallFix p m c0 cc nL s args (w0 :: zG) own) (hM : Met l y (Cond.code y bytes maxL ret :: zG) rm (va_Pc As (zB D q c F A H.size)) Qc 0 0 free)
    (h1 : Cond.methodLinkNest own index y host ∈ zNs) (h2 : Cond.static y ∈ zG) (h4 : Cond.initialized y.cls ∈ zG) (h5 : Cond.code y bytes maxL ret ∈ zG) (hd : zCW R y maxL rm n)
    (hK : va_K D zcl (zty c) s ∧ zNW s) (hP : va_P D zcl (gw q c F A) H) (hD : va_D A0 (gw q c F A)) (hn : As.length = n) (hsz : ls.size = nL) (hst : st0 = As.reverse ++ rest) (hW : (rest.map fun v => v.category).sum ≤ 8) (hdg : decode cc pc = .ok (.invokestatic index, 3)) (hf : cells ≤ R.cells ∧ slots ≤ R.slots) :
    va_Run p l e R s m args below meth c0 H locs cells slots 0 0 (F0 m pc ls st0) rest (Qc As.toArray) free := by
  have ok : ∀ w ∈ zG, w.before args s = true := fun w h => S.2.2.2.2 w (List.mem_cons_of_mem _ h)
  exact va_runSN S hM ⟨va_cnB n S.2.2.2.2 (z_gS h5) rfl hd.2.2.1 hd.2.2.2 (hK.2 _ h1) (ok _ h4) hd.1 hd.2.1, ok _ h2, trivial⟩ ⟨z_blind, z_pre hK hP hD⟩ rfl hn hsz hst (lv_room hW) hdg hf
/-- behind a run -/
theorem z_goi {a : Array Value} {H0 : Heap} {post : Int → (Nat → Int) → (Nat → Int → Int) → Prop} (hr : va_Run p l e R s m args below meth c0 H locs cells slots 0 0 (F0 m pc ls st0) rest (va_Qi (zPi post) (zW D q c (va_A (gw q c F A) H.size)) (va_A (gw q c F A) H.size) a) (va_A (gw q c F A) H.size)) (hD : va_D A0 (gw q c F A)) (hS : va_S A0 H0 H locs) (hA : ∀ x, H0.size ≤ x → A0 x)
    (kk : ∀ (z : Int) (F1 : Nat → Int) (A1 : Nat → Int → Int) (H1 : Heap) (locs1 : List Loc), post z F1 A1 → va_P D zcl (gw q c F1 A1) H1 → va_D A0 (gw q c F1 A1) → va_S A0 H0 H1 locs1 → W p l e R s m args below meth c0 H1 locs1 cells slots Q (F0 m (pc + 3) ls (.int (iI z) :: rest))) : W p l e R s m args below meth c0 H locs cells slots Q (F0 m pc ls st0) :=
  x_calli (gwf := fun u : zS => gw q c u.1 u.2) hr hD hS hA (fun r u H1 locs1 hp h1 h2 h3 => by
    obtain ⟨z, rfl, hp⟩ := hp
    exact kk z u.1 u.2 H1 locs1 hp h1 h2 h3)
theorem z_gov {a : Array Value} {H0 : Heap} {post : (Nat → Int) → (Nat → Int → Int) → Prop} (hr : va_Run p l e R s m args below meth c0 H locs cells slots 0 0 (F0 m pc ls st0) rest (va_Qv (zPv post) (zW D q c (va_A (gw q c F A) H.size)) (va_A (gw q c F A) H.size) a) (va_A (gw q c F A) H.size)) (hD : va_D A0 (gw q c F A)) (hS : va_S A0 H0 H locs) (hA : ∀ x, H0.size ≤ x → A0 x)
    (kk : ∀ (F1 : Nat → Int) (A1 : Nat → Int → Int) (H1 : Heap) (locs1 : List Loc), post F1 A1 → va_P D zcl (gw q c F1 A1) H1 → va_D A0 (gw q c F1 A1) → va_S A0 H0 H1 locs1 → W p l e R s m args below meth c0 H1 locs1 cells slots Q (F0 m (pc + 3) ls rest)) : W p l e R s m args below meth c0 H locs cells slots Q (F0 m pc ls st0) :=
  x_callv (gwf := fun u : zS => gw q c u.1 u.2) hr hD hS hA (fun u H1 locs1 hp h1 h2 h3 => kk u.1 u.2 H1 locs1 hp h1 h2 h3)
end ZC
end
section
def sumN (f : Int → Int) : Nat → Int
  | 0 => 0
  | n + 1 => sumN f n + f n
/-- the sum of f below i -/
def sI (f : Int → Int) (i : Int) : Int := sumN f i.toNat
theorem sI_0 {f : Int → Int} : sI f 0 = 0 := rfl
theorem sI_s {f : Int → Int} {i : Int} (h : 0 ≤ i) : sI f (i + 1) = sI f i + f i := by
  unfold sI
  rw [show (i + 1).toNat = i.toNat + 1 by omega]
  show sumN f i.toNat + f (i.toNat : Int) = _
  rw [show ((i.toNat : Nat) : Int) = i by omega]
section XM
variable {p : Program} {l : Launch} {e : Env} {R : Room} {s : State} {m : MethodId} {args : Array Value} {below : List Frame} {meth : Method} {c : Code} {H : Heap} {locs : List Loc} {cells slots : Nat} {Q : State → Prop}
variable {pc : Nat} {ls : Array Slot} {rest : List Value}
theorem x_mmax {cc : ByteArray} (hexec : p.tables.exec = Jvm.exec) (hb : c.code = cc) (hml : c.maxLocals = ls.size) {own : String} {index : Nat} (hown : s.vm.findClass own = some m.cls) (hlink : (Cond.methodLink own index Lib.Math.max.name).before args s = true) (hstat : (Cond.static Lib.Math.max.name).before args s = true) (hini : (Cond.initialized "java/lang/Math").before args s = true) (hcode : (Cond.code Lib.Math.max.name Lib.Math.max.code 2 (some .int)).before args s = true)
    (hframes : 1 ≤ R.frames) (hlocals : (rest.map fun v => v.category).sum + 13 ≤ R.locals) (hc : cells ≤ R.cells) (hs : slots ≤ R.slots) {x y : Int} (hx : ib x) (hy : ib y) (hdg : decode cc pc = .ok (.invokestatic index, 3))
    (kk : W p l e R s m args below meth c H locs cells slots Q (F0 m (pc + 3) ls (.int (iI (max x y)) :: rest))) : W p l e R s m args below meth c H locs cells slots Q (F0 m pc ls (.int (iI y) :: .int (iI x) :: rest)) := by
  refine va_mmax hexec hb hml hown hlink hstat hini hcode hframes hlocals hc hs hdg ?_
  have e1 : (if iI x < iI y then iI y else iI x) = iI (max x y) := by
    by_cases h : x < y
    · rw [if_pos ((iI_lt hx hy).mpr h), show max x y = y by omega]
    · rw [if_neg (fun z => h ((iI_lt hx hy).mp z)), show max x y = x by omega]
  rw [e1]
  exact kk
theorem x_mmin {cc : ByteArray} (hexec : p.tables.exec = Jvm.exec) (hb : c.code = cc) (hml : c.maxLocals = ls.size) {own : String} {index : Nat} (hown : s.vm.findClass own = some m.cls) (hlink : (Cond.methodLink own index Lib.Math.min.name).before args s = true) (hstat : (Cond.static Lib.Math.min.name).before args s = true) (hini : (Cond.initialized "java/lang/Math").before args s = true) (hcode : (Cond.code Lib.Math.min.name Lib.Math.min.code 2 (some .int)).before args s = true)
    (hframes : 1 ≤ R.frames) (hlocals : (rest.map fun v => v.category).sum + 13 ≤ R.locals) (hc : cells ≤ R.cells) (hs : slots ≤ R.slots) {x y : Int} (hx : ib x) (hy : ib y) (hdg : decode cc pc = .ok (.invokestatic index, 3))
    (kk : W p l e R s m args below meth c H locs cells slots Q (F0 m (pc + 3) ls (.int (iI (min x y)) :: rest))) : W p l e R s m args below meth c H locs cells slots Q (F0 m pc ls (.int (iI y) :: .int (iI x) :: rest)) := by
  refine va_mmin hexec hb hml hown hlink hstat hini hcode hframes hlocals hc hs hdg ?_
  have e1 : (if iI y < iI x then iI y else iI x) = iI (min x y) := by
    by_cases h : y < x
    · rw [if_pos ((iI_lt hy hx).mpr h), show min x y = y by omega]
    · rw [if_neg (fun z => h ((iI_lt hy hx).mp z)), show min x y = x by omega]
  rw [e1]
  exact kk
end XM
/-- an array's places below i were changed where P holds: one place more -/
theorem lu_n {g f h : Int → Int} {P : Int → Prop} [DecidablePred P] {i : Int} (he : ∀ a, g a = if 0 ≤ a ∧ a < i ∧ P a then f a else h a) (hp : ¬ P i) : ∀ a, g a = if 0 ≤ a ∧ a < i + 1 ∧ P a then f a else h a := by
  intro a
  rw [he a]
  by_cases e : a = i
  · subst e; rw [if_neg (fun z => hp z.2.2), if_neg (fun z => hp z.2.2)]
  · by_cases hh : 0 ≤ a ∧ a < i ∧ P a
    · rw [if_pos hh, if_pos ⟨hh.1, by omega, hh.2.2⟩]
    · rw [if_neg hh, if_neg (fun z => hh ⟨z.1, by omega, z.2.2⟩)]
theorem lu_y {g f h : Int → Int} {P : Int → Prop} [DecidablePred P] {i v : Int} (he : ∀ a, g a = if 0 ≤ a ∧ a < i ∧ P a then f a else h a) (hi : 0 ≤ i) (hp : P i) (hv : v = f i) : ∀ a, upI g i v a = if 0 ≤ a ∧ a < i + 1 ∧ P a then f a else h a := by
  intro a
  by_cases e : a = i
  · subst e; rw [upI_s, if_pos ⟨hi, by omega, hp⟩]; exact hv
  · rw [upI_n e, he a]
    by_cases hh : 0 ≤ a ∧ a < i ∧ P a
    · rw [if_pos hh, if_pos ⟨hh.1, by omega, hh.2.2⟩]
    · rw [if_neg hh, if_neg (fun z => hh ⟨z.1, by omega, z.2.2⟩)]
theorem lu_o {g f h : Int → Int} {P : Int → Prop} [DecidablePred P] {i : Int} (he : ∀ a, g a = if 0 ≤ a ∧ a < i ∧ P a then f a else h a) : g i = h i := by
  rw [he i, if_neg (fun z => by omega)]
/-- the greatest common divisor of two numbers that aren't below 0 -/
def gI (a b : Int) : Int := (Nat.gcd a.toNat b.toNat : Int)
theorem gI_0 {a : Int} (h : 0 ≤ a) : gI a 0 = a := by
  show ((Nat.gcd a.toNat 0 : Nat) : Int) = a
  rw [Nat.gcd_zero_right]; omega
theorem tm_e {x y : Int} (hx : 0 ≤ x) : x.tmod y = x % y := Int.tmod_eq_emod_of_nonneg hx
theorem tm_lt {x y : Int} (hx : 0 ≤ x) (hy : 0 < y) : 0 ≤ x.tmod y ∧ x.tmod y < y := ⟨Int.tmod_nonneg _ hx, Int.tmod_lt_of_pos _ hy⟩
theorem tm_half {x y : Int} (hy : 0 < y) (h : y < x) : 2 * x.tmod y ≤ x := by
  rw [tm_e (by omega)]
  have h1 := Int.emod_add_mul_ediv x y
  have h2 := Int.emod_lt_of_pos x hy
  have h3 : 1 ≤ x / y := by
    have := Int.ediv_le_ediv hy (Int.le_of_lt h)
    rwa [Int.ediv_self (by omega)] at this
  have h4 : y * 1 ≤ y * (x / y) := Int.mul_le_mul_of_nonneg_left h3 (by omega)
  omega
theorem gI_step {x y : Int} (hx : 0 ≤ x) (hy : 0 < y) : gI y (x.tmod y) = gI x y := by
  obtain ⟨m, rfl⟩ : ∃ m : Nat, x = (m : Int) := ⟨x.toNat, by omega⟩
  obtain ⟨n, rfl⟩ : ∃ n : Nat, y = (n : Int) := ⟨y.toNat, by omega⟩
  unfold gI
  rw [tm_e hx, ← Int.natCast_emod, Int.toNat_natCast, Int.toNat_natCast, Int.toNat_natCast, Nat.gcd_comm n, ← Nat.gcd_rec, Nat.gcd_comm]
theorem gI_pos {a b : Int} (h : 0 < a) : 1 ≤ gI a b := by
  unfold gI
  have := Nat.gcd_pos_of_pos_left b.toNat (show 0 < a.toNat by omega)
  omega
theorem gI_le {a b : Int} (h : 0 < a) : gI a b ≤ a := by
  unfold gI
  have := Nat.le_of_dvd (show 0 < a.toNat by omega) (Nat.gcd_dvd_left a.toNat b.toNat)
  omega
/-- Euclid's steps: how small the numbers are behind i of them -/
def eu_ok (x y i : Int) : Prop := i = 0 ∨ (y < x ∧ x * y * 2 ^ i.toNat ≤ 9223372036854775808)
theorem eu_next {x y i : Int} (h : eu_ok x y i) (hi : 0 ≤ i) (hx : 0 ≤ x ∧ x ≤ 2147483647) (hy : 0 < y ∧ y ≤ 2147483647) : eu_ok y (x.tmod y) (i + 1) := by
  right
  have h1 := tm_lt hx.1 hy.1
  refine ⟨h1.2, ?_⟩
  rw [show (i + 1).toNat = i.toNat + 1 by omega, Int.pow_succ]
  rcases h with rfl | ⟨h2, h3⟩
  · have e1 : y * x.tmod y ≤ 2147483647 * 2147483647 := Int.mul_le_mul hy.2 (by omega) h1.1 (by decide)
    show y * x.tmod y * (2 ^ 0 * 2) ≤ _
    have : (2 : Int) ^ 0 * 2 = 2 := by decide
    rw [this]
    omega
  · have e1 : y * (2 * x.tmod y) ≤ y * x := Int.mul_le_mul_of_nonneg_left (tm_half hy.1 h2) (by omega)
    have e2 : y * x.tmod y * (2 ^ i.toNat * 2) = (y * (2 * x.tmod y)) * 2 ^ i.toNat := by
      rw [Int.mul_comm (2 ^ i.toNat) 2, ← Int.mul_assoc, Int.mul_assoc y, Int.mul_comm (x.tmod y) 2]
    have e3 : (y * (2 * x.tmod y)) * 2 ^ i.toNat ≤ (y * x) * 2 ^ i.toNat := Int.mul_le_mul_of_nonneg_right e1 (Int.le_of_lt (Int.pow_pos (by decide)))
    rw [e2]
    rw [Int.mul_comm y x] at e3
    omega
theorem eu_end {x y i : Int} (h : eu_ok x y i) (hi : 100 ≤ i) (hx : 0 ≤ x) (hy : 0 ≤ y) : y = 0 := by
  rcases h with rfl | ⟨h2, h3⟩
  · omega
  · rcases Int.lt_or_eq_of_le hy with h | h
    · exfalso
      have e1 : 1 * 1 ≤ x * y := Int.mul_le_mul (by omega) (by omega) (by decide) hx
      have e2 : (2 : Int) ^ 100 ≤ 2 ^ i.toNat := by
        have h9 := Nat.pow_le_pow_right (n := 2) (by decide) (show 100 ≤ i.toNat by omega)
        exact_mod_cast h9
      have e3 : (1 * 1) * (2 : Int) ^ 100 ≤ x * y * 2 ^ i.toNat := Int.mul_le_mul e1 e2 (by decide) (by omega)
      have e4 : (9223372036854775808 : Int) < (1 * 1) * (2 : Int) ^ 100 := by decide
      omega
    · exact h.symm
theorem mulb {x y : Int} {X Y : Int} (hx : 1 ≤ x ∧ x ≤ X) (hy : 1 ≤ y ∧ y ≤ Y) : 1 ≤ x * y ∧ x * y ≤ X * Y := by
  have h1 : 1 * 1 ≤ x * y := Int.mul_le_mul hx.1 hy.1 (by decide) (by omega)
  have h2 : x * y ≤ X * Y := Int.mul_le_mul hx.2 hy.2 (by omega) (by omega)
  exact ⟨by omega, h2⟩
end
section
abbrev zr_C_isWithin : Room := ({ frames := 0, cells := 0, slots := 0, locals := 0 } : Room)
set_option maxHeartbeats 4000000 in
set_option maxRecDepth 100000 in
theorem c_C_isWithin (l : Launch) (D : va_G) (q : Nat → Nat) (c : Nat → ClassId) (sz : Nat) (F : Nat → Int) (A : Nat → Int → Int) (x : Int) (lo : Int) (hi : Int) (bx : ib x) (blo : ib lo) (bhi : ib hi) : zMI l zy_C_isWithin zc_C_isWithin 3 (some .boolean) zr_C_isWithin D q c sz [.int (iI (x)), .int (iI (lo)), .int (iI (hi))] F A (fun z F1 A1 => F1 = F ∧ A1 = A ∧ z = if lo ≤ x ∧ x ≤ hi then 1 else 0) := by
  refine z_ofB (by decide) (Nat.le_of_ble_eq_true rfl) ?_
  intro p e s m args below meth c0 A0 Q C0 ret hP hD hS ls hl
  obtain ⟨S, hK, hA⟩ := C0
  have hx := S.1
  have hb := S.2.1
  have hown := S.2.2.2.1
  have hts : ∀ w ∈ zG, w.before args s = true := fun w h => S.2.2.2.2 w (List.mem_cons_of_mem _ h)
  have hl : lv_has ls 3 [(0, .int (iI (x))), (1, .int (iI (lo))), (2, .int (iI (hi)))] := hl
  refine lv_iload_n hx hb zd_C_isWithin_0 rfl (lv_at hl 0 rfl) ?_
  refine lv_iload_n hx hb zd_C_isWithin_1 rfl (lv_at hl 1 rfl) ?_
  refine x_icmp_lt (tgt := 14) hx hb zd_C_isWithin_2 (by decide) (⟨by omega, by omega⟩) (⟨by omega, by omega⟩) (fun h_2 => ?_) (fun h_2 => ?_)
  · refine lv_iconst (v := iI (0)) hx hb zd_C_isWithin_14 rfl ?_
    exact ret _ _ _ _ _ _ _ zd_C_isWithin_15 hP hD hS (by omega) (by refine ⟨rfl, rfl, ?_⟩; split <;> omega)
  · refine lv_iload_n hx hb zd_C_isWithin_5 rfl (lv_at hl 0 rfl) ?_
    refine lv_iload_n hx hb zd_C_isWithin_6 rfl (lv_at hl 2 rfl) ?_
    refine x_icmp_gt (tgt := 14) hx hb zd_C_isWithin_7 (by decide) (⟨by omega, by omega⟩) (⟨by omega, by omega⟩) (fun h_7 => ?_) (fun h_7 => ?_)
    · refine lv_iconst (v := iI (0)) hx hb zd_C_isWithin_14 rfl ?_
      exact ret _ _ _ _ _ _ _ zd_C_isWithin_15 hP hD hS (by omega) (by refine ⟨rfl, rfl, ?_⟩; split <;> omega)
    · refine lv_iconst (v := iI (1)) hx hb zd_C_isWithin_10 rfl ?_
      refine lv_goto (tgt := 15) hx hb zd_C_isWithin_11 (by decide) ?_
      exact ret _ _ _ _ _ _ _ zd_C_isWithin_15 hP hD hS (by omega) (by refine ⟨rfl, rfl, ?_⟩; split <;> omega)

abbrev zr_X_in : Room := ({ frames := 0, cells := 0, slots := 0, locals := 0 } : Room)
set_option maxHeartbeats 4000000 in
set_option maxRecDepth 100000 in
theorem c_X_in (l : Launch) (D : va_G) (q : Nat → Nat) (c : Nat → ClassId) (sz : Nat) (F : Nat → Int) (A : Nat → Int → Int) (x : Int) (lo : Int) (hi : Int) (bx : ib x) (blo : ib lo) (bhi : ib hi) : zMI l zy_X_in zc_X_in 3 (some .boolean) zr_X_in D q c sz [.int (iI (x)), .int (iI (lo)), .int (iI (hi))] F A (fun z F1 A1 => F1 = F ∧ A1 = A ∧ z = if lo ≤ x ∧ x ≤ hi then 1 else 0) := by
  refine z_ofB (by decide) (Nat.le_of_ble_eq_true rfl) ?_
  intro p e s m args below meth c0 A0 Q C0 ret hP hD hS ls hl
  obtain ⟨S, hK, hA⟩ := C0
  have hx := S.1
  have hb := S.2.1
  have hown := S.2.2.2.1
  have hts : ∀ w ∈ zG, w.before args s = true := fun w h => S.2.2.2.2 w (List.mem_cons_of_mem _ h)
  have hl : lv_has ls 3 [(0, .int (iI (x))), (1, .int (iI (lo))), (2, .int (iI (hi)))] := hl
  refine lv_iload_n hx hb zd_X_in_0 rfl (lv_at hl 0 rfl) ?_
  refine lv_iload_n hx hb zd_X_in_1 rfl (lv_at hl 1 rfl) ?_
  refine x_icmp_lt (tgt := 14) hx hb zd_X_in_2 (by decide) (⟨by omega, by omega⟩) (⟨by omega, by omega⟩) (fun h_2 => ?_) (fun h_2 => ?_)
  · refine lv_iconst (v := iI (0)) hx hb zd_X_in_14 rfl ?_
    exact ret _ _ _ _ _ _ _ zd_X_in_15 hP hD hS (by omega) (by refine ⟨rfl, rfl, ?_⟩; split <;> omega)
  · refine lv_iload_n hx hb zd_X_in_5 rfl (lv_at hl 0 rfl) ?_
    refine lv_iload_n hx hb zd_X_in_6 rfl (lv_at hl 2 rfl) ?_
    refine x_icmp_gt (tgt := 14) hx hb zd_X_in_7 (by decide) (⟨by omega, by omega⟩) (⟨by omega, by omega⟩) (fun h_7 => ?_) (fun h_7 => ?_)
    · refine lv_iconst (v := iI (0)) hx hb zd_X_in_14 rfl ?_
      exact ret _ _ _ _ _ _ _ zd_X_in_15 hP hD hS (by omega) (by refine ⟨rfl, rfl, ?_⟩; split <;> omega)
    · refine lv_iconst (v := iI (1)) hx hb zd_X_in_10 rfl ?_
      refine lv_goto (tgt := 15) hx hb zd_X_in_11 (by decide) ?_
      exact ret _ _ _ _ _ _ _ zd_X_in_15 hP hD hS (by omega) (by refine ⟨rfl, rfl, ?_⟩; split <;> omega)

abbrev zr_N_hasActor : Room := ({ frames := 0, cells := 0, slots := 0, locals := 0 } : Room)
set_option maxHeartbeats 4000000 in
set_option maxRecDepth 100000 in
theorem c_N_hasActor (l : Launch) (D : va_G) (q : Nat → Nat) (c : Nat → ClassId) (sz : Nat) (F : Nat → Int) (A : Nat → Int → Int) (a : Int) (ba : ib a) (hn : 1 ≤ F 100 ∧ F 100 ≤ 8) : zMI l zy_N_hasActor zc_N_hasActor 2 (some .boolean) zr_N_hasActor D q c sz [.ref (q 1), .int (iI (a))] F A (fun z F1 A1 => F1 = F ∧ A1 = A ∧ z = if 0 ≤ a ∧ a < F 100 then 1 else 0) := by
  refine z_ofB (by decide) (Nat.le_of_ble_eq_true rfl) ?_
  intro p e s m args below meth c0 A0 Q C0 ret hP hD hS ls hl
  obtain ⟨S, hK, hA⟩ := C0
  have hx := S.1
  have hb := S.2.1
  have hown := S.2.2.2.1
  have hts : ∀ w ∈ zG, w.before args s = true := fun w h => S.2.2.2.2 w (List.mem_cons_of_mem _ h)
  have hl : lv_has ls 2 [(0, .ref (q 1)), (1, .int (iI (a)))] := hl
  refine lv_iload_n hx hb zd_N_hasActor_0 rfl (lv_at hl 1 rfl) ?_
  refine x_if_lt (tgt := 16) hx hb zd_N_hasActor_1 (by decide) (⟨by omega, by omega⟩) (fun h_1 => ?_) (fun h_1 => ?_)
  · refine lv_iconst (v := iI (0)) hx hb zd_N_hasActor_16 rfl ?_
    exact ret _ _ _ _ _ _ _ zd_N_hasActor_17 hP hD hS (by omega) (by refine ⟨rfl, rfl, ?_⟩; split <;> omega)
  · refine lv_iload_n hx hb zd_N_hasActor_4 rfl (lv_at hl 1 rfl) ?_
    refine lv_aload_n hx hb zd_N_hasActor_5 rfl (lv_at hl 0 rfl) ?_
    refine va_get (D := D) (ci := 1) (v := .int (iI (F 100))) (C := zR_N) (T := zT_N) (N := 11) hx hb hts zi_N hown hK.1 hP 1 ga_1 rfl 0 (by decide) (hts _ zw_33) (fun _ h9 => h9) rfl zd_N_hasActor_6 ?_
    refine x_icmp_ge (tgt := 16) hx hb zd_N_hasActor_9 (by decide) (⟨by omega, by omega⟩) (⟨by omega, by omega⟩) (fun h_9 => ?_) (fun h_9 => ?_)
    · refine lv_iconst (v := iI (0)) hx hb zd_N_hasActor_16 rfl ?_
      exact ret _ _ _ _ _ _ _ zd_N_hasActor_17 hP hD hS (by omega) (by refine ⟨rfl, rfl, ?_⟩; split <;> omega)
    · refine lv_iconst (v := iI (1)) hx hb zd_N_hasActor_12 rfl ?_
      refine lv_goto (tgt := 17) hx hb zd_N_hasActor_13 (by decide) ?_
      exact ret _ _ _ _ _ _ _ zd_N_hasActor_17 hP hD hS (by omega) (by refine ⟨rfl, rfl, ?_⟩; split <;> omega)

abbrev zr_N_hasChannel : Room := ({ frames := 0, cells := 0, slots := 0, locals := 0 } : Room)
set_option maxHeartbeats 4000000 in
set_option maxRecDepth 100000 in
theorem c_N_hasChannel (l : Launch) (D : va_G) (q : Nat → Nat) (c : Nat → ClassId) (sz : Nat) (F : Nat → Int) (A : Nat → Int → Int) (a : Int) (ba : ib a) (hn : 0 ≤ F 101 ∧ F 101 ≤ 14) : zMI l zy_N_hasChannel zc_N_hasChannel 2 (some .boolean) zr_N_hasChannel D q c sz [.ref (q 1), .int (iI (a))] F A (fun z F1 A1 => F1 = F ∧ A1 = A ∧ z = if 0 ≤ a ∧ a < F 101 then 1 else 0) := by
  refine z_ofB (by decide) (Nat.le_of_ble_eq_true rfl) ?_
  intro p e s m args below meth c0 A0 Q C0 ret hP hD hS ls hl
  obtain ⟨S, hK, hA⟩ := C0
  have hx := S.1
  have hb := S.2.1
  have hown := S.2.2.2.1
  have hts : ∀ w ∈ zG, w.before args s = true := fun w h => S.2.2.2.2 w (List.mem_cons_of_mem _ h)
  have hl : lv_has ls 2 [(0, .ref (q 1)), (1, .int (iI (a)))] := hl
  refine lv_iload_n hx hb zd_N_hasChannel_0 rfl (lv_at hl 1 rfl) ?_
  refine x_if_lt (tgt := 16) hx hb zd_N_hasChannel_1 (by decide) (⟨by omega, by omega⟩) (fun h_1 => ?_) (fun h_1 => ?_)
  · refine lv_iconst (v := iI (0)) hx hb zd_N_hasChannel_16 rfl ?_
    exact ret _ _ _ _ _ _ _ zd_N_hasChannel_17 hP hD hS (by omega) (by refine ⟨rfl, rfl, ?_⟩; split <;> omega)
  · refine lv_iload_n hx hb zd_N_hasChannel_4 rfl (lv_at hl 1 rfl) ?_
    refine lv_aload_n hx hb zd_N_hasChannel_5 rfl (lv_at hl 0 rfl) ?_
    refine va_get (D := D) (ci := 1) (v := .int (iI (F 101))) (C := zR_N) (T := zT_N) (N := 11) hx hb hts zi_N hown hK.1 hP 1 ga_1 rfl 1 (by decide) (hts _ zw_37) (fun _ h9 => h9) rfl zd_N_hasChannel_6 ?_
    refine x_icmp_ge (tgt := 16) hx hb zd_N_hasChannel_9 (by decide) (⟨by omega, by omega⟩) (⟨by omega, by omega⟩) (fun h_9 => ?_) (fun h_9 => ?_)
    · refine lv_iconst (v := iI (0)) hx hb zd_N_hasChannel_16 rfl ?_
      exact ret _ _ _ _ _ _ _ zd_N_hasChannel_17 hP hD hS (by omega) (by refine ⟨rfl, rfl, ?_⟩; split <;> omega)
    · refine lv_iconst (v := iI (1)) hx hb zd_N_hasChannel_12 rfl ?_
      refine lv_goto (tgt := 17) hx hb zd_N_hasChannel_13 (by decide) ?_
      exact ret _ _ _ _ _ _ _ zd_N_hasChannel_17 hP hD hS (by omega) (by refine ⟨rfl, rfl, ?_⟩; split <;> omega)

abbrev zr_N_isUneven : Room := ({ frames := 0, cells := 0, slots := 0, locals := 0 } : Room)
set_option maxHeartbeats 4000000 in
set_option maxRecDepth 100000 in
theorem c_N_isUneven (l : Launch) (D : va_G) (q : Nat → Nat) (c : Nat → ClassId) (sz : Nat) (F : Nat → Int) (A : Nat → Int → Int)  (hu : ib (F 102)) : zMI l zy_N_isUneven zc_N_isUneven 1 (some .boolean) zr_N_isUneven D q c sz [.ref (q 1)] F A (fun z F1 A1 => F1 = F ∧ A1 = A ∧ z = if F 102 = -1 then 0 else 1) := by
  refine z_ofB (by decide) (Nat.le_of_ble_eq_true rfl) ?_
  intro p e s m args below meth c0 A0 Q C0 ret hP hD hS ls hl
  obtain ⟨S, hK, hA⟩ := C0
  have hx := S.1
  have hb := S.2.1
  have hown := S.2.2.2.1
  have hts : ∀ w ∈ zG, w.before args s = true := fun w h => S.2.2.2.2 w (List.mem_cons_of_mem _ h)
  have hl : lv_has ls 1 [(0, .ref (q 1))] := hl
  refine lv_aload_n hx hb zd_N_isUneven_0 rfl (lv_at hl 0 rfl) ?_
  refine va_get (D := D) (ci := 1) (v := .int (iI (F 102))) (C := zR_N) (T := zT_N) (N := 11) hx hb hts zi_N hown hK.1 hP 1 ga_1 rfl 2 (by decide) (hts _ zw_41) (fun _ h9 => h9) rfl zd_N_isUneven_1 ?_
  refine lv_iconst (v := iI (-1)) hx hb zd_N_isUneven_4 rfl ?_
  refine x_icmp_eq (tgt := 12) hx hb zd_N_isUneven_5 (by decide) (hu) (⟨by omega, by omega⟩) (fun h_5 => ?_) (fun h_5 => ?_)
  · refine lv_iconst (v := iI (0)) hx hb zd_N_isUneven_12 rfl ?_
    exact ret _ _ _ _ _ _ _ zd_N_isUneven_13 hP hD hS (by omega) (by refine ⟨rfl, rfl, ?_⟩; split <;> omega)
  · refine lv_iconst (v := iI (1)) hx hb zd_N_isUneven_8 rfl ?_
    refine lv_goto (tgt := 13) hx hb zd_N_isUneven_9 (by decide) ?_
    exact ret _ _ _ _ _ _ _ zd_N_isUneven_13 hP hD hS (by omega) (by refine ⟨rfl, rfl, ?_⟩; split <;> omega)

abbrev zr_C_uneven : Room := ({ frames := 0, cells := 0, slots := 0, locals := 0 } : Room)
set_option maxHeartbeats 4000000 in
set_option maxRecDepth 100000 in
theorem c_C_uneven (l : Launch) (D : va_G) (q : Nat → Nat) (c : Nat → ClassId) (sz : Nat) (F : Nat → Int) (A : Nat → Int → Int)   : zMI l zy_C_uneven zc_C_uneven 1 (some .int) zr_C_uneven D q c sz [.ref (q 0)] F A (fun z F1 A1 => F1 = F ∧ A1 = A ∧ z = F 102) := by
  refine z_ofI (by decide) (Nat.le_of_ble_eq_true rfl) ?_
  intro p e s m args below meth c0 A0 Q C0 ret hP hD hS ls hl
  obtain ⟨S, hK, hA⟩ := C0
  have hx := S.1
  have hb := S.2.1
  have hown := S.2.2.2.1
  have hts : ∀ w ∈ zG, w.before args s = true := fun w h => S.2.2.2.2 w (List.mem_cons_of_mem _ h)
  have hl : lv_has ls 1 [(0, .ref (q 0))] := hl
  refine lv_aload_n hx hb zd_C_uneven_0 rfl (lv_at hl 0 rfl) ?_
  refine va_get (D := D) (ci := 0) (v := .ref (q 1)) (C := zR_C) (T := zT_C) (N := 4) hx hb hts zi_C hown hK.1 hP 0 ga_0 rfl 0 (by decide) (hts _ zw_185) (fun _ h9 => h9) rfl zd_C_uneven_1 ?_
  refine va_getN (D := D) (ci := 1) (v := .int (iI (F 102))) (C := zR_N) (T := zT_N) (N := 11) hx hb hts zi_N hown hK.1 hP 1 ga_1 rfl 2 (by decide) (zNW.use hK.2 zw_42) (fun _ h9 => h9) rfl zd_C_uneven_4 ?_
  exact ret _ _ _ _ _ _ _ zd_C_uneven_7 hP hD hS (⟨rfl, rfl, rfl⟩)

abbrev zr_C_divided : Room := ({ frames := 0, cells := 0, slots := 0, locals := 0 } : Room)
set_option maxHeartbeats 4000000 in
set_option maxRecDepth 100000 in
theorem c_C_divided (l : Launch) (D : va_G) (q : Nat → Nat) (c : Nat → ClassId) (sz : Nat) (F : Nat → Int) (A : Nat → Int → Int) (x : Int) (y : Int) (bx : ib x) (by_ : ib y) : zMI l zy_C_divided zc_C_divided 2 (some .int) zr_C_divided D q c sz [.int (iI (x)), .int (iI (y))] F A (fun z F1 A1 => F1 = F ∧ A1 = A ∧ z = if y = 0 then 0 else x.tdiv y) := by
  refine z_ofI (by decide) (Nat.le_of_ble_eq_true rfl) ?_
  intro p e s m args below meth c0 A0 Q C0 ret hP hD hS ls hl
  obtain ⟨S, hK, hA⟩ := C0
  have hx := S.1
  have hb := S.2.1
  have hown := S.2.2.2.1
  have hts : ∀ w ∈ zG, w.before args s = true := fun w h => S.2.2.2.2 w (List.mem_cons_of_mem _ h)
  have hl : lv_has ls 2 [(0, .int (iI (x))), (1, .int (iI (y)))] := hl
  refine lv_iload_n hx hb zd_C_divided_0 rfl (lv_at hl 1 rfl) ?_
  refine x_if_ne (tgt := 8) hx hb zd_C_divided_1 (by decide) (⟨by omega, by omega⟩) (fun h_1 => ?_) (fun h_1 => ?_)
  · refine lv_iload_n hx hb zd_C_divided_8 rfl (lv_at hl 0 rfl) ?_
    refine lv_iload_n hx hb zd_C_divided_9 rfl (lv_at hl 1 rfl) ?_
    refine x_idiv hx hb zd_C_divided_10 (⟨by omega, by omega⟩) (⟨by omega, by omega⟩) (by omega) ?_
    exact ret _ _ _ _ _ _ _ zd_C_divided_11 hP hD hS (by refine ⟨rfl, rfl, ?_⟩; split <;> first | rfl | omega)
  · refine lv_iconst (v := iI (0)) hx hb zd_C_divided_4 rfl ?_
    refine lv_goto (tgt := 11) hx hb zd_C_divided_5 (by decide) ?_
    exact ret _ _ _ _ _ _ _ zd_C_divided_11 hP hD hS (by refine ⟨rfl, rfl, ?_⟩; split <;> first | rfl | omega)

abbrev zr_N_isGreat : Room := ({ frames := 0, cells := 0, slots := 0, locals := 0 } : Room)
set_option maxHeartbeats 4000000 in
set_option maxRecDepth 100000 in
theorem c_N_isGreat (l : Launch) (D : va_G) (q : Nat → Nat) (c : Nat → ClassId) (sz : Nat) (F : Nat → Int) (A : Nat → Int → Int)  (hn : 1 ≤ F 100 ∧ F 100 ≤ 8) (hct : ∀ a, 0 ≤ a → a < 8 → 1 ≤ A 7 a ∧ A 7 a ≤ 4782969) : zMI l zy_N_isGreat zc_N_isGreat 3 (some .boolean) zr_N_isGreat D q c sz [.ref (q 1)] F A (fun z F1 A1 => F1 = F ∧ A1 = A ∧ z = if 400 < sI (A 7) (F 100) then 1 else 0) := by
  refine z_ofB (by decide) (Nat.le_of_ble_eq_true rfl) ?_
  intro p e s m args below meth c0 A0 Q C0 ret hP hD hS ls hl
  obtain ⟨S, hK, hA⟩ := C0
  have hx := S.1
  have hb := S.2.1
  have hown := S.2.2.2.1
  have hts : ∀ w ∈ zG, w.before args s = true := fun w h => S.2.2.2.2 w (List.mem_cons_of_mem _ h)
  have hl : lv_has ls 3 [(0, .ref (q 1))] := hl
  refine lv_iconst (v := iI (0)) hx hb zd_N_isGreat_0 rfl ?_
  refine lv_istore_n (lv' := [(1, .int (iI (0))), (0, .ref (q 1))]) hx hb zd_N_isGreat_1 rfl hl (by decide) rfl (fun ls hl => ?_)
  refine lv_iconst (v := iI (0)) hx hb zd_N_isGreat_2 rfl ?_
  refine lv_istore_n (lv' := [(2, .int (iI (0))), (1, .int (iI (0))), (0, .ref (q 1))]) hx hb zd_N_isGreat_3 rfl hl (by decide) rfl (fun ls hl => ?_)
  have L_4 : ∀ (fu : Nat) (t : Int) (i : Int) , (0 ≤ i ∧ i ≤ F 100) → (t = sI (A 7) i) → (0 ≤ t ∧ t ≤ 4782969 * i) → (F 100 - i < (fu : Int)) → ∀ (H : Heap) (locs : List Loc), va_P D zcl (gw q c F A) H → va_D A0 (gw q c F A) → va_S A0 s.heap H locs → ∀ ls : Array Slot, lv_has ls 3 [(0, .ref (q 1)), (1, .int (iI (t))), (2, .int (iI (i)))] → W p l e zr_N_isGreat s m args below meth c0 H locs 0 0 Q (F0 m 4 ls []) := by
    intro fu
    induction fu with
    | zero => intro t i   hi ht hb_ hm_4; exact absurd hm_4 (by omega)
    | succ fu ih_4 =>
      intro t i   hi ht hb_ hm_4 H locs hP hD hS ls hl
      refine lv_iload_n hx hb zd_N_isGreat_4 rfl (lv_at hl 2 rfl) ?_
      refine lv_aload_n hx hb zd_N_isGreat_5 rfl (lv_at hl 0 rfl) ?_
      refine va_get (D := D) (ci := 1) (v := .int (iI (F 100))) (C := zR_N) (T := zT_N) (N := 11) hx hb hts zi_N hown hK.1 hP 1 ga_1 rfl 0 (by decide) (hts _ zw_33) (fun _ h9 => h9) rfl zd_N_isGreat_6 ?_
      refine x_icmp_ge (tgt := 27) hx hb zd_N_isGreat_9 (by decide) (⟨by omega, by omega⟩) (⟨by omega, by omega⟩) (fun h_9 => ?_) (fun h_9 => ?_)
      · have e_ : i = F 100 := by omega
        subst e_
        refine lv_iload_n hx hb zd_N_isGreat_27 rfl (lv_at hl 1 rfl) ?_
        refine lv_sipush (v := iI (400)) hx hb zd_N_isGreat_28 (by decide) ?_
        refine x_icmp_le (tgt := 38) hx hb zd_N_isGreat_31 (by decide) (⟨by omega, by omega⟩) (⟨by omega, by omega⟩) (fun h_31 => ?_) (fun h_31 => ?_)
        · refine lv_iconst (v := iI (0)) hx hb zd_N_isGreat_38 rfl ?_
          exact ret _ _ _ _ _ _ _ zd_N_isGreat_39 hP hD hS (by omega) (by refine ⟨rfl, rfl, ?_⟩; split <;> omega)
        · refine lv_iconst (v := iI (1)) hx hb zd_N_isGreat_34 rfl ?_
          refine lv_goto (tgt := 39) hx hb zd_N_isGreat_35 (by decide) ?_
          exact ret _ _ _ _ _ _ _ zd_N_isGreat_39 hP hD hS (by omega) (by refine ⟨rfl, rfl, ?_⟩; split <;> omega)
      · have hc_ := hct i (by omega) (by omega)
        refine lv_iload_n hx hb zd_N_isGreat_12 rfl (lv_at hl 1 rfl) ?_
        refine lv_aload_n hx hb zd_N_isGreat_13 rfl (lv_at hl 0 rfl) ?_
        refine va_get (D := D) (ci := 1) (v := .ref (q 7)) (C := zR_N) (T := zT_N) (N := 11) hx hb hts zi_N hown hK.1 hP 1 ga_1 rfl 4 (by decide) (hts _ zw_46) (fun _ h9 => h9) rfl zd_N_isGreat_14 ?_
        refine lv_iload_n hx hb zd_N_isGreat_17 rfl (lv_at hl 2 rfl) ?_
        refine x_iald (v := A 7 i) hx hb hK.1 hP 7 0 ga_7 rfl (by decide) (by omega) (by omega) (rfl) zd_N_isGreat_18 ?_
        refine x_iadd hx hb zd_N_isGreat_19 ?_
        refine lv_istore_n (lv' := [(1, .int (iI (t + (A 7 i)))), (0, .ref (q 1)), (2, .int (iI (i)))]) hx hb zd_N_isGreat_20 rfl hl (by decide) rfl (fun ls hl => ?_)
        refine lv_iinc (v := iI (i + 1)) (lv' := [(2, .int (iI (i + 1))), (1, .int (iI (t + (A 7 i)))), (0, .ref (q 1))]) hx hb zd_N_isGreat_21 hl (k := 2) rfl (iI_add _ _) (by decide) rfl (fun ls hl => ?_)
        refine lv_goto (tgt := 4) hx hb zd_N_isGreat_24 (by decide) ?_
        exact ih_4 (t + (A 7 i)) (i + 1)   (by first | assumption | omega | (simp_all; done)) (by rw [sI_s (by omega), ← ht]) (by first | assumption | omega | (simp_all; done)) (by omega) _ _ hP hD hS ls (lv_sub hl [2, 1, 0] rfl)
  exact L_4 (((F 100 - (0) : Int) + 1).toNat) (0) (0)   (by first | assumption | omega | (simp_all; done)) (sI_0.symm) (by first | assumption | omega | (simp_all; done)) (by omega) _ _ hP hD hS ls (lv_sub hl [2, 1, 0] rfl)
end
section
abbrev zr_N_parts : Room := ({ frames := 0, cells := 0, slots := 0, locals := 0 } : Room)
set_option maxHeartbeats 4000000 in
set_option maxRecDepth 100000 in
theorem c_N_parts (l : Launch) (D : va_G) (q : Nat → Nat) (c : Nat → ClassId) (sz : Nat) (F : Nat → Int) (A : Nat → Int → Int)  (hn : 1 ≤ F 100 ∧ F 100 ≤ 8) (hc : 0 ≤ F 101 ∧ F 101 ≤ 14) (hact : ∀ a, 0 ≤ a → a < 8 → (1 ≤ A 7 a ∧ A 7 a ≤ 4782969) ∧ 0 ≤ A 8 a ∧ A 8 a < 8) : zMI l zy_N_parts zc_N_parts 3 (some .int) zr_N_parts D q c sz [.ref (q 1)] F A (fun z F1 A1 => F1 = F ∧ A1 = A ∧ z = sI (fun a => if A 8 a = a then 1 else 0) (F 100)) := by
  refine z_ofI (by decide) (Nat.le_of_ble_eq_true rfl) ?_
  intro p e s m args below meth c0 A0 Q C0 ret hP hD hS ls hl
  obtain ⟨S, hK, hA⟩ := C0
  have hx := S.1
  have hb := S.2.1
  have hown := S.2.2.2.1
  have hts : ∀ w ∈ zG, w.before args s = true := fun w h => S.2.2.2.2 w (List.mem_cons_of_mem _ h)
  have hl : lv_has ls 3 [(0, .ref (q 1))] := hl
  refine lv_iconst (v := iI (0)) hx hb zd_N_parts_0 rfl ?_
  refine lv_istore_n (lv' := [(1, .int (iI (0))), (0, .ref (q 1))]) hx hb zd_N_parts_1 rfl hl (by decide) rfl (fun ls hl => ?_)
  refine lv_iconst (v := iI (0)) hx hb zd_N_parts_2 rfl ?_
  refine lv_istore_n (lv' := [(2, .int (iI (0))), (1, .int (iI (0))), (0, .ref (q 1))]) hx hb zd_N_parts_3 rfl hl (by decide) rfl (fun ls hl => ?_)
  have L_4 : ∀ (fu : Nat) (t : Int) (i : Int) , (0 ≤ i ∧ i ≤ F 100) → (t = sI (fun a => if A 8 a = a then 1 else 0) i) → (0 ≤ t ∧ t ≤ i) → (F 100 - i < (fu : Int)) → ∀ (H : Heap) (locs : List Loc), va_P D zcl (gw q c F A) H → va_D A0 (gw q c F A) → va_S A0 s.heap H locs → ∀ ls : Array Slot, lv_has ls 3 [(0, .ref (q 1)), (1, .int (iI (t))), (2, .int (iI (i)))] → W p l e zr_N_parts s m args below meth c0 H locs 0 0 Q (F0 m 4 ls []) := by
    intro fu
    induction fu with
    | zero => intro t i   hi ht hb_ hm_4; exact absurd hm_4 (by omega)
    | succ fu ih_4 =>
      intro t i   hi ht hb_ hm_4 H locs hP hD hS ls hl
      refine lv_iload_n hx hb zd_N_parts_4 rfl (lv_at hl 2 rfl) ?_
      refine lv_aload_n hx hb zd_N_parts_5 rfl (lv_at hl 0 rfl) ?_
      refine va_get (D := D) (ci := 1) (v := .int (iI (F 100))) (C := zR_N) (T := zT_N) (N := 11) hx hb hts zi_N hown hK.1 hP 1 ga_1 rfl 0 (by decide) (hts _ zw_33) (fun _ h9 => h9) rfl zd_N_parts_6 ?_
      refine x_icmp_ge (tgt := 31) hx hb zd_N_parts_9 (by decide) (⟨by omega, by omega⟩) (⟨by omega, by omega⟩) (fun h_9 => ?_) (fun h_9 => ?_)
      · have e_ : i = F 100 := by omega
        subst e_
        refine lv_iload_n hx hb zd_N_parts_31 rfl (lv_at hl 1 rfl) ?_
        exact ret _ _ _ _ _ _ _ zd_N_parts_32 hP hD hS (⟨rfl, rfl, by rw [ht]⟩)
      · have hc_ := hact i (by omega) (by omega)
        refine lv_aload_n hx hb zd_N_parts_12 rfl (lv_at hl 0 rfl) ?_
        refine va_get (D := D) (ci := 1) (v := .ref (q 8)) (C := zR_N) (T := zT_N) (N := 11) hx hb hts zi_N hown hK.1 hP 1 ga_1 rfl 5 (by decide) (hts _ zw_51) (fun _ h9 => h9) rfl zd_N_parts_13 ?_
        refine lv_iload_n hx hb zd_N_parts_16 rfl (lv_at hl 2 rfl) ?_
        refine x_iald (v := A 8 i) hx hb hK.1 hP 8 0 ga_8 rfl (by decide) (by omega) (by omega) (rfl) zd_N_parts_17 ?_
        refine lv_iload_n hx hb zd_N_parts_18 rfl (lv_at hl 2 rfl) ?_
        refine x_icmp_ne (tgt := 25) hx hb zd_N_parts_19 (by decide) (⟨by omega, by omega⟩) (⟨by omega, by omega⟩) (fun h_19 => ?_) (fun h_19 => ?_)
        · refine lv_iinc (v := iI (i + 1)) (lv' := [(2, .int (iI (i + 1))), (0, .ref (q 1)), (1, .int (iI (t)))]) hx hb zd_N_parts_25 hl (k := 2) rfl (iI_add _ _) (by decide) rfl (fun ls hl => ?_)
          refine lv_goto (tgt := 4) hx hb zd_N_parts_28 (by decide) ?_
          exact ih_4 (t) (i + 1)   (by first | assumption | omega | (simp_all; done)) (by rw [sI_s (by omega), ← ht]; split <;> omega) (by first | assumption | omega | (simp_all; done)) (by omega) _ _ hP hD hS ls (lv_sub hl [1, 2, 0] rfl)
        · refine lv_iinc (v := iI (t + 1)) (lv' := [(1, .int (iI (t + 1))), (0, .ref (q 1)), (2, .int (iI (i)))]) hx hb zd_N_parts_22 hl (k := 1) rfl (iI_add _ _) (by decide) rfl (fun ls hl => ?_)
          refine lv_iinc (v := iI (i + 1)) (lv' := [(2, .int (iI (i + 1))), (1, .int (iI (t + 1))), (0, .ref (q 1))]) hx hb zd_N_parts_25 hl (k := 2) rfl (iI_add _ _) (by decide) rfl (fun ls hl => ?_)
          refine lv_goto (tgt := 4) hx hb zd_N_parts_28 (by decide) ?_
          exact ih_4 (t + 1) (i + 1)   (by first | assumption | omega | (simp_all; done)) (by rw [sI_s (by omega), ← ht]; split <;> omega) (by first | assumption | omega | (simp_all; done)) (by omega) _ _ hP hD hS ls (lv_sub hl [2, 1, 0] rfl)
  exact L_4 (((F 100 - (0) : Int) + 1).toNat) (0) (0)   (by first | assumption | omega | (simp_all; done)) (sI_0.symm) (by first | assumption | omega | (simp_all; done)) (by omega) _ _ hP hD hS ls (lv_sub hl [2, 1, 0] rfl)

abbrev zr_N_countsOfPart : Room := ({ frames := 0, cells := 0, slots := 0, locals := 0 } : Room)
set_option maxHeartbeats 4000000 in
set_option maxRecDepth 100000 in
theorem c_N_countsOfPart (l : Launch) (D : va_G) (q : Nat → Nat) (c : Nat → ClassId) (sz : Nat) (F : Nat → Int) (A : Nat → Int → Int) (a : Int) (hn : 1 ≤ F 100 ∧ F 100 ≤ 8) (hc : 0 ≤ F 101 ∧ F 101 ≤ 14) (hact : ∀ a, 0 ≤ a → a < 8 → (1 ≤ A 7 a ∧ A 7 a ≤ 4782969) ∧ 0 ≤ A 8 a ∧ A 8 a < 8) (ha : 0 ≤ a ∧ a < F 100) : zMI l zy_N_countsOfPart zc_N_countsOfPart 4 (some .int) zr_N_countsOfPart D q c sz [.ref (q 1), .int (iI (a))] F A (fun z F1 A1 => F1 = F ∧ A1 = A ∧ z = sI (fun b => if A 8 b = A 8 a then A 7 b else 0) (F 100)) := by
  refine z_ofI (by decide) (Nat.le_of_ble_eq_true rfl) ?_
  intro p e s m args below meth c0 A0 Q C0 ret hP hD hS ls hl
  obtain ⟨S, hK, hA⟩ := C0
  have hx := S.1
  have hb := S.2.1
  have hown := S.2.2.2.1
  have hts : ∀ w ∈ zG, w.before args s = true := fun w h => S.2.2.2.2 w (List.mem_cons_of_mem _ h)
  have hl : lv_has ls 4 [(0, .ref (q 1)), (1, .int (iI (a)))] := hl
  refine lv_iconst (v := iI (0)) hx hb zd_N_countsOfPart_0 rfl ?_
  refine lv_istore_n (lv' := [(2, .int (iI (0))), (0, .ref (q 1)), (1, .int (iI (a)))]) hx hb zd_N_countsOfPart_1 rfl hl (by decide) rfl (fun ls hl => ?_)
  refine lv_iconst (v := iI (0)) hx hb zd_N_countsOfPart_2 rfl ?_
  refine lv_istore_n (lv' := [(3, .int (iI (0))), (2, .int (iI (0))), (0, .ref (q 1)), (1, .int (iI (a)))]) hx hb zd_N_countsOfPart_3 rfl hl (by decide) rfl (fun ls hl => ?_)
  have L_4 : ∀ (fu : Nat) (t : Int) (i : Int) , (0 ≤ i ∧ i ≤ F 100) → (t = sI (fun b => if A 8 b = A 8 a then A 7 b else 0) i) → (0 ≤ t ∧ t ≤ 4782969 * i) → (F 100 - i < (fu : Int)) → ∀ (H : Heap) (locs : List Loc), va_P D zcl (gw q c F A) H → va_D A0 (gw q c F A) → va_S A0 s.heap H locs → ∀ ls : Array Slot, lv_has ls 4 [(0, .ref (q 1)), (1, .int (iI (a))), (2, .int (iI (t))), (3, .int (iI (i)))] → W p l e zr_N_countsOfPart s m args below meth c0 H locs 0 0 Q (F0 m 4 ls []) := by
    intro fu
    induction fu with
    | zero => intro t i   hi ht hb_ hm_4; exact absurd hm_4 (by omega)
    | succ fu ih_4 =>
      intro t i   hi ht hb_ hm_4 H locs hP hD hS ls hl
      refine lv_iload_n hx hb zd_N_countsOfPart_4 rfl (lv_at hl 3 rfl) ?_
      refine lv_aload_n hx hb zd_N_countsOfPart_5 rfl (lv_at hl 0 rfl) ?_
      refine va_get (D := D) (ci := 1) (v := .int (iI (F 100))) (C := zR_N) (T := zT_N) (N := 11) hx hb hts zi_N hown hK.1 hP 1 ga_1 rfl 0 (by decide) (hts _ zw_33) (fun _ h9 => h9) rfl zd_N_countsOfPart_6 ?_
      refine x_icmp_ge (tgt := 42) hx hb zd_N_countsOfPart_9 (by decide) (⟨by omega, by omega⟩) (⟨by omega, by omega⟩) (fun h_9 => ?_) (fun h_9 => ?_)
      · have e_ : i = F 100 := by omega
        subst e_
        refine lv_iload_n hx hb zd_N_countsOfPart_42 rfl (lv_at hl 2 rfl) ?_
        exact ret _ _ _ _ _ _ _ zd_N_countsOfPart_43 hP hD hS (⟨rfl, rfl, by rw [ht]⟩)
      · have hc_ := hact i (by omega) (by omega)
        have hd_ := hact a (by omega) (by omega)
        refine lv_aload_n hx hb zd_N_countsOfPart_12 rfl (lv_at hl 0 rfl) ?_
        refine va_get (D := D) (ci := 1) (v := .ref (q 8)) (C := zR_N) (T := zT_N) (N := 11) hx hb hts zi_N hown hK.1 hP 1 ga_1 rfl 5 (by decide) (hts _ zw_51) (fun _ h9 => h9) rfl zd_N_countsOfPart_13 ?_
        refine lv_iload_n hx hb zd_N_countsOfPart_16 rfl (lv_at hl 3 rfl) ?_
        refine x_iald (v := A 8 i) hx hb hK.1 hP 8 0 ga_8 rfl (by decide) (by omega) (by omega) (rfl) zd_N_countsOfPart_17 ?_
        refine lv_aload_n hx hb zd_N_countsOfPart_18 rfl (lv_at hl 0 rfl) ?_
        refine va_get (D := D) (ci := 1) (v := .ref (q 8)) (C := zR_N) (T := zT_N) (N := 11) hx hb hts zi_N hown hK.1 hP 1 ga_1 rfl 5 (by decide) (hts _ zw_51) (fun _ h9 => h9) rfl zd_N_countsOfPart_19 ?_
        refine lv_iload_n hx hb zd_N_countsOfPart_22 rfl (lv_at hl 1 rfl) ?_
        refine x_iald (v := A 8 a) hx hb hK.1 hP 8 0 ga_8 rfl (by decide) (by omega) (by omega) (rfl) zd_N_countsOfPart_23 ?_
        refine x_icmp_ne (tgt := 36) hx hb zd_N_countsOfPart_24 (by decide) (⟨by omega, by omega⟩) (⟨by omega, by omega⟩) (fun h_24 => ?_) (fun h_24 => ?_)
        · refine lv_iinc (v := iI (i + 1)) (lv' := [(3, .int (iI (i + 1))), (0, .ref (q 1)), (1, .int (iI (a))), (2, .int (iI (t)))]) hx hb zd_N_countsOfPart_36 hl (k := 3) rfl (iI_add _ _) (by decide) rfl (fun ls hl => ?_)
          refine lv_goto (tgt := 4) hx hb zd_N_countsOfPart_39 (by decide) ?_
          exact ih_4 (t) (i + 1)   (by first | assumption | omega | (simp_all; done)) (by rw [sI_s (by omega), ← ht]; split <;> omega) (by first | assumption | omega | (simp_all; done)) (by omega) _ _ hP hD hS ls (lv_sub hl [1, 2, 3, 0] rfl)
        · refine lv_iload_n hx hb zd_N_countsOfPart_27 rfl (lv_at hl 2 rfl) ?_
          refine lv_aload_n hx hb zd_N_countsOfPart_28 rfl (lv_at hl 0 rfl) ?_
          refine va_get (D := D) (ci := 1) (v := .ref (q 7)) (C := zR_N) (T := zT_N) (N := 11) hx hb hts zi_N hown hK.1 hP 1 ga_1 rfl 4 (by decide) (hts _ zw_46) (fun _ h9 => h9) rfl zd_N_countsOfPart_29 ?_
          refine lv_iload_n hx hb zd_N_countsOfPart_32 rfl (lv_at hl 3 rfl) ?_
          refine x_iald (v := A 7 i) hx hb hK.1 hP 7 0 ga_7 rfl (by decide) (by omega) (by omega) (rfl) zd_N_countsOfPart_33 ?_
          refine x_iadd hx hb zd_N_countsOfPart_34 ?_
          refine lv_istore_n (lv' := [(2, .int (iI (t + (A 7 i)))), (0, .ref (q 1)), (1, .int (iI (a))), (3, .int (iI (i)))]) hx hb zd_N_countsOfPart_35 rfl hl (by decide) rfl (fun ls hl => ?_)
          refine lv_iinc (v := iI (i + 1)) (lv' := [(3, .int (iI (i + 1))), (2, .int (iI (t + (A 7 i)))), (0, .ref (q 1)), (1, .int (iI (a)))]) hx hb zd_N_countsOfPart_36 hl (k := 3) rfl (iI_add _ _) (by decide) rfl (fun ls hl => ?_)
          refine lv_goto (tgt := 4) hx hb zd_N_countsOfPart_39 (by decide) ?_
          exact ih_4 (t + (A 7 i)) (i + 1)   (by first | assumption | omega | (simp_all; done)) (by rw [sI_s (by omega), ← ht]; split <;> omega) (by first | assumption | omega | (simp_all; done)) (by omega) _ _ hP hD hS ls (lv_sub hl [2, 3, 1, 0] rfl)
  exact L_4 (((F 100 - (0) : Int) + 1).toNat) (0) (0)   (by first | assumption | omega | (simp_all; done)) (sI_0.symm) (by first | assumption | omega | (simp_all; done)) (by omega) _ _ hP hD hS ls (lv_sub hl [2, 3, 1, 0] rfl)

abbrev zr_N_isChain : Room := ({ frames := 0, cells := 0, slots := 0, locals := 0 } : Room)
set_option maxHeartbeats 4000000 in
set_option maxRecDepth 100000 in
theorem c_N_isChain (l : Launch) (D : va_G) (q : Nat → Nat) (c : Nat → ClassId) (sz : Nat) (F : Nat → Int) (A : Nat → Int → Int)  (hn : 1 ≤ F 100 ∧ F 100 ≤ 8) (hc : 0 ≤ F 101 ∧ F 101 ≤ 14) (hch : ∀ k, 0 ≤ k → k < F 101 → (0 ≤ A 9 k ∧ A 9 k < F 100) ∧ (0 ≤ A 10 k ∧ A 10 k < F 100) ∧ (1 ≤ A 11 k ∧ A 11 k ≤ 9) ∧ (1 ≤ A 12 k ∧ A 12 k ≤ 9) ∧ 0 ≤ A 13 k ∧ A 13 k ≤ 99) : zMI l zy_N_isChain zc_N_isChain 2 (some .boolean) zr_N_isChain D q c sz [.ref (q 1)] F A (fun z F1 A1 => F1 = F ∧ A1 = A ∧ (z = 0 ∨ z = 1) ∧ (z = 1 ↔ F 101 = F 100 - 1 ∧ ∀ k, 0 ≤ k → k < F 101 → A 9 k = k ∧ A 10 k = k + 1 ∧ A 13 k = 0)) := by
  refine z_ofB (by decide) (Nat.le_of_ble_eq_true rfl) ?_
  intro p e s m args below meth c0 A0 Q C0 ret hP hD hS ls hl
  obtain ⟨S, hK, hA⟩ := C0
  have hx := S.1
  have hb := S.2.1
  have hown := S.2.2.2.1
  have hts : ∀ w ∈ zG, w.before args s = true := fun w h => S.2.2.2.2 w (List.mem_cons_of_mem _ h)
  have hl : lv_has ls 2 [(0, .ref (q 1))] := hl
  refine lv_aload_n hx hb zd_N_isChain_0 rfl (lv_at hl 0 rfl) ?_
  refine va_get (D := D) (ci := 1) (v := .int (iI (F 101))) (C := zR_N) (T := zT_N) (N := 11) hx hb hts zi_N hown hK.1 hP 1 ga_1 rfl 1 (by decide) (hts _ zw_37) (fun _ h9 => h9) rfl zd_N_isChain_1 ?_
  refine lv_aload_n hx hb zd_N_isChain_4 rfl (lv_at hl 0 rfl) ?_
  refine va_get (D := D) (ci := 1) (v := .int (iI (F 100))) (C := zR_N) (T := zT_N) (N := 11) hx hb hts zi_N hown hK.1 hP 1 ga_1 rfl 0 (by decide) (hts _ zw_33) (fun _ h9 => h9) rfl zd_N_isChain_5 ?_
  refine lv_iconst (v := iI (1)) hx hb zd_N_isChain_8 rfl ?_
  refine x_isub hx hb zd_N_isChain_9 ?_
  refine x_icmp_eq (tgt := 15) hx hb zd_N_isChain_10 (by decide) (⟨by omega, by omega⟩) (⟨by omega, by omega⟩) (fun h_10 => ?_) (fun h_10 => ?_)
  · refine lv_iconst (v := iI (0)) hx hb zd_N_isChain_15 rfl ?_
    refine lv_istore_n (lv' := [(1, .int (iI (0))), (0, .ref (q 1))]) hx hb zd_N_isChain_16 rfl hl (by decide) rfl (fun ls hl => ?_)
    have L_17 : ∀ (fu : Nat) (i : Int) , (0 ≤ i ∧ i ≤ F 101) → (∀ k, 0 ≤ k → k < i → A 9 k = k ∧ A 10 k = k + 1 ∧ A 13 k = 0) → (F 101 - i < (fu : Int)) → ∀ (H : Heap) (locs : List Loc), va_P D zcl (gw q c F A) H → va_D A0 (gw q c F A) → va_S A0 s.heap H locs → ∀ ls : Array Slot, lv_has ls 2 [(0, .ref (q 1)), (1, .int (iI (i)))] → W p l e zr_N_isChain s m args below meth c0 H locs 0 0 Q (F0 m 17 ls []) := by
      intro fu
      induction fu with
      | zero => intro i   hi hs hm_17; exact absurd hm_17 (by omega)
      | succ fu ih_17 =>
        intro i   hi hs hm_17 H locs hP hD hS ls hl
        refine lv_iload_n hx hb zd_N_isChain_17 rfl (lv_at hl 1 rfl) ?_
        refine lv_aload_n hx hb zd_N_isChain_18 rfl (lv_at hl 0 rfl) ?_
        refine va_get (D := D) (ci := 1) (v := .int (iI (F 101))) (C := zR_N) (T := zT_N) (N := 11) hx hb hts zi_N hown hK.1 hP 1 ga_1 rfl 1 (by decide) (hts _ zw_37) (fun _ h9 => h9) rfl zd_N_isChain_19 ?_
        refine x_icmp_ge (tgt := 64) hx hb zd_N_isChain_22 (by decide) (⟨by omega, by omega⟩) (⟨by omega, by omega⟩) (fun h_22 => ?_) (fun h_22 => ?_)
        · refine lv_iconst (v := iI (1)) hx hb zd_N_isChain_64 rfl ?_
          exact ret _ _ _ _ _ _ _ zd_N_isChain_65 hP hD hS (by omega) (⟨rfl, rfl, by omega, ⟨fun _ => ⟨by omega, fun k h0 h1 => hs k h0 (by omega)⟩, fun _ => rfl⟩⟩)
        · have hc_ := hch i (by omega) (by omega)
          refine lv_aload_n hx hb zd_N_isChain_25 rfl (lv_at hl 0 rfl) ?_
          refine va_get (D := D) (ci := 1) (v := .ref (q 9)) (C := zR_N) (T := zT_N) (N := 11) hx hb hts zi_N hown hK.1 hP 1 ga_1 rfl 6 (by decide) (hts _ zw_54) (fun _ h9 => h9) rfl zd_N_isChain_26 ?_
          refine lv_iload_n hx hb zd_N_isChain_29 rfl (lv_at hl 1 rfl) ?_
          refine x_iald (v := A 9 i) hx hb hK.1 hP 9 0 ga_9 rfl (by decide) (by omega) (by omega) (rfl) zd_N_isChain_30 ?_
          refine lv_iload_n hx hb zd_N_isChain_31 rfl (lv_at hl 1 rfl) ?_
          refine x_icmp_ne (tgt := 56) hx hb zd_N_isChain_32 (by decide) (⟨by omega, by omega⟩) (⟨by omega, by omega⟩) (fun h_32 => ?_) (fun h_32 => ?_)
          · refine lv_iconst (v := iI (0)) hx hb zd_N_isChain_56 rfl ?_
            exact ret _ _ _ _ _ _ _ zd_N_isChain_57 hP hD hS (by omega) (⟨rfl, rfl, by omega, ⟨fun h => by omega, fun h => by have := h.2 i (by omega) (by omega); omega⟩⟩)
          · refine lv_aload_n hx hb zd_N_isChain_35 rfl (lv_at hl 0 rfl) ?_
            refine va_get (D := D) (ci := 1) (v := .ref (q 10)) (C := zR_N) (T := zT_N) (N := 11) hx hb hts zi_N hown hK.1 hP 1 ga_1 rfl 7 (by decide) (hts _ zw_57) (fun _ h9 => h9) rfl zd_N_isChain_36 ?_
            refine lv_iload_n hx hb zd_N_isChain_39 rfl (lv_at hl 1 rfl) ?_
            refine x_iald (v := A 10 i) hx hb hK.1 hP 10 0 ga_10 rfl (by decide) (by omega) (by omega) (rfl) zd_N_isChain_40 ?_
            refine lv_iload_n hx hb zd_N_isChain_41 rfl (lv_at hl 1 rfl) ?_
            refine lv_iconst (v := iI (1)) hx hb zd_N_isChain_42 rfl ?_
            refine x_iadd hx hb zd_N_isChain_43 ?_
            refine x_icmp_ne (tgt := 56) hx hb zd_N_isChain_44 (by decide) (⟨by omega, by omega⟩) (⟨by omega, by omega⟩) (fun h_44 => ?_) (fun h_44 => ?_)
            · refine lv_iconst (v := iI (0)) hx hb zd_N_isChain_56 rfl ?_
              exact ret _ _ _ _ _ _ _ zd_N_isChain_57 hP hD hS (by omega) (⟨rfl, rfl, by omega, ⟨fun h => by omega, fun h => by have := h.2 i (by omega) (by omega); omega⟩⟩)
            · refine lv_aload_n hx hb zd_N_isChain_47 rfl (lv_at hl 0 rfl) ?_
              refine va_get (D := D) (ci := 1) (v := .ref (q 13)) (C := zR_N) (T := zT_N) (N := 11) hx hb hts zi_N hown hK.1 hP 1 ga_1 rfl 10 (by decide) (hts _ zw_67) (fun _ h9 => h9) rfl zd_N_isChain_48 ?_
              refine lv_iload_n hx hb zd_N_isChain_51 rfl (lv_at hl 1 rfl) ?_
              refine x_iald (v := A 13 i) hx hb hK.1 hP 13 0 ga_13 rfl (by decide) (by omega) (by omega) (rfl) zd_N_isChain_52 ?_
              refine x_if_eq (tgt := 58) hx hb zd_N_isChain_53 (by decide) (⟨by omega, by omega⟩) (fun h_53 => ?_) (fun h_53 => ?_)
              · refine lv_iinc (v := iI (i + 1)) (lv' := [(1, .int (iI (i + 1))), (0, .ref (q 1))]) hx hb zd_N_isChain_58 hl (k := 1) rfl (iI_add _ _) (by decide) rfl (fun ls hl => ?_)
                refine lv_goto (tgt := 17) hx hb zd_N_isChain_61 (by decide) ?_
                exact ih_17 (i + 1)   (by first | assumption | omega | (simp_all; done)) (fun k h0 h1 => by by_cases e_ : k = i; (subst e_; omega); (exact hs k h0 (by omega))) (by omega) _ _ hP hD hS ls (lv_sub hl [1, 0] rfl)
              · refine lv_iconst (v := iI (0)) hx hb zd_N_isChain_56 rfl ?_
                exact ret _ _ _ _ _ _ _ zd_N_isChain_57 hP hD hS (by omega) (⟨rfl, rfl, by omega, ⟨fun h => by omega, fun h => by have := h.2 i (by omega) (by omega); omega⟩⟩)
    exact L_17 (((F 101 - (0) : Int) + 1).toNat) (0)   (by first | assumption | omega | (simp_all; done)) (fun k h0 h1 => by omega) (by omega) _ _ hP hD hS ls (lv_sub hl [1, 0] rfl)
  · refine lv_iconst (v := iI (0)) hx hb zd_N_isChain_13 rfl ?_
    exact ret _ _ _ _ _ _ _ zd_N_isChain_14 hP hD hS (by omega) (⟨rfl, rfl, by omega, by constructor <;> intro h <;> omega⟩)

abbrev zr_N_begin : Room := ({ frames := 0, cells := 0, slots := 0, locals := 0 } : Room)
set_option maxHeartbeats 4000000 in
set_option maxRecDepth 100000 in
theorem c_N_begin (l : Launch) (D : va_G) (q : Nat → Nat) (c : Nat → ClassId) (sz : Nat) (F : Nat → Int) (A : Nat → Int → Int) (n : Int) (hn : 1 ≤ n ∧ n ≤ 8) : zMV l zy_N_begin zc_N_begin 3 none zr_N_begin D q c sz [.ref (q 1), .int (iI (n))] F A (fun F1 A1 => F1 = fuP (fuP (fuP F 100 n) 101 0) 102 (-1) ∧ (∀ k, k ≠ 6 → k ≠ 7 → k ≠ 8 → A1 k = A k) ∧ ∀ a, 0 ≤ a → a < 8 → A1 6 a = 1 ∧ A1 7 a = 1 ∧ A1 8 a = a) := by
  refine z_ofV (by decide) (Nat.le_of_ble_eq_true rfl) ?_
  intro p e s m args below meth c0 A0 Q C0 ret hP hD hS ls hl
  obtain ⟨S, hK, hA⟩ := C0
  have hx := S.1
  have hb := S.2.1
  have hown := S.2.2.2.1
  have hts : ∀ w ∈ zG, w.before args s = true := fun w h => S.2.2.2.2 w (List.mem_cons_of_mem _ h)
  have hl : lv_has ls 3 [(0, .ref (q 1)), (1, .int (iI (n)))] := hl
  refine lv_aload_n hx hb zd_N_begin_0 rfl (lv_at hl 0 rfl) ?_
  refine lv_iload_n hx hb zd_N_begin_1 rfl (lv_at hl 1 rfl) ?_
  refine va_put (D := D) (ci := 1) (v := .int (iI (n))) (ty := .int) (C := zR_N) (T := zT_N) (N := 11) hx hb hts zi_N zk_N zo_N zn_N hown hK.1 hP hD hS 1 ga_1 rfl 0 (by decide) (hts _ zw_33) (fun _ h9 => h9) rfl (by decide +kernel) (rfl) (rfl) (Nat.le_of_ble_eq_true rfl) zd_N_begin_2 (fun H locs hP hD hS => ?_)
  rw [gs_1_0] at hP hD
  refine lv_aload_n hx hb zd_N_begin_5 rfl (lv_at hl 0 rfl) ?_
  refine lv_iconst (v := iI (0)) hx hb zd_N_begin_6 rfl ?_
  refine va_put (D := D) (ci := 1) (v := .int (iI (0))) (ty := .int) (C := zR_N) (T := zT_N) (N := 11) hx hb hts zi_N zk_N zo_N zn_N hown hK.1 hP hD hS 1 ga_1 rfl 1 (by decide) (hts _ zw_37) (fun _ h9 => h9) rfl (by decide +kernel) (rfl) (rfl) (Nat.le_of_ble_eq_true rfl) zd_N_begin_7 (fun H locs hP hD hS => ?_)
  rw [gs_1_1] at hP hD
  refine lv_aload_n hx hb zd_N_begin_10 rfl (lv_at hl 0 rfl) ?_
  refine lv_iconst (v := iI (-1)) hx hb zd_N_begin_11 rfl ?_
  refine va_put (D := D) (ci := 1) (v := .int (iI (-1))) (ty := .int) (C := zR_N) (T := zT_N) (N := 11) hx hb hts zi_N zk_N zo_N zn_N hown hK.1 hP hD hS 1 ga_1 rfl 2 (by decide) (hts _ zw_41) (fun _ h9 => h9) rfl (by decide +kernel) (rfl) (rfl) (Nat.le_of_ble_eq_true rfl) zd_N_begin_12 (fun H locs hP hD hS => ?_)
  rw [gs_1_2] at hP hD
  refine lv_iconst (v := iI (0)) hx hb zd_N_begin_15 rfl ?_
  refine lv_istore_n (lv' := [(2, .int (iI (0))), (0, .ref (q 1)), (1, .int (iI (n)))]) hx hb zd_N_begin_16 rfl hl (by decide) rfl (fun ls hl => ?_)
  have L_17 : ∀ (fu : Nat) (i : Int)  (A17 : Nat → Int → Int), (0 ≤ i ∧ i ≤ 8) → (∀ k, k ≠ 6 → k ≠ 7 → k ≠ 8 → A17 k = A k) → (∀ a, 0 ≤ a → a < i → A17 6 a = 1 ∧ A17 7 a = 1 ∧ A17 8 a = a) → (8 - i < (fu : Int)) → ∀ (H : Heap) (locs : List Loc), va_P D zcl (gw q c (fuP (fuP (fuP F 100 n) 101 0) 102 (-1)) A17) H → va_D A0 (gw q c (fuP (fuP (fuP F 100 n) 101 0) 102 (-1)) A17) → va_S A0 s.heap H locs → ∀ ls : Array Slot, lv_has ls 3 [(0, .ref (q 1)), (1, .int (iI (n))), (2, .int (iI (i)))] → W p l e zr_N_begin s m args below meth c0 H locs 0 0 Q (F0 m 17 ls []) := by
    intro fu
    induction fu with
    | zero => intro i  A17 hi hk he hm_17; exact absurd hm_17 (by omega)
    | succ fu ih_17 =>
      intro i  A17 hi hk he hm_17 H locs hP hD hS ls hl
      refine lv_iload_n hx hb zd_N_begin_17 rfl (lv_at hl 2 rfl) ?_
      refine lv_bipush (v := iI (8)) hx hb zd_N_begin_18 (by decide) ?_
      refine x_icmp_ge (tgt := 50) hx hb zd_N_begin_20 (by decide) (⟨by omega, by omega⟩) (⟨by omega, by omega⟩) (fun h_20 => ?_) (fun h_20 => ?_)
      · exact ret _ _ _ _ _ _ zd_N_begin_50 hP hD hS (⟨rfl, hk, fun a h0 h1 => he a h0 (by omega)⟩)
      · refine lv_aload_n hx hb zd_N_begin_23 rfl (lv_at hl 0 rfl) ?_
        refine va_get (D := D) (ci := 1) (v := .ref (q 6)) (C := zR_N) (T := zT_N) (N := 11) hx hb hts zi_N hown hK.1 hP 1 ga_1 rfl 3 (by decide) (hts _ zw_43) (fun _ h9 => h9) rfl zd_N_begin_24 ?_
        refine lv_iload_n hx hb zd_N_begin_27 rfl (lv_at hl 2 rfl) ?_
        refine lv_iconst (v := iI (1)) hx hb zd_N_begin_28 rfl ?_
        refine x_iast hx hb hK.1 hP hD hS 6 0 ga_6 rfl (by decide) (by omega) (by omega) zd_N_begin_29 (fun H locs hP hD hS => ?_)
        rw [gs_6] at hP hD
        refine lv_aload_n hx hb zd_N_begin_30 rfl (lv_at hl 0 rfl) ?_
        refine va_get (D := D) (ci := 1) (v := .ref (q 7)) (C := zR_N) (T := zT_N) (N := 11) hx hb hts zi_N hown hK.1 hP 1 ga_1 rfl 4 (by decide) (hts _ zw_46) (fun _ h9 => h9) rfl zd_N_begin_31 ?_
        refine lv_iload_n hx hb zd_N_begin_34 rfl (lv_at hl 2 rfl) ?_
        refine lv_iconst (v := iI (1)) hx hb zd_N_begin_35 rfl ?_
        refine x_iast hx hb hK.1 hP hD hS 7 0 ga_7 rfl (by decide) (by omega) (by omega) zd_N_begin_36 (fun H locs hP hD hS => ?_)
        rw [gs_7] at hP hD
        refine lv_aload_n hx hb zd_N_begin_37 rfl (lv_at hl 0 rfl) ?_
        refine va_get (D := D) (ci := 1) (v := .ref (q 8)) (C := zR_N) (T := zT_N) (N := 11) hx hb hts zi_N hown hK.1 hP 1 ga_1 rfl 5 (by decide) (hts _ zw_51) (fun _ h9 => h9) rfl zd_N_begin_38 ?_
        refine lv_iload_n hx hb zd_N_begin_41 rfl (lv_at hl 2 rfl) ?_
        refine lv_iload_n hx hb zd_N_begin_42 rfl (lv_at hl 2 rfl) ?_
        refine x_iast hx hb hK.1 hP hD hS 8 0 ga_8 rfl (by decide) (by omega) (by omega) zd_N_begin_43 (fun H locs hP hD hS => ?_)
        rw [gs_8] at hP hD
        refine lv_iinc (v := iI (i + 1)) (lv' := [(2, .int (iI (i + 1))), (0, .ref (q 1)), (1, .int (iI (n)))]) hx hb zd_N_begin_44 hl (k := 2) rfl (iI_add _ _) (by decide) rfl (fun ls hl => ?_)
        refine lv_goto (tgt := 17) hx hb zd_N_begin_47 (by decide) ?_
        exact ih_17 (i + 1)  (auP (auP (auP A17 6 i 1) 7 i 1) 8 i i) (by first | assumption | omega | (simp_all; done)) (fun k h6 h7 h8 => by simp [auP, h6, h7, h8, hk k h6 h7 h8]) (fun a h0 h1 => by by_cases e_ : a = i; (subst e_; simp [auP, upI]); (have := he a h0 (by omega); simp [auP, upI, e_, this])) (by omega) _ _ hP hD hS ls (lv_sub hl [1, 2, 0] rfl)
  exact L_17 (((8 - (0) : Int) + 1).toNat) (0)  A (by first | assumption | omega | (simp_all; done)) (fun k _ _ _ => rfl) (fun a h0 h1 => by omega) (by omega) _ _ hP hD hS ls (lv_sub hl [1, 2, 0] rfl)

abbrev zr_N_multiply : Room := ({ frames := 0, cells := 0, slots := 0, locals := 0 } : Room)
set_option maxHeartbeats 4000000 in
set_option maxRecDepth 100000 in
theorem c_N_multiply (l : Launch) (D : va_G) (q : Nat → Nat) (c : Nat → ClassId) (sz : Nat) (F : Nat → Int) (A : Nat → Int → Int) (w : Int) (f : Int) (hn : 1 ≤ F 100 ∧ F 100 ≤ 8) (hw : 0 ≤ w ∧ w < 8) (hp : ∀ a, 0 ≤ a → a < 8 → 0 ≤ A 8 a ∧ A 8 a < 8) : zMV l zy_N_multiply zc_N_multiply 4 none zr_N_multiply D q c sz [.ref (q 1), .int (iI (w)), .int (iI (f))] F A (fun F1 A1 => F1 = F ∧ (∀ k, k ≠ 7 → A1 k = A k) ∧ ∀ a, A1 7 a = if 0 ≤ a ∧ a < F 100 ∧ A 8 a = w then A 7 a * f else A 7 a) := by
  refine z_ofV (by decide) (Nat.le_of_ble_eq_true rfl) ?_
  intro p e s m args below meth c0 A0 Q C0 ret hP hD hS ls hl
  obtain ⟨S, hK, hA⟩ := C0
  have hx := S.1
  have hb := S.2.1
  have hown := S.2.2.2.1
  have hts : ∀ w ∈ zG, w.before args s = true := fun w h => S.2.2.2.2 w (List.mem_cons_of_mem _ h)
  have hl : lv_has ls 4 [(0, .ref (q 1)), (1, .int (iI (w))), (2, .int (iI (f)))] := hl
  refine lv_iconst (v := iI (0)) hx hb zd_N_multiply_0 rfl ?_
  refine lv_istore_n (lv' := [(3, .int (iI (0))), (0, .ref (q 1)), (1, .int (iI (w))), (2, .int (iI (f)))]) hx hb zd_N_multiply_1 rfl hl (by decide) rfl (fun ls hl => ?_)
  have L_2 : ∀ (fu : Nat) (i : Int)  (A2 : Nat → Int → Int), (0 ≤ i ∧ i ≤ F 100) → (∀ k, k ≠ 7 → A2 k = A k) → (∀ a, A2 7 a = if 0 ≤ a ∧ a < i ∧ A 8 a = w then A 7 a * f else A 7 a) → (F 100 - i < (fu : Int)) → ∀ (H : Heap) (locs : List Loc), va_P D zcl (gw q c F A2) H → va_D A0 (gw q c F A2) → va_S A0 s.heap H locs → ∀ ls : Array Slot, lv_has ls 4 [(0, .ref (q 1)), (1, .int (iI (w))), (2, .int (iI (f))), (3, .int (iI (i)))] → W p l e zr_N_multiply s m args below meth c0 H locs 0 0 Q (F0 m 2 ls []) := by
    intro fu
    induction fu with
    | zero => intro i  A2 hi hk he hm_2; exact absurd hm_2 (by omega)
    | succ fu ih_2 =>
      intro i  A2 hi hk he hm_2 H locs hP hD hS ls hl
      have h8 := hk 8 (by decide)
      refine lv_iload_n hx hb zd_N_multiply_2 rfl (lv_at hl 3 rfl) ?_
      refine lv_aload_n hx hb zd_N_multiply_3 rfl (lv_at hl 0 rfl) ?_
      refine va_get (D := D) (ci := 1) (v := .int (iI (F 100))) (C := zR_N) (T := zT_N) (N := 11) hx hb hts zi_N hown hK.1 hP 1 ga_1 rfl 0 (by decide) (hts _ zw_33) (fun _ h9 => h9) rfl zd_N_multiply_4 ?_
      refine x_icmp_ge (tgt := 36) hx hb zd_N_multiply_7 (by decide) (⟨by omega, by omega⟩) (⟨by omega, by omega⟩) (fun h_7 => ?_) (fun h_7 => ?_)
      · have e_ : i = F 100 := by omega
        subst e_
        exact ret _ _ _ _ _ _ zd_N_multiply_36 hP hD hS (⟨rfl, hk, he⟩)
      · have hc_ := hp i (by omega) (by omega)
        refine lv_aload_n hx hb zd_N_multiply_10 rfl (lv_at hl 0 rfl) ?_
        refine va_get (D := D) (ci := 1) (v := .ref (q 8)) (C := zR_N) (T := zT_N) (N := 11) hx hb hts zi_N hown hK.1 hP 1 ga_1 rfl 5 (by decide) (hts _ zw_51) (fun _ h9 => h9) rfl zd_N_multiply_11 ?_
        refine lv_iload_n hx hb zd_N_multiply_14 rfl (lv_at hl 3 rfl) ?_
        refine x_iald (v := A 8 i) hx hb hK.1 hP 8 0 ga_8 rfl (by decide) (by omega) (by omega) (by rw [h8]) zd_N_multiply_15 ?_
        refine lv_iload_n hx hb zd_N_multiply_16 rfl (lv_at hl 1 rfl) ?_
        refine x_icmp_ne (tgt := 30) hx hb zd_N_multiply_17 (by decide) (⟨by omega, by omega⟩) (⟨by omega, by omega⟩) (fun h_17 => ?_) (fun h_17 => ?_)
        · refine lv_iinc (v := iI (i + 1)) (lv' := [(3, .int (iI (i + 1))), (0, .ref (q 1)), (1, .int (iI (w))), (2, .int (iI (f)))]) hx hb zd_N_multiply_30 hl (k := 3) rfl (iI_add _ _) (by decide) rfl (fun ls hl => ?_)
          refine lv_goto (tgt := 2) hx hb zd_N_multiply_33 (by decide) ?_
          exact ih_2 (i + 1)  A2 (by first | assumption | omega | (simp_all; done)) (fun k h7 => by first | exact hk k h7 | simp [auP, h7, hk k h7]) (by first | exact lu_n he h_17 | exact lu_y he (by omega) h_17 (by rw [lu_o he])) (by omega) _ _ hP hD hS ls (lv_sub hl [1, 2, 3, 0] rfl)
        · refine lv_aload_n hx hb zd_N_multiply_20 rfl (lv_at hl 0 rfl) ?_
          refine va_get (D := D) (ci := 1) (v := .ref (q 7)) (C := zR_N) (T := zT_N) (N := 11) hx hb hts zi_N hown hK.1 hP 1 ga_1 rfl 4 (by decide) (hts _ zw_46) (fun _ h9 => h9) rfl zd_N_multiply_21 ?_
          refine lv_iload_n hx hb zd_N_multiply_24 rfl (lv_at hl 3 rfl) ?_
          refine lv_dup2_11 hx hb zd_N_multiply_25 rfl rfl ?_
          refine x_iald (v := A2 7 i) hx hb hK.1 hP 7 0 ga_7 rfl (by decide) (by omega) (by omega) (rfl) zd_N_multiply_26 ?_
          refine lv_iload_n hx hb zd_N_multiply_27 rfl (lv_at hl 2 rfl) ?_
          refine x_imul hx hb zd_N_multiply_28 ?_
          refine x_iast hx hb hK.1 hP hD hS 7 0 ga_7 rfl (by decide) (by omega) (by omega) zd_N_multiply_29 (fun H locs hP hD hS => ?_)
          rw [gs_7] at hP hD
          refine lv_iinc (v := iI (i + 1)) (lv' := [(3, .int (iI (i + 1))), (0, .ref (q 1)), (1, .int (iI (w))), (2, .int (iI (f)))]) hx hb zd_N_multiply_30 hl (k := 3) rfl (iI_add _ _) (by decide) rfl (fun ls hl => ?_)
          refine lv_goto (tgt := 2) hx hb zd_N_multiply_33 (by decide) ?_
          exact ih_2 (i + 1)  (auP A2 7 i ((A2 7 i) * f)) (by first | assumption | omega | (simp_all; done)) (fun k h7 => by first | exact hk k h7 | simp [auP, h7, hk k h7]) (by first | exact lu_n he h_17 | exact lu_y he (by omega) h_17 (by rw [lu_o he])) (by omega) _ _ hP hD hS ls (lv_sub hl [1, 2, 3, 0] rfl)
  exact L_2 (((F 100 - (0) : Int) + 1).toNat) (0)  A (by first | assumption | omega | (simp_all; done)) (fun k _ => rfl) (fun a => by rw [if_neg (by omega)]) (by omega) _ _ hP hD hS ls (lv_sub hl [1, 2, 3, 0] rfl)

abbrev zr_N_join : Room := ({ frames := 1, cells := 0, slots := 0, locals := 29 } : Room)
set_option maxHeartbeats 4000000 in
set_option maxRecDepth 100000 in
theorem c_N_join (l : Launch) (D : va_G) (q : Nat → Nat) (c : Nat → ClassId) (sz : Nat) (F : Nat → Int) (A : Nat → Int → Int) (x : Int) (y : Int) (hn : 1 ≤ F 100 ∧ F 100 ≤ 8) (hw : (0 ≤ x ∧ x < 8) ∧ 0 ≤ y ∧ y < 8) (hp : ∀ a, 0 ≤ a → a < 8 → 0 ≤ A 8 a ∧ A 8 a < 8) : zMV l zy_N_join zc_N_join 6 none zr_N_join D q c sz [.ref (q 1), .int (iI (x)), .int (iI (y))] F A (fun F1 A1 => F1 = F ∧ (∀ k, k ≠ 8 → A1 k = A k) ∧ ∀ a, A1 8 a = if 0 ≤ a ∧ a < F 100 ∧ A 8 a = max x y then min x y else A 8 a) := by
  refine z_ofV (by decide) (Nat.le_of_ble_eq_true rfl) ?_
  intro p e s m args below meth c0 A0 Q C0 ret hP hD hS ls hl
  obtain ⟨S, hK, hA⟩ := C0
  have hx := S.1
  have hb := S.2.1
  have hown := S.2.2.2.1
  have hts : ∀ w ∈ zG, w.before args s = true := fun w h => S.2.2.2.2 w (List.mem_cons_of_mem _ h)
  have hl : lv_has ls 6 [(0, .ref (q 1)), (1, .int (iI (x))), (2, .int (iI (y)))] := hl
  refine lv_iload_n hx hb zd_N_join_0 rfl (lv_at hl 1 rfl) ?_
  refine lv_iload_n hx hb zd_N_join_1 rfl (lv_at hl 2 rfl) ?_
  refine x_mmin hx hb (S.2.2.1.trans hl.1.symm) hown (hts _ zw_244) (hts _ zw_245) (hts _ zw_7) (hts _ zw_246) (by decide) (Nat.le_of_ble_eq_true rfl) (Nat.zero_le _) (Nat.zero_le _) (⟨by omega, by omega⟩) (⟨by omega, by omega⟩) zd_N_join_2 ?_
  refine lv_istore_n (lv' := [(3, .int (iI (min x y))), (0, .ref (q 1)), (1, .int (iI (x))), (2, .int (iI (y)))]) hx hb zd_N_join_5 rfl hl (by decide) rfl (fun ls hl => ?_)
  refine lv_iload_n hx hb zd_N_join_6 rfl (lv_at hl 2 rfl) ?_
  refine lv_iload_n hx hb zd_N_join_7 rfl (lv_at hl 3 rfl) ?_
  refine x_mmax hx hb (S.2.2.1.trans hl.1.symm) hown (hts _ zw_247) (hts _ zw_248) (hts _ zw_7) (hts _ zw_249) (by decide) (Nat.le_of_ble_eq_true rfl) (Nat.zero_le _) (Nat.zero_le _) (⟨by omega, by omega⟩) (⟨by omega, by omega⟩) zd_N_join_8 ?_
  refine lv_istore (lv' := [(4, .int (iI (max x y))), (3, .int (iI (min x y))), (0, .ref (q 1)), (1, .int (iI (x))), (2, .int (iI (y)))]) hx hb zd_N_join_11 hl (by decide) rfl (fun ls hl => ?_)
  refine lv_iconst (v := iI (0)) hx hb zd_N_join_13 rfl ?_
  refine lv_istore (lv' := [(5, .int (iI (0))), (4, .int (iI (max x y))), (3, .int (iI (min x y))), (0, .ref (q 1)), (1, .int (iI (x))), (2, .int (iI (y)))]) hx hb zd_N_join_14 hl (by decide) rfl (fun ls hl => ?_)
  have L_16 : ∀ (fu : Nat) (i : Int)  (A16 : Nat → Int → Int), (0 ≤ i ∧ i ≤ F 100) → (∀ k, k ≠ 8 → A16 k = A k) → (∀ a, A16 8 a = if 0 ≤ a ∧ a < i ∧ A 8 a = max x y then min x y else A 8 a) → (F 100 - i < (fu : Int)) → ∀ (H : Heap) (locs : List Loc), va_P D zcl (gw q c F A16) H → va_D A0 (gw q c F A16) → va_S A0 s.heap H locs → ∀ ls : Array Slot, lv_has ls 6 [(0, .ref (q 1)), (1, .int (iI (x))), (2, .int (iI (y))), (3, .int (iI (min x y))), (4, .int (iI (max x y))), (5, .int (iI (i)))] → W p l e zr_N_join s m args below meth c0 H locs 0 0 Q (F0 m 16 ls []) := by
    intro fu
    induction fu with
    | zero => intro i  A16 hi hk he hm_16; exact absurd hm_16 (by omega)
    | succ fu ih_16 =>
      intro i  A16 hi hk he hm_16 H locs hP hD hS ls hl
      refine lv_iload hx hb zd_N_join_16 (lv_at hl 5 rfl) ?_
      refine lv_aload_n hx hb zd_N_join_18 rfl (lv_at hl 0 rfl) ?_
      refine va_get (D := D) (ci := 1) (v := .int (iI (F 100))) (C := zR_N) (T := zT_N) (N := 11) hx hb hts zi_N hown hK.1 hP 1 ga_1 rfl 0 (by decide) (hts _ zw_33) (fun _ h9 => h9) rfl zd_N_join_19 ?_
      refine x_icmp_ge (tgt := 51) hx hb zd_N_join_22 (by decide) (⟨by omega, by omega⟩) (⟨by omega, by omega⟩) (fun h_22 => ?_) (fun h_22 => ?_)
      · have e_ : i = F 100 := by omega
        subst e_
        exact ret _ _ _ _ _ _ zd_N_join_51 hP hD hS (⟨rfl, hk, he⟩)
      · have hc_ := hp i (by omega) (by omega)
        have h8 : A16 8 i = A 8 i := by rw [he i, if_neg (by omega)]
        refine lv_aload_n hx hb zd_N_join_25 rfl (lv_at hl 0 rfl) ?_
        refine va_get (D := D) (ci := 1) (v := .ref (q 8)) (C := zR_N) (T := zT_N) (N := 11) hx hb hts zi_N hown hK.1 hP 1 ga_1 rfl 5 (by decide) (hts _ zw_51) (fun _ h9 => h9) rfl zd_N_join_26 ?_
        refine lv_iload hx hb zd_N_join_29 (lv_at hl 5 rfl) ?_
        refine x_iald (v := A 8 i) hx hb hK.1 hP 8 0 ga_8 rfl (by decide) (by omega) (by omega) (h8) zd_N_join_31 ?_
        refine lv_iload hx hb zd_N_join_32 (lv_at hl 4 rfl) ?_
        refine x_icmp_ne (tgt := 45) hx hb zd_N_join_34 (by decide) (⟨by omega, by omega⟩) (⟨by omega, by omega⟩) (fun h_34 => ?_) (fun h_34 => ?_)
        · refine lv_iinc (v := iI (i + 1)) (lv' := [(5, .int (iI (i + 1))), (0, .ref (q 1)), (1, .int (iI (x))), (2, .int (iI (y))), (3, .int (iI (min x y))), (4, .int (iI (max x y)))]) hx hb zd_N_join_45 hl (k := 5) rfl (iI_add _ _) (by decide) rfl (fun ls hl => ?_)
          refine lv_goto (tgt := 16) hx hb zd_N_join_48 (by decide) ?_
          exact ih_16 (i + 1)  A16 (by first | assumption | omega | (simp_all; done)) (fun k h7 => by first | exact hk k h7 | simp [auP, h7, hk k h7]) (by first | exact lu_n he h_34 | exact lu_y he (by omega) h_34 rfl) (by omega) _ _ hP hD hS ls (lv_sub hl [1, 2, 3, 4, 5, 0] rfl)
        · refine lv_aload_n hx hb zd_N_join_37 rfl (lv_at hl 0 rfl) ?_
          refine va_get (D := D) (ci := 1) (v := .ref (q 8)) (C := zR_N) (T := zT_N) (N := 11) hx hb hts zi_N hown hK.1 hP 1 ga_1 rfl 5 (by decide) (hts _ zw_51) (fun _ h9 => h9) rfl zd_N_join_38 ?_
          refine lv_iload hx hb zd_N_join_41 (lv_at hl 5 rfl) ?_
          refine lv_iload_n hx hb zd_N_join_43 rfl (lv_at hl 3 rfl) ?_
          refine x_iast hx hb hK.1 hP hD hS 8 0 ga_8 rfl (by decide) (by omega) (by omega) zd_N_join_44 (fun H locs hP hD hS => ?_)
          rw [gs_8] at hP hD
          refine lv_iinc (v := iI (i + 1)) (lv' := [(5, .int (iI (i + 1))), (0, .ref (q 1)), (1, .int (iI (x))), (2, .int (iI (y))), (3, .int (iI (min x y))), (4, .int (iI (max x y)))]) hx hb zd_N_join_45 hl (k := 5) rfl (iI_add _ _) (by decide) rfl (fun ls hl => ?_)
          refine lv_goto (tgt := 16) hx hb zd_N_join_48 (by decide) ?_
          exact ih_16 (i + 1)  (auP A16 8 i (min x y)) (by first | assumption | omega | (simp_all; done)) (fun k h7 => by first | exact hk k h7 | simp [auP, h7, hk k h7]) (by first | exact lu_n he h_34 | exact lu_y he (by omega) h_34 rfl) (by omega) _ _ hP hD hS ls (lv_sub hl [1, 2, 3, 4, 5, 0] rfl)
  exact L_16 (((F 100 - (0) : Int) + 1).toNat) (0)  A (by first | assumption | omega | (simp_all; done)) (fun k _ => rfl) (fun a => by rw [if_neg (by omega)]) (by omega) _ _ hP hD hS ls (lv_sub hl [3, 4, 5, 2, 1, 0] rfl)
end
section
section BAL
variable {F : Nat → Int} {A : Nat → Int → Int} {k : Int}
theorem bal_y {A1 A2 A3 : Nat → Int → Int} {g x y : Int} (h : ¬ A 8 (A 9 k) = A 8 (A 10 k)) (hg : g = gI (A 7 (A 9 k) * A 11 k) (A 7 (A 10 k) * A 12 k)) (hx : x = if g = 0 then 0 else (A 7 (A 10 k) * A 12 k).tdiv g) (hy : y = if g = 0 then 0 else (A 7 (A 9 k) * A 11 k).tdiv g) (h0 : 1 ≤ g)
    (m1 : ∀ j, j ≠ 7 → A1 j = A j) (m2 : ∀ a, A1 7 a = if 0 ≤ a ∧ a < F 100 ∧ A 8 a = A 8 (A 9 k) then A 7 a * x else A 7 a)
    (m3 : ∀ j, j ≠ 7 → A2 j = A1 j) (m4 : ∀ a, A2 7 a = if 0 ≤ a ∧ a < F 100 ∧ A1 8 a = A 8 (A 10 k) then A1 7 a * y else A1 7 a)
    (m5 : ∀ j, j ≠ 8 → A3 j = A2 j) (m6 : ∀ a, A3 8 a = if 0 ≤ a ∧ a < F 100 ∧ A2 8 a = max (A 8 (A 9 k)) (A 8 (A 10 k)) then min (A 8 (A 9 k)) (A 8 (A 10 k)) else A2 8 a) :
    (A 8 (A 9 k) ≠ A 8 (A 10 k) → F = F ∧ (∀ j, j ≠ 7 → j ≠ 8 → A3 j = A j) ∧
  (∀ a, A3 7 a = if 0 ≤ a ∧ a < F 100 ∧ A 8 a = A 8 (A 10 k) then A 7 a * (A 7 (A 9 k) * A 11 k).tdiv (gI (A 7 (A 9 k) * A 11 k) (A 7 (A 10 k) * A 12 k)) else if 0 ≤ a ∧ a < F 100 ∧ A 8 a = A 8 (A 9 k) then A 7 a * (A 7 (A 10 k) * A 12 k).tdiv (gI (A 7 (A 9 k) * A 11 k) (A 7 (A 10 k) * A 12 k)) else A 7 a) ∧
  (∀ a, A3 8 a = if 0 ≤ a ∧ a < F 100 ∧ A 8 a = max (A 8 (A 9 k)) (A 8 (A 10 k)) then min (A 8 (A 9 k)) (A 8 (A 10 k)) else A 8 a)) ∧
  (A 8 (A 9 k) = A 8 (A 10 k) → A3 = A ∧ F = if A 7 (A 9 k) * A 11 k ≠ A 7 (A 10 k) * A 12 k ∧ F 102 = -1 then fuP F 102 k else F) := by
  refine ⟨fun _ => ⟨rfl, fun j h7 h8 => by rw [m5 j h8, m3 j h7, m1 j h7], fun a => ?_, fun a => ?_⟩, fun e => absurd e h⟩
  · have e1 : A1 8 = A 8 := m1 8 (by decide)
    rw [if_neg (by omega)] at hx hy
    rw [m5 7 (by decide), m4 a, e1, m2 a, ← hg, ← hx, ← hy]
    by_cases c1 : 0 ≤ a ∧ a < F 100 ∧ A 8 a = A 8 (A 10 k)
    · rw [if_pos c1, if_pos c1, if_neg (fun z => h (z.2.2.symm.trans c1.2.2))]
    · rw [if_neg c1, if_neg c1]
  · rw [m6 a, m3 8 (by decide), m1 8 (by decide)]
theorem bal_n {F1 : Nat → Int} (h : A 8 (A 9 k) = A 8 (A 10 k)) (h1 : F1 = if A 7 (A 9 k) * A 11 k ≠ A 7 (A 10 k) * A 12 k ∧ F 102 = -1 then fuP F 102 k else F) :
    (A 8 (A 9 k) ≠ A 8 (A 10 k) → F1 = F ∧ (∀ j, j ≠ 7 → j ≠ 8 → A j = A j) ∧
  (∀ a, A 7 a = if 0 ≤ a ∧ a < F 100 ∧ A 8 a = A 8 (A 10 k) then A 7 a * (A 7 (A 9 k) * A 11 k).tdiv (gI (A 7 (A 9 k) * A 11 k) (A 7 (A 10 k) * A 12 k)) else if 0 ≤ a ∧ a < F 100 ∧ A 8 a = A 8 (A 9 k) then A 7 a * (A 7 (A 10 k) * A 12 k).tdiv (gI (A 7 (A 9 k) * A 11 k) (A 7 (A 10 k) * A 12 k)) else A 7 a) ∧
  (∀ a, A 8 a = if 0 ≤ a ∧ a < F 100 ∧ A 8 a = max (A 8 (A 9 k)) (A 8 (A 10 k)) then min (A 8 (A 9 k)) (A 8 (A 10 k)) else A 8 a)) ∧
  (A 8 (A 9 k) = A 8 (A 10 k) → A = A ∧ F1 = if A 7 (A 9 k) * A 11 k ≠ A 7 (A 10 k) * A 12 k ∧ F 102 = -1 then fuP F 102 k else F) := ⟨fun e => absurd h e, fun _ => ⟨rfl, h1⟩⟩
end BAL
/-- a channel written at the end -/
abbrev addW (F : Nat → Int) (A : Nat → Int → Int) (a b x y t : Int) : Nat → Int → Int := auP (auP (auP (auP (auP A 9 (F 101) a) 10 (F 101) b) 11 (F 101) x) 12 (F 101) y) 13 (F 101) t
abbrev balP (F : Nat → Int) (A : Nat → Int → Int) (k : Int) (F1 : Nat → Int) (A1 : Nat → Int → Int) : Prop := (A 8 (A 9 k) ≠ A 8 (A 10 k) → F1 = F ∧ (∀ j, j ≠ 7 → j ≠ 8 → A1 j = A j) ∧
  (∀ a, A1 7 a = if 0 ≤ a ∧ a < F 100 ∧ A 8 a = A 8 (A 10 k) then A 7 a * (A 7 (A 9 k) * A 11 k).tdiv (gI (A 7 (A 9 k) * A 11 k) (A 7 (A 10 k) * A 12 k)) else if 0 ≤ a ∧ a < F 100 ∧ A 8 a = A 8 (A 9 k) then A 7 a * (A 7 (A 10 k) * A 12 k).tdiv (gI (A 7 (A 9 k) * A 11 k) (A 7 (A 10 k) * A 12 k)) else A 7 a) ∧
  (∀ a, A1 8 a = if 0 ≤ a ∧ a < F 100 ∧ A 8 a = max (A 8 (A 9 k)) (A 8 (A 10 k)) then min (A 8 (A 9 k)) (A 8 (A 10 k)) else A 8 a)) ∧
  (A 8 (A 9 k) = A 8 (A 10 k) → A1 = A ∧ F1 = if A 7 (A 9 k) * A 11 k ≠ A 7 (A 10 k) * A 12 k ∧ F 102 = -1 then fuP F 102 k else F)
abbrev addP (F : Nat → Int) (A : Nat → Int → Int) (a b x y t : Int) (F1 : Nat → Int) (A1 : Nat → Int → Int) : Prop := balP (fuP F 101 (F 101 + 1)) (addW F A a b x y t) (F 101) F1 A1
theorem add_ch {F : Nat → Int} {A : Nat → Int → Int} {a b x y t : Int} (hn : 1 ≤ F 100 ∧ F 100 ≤ 8) (hch : ∀ k, 0 ≤ k → k < F 101 → (0 ≤ A 9 k ∧ A 9 k < F 100) ∧ (0 ≤ A 10 k ∧ A 10 k < F 100) ∧ (1 ≤ A 11 k ∧ A 11 k ≤ 9) ∧ (1 ≤ A 12 k ∧ A 12 k ≤ 9) ∧ 0 ≤ A 13 k ∧ A 13 k ≤ 99) (hab : (0 ≤ a ∧ a < F 100) ∧ 0 ≤ b ∧ b < F 100) (hxy : (1 ≤ x ∧ x ≤ 9) ∧ (1 ≤ y ∧ y ≤ 9) ∧ 0 ≤ t ∧ t ≤ 99) :
    ∀ k, 0 ≤ k → k < fuP F 101 (F 101 + 1) 101 → (0 ≤ addW F A a b x y t 9 k ∧ addW F A a b x y t 9 k < fuP F 101 (F 101 + 1) 100) ∧ (0 ≤ addW F A a b x y t 10 k ∧ addW F A a b x y t 10 k < fuP F 101 (F 101 + 1) 100) ∧ (1 ≤ addW F A a b x y t 11 k ∧ addW F A a b x y t 11 k ≤ 9) ∧ (1 ≤ addW F A a b x y t 12 k ∧ addW F A a b x y t 12 k ≤ 9) ∧ 0 ≤ addW F A a b x y t 13 k ∧ addW F A a b x y t 13 k ≤ 99 := by
  intro k h0 h1
  have h1 : k < F 101 + 1 := h1
  by_cases e : k = F 101
  · subst e
    simp [addW, auP, upI, fuP]
    omega
  · have := hch k h0 (by omega)
    simp [addW, auP, upI, fuP, e]
    omega
abbrev zr_C_commonDivisor : Room := ({ frames := 0, cells := 0, slots := 0, locals := 0 } : Room)
set_option maxHeartbeats 4000000 in
set_option maxRecDepth 100000 in
theorem c_C_commonDivisor (l : Launch) (D : va_G) (q : Nat → Nat) (c : Nat → ClassId) (sz : Nat) (F : Nat → Int) (A : Nat → Int → Int) (a : Int) (b : Int) (ha : 0 ≤ a ∧ a ≤ 2147483647) (hb_ : 0 ≤ b ∧ b ≤ 2147483647) : zMI l zy_C_commonDivisor zc_C_commonDivisor 6 (some .int) zr_C_commonDivisor D q c sz [.int (iI (a)), .int (iI (b))] F A (fun z F1 A1 => F1 = F ∧ A1 = A ∧ z = gI a b) := by
  refine z_ofI (by decide) (Nat.le_of_ble_eq_true rfl) ?_
  intro p e s m args below meth c0 A0 Q C0 ret hP hD hS ls hl
  obtain ⟨S, hK, hA⟩ := C0
  have hx := S.1
  have hb := S.2.1
  have hown := S.2.2.2.1
  have hts : ∀ w ∈ zG, w.before args s = true := fun w h => S.2.2.2.2 w (List.mem_cons_of_mem _ h)
  have hl : lv_has ls 6 [(0, .int (iI (a))), (1, .int (iI (b)))] := hl
  refine lv_iload_n hx hb zd_C_commonDivisor_0 rfl (lv_at hl 0 rfl) ?_
  refine lv_istore_n (lv' := [(2, .int (iI (a))), (0, .int (iI (a))), (1, .int (iI (b)))]) hx hb zd_C_commonDivisor_1 rfl hl (by decide) rfl (fun ls hl => ?_)
  refine lv_iload_n hx hb zd_C_commonDivisor_2 rfl (lv_at hl 2 rfl) ?_
  refine lv_istore_n (lv' := [(3, .int (iI (b))), (2, .int (iI (a))), (0, .int (iI (a))), (1, .int (iI (b)))]) hx hb zd_C_commonDivisor_3 rfl hl (by decide) rfl (fun ls hl => ?_)
  refine lv_iconst (v := iI (0)) hx hb zd_C_commonDivisor_4 rfl ?_
  refine lv_istore (lv' := [(4, .int (iI (0))), (3, .int (iI (b))), (2, .int (iI (a))), (0, .int (iI (a))), (1, .int (iI (b)))]) hx hb zd_C_commonDivisor_5 hl (by decide) rfl (fun ls hl => ?_)
  have L_7 : ∀ (fu : Nat) (x : Int) (y : Int) (i : Int) , (0 ≤ i ∧ i ≤ 100) → ((0 ≤ x ∧ x ≤ 2147483647) ∧ 0 ≤ y ∧ y ≤ 2147483647) → (gI x y = gI a b) → (eu_ok x y i) → (100 - i < (fu : Int)) → ∀ (H : Heap) (locs : List Loc), va_P D zcl (gw q c F A) H → va_D A0 (gw q c F A) → va_S A0 s.heap H locs → ∀ ls : Array Slot, lv_has ls 6 [(0, .int (iI (a))), (1, .int (iI (b))), (2, .int (iI (x))), (3, .int (iI (y))), (4, .int (iI (i)))] → W p l e zr_C_commonDivisor s m args below meth c0 H locs 0 0 Q (F0 m 7 ls []) := by
    intro fu
    induction fu with
    | zero => intro x y i   hi hxy hg he hm_7; exact absurd hm_7 (by omega)
    | succ fu ih_7 =>
      intro x y i   hi hxy hg he hm_7 H locs hP hD hS ls hl
      refine lv_iload hx hb zd_C_commonDivisor_7 (lv_at hl 4 rfl) ?_
      refine lv_bipush (v := iI (100)) hx hb zd_C_commonDivisor_9 (by decide) ?_
      refine x_icmp_ge (tgt := 34) hx hb zd_C_commonDivisor_11 (by decide) (⟨by omega, by omega⟩) (⟨by omega, by omega⟩) (fun h_11 => ?_) (fun h_11 => ?_)
      · have hy0 := eu_end he (by omega) (by omega) (by omega)
        refine lv_iload_n hx hb zd_C_commonDivisor_34 rfl (lv_at hl 2 rfl) ?_
        exact ret _ _ _ _ _ _ _ zd_C_commonDivisor_35 hP hD hS (⟨rfl, rfl, by first | (rw [hy0] at hg; rw [← hg, gI_0 (by omega)]) | (rw [h_15] at hg; rw [← hg, gI_0 (by omega)])⟩)
      · refine lv_iload_n hx hb zd_C_commonDivisor_14 rfl (lv_at hl 3 rfl) ?_
        refine x_if_eq (tgt := 34) hx hb zd_C_commonDivisor_15 (by decide) (⟨by omega, by omega⟩) (fun h_15 => ?_) (fun h_15 => ?_)
        · refine lv_iload_n hx hb zd_C_commonDivisor_34 rfl (lv_at hl 2 rfl) ?_
          exact ret _ _ _ _ _ _ _ zd_C_commonDivisor_35 hP hD hS (⟨rfl, rfl, by first | (rw [hy0] at hg; rw [← hg, gI_0 (by omega)]) | (rw [h_15] at hg; rw [← hg, gI_0 (by omega)])⟩)
        · have ht_ := tm_lt (x := x) (y := y) (by omega) (by omega)
          refine lv_iload_n hx hb zd_C_commonDivisor_18 rfl (lv_at hl 2 rfl) ?_
          refine lv_iload_n hx hb zd_C_commonDivisor_19 rfl (lv_at hl 3 rfl) ?_
          refine x_irem hx hb zd_C_commonDivisor_20 (⟨by omega, by omega⟩) (⟨by omega, by omega⟩) (by omega) ?_
          refine lv_istore (lv' := [(5, .int (iI (x.tmod y))), (0, .int (iI (a))), (1, .int (iI (b))), (2, .int (iI (x))), (3, .int (iI (y))), (4, .int (iI (i)))]) hx hb zd_C_commonDivisor_21 hl (by decide) rfl (fun ls hl => ?_)
          refine lv_iload_n hx hb zd_C_commonDivisor_23 rfl (lv_at hl 4 rfl) ?_
          refine lv_istore_n (lv' := [(2, .int (iI (y))), (5, .int (iI (x.tmod y))), (0, .int (iI (a))), (1, .int (iI (b))), (3, .int (iI (y))), (4, .int (iI (i)))]) hx hb zd_C_commonDivisor_24 rfl hl (by decide) rfl (fun ls hl => ?_)
          refine lv_iload hx hb zd_C_commonDivisor_25 (lv_at hl 1 rfl) ?_
          refine lv_istore_n (lv' := [(3, .int (iI (x.tmod y))), (2, .int (iI (y))), (5, .int (iI (x.tmod y))), (0, .int (iI (a))), (1, .int (iI (b))), (4, .int (iI (i)))]) hx hb zd_C_commonDivisor_27 rfl hl (by decide) rfl (fun ls hl => ?_)
          refine lv_iinc (v := iI (i + 1)) (lv' := [(4, .int (iI (i + 1))), (3, .int (iI (x.tmod y))), (2, .int (iI (y))), (5, .int (iI (x.tmod y))), (0, .int (iI (a))), (1, .int (iI (b)))]) hx hb zd_C_commonDivisor_28 hl (k := 5) rfl (iI_add _ _) (by decide) rfl (fun ls hl => ?_)
          refine lv_goto (tgt := 7) hx hb zd_C_commonDivisor_31 (by decide) ?_
          exact ih_7 (y) (x.tmod y) (i + 1)   (by first | assumption | omega | (simp_all; done)) (by first | assumption | omega | (simp_all; done)) (by rw [gI_step (by omega) (by omega)]; exact hg) (eu_next he (by omega) (by omega) (by omega)) (by omega) _ _ hP hD hS ls (lv_sub hl [4, 5, 2, 1, 0] rfl)
  exact L_7 (((100 - (0) : Int) + 1).toNat) (a) (b) (0)   (by first | assumption | omega | (simp_all; done)) (by first | assumption | omega | (simp_all; done)) (rfl) (Or.inl rfl) (by omega) _ _ hP hD hS ls (lv_sub hl [3, 4, 2, 1, 0] rfl)

abbrev zr_N_balance : Room := ({ frames := 2, cells := 0, slots := 0, locals := 54 } : Room)
set_option maxHeartbeats 4000000 in
set_option maxRecDepth 100000 in
theorem c_N_balance (l : Launch) (D : va_G) (q : Nat → Nat) (c : Nat → ClassId) (sz : Nat) (F : Nat → Int) (A : Nat → Int → Int) (k : Int) (hn : 1 ≤ F 100 ∧ F 100 ≤ 8) (hc : 0 ≤ F 101 ∧ F 101 ≤ 14) (hact : ∀ a, 0 ≤ a → a < 8 → (1 ≤ A 7 a ∧ A 7 a ≤ 4782969) ∧ 0 ≤ A 8 a ∧ A 8 a < 8) (hch : ∀ k, 0 ≤ k → k < F 101 → (0 ≤ A 9 k ∧ A 9 k < F 100) ∧ (0 ≤ A 10 k ∧ A 10 k < F 100) ∧ (1 ≤ A 11 k ∧ A 11 k ≤ 9) ∧ (1 ≤ A 12 k ∧ A 12 k ≤ 9) ∧ 0 ≤ A 13 k ∧ A 13 k ≤ 99) (hk : 0 ≤ k ∧ k < F 101) (hu : ib (F 102)) : zMV l zy_N_balance zc_N_balance 7 none zr_N_balance D q c sz [.ref (q 1), .int (iI (k))] F A (fun F1 A1 => balP F A k F1 A1) := by
  refine z_ofV (by decide) (Nat.le_of_ble_eq_true rfl) ?_
  intro p e s m args below meth c0 A0 Q C0 ret hP hD hS ls hl
  obtain ⟨S, hK, hA⟩ := C0
  have hx := S.1
  have hb := S.2.1
  have hown := S.2.2.2.1
  have hts : ∀ w ∈ zG, w.before args s = true := fun w h => S.2.2.2.2 w (List.mem_cons_of_mem _ h)
  have hl : lv_has ls 7 [(0, .ref (q 1)), (1, .int (iI (k)))] := hl
  have hc_ := hch k (by omega) (by omega)
  have hf_ := hact (A 9 k) (by omega) (by omega)
  have ht_ := hact (A 10 k) (by omega) (by omega)
  have hg_ : 1 ≤ A 7 (A 9 k) * A 11 k ∧ A 7 (A 9 k) * A 11 k ≤ 4782969 * 9 := mulb hf_.1 hc_.2.2.1
  have hk_ : 1 ≤ A 7 (A 10 k) * A 12 k ∧ A 7 (A 10 k) * A 12 k ≤ 4782969 * 9 := mulb ht_.1 hc_.2.2.2.1
  refine lv_aload_n hx hb zd_N_balance_0 rfl (lv_at hl 0 rfl) ?_
  refine va_get (D := D) (ci := 1) (v := .ref (q 7)) (C := zR_N) (T := zT_N) (N := 11) hx hb hts zi_N hown hK.1 hP 1 ga_1 rfl 4 (by decide) (hts _ zw_46) (fun _ h9 => h9) rfl zd_N_balance_1 ?_
  refine lv_aload_n hx hb zd_N_balance_4 rfl (lv_at hl 0 rfl) ?_
  refine va_get (D := D) (ci := 1) (v := .ref (q 9)) (C := zR_N) (T := zT_N) (N := 11) hx hb hts zi_N hown hK.1 hP 1 ga_1 rfl 6 (by decide) (hts _ zw_54) (fun _ h9 => h9) rfl zd_N_balance_5 ?_
  refine lv_iload_n hx hb zd_N_balance_8 rfl (lv_at hl 1 rfl) ?_
  refine x_iald (v := A 9 k) hx hb hK.1 hP 9 0 ga_9 rfl (by decide) (by omega) (by omega) (rfl) zd_N_balance_9 ?_
  refine x_iald (v := A 7 (A 9 k)) hx hb hK.1 hP 7 0 ga_7 rfl (by decide) (by omega) (by omega) (rfl) zd_N_balance_10 ?_
  refine lv_aload_n hx hb zd_N_balance_11 rfl (lv_at hl 0 rfl) ?_
  refine va_get (D := D) (ci := 1) (v := .ref (q 11)) (C := zR_N) (T := zT_N) (N := 11) hx hb hts zi_N hown hK.1 hP 1 ga_1 rfl 8 (by decide) (hts _ zw_60) (fun _ h9 => h9) rfl zd_N_balance_12 ?_
  refine lv_iload_n hx hb zd_N_balance_15 rfl (lv_at hl 1 rfl) ?_
  refine x_iald (v := A 11 k) hx hb hK.1 hP 11 0 ga_11 rfl (by decide) (by omega) (by omega) (rfl) zd_N_balance_16 ?_
  refine x_imul hx hb zd_N_balance_17 ?_
  refine lv_istore_n (lv' := [(2, .int (iI ((A 7 (A 9 k)) * (A 11 k)))), (0, .ref (q 1)), (1, .int (iI (k)))]) hx hb zd_N_balance_18 rfl hl (by decide) rfl (fun ls hl => ?_)
  refine lv_aload_n hx hb zd_N_balance_19 rfl (lv_at hl 1 rfl) ?_
  refine va_get (D := D) (ci := 1) (v := .ref (q 7)) (C := zR_N) (T := zT_N) (N := 11) hx hb hts zi_N hown hK.1 hP 1 ga_1 rfl 4 (by decide) (hts _ zw_46) (fun _ h9 => h9) rfl zd_N_balance_20 ?_
  refine lv_aload_n hx hb zd_N_balance_23 rfl (lv_at hl 1 rfl) ?_
  refine va_get (D := D) (ci := 1) (v := .ref (q 10)) (C := zR_N) (T := zT_N) (N := 11) hx hb hts zi_N hown hK.1 hP 1 ga_1 rfl 7 (by decide) (hts _ zw_57) (fun _ h9 => h9) rfl zd_N_balance_24 ?_
  refine lv_iload_n hx hb zd_N_balance_27 rfl (lv_at hl 2 rfl) ?_
  refine x_iald (v := A 10 k) hx hb hK.1 hP 10 0 ga_10 rfl (by decide) (by omega) (by omega) (rfl) zd_N_balance_28 ?_
  refine x_iald (v := A 7 (A 10 k)) hx hb hK.1 hP 7 0 ga_7 rfl (by decide) (by omega) (by omega) (rfl) zd_N_balance_29 ?_
  refine lv_aload_n hx hb zd_N_balance_30 rfl (lv_at hl 1 rfl) ?_
  refine va_get (D := D) (ci := 1) (v := .ref (q 12)) (C := zR_N) (T := zT_N) (N := 11) hx hb hts zi_N hown hK.1 hP 1 ga_1 rfl 9 (by decide) (hts _ zw_64) (fun _ h9 => h9) rfl zd_N_balance_31 ?_
  refine lv_iload_n hx hb zd_N_balance_34 rfl (lv_at hl 2 rfl) ?_
  refine x_iald (v := A 12 k) hx hb hK.1 hP 12 0 ga_12 rfl (by decide) (by omega) (by omega) (rfl) zd_N_balance_35 ?_
  refine x_imul hx hb zd_N_balance_36 ?_
  refine lv_istore_n (lv' := [(3, .int (iI ((A 7 (A 10 k)) * (A 12 k)))), (2, .int (iI ((A 7 (A 9 k)) * (A 11 k)))), (0, .ref (q 1)), (1, .int (iI (k)))]) hx hb zd_N_balance_37 rfl hl (by decide) rfl (fun ls hl => ?_)
  refine lv_aload_n hx hb zd_N_balance_38 rfl (lv_at hl 2 rfl) ?_
  refine va_get (D := D) (ci := 1) (v := .ref (q 8)) (C := zR_N) (T := zT_N) (N := 11) hx hb hts zi_N hown hK.1 hP 1 ga_1 rfl 5 (by decide) (hts _ zw_51) (fun _ h9 => h9) rfl zd_N_balance_39 ?_
  refine lv_aload_n hx hb zd_N_balance_42 rfl (lv_at hl 2 rfl) ?_
  refine va_get (D := D) (ci := 1) (v := .ref (q 9)) (C := zR_N) (T := zT_N) (N := 11) hx hb hts zi_N hown hK.1 hP 1 ga_1 rfl 6 (by decide) (hts _ zw_54) (fun _ h9 => h9) rfl zd_N_balance_43 ?_
  refine lv_iload_n hx hb zd_N_balance_46 rfl (lv_at hl 3 rfl) ?_
  refine x_iald (v := A 9 k) hx hb hK.1 hP 9 0 ga_9 rfl (by decide) (by omega) (by omega) (rfl) zd_N_balance_47 ?_
  refine x_iald (v := A 8 (A 9 k)) hx hb hK.1 hP 8 0 ga_8 rfl (by decide) (by omega) (by omega) (rfl) zd_N_balance_48 ?_
  refine lv_istore (lv' := [(4, .int (iI (A 8 (A 9 k)))), (3, .int (iI ((A 7 (A 10 k)) * (A 12 k)))), (2, .int (iI ((A 7 (A 9 k)) * (A 11 k)))), (0, .ref (q 1)), (1, .int (iI (k)))]) hx hb zd_N_balance_49 hl (by decide) rfl (fun ls hl => ?_)
  refine lv_aload_n hx hb zd_N_balance_51 rfl (lv_at hl 3 rfl) ?_
  refine va_get (D := D) (ci := 1) (v := .ref (q 8)) (C := zR_N) (T := zT_N) (N := 11) hx hb hts zi_N hown hK.1 hP 1 ga_1 rfl 5 (by decide) (hts _ zw_51) (fun _ h9 => h9) rfl zd_N_balance_52 ?_
  refine lv_aload_n hx hb zd_N_balance_55 rfl (lv_at hl 3 rfl) ?_
  refine va_get (D := D) (ci := 1) (v := .ref (q 10)) (C := zR_N) (T := zT_N) (N := 11) hx hb hts zi_N hown hK.1 hP 1 ga_1 rfl 7 (by decide) (hts _ zw_57) (fun _ h9 => h9) rfl zd_N_balance_56 ?_
  refine lv_iload_n hx hb zd_N_balance_59 rfl (lv_at hl 4 rfl) ?_
  refine x_iald (v := A 10 k) hx hb hK.1 hP 10 0 ga_10 rfl (by decide) (by omega) (by omega) (rfl) zd_N_balance_60 ?_
  refine x_iald (v := A 8 (A 10 k)) hx hb hK.1 hP 8 0 ga_8 rfl (by decide) (by omega) (by omega) (rfl) zd_N_balance_61 ?_
  refine lv_istore (lv' := [(5, .int (iI (A 8 (A 10 k)))), (4, .int (iI (A 8 (A 9 k)))), (3, .int (iI ((A 7 (A 10 k)) * (A 12 k)))), (2, .int (iI ((A 7 (A 9 k)) * (A 11 k)))), (0, .ref (q 1)), (1, .int (iI (k)))]) hx hb zd_N_balance_62 hl (by decide) rfl (fun ls hl => ?_)
  refine lv_iload hx hb zd_N_balance_64 (lv_at hl 1 rfl) ?_
  refine lv_iload hx hb zd_N_balance_66 (lv_at hl 0 rfl) ?_
  refine x_icmp_eq (tgt := 113) hx hb zd_N_balance_68 (by decide) (⟨by omega, by omega⟩) (⟨by omega, by omega⟩) (fun h_68 => ?_) (fun h_68 => ?_)
  · refine lv_iload_n hx hb zd_N_balance_113 rfl (lv_at hl 3 rfl) ?_
    refine lv_iload_n hx hb zd_N_balance_114 rfl (lv_at hl 2 rfl) ?_
    refine x_icmp_eq (tgt := 131) hx hb zd_N_balance_115 (by decide) (⟨by omega, by omega⟩) (⟨by omega, by omega⟩) (fun h_115 => ?_) (fun h_115 => ?_)
    · exact ret _ _ _ _ _ _ zd_N_balance_131 hP hD hS (by first | exact bal_y h_68 hq_73 hq_84 hq_96 (by omega) hm1 hm2 hm3 hm4 hm5 hm6 | (refine bal_n h_68 ?_; split <;> first | rfl | omega))
    · refine lv_aload_n hx hb zd_N_balance_118 rfl (lv_at hl 4 rfl) ?_
      refine va_get (D := D) (ci := 1) (v := .int (iI (F 102))) (C := zR_N) (T := zT_N) (N := 11) hx hb hts zi_N hown hK.1 hP 1 ga_1 rfl 2 (by decide) (hts _ zw_41) (fun _ h9 => h9) rfl zd_N_balance_119 ?_
      refine lv_iconst (v := iI (-1)) hx hb zd_N_balance_122 rfl ?_
      refine x_icmp_ne (tgt := 131) hx hb zd_N_balance_123 (by decide) (⟨by omega, by omega⟩) (⟨by omega, by omega⟩) (fun h_123 => ?_) (fun h_123 => ?_)
      · exact ret _ _ _ _ _ _ zd_N_balance_131 hP hD hS (by first | exact bal_y h_68 hq_73 hq_84 hq_96 (by omega) hm1 hm2 hm3 hm4 hm5 hm6 | (refine bal_n h_68 ?_; split <;> first | rfl | omega))
      · refine lv_aload_n hx hb zd_N_balance_126 rfl (lv_at hl 4 rfl) ?_
        refine lv_iload_n hx hb zd_N_balance_127 rfl (lv_at hl 5 rfl) ?_
        refine va_put (D := D) (ci := 1) (v := .int (iI (k))) (ty := .int) (C := zR_N) (T := zT_N) (N := 11) hx hb hts zi_N zk_N zo_N zn_N hown hK.1 hP hD hS 1 ga_1 rfl 2 (by decide) (hts _ zw_41) (fun _ h9 => h9) rfl (by decide +kernel) (rfl) (rfl) (Nat.le_of_ble_eq_true rfl) zd_N_balance_128 (fun H locs hP hD hS => ?_)
        rw [gs_1_2] at hP hD
        exact ret _ _ _ _ _ _ zd_N_balance_131 hP hD hS (by first | exact bal_y h_68 hq_73 hq_84 hq_96 (by omega) hm1 hm2 hm3 hm4 hm5 hm6 | (refine bal_n h_68 ?_; split <;> first | rfl | omega))
  · refine lv_iload_n hx hb zd_N_balance_71 rfl (lv_at hl 3 rfl) ?_
    refine lv_iload_n hx hb zd_N_balance_72 rfl (lv_at hl 2 rfl) ?_
    refine z_goi (z_runSN (n := 2) (As := [.int (iI ((A 7 (A 9 k)) * (A 11 k))), .int (iI ((A 7 (A 10 k)) * (A 12 k)))]) (rest := []) S (c_C_commonDivisor l D q c _ F A ((A 7 (A 9 k)) * (A 11 k)) ((A 7 (A 10 k)) * (A 12 k)) (by first | assumption | omega | exact ⟨by omega, by omega⟩) (by first | assumption | omega | exact ⟨by omega, by omega⟩)) zw_230 zw_231 zw_1 zw_232 ⟨by decide +kernel, by decide, rfl, rfl⟩ hK hP hD rfl hl.1 rfl (Nat.le_of_ble_eq_true rfl) zd_N_balance_73 ⟨Nat.zero_le _, Nat.zero_le _⟩) hD hS hA (fun z_73 F_73 A_73 H locs hq_73 hP hD hS => ?_)
    obtain ⟨hf_73, ha_73, hq_73⟩ := hq_73
    rw [hf_73, ha_73] at hP hD
    have hd1_ := gI_pos (a := A 7 (A 9 k) * A 11 k) (b := A 7 (A 10 k) * A 12 k) (by omega)
    have hd2_ := gI_le (a := A 7 (A 9 k) * A 11 k) (b := A 7 (A 10 k) * A 12 k) (by omega)
    refine lv_istore (lv' := [(6, .int (iI (z_73))), (5, .int (iI (A 8 (A 10 k)))), (4, .int (iI (A 8 (A 9 k)))), (3, .int (iI ((A 7 (A 10 k)) * (A 12 k)))), (2, .int (iI ((A 7 (A 9 k)) * (A 11 k)))), (0, .ref (q 1)), (1, .int (iI (k)))]) hx hb zd_N_balance_76 hl (by decide) rfl (fun ls hl => ?_)
    refine lv_aload_n hx hb zd_N_balance_78 rfl (lv_at hl 5 rfl) ?_
    refine lv_iload hx hb zd_N_balance_79 (lv_at hl 2 rfl) ?_
    refine lv_iload_n hx hb zd_N_balance_81 rfl (lv_at hl 3 rfl) ?_
    refine lv_iload hx hb zd_N_balance_82 (lv_at hl 0 rfl) ?_
    refine z_goi (z_runSN (n := 2) (As := [.int (iI ((A 7 (A 10 k)) * (A 12 k))), .int (iI (z_73))]) (rest := [.int (iI (A 8 (A 9 k))), .ref (q 1)]) S (c_C_divided l D q c _ F A ((A 7 (A 10 k)) * (A 12 k)) z_73 (by first | assumption | omega | exact ⟨by omega, by omega⟩) (by first | assumption | omega | exact ⟨by omega, by omega⟩)) zw_233 zw_234 zw_1 zw_235 ⟨by decide +kernel, by decide, rfl, rfl⟩ hK hP hD rfl hl.1 rfl (Nat.le_of_ble_eq_true rfl) zd_N_balance_84 ⟨Nat.zero_le _, Nat.zero_le _⟩) hD hS hA (fun z_84 F_84 A_84 H locs hq_84 hP hD hS => ?_)
    obtain ⟨hf_84, ha_84, hq_84⟩ := hq_84
    rw [hf_84, ha_84] at hP hD
    refine z_gov (z_runV (n := 2) (k := 1) (ci := 1) (As := [.int (iI (A 8 (A 9 k))), .int (iI (z_84))]) (rest := []) S (c_N_multiply l D q c _ F A (A 8 (A 9 k)) z_84 (by first | assumption | omega | exact ⟨by omega, by omega⟩) (by first | assumption | omega | exact ⟨by omega, by omega⟩) (fun a h0 h1 => (hact a h0 h1).2)) zw_236 zw_238 zs_5 zw_2 zw_239 ⟨by decide +kernel, by decide, rfl, rfl⟩ hK hP hD ga_1 rfl rfl rfl hl.1 rfl (Nat.le_of_ble_eq_true rfl) zd_N_balance_87 ⟨Nat.zero_le _, Nat.zero_le _⟩) hD hS hA (fun F_87 A_87 H locs hq_87 hP hD hS => ?_)
    obtain ⟨hf_87, hq_87⟩ := hq_87
    rw [hf_87] at hP hD
    obtain ⟨hm1, hm2⟩ := hq_87
    have h8_ := hm1 8 (by decide)
    refine lv_aload_n hx hb zd_N_balance_90 rfl (lv_at hl 5 rfl) ?_
    refine lv_iload hx hb zd_N_balance_91 (lv_at hl 1 rfl) ?_
    refine lv_iload_n hx hb zd_N_balance_93 rfl (lv_at hl 4 rfl) ?_
    refine lv_iload hx hb zd_N_balance_94 (lv_at hl 0 rfl) ?_
    refine z_goi (z_runSN (n := 2) (As := [.int (iI ((A 7 (A 9 k)) * (A 11 k))), .int (iI (z_73))]) (rest := [.int (iI (A 8 (A 10 k))), .ref (q 1)]) S (c_C_divided l D q c _ F A_87 ((A 7 (A 9 k)) * (A 11 k)) z_73 (by first | assumption | omega | exact ⟨by omega, by omega⟩) (by first | assumption | omega | exact ⟨by omega, by omega⟩)) zw_233 zw_234 zw_1 zw_235 ⟨by decide +kernel, by decide, rfl, rfl⟩ hK hP hD rfl hl.1 rfl (Nat.le_of_ble_eq_true rfl) zd_N_balance_96 ⟨Nat.zero_le _, Nat.zero_le _⟩) hD hS hA (fun z_96 F_96 A_96 H locs hq_96 hP hD hS => ?_)
    obtain ⟨hf_96, ha_96, hq_96⟩ := hq_96
    rw [hf_96, ha_96] at hP hD
    refine z_gov (z_runV (n := 2) (k := 1) (ci := 1) (As := [.int (iI (A 8 (A 10 k))), .int (iI (z_96))]) (rest := []) S (c_N_multiply l D q c _ F A_87 (A 8 (A 10 k)) z_96 (by first | assumption | omega | exact ⟨by omega, by omega⟩) (by first | assumption | omega | exact ⟨by omega, by omega⟩) (by rw [h8_]; exact fun a h0 h1 => (hact a h0 h1).2)) zw_236 zw_238 zs_5 zw_2 zw_239 ⟨by decide +kernel, by decide, rfl, rfl⟩ hK hP hD ga_1 rfl rfl rfl hl.1 rfl (Nat.le_of_ble_eq_true rfl) zd_N_balance_99 ⟨Nat.zero_le _, Nat.zero_le _⟩) hD hS hA (fun F_99 A_99 H locs hq_99 hP hD hS => ?_)
    obtain ⟨hf_99, hq_99⟩ := hq_99
    rw [hf_99] at hP hD
    obtain ⟨hm3, hm4⟩ := hq_99
    have h8b_ := (hm3 8 (by decide)).trans h8_
    refine lv_aload_n hx hb zd_N_balance_102 rfl (lv_at hl 5 rfl) ?_
    refine lv_iload hx hb zd_N_balance_103 (lv_at hl 2 rfl) ?_
    refine lv_iload hx hb zd_N_balance_105 (lv_at hl 1 rfl) ?_
    refine z_gov (z_runV (n := 2) (k := 1) (ci := 1) (As := [.int (iI (A 8 (A 9 k))), .int (iI (A 8 (A 10 k)))]) (rest := []) S (c_N_join l D q c _ F A_99 (A 8 (A 9 k)) (A 8 (A 10 k)) (by first | assumption | omega | exact ⟨by omega, by omega⟩) (by first | assumption | omega | exact ⟨by omega, by omega⟩) (by rw [h8b_]; exact fun a h0 h1 => (hact a h0 h1).2)) zw_240 zw_242 zs_6 zw_2 zw_243 ⟨by decide +kernel, by decide, rfl, rfl⟩ hK hP hD ga_1 rfl rfl rfl hl.1 rfl (Nat.le_of_ble_eq_true rfl) zd_N_balance_107 ⟨Nat.zero_le _, Nat.zero_le _⟩) hD hS hA (fun F_107 A_107 H locs hq_107 hP hD hS => ?_)
    obtain ⟨hf_107, hq_107⟩ := hq_107
    rw [hf_107] at hP hD
    obtain ⟨hm5, hm6⟩ := hq_107
    refine lv_goto (tgt := 131) hx hb zd_N_balance_110 (by decide) ?_
    exact ret _ _ _ _ _ _ zd_N_balance_131 hP hD hS (by first | exact bal_y h_68 hq_73 hq_84 hq_96 (by omega) hm1 hm2 hm3 hm4 hm5 hm6 | (refine bal_n h_68 ?_; split <;> first | rfl | omega))

abbrev zr_N_add : Room := ({ frames := 3, cells := 0, slots := 0, locals := 80 } : Room)
set_option maxHeartbeats 4000000 in
set_option maxRecDepth 100000 in
theorem c_N_add (l : Launch) (D : va_G) (q : Nat → Nat) (c : Nat → ClassId) (sz : Nat) (F : Nat → Int) (A : Nat → Int → Int) (a : Int) (b : Int) (x : Int) (y : Int) (t : Int) (hn : 1 ≤ F 100 ∧ F 100 ≤ 8) (hc : 0 ≤ F 101 ∧ F 101 ≤ 14) (hact : ∀ a, 0 ≤ a → a < 8 → (1 ≤ A 7 a ∧ A 7 a ≤ 4782969) ∧ 0 ≤ A 8 a ∧ A 8 a < 8) (hch : ∀ k, 0 ≤ k → k < F 101 → (0 ≤ A 9 k ∧ A 9 k < F 100) ∧ (0 ≤ A 10 k ∧ A 10 k < F 100) ∧ (1 ≤ A 11 k ∧ A 11 k ≤ 9) ∧ (1 ≤ A 12 k ∧ A 12 k ≤ 9) ∧ 0 ≤ A 13 k ∧ A 13 k ≤ 99) (hk : F 101 < 14) (hu : ib (F 102)) (hab : (0 ≤ a ∧ a < F 100) ∧ 0 ≤ b ∧ b < F 100) (hxy : (1 ≤ x ∧ x ≤ 9) ∧ (1 ≤ y ∧ y ≤ 9) ∧ 0 ≤ t ∧ t ≤ 99) : zMI l zy_N_add zc_N_add 7 (some .int) zr_N_add D q c sz [.ref (q 1), .int (iI (a)), .int (iI (b)), .int (iI (x)), .int (iI (y)), .int (iI (t))] F A (fun z F1 A1 => z = F 101 ∧ addP F A a b x y t F1 A1) := by
  refine z_ofI (by decide) (Nat.le_of_ble_eq_true rfl) ?_
  intro p e s m args below meth c0 A0 Q C0 ret hP hD hS ls hl
  obtain ⟨S, hK, hA⟩ := C0
  have hx := S.1
  have hb := S.2.1
  have hown := S.2.2.2.1
  have hts : ∀ w ∈ zG, w.before args s = true := fun w h => S.2.2.2.2 w (List.mem_cons_of_mem _ h)
  have hl : lv_has ls 7 [(0, .ref (q 1)), (1, .int (iI (a))), (2, .int (iI (b))), (3, .int (iI (x))), (4, .int (iI (y))), (5, .int (iI (t)))] := hl
  refine lv_aload_n hx hb zd_N_add_0 rfl (lv_at hl 0 rfl) ?_
  refine va_get (D := D) (ci := 1) (v := .int (iI (F 101))) (C := zR_N) (T := zT_N) (N := 11) hx hb hts zi_N hown hK.1 hP 1 ga_1 rfl 1 (by decide) (hts _ zw_37) (fun _ h9 => h9) rfl zd_N_add_1 ?_
  refine lv_istore (lv' := [(6, .int (iI (F 101))), (0, .ref (q 1)), (1, .int (iI (a))), (2, .int (iI (b))), (3, .int (iI (x))), (4, .int (iI (y))), (5, .int (iI (t)))]) hx hb zd_N_add_4 hl (by decide) rfl (fun ls hl => ?_)
  refine lv_iload hx hb zd_N_add_6 (lv_at hl 0 rfl) ?_
  refine lv_bipush (v := iI (14)) hx hb zd_N_add_8 (by decide) ?_
  refine x_icmp_lt (tgt := 15) hx hb zd_N_add_10 (by decide) (⟨by omega, by omega⟩) (⟨by omega, by omega⟩) (fun h_10 => ?_) (fun h_10 => ?_)
  · refine lv_aload_n hx hb zd_N_add_15 rfl (lv_at hl 1 rfl) ?_
    refine va_get (D := D) (ci := 1) (v := .ref (q 9)) (C := zR_N) (T := zT_N) (N := 11) hx hb hts zi_N hown hK.1 hP 1 ga_1 rfl 6 (by decide) (hts _ zw_54) (fun _ h9 => h9) rfl zd_N_add_16 ?_
    refine lv_iload hx hb zd_N_add_19 (lv_at hl 0 rfl) ?_
    refine lv_iload_n hx hb zd_N_add_21 rfl (lv_at hl 2 rfl) ?_
    refine x_iast hx hb hK.1 hP hD hS 9 0 ga_9 rfl (by decide) (by omega) (by omega) zd_N_add_22 (fun H locs hP hD hS => ?_)
    rw [gs_9] at hP hD
    refine lv_aload_n hx hb zd_N_add_23 rfl (lv_at hl 1 rfl) ?_
    refine va_get (D := D) (ci := 1) (v := .ref (q 10)) (C := zR_N) (T := zT_N) (N := 11) hx hb hts zi_N hown hK.1 hP 1 ga_1 rfl 7 (by decide) (hts _ zw_57) (fun _ h9 => h9) rfl zd_N_add_24 ?_
    refine lv_iload hx hb zd_N_add_27 (lv_at hl 0 rfl) ?_
    refine lv_iload_n hx hb zd_N_add_29 rfl (lv_at hl 3 rfl) ?_
    refine x_iast hx hb hK.1 hP hD hS 10 0 ga_10 rfl (by decide) (by omega) (by omega) zd_N_add_30 (fun H locs hP hD hS => ?_)
    rw [gs_10] at hP hD
    refine lv_aload_n hx hb zd_N_add_31 rfl (lv_at hl 1 rfl) ?_
    refine va_get (D := D) (ci := 1) (v := .ref (q 11)) (C := zR_N) (T := zT_N) (N := 11) hx hb hts zi_N hown hK.1 hP 1 ga_1 rfl 8 (by decide) (hts _ zw_60) (fun _ h9 => h9) rfl zd_N_add_32 ?_
    refine lv_iload hx hb zd_N_add_35 (lv_at hl 0 rfl) ?_
    refine lv_iload_n hx hb zd_N_add_37 rfl (lv_at hl 4 rfl) ?_
    refine x_iast hx hb hK.1 hP hD hS 11 0 ga_11 rfl (by decide) (by omega) (by omega) zd_N_add_38 (fun H locs hP hD hS => ?_)
    rw [gs_11] at hP hD
    refine lv_aload_n hx hb zd_N_add_39 rfl (lv_at hl 1 rfl) ?_
    refine va_get (D := D) (ci := 1) (v := .ref (q 12)) (C := zR_N) (T := zT_N) (N := 11) hx hb hts zi_N hown hK.1 hP 1 ga_1 rfl 9 (by decide) (hts _ zw_64) (fun _ h9 => h9) rfl zd_N_add_40 ?_
    refine lv_iload hx hb zd_N_add_43 (lv_at hl 0 rfl) ?_
    refine lv_iload hx hb zd_N_add_45 (lv_at hl 5 rfl) ?_
    refine x_iast hx hb hK.1 hP hD hS 12 0 ga_12 rfl (by decide) (by omega) (by omega) zd_N_add_47 (fun H locs hP hD hS => ?_)
    rw [gs_12] at hP hD
    refine lv_aload_n hx hb zd_N_add_48 rfl (lv_at hl 1 rfl) ?_
    refine va_get (D := D) (ci := 1) (v := .ref (q 13)) (C := zR_N) (T := zT_N) (N := 11) hx hb hts zi_N hown hK.1 hP 1 ga_1 rfl 10 (by decide) (hts _ zw_67) (fun _ h9 => h9) rfl zd_N_add_49 ?_
    refine lv_iload hx hb zd_N_add_52 (lv_at hl 0 rfl) ?_
    refine lv_iload hx hb zd_N_add_54 (lv_at hl 6 rfl) ?_
    refine x_iast hx hb hK.1 hP hD hS 13 0 ga_13 rfl (by decide) (by omega) (by omega) zd_N_add_56 (fun H locs hP hD hS => ?_)
    rw [gs_13] at hP hD
    refine lv_aload_n hx hb zd_N_add_57 rfl (lv_at hl 1 rfl) ?_
    refine lv_iload hx hb zd_N_add_58 (lv_at hl 0 rfl) ?_
    refine lv_iconst (v := iI (1)) hx hb zd_N_add_60 rfl ?_
    refine x_iadd hx hb zd_N_add_61 ?_
    refine va_put (D := D) (ci := 1) (v := .int (iI ((F 101) + 1))) (ty := .int) (C := zR_N) (T := zT_N) (N := 11) hx hb hts zi_N zk_N zo_N zn_N hown hK.1 hP hD hS 1 ga_1 rfl 1 (by decide) (hts _ zw_37) (fun _ h9 => h9) rfl (by decide +kernel) (rfl) (rfl) (Nat.le_of_ble_eq_true rfl) zd_N_add_62 (fun H locs hP hD hS => ?_)
    rw [gs_1_1] at hP hD
    refine lv_aload_n hx hb zd_N_add_65 rfl (lv_at hl 1 rfl) ?_
    refine lv_iload hx hb zd_N_add_66 (lv_at hl 0 rfl) ?_
    refine z_gov (z_runV (n := 1) (k := 1) (ci := 1) (As := [.int (iI (F 101))]) (rest := []) S (c_N_balance l D q c _ (fuP F 101 ((F 101) + 1)) (auP (auP (auP (auP (auP A 9 (F 101) a) 10 (F 101) b) 11 (F 101) x) 12 (F 101) y) 13 (F 101) t) (F 101) (by simp only [fuP]; omega) (by simp [fuP]; omega) (fun a h0 h1 => by simp [auP]; exact hact a h0 h1) (add_ch hn hch hab hxy) (by simp [fuP]; omega) (by simp [fuP]; exact hu)) zw_226 zw_228 zs_4 zw_2 zw_229 ⟨by decide +kernel, by decide, rfl, rfl⟩ hK hP hD ga_1 rfl rfl rfl hl.1 rfl (Nat.le_of_ble_eq_true rfl) zd_N_add_68 ⟨Nat.zero_le _, Nat.zero_le _⟩) hD hS hA (fun F_68 A_68 H locs hq_68 hP hD hS => ?_)
    refine lv_iload hx hb zd_N_add_71 (lv_at hl 0 rfl) ?_
    exact ret _ _ _ _ _ _ _ zd_N_add_73 hP hD hS (⟨rfl, hq_68⟩)
  · omega
end
section
/-! A round: which actor is done next, what it leaves -/
abbrev rT : Type := (Int → Int) × (Int → Int) × (Int → Int)
def rfire (fr to pu tk : Int → Int) (T : rT) (a : Int) : rT :=
  (upI T.1 a (T.1 a - 1), fun k => T.2.1 k - (if to k = a then tk k else 0) + (if fr k = a then pu k else 0), fun k => max (T.2.2 k) (T.2.1 k - (if to k = a then tk k else 0) + (if fr k = a then pu k else 0)))
def rrdy (m : Int) (to tk : Int → Int) (T : rT) (a : Int) : Prop := 0 < T.1 a ∧ ∀ k, 0 ≤ k → k < m → to k = a → tk k ≤ T.2.1 k
/-- a is the least actor that can be done -/
def rlst (n m : Int) (to tk : Int → Int) (T : rT) (a : Int) : Prop := (0 ≤ a ∧ a < n) ∧ rrdy m to tk T a ∧ ∀ b, 0 ≤ b → b < a → ¬ rrdy m to tk T b
def rnon (n m : Int) (to tk : Int → Int) (T : rT) : Prop := ∀ b, 0 ≤ b → b < n → ¬ rrdy m to tk T b
def rrun (fr to pu tk : Int → Int) (T : rT) (od : Int → Int) : Nat → rT
  | 0 => T
  | k + 1 => rfire fr to pu tk (rrun fr to pu tk T od k) (od k)
def rok (n m : Int) (fr to pu tk : Int → Int) (T : rT) (od : Int → Int) (d : Nat) : Prop := ∀ k : Nat, k < d → rlst n m to tk (rrun fr to pu tk T od k) (od k)
theorem rrun_cong {fr to pu tk : Int → Int} {T : rT} {od od' : Int → Int} : ∀ k : Nat, (∀ j : Nat, j < k → od' j = od j) → rrun fr to pu tk T od' k = rrun fr to pu tk T od k := by
  intro k
  induction k with
  | zero => intro _; rfl
  | succ k ih =>
    intro h
    show rfire fr to pu tk (rrun fr to pu tk T od' k) (od' k) = rfire fr to pu tk (rrun fr to pu tk T od k) (od k)
    rw [ih (fun j hj => h j (by omega)), h k (by omega)]
/-- two runs are one -/
theorem rok_same {n m : Int} {fr to pu tk : Int → Int} {T : rT} {od od' : Int → Int} {d d' : Nat} (h : rok n m fr to pu tk T od d) (h' : rok n m fr to pu tk T od' d') : ∀ k : Nat, k ≤ d → k ≤ d' → rrun fr to pu tk T od' k = rrun fr to pu tk T od k ∧ ∀ j : Nat, j < k → od' j = od j := by
  intro k
  induction k with
  | zero => intro _ _; exact ⟨rfl, fun j hj => by omega⟩
  | succ k ih =>
    intro hk hk'
    obtain ⟨i1, i2⟩ := ih (by omega) (by omega)
    have a1 := h k (by omega)
    have a2 := h' k (by omega)
    rw [i1] at a2
    have e : od' k = od k := by
      rcases Int.lt_trichotomy (od' k) (od k) with c | c | c
      · exact absurd a2.2.1 (a1.2.2 _ a2.1.1 c)
      · exact c
      · exact absurd a1.2.1 (a2.2.2 _ a1.1.1 c)
    have h2 : ∀ j : Nat, j < k + 1 → od' j = od j := fun j hj => by
      by_cases ej : j = k
      · subst ej; exact e
      · exact i2 j (by omega)
    exact ⟨rrun_cong _ h2, h2⟩
theorem rok_len {n m : Int} {fr to pu tk : Int → Int} {T : rT} {od od' : Int → Int} {d d' : Nat} (h : rok n m fr to pu tk T od d) (h' : rok n m fr to pu tk T od' d') (e : rnon n m to tk (rrun fr to pu tk T od d)) (e' : rnon n m to tk (rrun fr to pu tk T od' d')) : d = d' := by
  rcases Nat.lt_trichotomy d d' with c | c | c
  · have a1 := (rok_same h h' d (Nat.le_refl d) (by omega)).1
    have a2 := h' d c
    rw [a1] at a2
    exact absurd a2.2.1 (e _ a2.1.1 a2.1.2)
  · exact c
  · have a1 := (rok_same h h' d' (by omega) (Nat.le_refl d')).1
    have a2 := h d' c
    rw [← a1] at a2
    exact absurd a2.2.1 (e' _ a2.1.1 a2.1.2)
/-- what a run's state holds: none below 0, not too many -/
theorem rok_bound {n m : Int} {fr to pu tk : Int → Int} {T : rT} {od : Int → Int} (hpu : ∀ k, 0 ≤ k → k < m → 1 ≤ pu k ∧ pu k ≤ 9) (htk : ∀ k, 0 ≤ k → k < m → 1 ≤ tk k ∧ tk k ≤ 9) (h0 : (∀ a, 0 ≤ a → a < n → 0 ≤ T.1 a) ∧ ∀ k, 0 ≤ k → k < m → (0 ≤ T.2.1 k ∧ T.2.1 k ≤ 99) ∧ 0 ≤ T.2.2 k ∧ T.2.2 k ≤ 99) :
    ∀ d : Nat, rok n m fr to pu tk T od d → (∀ a, 0 ≤ a → a < n → 0 ≤ (rrun fr to pu tk T od d).1 a ∧ (rrun fr to pu tk T od d).1 a ≤ T.1 a) ∧ ∀ k, 0 ≤ k → k < m → (0 ≤ (rrun fr to pu tk T od d).2.1 k ∧ (rrun fr to pu tk T od d).2.1 k ≤ 99 + 9 * d) ∧ 0 ≤ (rrun fr to pu tk T od d).2.2 k ∧ (rrun fr to pu tk T od d).2.2 k ≤ 99 + 9 * d := by
  intro d
  induction d with
  | zero => intro _; exact ⟨fun a h1 h2 => ⟨h0.1 a h1 h2, Int.le_refl _⟩, fun k h1 h2 => by have := h0.2 k h1 h2; simp only [rrun]; omega⟩
  | succ d ih =>
    intro h
    obtain ⟨i1, i2⟩ := ih (fun k hk => h k (by omega))
    have hd := h d (by omega)
    show (∀ a, 0 ≤ a → a < n → 0 ≤ (rfire fr to pu tk (rrun fr to pu tk T od d) (od d)).1 a ∧ (rfire fr to pu tk (rrun fr to pu tk T od d) (od d)).1 a ≤ T.1 a) ∧ ∀ k, 0 ≤ k → k < m → (0 ≤ (rfire fr to pu tk (rrun fr to pu tk T od d) (od d)).2.1 k ∧ (rfire fr to pu tk (rrun fr to pu tk T od d) (od d)).2.1 k ≤ 99 + 9 * ((d + 1 : Nat) : Int)) ∧ 0 ≤ (rfire fr to pu tk (rrun fr to pu tk T od d) (od d)).2.2 k ∧ (rfire fr to pu tk (rrun fr to pu tk T od d) (od d)).2.2 k ≤ 99 + 9 * ((d + 1 : Nat) : Int)
    generalize rrun fr to pu tk T od d = S at i1 i2 hd ⊢
    refine ⟨fun a h1 h2 => ?_, fun k h1 h2 => ?_⟩
    · have := i1 a h1 h2
      have h3 := hd.2.1.1
      simp only [rfire, upI]
      split
      · rename_i e; subst e; omega
      · omega
    · have a1 := i2 k h1 h2
      have a2 := hpu k h1 h2
      have a3 := htk k h1 h2
      have a4 := hd.2.1.2 k h1 h2
      simp only [rfire]
      by_cases c1 : to k = od d
      · have a4 := a4 c1
        rw [if_pos c1]
        by_cases c2 : fr k = od d
        · rw [if_pos c2]; omega
        · rw [if_neg c2]; omega
      · rw [if_neg c1]
        by_cases c2 : fr k = od d
        · rw [if_pos c2]; omega
        · rw [if_neg c2]; omega
/-- all that is left, together -/
theorem rok_sum {n m : Int} {fr to pu tk : Int → Int} {T : rT} {od : Int → Int} : ∀ d : Nat, rok n m fr to pu tk T od d → sI (rrun fr to pu tk T od d).1 n + d = sI T.1 n := by
  intro d
  induction d with
  | zero => intro _; simp [rrun]
  | succ d ih =>
    intro h
    have i1 := ih (fun k hk => h k (by omega))
    have hd := h d (by omega)
    show sI (rfire fr to pu tk (rrun fr to pu tk T od d) (od d)).1 n + ((d + 1 : Nat) : Int) = _
    generalize rrun fr to pu tk T od d = S at i1 hd ⊢
    have key : ∀ (f : Int → Int) (a : Int) (j : Nat), 0 ≤ a → sumN (upI f a (f a - 1)) j = sumN f j - (if a < (j : Int) then 1 else 0) := by
      intro f a j ha
      induction j with
      | zero => simp only [sumN]; rw [if_neg (by omega)]; rfl
      | succ j ihj =>
        simp only [sumN]
        rw [ihj]
        by_cases e : (j : Int) = a
        · rw [← e, upI_s]
          rw [if_neg (by omega), if_pos (by omega)]; omega
        · rw [upI_n e]
          by_cases c : a < (j : Int)
          · rw [if_pos c, if_pos (by omega)]; omega
          · rw [if_neg c, if_neg (by omega)]; omega
    have h9 := key S.1 (od d) n.toNat hd.1.1
    rw [if_pos (by have := hd.1; omega)] at h9
    have e9 : sI (rfire fr to pu tk S (od d)).1 n = sI S.1 n - 1 := h9
    omega
theorem sI_le {f : Int → Int} {n : Int} (hf : ∀ a, 0 ≤ a → a < n → 0 ≤ f a) : ∀ a, 0 ≤ a → a < n → f a ≤ sI f n := by
  have key : ∀ j : Nat, (j : Int) ≤ n → 0 ≤ sumN f j ∧ ∀ a, 0 ≤ a → a < (j : Int) → f a ≤ sumN f j := by
    intro j
    induction j with
    | zero => intro _; exact ⟨by simp [sumN], fun a h0 h1 => by omega⟩
    | succ j ih =>
      intro hj
      obtain ⟨i1, i2⟩ := ih (by omega)
      have := hf j (by omega) (by omega)
      refine ⟨by simp only [sumN]; omega, fun a h0 h1 => ?_⟩
      simp only [sumN]
      by_cases e : a = j
      · subst e; omega
      · have := i2 a h0 (by omega); omega
  intro a h0 h1
  exact (key n.toNat (by omega)).2 a h0 (by omega)
/-- the state that an object's arrays hold -/
def rat (n m : Int) (T : rT) (l1 l2 l3 : Int → Int) : Prop := (∀ a, 0 ≤ a → a < n → l1 a = T.1 a) ∧ ∀ k, 0 ≤ k → k < m → l2 k = T.2.1 k ∧ l3 k = T.2.2 k
theorem rat_rdy {n m : Int} {to tk : Int → Int} {T : rT} {l1 l2 l3 : Int → Int} (h : rat n m T l1 l2 l3) {a : Int} (h0 : 0 ≤ a) (h1 : a < n) : rrdy m to tk T a ↔ 0 < l1 a ∧ ∀ k, 0 ≤ k → k < m → to k = a → tk k ≤ l2 k := by
  unfold rrdy
  rw [h.1 a h0 h1]
  constructor
  · intro z; exact ⟨z.1, fun k k0 k1 e => by rw [(h.2 k k0 k1).1]; exact z.2 k k0 k1 e⟩
  · intro z; exact ⟨z.1, fun k k0 k1 e => by rw [← (h.2 k k0 k1).1]; exact z.2 k k0 k1 e⟩
abbrev zr_U_begin : Room := ({ frames := 0, cells := 0, slots := 0, locals := 0 } : Room)
set_option maxHeartbeats 4000000 in
set_option maxRecDepth 100000 in
theorem c_U_begin (l : Launch) (D : va_G) (q : Nat → Nat) (c : Nat → ClassId) (sz : Nat) (F : Nat → Int) (A : Nat → Int → Int)  (hn : 1 ≤ F 100 ∧ F 100 ≤ 8) (hc : 0 ≤ F 101 ∧ F 101 ≤ 14) : zMV l zy_U_begin zc_U_begin 3 none zr_U_begin D q c sz [.ref (q 2), .ref (q 1)] F A (fun F1 A1 => F1 = fuP F 201 0 ∧ (∀ k, k ≠ 15 → k ≠ 16 → k ≠ 17 → A1 k = A k) ∧ (∀ a, 0 ≤ a → a < F 100 → A1 15 a = A 7 a) ∧ ∀ k, 0 ≤ k → k < F 101 → A1 16 k = A 13 k ∧ A1 17 k = A 13 k) := by
  refine z_ofV (by decide) (Nat.le_of_ble_eq_true rfl) ?_
  intro p e s m args below meth c0 A0 Q C0 ret hP hD hS ls hl
  obtain ⟨S, hK, hA⟩ := C0
  have hx := S.1
  have hb := S.2.1
  have hown := S.2.2.2.1
  have hts : ∀ w ∈ zG, w.before args s = true := fun w h => S.2.2.2.2 w (List.mem_cons_of_mem _ h)
  have hl : lv_has ls 3 [(0, .ref (q 2)), (1, .ref (q 1))] := hl
  refine lv_aload_n hx hb zd_U_begin_0 rfl (lv_at hl 0 rfl) ?_
  refine lv_iconst (v := iI (0)) hx hb zd_U_begin_1 rfl ?_
  refine va_put (D := D) (ci := 2) (v := .int (iI (0))) (ty := .int) (C := zR_U) (T := zT_U) (N := 6) hx hb hts zi_U zk_U zo_U zn_U hown hK.1 hP hD hS 2 ga_2 rfl 1 (by decide) (hts _ zw_102) (fun _ h9 => h9) rfl (by decide +kernel) (rfl) (rfl) (Nat.le_of_ble_eq_true rfl) zd_U_begin_2 (fun H locs hP hD hS => ?_)
  rw [gs_2_1] at hP hD
  refine lv_iconst (v := iI (0)) hx hb zd_U_begin_5 rfl ?_
  refine lv_istore_n (lv' := [(2, .int (iI (0))), (0, .ref (q 2)), (1, .ref (q 1))]) hx hb zd_U_begin_6 rfl hl (by decide) rfl (fun ls hl => ?_)
  have L_7 : ∀ (fu : Nat) (i : Int)  (A7 : Nat → Int → Int), (0 ≤ i ∧ i ≤ F 100) → (∀ k, k ≠ 15 → k ≠ 16 → k ≠ 17 → A7 k = A k) → (∀ a, 0 ≤ a → a < i → A7 15 a = A 7 a) → (F 100 - i < (fu : Int)) → ∀ (H : Heap) (locs : List Loc), va_P D zcl (gw q c (fuP F 201 0) A7) H → va_D A0 (gw q c (fuP F 201 0) A7) → va_S A0 s.heap H locs → ∀ ls : Array Slot, lv_has ls 3 [(0, .ref (q 2)), (1, .ref (q 1)), (2, .int (iI (i)))] → W p l e zr_U_begin s m args below meth c0 H locs 0 0 Q (F0 m 7 ls []) := by
    intro fu
    induction fu with
    | zero => intro i  A7 hi hk he hm_7; exact absurd hm_7 (by omega)
    | succ fu ih_7 =>
      intro i  A7 hi hk he hm_7 H locs hP hD hS ls hl
      refine lv_iload_n hx hb zd_U_begin_7 rfl (lv_at hl 2 rfl) ?_
      refine lv_aload_n hx hb zd_U_begin_8 rfl (lv_at hl 1 rfl) ?_
      refine va_getN (D := D) (ci := 1) (v := .int (iI (F 100))) (C := zR_N) (T := zT_N) (N := 11) hx hb hts zi_N hown hK.1 hP 1 ga_1 rfl 0 (by decide) (zNW.use hK.2 zw_34) (fun _ h9 => h9) rfl zd_U_begin_9 ?_
      refine x_icmp_ge (tgt := 33) hx hb zd_U_begin_12 (by decide) (⟨by omega, by omega⟩) (⟨by omega, by omega⟩) (fun h_12 => ?_) (fun h_12 => ?_)
      · refine lv_iconst (v := iI (0)) hx hb zd_U_begin_33 rfl ?_
        refine lv_istore_n (lv' := [(2, .int (iI (0))), (0, .ref (q 2)), (1, .ref (q 1))]) hx hb zd_U_begin_34 rfl hl (by decide) rfl (fun ls hl => ?_)
        have L_35 : ∀ (fu : Nat) (j : Int)  (A35 : Nat → Int → Int), (0 ≤ j ∧ j ≤ F 101) → (∀ k, k ≠ 15 → k ≠ 16 → k ≠ 17 → A35 k = A k) → (∀ a, 0 ≤ a → a < F 100 → A35 15 a = A 7 a) → (∀ k, 0 ≤ k → k < j → A35 16 k = A 13 k ∧ A35 17 k = A 13 k) → (F 101 - j < (fu : Int)) → ∀ (H : Heap) (locs : List Loc), va_P D zcl (gw q c (fuP F 201 0) A35) H → va_D A0 (gw q c (fuP F 201 0) A35) → va_S A0 s.heap H locs → ∀ ls : Array Slot, lv_has ls 3 [(0, .ref (q 2)), (1, .ref (q 1)), (2, .int (iI (j)))] → W p l e zr_U_begin s m args below meth c0 H locs 0 0 Q (F0 m 35 ls []) := by
          intro fu
          induction fu with
          | zero => intro j  A35 hj hk2 he2 hs hm_35; exact absurd hm_35 (by omega)
          | succ fu ih_35 =>
            intro j  A35 hj hk2 he2 hs hm_35 H locs hP hD hS ls hl
            refine lv_iload_n hx hb zd_U_begin_35 rfl (lv_at hl 2 rfl) ?_
            refine lv_aload_n hx hb zd_U_begin_36 rfl (lv_at hl 1 rfl) ?_
            refine va_getN (D := D) (ci := 1) (v := .int (iI (F 101))) (C := zR_N) (T := zT_N) (N := 11) hx hb hts zi_N hown hK.1 hP 1 ga_1 rfl 1 (by decide) (zNW.use hK.2 zw_38) (fun _ h9 => h9) rfl zd_U_begin_37 ?_
            refine x_icmp_ge (tgt := 73) hx hb zd_U_begin_40 (by decide) (⟨by omega, by omega⟩) (⟨by omega, by omega⟩) (fun h_40 => ?_) (fun h_40 => ?_)
            · exact ret _ _ _ _ _ _ zd_U_begin_73 hP hD hS (⟨rfl, hk2, he2, fun k h0 h1 => hs k h0 (by omega)⟩)
            · have h13_ := hk2 13 (by decide) (by decide) (by decide)
              refine lv_aload_n hx hb zd_U_begin_43 rfl (lv_at hl 0 rfl) ?_
              refine va_get (D := D) (ci := 2) (v := .ref (q 16)) (C := zR_U) (T := zT_U) (N := 6) hx hb hts zi_U hown hK.1 hP 2 ga_2 rfl 4 (by decide) (hts _ zw_108) (fun _ h9 => h9) rfl zd_U_begin_44 ?_
              refine lv_iload_n hx hb zd_U_begin_47 rfl (lv_at hl 2 rfl) ?_
              refine lv_aload_n hx hb zd_U_begin_48 rfl (lv_at hl 1 rfl) ?_
              refine va_getN (D := D) (ci := 1) (v := .ref (q 13)) (C := zR_N) (T := zT_N) (N := 11) hx hb hts zi_N hown hK.1 hP 1 ga_1 rfl 10 (by decide) (zNW.use hK.2 zw_68) (fun _ h9 => h9) rfl zd_U_begin_49 ?_
              refine lv_iload_n hx hb zd_U_begin_52 rfl (lv_at hl 2 rfl) ?_
              refine x_iald (v := A 13 j) hx hb hK.1 hP 13 0 ga_13 rfl (by decide) (by omega) (by omega) (by rw [h13_]) zd_U_begin_53 ?_
              refine x_iast hx hb hK.1 hP hD hS 16 0 ga_16 rfl (by decide) (by omega) (by omega) zd_U_begin_54 (fun H locs hP hD hS => ?_)
              rw [gs_16] at hP hD
              refine lv_aload_n hx hb zd_U_begin_55 rfl (lv_at hl 0 rfl) ?_
              refine va_get (D := D) (ci := 2) (v := .ref (q 17)) (C := zR_U) (T := zT_U) (N := 6) hx hb hts zi_U hown hK.1 hP 2 ga_2 rfl 5 (by decide) (hts _ zw_109) (fun _ h9 => h9) rfl zd_U_begin_56 ?_
              refine lv_iload_n hx hb zd_U_begin_59 rfl (lv_at hl 2 rfl) ?_
              refine lv_aload_n hx hb zd_U_begin_60 rfl (lv_at hl 1 rfl) ?_
              refine va_getN (D := D) (ci := 1) (v := .ref (q 13)) (C := zR_N) (T := zT_N) (N := 11) hx hb hts zi_N hown hK.1 hP 1 ga_1 rfl 10 (by decide) (zNW.use hK.2 zw_68) (fun _ h9 => h9) rfl zd_U_begin_61 ?_
              refine lv_iload_n hx hb zd_U_begin_64 rfl (lv_at hl 2 rfl) ?_
              refine x_iald (v := A 13 j) hx hb hK.1 hP 13 0 ga_13 rfl (by decide) (by omega) (by omega) (by show A35 13 j = A 13 j; rw [h13_]) zd_U_begin_65 ?_
              refine x_iast hx hb hK.1 hP hD hS 17 0 ga_17 rfl (by decide) (by omega) (by omega) zd_U_begin_66 (fun H locs hP hD hS => ?_)
              rw [gs_17] at hP hD
              refine lv_iinc (v := iI (j + 1)) (lv' := [(2, .int (iI (j + 1))), (0, .ref (q 2)), (1, .ref (q 1))]) hx hb zd_U_begin_67 hl (k := 2) rfl (iI_add _ _) (by decide) rfl (fun ls hl => ?_)
              refine lv_goto (tgt := 35) hx hb zd_U_begin_70 (by decide) ?_
              exact ih_35 (j + 1)  (auP (auP A35 16 j (A 13 j)) 17 j (A 13 j)) (by first | assumption | omega | (simp_all; done)) (fun k h1 h2 h3 => by simp [auP, h2, h3, hk2 k h1 h2 h3]) (fun a h0 h1 => by simp [auP, he2 a h0 h1]) (fun k h0 h1 => by by_cases e_ : k = j; (subst e_; simp [auP, upI]); (have := hs k h0 (by omega); simp [auP, upI, e_, this])) (by omega) _ _ hP hD hS ls (lv_sub hl [1, 2, 0] rfl)
        exact L_35 (((F 101 - (0) : Int) + 1).toNat) (0)  A7 (by first | assumption | omega | (simp_all; done)) (hk) (fun a h0 h1 => he a h0 (by omega)) (fun k h0 h1 => by omega) (by omega) _ _ hP hD hS ls (lv_sub hl [1, 2, 0] rfl)
      · have h7_ := hk 7 (by decide) (by decide) (by decide)
        refine lv_aload_n hx hb zd_U_begin_15 rfl (lv_at hl 0 rfl) ?_
        refine va_get (D := D) (ci := 2) (v := .ref (q 15)) (C := zR_U) (T := zT_U) (N := 6) hx hb hts zi_U hown hK.1 hP 2 ga_2 rfl 3 (by decide) (hts _ zw_106) (fun _ h9 => h9) rfl zd_U_begin_16 ?_
        refine lv_iload_n hx hb zd_U_begin_19 rfl (lv_at hl 2 rfl) ?_
        refine lv_aload_n hx hb zd_U_begin_20 rfl (lv_at hl 1 rfl) ?_
        refine va_getN (D := D) (ci := 1) (v := .ref (q 7)) (C := zR_N) (T := zT_N) (N := 11) hx hb hts zi_N hown hK.1 hP 1 ga_1 rfl 4 (by decide) (zNW.use hK.2 zw_48) (fun _ h9 => h9) rfl zd_U_begin_21 ?_
        refine lv_iload_n hx hb zd_U_begin_24 rfl (lv_at hl 2 rfl) ?_
        refine x_iald (v := A 7 i) hx hb hK.1 hP 7 0 ga_7 rfl (by decide) (by omega) (by omega) (by rw [h7_]) zd_U_begin_25 ?_
        refine x_iast hx hb hK.1 hP hD hS 15 0 ga_15 rfl (by decide) (by omega) (by omega) zd_U_begin_26 (fun H locs hP hD hS => ?_)
        rw [gs_15] at hP hD
        refine lv_iinc (v := iI (i + 1)) (lv' := [(2, .int (iI (i + 1))), (0, .ref (q 2)), (1, .ref (q 1))]) hx hb zd_U_begin_27 hl (k := 2) rfl (iI_add _ _) (by decide) rfl (fun ls hl => ?_)
        refine lv_goto (tgt := 7) hx hb zd_U_begin_30 (by decide) ?_
        exact ih_7 (i + 1)  (auP A7 15 i (A 7 i)) (by first | assumption | omega | (simp_all; done)) (fun k h1 h2 h3 => by simp [auP, h1, hk k h1 h2 h3]) (fun a h0 h1 => by by_cases e_ : a = i; (subst e_; simp [auP, upI]); (have := he a h0 (by omega); simp [auP, upI, e_, this])) (by omega) _ _ hP hD hS ls (lv_sub hl [1, 2, 0] rfl)
  exact L_7 (((F 100 - (0) : Int) + 1).toNat) (0)  A (by first | assumption | omega | (simp_all; done)) (fun k _ _ _ => rfl) (fun a h0 h1 => by omega) (by omega) _ _ hP hD hS ls (lv_sub hl [1, 2, 0] rfl)

abbrev zr_U_hasEnough : Room := ({ frames := 0, cells := 0, slots := 0, locals := 0 } : Room)
set_option maxHeartbeats 4000000 in
set_option maxRecDepth 100000 in
theorem c_U_hasEnough (l : Launch) (D : va_G) (q : Nat → Nat) (c : Nat → ClassId) (sz : Nat) (F : Nat → Int) (A : Nat → Int → Int) (a : Int) (hn : 1 ≤ F 100 ∧ F 100 ≤ 8) (hc : 0 ≤ F 101 ∧ F 101 ≤ 14) (hch : ∀ k, 0 ≤ k → k < F 101 → (0 ≤ A 9 k ∧ A 9 k < F 100) ∧ (0 ≤ A 10 k ∧ A 10 k < F 100) ∧ (1 ≤ A 11 k ∧ A 11 k ≤ 9) ∧ (1 ≤ A 12 k ∧ A 12 k ≤ 9) ∧ 0 ≤ A 13 k ∧ A 13 k ≤ 99) (hly : ∀ k, 0 ≤ k → k < F 101 → (0 ≤ A 16 k ∧ A 16 k ≤ 99999) ∧ 0 ≤ A 17 k ∧ A 17 k ≤ 99999) (ha : 0 ≤ a ∧ a < F 100) : zMI l zy_U_hasEnough zc_U_hasEnough 4 (some .boolean) zr_U_hasEnough D q c sz [.ref (q 2), .ref (q 1), .int (iI (a))] F A (fun z F1 A1 => F1 = F ∧ A1 = A ∧ (z = 0 ∨ z = 1) ∧ (z = 1 ↔ ∀ k, 0 ≤ k → k < F 101 → A 10 k = a → A 12 k ≤ A 16 k)) := by
  refine z_ofB (by decide) (Nat.le_of_ble_eq_true rfl) ?_
  intro p e s m args below meth c0 A0 Q C0 ret hP hD hS ls hl
  obtain ⟨S, hK, hA⟩ := C0
  have hx := S.1
  have hb := S.2.1
  have hown := S.2.2.2.1
  have hts : ∀ w ∈ zG, w.before args s = true := fun w h => S.2.2.2.2 w (List.mem_cons_of_mem _ h)
  have hl : lv_has ls 4 [(0, .ref (q 2)), (1, .ref (q 1)), (2, .int (iI (a)))] := hl
  refine lv_iconst (v := iI (0)) hx hb zd_U_hasEnough_0 rfl ?_
  refine lv_istore_n (lv' := [(3, .int (iI (0))), (0, .ref (q 2)), (1, .ref (q 1)), (2, .int (iI (a)))]) hx hb zd_U_hasEnough_1 rfl hl (by decide) rfl (fun ls hl => ?_)
  have L_2 : ∀ (fu : Nat) (i : Int) , (0 ≤ i ∧ i ≤ F 101) → (∀ k, 0 ≤ k → k < i → A 10 k = a → A 12 k ≤ A 16 k) → (F 101 - i < (fu : Int)) → ∀ (H : Heap) (locs : List Loc), va_P D zcl (gw q c F A) H → va_D A0 (gw q c F A) → va_S A0 s.heap H locs → ∀ ls : Array Slot, lv_has ls 4 [(0, .ref (q 2)), (1, .ref (q 1)), (2, .int (iI (a))), (3, .int (iI (i)))] → W p l e zr_U_hasEnough s m args below meth c0 H locs 0 0 Q (F0 m 2 ls []) := by
    intro fu
    induction fu with
    | zero => intro i   hi hs hm_2; exact absurd hm_2 (by omega)
    | succ fu ih_2 =>
      intro i   hi hs hm_2 H locs hP hD hS ls hl
      refine lv_iload_n hx hb zd_U_hasEnough_2 rfl (lv_at hl 3 rfl) ?_
      refine lv_aload_n hx hb zd_U_hasEnough_3 rfl (lv_at hl 1 rfl) ?_
      refine va_getN (D := D) (ci := 1) (v := .int (iI (F 101))) (C := zR_N) (T := zT_N) (N := 11) hx hb hts zi_N hown hK.1 hP 1 ga_1 rfl 1 (by decide) (zNW.use hK.2 zw_38) (fun _ h9 => h9) rfl zd_U_hasEnough_4 ?_
      refine x_icmp_ge (tgt := 43) hx hb zd_U_hasEnough_7 (by decide) (⟨by omega, by omega⟩) (⟨by omega, by omega⟩) (fun h_7 => ?_) (fun h_7 => ?_)
      · refine lv_iconst (v := iI (1)) hx hb zd_U_hasEnough_43 rfl ?_
        exact ret _ _ _ _ _ _ _ zd_U_hasEnough_44 hP hD hS (by omega) (⟨rfl, rfl, by omega, ⟨fun _ k h0 h1 h2 => hs k h0 (by omega) h2, fun _ => rfl⟩⟩)
      · have hc_ := hch i (by omega) (by omega)
        have hl_ := hly i (by omega) (by omega)
        refine lv_aload_n hx hb zd_U_hasEnough_10 rfl (lv_at hl 1 rfl) ?_
        refine va_getN (D := D) (ci := 1) (v := .ref (q 10)) (C := zR_N) (T := zT_N) (N := 11) hx hb hts zi_N hown hK.1 hP 1 ga_1 rfl 7 (by decide) (zNW.use hK.2 zw_58) (fun _ h9 => h9) rfl zd_U_hasEnough_11 ?_
        refine lv_iload_n hx hb zd_U_hasEnough_14 rfl (lv_at hl 3 rfl) ?_
        refine x_iald (v := A 10 i) hx hb hK.1 hP 10 0 ga_10 rfl (by decide) (by omega) (by omega) (rfl) zd_U_hasEnough_15 ?_
        refine lv_iload_n hx hb zd_U_hasEnough_16 rfl (lv_at hl 2 rfl) ?_
        refine x_icmp_ne (tgt := 37) hx hb zd_U_hasEnough_17 (by decide) (⟨by omega, by omega⟩) (⟨by omega, by omega⟩) (fun h_17 => ?_) (fun h_17 => ?_)
        · refine lv_iinc (v := iI (i + 1)) (lv' := [(3, .int (iI (i + 1))), (0, .ref (q 2)), (1, .ref (q 1)), (2, .int (iI (a)))]) hx hb zd_U_hasEnough_37 hl (k := 3) rfl (iI_add _ _) (by decide) rfl (fun ls hl => ?_)
          refine lv_goto (tgt := 2) hx hb zd_U_hasEnough_40 (by decide) ?_
          exact ih_2 (i + 1)   (by first | assumption | omega | (simp_all; done)) (fun k h0 h1 h2 => by by_cases e_ : k = i; (subst e_; omega); (exact hs k h0 (by omega) h2)) (by omega) _ _ hP hD hS ls (lv_sub hl [1, 2, 3, 0] rfl)
        · refine lv_aload_n hx hb zd_U_hasEnough_20 rfl (lv_at hl 0 rfl) ?_
          refine va_get (D := D) (ci := 2) (v := .ref (q 16)) (C := zR_U) (T := zT_U) (N := 6) hx hb hts zi_U hown hK.1 hP 2 ga_2 rfl 4 (by decide) (hts _ zw_108) (fun _ h9 => h9) rfl zd_U_hasEnough_21 ?_
          refine lv_iload_n hx hb zd_U_hasEnough_24 rfl (lv_at hl 3 rfl) ?_
          refine x_iald (v := A 16 i) hx hb hK.1 hP 16 0 ga_16 rfl (by decide) (by omega) (by omega) (rfl) zd_U_hasEnough_25 ?_
          refine lv_aload_n hx hb zd_U_hasEnough_26 rfl (lv_at hl 1 rfl) ?_
          refine va_getN (D := D) (ci := 1) (v := .ref (q 12)) (C := zR_N) (T := zT_N) (N := 11) hx hb hts zi_N hown hK.1 hP 1 ga_1 rfl 9 (by decide) (zNW.use hK.2 zw_65) (fun _ h9 => h9) rfl zd_U_hasEnough_27 ?_
          refine lv_iload_n hx hb zd_U_hasEnough_30 rfl (lv_at hl 3 rfl) ?_
          refine x_iald (v := A 12 i) hx hb hK.1 hP 12 0 ga_12 rfl (by decide) (by omega) (by omega) (rfl) zd_U_hasEnough_31 ?_
          refine x_icmp_ge (tgt := 37) hx hb zd_U_hasEnough_32 (by decide) (⟨by omega, by omega⟩) (⟨by omega, by omega⟩) (fun h_32 => ?_) (fun h_32 => ?_)
          · refine lv_iinc (v := iI (i + 1)) (lv' := [(3, .int (iI (i + 1))), (0, .ref (q 2)), (1, .ref (q 1)), (2, .int (iI (a)))]) hx hb zd_U_hasEnough_37 hl (k := 3) rfl (iI_add _ _) (by decide) rfl (fun ls hl => ?_)
            refine lv_goto (tgt := 2) hx hb zd_U_hasEnough_40 (by decide) ?_
            exact ih_2 (i + 1)   (by first | assumption | omega | (simp_all; done)) (fun k h0 h1 h2 => by by_cases e_ : k = i; (subst e_; omega); (exact hs k h0 (by omega) h2)) (by omega) _ _ hP hD hS ls (lv_sub hl [1, 2, 3, 0] rfl)
          · refine lv_iconst (v := iI (0)) hx hb zd_U_hasEnough_35 rfl ?_
            exact ret _ _ _ _ _ _ _ zd_U_hasEnough_36 hP hD hS (by omega) (⟨rfl, rfl, by omega, ⟨fun h => by omega, fun h => by have := h i (by omega) (by omega) (by omega); omega⟩⟩)
  exact L_2 (((F 101 - (0) : Int) + 1).toNat) (0)   (by first | assumption | omega | (simp_all; done)) (fun k h0 h1 => by omega) (by omega) _ _ hP hD hS ls (lv_sub hl [1, 2, 3, 0] rfl)

abbrev zr_U_leastReady : Room := ({ frames := 1, cells := 0, slots := 0, locals := 23 } : Room)
set_option maxHeartbeats 4000000 in
set_option maxRecDepth 100000 in
theorem c_U_leastReady (l : Launch) (D : va_G) (q : Nat → Nat) (c : Nat → ClassId) (sz : Nat) (F : Nat → Int) (A : Nat → Int → Int)  (hn : 1 ≤ F 100 ∧ F 100 ≤ 8) (hc : 0 ≤ F 101 ∧ F 101 ≤ 14) (hch : ∀ k, 0 ≤ k → k < F 101 → (0 ≤ A 9 k ∧ A 9 k < F 100) ∧ (0 ≤ A 10 k ∧ A 10 k < F 100) ∧ (1 ≤ A 11 k ∧ A 11 k ≤ 9) ∧ (1 ≤ A 12 k ∧ A 12 k ≤ 9) ∧ 0 ≤ A 13 k ∧ A 13 k ≤ 99) (hly : ∀ k, 0 ≤ k → k < F 101 → (0 ≤ A 16 k ∧ A 16 k ≤ 99999) ∧ 0 ≤ A 17 k ∧ A 17 k ≤ 99999) (hlf : ∀ a, 0 ≤ a → a < F 100 → 0 ≤ A 15 a ∧ A 15 a ≤ 4782969) : zMI l zy_U_leastReady zc_U_leastReady 3 (some .int) zr_U_leastReady D q c sz [.ref (q 2), .ref (q 1)] F A (fun z F1 A1 => F1 = F ∧ A1 = A ∧ ((z = -1 ∧ ∀ b, 0 ≤ b → b < F 100 → ¬ (0 < A 15 b ∧ ∀ k, 0 ≤ k → k < F 101 → A 10 k = b → A 12 k ≤ A 16 k)) ∨ ((0 ≤ z ∧ z < F 100) ∧ (0 < A 15 z ∧ ∀ k, 0 ≤ k → k < F 101 → A 10 k = z → A 12 k ≤ A 16 k) ∧ ∀ b, 0 ≤ b → b < z → ¬ (0 < A 15 b ∧ ∀ k, 0 ≤ k → k < F 101 → A 10 k = b → A 12 k ≤ A 16 k)))) := by
  refine z_ofI (by decide) (Nat.le_of_ble_eq_true rfl) ?_
  intro p e s m args below meth c0 A0 Q C0 ret hP hD hS ls hl
  obtain ⟨S, hK, hA⟩ := C0
  have hx := S.1
  have hb := S.2.1
  have hown := S.2.2.2.1
  have hts : ∀ w ∈ zG, w.before args s = true := fun w h => S.2.2.2.2 w (List.mem_cons_of_mem _ h)
  have hl : lv_has ls 3 [(0, .ref (q 2)), (1, .ref (q 1))] := hl
  refine lv_iconst (v := iI (0)) hx hb zd_U_leastReady_0 rfl ?_
  refine lv_istore_n (lv' := [(2, .int (iI (0))), (0, .ref (q 2)), (1, .ref (q 1))]) hx hb zd_U_leastReady_1 rfl hl (by decide) rfl (fun ls hl => ?_)
  have L_2 : ∀ (fu : Nat) (i : Int) , (0 ≤ i ∧ i ≤ F 100) → (∀ b, 0 ≤ b → b < i → ¬ (0 < A 15 b ∧ ∀ k, 0 ≤ k → k < F 101 → A 10 k = b → A 12 k ≤ A 16 k)) → (F 100 - i < (fu : Int)) → ∀ (H : Heap) (locs : List Loc), va_P D zcl (gw q c F A) H → va_D A0 (gw q c F A) → va_S A0 s.heap H locs → ∀ ls : Array Slot, lv_has ls 3 [(0, .ref (q 2)), (1, .ref (q 1)), (2, .int (iI (i)))] → W p l e zr_U_leastReady s m args below meth c0 H locs 0 0 Q (F0 m 2 ls []) := by
    intro fu
    induction fu with
    | zero => intro i   hi hs hm_2; exact absurd hm_2 (by omega)
    | succ fu ih_2 =>
      intro i   hi hs hm_2 H locs hP hD hS ls hl
      refine lv_iload_n hx hb zd_U_leastReady_2 rfl (lv_at hl 2 rfl) ?_
      refine lv_aload_n hx hb zd_U_leastReady_3 rfl (lv_at hl 1 rfl) ?_
      refine va_getN (D := D) (ci := 1) (v := .int (iI (F 100))) (C := zR_N) (T := zT_N) (N := 11) hx hb hts zi_N hown hK.1 hP 1 ga_1 rfl 0 (by decide) (zNW.use hK.2 zw_34) (fun _ h9 => h9) rfl zd_U_leastReady_4 ?_
      refine x_icmp_ge (tgt := 36) hx hb zd_U_leastReady_7 (by decide) (⟨by omega, by omega⟩) (⟨by omega, by omega⟩) (fun h_7 => ?_) (fun h_7 => ?_)
      · refine lv_iconst (v := iI (-1)) hx hb zd_U_leastReady_36 rfl ?_
        exact ret _ _ _ _ _ _ _ zd_U_leastReady_37 hP hD hS (⟨rfl, rfl, Or.inl ⟨rfl, fun b h0 h1 => hs b h0 (by omega)⟩⟩)
      · have hl_ := hlf i (by omega) (by omega)
        refine lv_aload_n hx hb zd_U_leastReady_10 rfl (lv_at hl 0 rfl) ?_
        refine va_get (D := D) (ci := 2) (v := .ref (q 15)) (C := zR_U) (T := zT_U) (N := 6) hx hb hts zi_U hown hK.1 hP 2 ga_2 rfl 3 (by decide) (hts _ zw_106) (fun _ h9 => h9) rfl zd_U_leastReady_11 ?_
        refine lv_iload_n hx hb zd_U_leastReady_14 rfl (lv_at hl 2 rfl) ?_
        refine x_iald (v := A 15 i) hx hb hK.1 hP 15 0 ga_15 rfl (by decide) (by omega) (by omega) (rfl) zd_U_leastReady_15 ?_
        refine x_if_le (tgt := 30) hx hb zd_U_leastReady_16 (by decide) (⟨by omega, by omega⟩) (fun h_16 => ?_) (fun h_16 => ?_)
        · refine lv_iinc (v := iI (i + 1)) (lv' := [(2, .int (iI (i + 1))), (0, .ref (q 2)), (1, .ref (q 1))]) hx hb zd_U_leastReady_30 hl (k := 2) rfl (iI_add _ _) (by decide) rfl (fun ls hl => ?_)
          refine lv_goto (tgt := 2) hx hb zd_U_leastReady_33 (by decide) ?_
          exact ih_2 (i + 1)   (by first | assumption | omega | (simp_all; done)) (fun b h0 h1 h2 => by by_cases e_ : b = i; (subst e_; first | omega | (have := hz2.mpr h2.2; omega)); (exact hs b h0 (by omega) h2)) (by omega) _ _ hP hD hS ls (lv_sub hl [1, 2, 0] rfl)
        · refine lv_aload_n hx hb zd_U_leastReady_19 rfl (lv_at hl 0 rfl) ?_
          refine lv_aload_n hx hb zd_U_leastReady_20 rfl (lv_at hl 1 rfl) ?_
          refine lv_iload_n hx hb zd_U_leastReady_21 rfl (lv_at hl 2 rfl) ?_
          refine z_goi (z_runV (n := 2) (k := 2) (ci := 2) (As := [.ref (q 1), .int (iI (i))]) (rest := []) S (c_U_hasEnough l D q c _ F A i (by first | assumption | omega | exact ⟨by omega, by omega⟩) (by first | assumption | omega | exact ⟨by omega, by omega⟩) (by first | assumption | omega | exact ⟨by omega, by omega⟩) (by first | assumption | omega | exact ⟨by omega, by omega⟩) (by first | assumption | omega | exact ⟨by omega, by omega⟩)) zw_282 zw_284 zs_13 zw_3 zw_285 ⟨by decide +kernel, by decide, rfl, rfl⟩ hK hP hD ga_2 rfl rfl rfl hl.1 rfl (Nat.le_of_ble_eq_true rfl) zd_U_leastReady_22 ⟨Nat.zero_le _, Nat.zero_le _⟩) hD hS hA (fun z_22 F_22 A_22 H locs hq_22 hP hD hS => ?_)
          obtain ⟨hf_22, ha_22, hq_22⟩ := hq_22
          rw [hf_22, ha_22] at hP hD
          obtain ⟨hz1, hz2⟩ := hq_22
          refine x_if_eq (tgt := 30) hx hb zd_U_leastReady_25 (by decide) (⟨by omega, by omega⟩) (fun h_25 => ?_) (fun h_25 => ?_)
          · refine lv_iinc (v := iI (i + 1)) (lv' := [(2, .int (iI (i + 1))), (0, .ref (q 2)), (1, .ref (q 1))]) hx hb zd_U_leastReady_30 hl (k := 2) rfl (iI_add _ _) (by decide) rfl (fun ls hl => ?_)
            refine lv_goto (tgt := 2) hx hb zd_U_leastReady_33 (by decide) ?_
            exact ih_2 (i + 1)   (by first | assumption | omega | (simp_all; done)) (fun b h0 h1 h2 => by by_cases e_ : b = i; (subst e_; first | omega | (have := hz2.mpr h2.2; omega)); (exact hs b h0 (by omega) h2)) (by omega) _ _ hP hD hS ls (lv_sub hl [1, 2, 0] rfl)
          · refine lv_iload_n hx hb zd_U_leastReady_28 rfl (lv_at hl 2 rfl) ?_
            exact ret _ _ _ _ _ _ _ zd_U_leastReady_29 hP hD hS (⟨rfl, rfl, Or.inr ⟨by omega, ⟨by omega, hz2.mp (by omega)⟩, hs⟩⟩)
  exact L_2 (((F 100 - (0) : Int) + 1).toNat) (0)   (by first | assumption | omega | (simp_all; done)) (fun b h0 h1 => by omega) (by omega) _ _ hP hD hS ls (lv_sub hl [1, 2, 0] rfl)

abbrev zr_U_isAlive : Room := ({ frames := 0, cells := 0, slots := 0, locals := 0 } : Room)
set_option maxHeartbeats 4000000 in
set_option maxRecDepth 100000 in
theorem c_U_isAlive (l : Launch) (D : va_G) (q : Nat → Nat) (c : Nat → ClassId) (sz : Nat) (F : Nat → Int) (A : Nat → Int → Int)  (hn : 1 ≤ F 100 ∧ F 100 ≤ 8) (hc : 0 ≤ F 101 ∧ F 101 ≤ 14) (hlf : ∀ a, 0 ≤ a → a < F 100 → 0 ≤ A 15 a ∧ A 15 a ≤ 4782969) : zMI l zy_U_isAlive zc_U_isAlive 3 (some .boolean) zr_U_isAlive D q c sz [.ref (q 2), .ref (q 1)] F A (fun z F1 A1 => F1 = F ∧ A1 = A ∧ (z = 0 ∨ z = 1) ∧ (z = 1 ↔ ∀ a, 0 ≤ a → a < F 100 → A 15 a = 0)) := by
  refine z_ofB (by decide) (Nat.le_of_ble_eq_true rfl) ?_
  intro p e s m args below meth c0 A0 Q C0 ret hP hD hS ls hl
  obtain ⟨S, hK, hA⟩ := C0
  have hx := S.1
  have hb := S.2.1
  have hown := S.2.2.2.1
  have hts : ∀ w ∈ zG, w.before args s = true := fun w h => S.2.2.2.2 w (List.mem_cons_of_mem _ h)
  have hl : lv_has ls 3 [(0, .ref (q 2)), (1, .ref (q 1))] := hl
  refine lv_iconst (v := iI (0)) hx hb zd_U_isAlive_0 rfl ?_
  refine lv_istore_n (lv' := [(2, .int (iI (0))), (0, .ref (q 2)), (1, .ref (q 1))]) hx hb zd_U_isAlive_1 rfl hl (by decide) rfl (fun ls hl => ?_)
  have L_2 : ∀ (fu : Nat) (i : Int) , (0 ≤ i ∧ i ≤ F 100) → (∀ a, 0 ≤ a → a < i → A 15 a = 0) → (F 100 - i < (fu : Int)) → ∀ (H : Heap) (locs : List Loc), va_P D zcl (gw q c F A) H → va_D A0 (gw q c F A) → va_S A0 s.heap H locs → ∀ ls : Array Slot, lv_has ls 3 [(0, .ref (q 2)), (1, .ref (q 1)), (2, .int (iI (i)))] → W p l e zr_U_isAlive s m args below meth c0 H locs 0 0 Q (F0 m 2 ls []) := by
    intro fu
    induction fu with
    | zero => intro i   hi hs hm_2; exact absurd hm_2 (by omega)
    | succ fu ih_2 =>
      intro i   hi hs hm_2 H locs hP hD hS ls hl
      refine lv_iload_n hx hb zd_U_isAlive_2 rfl (lv_at hl 2 rfl) ?_
      refine lv_aload_n hx hb zd_U_isAlive_3 rfl (lv_at hl 1 rfl) ?_
      refine va_getN (D := D) (ci := 1) (v := .int (iI (F 100))) (C := zR_N) (T := zT_N) (N := 11) hx hb hts zi_N hown hK.1 hP 1 ga_1 rfl 0 (by decide) (zNW.use hK.2 zw_34) (fun _ h9 => h9) rfl zd_U_isAlive_4 ?_
      refine x_icmp_ge (tgt := 27) hx hb zd_U_isAlive_7 (by decide) (⟨by omega, by omega⟩) (⟨by omega, by omega⟩) (fun h_7 => ?_) (fun h_7 => ?_)
      · refine lv_iconst (v := iI (1)) hx hb zd_U_isAlive_27 rfl ?_
        exact ret _ _ _ _ _ _ _ zd_U_isAlive_28 hP hD hS (by omega) (⟨rfl, rfl, by omega, ⟨fun _ a h0 h1 => hs a h0 (by omega), fun _ => rfl⟩⟩)
      · have hl_ := hlf i (by omega) (by omega)
        refine lv_aload_n hx hb zd_U_isAlive_10 rfl (lv_at hl 0 rfl) ?_
        refine va_get (D := D) (ci := 2) (v := .ref (q 15)) (C := zR_U) (T := zT_U) (N := 6) hx hb hts zi_U hown hK.1 hP 2 ga_2 rfl 3 (by decide) (hts _ zw_106) (fun _ h9 => h9) rfl zd_U_isAlive_11 ?_
        refine lv_iload_n hx hb zd_U_isAlive_14 rfl (lv_at hl 2 rfl) ?_
        refine x_iald (v := A 15 i) hx hb hK.1 hP 15 0 ga_15 rfl (by decide) (by omega) (by omega) (rfl) zd_U_isAlive_15 ?_
        refine x_if_eq (tgt := 21) hx hb zd_U_isAlive_16 (by decide) (⟨by omega, by omega⟩) (fun h_16 => ?_) (fun h_16 => ?_)
        · refine lv_iinc (v := iI (i + 1)) (lv' := [(2, .int (iI (i + 1))), (0, .ref (q 2)), (1, .ref (q 1))]) hx hb zd_U_isAlive_21 hl (k := 2) rfl (iI_add _ _) (by decide) rfl (fun ls hl => ?_)
          refine lv_goto (tgt := 2) hx hb zd_U_isAlive_24 (by decide) ?_
          exact ih_2 (i + 1)   (by first | assumption | omega | (simp_all; done)) (fun k h0 h1 => by by_cases e_ : k = i; (subst e_; omega); (exact hs k h0 (by omega))) (by omega) _ _ hP hD hS ls (lv_sub hl [1, 2, 0] rfl)
        · refine lv_iconst (v := iI (0)) hx hb zd_U_isAlive_19 rfl ?_
          exact ret _ _ _ _ _ _ _ zd_U_isAlive_20 hP hD hS (by omega) (⟨rfl, rfl, by omega, ⟨fun h => by omega, fun h => by have := h i (by omega) (by omega); omega⟩⟩)
  exact L_2 (((F 100 - (0) : Int) + 1).toNat) (0)   (by first | assumption | omega | (simp_all; done)) (fun k h0 h1 => by omega) (by omega) _ _ hP hD hS ls (lv_sub hl [1, 2, 0] rfl)
end
section
theorem lu_e {g f h : Int → Int} {P : Int → Prop} [DecidablePred P] {i : Int} (he : ∀ a, g a = if 0 ≤ a ∧ a < i ∧ P a then f a else h a) (hv : g i = f i) (hi : 0 ≤ i) (hp : P i) : ∀ a, g a = if 0 ≤ a ∧ a < i + 1 ∧ P a then f a else h a := by
  intro a
  by_cases e : a = i
  · subst e; rw [if_pos ⟨hi, by omega, hp⟩]; exact hv
  · rw [he a]
    by_cases hh : 0 ≤ a ∧ a < i ∧ P a
    · rw [if_pos hh, if_pos ⟨hh.1, by omega, hh.2.2⟩]
    · rw [if_neg hh, if_neg (fun z => hh ⟨z.1, by omega, z.2.2⟩)]
theorem lu_yy {g f h : Int → Int} {P : Int → Prop} [DecidablePred P] {i u v : Int} (he : ∀ a, g a = if 0 ≤ a ∧ a < i ∧ P a then f a else h a) (hi : 0 ≤ i) (hp : P i) (hv : v = f i) : ∀ a, upI (upI g i u) i v a = if 0 ≤ a ∧ a < i + 1 ∧ P a then f a else h a := by
  intro a
  have := lu_y he hi hp hv a
  rw [← this]
  by_cases e : a = i
  · subst e; rw [upI_s, upI_s]
  · rw [upI_n e, upI_n e, upI_n e]
theorem play_step {n m : Int} {fr to pu tk : Int → Int} {T : rT} {od l1 l2 l3 m1 m2 m3 : Int → Int} {i z : Int} (hi : 0 ≤ i) (hr : rok n m fr to pu tk T od i.toNat) (hs : rat n m (rrun fr to pu tk T od i.toNat) l1 l2 l3)
    (hz : (0 ≤ z ∧ z < n) ∧ (0 < l1 z ∧ ∀ k, 0 ≤ k → k < m → to k = z → tk k ≤ l2 k) ∧ ∀ b, 0 ≤ b → b < z → ¬ (0 < l1 b ∧ ∀ k, 0 ≤ k → k < m → to k = b → tk k ≤ l2 k))
    (h1 : ∀ a, 0 ≤ a → a < n → m1 a = upI l1 z (l1 z - 1) a) (h2 : ∀ k, 0 ≤ k → k < m → m2 k = l2 k - (if to k = z then tk k else 0) + (if fr k = z then pu k else 0)) (h3 : ∀ k, 0 ≤ k → k < m → m3 k = max (l3 k) (l2 k - (if to k = z then tk k else 0) + (if fr k = z then pu k else 0))) :
    rok n m fr to pu tk T (upI od i z) (i + 1).toNat ∧ rat n m (rrun fr to pu tk T (upI od i z) (i + 1).toNat) m1 m2 m3 := by
  have e0 : (i + 1).toNat = i.toNat + 1 := by omega
  have ei : ((i.toNat : Nat) : Int) = i := by omega
  have hc : ∀ j : Nat, j < i.toNat → upI od i z j = od j := fun j hj => upI_n (by omega)
  have hru : ∀ k : Nat, k ≤ i.toNat → rrun fr to pu tk T (upI od i z) k = rrun fr to pu tk T od k := fun k hk => rrun_cong k (fun j hj => hc j (by omega))
  rw [e0]
  refine ⟨fun k hk => ?_, ?_⟩
  · rw [hru k (by omega)]
    by_cases e : k = i.toNat
    · subst e
      rw [ei, upI_s]
      refine ⟨hz.1, (rat_rdy hs hz.1.1 hz.1.2).mpr hz.2.1, fun b b0 b1 c => hz.2.2 b b0 b1 ((rat_rdy hs b0 (by have := hz.1; omega)).mp c)⟩
    · rw [hc k (by omega)]
      exact hr k (by omega)
  · show rat n m (rfire fr to pu tk (rrun fr to pu tk T (upI od i z) i.toNat) (upI od i z i.toNat)) m1 m2 m3
    rw [hru _ (Nat.le_refl _), ei, upI_s]
    generalize rrun fr to pu tk T od i.toNat = S at hs ⊢
    refine ⟨fun a a0 a1 => ?_, fun k k0 k1 => ?_⟩
    · rw [h1 a a0 a1]
      simp only [rfire, upI]
      split
      · rename_i e; subst e; rw [hs.1 a a0 a1]
      · rw [hs.1 a a0 a1]
    · rw [h2 k k0 k1, h3 k k0 k1, (hs.2 k k0 k1).1, (hs.2 k k0 k1).2]
      exact ⟨rfl, rfl⟩
/-- the round that the class holds -/
def RdOK (F : Nat → Int) (A : Nat → Int → Int) : Prop := (0 ≤ F 201 ∧ F 201 ≤ 400) ∧ rok (F 100) (F 101) (A 9) (A 10) (A 11) (A 12) (A 7, A 13, A 13) (A 14) (F 201).toNat ∧ rat (F 100) (F 101) (rrun (A 9) (A 10) (A 11) (A 12) (A 7, A 13, A 13) (A 14) (F 201).toNat) (A 15) (A 16) (A 17) ∧ (F 201 = 400 ∨ rnon (F 100) (F 101) (A 10) (A 12) (rrun (A 9) (A 10) (A 11) (A 12) (A 7, A 13, A 13) (A 14) (F 201).toNat))
theorem rat_b {F : Nat → Int} {A : Nat → Int → Int} {od l1 l2 l3 : Int → Int} {i : Int} (hi : 0 ≤ i ∧ i ≤ 400) (hact : ∀ a, 0 ≤ a → a < 8 → (1 ≤ A 7 a ∧ A 7 a ≤ 4782969) ∧ 0 ≤ A 8 a ∧ A 8 a < 8) (hn : 1 ≤ F 100 ∧ F 100 ≤ 8) (hch : ∀ k, 0 ≤ k → k < F 101 → (0 ≤ A 9 k ∧ A 9 k < F 100) ∧ (0 ≤ A 10 k ∧ A 10 k < F 100) ∧ (1 ≤ A 11 k ∧ A 11 k ≤ 9) ∧ (1 ≤ A 12 k ∧ A 12 k ≤ 9) ∧ 0 ≤ A 13 k ∧ A 13 k ≤ 99)
    (hr : rok (F 100) (F 101) (A 9) (A 10) (A 11) (A 12) (A 7, A 13, A 13) od i.toNat) (hs : rat (F 100) (F 101) (rrun (A 9) (A 10) (A 11) (A 12) (A 7, A 13, A 13) od i.toNat) l1 l2 l3) :
    (∀ k, 0 ≤ k → k < F 101 → (0 ≤ l2 k ∧ l2 k ≤ 99999) ∧ 0 ≤ l3 k ∧ l3 k ≤ 99999) ∧ ∀ a, 0 ≤ a → a < F 100 → 0 ≤ l1 a ∧ l1 a ≤ 4782969 := by
  have h := rok_bound (fun k h0 h1 => (hch k h0 h1).2.2.1) (fun k h0 h1 => (hch k h0 h1).2.2.2.1) ⟨fun a h0 h1 => by have := hact a h0 (by omega); show 0 ≤ A 7 a; omega, fun k h0 h1 => by have := hch k h0 h1; show (0 ≤ A 13 k ∧ A 13 k ≤ 99) ∧ 0 ≤ A 13 k ∧ A 13 k ≤ 99; omega⟩ i.toNat hr
  refine ⟨fun k h0 h1 => ?_, fun a h0 h1 => ?_⟩
  · have := h.2 k h0 h1
    rw [(hs.2 k h0 h1).1, (hs.2 k h0 h1).2]
    omega
  · have := h.1 a h0 h1
    have h2 := hact a h0 (by omega)
    rw [hs.1 a h0 h1]
    have e : ((A 7, A 13, A 13) : rT).1 a = A 7 a := rfl
    omega
theorem play_end {F F7 : Nat → Int} {A A7 : Nat → Int → Int} {i : Int} (hd : F7 201 = i) (hF : ∀ j, j ≠ 201 → F7 j = F j) (hk : ∀ k, k ≠ 14 → k ≠ 15 → k ≠ 16 → k ≠ 17 → A7 k = A k) (hr : rok (F 100) (F 101) (A 9) (A 10) (A 11) (A 12) (A 7, A 13, A 13) (A7 14) i.toNat) (hs : rat (F 100) (F 101) (rrun (A 9) (A 10) (A 11) (A 12) (A 7, A 13, A 13) (A7 14) i.toNat) (A7 15) (A7 16) (A7 17)) (hi : 0 ≤ i ∧ i ≤ 400)
    (he : i = 400 ∨ ∀ b, 0 ≤ b → b < F 100 → ¬ (0 < A7 15 b ∧ ∀ k, 0 ≤ k → k < F 101 → A 10 k = b → A 12 k ≤ A7 16 k)) :
    fuP F7 200 1 200 = 1 ∧ (∀ j, j ≠ 200 → j ≠ 201 → fuP F7 200 1 j = F j) ∧ (∀ k, k ≠ 14 → k ≠ 15 → k ≠ 16 → k ≠ 17 → A7 k = A k) ∧ RdOK (fuP F7 200 1) A7 := by
  refine ⟨rfl, fun j h0 h1 => by simp [fuP, h0, hF j h1], hk, ?_⟩
  unfold RdOK
  have f1 : fuP F7 200 1 201 = i := hd
  have f2 : fuP F7 200 1 100 = F 100 := hF 100 (by decide)
  have f3 : fuP F7 200 1 101 = F 101 := hF 101 (by decide)
  rw [f1, f2, f3, hk 9 (by decide) (by decide) (by decide) (by decide), hk 10 (by decide) (by decide) (by decide) (by decide), hk 11 (by decide) (by decide) (by decide) (by decide), hk 12 (by decide) (by decide) (by decide) (by decide), hk 13 (by decide) (by decide) (by decide) (by decide), hk 7 (by decide) (by decide) (by decide) (by decide)]
  refine ⟨hi, hr, hs, ?_⟩
  rcases he with he | he
  · exact Or.inl he
  · exact Or.inr (fun b b0 b1 c => he b b0 b1 ((rat_rdy hs b0 b1).mp c))
abbrev zr_U_fire : Room := ({ frames := 1, cells := 0, slots := 0, locals := 29 } : Room)
set_option maxHeartbeats 4000000 in
set_option maxRecDepth 100000 in
theorem c_U_fire (l : Launch) (D : va_G) (q : Nat → Nat) (c : Nat → ClassId) (sz : Nat) (F : Nat → Int) (A : Nat → Int → Int) (a : Int) (hn : 1 ≤ F 100 ∧ F 100 ≤ 8) (hc : 0 ≤ F 101 ∧ F 101 ≤ 14) (hch : ∀ k, 0 ≤ k → k < F 101 → (0 ≤ A 9 k ∧ A 9 k < F 100) ∧ (0 ≤ A 10 k ∧ A 10 k < F 100) ∧ (1 ≤ A 11 k ∧ A 11 k ≤ 9) ∧ (1 ≤ A 12 k ∧ A 12 k ≤ 9) ∧ 0 ≤ A 13 k ∧ A 13 k ≤ 99) (hly : ∀ k, 0 ≤ k → k < F 101 → (0 ≤ A 16 k ∧ A 16 k ≤ 99999) ∧ 0 ≤ A 17 k ∧ A 17 k ≤ 99999) (hlf : ∀ a, 0 ≤ a → a < F 100 → 0 ≤ A 15 a ∧ A 15 a ≤ 4782969) (ha : 0 ≤ a ∧ a < F 100) : zMV l zy_U_fire zc_U_fire 4 none zr_U_fire D q c sz [.ref (q 2), .ref (q 1), .int (iI (a))] F A (fun F1 A1 => F1 = F ∧ (∀ k, k ≠ 15 → k ≠ 16 → k ≠ 17 → A1 k = A k) ∧ A1 15 = upI (A 15) a (A 15 a - 1) ∧ (∀ k, A1 16 k = if 0 ≤ k ∧ k < F 101 ∧ True then (A 16 k - (if A 10 k = a then A 12 k else 0) + (if A 9 k = a then A 11 k else 0)) else A 16 k) ∧ ∀ k, A1 17 k = if 0 ≤ k ∧ k < F 101 ∧ True then max (A 17 k) (A 16 k - (if A 10 k = a then A 12 k else 0) + (if A 9 k = a then A 11 k else 0)) else A 17 k) := by
  refine z_ofV (by decide) (Nat.le_of_ble_eq_true rfl) ?_
  intro p e s m args below meth c0 A0 Q C0 ret hP hD hS ls hl
  obtain ⟨S, hK, hA⟩ := C0
  have hx := S.1
  have hb := S.2.1
  have hown := S.2.2.2.1
  have hts : ∀ w ∈ zG, w.before args s = true := fun w h => S.2.2.2.2 w (List.mem_cons_of_mem _ h)
  have hl : lv_has ls 4 [(0, .ref (q 2)), (1, .ref (q 1)), (2, .int (iI (a)))] := hl
  have hla_ := hlf a (by omega) (by omega)
  refine lv_aload_n hx hb zd_U_fire_0 rfl (lv_at hl 0 rfl) ?_
  refine va_get (D := D) (ci := 2) (v := .ref (q 15)) (C := zR_U) (T := zT_U) (N := 6) hx hb hts zi_U hown hK.1 hP 2 ga_2 rfl 3 (by decide) (hts _ zw_106) (fun _ h9 => h9) rfl zd_U_fire_1 ?_
  refine lv_iload_n hx hb zd_U_fire_4 rfl (lv_at hl 2 rfl) ?_
  refine lv_dup2_11 hx hb zd_U_fire_5 rfl rfl ?_
  refine x_iald (v := A 15 a) hx hb hK.1 hP 15 0 ga_15 rfl (by decide) (by omega) (by omega) (rfl) zd_U_fire_6 ?_
  refine lv_iconst (v := iI (1)) hx hb zd_U_fire_7 rfl ?_
  refine x_isub hx hb zd_U_fire_8 ?_
  refine x_iast hx hb hK.1 hP hD hS 15 0 ga_15 rfl (by decide) (by omega) (by omega) zd_U_fire_9 (fun H locs hP hD hS => ?_)
  rw [gs_15] at hP hD
  refine lv_iconst (v := iI (0)) hx hb zd_U_fire_10 rfl ?_
  refine lv_istore_n (lv' := [(3, .int (iI (0))), (0, .ref (q 2)), (1, .ref (q 1)), (2, .int (iI (a)))]) hx hb zd_U_fire_11 rfl hl (by decide) rfl (fun ls hl => ?_)
  have L_12 : ∀ (fu : Nat) (i : Int)  (A12 : Nat → Int → Int), (0 ≤ i ∧ i ≤ F 101) → (∀ k, k ≠ 16 → k ≠ 17 → A12 k = auP A 15 a (A 15 a - 1) k) → (∀ k, A12 16 k = if 0 ≤ k ∧ k < i ∧ True then (A 16 k - (if A 10 k = a then A 12 k else 0) + (if A 9 k = a then A 11 k else 0)) else A 16 k) → (∀ k, A12 17 k = if 0 ≤ k ∧ k < i ∧ True then max (A 17 k) (A 16 k - (if A 10 k = a then A 12 k else 0) + (if A 9 k = a then A 11 k else 0)) else A 17 k) → (F 101 - i < (fu : Int)) → ∀ (H : Heap) (locs : List Loc), va_P D zcl (gw q c F A12) H → va_D A0 (gw q c F A12) → va_S A0 s.heap H locs → ∀ ls : Array Slot, lv_has ls 4 [(0, .ref (q 2)), (1, .ref (q 1)), (2, .int (iI (a))), (3, .int (iI (i)))] → W p l e zr_U_fire s m args below meth c0 H locs 0 0 Q (F0 m 12 ls []) := by
    intro fu
    induction fu with
    | zero => intro i  A12 hi hk hs hp hm_12; exact absurd hm_12 (by omega)
    | succ fu ih_12 =>
      intro i  A12 hi hk hs hp hm_12 H locs hP hD hS ls hl
      refine lv_iload_n hx hb zd_U_fire_12 rfl (lv_at hl 3 rfl) ?_
      refine lv_aload_n hx hb zd_U_fire_13 rfl (lv_at hl 1 rfl) ?_
      refine va_getN (D := D) (ci := 1) (v := .int (iI (F 101))) (C := zR_N) (T := zT_N) (N := 11) hx hb hts zi_N hown hK.1 hP 1 ga_1 rfl 1 (by decide) (zNW.use hK.2 zw_38) (fun _ h9 => h9) rfl zd_U_fire_14 ?_
      refine x_icmp_ge (tgt := 97) hx hb zd_U_fire_17 (by decide) (⟨by omega, by omega⟩) (⟨by omega, by omega⟩) (fun h_17 => ?_) (fun h_17 => ?_)
      · have e_ : i = F 101 := by omega
        subst e_
        exact ret _ _ _ _ _ _ zd_U_fire_97 hP hD hS (⟨rfl, fun k h5 h6 h7 => by rw [hk k h6 h7]; simp [auP, h5], by rw [hk 15 (by decide) (by decide)]; rfl, hs, hp⟩)
      · have hc_ := hch i (by omega) (by omega)
        have hl_ := hly i (by omega) (by omega)
        have e16 := lu_o hs
        have e17 := lu_o hp
        refine lv_aload_n hx hb zd_U_fire_20 rfl (lv_at hl 1 rfl) ?_
        refine va_getN (D := D) (ci := 1) (v := .ref (q 10)) (C := zR_N) (T := zT_N) (N := 11) hx hb hts zi_N hown hK.1 hP 1 ga_1 rfl 7 (by decide) (zNW.use hK.2 zw_58) (fun _ h9 => h9) rfl zd_U_fire_21 ?_
        refine lv_iload_n hx hb zd_U_fire_24 rfl (lv_at hl 3 rfl) ?_
        refine x_iald (v := A 10 i) hx hb hK.1 hP 10 0 ga_10 rfl (by decide) (by omega) (by omega) (by show A12 10 i = A 10 i; rw [hk 10 (by decide) (by decide)]; rfl) zd_U_fire_25 ?_
        refine lv_iload_n hx hb zd_U_fire_26 rfl (lv_at hl 2 rfl) ?_
        refine x_icmp_ne (tgt := 45) hx hb zd_U_fire_27 (by decide) (⟨by omega, by omega⟩) (⟨by omega, by omega⟩) (fun h_27 => ?_) (fun h_27 => ?_)
        · refine lv_aload_n hx hb zd_U_fire_45 rfl (lv_at hl 1 rfl) ?_
          refine va_getN (D := D) (ci := 1) (v := .ref (q 9)) (C := zR_N) (T := zT_N) (N := 11) hx hb hts zi_N hown hK.1 hP 1 ga_1 rfl 6 (by decide) (zNW.use hK.2 zw_56) (fun _ h9 => h9) rfl zd_U_fire_46 ?_
          refine lv_iload_n hx hb zd_U_fire_49 rfl (lv_at hl 3 rfl) ?_
          refine x_iald (v := A 9 i) hx hb hK.1 hP 9 0 ga_9 rfl (by decide) (by omega) (by omega) (by show A12 9 i = A 9 i; rw [hk 9 (by decide) (by decide)]; rfl) zd_U_fire_50 ?_
          refine lv_iload_n hx hb zd_U_fire_51 rfl (lv_at hl 2 rfl) ?_
          refine x_icmp_ne (tgt := 70) hx hb zd_U_fire_52 (by decide) (⟨by omega, by omega⟩) (⟨by omega, by omega⟩) (fun h_52 => ?_) (fun h_52 => ?_)
          · refine lv_aload_n hx hb zd_U_fire_70 rfl (lv_at hl 0 rfl) ?_
            refine va_get (D := D) (ci := 2) (v := .ref (q 17)) (C := zR_U) (T := zT_U) (N := 6) hx hb hts zi_U hown hK.1 hP 2 ga_2 rfl 5 (by decide) (hts _ zw_109) (fun _ h9 => h9) rfl zd_U_fire_71 ?_
            refine lv_iload_n hx hb zd_U_fire_74 rfl (lv_at hl 3 rfl) ?_
            refine lv_aload_n hx hb zd_U_fire_75 rfl (lv_at hl 0 rfl) ?_
            refine va_get (D := D) (ci := 2) (v := .ref (q 17)) (C := zR_U) (T := zT_U) (N := 6) hx hb hts zi_U hown hK.1 hP 2 ga_2 rfl 5 (by decide) (hts _ zw_109) (fun _ h9 => h9) rfl zd_U_fire_76 ?_
            refine lv_iload_n hx hb zd_U_fire_79 rfl (lv_at hl 3 rfl) ?_
            refine x_iald (v := A12 17 i) hx hb hK.1 hP 17 0 ga_17 rfl (by decide) (by omega) (by omega) (rfl) zd_U_fire_80 ?_
            refine lv_aload_n hx hb zd_U_fire_81 rfl (lv_at hl 0 rfl) ?_
            refine va_get (D := D) (ci := 2) (v := .ref (q 16)) (C := zR_U) (T := zT_U) (N := 6) hx hb hts zi_U hown hK.1 hP 2 ga_2 rfl 4 (by decide) (hts _ zw_108) (fun _ h9 => h9) rfl zd_U_fire_82 ?_
            refine lv_iload_n hx hb zd_U_fire_85 rfl (lv_at hl 3 rfl) ?_
            refine x_iald (v := A12 16 i) hx hb hK.1 hP 16 0 ga_16 rfl (by decide) (by omega) (by omega) (rfl) zd_U_fire_86 ?_
            refine x_mmax hx hb (S.2.2.1.trans hl.1.symm) hown (hts _ zw_290) (hts _ zw_248) (hts _ zw_7) (hts _ zw_249) (by decide) (Nat.le_of_ble_eq_true rfl) (Nat.zero_le _) (Nat.zero_le _) (⟨by omega, by omega⟩) (⟨by omega, by omega⟩) zd_U_fire_87 ?_
            refine x_iast hx hb hK.1 hP hD hS 17 0 ga_17 rfl (by decide) (by omega) (by omega) zd_U_fire_90 (fun H locs hP hD hS => ?_)
            rw [gs_17] at hP hD
            refine lv_iinc (v := iI (i + 1)) (lv' := [(3, .int (iI (i + 1))), (0, .ref (q 2)), (1, .ref (q 1)), (2, .int (iI (a)))]) hx hb zd_U_fire_91 hl (k := 3) rfl (iI_add _ _) (by decide) rfl (fun ls hl => ?_)
            refine lv_goto (tgt := 12) hx hb zd_U_fire_94 (by decide) ?_
            exact ih_12 (i + 1)  (auP A12 17 i (max (A12 17 i) (A12 16 i))) (by first | assumption | omega | (simp_all; done)) (fun k h1 h2 => by simp [auP, h1, h2]; simpa [auP] using hk k h1 h2) (by first | (refine lu_yy hs (by omega) trivial ?_; simp [h_27, h_52, e16]; done) | (refine lu_y hs (by omega) trivial ?_; simp [h_27, h_52, e16]; done) | (refine lu_e hs ?_ (by omega) trivial; simp [auP, h_27, h_52, e16]; done)) (by refine lu_y hp (by omega) trivial ?_; simp [h_27, h_52, e16, e17]) (by omega) _ _ hP hD hS ls (lv_sub hl [1, 2, 3, 0] rfl)
          · refine lv_aload_n hx hb zd_U_fire_55 rfl (lv_at hl 0 rfl) ?_
            refine va_get (D := D) (ci := 2) (v := .ref (q 16)) (C := zR_U) (T := zT_U) (N := 6) hx hb hts zi_U hown hK.1 hP 2 ga_2 rfl 4 (by decide) (hts _ zw_108) (fun _ h9 => h9) rfl zd_U_fire_56 ?_
            refine lv_iload_n hx hb zd_U_fire_59 rfl (lv_at hl 3 rfl) ?_
            refine lv_dup2_11 hx hb zd_U_fire_60 rfl rfl ?_
            refine x_iald (v := A12 16 i) hx hb hK.1 hP 16 0 ga_16 rfl (by decide) (by omega) (by omega) (rfl) zd_U_fire_61 ?_
            refine lv_aload_n hx hb zd_U_fire_62 rfl (lv_at hl 1 rfl) ?_
            refine va_getN (D := D) (ci := 1) (v := .ref (q 11)) (C := zR_N) (T := zT_N) (N := 11) hx hb hts zi_N hown hK.1 hP 1 ga_1 rfl 8 (by decide) (zNW.use hK.2 zw_63) (fun _ h9 => h9) rfl zd_U_fire_63 ?_
            refine lv_iload_n hx hb zd_U_fire_66 rfl (lv_at hl 3 rfl) ?_
            refine x_iald (v := A 11 i) hx hb hK.1 hP 11 0 ga_11 rfl (by decide) (by omega) (by omega) (by show A12 11 i = A 11 i; rw [hk 11 (by decide) (by decide)]; rfl) zd_U_fire_67 ?_
            refine x_iadd hx hb zd_U_fire_68 ?_
            refine x_iast hx hb hK.1 hP hD hS 16 0 ga_16 rfl (by decide) (by omega) (by omega) zd_U_fire_69 (fun H locs hP hD hS => ?_)
            rw [gs_16] at hP hD
            refine lv_aload_n hx hb zd_U_fire_70 rfl (lv_at hl 0 rfl) ?_
            refine va_get (D := D) (ci := 2) (v := .ref (q 17)) (C := zR_U) (T := zT_U) (N := 6) hx hb hts zi_U hown hK.1 hP 2 ga_2 rfl 5 (by decide) (hts _ zw_109) (fun _ h9 => h9) rfl zd_U_fire_71 ?_
            refine lv_iload_n hx hb zd_U_fire_74 rfl (lv_at hl 3 rfl) ?_
            refine lv_aload_n hx hb zd_U_fire_75 rfl (lv_at hl 0 rfl) ?_
            refine va_get (D := D) (ci := 2) (v := .ref (q 17)) (C := zR_U) (T := zT_U) (N := 6) hx hb hts zi_U hown hK.1 hP 2 ga_2 rfl 5 (by decide) (hts _ zw_109) (fun _ h9 => h9) rfl zd_U_fire_76 ?_
            refine lv_iload_n hx hb zd_U_fire_79 rfl (lv_at hl 3 rfl) ?_
            refine x_iald (v := A12 17 i) hx hb hK.1 hP 17 0 ga_17 rfl (by decide) (by omega) (by omega) (rfl) zd_U_fire_80 ?_
            refine lv_aload_n hx hb zd_U_fire_81 rfl (lv_at hl 0 rfl) ?_
            refine va_get (D := D) (ci := 2) (v := .ref (q 16)) (C := zR_U) (T := zT_U) (N := 6) hx hb hts zi_U hown hK.1 hP 2 ga_2 rfl 4 (by decide) (hts _ zw_108) (fun _ h9 => h9) rfl zd_U_fire_82 ?_
            refine lv_iload_n hx hb zd_U_fire_85 rfl (lv_at hl 3 rfl) ?_
            refine x_iald (v := (A12 16 i) + (A 11 i)) hx hb hK.1 hP 16 0 ga_16 rfl (by decide) (by omega) (by omega) (by simp [auP, upI]) zd_U_fire_86 ?_
            refine x_mmax hx hb (S.2.2.1.trans hl.1.symm) hown (hts _ zw_290) (hts _ zw_248) (hts _ zw_7) (hts _ zw_249) (by decide) (Nat.le_of_ble_eq_true rfl) (Nat.zero_le _) (Nat.zero_le _) (⟨by omega, by omega⟩) (⟨by omega, by omega⟩) zd_U_fire_87 ?_
            refine x_iast hx hb hK.1 hP hD hS 17 0 ga_17 rfl (by decide) (by omega) (by omega) zd_U_fire_90 (fun H locs hP hD hS => ?_)
            rw [gs_17] at hP hD
            refine lv_iinc (v := iI (i + 1)) (lv' := [(3, .int (iI (i + 1))), (0, .ref (q 2)), (1, .ref (q 1)), (2, .int (iI (a)))]) hx hb zd_U_fire_91 hl (k := 3) rfl (iI_add _ _) (by decide) rfl (fun ls hl => ?_)
            refine lv_goto (tgt := 12) hx hb zd_U_fire_94 (by decide) ?_
            exact ih_12 (i + 1)  (auP (auP A12 16 i ((A12 16 i) + (A 11 i))) 17 i (max (A12 17 i) ((A12 16 i) + (A 11 i)))) (by first | assumption | omega | (simp_all; done)) (fun k h1 h2 => by simp [auP, h1, h2]; simpa [auP] using hk k h1 h2) (by first | (refine lu_yy hs (by omega) trivial ?_; simp [h_27, h_52, e16]; done) | (refine lu_y hs (by omega) trivial ?_; simp [h_27, h_52, e16]; done) | (refine lu_e hs ?_ (by omega) trivial; simp [auP, h_27, h_52, e16]; done)) (by refine lu_y hp (by omega) trivial ?_; simp [h_27, h_52, e16, e17]) (by omega) _ _ hP hD hS ls (lv_sub hl [1, 2, 3, 0] rfl)
        · refine lv_aload_n hx hb zd_U_fire_30 rfl (lv_at hl 0 rfl) ?_
          refine va_get (D := D) (ci := 2) (v := .ref (q 16)) (C := zR_U) (T := zT_U) (N := 6) hx hb hts zi_U hown hK.1 hP 2 ga_2 rfl 4 (by decide) (hts _ zw_108) (fun _ h9 => h9) rfl zd_U_fire_31 ?_
          refine lv_iload_n hx hb zd_U_fire_34 rfl (lv_at hl 3 rfl) ?_
          refine lv_dup2_11 hx hb zd_U_fire_35 rfl rfl ?_
          refine x_iald (v := A12 16 i) hx hb hK.1 hP 16 0 ga_16 rfl (by decide) (by omega) (by omega) (rfl) zd_U_fire_36 ?_
          refine lv_aload_n hx hb zd_U_fire_37 rfl (lv_at hl 1 rfl) ?_
          refine va_getN (D := D) (ci := 1) (v := .ref (q 12)) (C := zR_N) (T := zT_N) (N := 11) hx hb hts zi_N hown hK.1 hP 1 ga_1 rfl 9 (by decide) (zNW.use hK.2 zw_65) (fun _ h9 => h9) rfl zd_U_fire_38 ?_
          refine lv_iload_n hx hb zd_U_fire_41 rfl (lv_at hl 3 rfl) ?_
          refine x_iald (v := A 12 i) hx hb hK.1 hP 12 0 ga_12 rfl (by decide) (by omega) (by omega) (by show A12 12 i = A 12 i; rw [hk 12 (by decide) (by decide)]; rfl) zd_U_fire_42 ?_
          refine x_isub hx hb zd_U_fire_43 ?_
          refine x_iast hx hb hK.1 hP hD hS 16 0 ga_16 rfl (by decide) (by omega) (by omega) zd_U_fire_44 (fun H locs hP hD hS => ?_)
          rw [gs_16] at hP hD
          refine lv_aload_n hx hb zd_U_fire_45 rfl (lv_at hl 1 rfl) ?_
          refine va_getN (D := D) (ci := 1) (v := .ref (q 9)) (C := zR_N) (T := zT_N) (N := 11) hx hb hts zi_N hown hK.1 hP 1 ga_1 rfl 6 (by decide) (zNW.use hK.2 zw_56) (fun _ h9 => h9) rfl zd_U_fire_46 ?_
          refine lv_iload_n hx hb zd_U_fire_49 rfl (lv_at hl 3 rfl) ?_
          refine x_iald (v := A 9 i) hx hb hK.1 hP 9 0 ga_9 rfl (by decide) (by omega) (by omega) (by show A12 9 i = A 9 i; rw [hk 9 (by decide) (by decide)]; rfl) zd_U_fire_50 ?_
          refine lv_iload_n hx hb zd_U_fire_51 rfl (lv_at hl 2 rfl) ?_
          refine x_icmp_ne (tgt := 70) hx hb zd_U_fire_52 (by decide) (⟨by omega, by omega⟩) (⟨by omega, by omega⟩) (fun h_52 => ?_) (fun h_52 => ?_)
          · refine lv_aload_n hx hb zd_U_fire_70 rfl (lv_at hl 0 rfl) ?_
            refine va_get (D := D) (ci := 2) (v := .ref (q 17)) (C := zR_U) (T := zT_U) (N := 6) hx hb hts zi_U hown hK.1 hP 2 ga_2 rfl 5 (by decide) (hts _ zw_109) (fun _ h9 => h9) rfl zd_U_fire_71 ?_
            refine lv_iload_n hx hb zd_U_fire_74 rfl (lv_at hl 3 rfl) ?_
            refine lv_aload_n hx hb zd_U_fire_75 rfl (lv_at hl 0 rfl) ?_
            refine va_get (D := D) (ci := 2) (v := .ref (q 17)) (C := zR_U) (T := zT_U) (N := 6) hx hb hts zi_U hown hK.1 hP 2 ga_2 rfl 5 (by decide) (hts _ zw_109) (fun _ h9 => h9) rfl zd_U_fire_76 ?_
            refine lv_iload_n hx hb zd_U_fire_79 rfl (lv_at hl 3 rfl) ?_
            refine x_iald (v := A12 17 i) hx hb hK.1 hP 17 0 ga_17 rfl (by decide) (by omega) (by omega) (rfl) zd_U_fire_80 ?_
            refine lv_aload_n hx hb zd_U_fire_81 rfl (lv_at hl 0 rfl) ?_
            refine va_get (D := D) (ci := 2) (v := .ref (q 16)) (C := zR_U) (T := zT_U) (N := 6) hx hb hts zi_U hown hK.1 hP 2 ga_2 rfl 4 (by decide) (hts _ zw_108) (fun _ h9 => h9) rfl zd_U_fire_82 ?_
            refine lv_iload_n hx hb zd_U_fire_85 rfl (lv_at hl 3 rfl) ?_
            refine x_iald (v := (A12 16 i) - (A 12 i)) hx hb hK.1 hP 16 0 ga_16 rfl (by decide) (by omega) (by omega) (by simp [auP, upI]) zd_U_fire_86 ?_
            refine x_mmax hx hb (S.2.2.1.trans hl.1.symm) hown (hts _ zw_290) (hts _ zw_248) (hts _ zw_7) (hts _ zw_249) (by decide) (Nat.le_of_ble_eq_true rfl) (Nat.zero_le _) (Nat.zero_le _) (⟨by omega, by omega⟩) (⟨by omega, by omega⟩) zd_U_fire_87 ?_
            refine x_iast hx hb hK.1 hP hD hS 17 0 ga_17 rfl (by decide) (by omega) (by omega) zd_U_fire_90 (fun H locs hP hD hS => ?_)
            rw [gs_17] at hP hD
            refine lv_iinc (v := iI (i + 1)) (lv' := [(3, .int (iI (i + 1))), (0, .ref (q 2)), (1, .ref (q 1)), (2, .int (iI (a)))]) hx hb zd_U_fire_91 hl (k := 3) rfl (iI_add _ _) (by decide) rfl (fun ls hl => ?_)
            refine lv_goto (tgt := 12) hx hb zd_U_fire_94 (by decide) ?_
            exact ih_12 (i + 1)  (auP (auP A12 16 i ((A12 16 i) - (A 12 i))) 17 i (max (A12 17 i) ((A12 16 i) - (A 12 i)))) (by first | assumption | omega | (simp_all; done)) (fun k h1 h2 => by simp [auP, h1, h2]; simpa [auP] using hk k h1 h2) (by first | (refine lu_yy hs (by omega) trivial ?_; simp [h_27, h_52, e16]; done) | (refine lu_y hs (by omega) trivial ?_; simp [h_27, h_52, e16]; done) | (refine lu_e hs ?_ (by omega) trivial; simp [auP, h_27, h_52, e16]; done)) (by refine lu_y hp (by omega) trivial ?_; simp [h_27, h_52, e16, e17]) (by omega) _ _ hP hD hS ls (lv_sub hl [1, 2, 3, 0] rfl)
          · refine lv_aload_n hx hb zd_U_fire_55 rfl (lv_at hl 0 rfl) ?_
            refine va_get (D := D) (ci := 2) (v := .ref (q 16)) (C := zR_U) (T := zT_U) (N := 6) hx hb hts zi_U hown hK.1 hP 2 ga_2 rfl 4 (by decide) (hts _ zw_108) (fun _ h9 => h9) rfl zd_U_fire_56 ?_
            refine lv_iload_n hx hb zd_U_fire_59 rfl (lv_at hl 3 rfl) ?_
            refine lv_dup2_11 hx hb zd_U_fire_60 rfl rfl ?_
            refine x_iald (v := (A12 16 i) - (A 12 i)) hx hb hK.1 hP 16 0 ga_16 rfl (by decide) (by omega) (by omega) (by simp [auP, upI]) zd_U_fire_61 ?_
            refine lv_aload_n hx hb zd_U_fire_62 rfl (lv_at hl 1 rfl) ?_
            refine va_getN (D := D) (ci := 1) (v := .ref (q 11)) (C := zR_N) (T := zT_N) (N := 11) hx hb hts zi_N hown hK.1 hP 1 ga_1 rfl 8 (by decide) (zNW.use hK.2 zw_63) (fun _ h9 => h9) rfl zd_U_fire_63 ?_
            refine lv_iload_n hx hb zd_U_fire_66 rfl (lv_at hl 3 rfl) ?_
            refine x_iald (v := A 11 i) hx hb hK.1 hP 11 0 ga_11 rfl (by decide) (by omega) (by omega) (by show A12 11 i = A 11 i; rw [hk 11 (by decide) (by decide)]; rfl) zd_U_fire_67 ?_
            refine x_iadd hx hb zd_U_fire_68 ?_
            refine x_iast hx hb hK.1 hP hD hS 16 0 ga_16 rfl (by decide) (by omega) (by omega) zd_U_fire_69 (fun H locs hP hD hS => ?_)
            rw [gs_16] at hP hD
            refine lv_aload_n hx hb zd_U_fire_70 rfl (lv_at hl 0 rfl) ?_
            refine va_get (D := D) (ci := 2) (v := .ref (q 17)) (C := zR_U) (T := zT_U) (N := 6) hx hb hts zi_U hown hK.1 hP 2 ga_2 rfl 5 (by decide) (hts _ zw_109) (fun _ h9 => h9) rfl zd_U_fire_71 ?_
            refine lv_iload_n hx hb zd_U_fire_74 rfl (lv_at hl 3 rfl) ?_
            refine lv_aload_n hx hb zd_U_fire_75 rfl (lv_at hl 0 rfl) ?_
            refine va_get (D := D) (ci := 2) (v := .ref (q 17)) (C := zR_U) (T := zT_U) (N := 6) hx hb hts zi_U hown hK.1 hP 2 ga_2 rfl 5 (by decide) (hts _ zw_109) (fun _ h9 => h9) rfl zd_U_fire_76 ?_
            refine lv_iload_n hx hb zd_U_fire_79 rfl (lv_at hl 3 rfl) ?_
            refine x_iald (v := A12 17 i) hx hb hK.1 hP 17 0 ga_17 rfl (by decide) (by omega) (by omega) (rfl) zd_U_fire_80 ?_
            refine lv_aload_n hx hb zd_U_fire_81 rfl (lv_at hl 0 rfl) ?_
            refine va_get (D := D) (ci := 2) (v := .ref (q 16)) (C := zR_U) (T := zT_U) (N := 6) hx hb hts zi_U hown hK.1 hP 2 ga_2 rfl 4 (by decide) (hts _ zw_108) (fun _ h9 => h9) rfl zd_U_fire_82 ?_
            refine lv_iload_n hx hb zd_U_fire_85 rfl (lv_at hl 3 rfl) ?_
            refine x_iald (v := ((A12 16 i) - (A 12 i)) + (A 11 i)) hx hb hK.1 hP 16 0 ga_16 rfl (by decide) (by omega) (by omega) (by simp [auP, upI]) zd_U_fire_86 ?_
            refine x_mmax hx hb (S.2.2.1.trans hl.1.symm) hown (hts _ zw_290) (hts _ zw_248) (hts _ zw_7) (hts _ zw_249) (by decide) (Nat.le_of_ble_eq_true rfl) (Nat.zero_le _) (Nat.zero_le _) (⟨by omega, by omega⟩) (⟨by omega, by omega⟩) zd_U_fire_87 ?_
            refine x_iast hx hb hK.1 hP hD hS 17 0 ga_17 rfl (by decide) (by omega) (by omega) zd_U_fire_90 (fun H locs hP hD hS => ?_)
            rw [gs_17] at hP hD
            refine lv_iinc (v := iI (i + 1)) (lv' := [(3, .int (iI (i + 1))), (0, .ref (q 2)), (1, .ref (q 1)), (2, .int (iI (a)))]) hx hb zd_U_fire_91 hl (k := 3) rfl (iI_add _ _) (by decide) rfl (fun ls hl => ?_)
            refine lv_goto (tgt := 12) hx hb zd_U_fire_94 (by decide) ?_
            exact ih_12 (i + 1)  (auP (auP (auP A12 16 i ((A12 16 i) - (A 12 i))) 16 i (((A12 16 i) - (A 12 i)) + (A 11 i))) 17 i (max (A12 17 i) (((A12 16 i) - (A 12 i)) + (A 11 i)))) (by first | assumption | omega | (simp_all; done)) (fun k h1 h2 => by simp [auP, h1, h2]; simpa [auP] using hk k h1 h2) (by first | (refine lu_yy hs (by omega) trivial ?_; simp [h_27, h_52, e16]; done) | (refine lu_y hs (by omega) trivial ?_; simp [h_27, h_52, e16]; done) | (refine lu_e hs ?_ (by omega) trivial; simp [auP, h_27, h_52, e16]; done)) (by refine lu_y hp (by omega) trivial ?_; simp [h_27, h_52, e16, e17]) (by omega) _ _ hP hD hS ls (lv_sub hl [1, 2, 3, 0] rfl)
  exact L_12 (((F 101 - (0) : Int) + 1).toNat) (0)  (auP A 15 a ((A 15 a) - 1)) (by first | assumption | omega | (simp_all; done)) (fun k _ _ => rfl) (fun k => by rw [if_neg (by omega)]; rfl) (fun k => by rw [if_neg (by omega)]; rfl) (by omega) _ _ hP hD hS ls (lv_sub hl [1, 2, 3, 0] rfl)

abbrev zr_U_play : Room := ({ frames := 2, cells := 0, slots := 0, locals := 52 } : Room)
set_option maxHeartbeats 4000000 in
set_option maxRecDepth 100000 in
theorem c_U_play (l : Launch) (D : va_G) (q : Nat → Nat) (c : Nat → ClassId) (sz : Nat) (F : Nat → Int) (A : Nat → Int → Int)  (hn : 1 ≤ F 100 ∧ F 100 ≤ 8) (hc : 0 ≤ F 101 ∧ F 101 ≤ 14) (hact : ∀ a, 0 ≤ a → a < 8 → (1 ≤ A 7 a ∧ A 7 a ≤ 4782969) ∧ 0 ≤ A 8 a ∧ A 8 a < 8) (hch : ∀ k, 0 ≤ k → k < F 101 → (0 ≤ A 9 k ∧ A 9 k < F 100) ∧ (0 ≤ A 10 k ∧ A 10 k < F 100) ∧ (1 ≤ A 11 k ∧ A 11 k ≤ 9) ∧ (1 ≤ A 12 k ∧ A 12 k ≤ 9) ∧ 0 ≤ A 13 k ∧ A 13 k ≤ 99) : zMV l zy_U_play zc_U_play 4 none zr_U_play D q c sz [.ref (q 2), .ref (q 1)] F A (fun F1 A1 => F1 200 = 1 ∧ (∀ j, j ≠ 200 → j ≠ 201 → F1 j = F j) ∧ (∀ k, k ≠ 14 → k ≠ 15 → k ≠ 16 → k ≠ 17 → A1 k = A k) ∧ RdOK F1 A1) := by
  refine z_ofV (by decide) (Nat.le_of_ble_eq_true rfl) ?_
  intro p e s m args below meth c0 A0 Q C0 ret hP hD hS ls hl
  obtain ⟨S, hK, hA⟩ := C0
  have hx := S.1
  have hb := S.2.1
  have hown := S.2.2.2.1
  have hts : ∀ w ∈ zG, w.before args s = true := fun w h => S.2.2.2.2 w (List.mem_cons_of_mem _ h)
  have hl : lv_has ls 4 [(0, .ref (q 2)), (1, .ref (q 1))] := hl
  refine lv_aload_n hx hb zd_U_play_0 rfl (lv_at hl 0 rfl) ?_
  refine lv_aload_n hx hb zd_U_play_1 rfl (lv_at hl 1 rfl) ?_
  refine z_gov (z_runV (n := 1) (k := 2) (ci := 2) (As := [.ref (q 1)]) (rest := []) S (c_U_begin l D q c _ F A (by first | assumption | omega | exact ⟨by omega, by omega⟩) (by first | assumption | omega | exact ⟨by omega, by omega⟩)) zw_274 zw_276 zs_11 zw_3 zw_277 ⟨by decide +kernel, by decide, rfl, rfl⟩ hK hP hD ga_2 rfl rfl rfl hl.1 rfl (Nat.le_of_ble_eq_true rfl) zd_U_play_2 ⟨Nat.zero_le _, Nat.zero_le _⟩) hD hS hA (fun F_2 A_2 H locs hq_2 hP hD hS => ?_)
  obtain ⟨hb1, hb2, hb3, hb4⟩ := hq_2
  refine lv_iconst (v := iI (0)) hx hb zd_U_play_5 rfl ?_
  refine lv_istore_n (lv' := [(2, .int (iI (0))), (0, .ref (q 2)), (1, .ref (q 1))]) hx hb zd_U_play_6 rfl hl (by decide) rfl (fun ls hl => ?_)
  have L_7 : ∀ (fu : Nat) (i : Int)  (F7 : Nat → Int) (A7 : Nat → Int → Int), (0 ≤ i ∧ i ≤ 400) → (∀ j, j ≠ 201 → F7 j = F j) → (F7 201 = i) → (∀ k, k ≠ 14 → k ≠ 15 → k ≠ 16 → k ≠ 17 → A7 k = A k) → (rok (F 100) (F 101) (A 9) (A 10) (A 11) (A 12) (A 7, A 13, A 13) (A7 14) i.toNat) → (rat (F 100) (F 101) (rrun (A 9) (A 10) (A 11) (A 12) (A 7, A 13, A 13) (A7 14) i.toNat) (A7 15) (A7 16) (A7 17)) → (400 - i < (fu : Int)) → ∀ (H : Heap) (locs : List Loc), va_P D zcl (gw q c F7 A7) H → va_D A0 (gw q c F7 A7) → va_S A0 s.heap H locs → ∀ ls : Array Slot, lv_has ls 4 [(0, .ref (q 2)), (1, .ref (q 1)), (2, .int (iI (i)))] → W p l e zr_U_play s m args below meth c0 H locs 0 0 Q (F0 m 7 ls []) := by
    intro fu
    induction fu with
    | zero => intro i  F7 A7 hi hF hd hk hr hs hm_7; exact absurd hm_7 (by omega)
    | succ fu ih_7 =>
      intro i  F7 A7 hi hF hd hk hr hs hm_7 H locs hP hD hS ls hl
      have e7 := hk 7 (by decide) (by decide) (by decide) (by decide)
      have e8 := hk 8 (by decide) (by decide) (by decide) (by decide)
      have e9 := hk 9 (by decide) (by decide) (by decide) (by decide)
      have e10 := hk 10 (by decide) (by decide) (by decide) (by decide)
      have e11 := hk 11 (by decide) (by decide) (by decide) (by decide)
      have e12 := hk 12 (by decide) (by decide) (by decide) (by decide)
      have e13 := hk 13 (by decide) (by decide) (by decide) (by decide)
      have e100 := hF 100 (by decide)
      have e101 := hF 101 (by decide)
      obtain ⟨hb1, hb2⟩ := rat_b hi hact hn hch hr hs
      refine lv_iload_n hx hb zd_U_play_7 rfl (lv_at hl 2 rfl) ?_
      refine lv_sipush (v := iI (400)) hx hb zd_U_play_8 (by decide) ?_
      refine x_icmp_ge (tgt := 54) hx hb zd_U_play_11 (by decide) (⟨by omega, by omega⟩) (⟨by omega, by omega⟩) (fun h_11 => ?_) (fun h_11 => ?_)
      · refine lv_aload_n hx hb zd_U_play_54 rfl (lv_at hl 0 rfl) ?_
        refine lv_iconst (v := iI (1)) hx hb zd_U_play_55 rfl ?_
        refine va_put (D := D) (ci := 2) (v := .int (iI (1))) (ty := .boolean) (C := zR_U) (T := zT_U) (N := 6) hx hb hts zi_U zk_U zo_U zn_U hown hK.1 hP hD hS 2 ga_2 rfl 0 (by decide) (hts _ zw_100) (fun _ h9 => h9) rfl (by decide +kernel) (rfl) (rfl) (Nat.le_of_ble_eq_true rfl) zd_U_play_56 (fun H locs hP hD hS => ?_)
        rw [gs_2_0] at hP hD
        exact ret _ _ _ _ _ _ zd_U_play_59 hP hD hS (play_end hd hF hk hr hs hi (by first | (left; omega) | (right; simp only [e7, e8, e9, e10, e11, e12, e13, e100, e101] at hq_16; rcases hq_16 with h | h; (exact h.2); (exact absurd h_22 (by omega)))))
      · refine lv_aload_n hx hb zd_U_play_14 rfl (lv_at hl 0 rfl) ?_
        refine lv_aload_n hx hb zd_U_play_15 rfl (lv_at hl 1 rfl) ?_
        refine z_goi (z_runV (n := 1) (k := 2) (ci := 2) (As := [.ref (q 1)]) (rest := []) S (c_U_leastReady l D q c _ F7 A7 (by simp only [e7, e8, e9, e10, e11, e12, e13, e100, e101]; assumption) (by simp only [e7, e8, e9, e10, e11, e12, e13, e100, e101]; assumption) (by simp only [e7, e8, e9, e10, e11, e12, e13, e100, e101]; assumption) (by simp only [e7, e8, e9, e10, e11, e12, e13, e100, e101]; assumption) (by simp only [e7, e8, e9, e10, e11, e12, e13, e100, e101]; assumption)) zw_278 zw_280 zs_12 zw_3 zw_281 ⟨by decide +kernel, by decide, rfl, rfl⟩ hK hP hD ga_2 rfl rfl rfl hl.1 rfl (Nat.le_of_ble_eq_true rfl) zd_U_play_16 ⟨Nat.zero_le _, Nat.zero_le _⟩) hD hS hA (fun z_16 F_16 A_16 H locs hq_16 hP hD hS => ?_)
        obtain ⟨hf_16, ha_16, hq_16⟩ := hq_16
        rw [hf_16, ha_16] at hP hD
        have hz_ : -1 ≤ z_16 ∧ z_16 < 8 := by (rcases hq_16 with h | h <;> omega)
        refine lv_istore_n (lv' := [(3, .int (iI (z_16))), (0, .ref (q 2)), (1, .ref (q 1)), (2, .int (iI (i)))]) hx hb zd_U_play_19 rfl hl (by decide) rfl (fun ls hl => ?_)
        refine lv_iload_n hx hb zd_U_play_20 rfl (lv_at hl 0 rfl) ?_
        refine lv_iconst (v := iI (-1)) hx hb zd_U_play_21 rfl ?_
        refine x_icmp_ne (tgt := 28) hx hb zd_U_play_22 (by decide) (⟨by omega, by omega⟩) (⟨by omega, by omega⟩) (fun h_22 => ?_) (fun h_22 => ?_)
        · have hz2_ : (0 ≤ z_16 ∧ z_16 < F 100) ∧ (0 < A7 15 z_16 ∧ ∀ k, 0 ≤ k → k < F 101 → A 10 k = z_16 → A 12 k ≤ A7 16 k) ∧ ∀ b, 0 ≤ b → b < z_16 → ¬ (0 < A7 15 b ∧ ∀ k, 0 ≤ k → k < F 101 → A 10 k = b → A 12 k ≤ A7 16 k) := by (simp only [e7, e8, e9, e10, e11, e12, e13, e100, e101] at hq_16; rcases hq_16 with h | h; (exact absurd h.1 h_22); (exact h))
          refine lv_aload_n hx hb zd_U_play_28 rfl (lv_at hl 1 rfl) ?_
          refine lv_aload_n hx hb zd_U_play_29 rfl (lv_at hl 2 rfl) ?_
          refine lv_iload_n hx hb zd_U_play_30 rfl (lv_at hl 0 rfl) ?_
          refine z_gov (z_runV (n := 2) (k := 2) (ci := 2) (As := [.ref (q 1), .int (iI (z_16))]) (rest := []) S (c_U_fire l D q c _ F7 A7 z_16 (by simp only [e7, e8, e9, e10, e11, e12, e13, e100, e101]; assumption) (by simp only [e7, e8, e9, e10, e11, e12, e13, e100, e101]; assumption) (by simp only [e7, e8, e9, e10, e11, e12, e13, e100, e101]; assumption) (by simp only [e7, e8, e9, e10, e11, e12, e13, e100, e101]; assumption) (by simp only [e7, e8, e9, e10, e11, e12, e13, e100, e101]; assumption) (by rw [e100]; exact hz2_.1)) zw_286 zw_288 zs_14 zw_3 zw_289 ⟨by decide +kernel, by decide, rfl, rfl⟩ hK hP hD ga_2 rfl rfl rfl hl.1 rfl (Nat.le_of_ble_eq_true rfl) zd_U_play_31 ⟨Nat.zero_le _, Nat.zero_le _⟩) hD hS hA (fun F_31 A_31 H locs hq_31 hP hD hS => ?_)
          obtain ⟨hf_31, hq_31⟩ := hq_31
          rw [hf_31] at hP hD
          obtain ⟨hg1, hg2, hg3, hg4⟩ := hq_31
          simp only [e7, e8, e9, e10, e11, e12, e13, e100, e101] at hg3 hg4
          have hst_ := play_step (l1 := A7 15) (l2 := A7 16) (l3 := A7 17) (m1 := A_31 15) (m2 := A_31 16) (m3 := A_31 17) hi.1 hr hs hz2_ (fun a _ _ => by rw [hg2]) (fun k h0 h1 => by rw [hg3 k, if_pos ⟨h0, h1, trivial⟩]) (fun k h0 h1 => by rw [hg4 k, if_pos ⟨h0, h1, trivial⟩])
          have e14 := hg1 14 (by decide) (by decide) (by decide)
          refine lv_aload_n hx hb zd_U_play_34 rfl (lv_at hl 1 rfl) ?_
          refine va_get (D := D) (ci := 2) (v := .ref (q 14)) (C := zR_U) (T := zT_U) (N := 6) hx hb hts zi_U hown hK.1 hP 2 ga_2 rfl 2 (by decide) (hts _ zw_104) (fun _ h9 => h9) rfl zd_U_play_35 ?_
          refine lv_iload_n hx hb zd_U_play_38 rfl (lv_at hl 3 rfl) ?_
          refine lv_iload_n hx hb zd_U_play_39 rfl (lv_at hl 0 rfl) ?_
          refine x_iast hx hb hK.1 hP hD hS 14 0 ga_14 rfl (by decide) (by omega) (by omega) zd_U_play_40 (fun H locs hP hD hS => ?_)
          rw [gs_14] at hP hD
          refine lv_aload_n hx hb zd_U_play_41 rfl (lv_at hl 1 rfl) ?_
          refine lv_iload_n hx hb zd_U_play_42 rfl (lv_at hl 3 rfl) ?_
          refine lv_iconst (v := iI (1)) hx hb zd_U_play_43 rfl ?_
          refine x_iadd hx hb zd_U_play_44 ?_
          refine va_put (D := D) (ci := 2) (v := .int (iI (i + 1))) (ty := .int) (C := zR_U) (T := zT_U) (N := 6) hx hb hts zi_U zk_U zo_U zn_U hown hK.1 hP hD hS 2 ga_2 rfl 1 (by decide) (hts _ zw_102) (fun _ h9 => h9) rfl (by decide +kernel) (rfl) (rfl) (Nat.le_of_ble_eq_true rfl) zd_U_play_45 (fun H locs hP hD hS => ?_)
          rw [gs_2_1] at hP hD
          refine lv_iinc (v := iI (i + 1)) (lv' := [(2, .int (iI (i + 1))), (3, .int (iI (z_16))), (0, .ref (q 2)), (1, .ref (q 1))]) hx hb zd_U_play_48 hl (k := 3) rfl (iI_add _ _) (by decide) rfl (fun ls hl => ?_)
          refine lv_goto (tgt := 7) hx hb zd_U_play_51 (by decide) ?_
          exact ih_7 (i + 1)  (fuP F7 201 (i + 1)) (auP A_31 14 i z_16) (by first | assumption | omega | (simp_all; done)) (fun j h => by simp [fuP, h, hF j h]) (by simp [fuP]) (fun k h4 h5 h6 h7 => by simp [auP, h4]; rw [hg1 k h5 h6 h7, hk k h4 h5 h6 h7]) (by have := hst_.1; rw [← e14] at this; exact this) (by have := hst_.2; rw [← e14] at this; exact this) (by omega) _ _ hP hD hS ls (lv_sub hl [2, 3, 0] rfl)
        · refine lv_goto (tgt := 54) hx hb zd_U_play_25 (by decide) ?_
          refine lv_aload_n hx hb zd_U_play_54 rfl (lv_at hl 1 rfl) ?_
          refine lv_iconst (v := iI (1)) hx hb zd_U_play_55 rfl ?_
          refine va_put (D := D) (ci := 2) (v := .int (iI (1))) (ty := .boolean) (C := zR_U) (T := zT_U) (N := 6) hx hb hts zi_U zk_U zo_U zn_U hown hK.1 hP hD hS 2 ga_2 rfl 0 (by decide) (hts _ zw_100) (fun _ h9 => h9) rfl (by decide +kernel) (rfl) (rfl) (Nat.le_of_ble_eq_true rfl) zd_U_play_56 (fun H locs hP hD hS => ?_)
          rw [gs_2_0] at hP hD
          exact ret _ _ _ _ _ _ zd_U_play_59 hP hD hS (play_end hd hF hk hr hs hi (by first | (left; omega) | (right; simp only [e7, e8, e9, e10, e11, e12, e13, e100, e101] at hq_16; rcases hq_16 with h | h; (exact h.2); (exact absurd h_22 (by omega)))))
  exact L_7 (((400 - (0) : Int) + 1).toNat) (0)  F_2 A_2 (by first | assumption | omega | (simp_all; done)) (fun j h => by rw [hb1]; simp [fuP, h]) (by rw [hb1]; simp [fuP]) (fun k h4 h5 h6 h7 => hb2 k h5 h6 h7) (fun k hk => by simp at hk) (⟨fun a h0 h1 => hb3 a h0 h1, fun k h0 h1 => hb4 k h0 h1⟩) (by omega) _ _ hP hD hS ls (lv_sub hl [1, 2, 0] rfl)
end
section
theorem fr_end {F F1 : Nat → Int} {A A1 : Nat → Int → Int} (h1 : F 102 = -1) (h2 : sI (A 7) (F 100) ≤ 400) (h : (F1 = F ∧ A1 = A ∧ F 200 = 1 ∧ RdOK F A) ∨ (F1 200 = 1 ∧ (∀ j, j ≠ 200 → j ≠ 201 → F1 j = F j) ∧ (∀ k, k ≠ 14 → k ≠ 15 → k ≠ 16 → k ≠ 17 → A1 k = A k) ∧ RdOK F1 A1)) :
    ((1 : Int) = 0 ∨ (1 : Int) = 1) ∧ ((1 : Int) = 1 ↔ F 102 = -1 ∧ sI (A 7) (F 100) ≤ 400) ∧ ((∀ j, j ≠ 200 → j ≠ 201 → F1 j = F j) ∧ (∀ k, k ≠ 14 → k ≠ 15 → k ≠ 16 → k ≠ 17 → A1 k = A k)) ∧ ((1 : Int) = 1 → F1 200 = 1 ∧ RdOK F1 A1) ∧ ((1 : Int) = 0 → F1 = F ∧ A1 = A) := by
  refine ⟨Or.inr rfl, ⟨fun _ => ⟨h1, h2⟩, fun _ => rfl⟩, ?_, ?_, fun h => absurd h (by decide)⟩
  · rcases h with ⟨rfl, rfl, -⟩ | h
    · exact ⟨fun _ _ _ => rfl, fun _ _ _ _ _ => rfl⟩
    · exact ⟨h.2.1, h.2.2.1⟩
  · intro _
    rcases h with ⟨rfl, rfl, h3, h4⟩ | h
    · exact ⟨h3, h4⟩
    · exact ⟨h.1, h.2.2.2⟩
abbrev zr_C_forgetAnswers : Room := ({ frames := 0, cells := 0, slots := 0, locals := 0 } : Room)
set_option maxHeartbeats 4000000 in
set_option maxRecDepth 100000 in
theorem c_C_forgetAnswers (l : Launch) (D : va_G) (q : Nat → Nat) (c : Nat → ClassId) (sz : Nat) (F : Nat → Int) (A : Nat → Int → Int)   : zMV l zy_C_forgetAnswers zc_C_forgetAnswers 1 none zr_C_forgetAnswers D q c sz [.ref (q 0)] F A (fun F1 A1 => F1 = fuP (fuP F 200 0) 300 (-1) ∧ A1 = A) := by
  refine z_ofV (by decide) (Nat.le_of_ble_eq_true rfl) ?_
  intro p e s m args below meth c0 A0 Q C0 ret hP hD hS ls hl
  obtain ⟨S, hK, hA⟩ := C0
  have hx := S.1
  have hb := S.2.1
  have hown := S.2.2.2.1
  have hts : ∀ w ∈ zG, w.before args s = true := fun w h => S.2.2.2.2 w (List.mem_cons_of_mem _ h)
  have hl : lv_has ls 1 [(0, .ref (q 0))] := hl
  refine lv_aload_n hx hb zd_C_forgetAnswers_0 rfl (lv_at hl 0 rfl) ?_
  refine va_get (D := D) (ci := 0) (v := .ref (q 2)) (C := zR_C) (T := zT_C) (N := 4) hx hb hts zi_C hown hK.1 hP 0 ga_0 rfl 1 (by decide) (hts _ zw_186) (fun _ h9 => h9) rfl zd_C_forgetAnswers_1 ?_
  refine lv_iconst (v := iI (0)) hx hb zd_C_forgetAnswers_4 rfl ?_
  refine va_putN (D := D) (ci := 2) (v := .int (iI (0))) (ty := .boolean) (C := zR_U) (T := zT_U) (N := 6) hx hb hts zi_U zk_U zo_U zn_U hown hK.1 hP hD hS 2 ga_2 rfl 0 (by decide) (zNW.use hK.2 zw_101) (fun _ h9 => h9) rfl (by decide +kernel) (rfl) (rfl) (Nat.le_of_ble_eq_true rfl) zd_C_forgetAnswers_5 (fun H locs hP hD hS => ?_)
  rw [gs_2_0] at hP hD
  refine lv_aload_n hx hb zd_C_forgetAnswers_8 rfl (lv_at hl 0 rfl) ?_
  refine va_get (D := D) (ci := 0) (v := .ref (q 3)) (C := zR_C) (T := zT_C) (N := 4) hx hb hts zi_C hown hK.1 hP 0 ga_0 rfl 2 (by decide) (hts _ zw_187) (fun _ h9 => h9) rfl zd_C_forgetAnswers_9 ?_
  refine lv_iconst (v := iI (-1)) hx hb zd_C_forgetAnswers_12 rfl ?_
  refine va_putN (D := D) (ci := 3) (v := .int (iI (-1))) (ty := .int) (C := zR_P) (T := zT_P) (N := 13) hx hb hts zi_P zk_P zo_P zn_P hown hK.1 hP hD hS 3 ga_3 rfl 0 (by decide) (zNW.use hK.2 zw_131) (fun _ h9 => h9) rfl (by decide +kernel) (rfl) (rfl) (Nat.le_of_ble_eq_true rfl) zd_C_forgetAnswers_13 (fun H locs hP hD hS => ?_)
  rw [gs_3_0] at hP hD
  exact ret _ _ _ _ _ _ zd_C_forgetAnswers_16 hP hD hS (⟨rfl, rfl⟩)

abbrev zr_C_findRound : Room := ({ frames := 3, cells := 0, slots := 0, locals := 75 } : Room)
set_option maxHeartbeats 4000000 in
set_option maxRecDepth 100000 in
theorem c_C_findRound (l : Launch) (D : va_G) (q : Nat → Nat) (c : Nat → ClassId) (sz : Nat) (F : Nat → Int) (A : Nat → Int → Int)  (hn : 1 ≤ F 100 ∧ F 100 ≤ 8) (hc : 0 ≤ F 101 ∧ F 101 ≤ 14) (hact : ∀ a, 0 ≤ a → a < 8 → (1 ≤ A 7 a ∧ A 7 a ≤ 4782969) ∧ 0 ≤ A 8 a ∧ A 8 a < 8) (hch : ∀ k, 0 ≤ k → k < F 101 → (0 ≤ A 9 k ∧ A 9 k < F 100) ∧ (0 ≤ A 10 k ∧ A 10 k < F 100) ∧ (1 ≤ A 11 k ∧ A 11 k ≤ 9) ∧ (1 ≤ A 12 k ∧ A 12 k ≤ 9) ∧ 0 ≤ A 13 k ∧ A 13 k ≤ 99) (hkn : (F 200 = 0 ∨ F 200 = 1) ∧ (F 200 = 1 → RdOK F A)) (hu : ib (F 102)) : zMI l zy_C_findRound zc_C_findRound 1 (some .boolean) zr_C_findRound D q c sz [.ref (q 0)] F A (fun z F1 A1 => (z = 0 ∨ z = 1) ∧ (z = 1 ↔ F 102 = -1 ∧ sI (A 7) (F 100) ≤ 400) ∧ ((∀ j, j ≠ 200 → j ≠ 201 → F1 j = F j) ∧ (∀ k, k ≠ 14 → k ≠ 15 → k ≠ 16 → k ≠ 17 → A1 k = A k)) ∧ (z = 1 → F1 200 = 1 ∧ RdOK F1 A1) ∧ (z = 0 → F1 = F ∧ A1 = A)) := by
  refine z_ofB (by decide) (Nat.le_of_ble_eq_true rfl) ?_
  intro p e s m args below meth c0 A0 Q C0 ret hP hD hS ls hl
  obtain ⟨S, hK, hA⟩ := C0
  have hx := S.1
  have hb := S.2.1
  have hown := S.2.2.2.1
  have hts : ∀ w ∈ zG, w.before args s = true := fun w h => S.2.2.2.2 w (List.mem_cons_of_mem _ h)
  have hl : lv_has ls 1 [(0, .ref (q 0))] := hl
  refine lv_aload_n hx hb zd_C_findRound_0 rfl (lv_at hl 0 rfl) ?_
  refine va_get (D := D) (ci := 0) (v := .ref (q 1)) (C := zR_C) (T := zT_C) (N := 4) hx hb hts zi_C hown hK.1 hP 0 ga_0 rfl 0 (by decide) (hts _ zw_185) (fun _ h9 => h9) rfl zd_C_findRound_1 ?_
  refine z_goi (z_runVN (n := 0) (k := 1) (ci := 1) (As := []) (rest := []) S (c_N_isUneven l D q c _ F A (by first | assumption | omega | exact ⟨by omega, by omega⟩)) zw_262 zw_264 zs_8 zw_2 zw_265 ⟨by decide +kernel, by decide, rfl, rfl⟩ hK hP hD ga_1 rfl rfl rfl hl.1 rfl (Nat.le_of_ble_eq_true rfl) zd_C_findRound_4 ⟨Nat.zero_le _, Nat.zero_le _⟩) hD hS hA (fun z_4 F_4 A_4 H locs hq_4 hP hD hS => ?_)
  obtain ⟨hf_4, ha_4, hq_4⟩ := hq_4
  rw [hf_4, ha_4] at hP hD
  have h7_ : z_4 = 0 ∨ z_4 = 1 := by rw [hq_4]; split <;> simp
  refine x_if_ne (tgt := 20) hx hb zd_C_findRound_7 (by decide) (by omega) (fun h_7 => ?_) (fun h_7 => ?_)
  · refine lv_iconst (v := iI (0)) hx hb zd_C_findRound_20 rfl ?_
    exact ret _ _ _ _ _ _ _ zd_C_findRound_21 hP hD hS (by omega) (⟨by omega, ⟨fun h => by omega, fun h => by first | (rw [if_pos h.1] at hq_4; omega) | (rw [if_neg (by omega)] at hq_14; omega)⟩, ⟨fun _ _ _ => rfl, fun _ _ _ _ _ => rfl⟩, fun h => by omega, fun _ => ⟨rfl, rfl⟩⟩)
  · refine lv_aload_n hx hb zd_C_findRound_10 rfl (lv_at hl 0 rfl) ?_
    refine va_get (D := D) (ci := 0) (v := .ref (q 1)) (C := zR_C) (T := zT_C) (N := 4) hx hb hts zi_C hown hK.1 hP 0 ga_0 rfl 0 (by decide) (hts _ zw_185) (fun _ h9 => h9) rfl zd_C_findRound_11 ?_
    refine z_goi (z_runVN (n := 0) (k := 1) (ci := 1) (As := []) (rest := []) S (c_N_isGreat l D q c _ F A (by first | assumption | omega | exact ⟨by omega, by omega⟩) (fun a h0 h1 => (hact a h0 h1).1)) zw_266 zw_268 zs_9 zw_2 zw_269 ⟨by decide +kernel, by decide, rfl, rfl⟩ hK hP hD ga_1 rfl rfl rfl hl.1 rfl (Nat.le_of_ble_eq_true rfl) zd_C_findRound_14 ⟨Nat.zero_le _, Nat.zero_le _⟩) hD hS hA (fun z_14 F_14 A_14 H locs hq_14 hP hD hS => ?_)
    obtain ⟨hf_14, ha_14, hq_14⟩ := hq_14
    rw [hf_14, ha_14] at hP hD
    have h17_ : z_14 = 0 ∨ z_14 = 1 := by rw [hq_14]; split <;> simp
    refine x_if_eq (tgt := 22) hx hb zd_C_findRound_17 (by decide) (by omega) (fun h_17 => ?_) (fun h_17 => ?_)
    · refine lv_aload_n hx hb zd_C_findRound_22 rfl (lv_at hl 0 rfl) ?_
      refine va_get (D := D) (ci := 0) (v := .ref (q 2)) (C := zR_C) (T := zT_C) (N := 4) hx hb hts zi_C hown hK.1 hP 0 ga_0 rfl 1 (by decide) (hts _ zw_186) (fun _ h9 => h9) rfl zd_C_findRound_23 ?_
      refine va_getN (D := D) (ci := 2) (v := .int (iI (F 200))) (C := zR_U) (T := zT_U) (N := 6) hx hb hts zi_U hown hK.1 hP 2 ga_2 rfl 0 (by decide) (zNW.use hK.2 zw_101) (fun _ h9 => h9) rfl zd_C_findRound_26 ?_
      refine x_if_ne (tgt := 43) hx hb zd_C_findRound_29 (by decide) (by omega) (fun h_29 => ?_) (fun h_29 => ?_)
      · refine lv_iconst (v := iI (1)) hx hb zd_C_findRound_43 rfl ?_
        exact ret _ _ _ _ _ _ _ zd_C_findRound_44 hP hD hS (by omega) (fr_end (by rw [hq_4] at h_7; split at h_7 <;> omega) (by rw [hq_14] at h_17; split at h_17 <;> omega) (by first | exact Or.inl ⟨rfl, rfl, by omega, hkn.2 (by omega)⟩ | exact Or.inr hq_40))
      · refine lv_aload_n hx hb zd_C_findRound_32 rfl (lv_at hl 0 rfl) ?_
        refine va_get (D := D) (ci := 0) (v := .ref (q 2)) (C := zR_C) (T := zT_C) (N := 4) hx hb hts zi_C hown hK.1 hP 0 ga_0 rfl 1 (by decide) (hts _ zw_186) (fun _ h9 => h9) rfl zd_C_findRound_33 ?_
        refine lv_aload_n hx hb zd_C_findRound_36 rfl (lv_at hl 0 rfl) ?_
        refine va_get (D := D) (ci := 0) (v := .ref (q 1)) (C := zR_C) (T := zT_C) (N := 4) hx hb hts zi_C hown hK.1 hP 0 ga_0 rfl 0 (by decide) (hts _ zw_185) (fun _ h9 => h9) rfl zd_C_findRound_37 ?_
        refine z_gov (z_runVN (n := 1) (k := 2) (ci := 2) (As := [.ref (q 1)]) (rest := []) S (c_U_play l D q c _ F A (by first | assumption | omega | exact ⟨by omega, by omega⟩) (by first | assumption | omega | exact ⟨by omega, by omega⟩) (by first | assumption | omega | exact ⟨by omega, by omega⟩) (by first | assumption | omega | exact ⟨by omega, by omega⟩)) zw_270 zw_272 zs_10 zw_3 zw_273 ⟨by decide +kernel, by decide, rfl, rfl⟩ hK hP hD ga_2 rfl rfl rfl hl.1 rfl (Nat.le_of_ble_eq_true rfl) zd_C_findRound_40 ⟨Nat.zero_le _, Nat.zero_le _⟩) hD hS hA (fun F_40 A_40 H locs hq_40 hP hD hS => ?_)
        refine lv_iconst (v := iI (1)) hx hb zd_C_findRound_43 rfl ?_
        exact ret _ _ _ _ _ _ _ zd_C_findRound_44 hP hD hS (by omega) (fr_end (by rw [hq_4] at h_7; split at h_7 <;> omega) (by rw [hq_14] at h_17; split at h_17 <;> omega) (by first | exact Or.inl ⟨rfl, rfl, by omega, hkn.2 (by omega)⟩ | exact Or.inr hq_40))
    · refine lv_iconst (v := iI (0)) hx hb zd_C_findRound_20 rfl ?_
      exact ret _ _ _ _ _ _ _ zd_C_findRound_21 hP hD hS (by omega) (⟨by omega, ⟨fun h => by omega, fun h => by first | (rw [if_pos h.1] at hq_4; omega) | (rw [if_neg (by omega)] at hq_14; omega)⟩, ⟨fun _ _ _ => rfl, fun _ _ _ _ _ => rfl⟩, fun h => by omega, fun _ => ⟨rfl, rfl⟩⟩)
end
section
section XT
variable {p : Program} {l : Launch} {e : Env} {R : Room} {s : State} {m : MethodId} {args : Array Value} {below : List Frame} {meth : Method} {c : Code} {H : Heap} {locs : List Loc} {cells slots : Nat} {Q : State → Prop}
variable {cc : ByteArray} {pc : Nat} {ls : Array Slot} {rest : List Value}
theorem x_tabIn (hexec : p.tables.exec = Jvm.exec) (hb : c.code = cc) {dflt lo hi : Int} {offs : Array Int} {len : Nat} {x k : Int} {off : Int} {tgt : Nat} (hdg : decode cc pc = .ok (.tableswitch dflt lo hi offs, len)) (hx : x = k) (hk : ib k) (h1 : lo ≤ k) (h2 : k ≤ hi) (ho : offs[(k - lo).toNat]? = some off) (ht : (pc : Int) + off = (tgt : Int))
    (kk : W p l e R s m args below meth c H locs cells slots Q (F0 m tgt ls rest)) : W p l e R s m args below meth c H locs cells slots Q (F0 m pc ls (.int (iI x) :: rest)) := by
  subst hx
  exact lv_tableIn hexec hb hdg (by rw [iI_toInt hk]; omega) (by rw [iI_toInt hk]; omega) (by rw [iI_toInt hk]; exact ho) ht kk
theorem x_tabOut (hexec : p.tables.exec = Jvm.exec) (hb : c.code = cc) {dflt lo hi : Int} {offs : Array Int} {len : Nat} {x : Int} {tgt : Nat} (hdg : decode cc pc = .ok (.tableswitch dflt lo hi offs, len)) (hx : ib x) (h : x < lo ∨ hi < x) (ht : (pc : Int) + dflt = (tgt : Int))
    (kk : W p l e R s m args below meth c H locs cells slots Q (F0 m tgt ls rest)) : W p l e R s m args below meth c H locs cells slots Q (F0 m pc ls (.int (iI x) :: rest)) :=
  lv_tableOut hexec hb hdg (by rw [iI_toInt hx]; exact h) ht kk
end XT
abbrev zr_C_graph : Room := ({ frames := 1, cells := 0, slots := 0, locals := 22 } : Room)
set_option maxHeartbeats 4000000 in
set_option maxRecDepth 100000 in
theorem c_C_graph (l : Launch) (D : va_G) (q : Nat → Nat) (c : Nat → ClassId) (sz : Nat) (F : Nat → Int) (A : Nat → Int → Int) (n : Int) (bn : ib n) : zMI l zy_C_graph zc_C_graph 2 (some .boolean) zr_C_graph D q c sz [.ref (q 0), .int (iI (n))] F A (fun z F1 A1 => (1 ≤ n ∧ n ≤ 8 → z = 1 ∧ F1 = fuP (fuP (fuP (fuP (fuP F 100 n) 101 0) 102 (-1)) 200 0) 300 (-1) ∧ (∀ k, k ≠ 6 → k ≠ 7 → k ≠ 8 → A1 k = A k) ∧ ∀ a, 0 ≤ a → a < 8 → A1 6 a = 1 ∧ A1 7 a = 1 ∧ A1 8 a = a) ∧ (¬ (1 ≤ n ∧ n ≤ 8) → z = 0 ∧ F1 = F ∧ A1 = A)) := by
  refine z_ofB (by decide) (Nat.le_of_ble_eq_true rfl) ?_
  intro p e s m args below meth c0 A0 Q C0 ret hP hD hS ls hl
  obtain ⟨S, hK, hA⟩ := C0
  have hx := S.1
  have hb := S.2.1
  have hown := S.2.2.2.1
  have hts : ∀ w ∈ zG, w.before args s = true := fun w h => S.2.2.2.2 w (List.mem_cons_of_mem _ h)
  have hl : lv_has ls 2 [(0, .ref (q 0)), (1, .int (iI (n)))] := hl
  refine lv_iload_n hx hb zd_C_graph_0 rfl (lv_at hl 1 rfl) ?_
  refine lv_iconst (v := iI (1)) hx hb zd_C_graph_1 rfl ?_
  refine lv_bipush (v := iI (8)) hx hb zd_C_graph_2 (by decide) ?_
  refine z_goi (z_runS (n := 3) (As := [.int (iI (n)), .int (iI (1)), .int (iI (8))]) (rest := []) S (c_C_isWithin l D q c _ F A n 1 8 (by first | assumption | omega | exact ⟨by omega, by omega⟩) (by first | assumption | omega | exact ⟨by omega, by omega⟩) (by first | assumption | omega | exact ⟨by omega, by omega⟩)) zw_202 zw_203 zw_1 zw_204 ⟨by decide +kernel, by decide, rfl, rfl⟩ rfl hK hP hD rfl hl.1 rfl (Nat.le_of_ble_eq_true rfl) zd_C_graph_4 ⟨Nat.zero_le _, Nat.zero_le _⟩) hD hS hA (fun z_4 F_4 A_4 H locs hq_4 hP hD hS => ?_)
  obtain ⟨hf_4, ha_4, hq_4⟩ := hq_4
  rw [hf_4, ha_4] at hP hD
  have b4_ : z_4 = 0 ∨ z_4 = 1 := by rw [hq_4]; split <;> simp
  refine x_if_ne (tgt := 12) hx hb zd_C_graph_7 (by decide) (⟨by omega, by omega⟩) (fun h_7 => ?_) (fun h_7 => ?_)
  · have hn_ : 1 ≤ n ∧ n ≤ 8 := by (rw [hq_4] at h_7; split at h_7 <;> omega)
    refine lv_aload_n hx hb zd_C_graph_12 rfl (lv_at hl 0 rfl) ?_
    refine va_get (D := D) (ci := 0) (v := .ref (q 1)) (C := zR_C) (T := zT_C) (N := 4) hx hb hts zi_C hown hK.1 hP 0 ga_0 rfl 0 (by decide) (hts _ zw_185) (fun _ h9 => h9) rfl zd_C_graph_13 ?_
    refine lv_iload_n hx hb zd_C_graph_16 rfl (lv_at hl 1 rfl) ?_
    refine z_gov (z_runVN (n := 1) (k := 1) (ci := 1) (As := [.int (iI (n))]) (rest := []) S (c_N_begin l D q c _ F A n (by first | assumption | omega | exact ⟨by omega, by omega⟩)) zw_205 zw_30 zs_0 zw_2 zw_31 ⟨by decide +kernel, by decide, rfl, rfl⟩ hK hP hD ga_1 rfl rfl rfl hl.1 rfl (Nat.le_of_ble_eq_true rfl) zd_C_graph_17 ⟨Nat.zero_le _, Nat.zero_le _⟩) hD hS hA (fun F_17 A_17 H locs hq_17 hP hD hS => ?_)
    obtain ⟨g1, g2, g3⟩ := hq_17
    refine lv_aload_n hx hb zd_C_graph_20 rfl (lv_at hl 0 rfl) ?_
    refine z_gov (z_runV (n := 0) (k := 0) (ci := 0) (As := []) (rest := []) S (c_C_forgetAnswers l D q c _ F_17 A_17 ) zw_206 zw_208 zs_1 zw_1 zw_209 ⟨by decide +kernel, by decide, rfl, rfl⟩ hK hP hD ga_0 rfl rfl rfl hl.1 rfl (Nat.le_of_ble_eq_true rfl) zd_C_graph_21 ⟨Nat.zero_le _, Nat.zero_le _⟩) hD hS hA (fun F_21 A_21 H locs hq_21 hP hD hS => ?_)
    obtain ⟨hf_21, ha_21⟩ := hq_21
    rw [hf_21, ha_21] at hP hD
    refine lv_iconst (v := iI (1)) hx hb zd_C_graph_24 rfl ?_
    exact ret _ _ _ _ _ _ _ zd_C_graph_25 hP hD hS (by omega) (⟨fun _ => ⟨rfl, by rw [g1], g2, g3⟩, fun h => absurd hn_ h⟩)
  · have hn_ : ¬ (1 ≤ n ∧ n ≤ 8) := by (rw [hq_4] at h_7; split at h_7 <;> omega)
    refine lv_iconst (v := iI (0)) hx hb zd_C_graph_10 rfl ?_
    exact ret _ _ _ _ _ _ _ zd_C_graph_11 hP hD hS (by omega) (⟨fun h => absurd h hn_, fun _ => ⟨rfl, rfl, rfl⟩⟩)

abbrev zr_C_time : Room := ({ frames := 1, cells := 0, slots := 0, locals := 22 } : Room)
set_option maxHeartbeats 4000000 in
set_option maxRecDepth 100000 in
theorem c_C_time (l : Launch) (D : va_G) (q : Nat → Nat) (c : Nat → ClassId) (sz : Nat) (F : Nat → Int) (A : Nat → Int → Int) (a : Int) (t : Int) (ba : ib a) (bt : ib t) (hn : 1 ≤ F 100 ∧ F 100 ≤ 8) : zMI l zy_C_time zc_C_time 3 (some .boolean) zr_C_time D q c sz [.ref (q 0), .int (iI (a)), .int (iI (t))] F A (fun z F1 A1 => ((0 ≤ a ∧ a < F 100) ∧ 1 ≤ t ∧ t ≤ 9 → z = 1 ∧ F1 = fuP (fuP F 200 0) 300 (-1) ∧ A1 = auP A 6 a t) ∧ (¬ ((0 ≤ a ∧ a < F 100) ∧ 1 ≤ t ∧ t ≤ 9) → z = 0 ∧ F1 = F ∧ A1 = A)) := by
  refine z_ofB (by decide) (Nat.le_of_ble_eq_true rfl) ?_
  intro p e s m args below meth c0 A0 Q C0 ret hP hD hS ls hl
  obtain ⟨S, hK, hA⟩ := C0
  have hx := S.1
  have hb := S.2.1
  have hown := S.2.2.2.1
  have hts : ∀ w ∈ zG, w.before args s = true := fun w h => S.2.2.2.2 w (List.mem_cons_of_mem _ h)
  have hl : lv_has ls 3 [(0, .ref (q 0)), (1, .int (iI (a))), (2, .int (iI (t)))] := hl
  refine lv_aload_n hx hb zd_C_time_0 rfl (lv_at hl 0 rfl) ?_
  refine va_get (D := D) (ci := 0) (v := .ref (q 1)) (C := zR_C) (T := zT_C) (N := 4) hx hb hts zi_C hown hK.1 hP 0 ga_0 rfl 0 (by decide) (hts _ zw_185) (fun _ h9 => h9) rfl zd_C_time_1 ?_
  refine lv_iload_n hx hb zd_C_time_4 rfl (lv_at hl 1 rfl) ?_
  refine z_goi (z_runVN (n := 1) (k := 1) (ci := 1) (As := [.int (iI (a))]) (rest := []) S (c_N_hasActor l D q c _ F A a (by first | assumption | omega | exact ⟨by omega, by omega⟩) (by first | assumption | omega | exact ⟨by omega, by omega⟩)) zw_214 zw_216 zs_2 zw_2 zw_217 ⟨by decide +kernel, by decide, rfl, rfl⟩ hK hP hD ga_1 rfl rfl rfl hl.1 rfl (Nat.le_of_ble_eq_true rfl) zd_C_time_5 ⟨Nat.zero_le _, Nat.zero_le _⟩) hD hS hA (fun z_5 F_5 A_5 H locs hq_5 hP hD hS => ?_)
  obtain ⟨hf_5, ha_5, hq_5⟩ := hq_5
  rw [hf_5, ha_5] at hP hD
  have b5_ : z_5 = 0 ∨ z_5 = 1 := by rw [hq_5]; split <;> simp
  refine x_if_eq (tgt := 21) hx hb zd_C_time_8 (by decide) (⟨by omega, by omega⟩) (fun h_8 => ?_) (fun h_8 => ?_)
  · refine lv_iconst (v := iI (0)) hx hb zd_C_time_21 rfl ?_
    exact ret _ _ _ _ _ _ _ zd_C_time_22 hP hD hS (by omega) (⟨fun h => by first | (rw [if_pos h.1] at hq_5; omega) | (rw [if_pos h.2] at hq_15; omega), fun _ => ⟨rfl, rfl, rfl⟩⟩)
  · have ha_ : 0 ≤ a ∧ a < F 100 := by (rw [hq_5] at h_8; split at h_8 <;> omega)
    refine lv_iload_n hx hb zd_C_time_11 rfl (lv_at hl 2 rfl) ?_
    refine lv_iconst (v := iI (1)) hx hb zd_C_time_12 rfl ?_
    refine lv_bipush (v := iI (9)) hx hb zd_C_time_13 (by decide) ?_
    refine z_goi (z_runS (n := 3) (As := [.int (iI (t)), .int (iI (1)), .int (iI (9))]) (rest := []) S (c_C_isWithin l D q c _ F A t 1 9 (by first | assumption | omega | exact ⟨by omega, by omega⟩) (by first | assumption | omega | exact ⟨by omega, by omega⟩) (by first | assumption | omega | exact ⟨by omega, by omega⟩)) zw_202 zw_203 zw_1 zw_204 ⟨by decide +kernel, by decide, rfl, rfl⟩ rfl hK hP hD rfl hl.1 rfl (Nat.le_of_ble_eq_true rfl) zd_C_time_15 ⟨Nat.zero_le _, Nat.zero_le _⟩) hD hS hA (fun z_15 F_15 A_15 H locs hq_15 hP hD hS => ?_)
    obtain ⟨hf_15, ha_15, hq_15⟩ := hq_15
    rw [hf_15, ha_15] at hP hD
    have b15_ : z_15 = 0 ∨ z_15 = 1 := by rw [hq_15]; split <;> simp
    refine x_if_ne (tgt := 23) hx hb zd_C_time_18 (by decide) (⟨by omega, by omega⟩) (fun h_18 => ?_) (fun h_18 => ?_)
    · have ht_ : 1 ≤ t ∧ t ≤ 9 := by (rw [hq_15] at h_18; split at h_18 <;> omega)
      refine lv_aload_n hx hb zd_C_time_23 rfl (lv_at hl 0 rfl) ?_
      refine va_get (D := D) (ci := 0) (v := .ref (q 1)) (C := zR_C) (T := zT_C) (N := 4) hx hb hts zi_C hown hK.1 hP 0 ga_0 rfl 0 (by decide) (hts _ zw_185) (fun _ h9 => h9) rfl zd_C_time_24 ?_
      refine va_getN (D := D) (ci := 1) (v := .ref (q 6)) (C := zR_N) (T := zT_N) (N := 11) hx hb hts zi_N hown hK.1 hP 1 ga_1 rfl 3 (by decide) (zNW.use hK.2 zw_44) (fun _ h9 => h9) rfl zd_C_time_27 ?_
      refine lv_iload_n hx hb zd_C_time_30 rfl (lv_at hl 1 rfl) ?_
      refine lv_iload_n hx hb zd_C_time_31 rfl (lv_at hl 2 rfl) ?_
      refine x_iast hx hb hK.1 hP hD hS 6 0 ga_6 rfl (by decide) (by omega) (by omega) zd_C_time_32 (fun H locs hP hD hS => ?_)
      rw [gs_6] at hP hD
      refine lv_aload_n hx hb zd_C_time_33 rfl (lv_at hl 0 rfl) ?_
      refine z_gov (z_runV (n := 0) (k := 0) (ci := 0) (As := []) (rest := []) S (c_C_forgetAnswers l D q c _ F (auP A 6 a t) ) zw_206 zw_208 zs_1 zw_1 zw_209 ⟨by decide +kernel, by decide, rfl, rfl⟩ hK hP hD ga_0 rfl rfl rfl hl.1 rfl (Nat.le_of_ble_eq_true rfl) zd_C_time_34 ⟨Nat.zero_le _, Nat.zero_le _⟩) hD hS hA (fun F_34 A_34 H locs hq_34 hP hD hS => ?_)
      obtain ⟨hf_34, ha_34⟩ := hq_34
      rw [hf_34, ha_34] at hP hD
      refine lv_iconst (v := iI (1)) hx hb zd_C_time_37 rfl ?_
      exact ret _ _ _ _ _ _ _ zd_C_time_38 hP hD hS (by omega) (⟨fun _ => ⟨rfl, rfl, rfl⟩, fun h => absurd ⟨ha_, ht_⟩ h⟩)
    · refine lv_iconst (v := iI (0)) hx hb zd_C_time_21 rfl ?_
      exact ret _ _ _ _ _ _ _ zd_C_time_22 hP hD hS (by omega) (⟨fun h => by first | (rw [if_pos h.1] at hq_5; omega) | (rw [if_pos h.2] at hq_15; omega), fun _ => ⟨rfl, rfl, rfl⟩⟩)

abbrev zr_C_channel : Room := ({ frames := 4, cells := 0, slots := 0, locals := 106 } : Room)
set_option maxHeartbeats 4000000 in
set_option maxRecDepth 100000 in
theorem c_C_channel (l : Launch) (D : va_G) (q : Nat → Nat) (c : Nat → ClassId) (sz : Nat) (F : Nat → Int) (A : Nat → Int → Int) (a : Int) (b : Int) (x : Int) (y : Int) (t : Int) (ba : ib a) (bb : ib b) (bx : ib x) (by_ : ib y) (bt : ib t) (hn : 1 ≤ F 100 ∧ F 100 ≤ 8) (hc : 0 ≤ F 101 ∧ F 101 ≤ 14) (hact : ∀ a, 0 ≤ a → a < 8 → (1 ≤ A 7 a ∧ A 7 a ≤ 4782969) ∧ 0 ≤ A 8 a ∧ A 8 a < 8) (hch : ∀ k, 0 ≤ k → k < F 101 → (0 ≤ A 9 k ∧ A 9 k < F 100) ∧ (0 ≤ A 10 k ∧ A 10 k < F 100) ∧ (1 ≤ A 11 k ∧ A 11 k ≤ 9) ∧ (1 ≤ A 12 k ∧ A 12 k ≤ 9) ∧ 0 ≤ A 13 k ∧ A 13 k ≤ 99) (hu : ib (F 102)) : zMI l zy_C_channel zc_C_channel 6 (some .int) zr_C_channel D q c sz [.ref (q 0), .int (iI (a)), .int (iI (b)), .int (iI (x)), .int (iI (y)), .int (iI (t))] F A (fun z F1 A1 => (((0 ≤ a ∧ a < F 100) ∧ (0 ≤ b ∧ b < F 100) ∧ F 101 < 14 ∧ (1 ≤ x ∧ x ≤ 9) ∧ (1 ≤ y ∧ y ≤ 9) ∧ 0 ≤ t ∧ t ≤ 99) → z = F 101 ∧ addP (fuP (fuP F 200 0) 300 (-1)) A a b x y t F1 A1) ∧ (¬ ((0 ≤ a ∧ a < F 100) ∧ (0 ≤ b ∧ b < F 100) ∧ F 101 < 14 ∧ (1 ≤ x ∧ x ≤ 9) ∧ (1 ≤ y ∧ y ≤ 9) ∧ 0 ≤ t ∧ t ≤ 99) → z = -1 ∧ F1 = F ∧ A1 = A)) := by
  refine z_ofI (by decide) (Nat.le_of_ble_eq_true rfl) ?_
  intro p e s m args below meth c0 A0 Q C0 ret hP hD hS ls hl
  obtain ⟨S, hK, hA⟩ := C0
  have hx := S.1
  have hb := S.2.1
  have hown := S.2.2.2.1
  have hts : ∀ w ∈ zG, w.before args s = true := fun w h => S.2.2.2.2 w (List.mem_cons_of_mem _ h)
  have hl : lv_has ls 6 [(0, .ref (q 0)), (1, .int (iI (a))), (2, .int (iI (b))), (3, .int (iI (x))), (4, .int (iI (y))), (5, .int (iI (t)))] := hl
  refine lv_aload_n hx hb zd_C_channel_0 rfl (lv_at hl 0 rfl) ?_
  refine va_get (D := D) (ci := 0) (v := .ref (q 1)) (C := zR_C) (T := zT_C) (N := 4) hx hb hts zi_C hown hK.1 hP 0 ga_0 rfl 0 (by decide) (hts _ zw_185) (fun _ h9 => h9) rfl zd_C_channel_1 ?_
  refine lv_iload_n hx hb zd_C_channel_4 rfl (lv_at hl 1 rfl) ?_
  refine z_goi (z_runVN (n := 1) (k := 1) (ci := 1) (As := [.int (iI (a))]) (rest := []) S (c_N_hasActor l D q c _ F A a (by first | assumption | omega | exact ⟨by omega, by omega⟩) (by first | assumption | omega | exact ⟨by omega, by omega⟩)) zw_214 zw_216 zs_2 zw_2 zw_217 ⟨by decide +kernel, by decide, rfl, rfl⟩ hK hP hD ga_1 rfl rfl rfl hl.1 rfl (Nat.le_of_ble_eq_true rfl) zd_C_channel_5 ⟨Nat.zero_le _, Nat.zero_le _⟩) hD hS hA (fun z_5 F_5 A_5 H locs hq_5 hP hD hS => ?_)
  obtain ⟨hf_5, ha_5, hq_5⟩ := hq_5
  rw [hf_5, ha_5] at hP hD
  have b5_ : z_5 = 0 ∨ z_5 = 1 := by rw [hq_5]; split <;> simp
  refine x_if_eq (tgt := 34) hx hb zd_C_channel_8 (by decide) (⟨by omega, by omega⟩) (fun h_8 => ?_) (fun h_8 => ?_)
  · refine lv_iconst (v := iI (-1)) hx hb zd_C_channel_34 rfl ?_
    exact ret _ _ _ _ _ _ _ zd_C_channel_35 hP hD hS (⟨fun h => by first | (rw [if_pos h.1] at hq_5; omega) | (rw [if_pos h.2.1] at hq_16; omega) | omega, fun _ => ⟨rfl, rfl, rfl⟩⟩)
  · refine lv_aload_n hx hb zd_C_channel_11 rfl (lv_at hl 0 rfl) ?_
    refine va_get (D := D) (ci := 0) (v := .ref (q 1)) (C := zR_C) (T := zT_C) (N := 4) hx hb hts zi_C hown hK.1 hP 0 ga_0 rfl 0 (by decide) (hts _ zw_185) (fun _ h9 => h9) rfl zd_C_channel_12 ?_
    refine lv_iload_n hx hb zd_C_channel_15 rfl (lv_at hl 2 rfl) ?_
    refine z_goi (z_runVN (n := 1) (k := 1) (ci := 1) (As := [.int (iI (b))]) (rest := []) S (c_N_hasActor l D q c _ F A b (by first | assumption | omega | exact ⟨by omega, by omega⟩) (by first | assumption | omega | exact ⟨by omega, by omega⟩)) zw_214 zw_216 zs_2 zw_2 zw_217 ⟨by decide +kernel, by decide, rfl, rfl⟩ hK hP hD ga_1 rfl rfl rfl hl.1 rfl (Nat.le_of_ble_eq_true rfl) zd_C_channel_16 ⟨Nat.zero_le _, Nat.zero_le _⟩) hD hS hA (fun z_16 F_16 A_16 H locs hq_16 hP hD hS => ?_)
    obtain ⟨hf_16, ha_16, hq_16⟩ := hq_16
    rw [hf_16, ha_16] at hP hD
    have b16_ : z_16 = 0 ∨ z_16 = 1 := by rw [hq_16]; split <;> simp
    refine x_if_eq (tgt := 34) hx hb zd_C_channel_19 (by decide) (⟨by omega, by omega⟩) (fun h_19 => ?_) (fun h_19 => ?_)
    · refine lv_iconst (v := iI (-1)) hx hb zd_C_channel_34 rfl ?_
      exact ret _ _ _ _ _ _ _ zd_C_channel_35 hP hD hS (⟨fun h => by first | (rw [if_pos h.1] at hq_5; omega) | (rw [if_pos h.2.1] at hq_16; omega) | omega, fun _ => ⟨rfl, rfl, rfl⟩⟩)
    · refine lv_aload_n hx hb zd_C_channel_22 rfl (lv_at hl 0 rfl) ?_
      refine va_get (D := D) (ci := 0) (v := .ref (q 1)) (C := zR_C) (T := zT_C) (N := 4) hx hb hts zi_C hown hK.1 hP 0 ga_0 rfl 0 (by decide) (hts _ zw_185) (fun _ h9 => h9) rfl zd_C_channel_23 ?_
      refine va_getN (D := D) (ci := 1) (v := .int (iI (F 101))) (C := zR_N) (T := zT_N) (N := 11) hx hb hts zi_N hown hK.1 hP 1 ga_1 rfl 1 (by decide) (zNW.use hK.2 zw_39) (fun _ h9 => h9) rfl zd_C_channel_26 ?_
      refine lv_bipush (v := iI (14)) hx hb zd_C_channel_29 (by decide) ?_
      refine x_icmp_lt (tgt := 36) hx hb zd_C_channel_31 (by decide) (⟨by omega, by omega⟩) (⟨by omega, by omega⟩) (fun h_31 => ?_) (fun h_31 => ?_)
      · refine lv_iload_n hx hb zd_C_channel_36 rfl (lv_at hl 3 rfl) ?_
        refine lv_iconst (v := iI (1)) hx hb zd_C_channel_37 rfl ?_
        refine lv_bipush (v := iI (9)) hx hb zd_C_channel_38 (by decide) ?_
        refine z_goi (z_runS (n := 3) (As := [.int (iI (x)), .int (iI (1)), .int (iI (9))]) (rest := []) S (c_C_isWithin l D q c _ F A x 1 9 (by first | assumption | omega | exact ⟨by omega, by omega⟩) (by first | assumption | omega | exact ⟨by omega, by omega⟩) (by first | assumption | omega | exact ⟨by omega, by omega⟩)) zw_202 zw_203 zw_1 zw_204 ⟨by decide +kernel, by decide, rfl, rfl⟩ rfl hK hP hD rfl hl.1 rfl (Nat.le_of_ble_eq_true rfl) zd_C_channel_40 ⟨Nat.zero_le _, Nat.zero_le _⟩) hD hS hA (fun z_40 F_40 A_40 H locs hq_40 hP hD hS => ?_)
        obtain ⟨hf_40, ha_40, hq_40⟩ := hq_40
        rw [hf_40, ha_40] at hP hD
        have b40_ : z_40 = 0 ∨ z_40 = 1 := by rw [hq_40]; split <;> simp
        refine x_if_eq (tgt := 68) hx hb zd_C_channel_43 (by decide) (⟨by omega, by omega⟩) (fun h_43 => ?_) (fun h_43 => ?_)
        · refine lv_iconst (v := iI (-1)) hx hb zd_C_channel_68 rfl ?_
          exact ret _ _ _ _ _ _ _ zd_C_channel_69 hP hD hS (⟨fun h => by first | (rw [if_pos h.2.2.2.1] at hq_40; omega) | (rw [if_pos h.2.2.2.2.1] at hq_51; omega) | (rw [if_pos h.2.2.2.2.2] at hq_62; omega), fun _ => ⟨rfl, rfl, rfl⟩⟩)
        · refine lv_iload hx hb zd_C_channel_46 (lv_at hl 4 rfl) ?_
          refine lv_iconst (v := iI (1)) hx hb zd_C_channel_48 rfl ?_
          refine lv_bipush (v := iI (9)) hx hb zd_C_channel_49 (by decide) ?_
          refine z_goi (z_runS (n := 3) (As := [.int (iI (y)), .int (iI (1)), .int (iI (9))]) (rest := []) S (c_C_isWithin l D q c _ F A y 1 9 (by first | assumption | omega | exact ⟨by omega, by omega⟩) (by first | assumption | omega | exact ⟨by omega, by omega⟩) (by first | assumption | omega | exact ⟨by omega, by omega⟩)) zw_202 zw_203 zw_1 zw_204 ⟨by decide +kernel, by decide, rfl, rfl⟩ rfl hK hP hD rfl hl.1 rfl (Nat.le_of_ble_eq_true rfl) zd_C_channel_51 ⟨Nat.zero_le _, Nat.zero_le _⟩) hD hS hA (fun z_51 F_51 A_51 H locs hq_51 hP hD hS => ?_)
          obtain ⟨hf_51, ha_51, hq_51⟩ := hq_51
          rw [hf_51, ha_51] at hP hD
          have b51_ : z_51 = 0 ∨ z_51 = 1 := by rw [hq_51]; split <;> simp
          refine x_if_eq (tgt := 68) hx hb zd_C_channel_54 (by decide) (⟨by omega, by omega⟩) (fun h_54 => ?_) (fun h_54 => ?_)
          · refine lv_iconst (v := iI (-1)) hx hb zd_C_channel_68 rfl ?_
            exact ret _ _ _ _ _ _ _ zd_C_channel_69 hP hD hS (⟨fun h => by first | (rw [if_pos h.2.2.2.1] at hq_40; omega) | (rw [if_pos h.2.2.2.2.1] at hq_51; omega) | (rw [if_pos h.2.2.2.2.2] at hq_62; omega), fun _ => ⟨rfl, rfl, rfl⟩⟩)
          · refine lv_iload hx hb zd_C_channel_57 (lv_at hl 5 rfl) ?_
            refine lv_iconst (v := iI (0)) hx hb zd_C_channel_59 rfl ?_
            refine lv_bipush (v := iI (99)) hx hb zd_C_channel_60 (by decide) ?_
            refine z_goi (z_runS (n := 3) (As := [.int (iI (t)), .int (iI (0)), .int (iI (99))]) (rest := []) S (c_C_isWithin l D q c _ F A t 0 99 (by first | assumption | omega | exact ⟨by omega, by omega⟩) (by first | assumption | omega | exact ⟨by omega, by omega⟩) (by first | assumption | omega | exact ⟨by omega, by omega⟩)) zw_202 zw_203 zw_1 zw_204 ⟨by decide +kernel, by decide, rfl, rfl⟩ rfl hK hP hD rfl hl.1 rfl (Nat.le_of_ble_eq_true rfl) zd_C_channel_62 ⟨Nat.zero_le _, Nat.zero_le _⟩) hD hS hA (fun z_62 F_62 A_62 H locs hq_62 hP hD hS => ?_)
            obtain ⟨hf_62, ha_62, hq_62⟩ := hq_62
            rw [hf_62, ha_62] at hP hD
            have b62_ : z_62 = 0 ∨ z_62 = 1 := by rw [hq_62]; split <;> simp
            refine x_if_ne (tgt := 70) hx hb zd_C_channel_65 (by decide) (⟨by omega, by omega⟩) (fun h_65 => ?_) (fun h_65 => ?_)
            · have h1_ : 0 ≤ a ∧ a < F 100 := by (rw [hq_5] at h_8; split at h_8 <;> omega)
              have h2_ : 0 ≤ b ∧ b < F 100 := by (rw [hq_16] at h_19; split at h_19 <;> omega)
              have h3_ : 1 ≤ x ∧ x ≤ 9 := by (rw [hq_40] at h_43; split at h_43 <;> omega)
              have h4_ : 1 ≤ y ∧ y ≤ 9 := by (rw [hq_51] at h_54; split at h_54 <;> omega)
              have h5_ : 0 ≤ t ∧ t ≤ 99 := by (rw [hq_62] at h_65; split at h_65 <;> omega)
              refine lv_aload_n hx hb zd_C_channel_70 rfl (lv_at hl 0 rfl) ?_
              refine z_gov (z_runV (n := 0) (k := 0) (ci := 0) (As := []) (rest := []) S (c_C_forgetAnswers l D q c _ F A ) zw_206 zw_208 zs_1 zw_1 zw_209 ⟨by decide +kernel, by decide, rfl, rfl⟩ hK hP hD ga_0 rfl rfl rfl hl.1 rfl (Nat.le_of_ble_eq_true rfl) zd_C_channel_71 ⟨Nat.zero_le _, Nat.zero_le _⟩) hD hS hA (fun F_71 A_71 H locs hq_71 hP hD hS => ?_)
              obtain ⟨hf_71, ha_71⟩ := hq_71
              rw [hf_71, ha_71] at hP hD
              refine lv_aload_n hx hb zd_C_channel_74 rfl (lv_at hl 0 rfl) ?_
              refine va_get (D := D) (ci := 0) (v := .ref (q 1)) (C := zR_C) (T := zT_C) (N := 4) hx hb hts zi_C hown hK.1 hP 0 ga_0 rfl 0 (by decide) (hts _ zw_185) (fun _ h9 => h9) rfl zd_C_channel_75 ?_
              refine lv_iload_n hx hb zd_C_channel_78 rfl (lv_at hl 1 rfl) ?_
              refine lv_iload_n hx hb zd_C_channel_79 rfl (lv_at hl 2 rfl) ?_
              refine lv_iload_n hx hb zd_C_channel_80 rfl (lv_at hl 3 rfl) ?_
              refine lv_iload hx hb zd_C_channel_81 (lv_at hl 4 rfl) ?_
              refine lv_iload hx hb zd_C_channel_83 (lv_at hl 5 rfl) ?_
              refine z_goi (z_runVN (n := 5) (k := 1) (ci := 1) (As := [.int (iI (a)), .int (iI (b)), .int (iI (x)), .int (iI (y)), .int (iI (t))]) (rest := []) S (c_N_add l D q c _ (fuP (fuP F 200 0) 300 (-1)) A a b x y t (by simp [fuP]; omega) (by simp [fuP]; omega) (hact) (hch) (by simp [fuP]; omega) (hu) (by simp [fuP]; omega) (⟨h3_, h4_, h5_⟩)) zw_222 zw_224 zs_3 zw_2 zw_225 ⟨by decide +kernel, by decide, rfl, rfl⟩ hK hP hD ga_1 rfl rfl rfl hl.1 rfl (Nat.le_of_ble_eq_true rfl) zd_C_channel_85 ⟨Nat.zero_le _, Nat.zero_le _⟩) hD hS hA (fun z_85 F_85 A_85 H locs hq_85 hP hD hS => ?_)
              exact ret _ _ _ _ _ _ _ zd_C_channel_88 hP hD hS (⟨fun _ => hq_85, fun h => absurd ⟨h1_, h2_, by omega, h3_, h4_, h5_⟩ h⟩)
            · refine lv_iconst (v := iI (-1)) hx hb zd_C_channel_68 rfl ?_
              exact ret _ _ _ _ _ _ _ zd_C_channel_69 hP hD hS (⟨fun h => by first | (rw [if_pos h.2.2.2.1] at hq_40; omega) | (rw [if_pos h.2.2.2.2.1] at hq_51; omega) | (rw [if_pos h.2.2.2.2.2] at hq_62; omega), fun _ => ⟨rfl, rfl, rfl⟩⟩)
      · refine lv_iconst (v := iI (-1)) hx hb zd_C_channel_34 rfl ?_
        exact ret _ _ _ _ _ _ _ zd_C_channel_35 hP hD hS (⟨fun h => by first | (rw [if_pos h.1] at hq_5; omega) | (rw [if_pos h.2.1] at hq_16; omega) | omega, fun _ => ⟨rfl, rfl, rfl⟩⟩)

abbrev zr_C_left : Room := ({ frames := 4, cells := 0, slots := 0, locals := 95 } : Room)
set_option maxHeartbeats 4000000 in
set_option maxRecDepth 100000 in
theorem c_C_left (l : Launch) (D : va_G) (q : Nat → Nat) (c : Nat → ClassId) (sz : Nat) (F : Nat → Int) (A : Nat → Int → Int) (a : Int) (ba : ib a) (hn : 1 ≤ F 100 ∧ F 100 ≤ 8) (hc : 0 ≤ F 101 ∧ F 101 ≤ 14) (hact : ∀ a, 0 ≤ a → a < 8 → (1 ≤ A 7 a ∧ A 7 a ≤ 4782969) ∧ 0 ≤ A 8 a ∧ A 8 a < 8) (hch : ∀ k, 0 ≤ k → k < F 101 → (0 ≤ A 9 k ∧ A 9 k < F 100) ∧ (0 ≤ A 10 k ∧ A 10 k < F 100) ∧ (1 ≤ A 11 k ∧ A 11 k ≤ 9) ∧ (1 ≤ A 12 k ∧ A 12 k ≤ 9) ∧ 0 ≤ A 13 k ∧ A 13 k ≤ 99) (hkn : (F 200 = 0 ∨ F 200 = 1) ∧ (F 200 = 1 → RdOK F A)) (hu : ib (F 102)) : zMI l zy_C_left zc_C_left 2 (some .int) zr_C_left D q c sz [.ref (q 0), .int (iI (a))] F A (fun z F1 A1 => ((∀ j, j ≠ 200 → j ≠ 201 → F1 j = F j) ∧ (∀ k, k ≠ 14 → k ≠ 15 → k ≠ 16 → k ≠ 17 → A1 k = A k)) ∧ ((0 ≤ a ∧ a < F 100) ∧ F 102 = -1 ∧ sI (A 7) (F 100) ≤ 400 → F1 200 = 1 ∧ RdOK F1 A1 ∧ z = A1 15 a) ∧ (¬ ((0 ≤ a ∧ a < F 100) ∧ F 102 = -1 ∧ sI (A 7) (F 100) ≤ 400) → z = -1 ∧ F1 = F ∧ A1 = A)) := by
  refine z_ofI (by decide) (Nat.le_of_ble_eq_true rfl) ?_
  intro p e s m args below meth c0 A0 Q C0 ret hP hD hS ls hl
  obtain ⟨S, hK, hA⟩ := C0
  have hx := S.1
  have hb := S.2.1
  have hown := S.2.2.2.1
  have hts : ∀ w ∈ zG, w.before args s = true := fun w h => S.2.2.2.2 w (List.mem_cons_of_mem _ h)
  have hl : lv_has ls 2 [(0, .ref (q 0)), (1, .int (iI (a)))] := hl
  refine lv_aload_n hx hb zd_C_left_0 rfl (lv_at hl 0 rfl) ?_
  refine va_get (D := D) (ci := 0) (v := .ref (q 1)) (C := zR_C) (T := zT_C) (N := 4) hx hb hts zi_C hown hK.1 hP 0 ga_0 rfl 0 (by decide) (hts _ zw_185) (fun _ h9 => h9) rfl zd_C_left_1 ?_
  refine lv_iload_n hx hb zd_C_left_4 rfl (lv_at hl 1 rfl) ?_
  refine z_goi (z_runVN (n := 1) (k := 1) (ci := 1) (As := [.int (iI (a))]) (rest := []) S (c_N_hasActor l D q c _ F A a (by first | assumption | omega | exact ⟨by omega, by omega⟩) (by first | assumption | omega | exact ⟨by omega, by omega⟩)) zw_214 zw_216 zs_2 zw_2 zw_217 ⟨by decide +kernel, by decide, rfl, rfl⟩ hK hP hD ga_1 rfl rfl rfl hl.1 rfl (Nat.le_of_ble_eq_true rfl) zd_C_left_5 ⟨Nat.zero_le _, Nat.zero_le _⟩) hD hS hA (fun z_5 F_5 A_5 H locs hq_5 hP hD hS => ?_)
  obtain ⟨hf_5, ha_5, hq_5⟩ := hq_5
  rw [hf_5, ha_5] at hP hD
  have b5_ : z_5 = 0 ∨ z_5 = 1 := by rw [hq_5]; split <;> simp
  refine x_if_eq (tgt := 30) hx hb zd_C_left_8 (by decide) (⟨by omega, by omega⟩) (fun h_8 => ?_) (fun h_8 => ?_)
  · refine lv_iconst (v := iI (-1)) hx hb zd_C_left_30 rfl ?_
    exact ret _ _ _ _ _ _ _ zd_C_left_31 hP hD hS (by first | exact ⟨r3, fun _ => ⟨(r4 (by omega)).1, (r4 (by omega)).2, rfl⟩, fun h => absurd ⟨ha_, r2.mp (by omega)⟩ h⟩ | exact ⟨r3, fun h => absurd (r2.mpr h.2) (by omega), fun _ => ⟨rfl, (r5 h_15).1, (r5 h_15).2⟩⟩ | exact ⟨⟨fun _ _ _ => rfl, fun _ _ _ _ _ => rfl⟩, fun h => absurd (hq_5.trans (if_pos h.1)) (by omega), fun _ => ⟨rfl, rfl, rfl⟩⟩)
  · have ha_ : 0 ≤ a ∧ a < F 100 := by (rw [hq_5] at h_8; split at h_8 <;> omega)
    refine lv_aload_n hx hb zd_C_left_11 rfl (lv_at hl 0 rfl) ?_
    refine z_goi (z_runV (n := 0) (k := 0) (ci := 0) (As := []) (rest := []) S (c_C_findRound l D q c _ F A (by first | assumption | omega | exact ⟨by omega, by omega⟩) (by first | assumption | omega | exact ⟨by omega, by omega⟩) (by first | assumption | omega | exact ⟨by omega, by omega⟩) (by first | assumption | omega | exact ⟨by omega, by omega⟩) (by first | assumption | omega | exact ⟨by omega, by omega⟩) (by first | assumption | omega | exact ⟨by omega, by omega⟩)) zw_258 zw_260 zs_7 zw_1 zw_261 ⟨by decide +kernel, by decide, rfl, rfl⟩ hK hP hD ga_0 rfl rfl rfl hl.1 rfl (Nat.le_of_ble_eq_true rfl) zd_C_left_12 ⟨Nat.zero_le _, Nat.zero_le _⟩) hD hS hA (fun z_12 F_12 A_12 H locs hq_12 hP hD hS => ?_)
    obtain ⟨r1, r2, r3, r4, r5⟩ := hq_12
    refine x_if_eq (tgt := 30) hx hb zd_C_left_15 (by decide) (⟨by omega, by omega⟩) (fun h_15 => ?_) (fun h_15 => ?_)
    · refine lv_iconst (v := iI (-1)) hx hb zd_C_left_30 rfl ?_
      exact ret _ _ _ _ _ _ _ zd_C_left_31 hP hD hS (by first | exact ⟨r3, fun _ => ⟨(r4 (by omega)).1, (r4 (by omega)).2, rfl⟩, fun h => absurd ⟨ha_, r2.mp (by omega)⟩ h⟩ | exact ⟨r3, fun h => absurd (r2.mpr h.2) (by omega), fun _ => ⟨rfl, (r5 h_15).1, (r5 h_15).2⟩⟩ | exact ⟨⟨fun _ _ _ => rfl, fun _ _ _ _ _ => rfl⟩, fun h => absurd (hq_5.trans (if_pos h.1)) (by omega), fun _ => ⟨rfl, rfl, rfl⟩⟩)
    · refine lv_aload_n hx hb zd_C_left_18 rfl (lv_at hl 0 rfl) ?_
      refine va_get (D := D) (ci := 0) (v := .ref (q 2)) (C := zR_C) (T := zT_C) (N := 4) hx hb hts zi_C hown hK.1 hP 0 ga_0 rfl 1 (by decide) (hts _ zw_186) (fun _ h9 => h9) rfl zd_C_left_19 ?_
      refine va_getN (D := D) (ci := 2) (v := .ref (q 15)) (C := zR_U) (T := zT_U) (N := 6) hx hb hts zi_U hown hK.1 hP 2 ga_2 rfl 3 (by decide) (zNW.use hK.2 zw_107) (fun _ h9 => h9) rfl zd_C_left_22 ?_
      refine lv_iload_n hx hb zd_C_left_25 rfl (lv_at hl 1 rfl) ?_
      refine x_iald (v := A_12 15 a) hx hb hK.1 hP 15 0 ga_15 rfl (by decide) (by omega) (by omega) (rfl) zd_C_left_26 ?_
      refine lv_goto (tgt := 31) hx hb zd_C_left_27 (by decide) ?_
      exact ret _ _ _ _ _ _ _ zd_C_left_31 hP hD hS (by first | exact ⟨r3, fun _ => ⟨(r4 (by omega)).1, (r4 (by omega)).2, rfl⟩, fun h => absurd ⟨ha_, r2.mp (by omega)⟩ h⟩ | exact ⟨r3, fun h => absurd (r2.mpr h.2) (by omega), fun _ => ⟨rfl, (r5 h_15).1, (r5 h_15).2⟩⟩ | exact ⟨⟨fun _ _ _ => rfl, fun _ _ _ _ _ => rfl⟩, fun h => absurd (hq_5.trans (if_pos h.1)) (by omega), fun _ => ⟨rfl, rfl, rfl⟩⟩)

abbrev zr_C_peak : Room := ({ frames := 4, cells := 0, slots := 0, locals := 95 } : Room)
set_option maxHeartbeats 4000000 in
set_option maxRecDepth 100000 in
theorem c_C_peak (l : Launch) (D : va_G) (q : Nat → Nat) (c : Nat → ClassId) (sz : Nat) (F : Nat → Int) (A : Nat → Int → Int) (a : Int) (ba : ib a) (hn : 1 ≤ F 100 ∧ F 100 ≤ 8) (hc : 0 ≤ F 101 ∧ F 101 ≤ 14) (hact : ∀ a, 0 ≤ a → a < 8 → (1 ≤ A 7 a ∧ A 7 a ≤ 4782969) ∧ 0 ≤ A 8 a ∧ A 8 a < 8) (hch : ∀ k, 0 ≤ k → k < F 101 → (0 ≤ A 9 k ∧ A 9 k < F 100) ∧ (0 ≤ A 10 k ∧ A 10 k < F 100) ∧ (1 ≤ A 11 k ∧ A 11 k ≤ 9) ∧ (1 ≤ A 12 k ∧ A 12 k ≤ 9) ∧ 0 ≤ A 13 k ∧ A 13 k ≤ 99) (hkn : (F 200 = 0 ∨ F 200 = 1) ∧ (F 200 = 1 → RdOK F A)) (hu : ib (F 102)) : zMI l zy_C_peak zc_C_peak 2 (some .int) zr_C_peak D q c sz [.ref (q 0), .int (iI (a))] F A (fun z F1 A1 => ((∀ j, j ≠ 200 → j ≠ 201 → F1 j = F j) ∧ (∀ k, k ≠ 14 → k ≠ 15 → k ≠ 16 → k ≠ 17 → A1 k = A k)) ∧ ((0 ≤ a ∧ a < F 101) ∧ F 102 = -1 ∧ sI (A 7) (F 100) ≤ 400 → F1 200 = 1 ∧ RdOK F1 A1 ∧ z = A1 17 a) ∧ (¬ ((0 ≤ a ∧ a < F 101) ∧ F 102 = -1 ∧ sI (A 7) (F 100) ≤ 400) → z = -1 ∧ F1 = F ∧ A1 = A)) := by
  refine z_ofI (by decide) (Nat.le_of_ble_eq_true rfl) ?_
  intro p e s m args below meth c0 A0 Q C0 ret hP hD hS ls hl
  obtain ⟨S, hK, hA⟩ := C0
  have hx := S.1
  have hb := S.2.1
  have hown := S.2.2.2.1
  have hts : ∀ w ∈ zG, w.before args s = true := fun w h => S.2.2.2.2 w (List.mem_cons_of_mem _ h)
  have hl : lv_has ls 2 [(0, .ref (q 0)), (1, .int (iI (a)))] := hl
  refine lv_aload_n hx hb zd_C_peak_0 rfl (lv_at hl 0 rfl) ?_
  refine va_get (D := D) (ci := 0) (v := .ref (q 1)) (C := zR_C) (T := zT_C) (N := 4) hx hb hts zi_C hown hK.1 hP 0 ga_0 rfl 0 (by decide) (hts _ zw_185) (fun _ h9 => h9) rfl zd_C_peak_1 ?_
  refine lv_iload_n hx hb zd_C_peak_4 rfl (lv_at hl 1 rfl) ?_
  refine z_goi (z_runVN (n := 1) (k := 1) (ci := 1) (As := [.int (iI (a))]) (rest := []) S (c_N_hasChannel l D q c _ F A a (by first | assumption | omega | exact ⟨by omega, by omega⟩) (by first | assumption | omega | exact ⟨by omega, by omega⟩)) zw_295 zw_297 zs_15 zw_2 zw_298 ⟨by decide +kernel, by decide, rfl, rfl⟩ hK hP hD ga_1 rfl rfl rfl hl.1 rfl (Nat.le_of_ble_eq_true rfl) zd_C_peak_5 ⟨Nat.zero_le _, Nat.zero_le _⟩) hD hS hA (fun z_5 F_5 A_5 H locs hq_5 hP hD hS => ?_)
  obtain ⟨hf_5, ha_5, hq_5⟩ := hq_5
  rw [hf_5, ha_5] at hP hD
  have b5_ : z_5 = 0 ∨ z_5 = 1 := by rw [hq_5]; split <;> simp
  refine x_if_eq (tgt := 30) hx hb zd_C_peak_8 (by decide) (⟨by omega, by omega⟩) (fun h_8 => ?_) (fun h_8 => ?_)
  · refine lv_iconst (v := iI (-1)) hx hb zd_C_peak_30 rfl ?_
    exact ret _ _ _ _ _ _ _ zd_C_peak_31 hP hD hS (by first | exact ⟨r3, fun _ => ⟨(r4 (by omega)).1, (r4 (by omega)).2, rfl⟩, fun h => absurd ⟨ha_, r2.mp (by omega)⟩ h⟩ | exact ⟨r3, fun h => absurd (r2.mpr h.2) (by omega), fun _ => ⟨rfl, (r5 h_15).1, (r5 h_15).2⟩⟩ | exact ⟨⟨fun _ _ _ => rfl, fun _ _ _ _ _ => rfl⟩, fun h => absurd (hq_5.trans (if_pos h.1)) (by omega), fun _ => ⟨rfl, rfl, rfl⟩⟩)
  · have ha_ : 0 ≤ a ∧ a < F 101 := by (rw [hq_5] at h_8; split at h_8 <;> omega)
    refine lv_aload_n hx hb zd_C_peak_11 rfl (lv_at hl 0 rfl) ?_
    refine z_goi (z_runV (n := 0) (k := 0) (ci := 0) (As := []) (rest := []) S (c_C_findRound l D q c _ F A (by first | assumption | omega | exact ⟨by omega, by omega⟩) (by first | assumption | omega | exact ⟨by omega, by omega⟩) (by first | assumption | omega | exact ⟨by omega, by omega⟩) (by first | assumption | omega | exact ⟨by omega, by omega⟩) (by first | assumption | omega | exact ⟨by omega, by omega⟩) (by first | assumption | omega | exact ⟨by omega, by omega⟩)) zw_258 zw_260 zs_7 zw_1 zw_261 ⟨by decide +kernel, by decide, rfl, rfl⟩ hK hP hD ga_0 rfl rfl rfl hl.1 rfl (Nat.le_of_ble_eq_true rfl) zd_C_peak_12 ⟨Nat.zero_le _, Nat.zero_le _⟩) hD hS hA (fun z_12 F_12 A_12 H locs hq_12 hP hD hS => ?_)
    obtain ⟨r1, r2, r3, r4, r5⟩ := hq_12
    refine x_if_eq (tgt := 30) hx hb zd_C_peak_15 (by decide) (⟨by omega, by omega⟩) (fun h_15 => ?_) (fun h_15 => ?_)
    · refine lv_iconst (v := iI (-1)) hx hb zd_C_peak_30 rfl ?_
      exact ret _ _ _ _ _ _ _ zd_C_peak_31 hP hD hS (by first | exact ⟨r3, fun _ => ⟨(r4 (by omega)).1, (r4 (by omega)).2, rfl⟩, fun h => absurd ⟨ha_, r2.mp (by omega)⟩ h⟩ | exact ⟨r3, fun h => absurd (r2.mpr h.2) (by omega), fun _ => ⟨rfl, (r5 h_15).1, (r5 h_15).2⟩⟩ | exact ⟨⟨fun _ _ _ => rfl, fun _ _ _ _ _ => rfl⟩, fun h => absurd (hq_5.trans (if_pos h.1)) (by omega), fun _ => ⟨rfl, rfl, rfl⟩⟩)
    · refine lv_aload_n hx hb zd_C_peak_18 rfl (lv_at hl 0 rfl) ?_
      refine va_get (D := D) (ci := 0) (v := .ref (q 2)) (C := zR_C) (T := zT_C) (N := 4) hx hb hts zi_C hown hK.1 hP 0 ga_0 rfl 1 (by decide) (hts _ zw_186) (fun _ h9 => h9) rfl zd_C_peak_19 ?_
      refine va_getN (D := D) (ci := 2) (v := .ref (q 17)) (C := zR_U) (T := zT_U) (N := 6) hx hb hts zi_U hown hK.1 hP 2 ga_2 rfl 5 (by decide) (zNW.use hK.2 zw_110) (fun _ h9 => h9) rfl zd_C_peak_22 ?_
      refine lv_iload_n hx hb zd_C_peak_25 rfl (lv_at hl 1 rfl) ?_
      refine x_iald (v := A_12 17 a) hx hb hK.1 hP 17 0 ga_17 rfl (by decide) (by omega) (by omega) (rfl) zd_C_peak_26 ?_
      refine lv_goto (tgt := 31) hx hb zd_C_peak_27 (by decide) ?_
      exact ret _ _ _ _ _ _ _ zd_C_peak_31 hP hD hS (by first | exact ⟨r3, fun _ => ⟨(r4 (by omega)).1, (r4 (by omega)).2, rfl⟩, fun h => absurd ⟨ha_, r2.mp (by omega)⟩ h⟩ | exact ⟨r3, fun h => absurd (r2.mpr h.2) (by omega), fun _ => ⟨rfl, (r5 h_15).1, (r5 h_15).2⟩⟩ | exact ⟨⟨fun _ _ _ => rfl, fun _ _ _ _ _ => rfl⟩, fun h => absurd (hq_5.trans (if_pos h.1)) (by omega), fun _ => ⟨rfl, rfl, rfl⟩⟩)

abbrev zr_C_total : Room := ({ frames := 4, cells := 0, slots := 0, locals := 95 } : Room)
set_option maxHeartbeats 4000000 in
set_option maxRecDepth 100000 in
theorem c_C_total (l : Launch) (D : va_G) (q : Nat → Nat) (c : Nat → ClassId) (sz : Nat) (F : Nat → Int) (A : Nat → Int → Int) (w : Int) (bw : ib w) (hn : 1 ≤ F 100 ∧ F 100 ≤ 8) (hc : 0 ≤ F 101 ∧ F 101 ≤ 14) (hact : ∀ a, 0 ≤ a → a < 8 → (1 ≤ A 7 a ∧ A 7 a ≤ 4782969) ∧ 0 ≤ A 8 a ∧ A 8 a < 8) (hch : ∀ k, 0 ≤ k → k < F 101 → (0 ≤ A 9 k ∧ A 9 k < F 100) ∧ (0 ≤ A 10 k ∧ A 10 k < F 100) ∧ (1 ≤ A 11 k ∧ A 11 k ≤ 9) ∧ (1 ≤ A 12 k ∧ A 12 k ≤ 9) ∧ 0 ≤ A 13 k ∧ A 13 k ≤ 99) (hkn : (F 200 = 0 ∨ F 200 = 1) ∧ (F 200 = 1 → RdOK F A)) (hu : ib (F 102)) : zMI l zy_C_total zc_C_total 2 (some .int) zr_C_total D q c sz [.ref (q 0), .int (iI (w))] F A (fun z F1 A1 => ((∀ j, j ≠ 200 → j ≠ 201 → F1 j = F j) ∧ (∀ k, k ≠ 14 → k ≠ 15 → k ≠ 16 → k ≠ 17 → A1 k = A k)) ∧ (w ≠ 3 → F1 = F ∧ A1 = A) ∧ (w = 0 → z = F 100) ∧ (w = 1 → z = F 101) ∧ (w = 2 → z = sI (fun a => if A 8 a = a then 1 else 0) (F 100)) ∧ (w = 3 → (F 102 = -1 ∧ sI (A 7) (F 100) ≤ 400 → F1 200 = 1 ∧ RdOK F1 A1 ∧ z = F1 201) ∧ (¬ (F 102 = -1 ∧ sI (A 7) (F 100) ≤ 400) → z = 0 ∧ F1 = F ∧ A1 = A)) ∧ (w < 0 ∨ 3 < w → z = -1)) := by
  refine z_ofI (by decide) (Nat.le_of_ble_eq_true rfl) ?_
  intro p e s m args below meth c0 A0 Q C0 ret hP hD hS ls hl
  obtain ⟨S, hK, hA⟩ := C0
  have hx := S.1
  have hb := S.2.1
  have hown := S.2.2.2.1
  have hts : ∀ w ∈ zG, w.before args s = true := fun w h => S.2.2.2.2 w (List.mem_cons_of_mem _ h)
  have hl : lv_has ls 2 [(0, .ref (q 0)), (1, .int (iI (w)))] := hl
  refine lv_iload_n hx hb zd_C_total_0 rfl (lv_at hl 1 rfl) ?_
  by_cases hs_1_0 : w = 0
  · refine x_tabIn (k := 0) (off := 31) (tgt := 32) hx hb zd_C_total_1 hs_1_0 (by decide) (by decide) (by decide) rfl (by decide) ?_
    refine lv_aload_n hx hb zd_C_total_32 rfl (lv_at hl 0 rfl) ?_
    refine va_get (D := D) (ci := 0) (v := .ref (q 1)) (C := zR_C) (T := zT_C) (N := 4) hx hb hts zi_C hown hK.1 hP 0 ga_0 rfl 0 (by decide) (hts _ zw_185) (fun _ h9 => h9) rfl zd_C_total_33 ?_
    refine va_getN (D := D) (ci := 1) (v := .int (iI (F 100))) (C := zR_N) (T := zT_N) (N := 11) hx hb hts zi_N hown hK.1 hP 1 ga_1 rfl 0 (by decide) (zNW.use hK.2 zw_36) (fun _ h9 => h9) rfl zd_C_total_36 ?_
    exact ret _ _ _ _ _ _ _ zd_C_total_39 hP hD hS (⟨⟨fun _ _ _ => rfl, fun _ _ _ _ _ => rfl⟩, fun _ => ⟨rfl, rfl⟩, fun _ => rfl, fun h => by omega, fun h => by omega, fun h => by omega, fun h => by omega⟩)
  by_cases hs_1_1 : w = 1
  · refine x_tabIn (k := 1) (off := 39) (tgt := 40) hx hb zd_C_total_1 hs_1_1 (by decide) (by decide) (by decide) rfl (by decide) ?_
    refine lv_aload_n hx hb zd_C_total_40 rfl (lv_at hl 0 rfl) ?_
    refine va_get (D := D) (ci := 0) (v := .ref (q 1)) (C := zR_C) (T := zT_C) (N := 4) hx hb hts zi_C hown hK.1 hP 0 ga_0 rfl 0 (by decide) (hts _ zw_185) (fun _ h9 => h9) rfl zd_C_total_41 ?_
    refine va_getN (D := D) (ci := 1) (v := .int (iI (F 101))) (C := zR_N) (T := zT_N) (N := 11) hx hb hts zi_N hown hK.1 hP 1 ga_1 rfl 1 (by decide) (zNW.use hK.2 zw_39) (fun _ h9 => h9) rfl zd_C_total_44 ?_
    exact ret _ _ _ _ _ _ _ zd_C_total_47 hP hD hS (⟨⟨fun _ _ _ => rfl, fun _ _ _ _ _ => rfl⟩, fun _ => ⟨rfl, rfl⟩, fun h => by omega, fun _ => rfl, fun h => by omega, fun h => by omega, fun h => by omega⟩)
  by_cases hs_1_2 : w = 2
  · refine x_tabIn (k := 2) (off := 47) (tgt := 48) hx hb zd_C_total_1 hs_1_2 (by decide) (by decide) (by decide) rfl (by decide) ?_
    refine lv_aload_n hx hb zd_C_total_48 rfl (lv_at hl 0 rfl) ?_
    refine va_get (D := D) (ci := 0) (v := .ref (q 1)) (C := zR_C) (T := zT_C) (N := 4) hx hb hts zi_C hown hK.1 hP 0 ga_0 rfl 0 (by decide) (hts _ zw_185) (fun _ h9 => h9) rfl zd_C_total_49 ?_
    refine z_goi (z_runVN (n := 0) (k := 1) (ci := 1) (As := []) (rest := []) S (c_N_parts l D q c _ F A (by first | assumption | omega | exact ⟨by omega, by omega⟩) (by first | assumption | omega | exact ⟨by omega, by omega⟩) (by first | assumption | omega | exact ⟨by omega, by omega⟩)) zw_323 zw_325 zs_19 zw_2 zw_326 ⟨by decide +kernel, by decide, rfl, rfl⟩ hK hP hD ga_1 rfl rfl rfl hl.1 rfl (Nat.le_of_ble_eq_true rfl) zd_C_total_52 ⟨Nat.zero_le _, Nat.zero_le _⟩) hD hS hA (fun z_52 F_52 A_52 H locs hq_52 hP hD hS => ?_)
    obtain ⟨hf_52, ha_52, hq_52⟩ := hq_52
    rw [hf_52, ha_52] at hP hD
    exact ret _ _ _ _ _ _ _ zd_C_total_55 hP hD hS (⟨⟨fun _ _ _ => rfl, fun _ _ _ _ _ => rfl⟩, fun _ => ⟨rfl, rfl⟩, fun h => by omega, fun h => by omega, fun _ => hq_52, fun h => by omega, fun h => by omega⟩)
  by_cases hs_1_3 : w = 3
  · refine x_tabIn (k := 3) (off := 55) (tgt := 56) hx hb zd_C_total_1 hs_1_3 (by decide) (by decide) (by decide) rfl (by decide) ?_
    refine lv_aload_n hx hb zd_C_total_56 rfl (lv_at hl 0 rfl) ?_
    refine z_goi (z_runV (n := 0) (k := 0) (ci := 0) (As := []) (rest := []) S (c_C_findRound l D q c _ F A (by first | assumption | omega | exact ⟨by omega, by omega⟩) (by first | assumption | omega | exact ⟨by omega, by omega⟩) (by first | assumption | omega | exact ⟨by omega, by omega⟩) (by first | assumption | omega | exact ⟨by omega, by omega⟩) (by first | assumption | omega | exact ⟨by omega, by omega⟩) (by first | assumption | omega | exact ⟨by omega, by omega⟩)) zw_258 zw_260 zs_7 zw_1 zw_261 ⟨by decide +kernel, by decide, rfl, rfl⟩ hK hP hD ga_0 rfl rfl rfl hl.1 rfl (Nat.le_of_ble_eq_true rfl) zd_C_total_57 ⟨Nat.zero_le _, Nat.zero_le _⟩) hD hS hA (fun z_57 F_57 A_57 H locs hq_57 hP hD hS => ?_)
    obtain ⟨r1, r2, r3, r4, r5⟩ := hq_57
    refine x_if_eq (tgt := 73) hx hb zd_C_total_60 (by decide) (⟨by omega, by omega⟩) (fun h_60 => ?_) (fun h_60 => ?_)
    · refine lv_iconst (v := iI (0)) hx hb zd_C_total_73 rfl ?_
      exact ret _ _ _ _ _ _ _ zd_C_total_74 hP hD hS (by first | exact ⟨r3, fun h => absurd hs_1_3 h, fun h => by omega, fun h => by omega, fun h => by omega, fun _ => ⟨fun _ => ⟨(r4 (by omega)).1, (r4 (by omega)).2, rfl⟩, fun h => absurd (r2.mp (by omega)) h⟩, fun h => by omega⟩ | exact ⟨r3, fun h => absurd hs_1_3 h, fun h => by omega, fun h => by omega, fun h => by omega, fun _ => ⟨fun h => absurd (r2.mpr h) (by omega), fun _ => ⟨rfl, (r5 h_60).1, (r5 h_60).2⟩⟩, fun h => by omega⟩)
    · refine lv_aload_n hx hb zd_C_total_63 rfl (lv_at hl 0 rfl) ?_
      refine va_get (D := D) (ci := 0) (v := .ref (q 2)) (C := zR_C) (T := zT_C) (N := 4) hx hb hts zi_C hown hK.1 hP 0 ga_0 rfl 1 (by decide) (hts _ zw_186) (fun _ h9 => h9) rfl zd_C_total_64 ?_
      refine va_getN (D := D) (ci := 2) (v := .int (iI (F_57 201))) (C := zR_U) (T := zT_U) (N := 6) hx hb hts zi_U hown hK.1 hP 2 ga_2 rfl 1 (by decide) (zNW.use hK.2 zw_103) (fun _ h9 => h9) rfl zd_C_total_67 ?_
      refine lv_goto (tgt := 74) hx hb zd_C_total_70 (by decide) ?_
      exact ret _ _ _ _ _ _ _ zd_C_total_74 hP hD hS (by first | exact ⟨r3, fun h => absurd hs_1_3 h, fun h => by omega, fun h => by omega, fun h => by omega, fun _ => ⟨fun _ => ⟨(r4 (by omega)).1, (r4 (by omega)).2, rfl⟩, fun h => absurd (r2.mp (by omega)) h⟩, fun h => by omega⟩ | exact ⟨r3, fun h => absurd hs_1_3 h, fun h => by omega, fun h => by omega, fun h => by omega, fun _ => ⟨fun h => absurd (r2.mpr h) (by omega), fun _ => ⟨rfl, (r5 h_60).1, (r5 h_60).2⟩⟩, fun h => by omega⟩)
  refine x_tabOut (tgt := 75) hx hb zd_C_total_1 (⟨by omega, by omega⟩) (by omega) (by decide) ?_
  refine lv_iconst (v := iI (-1)) hx hb zd_C_total_75 rfl ?_
  exact ret _ _ _ _ _ _ _ zd_C_total_76 hP hD hS (⟨⟨fun _ _ _ => rfl, fun _ _ _ _ _ => rfl⟩, fun _ => ⟨rfl, rfl⟩, fun h => by omega, fun h => by omega, fun h => by omega, fun h => by omega, fun _ => rfl⟩)
end
section
/-! Edges as a set -/
def EIn (E : Int) (x y z : Int → Int) (u v w : Int) : Prop := ∃ e, 0 ≤ e ∧ e < E ∧ x e = u ∧ y e = v ∧ z e = w
theorem EIn_add {E : Int} {x y z : Int → Int} {s t r : Int} (hE : 0 ≤ E) (u v w : Int) : EIn (E + 1) (upI x E s) (upI y E t) (upI z E r) u v w ↔ EIn E x y z u v w ∨ (u = s ∧ v = t ∧ w = r) := by
  constructor
  · rintro ⟨e, h0, h1, h2, h3, h4⟩
    by_cases he : e = E
    · subst he
      rw [upI_s] at h2 h3 h4
      exact Or.inr ⟨h2.symm, h3.symm, h4.symm⟩
    · rw [upI_n he] at h2 h3 h4
      exact Or.inl ⟨e, h0, by omega, h2, h3, h4⟩
  · rintro (⟨e, h0, h1, h2, h3, h4⟩ | ⟨h1, h2, h3⟩)
    · have he : e ≠ E := by omega
      exact ⟨e, h0, by omega, by rw [upI_n he]; exact h2, by rw [upI_n he]; exact h3, by rw [upI_n he]; exact h4⟩
    · exact ⟨E, hE, by omega, by rw [upI_s]; exact h1.symm, by rw [upI_s]; exact h2.symm, by rw [upI_s]; exact h3.symm⟩
/-- the weight of an edge of the class -/
def cw (F : Nat → Int) (A : Nat → Int → Int) (e : Int) : Int := A 19 (A 20 e) * F 302 - A 22 e * F 301
theorem bnd0 {x y X Y : Int} (hx : 0 ≤ x ∧ x ≤ X) (hy : 0 ≤ y ∧ y ≤ Y) : 0 ≤ x * y ∧ x * y ≤ X * Y := ⟨Int.mul_nonneg hx.1 hy.1, Int.mul_le_mul hx.2 hy.2 hy.1 (by omega)⟩
section RA
variable {ef et w : Int → Int} {S T : (Int → Int) × (Int → Int)} {i r : Int}
theorem ra_toNat (h : 0 ≤ i) : (i + 1).toNat = i.toNat + 1 := by omega
theorem px_pass_s (h : 0 ≤ i) : px_pass ef et w S (i + 1).toNat = px_step ef et w (px_pass ef et w S i.toNat) i := by
  rw [ra_toNat h]
  show px_step ef et w (px_pass ef et w S i.toNat) (i.toNat : Int) = _
  rw [show ((i.toNat : Nat) : Int) = i by omega]
theorem px_rai_s (h : 0 ≤ i) : px_rai ef et w S (i + 1).toNat = (px_rai ef et w S i.toNat || decide ((px_pass ef et w S i.toNat).1 (et i) < (px_pass ef et w S i.toNat).1 (ef i) + w i)) := by
  rw [ra_toNat h]
  show (px_rai ef et w S i.toNat || decide ((px_pass ef et w S i.toNat).1 (et (i.toNat : Int)) < (px_pass ef et w S i.toNat).1 (ef (i.toNat : Int)) + w (i.toNat : Int))) = _
  rw [show ((i.toNat : Nat) : Int) = i by omega]
end RA
section RB
variable {F : Nat → Int} {A A4 : Nat → Int → Int} {i r : Int}
theorem ra_y (hp : (A4 23, A4 24) = px_pass (A 20) (A 21) (cw F A) (A 23, A 24) i.toNat) (hi : 0 ≤ i) (h : ¬ A4 23 (A 20 i) + A 19 (A 20 i) * F 302 - A 22 i * F 301 ≤ A4 23 (A 21 i)) :
    (upI (A4 23) (A 21 i) (A4 23 (A 20 i) + A 19 (A 20 i) * F 302 - A 22 i * F 301), upI (A4 24) (A 21 i) i) = px_pass (A 20) (A 21) (cw F A) (A 23, A 24) (i + 1).toNat := by
  rw [px_pass_s hi, ← hp]
  unfold px_step cw
  rw [if_pos (by show A4 23 (A 21 i) < A4 23 (A 20 i) + _; omega)]
  show _ = (upI (A4 23) (A 21 i) (A4 23 (A 20 i) + (A 19 (A 20 i) * F 302 - A 22 i * F 301)), upI (A4 24) (A 21 i) i)
  rw [show A4 23 (A 20 i) + (A 19 (A 20 i) * F 302 - A 22 i * F 301) = A4 23 (A 20 i) + A 19 (A 20 i) * F 302 - A 22 i * F 301 by omega]
theorem ra_n (hp : (A4 23, A4 24) = px_pass (A 20) (A 21) (cw F A) (A 23, A 24) i.toNat) (hi : 0 ≤ i) (h : A4 23 (A 20 i) + A 19 (A 20 i) * F 302 - A 22 i * F 301 ≤ A4 23 (A 21 i)) :
    (A4 23, A4 24) = px_pass (A 20) (A 21) (cw F A) (A 23, A 24) (i + 1).toNat := by
  rw [px_pass_s hi, ← hp]
  unfold px_step cw
  rw [if_neg (by show ¬ A4 23 (A 21 i) < A4 23 (A 20 i) + _; omega)]
theorem rr_y (hp : (A4 23, A4 24) = px_pass (A 20) (A 21) (cw F A) (A 23, A 24) i.toNat) (hi : 0 ≤ i) (h : ¬ A4 23 (A 20 i) + A 19 (A 20 i) * F 302 - A 22 i * F 301 ≤ A4 23 (A 21 i)) :
    (1 : Int) = if px_rai (A 20) (A 21) (cw F A) (A 23, A 24) (i + 1).toNat = true then 1 else 0 := by
  rw [px_rai_s hi, ← hp, if_pos]
  simp only [Bool.or_eq_true, decide_eq_true_eq]
  right
  show A4 23 (A 21 i) < A4 23 (A 20 i) + cw F A i
  unfold cw
  omega
theorem rr_n (hp : (A4 23, A4 24) = px_pass (A 20) (A 21) (cw F A) (A 23, A 24) i.toNat) (hr : r = if px_rai (A 20) (A 21) (cw F A) (A 23, A 24) i.toNat = true then 1 else 0) (hi : 0 ≤ i) (h : A4 23 (A 20 i) + A 19 (A 20 i) * F 302 - A 22 i * F 301 ≤ A4 23 (A 21 i)) :
    r = if px_rai (A 20) (A 21) (cw F A) (A 23, A 24) (i + 1).toNat = true then 1 else 0 := by
  rw [px_rai_s hi, ← hp, hr]
  have e : decide (A4 23 (A 21 i) < A4 23 (A 20 i) + cw F A i) = false := by
    rw [decide_eq_false_iff_not]; unfold cw; omega
  show _ = if (px_rai (A 20) (A 21) (cw F A) (A 23, A 24) i.toNat || decide (A4 23 (A 21 i) < A4 23 (A 20 i) + cw F A i)) = true then 1 else 0
  rw [e, Bool.or_false]
end RB
abbrev zr_P_addEdge : Room := ({ frames := 0, cells := 0, slots := 0, locals := 0 } : Room)
set_option maxHeartbeats 4000000 in
set_option maxRecDepth 100000 in
theorem c_P_addEdge (l : Launch) (D : va_G) (q : Nat → Nat) (c : Nat → ClassId) (sz : Nat) (F : Nat → Int) (A : Nat → Int → Int) (s1 : Int) (t1 : Int) (r1 : Int) (hE : 0 ≤ F 304 ∧ F 304 < 600) (hs1 : 0 ≤ s1 ∧ s1 < 40) (ht1 : 0 ≤ t1 ∧ t1 < 40) : zMV l zy_P_addEdge zc_P_addEdge 4 none zr_P_addEdge D q c sz [.ref (q 3), .int (iI (s1)), .int (iI (t1)), .int (iI (r1))] F A (fun F1 A1 => F1 = fuP F 304 (F 304 + 1) ∧ A1 = auP (auP (auP A 20 (F 304) s1) 21 (F 304) t1) 22 (F 304) r1) := by
  refine z_ofV (by decide) (Nat.le_of_ble_eq_true rfl) ?_
  intro p e s m args below meth c0 A0 Q C0 ret hP hD hS ls hl
  obtain ⟨S, hK, hA⟩ := C0
  have hx := S.1
  have hb := S.2.1
  have hown := S.2.2.2.1
  have hts : ∀ w ∈ zG, w.before args s = true := fun w h => S.2.2.2.2 w (List.mem_cons_of_mem _ h)
  have hl : lv_has ls 4 [(0, .ref (q 3)), (1, .int (iI (s1))), (2, .int (iI (t1))), (3, .int (iI (r1)))] := hl
  refine lv_aload_n hx hb zd_P_addEdge_0 rfl (lv_at hl 0 rfl) ?_
  refine va_get (D := D) (ci := 3) (v := .int (iI (F 304))) (C := zR_P) (T := zT_P) (N := 13) hx hb hts zi_P hown hK.1 hP 3 ga_3 rfl 4 (by decide) (hts _ zw_137) (fun _ h9 => h9) rfl zd_P_addEdge_1 ?_
  refine lv_sipush (v := iI (600)) hx hb zd_P_addEdge_4 (by decide) ?_
  refine x_icmp_ge (tgt := 62) hx hb zd_P_addEdge_7 (by decide) (⟨by omega, by omega⟩) (⟨by omega, by omega⟩) (fun h_7 => ?_) (fun h_7 => ?_)
  · omega
  · refine lv_iload_n hx hb zd_P_addEdge_10 rfl (lv_at hl 1 rfl) ?_
    refine lv_bipush (v := iI (40)) hx hb zd_P_addEdge_11 (by decide) ?_
    refine x_icmp_ge (tgt := 62) hx hb zd_P_addEdge_13 (by decide) (⟨by omega, by omega⟩) (⟨by omega, by omega⟩) (fun h_13 => ?_) (fun h_13 => ?_)
    · omega
    · refine lv_iload_n hx hb zd_P_addEdge_16 rfl (lv_at hl 2 rfl) ?_
      refine lv_bipush (v := iI (40)) hx hb zd_P_addEdge_17 (by decide) ?_
      refine x_icmp_ge (tgt := 62) hx hb zd_P_addEdge_19 (by decide) (⟨by omega, by omega⟩) (⟨by omega, by omega⟩) (fun h_19 => ?_) (fun h_19 => ?_)
      · omega
      · refine lv_aload_n hx hb zd_P_addEdge_22 rfl (lv_at hl 0 rfl) ?_
        refine va_get (D := D) (ci := 3) (v := .ref (q 20)) (C := zR_P) (T := zT_P) (N := 13) hx hb hts zi_P hown hK.1 hP 3 ga_3 rfl 7 (by decide) (hts _ zw_140) (fun _ h9 => h9) rfl zd_P_addEdge_23 ?_
        refine lv_aload_n hx hb zd_P_addEdge_26 rfl (lv_at hl 0 rfl) ?_
        refine va_get (D := D) (ci := 3) (v := .int (iI (F 304))) (C := zR_P) (T := zT_P) (N := 13) hx hb hts zi_P hown hK.1 hP 3 ga_3 rfl 4 (by decide) (hts _ zw_137) (fun _ h9 => h9) rfl zd_P_addEdge_27 ?_
        refine lv_iload_n hx hb zd_P_addEdge_30 rfl (lv_at hl 1 rfl) ?_
        refine x_iast hx hb hK.1 hP hD hS 20 0 ga_20 rfl (by decide) (by omega) (by omega) zd_P_addEdge_31 (fun H locs hP hD hS => ?_)
        rw [gs_20] at hP hD
        refine lv_aload_n hx hb zd_P_addEdge_32 rfl (lv_at hl 0 rfl) ?_
        refine va_get (D := D) (ci := 3) (v := .ref (q 21)) (C := zR_P) (T := zT_P) (N := 13) hx hb hts zi_P hown hK.1 hP 3 ga_3 rfl 8 (by decide) (hts _ zw_141) (fun _ h9 => h9) rfl zd_P_addEdge_33 ?_
        refine lv_aload_n hx hb zd_P_addEdge_36 rfl (lv_at hl 0 rfl) ?_
        refine va_get (D := D) (ci := 3) (v := .int (iI (F 304))) (C := zR_P) (T := zT_P) (N := 13) hx hb hts zi_P hown hK.1 hP 3 ga_3 rfl 4 (by decide) (hts _ zw_137) (fun _ h9 => h9) rfl zd_P_addEdge_37 ?_
        refine lv_iload_n hx hb zd_P_addEdge_40 rfl (lv_at hl 2 rfl) ?_
        refine x_iast hx hb hK.1 hP hD hS 21 0 ga_21 rfl (by decide) (by omega) (by omega) zd_P_addEdge_41 (fun H locs hP hD hS => ?_)
        rw [gs_21] at hP hD
        refine lv_aload_n hx hb zd_P_addEdge_42 rfl (lv_at hl 0 rfl) ?_
        refine va_get (D := D) (ci := 3) (v := .ref (q 22)) (C := zR_P) (T := zT_P) (N := 13) hx hb hts zi_P hown hK.1 hP 3 ga_3 rfl 9 (by decide) (hts _ zw_142) (fun _ h9 => h9) rfl zd_P_addEdge_43 ?_
        refine lv_aload_n hx hb zd_P_addEdge_46 rfl (lv_at hl 0 rfl) ?_
        refine va_get (D := D) (ci := 3) (v := .int (iI (F 304))) (C := zR_P) (T := zT_P) (N := 13) hx hb hts zi_P hown hK.1 hP 3 ga_3 rfl 4 (by decide) (hts _ zw_137) (fun _ h9 => h9) rfl zd_P_addEdge_47 ?_
        refine lv_iload_n hx hb zd_P_addEdge_50 rfl (lv_at hl 3 rfl) ?_
        refine x_iast hx hb hK.1 hP hD hS 22 0 ga_22 rfl (by decide) (by omega) (by omega) zd_P_addEdge_51 (fun H locs hP hD hS => ?_)
        rw [gs_22] at hP hD
        refine lv_aload_n hx hb zd_P_addEdge_52 rfl (lv_at hl 0 rfl) ?_
        refine lv_dup hx hb zd_P_addEdge_53 rfl ?_
        refine va_get (D := D) (ci := 3) (v := .int (iI (F 304))) (C := zR_P) (T := zT_P) (N := 13) hx hb hts zi_P hown hK.1 hP 3 ga_3 rfl 4 (by decide) (hts _ zw_137) (fun _ h9 => h9) rfl zd_P_addEdge_54 ?_
        refine lv_iconst (v := iI (1)) hx hb zd_P_addEdge_57 rfl ?_
        refine x_iadd hx hb zd_P_addEdge_58 ?_
        refine va_put (D := D) (ci := 3) (v := .int (iI ((F 304) + 1))) (ty := .int) (C := zR_P) (T := zT_P) (N := 13) hx hb hts zi_P zk_P zo_P zn_P hown hK.1 hP hD hS 3 ga_3 rfl 4 (by decide) (hts _ zw_137) (fun _ h9 => h9) rfl (by decide +kernel) (rfl) (rfl) (Nat.le_of_ble_eq_true rfl) zd_P_addEdge_59 (fun H locs hP hD hS => ?_)
        rw [gs_3_4] at hP hD
        exact ret _ _ _ _ _ _ zd_P_addEdge_62 hP hD hS (⟨rfl, rfl⟩)

abbrev zr_P_nodeAhead : Room := ({ frames := 0, cells := 0, slots := 0, locals := 0 } : Room)
set_option maxHeartbeats 4000000 in
set_option maxRecDepth 100000 in
theorem c_P_nodeAhead (l : Launch) (D : va_G) (q : Nat → Nat) (c : Nat → ClassId) (sz : Nat) (F : Nat → Int) (A : Nat → Int → Int) (v : Int) (hN : 0 ≤ F 303 ∧ F 303 ≤ 40) (hE : 0 ≤ F 304 ∧ F 304 ≤ 600) (hed : ∀ e, 0 ≤ e → e < F 304 → (0 ≤ A 20 e ∧ A 20 e < F 303) ∧ (0 ≤ A 21 e ∧ A 21 e < F 303) ∧ 0 ≤ A 22 e ∧ A 22 e ≤ 100) (hnt : ∀ v, 0 ≤ v → v < F 303 → 1 ≤ A 19 v ∧ A 19 v ≤ 9) (hpq : (0 ≤ F 301 ∧ F 301 ≤ 360) ∧ 1 ≤ F 302 ∧ F 302 ≤ 7) (hvia : ∀ v, 0 ≤ v → v < F 303 → -1 ≤ A 24 v ∧ A 24 v < F 304) (hv : 0 ≤ v ∧ v < F 303) : zMI l zy_P_nodeAhead zc_P_nodeAhead 3 (some .int) zr_P_nodeAhead D q c sz [.ref (q 3), .int (iI (v))] F A (fun z F1 A1 => F1 = F ∧ A1 = A ∧ z = if A 24 v = -1 then -1 else A 20 (A 24 v)) := by
  refine z_ofI (by decide) (Nat.le_of_ble_eq_true rfl) ?_
  intro p e s m args below meth c0 A0 Q C0 ret hP hD hS ls hl
  obtain ⟨S, hK, hA⟩ := C0
  have hx := S.1
  have hb := S.2.1
  have hown := S.2.2.2.1
  have hts : ∀ w ∈ zG, w.before args s = true := fun w h => S.2.2.2.2 w (List.mem_cons_of_mem _ h)
  have hl : lv_has ls 3 [(0, .ref (q 3)), (1, .int (iI (v)))] := hl
  have hv_ := hvia v hv.1 hv.2
  refine lv_aload_n hx hb zd_P_nodeAhead_0 rfl (lv_at hl 0 rfl) ?_
  refine va_get (D := D) (ci := 3) (v := .ref (q 24)) (C := zR_P) (T := zT_P) (N := 13) hx hb hts zi_P hown hK.1 hP 3 ga_3 rfl 11 (by decide) (hts _ zw_144) (fun _ h9 => h9) rfl zd_P_nodeAhead_1 ?_
  refine lv_iload_n hx hb zd_P_nodeAhead_4 rfl (lv_at hl 1 rfl) ?_
  refine x_iald (v := A 24 v) hx hb hK.1 hP 24 0 ga_24 rfl (by decide) (by omega) (by omega) (rfl) zd_P_nodeAhead_5 ?_
  refine lv_istore_n (lv' := [(2, .int (iI (A 24 v))), (0, .ref (q 3)), (1, .int (iI (v)))]) hx hb zd_P_nodeAhead_6 rfl hl (by decide) rfl (fun ls hl => ?_)
  refine lv_iload_n hx hb zd_P_nodeAhead_7 rfl (lv_at hl 0 rfl) ?_
  refine lv_iconst (v := iI (-1)) hx hb zd_P_nodeAhead_8 rfl ?_
  refine x_icmp_ne (tgt := 16) hx hb zd_P_nodeAhead_9 (by decide) (⟨by omega, by omega⟩) (⟨by omega, by omega⟩) (fun h_9 => ?_) (fun h_9 => ?_)
  · refine lv_aload_n hx hb zd_P_nodeAhead_16 rfl (lv_at hl 1 rfl) ?_
    refine va_get (D := D) (ci := 3) (v := .ref (q 20)) (C := zR_P) (T := zT_P) (N := 13) hx hb hts zi_P hown hK.1 hP 3 ga_3 rfl 7 (by decide) (hts _ zw_140) (fun _ h9 => h9) rfl zd_P_nodeAhead_17 ?_
    refine lv_iload_n hx hb zd_P_nodeAhead_20 rfl (lv_at hl 0 rfl) ?_
    refine x_iald (v := A 20 (A 24 v)) hx hb hK.1 hP 20 0 ga_20 rfl (by decide) (by omega) (by omega) (rfl) zd_P_nodeAhead_21 ?_
    exact ret _ _ _ _ _ _ _ zd_P_nodeAhead_22 hP hD hS (⟨rfl, rfl, by split <;> first | rfl | omega⟩)
  · refine lv_iconst (v := iI (-1)) hx hb zd_P_nodeAhead_12 rfl ?_
    refine lv_goto (tgt := 22) hx hb zd_P_nodeAhead_13 (by decide) ?_
    exact ret _ _ _ _ _ _ _ zd_P_nodeAhead_22 hP hD hS (⟨rfl, rfl, by split <;> first | rfl | omega⟩)

abbrev zr_P_raiseAll : Room := ({ frames := 0, cells := 0, slots := 0, locals := 0 } : Room)
set_option maxHeartbeats 4000000 in
set_option maxRecDepth 100000 in
theorem c_P_raiseAll (l : Launch) (D : va_G) (q : Nat → Nat) (c : Nat → ClassId) (sz : Nat) (F : Nat → Int) (A : Nat → Int → Int) (bb : Int) (hN : 0 ≤ F 303 ∧ F 303 ≤ 40) (hE : 0 ≤ F 304 ∧ F 304 ≤ 600) (hed : ∀ e, 0 ≤ e → e < F 304 → (0 ≤ A 20 e ∧ A 20 e < F 303) ∧ (0 ≤ A 21 e ∧ A 21 e < F 303) ∧ 0 ≤ A 22 e ∧ A 22 e ≤ 100) (hnt : ∀ v, 0 ≤ v → v < F 303 → 1 ≤ A 19 v ∧ A 19 v ≤ 9) (hpq : (0 ≤ F 301 ∧ F 301 ≤ 360) ∧ 1 ≤ F 302 ∧ F 302 ≤ 7) (hbb : 0 ≤ bb ∧ bb ≤ 1000000000) (hxx : ∀ v, 0 ≤ v → v < F 303 → 0 ≤ A 23 v ∧ A 23 v ≤ bb) : zMI l zy_P_raiseAll zc_P_raiseAll 6 (some .boolean) zr_P_raiseAll D q c sz [.ref (q 3)] F A (fun z F1 A1 => F1 = F ∧ (∀ k, k ≠ 23 → k ≠ 24 → A1 k = A k) ∧ (A1 23, A1 24) = px_pass (A 20) (A 21) (cw F A) (A 23, A 24) (F 304).toNat ∧ z = (if px_rai (A 20) (A 21) (cw F A) (A 23, A 24) (F 304).toNat = true then 1 else 0) ∧ ∀ v, 0 ≤ v → v < F 303 → 0 ≤ A1 23 v ∧ A1 23 v ≤ bb + 63 * F 304) := by
  refine z_ofB (by decide) (Nat.le_of_ble_eq_true rfl) ?_
  intro p e s m args below meth c0 A0 Q C0 ret hP hD hS ls hl
  obtain ⟨S, hK, hA⟩ := C0
  have hx := S.1
  have hb := S.2.1
  have hown := S.2.2.2.1
  have hts : ∀ w ∈ zG, w.before args s = true := fun w h => S.2.2.2.2 w (List.mem_cons_of_mem _ h)
  have hl : lv_has ls 6 [(0, .ref (q 3))] := hl
  refine lv_iconst (v := iI (0)) hx hb zd_P_raiseAll_0 rfl ?_
  refine lv_istore_n (lv' := [(1, .int (iI (0))), (0, .ref (q 3))]) hx hb zd_P_raiseAll_1 rfl hl (by decide) rfl (fun ls hl => ?_)
  refine lv_iconst (v := iI (0)) hx hb zd_P_raiseAll_2 rfl ?_
  refine lv_istore_n (lv' := [(2, .int (iI (0))), (1, .int (iI (0))), (0, .ref (q 3))]) hx hb zd_P_raiseAll_3 rfl hl (by decide) rfl (fun ls hl => ?_)
  have L_4 : ∀ (fu : Nat) (r : Int) (i : Int)  (A4 : Nat → Int → Int), (0 ≤ i ∧ i ≤ F 304) → (∀ k, k ≠ 23 → k ≠ 24 → A4 k = A k) → ((A4 23, A4 24) = (px_pass (A 20) (A 21) (cw F A) (A 23, A 24) i.toNat)) → (r = if (px_rai (A 20) (A 21) (cw F A) (A 23, A 24) i.toNat) = true then 1 else 0) → (∀ v, 0 ≤ v → v < F 303 → 0 ≤ A4 23 v ∧ A4 23 v ≤ bb + 63 * i) → (F 304 - i < (fu : Int)) → ∀ (H : Heap) (locs : List Loc), va_P D zcl (gw q c F A4) H → va_D A0 (gw q c F A4) → va_S A0 s.heap H locs → ∀ ls : Array Slot, lv_has ls 6 [(0, .ref (q 3)), (1, .int (iI (r))), (2, .int (iI (i)))] → W p l e zr_P_raiseAll s m args below meth c0 H locs 0 0 Q (F0 m 4 ls []) := by
    intro fu
    induction fu with
    | zero => intro r i  A4 hi hk hp hr hx4 hm_4; exact absurd hm_4 (by omega)
    | succ fu ih_4 =>
      intro r i  A4 hi hk hp hr hx4 hm_4 H locs hP hD hS ls hl
      refine lv_iload_n hx hb zd_P_raiseAll_4 rfl (lv_at hl 2 rfl) ?_
      refine lv_aload_n hx hb zd_P_raiseAll_5 rfl (lv_at hl 0 rfl) ?_
      refine va_get (D := D) (ci := 3) (v := .int (iI (F 304))) (C := zR_P) (T := zT_P) (N := 13) hx hb hts zi_P hown hK.1 hP 3 ga_3 rfl 4 (by decide) (hts _ zw_137) (fun _ h9 => h9) rfl zd_P_raiseAll_6 ?_
      refine x_icmp_ge (tgt := 96) hx hb zd_P_raiseAll_9 (by decide) (⟨by omega, by omega⟩) (⟨by omega, by omega⟩) (fun h_9 => ?_) (fun h_9 => ?_)
      · have e_ : i = F 304 := by omega
        subst e_
        refine lv_iload_n hx hb zd_P_raiseAll_96 rfl (lv_at hl 1 rfl) ?_
        exact ret _ _ _ _ _ _ _ zd_P_raiseAll_97 hP hD hS (by rw [hr]; split <;> simp) (⟨rfl, hk, hp, hr, hx4⟩)
      · have he_ := hed i (by omega) (by omega)
        have e19 := hk 19 (by decide) (by decide)
        have e20 := hk 20 (by decide) (by decide)
        have e21 := hk 21 (by decide) (by decide)
        have e22 := hk 22 (by decide) (by decide)
        have hns_ := hnt (A 20 i) (by omega) (by omega)
        have hxs_ := hx4 (A 20 i) (by omega) (by omega)
        have hxt_ := hx4 (A 21 i) (by omega) (by omega)
        have hm1_ := bnd0 (x := A 19 (A 20 i)) (y := F 302) (X := 9) (Y := 7) (by omega) (by omega)
        have hm2_ := bnd0 (x := A 22 i) (y := F 301) (X := 100) (Y := 360) (by omega) (by omega)
        have hp1_ : (px_pass (A 20) (A 21) (cw F A) (A 23, A 24) i.toNat).1 = A4 23 := by rw [← hp]
        have hp2_ : (px_pass (A 20) (A 21) (cw F A) (A 23, A 24) i.toNat).2 = A4 24 := by rw [← hp]
        have hr01_ : r = 0 ∨ r = 1 := by rw [hr]; split <;> simp
        refine lv_aload_n hx hb zd_P_raiseAll_12 rfl (lv_at hl 0 rfl) ?_
        refine va_get (D := D) (ci := 3) (v := .ref (q 20)) (C := zR_P) (T := zT_P) (N := 13) hx hb hts zi_P hown hK.1 hP 3 ga_3 rfl 7 (by decide) (hts _ zw_140) (fun _ h9 => h9) rfl zd_P_raiseAll_13 ?_
        refine lv_iload_n hx hb zd_P_raiseAll_16 rfl (lv_at hl 2 rfl) ?_
        refine x_iald (v := A 20 i) hx hb hK.1 hP 20 0 ga_20 rfl (by decide) (by omega) (by omega) (by rw [e20]) zd_P_raiseAll_17 ?_
        refine lv_istore_n (lv' := [(3, .int (iI (A 20 i))), (0, .ref (q 3)), (1, .int (iI (r))), (2, .int (iI (i)))]) hx hb zd_P_raiseAll_18 rfl hl (by decide) rfl (fun ls hl => ?_)
        refine lv_aload_n hx hb zd_P_raiseAll_19 rfl (lv_at hl 1 rfl) ?_
        refine va_get (D := D) (ci := 3) (v := .ref (q 21)) (C := zR_P) (T := zT_P) (N := 13) hx hb hts zi_P hown hK.1 hP 3 ga_3 rfl 8 (by decide) (hts _ zw_141) (fun _ h9 => h9) rfl zd_P_raiseAll_20 ?_
        refine lv_iload_n hx hb zd_P_raiseAll_23 rfl (lv_at hl 3 rfl) ?_
        refine x_iald (v := A 21 i) hx hb hK.1 hP 21 0 ga_21 rfl (by decide) (by omega) (by omega) (by rw [e21]) zd_P_raiseAll_24 ?_
        refine lv_istore (lv' := [(4, .int (iI (A 21 i))), (3, .int (iI (A 20 i))), (0, .ref (q 3)), (1, .int (iI (r))), (2, .int (iI (i)))]) hx hb zd_P_raiseAll_25 hl (by decide) rfl (fun ls hl => ?_)
        refine lv_aload_n hx hb zd_P_raiseAll_27 rfl (lv_at hl 2 rfl) ?_
        refine va_get (D := D) (ci := 3) (v := .ref (q 23)) (C := zR_P) (T := zT_P) (N := 13) hx hb hts zi_P hown hK.1 hP 3 ga_3 rfl 10 (by decide) (hts _ zw_143) (fun _ h9 => h9) rfl zd_P_raiseAll_28 ?_
        refine lv_iload_n hx hb zd_P_raiseAll_31 rfl (lv_at hl 1 rfl) ?_
        refine x_iald (v := A4 23 (A 20 i)) hx hb hK.1 hP 23 0 ga_23 rfl (by decide) (by omega) (by omega) (rfl) zd_P_raiseAll_32 ?_
        refine lv_aload_n hx hb zd_P_raiseAll_33 rfl (lv_at hl 2 rfl) ?_
        refine va_get (D := D) (ci := 3) (v := .ref (q 19)) (C := zR_P) (T := zT_P) (N := 13) hx hb hts zi_P hown hK.1 hP 3 ga_3 rfl 6 (by decide) (hts _ zw_139) (fun _ h9 => h9) rfl zd_P_raiseAll_34 ?_
        refine lv_iload_n hx hb zd_P_raiseAll_37 rfl (lv_at hl 1 rfl) ?_
        refine x_iald (v := A 19 (A 20 i)) hx hb hK.1 hP 19 0 ga_19 rfl (by decide) (by omega) (by omega) (by rw [e19]) zd_P_raiseAll_38 ?_
        refine lv_aload_n hx hb zd_P_raiseAll_39 rfl (lv_at hl 2 rfl) ?_
        refine va_get (D := D) (ci := 3) (v := .int (iI (F 302))) (C := zR_P) (T := zT_P) (N := 13) hx hb hts zi_P hown hK.1 hP 3 ga_3 rfl 2 (by decide) (hts _ zw_134) (fun _ h9 => h9) rfl zd_P_raiseAll_40 ?_
        refine x_imul hx hb zd_P_raiseAll_43 ?_
        refine x_iadd hx hb zd_P_raiseAll_44 ?_
        refine lv_aload_n hx hb zd_P_raiseAll_45 rfl (lv_at hl 2 rfl) ?_
        refine va_get (D := D) (ci := 3) (v := .ref (q 22)) (C := zR_P) (T := zT_P) (N := 13) hx hb hts zi_P hown hK.1 hP 3 ga_3 rfl 9 (by decide) (hts _ zw_142) (fun _ h9 => h9) rfl zd_P_raiseAll_46 ?_
        refine lv_iload_n hx hb zd_P_raiseAll_49 rfl (lv_at hl 4 rfl) ?_
        refine x_iald (v := A 22 i) hx hb hK.1 hP 22 0 ga_22 rfl (by decide) (by omega) (by omega) (by rw [e22]) zd_P_raiseAll_50 ?_
        refine lv_aload_n hx hb zd_P_raiseAll_51 rfl (lv_at hl 2 rfl) ?_
        refine va_get (D := D) (ci := 3) (v := .int (iI (F 301))) (C := zR_P) (T := zT_P) (N := 13) hx hb hts zi_P hown hK.1 hP 3 ga_3 rfl 1 (by decide) (hts _ zw_132) (fun _ h9 => h9) rfl zd_P_raiseAll_52 ?_
        refine x_imul hx hb zd_P_raiseAll_55 ?_
        refine x_isub hx hb zd_P_raiseAll_56 ?_
        refine lv_istore (lv' := [(5, .int (iI (((A4 23 (A 20 i)) + ((A 19 (A 20 i)) * (F 302))) - ((A 22 i) * (F 301))))), (4, .int (iI (A 21 i))), (3, .int (iI (A 20 i))), (0, .ref (q 3)), (1, .int (iI (r))), (2, .int (iI (i)))]) hx hb zd_P_raiseAll_57 hl (by decide) rfl (fun ls hl => ?_)
        refine lv_iload hx hb zd_P_raiseAll_59 (lv_at hl 0 rfl) ?_
        refine lv_aload_n hx hb zd_P_raiseAll_61 rfl (lv_at hl 3 rfl) ?_
        refine va_get (D := D) (ci := 3) (v := .ref (q 23)) (C := zR_P) (T := zT_P) (N := 13) hx hb hts zi_P hown hK.1 hP 3 ga_3 rfl 10 (by decide) (hts _ zw_143) (fun _ h9 => h9) rfl zd_P_raiseAll_62 ?_
        refine lv_iload hx hb zd_P_raiseAll_65 (lv_at hl 1 rfl) ?_
        refine x_iald (v := A4 23 (A 21 i)) hx hb hK.1 hP 23 0 ga_23 rfl (by decide) (by omega) (by omega) (rfl) zd_P_raiseAll_67 ?_
        refine x_icmp_le (tgt := 90) hx hb zd_P_raiseAll_68 (by decide) (⟨by omega, by omega⟩) (⟨by omega, by omega⟩) (fun h_68 => ?_) (fun h_68 => ?_)
        · refine lv_iinc (v := iI (i + 1)) (lv' := [(2, .int (iI (i + 1))), (5, .int (iI (((A4 23 (A 20 i)) + ((A 19 (A 20 i)) * (F 302))) - ((A 22 i) * (F 301))))), (4, .int (iI (A 21 i))), (3, .int (iI (A 20 i))), (0, .ref (q 3)), (1, .int (iI (r)))]) hx hb zd_P_raiseAll_90 hl (k := 5) rfl (iI_add _ _) (by decide) rfl (fun ls hl => ?_)
          refine lv_goto (tgt := 4) hx hb zd_P_raiseAll_93 (by decide) ?_
          exact ih_4 (r) (i + 1)  A4 (by first | assumption | omega | (simp_all; done)) (fun k h1 h2 => by first | exact hk k h1 h2 | simp [auP, h1, h2, hk k h1 h2]) (by first | exact ra_y hp (by omega) h_68 | exact ra_n hp (by omega) h_68) (by first | exact rr_y hp (by omega) h_68 | exact rr_n hp hr (by omega) h_68) (fun v h0 h1 => by first | (have := hx4 v h0 h1; omega) | (have := hx4 v h0 h1; show 0 ≤ upI (A4 23) (A 21 i) _ v ∧ upI (A4 23) (A 21 i) _ v ≤ _; by_cases e_ : v = A 21 i; (rw [e_, upI_s]; omega); (rw [upI_n e_]; omega))) (by omega) _ _ hP hD hS ls (lv_sub hl [4, 5, 0] rfl)
        · refine lv_aload_n hx hb zd_P_raiseAll_71 rfl (lv_at hl 3 rfl) ?_
          refine va_get (D := D) (ci := 3) (v := .ref (q 23)) (C := zR_P) (T := zT_P) (N := 13) hx hb hts zi_P hown hK.1 hP 3 ga_3 rfl 10 (by decide) (hts _ zw_143) (fun _ h9 => h9) rfl zd_P_raiseAll_72 ?_
          refine lv_iload hx hb zd_P_raiseAll_75 (lv_at hl 1 rfl) ?_
          refine lv_iload hx hb zd_P_raiseAll_77 (lv_at hl 0 rfl) ?_
          refine x_iast hx hb hK.1 hP hD hS 23 0 ga_23 rfl (by decide) (by omega) (by omega) zd_P_raiseAll_79 (fun H locs hP hD hS => ?_)
          rw [gs_23] at hP hD
          refine lv_aload_n hx hb zd_P_raiseAll_80 rfl (lv_at hl 3 rfl) ?_
          refine va_get (D := D) (ci := 3) (v := .ref (q 24)) (C := zR_P) (T := zT_P) (N := 13) hx hb hts zi_P hown hK.1 hP 3 ga_3 rfl 11 (by decide) (hts _ zw_144) (fun _ h9 => h9) rfl zd_P_raiseAll_81 ?_
          refine lv_iload hx hb zd_P_raiseAll_84 (lv_at hl 1 rfl) ?_
          refine lv_iload_n hx hb zd_P_raiseAll_86 rfl (lv_at hl 5 rfl) ?_
          refine x_iast hx hb hK.1 hP hD hS 24 0 ga_24 rfl (by decide) (by omega) (by omega) zd_P_raiseAll_87 (fun H locs hP hD hS => ?_)
          rw [gs_24] at hP hD
          refine lv_iconst (v := iI (1)) hx hb zd_P_raiseAll_88 rfl ?_
          refine lv_istore_n (lv' := [(1, .int (iI (1))), (5, .int (iI (((A4 23 (A 20 i)) + ((A 19 (A 20 i)) * (F 302))) - ((A 22 i) * (F 301))))), (4, .int (iI (A 21 i))), (3, .int (iI (A 20 i))), (0, .ref (q 3)), (2, .int (iI (i)))]) hx hb zd_P_raiseAll_89 rfl hl (by decide) rfl (fun ls hl => ?_)
          refine lv_iinc (v := iI (i + 1)) (lv' := [(2, .int (iI (i + 1))), (1, .int (iI (1))), (5, .int (iI (((A4 23 (A 20 i)) + ((A 19 (A 20 i)) * (F 302))) - ((A 22 i) * (F 301))))), (4, .int (iI (A 21 i))), (3, .int (iI (A 20 i))), (0, .ref (q 3))]) hx hb zd_P_raiseAll_90 hl (k := 5) rfl (iI_add _ _) (by decide) rfl (fun ls hl => ?_)
          refine lv_goto (tgt := 4) hx hb zd_P_raiseAll_93 (by decide) ?_
          exact ih_4 (1) (i + 1)  (auP (auP A4 23 (A 21 i) (((A4 23 (A 20 i)) + ((A 19 (A 20 i)) * (F 302))) - ((A 22 i) * (F 301)))) 24 (A 21 i) i) (by first | assumption | omega | (simp_all; done)) (fun k h1 h2 => by first | exact hk k h1 h2 | simp [auP, h1, h2, hk k h1 h2]) (by first | exact ra_y hp (by omega) h_68 | exact ra_n hp (by omega) h_68) (by first | exact rr_y hp (by omega) h_68 | exact rr_n hp hr (by omega) h_68) (fun v h0 h1 => by first | (have := hx4 v h0 h1; omega) | (have := hx4 v h0 h1; show 0 ≤ upI (A4 23) (A 21 i) _ v ∧ upI (A4 23) (A 21 i) _ v ≤ _; by_cases e_ : v = A 21 i; (rw [e_, upI_s]; omega); (rw [upI_n e_]; omega))) (by omega) _ _ hP hD hS ls (lv_sub hl [5, 1, 0] rfl)
  exact L_4 (((F 304 - (0) : Int) + 1).toNat) (0) (0)  A (by first | assumption | omega | (simp_all; done)) (fun k _ _ => rfl) (rfl) (rfl) (fun v h0 h1 => by have := hxx v h0 h1; omega) (by omega) _ _ hP hD hS ls (lv_sub hl [2, 1, 0] rfl)
end
section
abbrev zc_J_floorDiv : ByteArray := prog_11_method_47_code
def zy_J_floorDiv : MethodName := ⟨"java/lang/Math", "floorDiv", "(II)I"⟩
abbrev zc_J_floorMod : ByteArray := prog_11_method_50_code
def zy_J_floorMod : MethodName := ⟨"java/lang/Math", "floorMod", "(II)I"⟩
theorem zd_J_floorDiv_0 : decode zc_J_floorDiv 0 = .ok (.iload_n 0, 1) := by decide +kernel
theorem zd_J_floorDiv_1 : decode zc_J_floorDiv 1 = .ok (.iload_n 1, 1) := by decide +kernel
theorem zd_J_floorDiv_2 : decode zc_J_floorDiv 2 = .ok (.idiv, 1) := by decide +kernel
theorem zd_J_floorDiv_3 : decode zc_J_floorDiv 3 = .ok (.istore_n 2, 1) := by decide +kernel
theorem zd_J_floorDiv_4 : decode zc_J_floorDiv 4 = .ok (.iload_n 0, 1) := by decide +kernel
theorem zd_J_floorDiv_5 : decode zc_J_floorDiv 5 = .ok (.iload_n 1, 1) := by decide +kernel
theorem zd_J_floorDiv_6 : decode zc_J_floorDiv 6 = .ok (.ixor, 1) := by decide +kernel
theorem zd_J_floorDiv_7 : decode zc_J_floorDiv 7 = .ok (.ifCond .ge 14, 3) := by decide +kernel
theorem zd_J_floorDiv_10 : decode zc_J_floorDiv 10 = .ok (.iload_n 2, 1) := by decide +kernel
theorem zd_J_floorDiv_11 : decode zc_J_floorDiv 11 = .ok (.iload_n 1, 1) := by decide +kernel
theorem zd_J_floorDiv_12 : decode zc_J_floorDiv 12 = .ok (.imul, 1) := by decide +kernel
theorem zd_J_floorDiv_13 : decode zc_J_floorDiv 13 = .ok (.iload_n 0, 1) := by decide +kernel
theorem zd_J_floorDiv_14 : decode zc_J_floorDiv 14 = .ok (.if_icmp .eq 7, 3) := by decide +kernel
theorem zd_J_floorDiv_17 : decode zc_J_floorDiv 17 = .ok (.iload_n 2, 1) := by decide +kernel
theorem zd_J_floorDiv_18 : decode zc_J_floorDiv 18 = .ok (.iconst 1, 1) := by decide +kernel
theorem zd_J_floorDiv_19 : decode zc_J_floorDiv 19 = .ok (.isub, 1) := by decide +kernel
theorem zd_J_floorDiv_20 : decode zc_J_floorDiv 20 = .ok (.ireturn, 1) := by decide +kernel
theorem zd_J_floorDiv_21 : decode zc_J_floorDiv 21 = .ok (.iload_n 2, 1) := by decide +kernel
theorem zd_J_floorDiv_22 : decode zc_J_floorDiv 22 = .ok (.ireturn, 1) := by decide +kernel
theorem zd_J_floorMod_0 : decode zc_J_floorMod 0 = .ok (.iload_n 0, 1) := by decide +kernel
theorem zd_J_floorMod_1 : decode zc_J_floorMod 1 = .ok (.iload_n 1, 1) := by decide +kernel
theorem zd_J_floorMod_2 : decode zc_J_floorMod 2 = .ok (.irem, 1) := by decide +kernel
theorem zd_J_floorMod_3 : decode zc_J_floorMod 3 = .ok (.istore_n 2, 1) := by decide +kernel
theorem zd_J_floorMod_4 : decode zc_J_floorMod 4 = .ok (.iload_n 0, 1) := by decide +kernel
theorem zd_J_floorMod_5 : decode zc_J_floorMod 5 = .ok (.iload_n 1, 1) := by decide +kernel
theorem zd_J_floorMod_6 : decode zc_J_floorMod 6 = .ok (.ixor, 1) := by decide +kernel
theorem zd_J_floorMod_7 : decode zc_J_floorMod 7 = .ok (.ifCond .ge 11, 3) := by decide +kernel
theorem zd_J_floorMod_10 : decode zc_J_floorMod 10 = .ok (.iload_n 2, 1) := by decide +kernel
theorem zd_J_floorMod_11 : decode zc_J_floorMod 11 = .ok (.ifCond .eq 7, 3) := by decide +kernel
theorem zd_J_floorMod_14 : decode zc_J_floorMod 14 = .ok (.iload_n 2, 1) := by decide +kernel
theorem zd_J_floorMod_15 : decode zc_J_floorMod 15 = .ok (.iload_n 1, 1) := by decide +kernel
theorem zd_J_floorMod_16 : decode zc_J_floorMod 16 = .ok (.iadd, 1) := by decide +kernel
theorem zd_J_floorMod_17 : decode zc_J_floorMod 17 = .ok (.ireturn, 1) := by decide +kernel
theorem zd_J_floorMod_18 : decode zc_J_floorMod 18 = .ok (.iload_n 2, 1) := by decide +kernel
theorem zd_J_floorMod_19 : decode zc_J_floorMod 19 = .ok (.ireturn, 1) := by decide +kernel
section XX
variable {p : Program} {l : Launch} {e : Env} {R : Room} {s : State} {m : MethodId} {args : Array Value} {below : List Frame} {meth : Method} {c : Code} {H : Heap} {locs : List Loc} {cells slots : Nat} {Q : State → Prop}
variable {cc : ByteArray} {pc : Nat} {ls : Array Slot} {rest : List Value}
theorem xor_sign (a b : Int32) : (0 ≤ (a ^^^ b).toInt) ↔ (0 ≤ a.toInt ↔ 0 ≤ b.toInt) := by
  have h : ∀ x : Int32, (0 ≤ x.toInt) ↔ x.toBitVec.msb = false := by
    intro x
    rw [BitVec.msb_eq_toInt]
    show 0 ≤ x.toBitVec.toInt ↔ _
    simp
  rw [h, h, h]
  rw [show (a ^^^ b).toBitVec = a.toBitVec ^^^ b.toBitVec from rfl, BitVec.msb_xor]
  cases a.toBitVec.msb <;> cases b.toBitVec.msb <;> simp
theorem x_ixor (hexec : p.tables.exec = Jvm.exec) (hb : c.code = cc) {x y : Int} (hdg : decode cc pc = .ok (.ixor, 1)) (hx : ib x) (hy : ib y) (k : ∀ v : Int, ib v → (0 ≤ v ↔ (0 ≤ x ↔ 0 ≤ y)) → W p l e R s m args below meth c H locs cells slots Q (F0 m (pc + 1) ls (.int (iI v) :: rest))) : W p l e R s m args below meth c H locs cells slots Q (F0 m pc ls (.int (iI y) :: .int (iI x) :: rest)) := by
  refine lv_ixor hexec hb hdg ?_
  rw [iI_of (iI x ^^^ iI y)]
  refine k _ (ib_of _) ?_
  have := xor_sign (iI x) (iI y)
  rw [iI_toInt hx, iI_toInt hy] at this
  exact this
end XX
section ZO
variable {p : Program} {l : Launch} {e : Env} {R : Room} {s : State} {m : MethodId} {args : Array Value} {below : List Frame} {meth : Method} {c0 : Code} {H : Heap} {locs : List Loc} {cells slots : Nat} {Q : State → Prop}
variable {cc bytes : ByteArray} {maxL nL n index : Nat} {ret : Option FieldType} {rm : Room} {w0 : Cond} {own : String} {y : MethodName} {As rest st0 : List Value} {pc : Nat} {ls : Array Slot}
variable {D : va_G} {q : Nat → Nat} {c : Nat → ClassId} {F : Nat → Int} {A : Nat → Int → Int} {A0 : Nat → Prop}
theorem z_runSO {Qc : Array Value → State → Outcome → State → Prop} {free : Addr → Prop} (S : CallFix p m c0 cc nL s args (w0 :: zG) own) (hM : Met l y (Cond.code y bytes maxL ret :: zG) rm (va_Pc As (zB D q c F A H.size)) Qc 0 0 free)
    (h1 : Cond.methodLink own index y ∈ zG) (h2 : Cond.static y ∈ zG) (h4 : Cond.initialized y.cls ∈ zG) (h5 : Cond.code y bytes maxL ret ∈ zG) (hd : zCW R y maxL rm n)
    (hK : va_K D zcl (zty c) s ∧ zNW s) (hP : va_P D zcl (gw q c F A) H) (hD : va_D A0 (gw q c F A)) (hn : As.length = n) (hsz : ls.size = nL) (hst : st0 = As.reverse ++ rest) (hW : (rest.map fun v => v.category).sum ≤ 8) (hdg : decode cc pc = .ok (.invokestatic index, 3)) (hf : cells ≤ R.cells ∧ slots ≤ R.slots) :
    va_Run p l e R s m args below meth c0 H locs cells slots 0 0 (F0 m pc ls st0) rest (Qc As.toArray) free := by
  refine va_runS S hM (va_cwS n S.2.2.2.2 (z_gA (fun w hw => ?_) (z_gS h5)) rfl hd.2.2.1 hd.2.2.2 hd.1 hd.2.1) ⟨z_blind, z_pre hK hP hD⟩ rfl hn hsz hst (lv_room hW) hdg hf
  simp only [List.mem_cons, List.not_mem_nil, or_false] at hw
  rcases hw with rfl | rfl | rfl <;> assumption
end ZO
/-- an int method of a class that has entries, none for this member: its body from the entry -/
theorem z_ofIF {l : Launch} {y : MethodName} {bytes : ByteArray} {maxL : Nat} {rm : Room} {D : va_G} {q : Nat → Nat} {c : Nat → ClassId} {sz : Nat} {av : List Value} {F : Nat → Int} {A : Nat → Int → Int} {post : Int → (Nat → Int) → (Nat → Int → Int) → Prop} (hy : plainFor y = true) (hlen : (lg_sl av).length ≤ maxL)
    (body : ∀ (p : Program) (e : Env) (s : State) (m : MethodId) (args : Array Value) (below : List Frame) (meth : Method) (c0 : Code) (A0 : Nat → Prop) (Q : State → Prop), zCtx l y bytes maxL (some .int) D c p s m args c0 A0 →
      (∀ (z : Int) (F1 : Nat → Int) (A1 : Nat → Int → Int) (H : Heap) (locs : List Loc) (pc : Nat) (ls : Array Slot), decode bytes pc = .ok (.ireturn, 1) → va_P D zcl (gw q c F1 A1) H → va_D A0 (gw q c F1 A1) → va_S A0 s.heap H locs → post z F1 A1 → W p l e rm s m args below meth c0 H locs 0 0 Q (F0 m pc ls [.int (iI z)])) →
      va_P D zcl (gw q c F A) s.heap → va_D A0 (gw q c F A) → va_S A0 s.heap s.heap [] → ∀ ls : Array Slot, lv_has ls maxL (lv_args 0 av) → W p l e rm s m args below meth c0 s.heap [] 0 0 Q (F0 m 0 ls [])) :
    zMI l y bytes maxL (some .int) rm D q c sz av F A post := by
  refine va_MetF (cc := bytes) (maxL := maxL) (ret := (some .int)) hy rfl ?_
  intro p e s m args below meth c0 s₁ B hml hv
  obtain ⟨rfl, hsz, hP, hK, hD0⟩ := hv
  subst hsz
  have hl := lv_entry av (n := maxL) hlen
  rw [lg_entry_eq]
  refine body p e s m _ below meth c0 (va_A (gw q c F A) s.heap.size) _ ⟨⟨B.exec, B.bytes, hml, findClass_of_methodNamed B.named, atoms_spec (ws := Cond.code y bytes maxL (some .int) :: zG) B.pre⟩, hK, fun x h => Or.inr h⟩ ?_ hP hD0.self va_S.rf _ hl
  intro z F1 A1 H locs pc ls hdg hP1 hD1 hS1 hpost
  exact z_iret B.exec B.bytes B.returns B.notSynchronized hP1 hD1 hS1 hdg hpost
theorem td_neg {x y : Int} (hy : 0 < y) (hx : x < 0) : (x.tdiv y * y = x → x / y = x.tdiv y) ∧ (¬ x.tdiv y * y = x → x / y = x.tdiv y - 1) := by
  have h := Int.tdiv_eq_ediv (a := x) (b := y)
  have hs : y.sign = 1 := Int.sign_eq_one_of_pos hy
  constructor
  · intro e
    have hd : y ∣ x := ⟨x.tdiv y, by rw [Int.mul_comm]; exact e.symm⟩
    rw [if_pos (Or.inr hd)] at h
    omega
  · intro e
    have hd : ¬ y ∣ x := by
      rintro ⟨k, rfl⟩
      apply e
      rw [Int.mul_tdiv_cancel_left _ (by omega), Int.mul_comm]
    rw [if_neg (fun z => z.elim (fun z => by omega) hd), hs] at h
    omega
theorem tm_neg {x y : Int} (hy : 0 < y) (hx : x < 0) : (x.tmod y = 0 → x % y = x.tmod y) ∧ (¬ x.tmod y = 0 → x % y = x.tmod y + y) := by
  have h := Int.tmod_eq_emod (a := x) (b := y)
  constructor
  · intro e
    by_cases hd : y ∣ x
    · rw [if_pos (Or.inr hd)] at h; omega
    · exfalso
      exact hd (Int.dvd_of_tmod_eq_zero e)
  · intro e
    have hd : ¬ y ∣ x := fun hd => e (Int.tmod_eq_zero_of_dvd hd)
    rw [if_neg (fun z => z.elim (fun z => by omega) hd)] at h
    omega
theorem tm_b {x y : Int} (hy : 0 < y) : -y < x.tmod y ∧ x.tmod y < y := by
  refine ⟨?_, Int.tmod_lt_of_pos x hy⟩
  by_cases hx : 0 ≤ x
  · have := Int.tmod_nonneg y hx; omega
  · have h2 := Int.emod_nonneg x (show y ≠ 0 by omega)
    have := tm_neg (x := x) hy (by omega)
    by_cases e : x.tmod y = 0
    · omega
    · have h9 := this.2 e
      by_cases e0 : x % y = 0
      · exact absurd (Int.tmod_eq_zero_of_dvd (Int.dvd_of_emod_eq_zero e0)) e
      · omega
theorem td_b {x y : Int} (hy : 0 < y) (hx : -1000000 ≤ x ∧ x ≤ 1000000) : -1000000 ≤ x.tdiv y ∧ x.tdiv y ≤ 1000000 := by
  by_cases h0 : 0 ≤ x
  · rw [Int.tdiv_eq_ediv_of_nonneg h0]
    have h1 := Int.ediv_nonneg h0 (show 0 ≤ y by omega)
    have h2 := Int.ediv_le_self y h0
    omega
  · have h := Int.tdiv_eq_ediv (a := x) (b := y)
    have hs : y.sign = 1 := Int.sign_eq_one_of_pos hy
    have h3 : x ≤ x / y := by
      have := Int.le_ediv_of_mul_le (a := x) (b := x) hy (by have := Int.mul_le_mul_of_nonpos_left (a := x) (b := y) (c := 1) (by omega) (by omega); omega)
      exact this
    have h4 : x / y < 0 := Int.ediv_neg_of_neg_of_pos (by omega) hy
    split at h <;> omega
abbrev zr_J_floorDiv : Room := ({ frames := 0, cells := 0, slots := 0, locals := 0 } : Room)
set_option maxHeartbeats 4000000 in
set_option maxRecDepth 100000 in
theorem c_J_floorDiv (l : Launch) (D : va_G) (q : Nat → Nat) (c : Nat → ClassId) (sz : Nat) (F : Nat → Int) (A : Nat → Int → Int) (x : Int) (y : Int) (hx_ : -1000000 ≤ x ∧ x ≤ 1000000) (hy_ : 1 ≤ y ∧ y ≤ 400) : zMI l zy_J_floorDiv zc_J_floorDiv 3 (some .int) zr_J_floorDiv D q c sz [.int (iI (x)), .int (iI (y))] F A (fun z F1 A1 => F1 = F ∧ A1 = A ∧ z = x / y) := by
  refine z_ofIF (by decide +kernel) (Nat.le_of_ble_eq_true rfl) ?_
  intro p e s m args below meth c0 A0 Q C0 ret hP hD hS ls hl
  obtain ⟨S, hK, hA⟩ := C0
  have hx := S.1
  have hb := S.2.1
  have hown := S.2.2.2.1
  have hts : ∀ w ∈ zG, w.before args s = true := fun w h => S.2.2.2.2 w (List.mem_cons_of_mem _ h)
  have hl : lv_has ls 3 [(0, .int (iI (x))), (1, .int (iI (y)))] := hl
  have ht_ := td_b (x := x) (y := y) (by omega) hx_
  have hm_ : -400000000 ≤ x.tdiv y * y ∧ x.tdiv y * y ≤ 400000000 := by (have h9 := Int.tmod_def x y; rw [Int.mul_comm] at h9; have := tm_b (x := x) (y := y) (by omega); omega)
  refine lv_iload_n hx hb zd_J_floorDiv_0 rfl (lv_at hl 0 rfl) ?_
  refine lv_iload_n hx hb zd_J_floorDiv_1 rfl (lv_at hl 1 rfl) ?_
  refine x_idiv hx hb zd_J_floorDiv_2 (⟨by omega, by omega⟩) (⟨by omega, by omega⟩) (by omega) ?_
  refine lv_istore_n (lv' := [(2, .int (iI (x.tdiv y))), (0, .int (iI (x))), (1, .int (iI (y)))]) hx hb zd_J_floorDiv_3 rfl hl (by decide) rfl (fun ls hl => ?_)
  refine lv_iload_n hx hb zd_J_floorDiv_4 rfl (lv_at hl 1 rfl) ?_
  refine lv_iload_n hx hb zd_J_floorDiv_5 rfl (lv_at hl 2 rfl) ?_
  refine x_ixor hx hb zd_J_floorDiv_6 (⟨by omega, by omega⟩) (⟨by omega, by omega⟩) (fun v_6 bv_6 hv_6 => ?_)
  refine x_if_ge (tgt := 21) hx hb zd_J_floorDiv_7 (by decide) (⟨by omega, by omega⟩) (fun h_7 => ?_) (fun h_7 => ?_)
  · refine lv_iload_n hx hb zd_J_floorDiv_21 rfl (lv_at hl 0 rfl) ?_
    exact ret _ _ _ _ _ _ _ zd_J_floorDiv_22 hP hD hS (⟨rfl, rfl, by first | exact ((td_neg (by omega) (by omega)).1 h_14).symm | exact Int.tdiv_eq_ediv_of_nonneg (by omega)⟩)
  · refine lv_iload_n hx hb zd_J_floorDiv_10 rfl (lv_at hl 0 rfl) ?_
    refine lv_iload_n hx hb zd_J_floorDiv_11 rfl (lv_at hl 2 rfl) ?_
    refine x_imul hx hb zd_J_floorDiv_12 ?_
    refine lv_iload_n hx hb zd_J_floorDiv_13 rfl (lv_at hl 1 rfl) ?_
    refine x_icmp_eq (tgt := 21) hx hb zd_J_floorDiv_14 (by decide) (⟨by omega, by omega⟩) (⟨by omega, by omega⟩) (fun h_14 => ?_) (fun h_14 => ?_)
    · refine lv_iload_n hx hb zd_J_floorDiv_21 rfl (lv_at hl 0 rfl) ?_
      exact ret _ _ _ _ _ _ _ zd_J_floorDiv_22 hP hD hS (⟨rfl, rfl, by first | exact ((td_neg (by omega) (by omega)).1 h_14).symm | exact Int.tdiv_eq_ediv_of_nonneg (by omega)⟩)
    · refine lv_iload_n hx hb zd_J_floorDiv_17 rfl (lv_at hl 0 rfl) ?_
      refine lv_iconst (v := iI (1)) hx hb zd_J_floorDiv_18 rfl ?_
      refine x_isub hx hb zd_J_floorDiv_19 ?_
      exact ret _ _ _ _ _ _ _ zd_J_floorDiv_20 hP hD hS (⟨rfl, rfl, ((td_neg (by omega) (by omega)).2 h_14).symm⟩)

abbrev zr_J_floorMod : Room := ({ frames := 0, cells := 0, slots := 0, locals := 0 } : Room)
set_option maxHeartbeats 4000000 in
set_option maxRecDepth 100000 in
theorem c_J_floorMod (l : Launch) (D : va_G) (q : Nat → Nat) (c : Nat → ClassId) (sz : Nat) (F : Nat → Int) (A : Nat → Int → Int) (x : Int) (y : Int) (hx_ : -1000000 ≤ x ∧ x ≤ 1000000) (hy_ : 1 ≤ y ∧ y ≤ 400) : zMI l zy_J_floorMod zc_J_floorMod 3 (some .int) zr_J_floorMod D q c sz [.int (iI (x)), .int (iI (y))] F A (fun z F1 A1 => F1 = F ∧ A1 = A ∧ z = x % y) := by
  refine z_ofIF (by decide +kernel) (Nat.le_of_ble_eq_true rfl) ?_
  intro p e s m args below meth c0 A0 Q C0 ret hP hD hS ls hl
  obtain ⟨S, hK, hA⟩ := C0
  have hx := S.1
  have hb := S.2.1
  have hown := S.2.2.2.1
  have hts : ∀ w ∈ zG, w.before args s = true := fun w h => S.2.2.2.2 w (List.mem_cons_of_mem _ h)
  have hl : lv_has ls 3 [(0, .int (iI (x))), (1, .int (iI (y)))] := hl
  have ht_ := tm_b (x := x) (y := y) (by omega)
  refine lv_iload_n hx hb zd_J_floorMod_0 rfl (lv_at hl 0 rfl) ?_
  refine lv_iload_n hx hb zd_J_floorMod_1 rfl (lv_at hl 1 rfl) ?_
  refine x_irem hx hb zd_J_floorMod_2 (⟨by omega, by omega⟩) (⟨by omega, by omega⟩) (by omega) ?_
  refine lv_istore_n (lv' := [(2, .int (iI (x.tmod y))), (0, .int (iI (x))), (1, .int (iI (y)))]) hx hb zd_J_floorMod_3 rfl hl (by decide) rfl (fun ls hl => ?_)
  refine lv_iload_n hx hb zd_J_floorMod_4 rfl (lv_at hl 1 rfl) ?_
  refine lv_iload_n hx hb zd_J_floorMod_5 rfl (lv_at hl 2 rfl) ?_
  refine x_ixor hx hb zd_J_floorMod_6 (⟨by omega, by omega⟩) (⟨by omega, by omega⟩) (fun v_6 bv_6 hv_6 => ?_)
  refine x_if_ge (tgt := 18) hx hb zd_J_floorMod_7 (by decide) (⟨by omega, by omega⟩) (fun h_7 => ?_) (fun h_7 => ?_)
  · refine lv_iload_n hx hb zd_J_floorMod_18 rfl (lv_at hl 0 rfl) ?_
    exact ret _ _ _ _ _ _ _ zd_J_floorMod_19 hP hD hS (⟨rfl, rfl, by first | exact ((tm_neg (by omega) (by omega)).1 h_11).symm | exact Int.tmod_eq_emod_of_nonneg (by omega)⟩)
  · refine lv_iload_n hx hb zd_J_floorMod_10 rfl (lv_at hl 0 rfl) ?_
    refine x_if_eq (tgt := 18) hx hb zd_J_floorMod_11 (by decide) (⟨by omega, by omega⟩) (fun h_11 => ?_) (fun h_11 => ?_)
    · refine lv_iload_n hx hb zd_J_floorMod_18 rfl (lv_at hl 0 rfl) ?_
      exact ret _ _ _ _ _ _ _ zd_J_floorMod_19 hP hD hS (⟨rfl, rfl, by first | exact ((tm_neg (by omega) (by omega)).1 h_11).symm | exact Int.tmod_eq_emod_of_nonneg (by omega)⟩)
    · refine lv_iload_n hx hb zd_J_floorMod_14 rfl (lv_at hl 0 rfl) ?_
      refine lv_iload_n hx hb zd_J_floorMod_15 rfl (lv_at hl 2 rfl) ?_
      refine x_iadd hx hb zd_J_floorMod_16 ?_
      exact ret _ _ _ _ _ _ _ zd_J_floorMod_17 hP hD hS (⟨rfl, rfl, ((tm_neg (by omega) (by omega)).2 h_11).symm⟩)
end
section
section AFO
variable {P b c : Prop} {u v w N i : Int}
theorem afo_s (h : P ↔ b ∨ c ∨ ∃ x, 1 ≤ x ∧ x < i ∧ u = N + x - 1 ∧ v = N + x ∧ w = 0) (hi : 1 ≤ i) : (P ∨ (u = N + i - 1 ∧ v = N + i ∧ w = 0)) ↔ b ∨ c ∨ ∃ x, 1 ≤ x ∧ x < i + 1 ∧ u = N + x - 1 ∧ v = N + x ∧ w = 0 := by
  rw [h]
  constructor
  · rintro ((h | h | ⟨x, h1, h2, h3⟩) | h)
    · exact Or.inl h
    · exact Or.inr (Or.inl h)
    · exact Or.inr (Or.inr ⟨x, h1, by omega, h3⟩)
    · exact Or.inr (Or.inr ⟨i, hi, by omega, h⟩)
  · rintro (h | h | ⟨x, h1, h2, h3⟩)
    · exact Or.inl (Or.inl h)
    · exact Or.inl (Or.inr (Or.inl h))
    · by_cases e : x = i
      · subst e; exact Or.inr h3
      · exact Or.inl (Or.inr (Or.inr ⟨x, h1, by omega, h3⟩))
theorem afo_z {j : Int} (h : P ↔ b ∨ c) (hj : j ≤ 1) : P ↔ b ∨ c ∨ ∃ x, 1 ≤ x ∧ x < j ∧ u = N + x - 1 ∧ v = N + x ∧ w = 0 := by
  rw [h]
  constructor
  · rintro (h | h)
    · exact Or.inl h
    · exact Or.inr (Or.inl h)
  · rintro (h | h | ⟨x, h1, h2, h3⟩)
    · exact Or.inl h
    · exact Or.inr h
    · omega
theorem afo_z2 {j k : Int} (h : P ↔ b ∨ c ∨ ∃ x, 1 ≤ x ∧ x < k ∧ u = N + x - 1 ∧ v = N + x ∧ w = 0) (hk : k ≤ 1) (hj : j ≤ 1) : P ↔ b ∨ c ∨ ∃ x, 1 ≤ x ∧ x < j ∧ u = N + x - 1 ∧ v = N + x ∧ w = 0 := by
  refine afo_z (h.trans ?_) hj
  constructor
  · rintro (h | h | ⟨x, h1, h2, h3⟩)
    · exact Or.inl h
    · exact Or.inr h
    · omega
  · rintro (h | h)
    · exact Or.inl h
    · exact Or.inr (Or.inl h)
end AFO
/-- a stretch of an array was set to t: one place more -/
theorem st_s {g h : Int → Int} {N i t : Int} (hi : 0 ≤ i) (hs : ∀ x, g x = if N ≤ x ∧ x < N + i then t else h x) : ∀ x, upI g (N + i) t x = if N ≤ x ∧ x < N + (i + 1) then t else h x := by
  intro x
  by_cases e : x = N + i
  · subst e
    rw [upI_s, if_pos (by omega)]
  · rw [upI_n e, hs x]
    by_cases c : N ≤ x ∧ x < N + i
    · rw [if_pos c, if_pos (by omega)]
    · rw [if_neg c, if_neg (by omega)]
section BS
variable {A : Nat → Int → Int} {i n m root : Int}
theorem bs_n (h : m = 0 ∨ ∃ a, 0 ≤ a ∧ a < i ∧ A 8 a = root ∧ m = A 7 a * A 6 a) : m = 0 ∨ ∃ a, 0 ≤ a ∧ a < i + 1 ∧ A 8 a = root ∧ m = A 7 a * A 6 a := by
  rcases h with h | ⟨a, h0, h1, h2⟩
  · exact Or.inl h
  · exact Or.inr ⟨a, h0, by omega, h2⟩
theorem bs_y (h : m = 0 ∨ ∃ a, 0 ≤ a ∧ a < i ∧ A 8 a = root ∧ m = A 7 a * A 6 a) (hi : 0 ≤ i) (hr : A 8 i = root) : max m (A 7 i * A 6 i) = 0 ∨ ∃ a, 0 ≤ a ∧ a < i + 1 ∧ A 8 a = root ∧ max m (A 7 i * A 6 i) = A 7 a * A 6 a := by
  by_cases c : m ≤ A 7 i * A 6 i
  · exact Or.inr ⟨i, hi, by omega, hr, by omega⟩
  · rw [show max m (A 7 i * A 6 i) = m by omega]
    exact bs_n h
theorem bs_e (h : m = 0 ∨ ∃ a, 0 ≤ a ∧ a < i ∧ A 8 a = root ∧ m = A 7 a * A 6 a) (hi : i ≤ n) : m = 0 ∨ ∃ a, 0 ≤ a ∧ a < n ∧ A 8 a = root ∧ m = A 7 a * A 6 a := by
  rcases h with h | ⟨a, h0, h1, h2⟩
  · exact Or.inl h
  · exact Or.inr ⟨a, h0, by omega, h2⟩
end BS
abbrev zr_P_addFiringsOf : Room := ({ frames := 1, cells := 0, slots := 0, locals := 23 } : Room)
set_option maxHeartbeats 4000000 in
set_option maxRecDepth 100000 in
theorem c_P_addFiringsOf (l : Launch) (D : va_G) (q : Nat → Nat) (c : Nat → ClassId) (sz : Nat) (F : Nat → Int) (A : Nat → Int → Int) (a : Int) (cnt : Int) (t : Int) (hN : 0 ≤ F 303) (hct : 1 ≤ cnt ∧ F 303 + cnt ≤ 40) (ha : 0 ≤ a ∧ a < 8) (hE : 0 ≤ F 304 ∧ F 304 + cnt ≤ 600) : zMV l zy_P_addFiringsOf zc_P_addFiringsOf 5 none zr_P_addFiringsOf D q c sz [.ref (q 3), .int (iI (a)), .int (iI (cnt)), .int (iI (t))] F A (fun F1 A1 => (∀ j, j ≠ 303 → j ≠ 304 → F1 j = F j) ∧ F1 303 = F 303 + cnt ∧ F1 304 = F 304 + cnt ∧ (∀ k, k ≠ 18 → k ≠ 19 → k ≠ 20 → k ≠ 21 → k ≠ 22 → A1 k = A k) ∧ A1 18 = upI (A 18) a (F 303) ∧ (∀ x, A1 19 x = if F 303 ≤ x ∧ x < F 303 + cnt then t else A 19 x) ∧ (∀ u v w, EIn (F1 304) (A1 20) (A1 21) (A1 22) u v w ↔ EIn (F 304) (A 20) (A 21) (A 22) u v w ∨ (u = F 303 + cnt - 1 ∧ v = F 303 ∧ w = 1) ∨ ∃ x, 1 ≤ x ∧ x < cnt ∧ u = F 303 + x - 1 ∧ v = F 303 + x ∧ w = 0)) := by
  refine z_ofV (by decide) (Nat.le_of_ble_eq_true rfl) ?_
  intro p e s m args below meth c0 A0 Q C0 ret hP hD hS ls hl
  obtain ⟨S, hK, hA⟩ := C0
  have hx := S.1
  have hb := S.2.1
  have hown := S.2.2.2.1
  have hts : ∀ w ∈ zG, w.before args s = true := fun w h => S.2.2.2.2 w (List.mem_cons_of_mem _ h)
  have hl : lv_has ls 5 [(0, .ref (q 3)), (1, .int (iI (a))), (2, .int (iI (cnt))), (3, .int (iI (t)))] := hl
  refine lv_aload_n hx hb zd_P_addFiringsOf_0 rfl (lv_at hl 0 rfl) ?_
  refine va_get (D := D) (ci := 3) (v := .int (iI (F 303))) (C := zR_P) (T := zT_P) (N := 13) hx hb hts zi_P hown hK.1 hP 3 ga_3 rfl 3 (by decide) (hts _ zw_136) (fun _ h9 => h9) rfl zd_P_addFiringsOf_1 ?_
  refine lv_iload_n hx hb zd_P_addFiringsOf_4 rfl (lv_at hl 2 rfl) ?_
  refine x_iadd hx hb zd_P_addFiringsOf_5 ?_
  refine lv_bipush (v := iI (40)) hx hb zd_P_addFiringsOf_6 (by decide) ?_
  refine x_icmp_le (tgt := 12) hx hb zd_P_addFiringsOf_8 (by decide) (⟨by omega, by omega⟩) (⟨by omega, by omega⟩) (fun h_8 => ?_) (fun h_8 => ?_)
  · refine lv_aload_n hx hb zd_P_addFiringsOf_12 rfl (lv_at hl 0 rfl) ?_
    refine va_get (D := D) (ci := 3) (v := .ref (q 18)) (C := zR_P) (T := zT_P) (N := 13) hx hb hts zi_P hown hK.1 hP 3 ga_3 rfl 5 (by decide) (hts _ zw_138) (fun _ h9 => h9) rfl zd_P_addFiringsOf_13 ?_
    refine lv_iload_n hx hb zd_P_addFiringsOf_16 rfl (lv_at hl 1 rfl) ?_
    refine lv_aload_n hx hb zd_P_addFiringsOf_17 rfl (lv_at hl 0 rfl) ?_
    refine va_get (D := D) (ci := 3) (v := .int (iI (F 303))) (C := zR_P) (T := zT_P) (N := 13) hx hb hts zi_P hown hK.1 hP 3 ga_3 rfl 3 (by decide) (hts _ zw_136) (fun _ h9 => h9) rfl zd_P_addFiringsOf_18 ?_
    refine x_iast hx hb hK.1 hP hD hS 18 0 ga_18 rfl (by decide) (by omega) (by omega) zd_P_addFiringsOf_21 (fun H locs hP hD hS => ?_)
    rw [gs_18] at hP hD
    refine lv_aload_n hx hb zd_P_addFiringsOf_22 rfl (lv_at hl 0 rfl) ?_
    refine lv_aload_n hx hb zd_P_addFiringsOf_23 rfl (lv_at hl 0 rfl) ?_
    refine va_get (D := D) (ci := 3) (v := .int (iI (F 303))) (C := zR_P) (T := zT_P) (N := 13) hx hb hts zi_P hown hK.1 hP 3 ga_3 rfl 3 (by decide) (hts _ zw_136) (fun _ h9 => h9) rfl zd_P_addFiringsOf_24 ?_
    refine lv_iload_n hx hb zd_P_addFiringsOf_27 rfl (lv_at hl 2 rfl) ?_
    refine x_iadd hx hb zd_P_addFiringsOf_28 ?_
    refine lv_iconst (v := iI (1)) hx hb zd_P_addFiringsOf_29 rfl ?_
    refine x_isub hx hb zd_P_addFiringsOf_30 ?_
    refine lv_aload_n hx hb zd_P_addFiringsOf_31 rfl (lv_at hl 0 rfl) ?_
    refine va_get (D := D) (ci := 3) (v := .int (iI (F 303))) (C := zR_P) (T := zT_P) (N := 13) hx hb hts zi_P hown hK.1 hP 3 ga_3 rfl 3 (by decide) (hts _ zw_136) (fun _ h9 => h9) rfl zd_P_addFiringsOf_32 ?_
    refine lv_iconst (v := iI (1)) hx hb zd_P_addFiringsOf_35 rfl ?_
    refine z_gov (z_runV (n := 3) (k := 3) (ci := 3) (As := [.int (iI (((F 303) + cnt) - 1)), .int (iI (F 303)), .int (iI (1))]) (rest := []) S (c_P_addEdge l D q c _ F (auP A 18 a (F 303)) (((F 303) + cnt) - 1) (F 303) 1 (by first | assumption | omega | exact ⟨by omega, by omega⟩) (by first | assumption | omega | exact ⟨by omega, by omega⟩) (by first | assumption | omega | exact ⟨by omega, by omega⟩)) zw_482 zw_484 zs_28 zw_4 zw_485 ⟨by decide +kernel, by decide, rfl, rfl⟩ hK hP hD ga_3 rfl rfl rfl hl.1 rfl (Nat.le_of_ble_eq_true rfl) zd_P_addFiringsOf_36 ⟨Nat.zero_le _, Nat.zero_le _⟩) hD hS hA (fun F_36 A_36 H locs hq_36 hP hD hS => ?_)
    obtain ⟨hf_36, ha_36⟩ := hq_36
    rw [hf_36, ha_36] at hP hD
    refine lv_iconst (v := iI (0)) hx hb zd_P_addFiringsOf_39 rfl ?_
    refine lv_istore (lv' := [(4, .int (iI (0))), (0, .ref (q 3)), (1, .int (iI (a))), (2, .int (iI (cnt))), (3, .int (iI (t)))]) hx hb zd_P_addFiringsOf_40 hl (by decide) rfl (fun ls hl => ?_)
    have L_42 : ∀ (fu : Nat) (i : Int)  (F42 : Nat → Int) (A42 : Nat → Int → Int), (0 ≤ i ∧ i ≤ cnt) → (∀ j, j ≠ 303 → j ≠ 304 → F42 j = F j) → (F42 303 = F 303 + i) → (F42 304 = F 304 + max 1 i) → (∀ k, k ≠ 18 → k ≠ 19 → k ≠ 20 → k ≠ 21 → k ≠ 22 → A42 k = A k) → (A42 18 = upI (A 18) a (F 303)) → (∀ x, A42 19 x = if F 303 ≤ x ∧ x < F 303 + i then t else A 19 x) → ((∀ u v w, EIn (F42 304) (A42 20) (A42 21) (A42 22) u v w ↔ EIn (F 304) (A 20) (A 21) (A 22) u v w ∨ (u = F 303 + cnt - 1 ∧ v = F 303 ∧ w = 1) ∨ ∃ x, 1 ≤ x ∧ x < i ∧ u = F 303 + x - 1 ∧ v = F 303 + x ∧ w = 0)) → (cnt - i < (fu : Int)) → ∀ (H : Heap) (locs : List Loc), va_P D zcl (gw q c F42 A42) H → va_D A0 (gw q c F42 A42) → va_S A0 s.heap H locs → ∀ ls : Array Slot, lv_has ls 5 [(0, .ref (q 3)), (1, .int (iI (a))), (2, .int (iI (cnt))), (3, .int (iI (t))), (4, .int (iI (i)))] → W p l e zr_P_addFiringsOf s m args below meth c0 H locs 0 0 Q (F0 m 42 ls []) := by
      intro fu
      induction fu with
      | zero => intro i  F42 A42 hi hF hN2 hE2 hk h18 h19 hed hm_42; exact absurd hm_42 (by omega)
      | succ fu ih_42 =>
        intro i  F42 A42 hi hF hN2 hE2 hk h18 h19 hed hm_42 H locs hP hD hS ls hl
        refine lv_iload hx hb zd_P_addFiringsOf_42 (lv_at hl 4 rfl) ?_
        refine lv_iload_n hx hb zd_P_addFiringsOf_44 rfl (lv_at hl 2 rfl) ?_
        refine x_icmp_ge (tgt := 94) hx hb zd_P_addFiringsOf_45 (by decide) (⟨by omega, by omega⟩) (⟨by omega, by omega⟩) (fun h_45 => ?_) (fun h_45 => ?_)
        · have e_ : i = cnt := by omega
          rw [e_] at hN2 hE2 h19 hed
          exact ret _ _ _ _ _ _ zd_P_addFiringsOf_94 hP hD hS (⟨hF, hN2, by omega, hk, h18, h19, hed⟩)
        · refine lv_aload_n hx hb zd_P_addFiringsOf_48 rfl (lv_at hl 0 rfl) ?_
          refine va_get (D := D) (ci := 3) (v := .ref (q 19)) (C := zR_P) (T := zT_P) (N := 13) hx hb hts zi_P hown hK.1 hP 3 ga_3 rfl 6 (by decide) (hts _ zw_139) (fun _ h9 => h9) rfl zd_P_addFiringsOf_49 ?_
          refine lv_aload_n hx hb zd_P_addFiringsOf_52 rfl (lv_at hl 0 rfl) ?_
          refine va_get (D := D) (ci := 3) (v := .int (iI (F42 303))) (C := zR_P) (T := zT_P) (N := 13) hx hb hts zi_P hown hK.1 hP 3 ga_3 rfl 3 (by decide) (hts _ zw_136) (fun _ h9 => h9) rfl zd_P_addFiringsOf_53 ?_
          refine lv_iload_n hx hb zd_P_addFiringsOf_56 rfl (lv_at hl 3 rfl) ?_
          refine x_iast hx hb hK.1 hP hD hS 19 0 ga_19 rfl (by decide) (by omega) (by omega) zd_P_addFiringsOf_57 (fun H locs hP hD hS => ?_)
          rw [gs_19] at hP hD
          refine lv_iload hx hb zd_P_addFiringsOf_58 (lv_at hl 4 rfl) ?_
          refine x_if_le (tgt := 78) hx hb zd_P_addFiringsOf_60 (by decide) (⟨by omega, by omega⟩) (fun h_60 => ?_) (fun h_60 => ?_)
          · refine lv_aload_n hx hb zd_P_addFiringsOf_78 rfl (lv_at hl 0 rfl) ?_
            refine lv_dup hx hb zd_P_addFiringsOf_79 rfl ?_
            refine va_get (D := D) (ci := 3) (v := .int (iI (F42 303))) (C := zR_P) (T := zT_P) (N := 13) hx hb hts zi_P hown hK.1 hP 3 ga_3 rfl 3 (by decide) (hts _ zw_136) (fun _ h9 => h9) rfl zd_P_addFiringsOf_80 ?_
            refine lv_iconst (v := iI (1)) hx hb zd_P_addFiringsOf_83 rfl ?_
            refine x_iadd hx hb zd_P_addFiringsOf_84 ?_
            refine va_put (D := D) (ci := 3) (v := .int (iI ((F42 303) + 1))) (ty := .int) (C := zR_P) (T := zT_P) (N := 13) hx hb hts zi_P zk_P zo_P zn_P hown hK.1 hP hD hS 3 ga_3 rfl 3 (by decide) (hts _ zw_136) (fun _ h9 => h9) rfl (by decide +kernel) (rfl) (rfl) (Nat.le_of_ble_eq_true rfl) zd_P_addFiringsOf_85 (fun H locs hP hD hS => ?_)
            rw [gs_3_3] at hP hD
            refine lv_iinc (v := iI (i + 1)) (lv' := [(4, .int (iI (i + 1))), (0, .ref (q 3)), (1, .int (iI (a))), (2, .int (iI (cnt))), (3, .int (iI (t)))]) hx hb zd_P_addFiringsOf_88 hl (k := 4) rfl (iI_add _ _) (by decide) rfl (fun ls hl => ?_)
            refine lv_goto (tgt := 42) hx hb zd_P_addFiringsOf_91 (by decide) ?_
            exact ih_42 (i + 1)  (fuP F42 303 ((F42 303) + 1)) (auP A42 19 (F42 303) t) (by first | assumption | omega | (simp_all; done)) (fun j h1 h2 => by simp [fuP, h1, h2, hF j h1 h2]) (by simp [fuP]; omega) (by simp [fuP]; omega) (fun k h1 h2 h3 h4 h5 => by simp [auP, h2, h3, h4, h5, hk k h1 h2 h3 h4 h5]) (by first | exact h18 | simpa [auP] using h18) (by have := st_s hi.1 h19; rw [← hN2] at this; exact this) (fun u v w => by first | exact afo_z2 (hed u v w) (by omega) (by omega) | (have h9 := afo_s (hed u v w) (i := i) (by omega); rw [← hN2] at h9; rw [← h9]; exact EIn_add (by omega) u v w)) (by omega) _ _ hP hD hS ls (lv_sub hl [1, 2, 3, 4, 0] rfl)
          · refine lv_aload_n hx hb zd_P_addFiringsOf_63 rfl (lv_at hl 0 rfl) ?_
            refine lv_aload_n hx hb zd_P_addFiringsOf_64 rfl (lv_at hl 0 rfl) ?_
            refine va_get (D := D) (ci := 3) (v := .int (iI (F42 303))) (C := zR_P) (T := zT_P) (N := 13) hx hb hts zi_P hown hK.1 hP 3 ga_3 rfl 3 (by decide) (hts _ zw_136) (fun _ h9 => h9) rfl zd_P_addFiringsOf_65 ?_
            refine lv_iconst (v := iI (1)) hx hb zd_P_addFiringsOf_68 rfl ?_
            refine x_isub hx hb zd_P_addFiringsOf_69 ?_
            refine lv_aload_n hx hb zd_P_addFiringsOf_70 rfl (lv_at hl 0 rfl) ?_
            refine va_get (D := D) (ci := 3) (v := .int (iI (F42 303))) (C := zR_P) (T := zT_P) (N := 13) hx hb hts zi_P hown hK.1 hP 3 ga_3 rfl 3 (by decide) (hts _ zw_136) (fun _ h9 => h9) rfl zd_P_addFiringsOf_71 ?_
            refine lv_iconst (v := iI (0)) hx hb zd_P_addFiringsOf_74 rfl ?_
            refine z_gov (z_runV (n := 3) (k := 3) (ci := 3) (As := [.int (iI ((F42 303) - 1)), .int (iI (F42 303)), .int (iI (0))]) (rest := []) S (c_P_addEdge l D q c _ F42 (auP A42 19 (F42 303) t) ((F42 303) - 1) (F42 303) 0 (by first | assumption | omega | exact ⟨by omega, by omega⟩) (by first | assumption | omega | exact ⟨by omega, by omega⟩) (by first | assumption | omega | exact ⟨by omega, by omega⟩)) zw_482 zw_484 zs_28 zw_4 zw_485 ⟨by decide +kernel, by decide, rfl, rfl⟩ hK hP hD ga_3 rfl rfl rfl hl.1 rfl (Nat.le_of_ble_eq_true rfl) zd_P_addFiringsOf_75 ⟨Nat.zero_le _, Nat.zero_le _⟩) hD hS hA (fun F_75 A_75 H locs hq_75 hP hD hS => ?_)
            obtain ⟨hf_75, ha_75⟩ := hq_75
            rw [hf_75, ha_75] at hP hD
            refine lv_aload_n hx hb zd_P_addFiringsOf_78 rfl (lv_at hl 0 rfl) ?_
            refine lv_dup hx hb zd_P_addFiringsOf_79 rfl ?_
            refine va_get (D := D) (ci := 3) (v := .int (iI (F42 303))) (C := zR_P) (T := zT_P) (N := 13) hx hb hts zi_P hown hK.1 hP 3 ga_3 rfl 3 (by decide) (hts _ zw_136) (fun _ h9 => h9) rfl zd_P_addFiringsOf_80 ?_
            refine lv_iconst (v := iI (1)) hx hb zd_P_addFiringsOf_83 rfl ?_
            refine x_iadd hx hb zd_P_addFiringsOf_84 ?_
            refine va_put (D := D) (ci := 3) (v := .int (iI ((F42 303) + 1))) (ty := .int) (C := zR_P) (T := zT_P) (N := 13) hx hb hts zi_P zk_P zo_P zn_P hown hK.1 hP hD hS 3 ga_3 rfl 3 (by decide) (hts _ zw_136) (fun _ h9 => h9) rfl (by decide +kernel) (rfl) (rfl) (Nat.le_of_ble_eq_true rfl) zd_P_addFiringsOf_85 (fun H locs hP hD hS => ?_)
            rw [gs_3_3] at hP hD
            refine lv_iinc (v := iI (i + 1)) (lv' := [(4, .int (iI (i + 1))), (0, .ref (q 3)), (1, .int (iI (a))), (2, .int (iI (cnt))), (3, .int (iI (t)))]) hx hb zd_P_addFiringsOf_88 hl (k := 4) rfl (iI_add _ _) (by decide) rfl (fun ls hl => ?_)
            refine lv_goto (tgt := 42) hx hb zd_P_addFiringsOf_91 (by decide) ?_
            exact ih_42 (i + 1)  (fuP (fuP F42 304 ((F42 304) + 1)) 303 ((F42 303) + 1)) (auP (auP (auP (auP A42 19 (F42 303) t) 20 (F42 304) ((F42 303) - 1)) 21 (F42 304) (F42 303)) 22 (F42 304) 0) (by first | assumption | omega | (simp_all; done)) (fun j h1 h2 => by simp [fuP, h1, h2, hF j h1 h2]) (by simp [fuP]; omega) (by simp [fuP]; omega) (fun k h1 h2 h3 h4 h5 => by simp [auP, h2, h3, h4, h5, hk k h1 h2 h3 h4 h5]) (by first | exact h18 | simpa [auP] using h18) (by have := st_s hi.1 h19; rw [← hN2] at this; exact this) (fun u v w => by first | exact afo_z2 (hed u v w) (by omega) (by omega) | (have h9 := afo_s (hed u v w) (i := i) (by omega); rw [← hN2] at h9; rw [← h9]; exact EIn_add (by omega) u v w)) (by omega) _ _ hP hD hS ls (lv_sub hl [1, 2, 3, 4, 0] rfl)
    exact L_42 (((cnt - (0) : Int) + 1).toNat) (0)  (fuP F 304 ((F 304) + 1)) (auP (auP (auP (auP A 18 a (F 303)) 20 (F 304) (((F 303) + cnt) - 1)) 21 (F 304) (F 303)) 22 (F 304) 1) (by first | assumption | omega | (simp_all; done)) (fun j h1 h2 => by simp [fuP, h2]) (by simp [fuP]) (by show F 304 + 1 = F 304 + max 1 0; omega) (fun k h1 h2 h3 h4 h5 => by simp [auP, h1, h3, h4, h5]) (rfl) (fun x => by rw [if_neg (by omega)]; rfl) (fun u v w => afo_z (EIn_add (by omega) u v w) (by omega)) (by omega) _ _ hP hD hS ls (lv_sub hl [1, 2, 3, 4, 0] rfl)
  · omega

abbrev zr_P_beginWithSlowestActor : Room := ({ frames := 1, cells := 0, slots := 0, locals := 29 } : Room)
set_option maxHeartbeats 4000000 in
set_option maxRecDepth 100000 in
theorem c_P_beginWithSlowestActor (l : Launch) (D : va_G) (q : Nat → Nat) (c : Nat → ClassId) (sz : Nat) (F : Nat → Int) (A : Nat → Int → Int) (root : Int) (hn : 1 ≤ F 100 ∧ F 100 ≤ 8) (hc : 0 ≤ F 101 ∧ F 101 ≤ 14) (hact : ∀ a, 0 ≤ a → a < 8 → (1 ≤ A 7 a ∧ A 7 a ≤ 4782969) ∧ 0 ≤ A 8 a ∧ A 8 a < 8) (htm : ∀ a, 0 ≤ a → a < 8 → 1 ≤ A 6 a ∧ A 6 a ≤ 9) (hrt : 0 ≤ root ∧ root < 8) : zMV l zy_P_beginWithSlowestActor zc_P_beginWithSlowestActor 4 none zr_P_beginWithSlowestActor D q c sz [.ref (q 3), .ref (q 1), .int (iI (root))] F A (fun F1 A1 => A1 = A ∧ (∀ j, j ≠ 301 → j ≠ 302 → F1 j = F j) ∧ F1 302 = 1 ∧ (∀ a, 0 ≤ a → a < F 100 → A 8 a = root → A 7 a * A 6 a ≤ F1 301) ∧ (F1 301 = 0 ∨ ∃ a, 0 ≤ a ∧ a < F 100 ∧ A 8 a = root ∧ F1 301 = A 7 a * A 6 a)) := by
  refine z_ofV (by decide) (Nat.le_of_ble_eq_true rfl) ?_
  intro p e s m args below meth c0 A0 Q C0 ret hP hD hS ls hl
  obtain ⟨S, hK, hA⟩ := C0
  have hx := S.1
  have hb := S.2.1
  have hown := S.2.2.2.1
  have hts : ∀ w ∈ zG, w.before args s = true := fun w h => S.2.2.2.2 w (List.mem_cons_of_mem _ h)
  have hl : lv_has ls 4 [(0, .ref (q 3)), (1, .ref (q 1)), (2, .int (iI (root)))] := hl
  refine lv_aload_n hx hb zd_P_beginWithSlowestActor_0 rfl (lv_at hl 0 rfl) ?_
  refine lv_iconst (v := iI (0)) hx hb zd_P_beginWithSlowestActor_1 rfl ?_
  refine va_put (D := D) (ci := 3) (v := .int (iI (0))) (ty := .int) (C := zR_P) (T := zT_P) (N := 13) hx hb hts zi_P zk_P zo_P zn_P hown hK.1 hP hD hS 3 ga_3 rfl 1 (by decide) (hts _ zw_132) (fun _ h9 => h9) rfl (by decide +kernel) (rfl) (rfl) (Nat.le_of_ble_eq_true rfl) zd_P_beginWithSlowestActor_2 (fun H locs hP hD hS => ?_)
  rw [gs_3_1] at hP hD
  refine lv_aload_n hx hb zd_P_beginWithSlowestActor_5 rfl (lv_at hl 0 rfl) ?_
  refine lv_iconst (v := iI (1)) hx hb zd_P_beginWithSlowestActor_6 rfl ?_
  refine va_put (D := D) (ci := 3) (v := .int (iI (1))) (ty := .int) (C := zR_P) (T := zT_P) (N := 13) hx hb hts zi_P zk_P zo_P zn_P hown hK.1 hP hD hS 3 ga_3 rfl 2 (by decide) (hts _ zw_134) (fun _ h9 => h9) rfl (by decide +kernel) (rfl) (rfl) (Nat.le_of_ble_eq_true rfl) zd_P_beginWithSlowestActor_7 (fun H locs hP hD hS => ?_)
  rw [gs_3_2] at hP hD
  refine lv_iconst (v := iI (0)) hx hb zd_P_beginWithSlowestActor_10 rfl ?_
  refine lv_istore_n (lv' := [(3, .int (iI (0))), (0, .ref (q 3)), (1, .ref (q 1)), (2, .int (iI (root)))]) hx hb zd_P_beginWithSlowestActor_11 rfl hl (by decide) rfl (fun ls hl => ?_)
  have L_12 : ∀ (fu : Nat) (i : Int)  (F12 : Nat → Int), (0 ≤ i ∧ i ≤ F 100) → (∀ j, j ≠ 301 → j ≠ 302 → F12 j = F j) → (F12 302 = 1) → (∀ a, 0 ≤ a → a < i → A 8 a = root → A 7 a * A 6 a ≤ F12 301) → (F12 301 = 0 ∨ ∃ a, 0 ≤ a ∧ a < i ∧ A 8 a = root ∧ F12 301 = A 7 a * A 6 a) → (0 ≤ F12 301 ∧ F12 301 ≤ 4782969 * 9) → (F 100 - i < (fu : Int)) → ∀ (H : Heap) (locs : List Loc), va_P D zcl (gw q c F12 A) H → va_D A0 (gw q c F12 A) → va_S A0 s.heap H locs → ∀ ls : Array Slot, lv_has ls 4 [(0, .ref (q 3)), (1, .ref (q 1)), (2, .int (iI (root))), (3, .int (iI (i)))] → W p l e zr_P_beginWithSlowestActor s m args below meth c0 H locs 0 0 Q (F0 m 12 ls []) := by
    intro fu
    induction fu with
    | zero => intro i  F12 hi hF h2 hle hex hb_ hm_12; exact absurd hm_12 (by omega)
    | succ fu ih_12 =>
      intro i  F12 hi hF h2 hle hex hb_ hm_12 H locs hP hD hS ls hl
      have e100 := hF 100 (by decide) (by decide)
      refine lv_iload_n hx hb zd_P_beginWithSlowestActor_12 rfl (lv_at hl 3 rfl) ?_
      refine lv_aload_n hx hb zd_P_beginWithSlowestActor_13 rfl (lv_at hl 1 rfl) ?_
      refine va_getN (D := D) (ci := 1) (v := .int (iI (F12 100))) (C := zR_N) (T := zT_N) (N := 11) hx hb hts zi_N hown hK.1 hP 1 ga_1 rfl 0 (by decide) (zNW.use hK.2 zw_35) (fun _ h9 => h9) rfl zd_P_beginWithSlowestActor_14 ?_
      refine x_icmp_ge (tgt := 60) hx hb zd_P_beginWithSlowestActor_17 (by decide) (⟨by omega, by omega⟩) (⟨by omega, by omega⟩) (fun h_17 => ?_) (fun h_17 => ?_)
      · exact ret _ _ _ _ _ _ zd_P_beginWithSlowestActor_60 hP hD hS (⟨rfl, hF, h2, fun a h0 h1 h3 => hle a h0 (by omega) h3, bs_e hex (by omega)⟩)
      · have hc_ := hact i (by omega) (by omega)
        have ht_ := htm i (by omega) (by omega)
        have hm_ := mulb hc_.1 ht_
        refine lv_aload_n hx hb zd_P_beginWithSlowestActor_20 rfl (lv_at hl 1 rfl) ?_
        refine va_getN (D := D) (ci := 1) (v := .ref (q 8)) (C := zR_N) (T := zT_N) (N := 11) hx hb hts zi_N hown hK.1 hP 1 ga_1 rfl 5 (by decide) (zNW.use hK.2 zw_52) (fun _ h9 => h9) rfl zd_P_beginWithSlowestActor_21 ?_
        refine lv_iload_n hx hb zd_P_beginWithSlowestActor_24 rfl (lv_at hl 3 rfl) ?_
        refine x_iald (v := A 8 i) hx hb hK.1 hP 8 0 ga_8 rfl (by decide) (by omega) (by omega) (rfl) zd_P_beginWithSlowestActor_25 ?_
        refine lv_iload_n hx hb zd_P_beginWithSlowestActor_26 rfl (lv_at hl 2 rfl) ?_
        refine x_icmp_ne (tgt := 54) hx hb zd_P_beginWithSlowestActor_27 (by decide) (⟨by omega, by omega⟩) (⟨by omega, by omega⟩) (fun h_27 => ?_) (fun h_27 => ?_)
        · refine lv_iinc (v := iI (i + 1)) (lv' := [(3, .int (iI (i + 1))), (0, .ref (q 3)), (1, .ref (q 1)), (2, .int (iI (root)))]) hx hb zd_P_beginWithSlowestActor_54 hl (k := 3) rfl (iI_add _ _) (by decide) rfl (fun ls hl => ?_)
          refine lv_goto (tgt := 12) hx hb zd_P_beginWithSlowestActor_57 (by decide) ?_
          exact ih_12 (i + 1)  F12 (by first | assumption | omega | (simp_all; done)) (fun j h1 h2 => by first | exact hF j h1 h2 | simp [fuP, h1, hF j h1 h2]) (by first | exact h2 | simpa [fuP] using h2) (fun a h0 h1 h2 => by by_cases e_ : a = i; (subst e_; first | omega | (simp [fuP]; omega)); (have := hle a h0 (by omega) h2; first | exact this | (simp [fuP]; omega))) (by first | exact bs_n hex | exact bs_y hex hi.1 h_27) (by first | exact hb_ | (simp [fuP]; omega)) (by omega) _ _ hP hD hS ls (lv_sub hl [1, 2, 3, 0] rfl)
        · refine lv_aload_n hx hb zd_P_beginWithSlowestActor_30 rfl (lv_at hl 0 rfl) ?_
          refine lv_aload_n hx hb zd_P_beginWithSlowestActor_31 rfl (lv_at hl 0 rfl) ?_
          refine va_get (D := D) (ci := 3) (v := .int (iI (F12 301))) (C := zR_P) (T := zT_P) (N := 13) hx hb hts zi_P hown hK.1 hP 3 ga_3 rfl 1 (by decide) (hts _ zw_132) (fun _ h9 => h9) rfl zd_P_beginWithSlowestActor_32 ?_
          refine lv_aload_n hx hb zd_P_beginWithSlowestActor_35 rfl (lv_at hl 1 rfl) ?_
          refine va_getN (D := D) (ci := 1) (v := .ref (q 7)) (C := zR_N) (T := zT_N) (N := 11) hx hb hts zi_N hown hK.1 hP 1 ga_1 rfl 4 (by decide) (zNW.use hK.2 zw_49) (fun _ h9 => h9) rfl zd_P_beginWithSlowestActor_36 ?_
          refine lv_iload_n hx hb zd_P_beginWithSlowestActor_39 rfl (lv_at hl 3 rfl) ?_
          refine x_iald (v := A 7 i) hx hb hK.1 hP 7 0 ga_7 rfl (by decide) (by omega) (by omega) (rfl) zd_P_beginWithSlowestActor_40 ?_
          refine lv_aload_n hx hb zd_P_beginWithSlowestActor_41 rfl (lv_at hl 1 rfl) ?_
          refine va_getN (D := D) (ci := 1) (v := .ref (q 6)) (C := zR_N) (T := zT_N) (N := 11) hx hb hts zi_N hown hK.1 hP 1 ga_1 rfl 3 (by decide) (zNW.use hK.2 zw_45) (fun _ h9 => h9) rfl zd_P_beginWithSlowestActor_42 ?_
          refine lv_iload_n hx hb zd_P_beginWithSlowestActor_45 rfl (lv_at hl 3 rfl) ?_
          refine x_iald (v := A 6 i) hx hb hK.1 hP 6 0 ga_6 rfl (by decide) (by omega) (by omega) (rfl) zd_P_beginWithSlowestActor_46 ?_
          refine x_imul hx hb zd_P_beginWithSlowestActor_47 ?_
          refine x_mmax hx hb (S.2.2.1.trans hl.1.symm) hown (hts _ zw_504) (hts _ zw_248) (hts _ zw_7) (hts _ zw_249) (by decide) (Nat.le_of_ble_eq_true rfl) (Nat.zero_le _) (Nat.zero_le _) (⟨by omega, by omega⟩) (⟨by omega, by omega⟩) zd_P_beginWithSlowestActor_48 ?_
          refine va_put (D := D) (ci := 3) (v := .int (iI (max (F12 301) ((A 7 i) * (A 6 i))))) (ty := .int) (C := zR_P) (T := zT_P) (N := 13) hx hb hts zi_P zk_P zo_P zn_P hown hK.1 hP hD hS 3 ga_3 rfl 1 (by decide) (hts _ zw_132) (fun _ h9 => h9) rfl (by decide +kernel) (rfl) (rfl) (Nat.le_of_ble_eq_true rfl) zd_P_beginWithSlowestActor_51 (fun H locs hP hD hS => ?_)
          rw [gs_3_1] at hP hD
          refine lv_iinc (v := iI (i + 1)) (lv' := [(3, .int (iI (i + 1))), (0, .ref (q 3)), (1, .ref (q 1)), (2, .int (iI (root)))]) hx hb zd_P_beginWithSlowestActor_54 hl (k := 3) rfl (iI_add _ _) (by decide) rfl (fun ls hl => ?_)
          refine lv_goto (tgt := 12) hx hb zd_P_beginWithSlowestActor_57 (by decide) ?_
          exact ih_12 (i + 1)  (fuP F12 301 (max (F12 301) ((A 7 i) * (A 6 i)))) (by first | assumption | omega | (simp_all; done)) (fun j h1 h2 => by first | exact hF j h1 h2 | simp [fuP, h1, hF j h1 h2]) (by first | exact h2 | simpa [fuP] using h2) (fun a h0 h1 h2 => by by_cases e_ : a = i; (subst e_; first | omega | (simp [fuP]; omega)); (have := hle a h0 (by omega) h2; first | exact this | (simp [fuP]; omega))) (by first | exact bs_n hex | exact bs_y hex hi.1 h_27) (by first | exact hb_ | (simp [fuP]; omega)) (by omega) _ _ hP hD hS ls (lv_sub hl [1, 2, 3, 0] rfl)
  exact L_12 (((F 100 - (0) : Int) + 1).toNat) (0)  (fuP (fuP F 301 0) 302 1) (by first | assumption | omega | (simp_all; done)) (fun j h1 h2 => by simp [fuP, h1, h2]) (rfl) (fun a h0 h1 => by omega) (Or.inl rfl) (by simp [fuP]) (by omega) _ _ hP hD hS ls (lv_sub hl [1, 2, 3, 0] rfl)
end
section
/-- how many firings of a part lie ahead of an actor's -/
def gS (A : Nat → Int → Int) (root : Int) (b : Int) : Int := if A 8 b = root then A 7 b else 0
theorem sI_mon {f : Int → Int} {n : Int} (hf : ∀ a, 0 ≤ a → a < n → 0 ≤ f a) : ∀ i, 0 ≤ i → ∀ j, i ≤ j → j ≤ n → sI f i ≤ sI f j := by
  intro i hi
  have key : ∀ d : Nat, i + d ≤ n → sI f i ≤ sI f (i + d) := by
    intro d
    induction d with
    | zero => intro _; simp
    | succ d ih =>
      intro h
      have h1 := ih (by omega)
      have h2 := sI_s (f := f) (i := i + d) (by omega)
      have h3 := hf (i + d) (by omega) (by omega)
      rw [show i + ((d + 1 : Nat) : Int) = i + d + 1 by omega]
      omega
  intro j h1 h2
  have := key (j - i).toNat (by omega)
  rwa [show i + ((j - i).toNat : Int) = j by omega] at this
theorem gS_nn {A : Nat → Int → Int} {root : Int} (hact : ∀ a, 0 ≤ a → a < 8 → (1 ≤ A 7 a ∧ A 7 a ≤ 4782969) ∧ 0 ≤ A 8 a ∧ A 8 a < 8) {n : Int} (hn : n ≤ 8) : ∀ a, 0 ≤ a → a < n → 0 ≤ gS A root a := by
  intro a h0 h1
  have := hact a h0 (by omega)
  unfold gS
  split <;> omega
theorem gS_in {A : Nat → Int → Int} {root b : Int} (hact : ∀ a, 0 ≤ a → a < 8 → (1 ≤ A 7 a ∧ A 7 a ≤ 4782969) ∧ 0 ≤ A 8 a ∧ A 8 a < 8) {n : Int} (hn : n ≤ 8) (h0 : 0 ≤ b) (h1 : b < n) (hr : A 8 b = root) {i : Int} (hi : b < i) (hi2 : i ≤ n) : 0 ≤ sI (gS A root) b ∧ sI (gS A root) b + A 7 b ≤ sI (gS A root) i := by
  have m1 := sI_mon (gS_nn (root := root) hact hn) 0 (by omega) b h0 (by omega)
  have m2 := sI_mon (gS_nn (root := root) hact hn) (b + 1) (by omega) i (by omega) hi2
  rw [sI_s h0] at m2
  have e : gS A root b = A 7 b := by unfold gS; rw [if_pos hr]
  rw [sI_0] at m1
  omega
/-- the edges of the firings of the actors below i -/
def fE (A : Nat → Int → Int) (root i u v w : Int) : Prop := ∃ b, 0 ≤ b ∧ b < i ∧ A 8 b = root ∧ ((u = sI (gS A root) b + A 7 b - 1 ∧ v = sI (gS A root) b ∧ w = 1) ∨ ∃ x, 1 ≤ x ∧ x < A 7 b ∧ u = sI (gS A root) b + x - 1 ∧ v = sI (gS A root) b + x ∧ w = 0)
theorem fE_n {A : Nat → Int → Int} {root i u v w : Int} (h : ¬ A 8 i = root) : fE A root (i + 1) u v w ↔ fE A root i u v w := by
  constructor
  · rintro ⟨b, h0, h1, h2, h3⟩
    by_cases e : b = i
    · subst e; exact absurd h2 h
    · exact ⟨b, h0, by omega, h2, h3⟩
  · rintro ⟨b, h0, h1, h2, h3⟩
    exact ⟨b, h0, by omega, h2, h3⟩
theorem fE_y {A : Nat → Int → Int} {root i u v w : Int} (hi : 0 ≤ i) (h : A 8 i = root) : fE A root (i + 1) u v w ↔ fE A root i u v w ∨ (u = sI (gS A root) i + A 7 i - 1 ∧ v = sI (gS A root) i ∧ w = 1) ∨ ∃ x, 1 ≤ x ∧ x < A 7 i ∧ u = sI (gS A root) i + x - 1 ∧ v = sI (gS A root) i + x ∧ w = 0 := by
  constructor
  · rintro ⟨b, h0, h1, h2, h3⟩
    by_cases e : b = i
    · subst e; exact Or.inr h3
    · exact Or.inl ⟨b, h0, by omega, h2, h3⟩
  · rintro (⟨b, h0, h1, h2, h3⟩ | h3)
    · exact ⟨b, h0, by omega, h2, h3⟩
    · exact ⟨i, hi, by omega, h, h3⟩
theorem gS_s {A : Nat → Int → Int} {root i : Int} (hi : 0 ≤ i) : sI (gS A root) (i + 1) = sI (gS A root) i + if A 8 i = root then A 7 i else 0 := sI_s hi
/-- which firing puts the last token that firing j takes -/
def wf (A : Nat → Int → Int) (k j : Int) : Int := ((j + 1) * A 12 k - A 13 k - 1) / A 11 k
def wE (A : Nat → Int → Int) (k i u v w : Int) : Prop := ∃ j, 0 ≤ j ∧ j < i ∧ u = A 18 (A 9 k) + wf A k j % A 7 (A 9 k) ∧ v = A 18 (A 10 k) + j ∧ w = -(wf A k j / A 7 (A 9 k))
theorem wE_s {A : Nat → Int → Int} {P b : Prop} {k i u v w : Int} (h : P ↔ b ∨ wE A k i u v w) (hi : 0 ≤ i) : (P ∨ (u = A 18 (A 9 k) + wf A k i % A 7 (A 9 k) ∧ v = A 18 (A 10 k) + i ∧ w = -(wf A k i / A 7 (A 9 k)))) ↔ b ∨ wE A k (i + 1) u v w := by
  rw [h]
  constructor
  · rintro ((h | ⟨j, h0, h1, h2⟩) | h)
    · exact Or.inl h
    · exact Or.inr ⟨j, h0, by omega, h2⟩
    · exact Or.inr ⟨i, hi, by omega, h⟩
  · rintro (h | ⟨j, h0, h1, h2⟩)
    · exact Or.inl (Or.inl h)
    · by_cases e : j = i
      · subst e; exact Or.inr h2
      · exact Or.inl (Or.inr ⟨j, h0, by omega, h2⟩)
/-- the waits of the channels below i of a part -/
def wA (A : Nat → Int → Int) (root i u v w : Int) : Prop := ∃ k, 0 ≤ k ∧ k < i ∧ A 8 (A 9 k) = root ∧ wE A k (A 7 (A 10 k)) u v w
theorem wA_n {A : Nat → Int → Int} {P b : Prop} {root i u v w : Int} (h : P ↔ b ∨ wA A root i u v w) (hr : ¬ A 8 (A 9 i) = root) : P ↔ b ∨ wA A root (i + 1) u v w := by
  rw [h]
  constructor
  · rintro (h | ⟨k, h0, h1, h2⟩)
    · exact Or.inl h
    · exact Or.inr ⟨k, h0, by omega, h2⟩
  · rintro (h | ⟨k, h0, h1, h2, h3⟩)
    · exact Or.inl h
    · by_cases e : k = i
      · subst e; exact absurd h2 hr
      · exact Or.inr ⟨k, h0, by omega, h2, h3⟩
theorem wA_y {A : Nat → Int → Int} {P b : Prop} {root i u v w : Int} (h : P ↔ b ∨ wA A root i u v w) (hi : 0 ≤ i) (hr : A 8 (A 9 i) = root) : (P ∨ wE A i (A 7 (A 10 i)) u v w) ↔ b ∨ wA A root (i + 1) u v w := by
  rw [h]
  constructor
  · rintro ((h | ⟨k, h0, h1, h2⟩) | h)
    · exact Or.inl h
    · exact Or.inr ⟨k, h0, by omega, h2⟩
    · exact Or.inr ⟨i, hi, by omega, hr, h⟩
  · rintro (h | ⟨k, h0, h1, h2, h3⟩)
    · exact Or.inl (Or.inl h)
    · by_cases e : k = i
      · subst e; exact Or.inr h3
      · exact Or.inl (Or.inr ⟨k, h0, by omega, h2, h3⟩)
abbrev zr_P_addFirings : Room := ({ frames := 2, cells := 0, slots := 0, locals := 47 } : Room)
set_option maxHeartbeats 4000000 in
set_option maxRecDepth 100000 in
theorem c_P_addFirings (l : Launch) (D : va_G) (q : Nat → Nat) (c : Nat → ClassId) (sz : Nat) (F : Nat → Int) (A : Nat → Int → Int) (root : Int) (hn : 1 ≤ F 100 ∧ F 100 ≤ 8) (hc : 0 ≤ F 101 ∧ F 101 ≤ 14) (hact : ∀ a, 0 ≤ a → a < 8 → (1 ≤ A 7 a ∧ A 7 a ≤ 4782969) ∧ 0 ≤ A 8 a ∧ A 8 a < 8) (htm : ∀ a, 0 ≤ a → a < 8 → 1 ≤ A 6 a ∧ A 6 a ≤ 9) (hrt : 0 ≤ root ∧ root < 8) (hsum : sI (gS A root) (F 100) ≤ 40) : zMV l zy_P_addFirings zc_P_addFirings 4 none zr_P_addFirings D q c sz [.ref (q 3), .ref (q 1), .int (iI (root))] F A (fun F1 A1 => (∀ j, j ≠ 303 → j ≠ 304 → F1 j = F j) ∧ (F1 303 = sI (gS A root) (F 100)) ∧ (F1 304 = sI (gS A root) (F 100)) ∧ (∀ k, k ≠ 18 → k ≠ 19 → k ≠ 20 → k ≠ 21 → k ≠ 22 → A1 k = A k) ∧ (∀ b, 0 ≤ b → b < (F 100) → A 8 b = root → A1 18 b = sI (gS A root) b) ∧ (∀ b, 0 ≤ b → b < (F 100) → A 8 b = root → ∀ x, 0 ≤ x → x < A 7 b → A1 19 (sI (gS A root) b + x) = A 6 b) ∧ (∀ u v w, EIn (F1 304) (A1 20) (A1 21) (A1 22) u v w ↔ fE A root (F 100) u v w)) := by
  refine z_ofV (by decide) (Nat.le_of_ble_eq_true rfl) ?_
  intro p e s m args below meth c0 A0 Q C0 ret hP hD hS ls hl
  obtain ⟨S, hK, hA⟩ := C0
  have hx := S.1
  have hb := S.2.1
  have hown := S.2.2.2.1
  have hts : ∀ w ∈ zG, w.before args s = true := fun w h => S.2.2.2.2 w (List.mem_cons_of_mem _ h)
  have hl : lv_has ls 4 [(0, .ref (q 3)), (1, .ref (q 1)), (2, .int (iI (root)))] := hl
  refine lv_aload_n hx hb zd_P_addFirings_0 rfl (lv_at hl 0 rfl) ?_
  refine lv_iconst (v := iI (0)) hx hb zd_P_addFirings_1 rfl ?_
  refine va_put (D := D) (ci := 3) (v := .int (iI (0))) (ty := .int) (C := zR_P) (T := zT_P) (N := 13) hx hb hts zi_P zk_P zo_P zn_P hown hK.1 hP hD hS 3 ga_3 rfl 3 (by decide) (hts _ zw_136) (fun _ h9 => h9) rfl (by decide +kernel) (rfl) (rfl) (Nat.le_of_ble_eq_true rfl) zd_P_addFirings_2 (fun H locs hP hD hS => ?_)
  rw [gs_3_3] at hP hD
  refine lv_aload_n hx hb zd_P_addFirings_5 rfl (lv_at hl 0 rfl) ?_
  refine lv_iconst (v := iI (0)) hx hb zd_P_addFirings_6 rfl ?_
  refine va_put (D := D) (ci := 3) (v := .int (iI (0))) (ty := .int) (C := zR_P) (T := zT_P) (N := 13) hx hb hts zi_P zk_P zo_P zn_P hown hK.1 hP hD hS 3 ga_3 rfl 4 (by decide) (hts _ zw_137) (fun _ h9 => h9) rfl (by decide +kernel) (rfl) (rfl) (Nat.le_of_ble_eq_true rfl) zd_P_addFirings_7 (fun H locs hP hD hS => ?_)
  rw [gs_3_4] at hP hD
  refine lv_iconst (v := iI (0)) hx hb zd_P_addFirings_10 rfl ?_
  refine lv_istore_n (lv' := [(3, .int (iI (0))), (0, .ref (q 3)), (1, .ref (q 1)), (2, .int (iI (root)))]) hx hb zd_P_addFirings_11 rfl hl (by decide) rfl (fun ls hl => ?_)
  have L_12 : ∀ (fu : Nat) (i : Int)  (F12 : Nat → Int) (A12 : Nat → Int → Int), (0 ≤ i ∧ i ≤ F 100) → (∀ j, j ≠ 303 → j ≠ 304 → F12 j = F j) → (F12 303 = sI (gS A root) i) → (F12 304 = sI (gS A root) i) → (∀ k, k ≠ 18 → k ≠ 19 → k ≠ 20 → k ≠ 21 → k ≠ 22 → A12 k = A k) → (∀ b, 0 ≤ b → b < i → A 8 b = root → A12 18 b = sI (gS A root) b) → (∀ b, 0 ≤ b → b < i → A 8 b = root → ∀ x, 0 ≤ x → x < A 7 b → A12 19 (sI (gS A root) b + x) = A 6 b) → (∀ u v w, EIn (F12 304) (A12 20) (A12 21) (A12 22) u v w ↔ fE A root i u v w) → (F 100 - i < (fu : Int)) → ∀ (H : Heap) (locs : List Loc), va_P D zcl (gw q c F12 A12) H → va_D A0 (gw q c F12 A12) → va_S A0 s.heap H locs → ∀ ls : Array Slot, lv_has ls 4 [(0, .ref (q 3)), (1, .ref (q 1)), (2, .int (iI (root))), (3, .int (iI (i)))] → W p l e zr_P_addFirings s m args below meth c0 H locs 0 0 Q (F0 m 12 ls []) := by
    intro fu
    induction fu with
    | zero => intro i  F12 A12 hi hF h303 h304 hk h18 h19 hed hm_12; exact absurd hm_12 (by omega)
    | succ fu ih_12 =>
      intro i  F12 A12 hi hF h303 h304 hk h18 h19 hed hm_12 H locs hP hD hS ls hl
      have e100 := hF 100 (by decide) (by decide)
      have e6 := hk 6 (by decide) (by decide) (by decide) (by decide) (by decide)
      have e7 := hk 7 (by decide) (by decide) (by decide) (by decide) (by decide)
      have e8 := hk 8 (by decide) (by decide) (by decide) (by decide) (by decide)
      refine lv_iload_n hx hb zd_P_addFirings_12 rfl (lv_at hl 3 rfl) ?_
      refine lv_aload_n hx hb zd_P_addFirings_13 rfl (lv_at hl 1 rfl) ?_
      refine va_getN (D := D) (ci := 1) (v := .int (iI (F12 100))) (C := zR_N) (T := zT_N) (N := 11) hx hb hts zi_N hown hK.1 hP 1 ga_1 rfl 0 (by decide) (zNW.use hK.2 zw_35) (fun _ h9 => h9) rfl zd_P_addFirings_14 ?_
      refine x_icmp_ge (tgt := 53) hx hb zd_P_addFirings_17 (by decide) (⟨by omega, by omega⟩) (⟨by omega, by omega⟩) (fun h_17 => ?_) (fun h_17 => ?_)
      · have e_ : i = F 100 := by omega
        subst e_
        exact ret _ _ _ _ _ _ zd_P_addFirings_53 hP hD hS (⟨hF, h303, h304, hk, h18, h19, hed⟩)
      · have hc_ := hact i (by omega) (by omega)
        have ht_ := htm i (by omega) (by omega)
        refine lv_aload_n hx hb zd_P_addFirings_20 rfl (lv_at hl 1 rfl) ?_
        refine va_getN (D := D) (ci := 1) (v := .ref (q 8)) (C := zR_N) (T := zT_N) (N := 11) hx hb hts zi_N hown hK.1 hP 1 ga_1 rfl 5 (by decide) (zNW.use hK.2 zw_52) (fun _ h9 => h9) rfl zd_P_addFirings_21 ?_
        refine lv_iload_n hx hb zd_P_addFirings_24 rfl (lv_at hl 3 rfl) ?_
        refine x_iald (v := A 8 i) hx hb hK.1 hP 8 0 ga_8 rfl (by decide) (by omega) (by omega) (by rw [e8]) zd_P_addFirings_25 ?_
        refine lv_iload_n hx hb zd_P_addFirings_26 rfl (lv_at hl 2 rfl) ?_
        refine x_icmp_ne (tgt := 47) hx hb zd_P_addFirings_27 (by decide) (⟨by omega, by omega⟩) (⟨by omega, by omega⟩) (fun h_27 => ?_) (fun h_27 => ?_)
        · have hs_ : sI (gS A root) (i + 1) = sI (gS A root) i := by rw [gS_s hi.1, if_neg h_27]; omega
          refine lv_iinc (v := iI (i + 1)) (lv' := [(3, .int (iI (i + 1))), (0, .ref (q 3)), (1, .ref (q 1)), (2, .int (iI (root)))]) hx hb zd_P_addFirings_47 hl (k := 3) rfl (iI_add _ _) (by decide) rfl (fun ls hl => ?_)
          refine lv_goto (tgt := 12) hx hb zd_P_addFirings_50 (by decide) ?_
          exact ih_12 (i + 1)  F12 A12 (by first | assumption | omega | (simp_all; done)) (by first | exact hF | exact fun j h1 h2 => (g1 j h1 h2).trans (hF j h1 h2)) (by first | (rw [hs_]; exact h303) | (rw [g2, gS_s hi.1, if_pos h_27, h303])) (by first | (rw [hs_]; exact h304) | (rw [g3, gS_s hi.1, if_pos h_27, h304])) (by first | exact hk | exact fun k h1 h2 h3 h4 h5 => (g4 k h1 h2 h3 h4 h5).trans (hk k h1 h2 h3 h4 h5)) (fun b h0 h1 h2 => by first | (have e_ : b ≠ i := (fun e => h_27 (e ▸ h2)); exact h18 b h0 (by omega) h2) | (rw [g5]; by_cases e_ : b = i; (rw [e_, upI_s, h303]); (rw [upI_n e_]; exact h18 b h0 (by omega) h2))) (fun b h0 h1 h2 x h3 h4 => by first | (have e_ : b ≠ i := (fun e => h_27 (e ▸ h2)); exact h19 b h0 (by omega) h2 x h3 h4) | (rw [g6]; by_cases e_ : b = i; (subst e_; rw [if_pos (by omega)]); (have hb_ := gS_in (n := F 100) hact hn.2 h0 (by omega) h2 (i := i) (by omega) (by omega); rw [if_neg (by omega)]; exact h19 b h0 (by omega) h2 x h3 h4))) (fun u v w => by first | exact (hed u v w).trans (fE_n h_27).symm | (rw [g7 u v w, hed u v w, fE_y hi.1 h_27, h303])) (by omega) _ _ hP hD hS ls (lv_sub hl [1, 2, 3, 0] rfl)
        · have hg_ := gS_in (n := F 100) hact hn.2 hi.1 (by omega) h_27 (i := F 100) (by omega) (by omega)
          refine lv_aload_n hx hb zd_P_addFirings_30 rfl (lv_at hl 0 rfl) ?_
          refine lv_iload_n hx hb zd_P_addFirings_31 rfl (lv_at hl 3 rfl) ?_
          refine lv_aload_n hx hb zd_P_addFirings_32 rfl (lv_at hl 1 rfl) ?_
          refine va_getN (D := D) (ci := 1) (v := .ref (q 7)) (C := zR_N) (T := zT_N) (N := 11) hx hb hts zi_N hown hK.1 hP 1 ga_1 rfl 4 (by decide) (zNW.use hK.2 zw_49) (fun _ h9 => h9) rfl zd_P_addFirings_33 ?_
          refine lv_iload_n hx hb zd_P_addFirings_36 rfl (lv_at hl 3 rfl) ?_
          refine x_iald (v := A 7 i) hx hb hK.1 hP 7 0 ga_7 rfl (by decide) (by omega) (by omega) (by rw [e7]) zd_P_addFirings_37 ?_
          refine lv_aload_n hx hb zd_P_addFirings_38 rfl (lv_at hl 1 rfl) ?_
          refine va_getN (D := D) (ci := 1) (v := .ref (q 6)) (C := zR_N) (T := zT_N) (N := 11) hx hb hts zi_N hown hK.1 hP 1 ga_1 rfl 3 (by decide) (zNW.use hK.2 zw_45) (fun _ h9 => h9) rfl zd_P_addFirings_39 ?_
          refine lv_iload_n hx hb zd_P_addFirings_42 rfl (lv_at hl 3 rfl) ?_
          refine x_iald (v := A 6 i) hx hb hK.1 hP 6 0 ga_6 rfl (by decide) (by omega) (by omega) (by rw [e6]) zd_P_addFirings_43 ?_
          refine z_gov (z_runV (n := 3) (k := 3) (ci := 3) (As := [.int (iI (i)), .int (iI (A 7 i)), .int (iI (A 6 i))]) (rest := []) S (c_P_addFiringsOf l D q c _ F12 A12 i (A 7 i) (A 6 i) (by first | assumption | omega | exact ⟨by omega, by omega⟩) (by first | assumption | omega | exact ⟨by omega, by omega⟩) (by first | assumption | omega | exact ⟨by omega, by omega⟩) (by first | assumption | omega | exact ⟨by omega, by omega⟩)) zw_478 zw_480 zs_27 zw_4 zw_481 ⟨by decide +kernel, by decide, rfl, rfl⟩ hK hP hD ga_3 rfl rfl rfl hl.1 rfl (Nat.le_of_ble_eq_true rfl) zd_P_addFirings_44 ⟨Nat.zero_le _, Nat.zero_le _⟩) hD hS hA (fun F_44 A_44 H locs hq_44 hP hD hS => ?_)
          obtain ⟨g1, g2, g3, g4, g5, g6, g7⟩ := hq_44
          refine lv_iinc (v := iI (i + 1)) (lv' := [(3, .int (iI (i + 1))), (0, .ref (q 3)), (1, .ref (q 1)), (2, .int (iI (root)))]) hx hb zd_P_addFirings_47 hl (k := 3) rfl (iI_add _ _) (by decide) rfl (fun ls hl => ?_)
          refine lv_goto (tgt := 12) hx hb zd_P_addFirings_50 (by decide) ?_
          exact ih_12 (i + 1)  F_44 A_44 (by first | assumption | omega | (simp_all; done)) (by first | exact hF | exact fun j h1 h2 => (g1 j h1 h2).trans (hF j h1 h2)) (by first | (rw [hs_]; exact h303) | (rw [g2, gS_s hi.1, if_pos h_27, h303])) (by first | (rw [hs_]; exact h304) | (rw [g3, gS_s hi.1, if_pos h_27, h304])) (by first | exact hk | exact fun k h1 h2 h3 h4 h5 => (g4 k h1 h2 h3 h4 h5).trans (hk k h1 h2 h3 h4 h5)) (fun b h0 h1 h2 => by first | (have e_ : b ≠ i := (fun e => h_27 (e ▸ h2)); exact h18 b h0 (by omega) h2) | (rw [g5]; by_cases e_ : b = i; (rw [e_, upI_s, h303]); (rw [upI_n e_]; exact h18 b h0 (by omega) h2))) (fun b h0 h1 h2 x h3 h4 => by first | (have e_ : b ≠ i := (fun e => h_27 (e ▸ h2)); exact h19 b h0 (by omega) h2 x h3 h4) | (rw [g6]; by_cases e_ : b = i; (subst e_; rw [if_pos (by omega)]); (have hb_ := gS_in (n := F 100) hact hn.2 h0 (by omega) h2 (i := i) (by omega) (by omega); rw [if_neg (by omega)]; exact h19 b h0 (by omega) h2 x h3 h4))) (fun u v w => by first | exact (hed u v w).trans (fE_n h_27).symm | (rw [g7 u v w, hed u v w, fE_y hi.1 h_27, h303])) (by omega) _ _ hP hD hS ls (lv_sub hl [1, 2, 3, 0] rfl)
  exact L_12 (((F 100 - (0) : Int) + 1).toNat) (0)  (fuP (fuP F 303 0) 304 0) A (by first | assumption | omega | (simp_all; done)) (fun j h1 h2 => by simp [fuP, h1, h2]) (rfl) (rfl) (fun k _ _ _ _ _ => rfl) (fun b h0 h1 => by omega) (fun b h0 h1 => by omega) (fun u v w => ⟨fun ⟨e, h0, h1, _⟩ => by simp [fuP] at h1; omega, fun ⟨b, h0, h1, _⟩ => by omega⟩) (by omega) _ _ hP hD hS ls (lv_sub hl [1, 2, 3, 0] rfl)

abbrev zr_P_addWaitsOf : Room := ({ frames := 1, cells := 0, slots := 0, locals := 23 } : Room)
set_option maxHeartbeats 4000000 in
set_option maxRecDepth 100000 in
theorem c_P_addWaitsOf (l : Launch) (D : va_G) (q : Nat → Nat) (c : Nat → ClassId) (sz : Nat) (F : Nat → Int) (A : Nat → Int → Int) (k : Int) (hn : 1 ≤ F 100 ∧ F 100 ≤ 8) (hc : 0 ≤ F 101 ∧ F 101 ≤ 14) (hact : ∀ a, 0 ≤ a → a < 8 → (1 ≤ A 7 a ∧ A 7 a ≤ 4782969) ∧ 0 ≤ A 8 a ∧ A 8 a < 8) (hch : ∀ k, 0 ≤ k → k < F 101 → (0 ≤ A 9 k ∧ A 9 k < F 100) ∧ (0 ≤ A 10 k ∧ A 10 k < F 100) ∧ (1 ≤ A 11 k ∧ A 11 k ≤ 9) ∧ (1 ≤ A 12 k ∧ A 12 k ≤ 9) ∧ 0 ≤ A 13 k ∧ A 13 k ≤ 99) (hk0 : 0 ≤ k ∧ k < F 101) (hf1 : 0 ≤ A 18 (A 9 k) ∧ A 18 (A 9 k) + A 7 (A 9 k) ≤ 40) (hf2 : 0 ≤ A 18 (A 10 k) ∧ A 18 (A 10 k) + A 7 (A 10 k) ≤ 40) (hE : 0 ≤ F 304 ∧ F 304 + A 7 (A 10 k) ≤ 600) : zMV l zy_P_addWaitsOf zc_P_addWaitsOf 12 none zr_P_addWaitsOf D q c sz [.ref (q 3), .ref (q 1), .int (iI (k))] F A (fun F1 A1 => (∀ j, j ≠ 304 → F1 j = F j) ∧ (∀ k, k ≠ 20 → k ≠ 21 → k ≠ 22 → A1 k = A k) ∧ F1 304 = F 304 + A 7 (A 10 k) ∧ ∀ u v w, EIn (F1 304) (A1 20) (A1 21) (A1 22) u v w ↔ EIn (F 304) (A 20) (A 21) (A 22) u v w ∨ wE A k (A 7 (A 10 k)) u v w) := by
  refine z_ofV (by decide) (Nat.le_of_ble_eq_true rfl) ?_
  intro p e s m args below meth c0 A0 Q C0 ret hP hD hS ls hl
  obtain ⟨S, hK, hA⟩ := C0
  have hx := S.1
  have hb := S.2.1
  have hown := S.2.2.2.1
  have hts : ∀ w ∈ zG, w.before args s = true := fun w h => S.2.2.2.2 w (List.mem_cons_of_mem _ h)
  have hl : lv_has ls 12 [(0, .ref (q 3)), (1, .ref (q 1)), (2, .int (iI (k)))] := hl
  have hc_ := hch k hk0.1 hk0.2
  have ha1_ := hact (A 9 k) (by omega) (by omega)
  have ha2_ := hact (A 10 k) (by omega) (by omega)
  refine lv_aload_n hx hb zd_P_addWaitsOf_0 rfl (lv_at hl 1 rfl) ?_
  refine va_getN (D := D) (ci := 1) (v := .ref (q 9)) (C := zR_N) (T := zT_N) (N := 11) hx hb hts zi_N hown hK.1 hP 1 ga_1 rfl 6 (by decide) (zNW.use hK.2 zw_55) (fun _ h9 => h9) rfl zd_P_addWaitsOf_1 ?_
  refine lv_iload_n hx hb zd_P_addWaitsOf_4 rfl (lv_at hl 2 rfl) ?_
  refine x_iald (v := A 9 k) hx hb hK.1 hP 9 0 ga_9 rfl (by decide) (by omega) (by omega) (rfl) zd_P_addWaitsOf_5 ?_
  refine lv_istore_n (lv' := [(3, .int (iI (A 9 k))), (0, .ref (q 3)), (1, .ref (q 1)), (2, .int (iI (k)))]) hx hb zd_P_addWaitsOf_6 rfl hl (by decide) rfl (fun ls hl => ?_)
  refine lv_aload_n hx hb zd_P_addWaitsOf_7 rfl (lv_at hl 2 rfl) ?_
  refine va_getN (D := D) (ci := 1) (v := .ref (q 10)) (C := zR_N) (T := zT_N) (N := 11) hx hb hts zi_N hown hK.1 hP 1 ga_1 rfl 7 (by decide) (zNW.use hK.2 zw_59) (fun _ h9 => h9) rfl zd_P_addWaitsOf_8 ?_
  refine lv_iload_n hx hb zd_P_addWaitsOf_11 rfl (lv_at hl 3 rfl) ?_
  refine x_iald (v := A 10 k) hx hb hK.1 hP 10 0 ga_10 rfl (by decide) (by omega) (by omega) (rfl) zd_P_addWaitsOf_12 ?_
  refine lv_istore (lv' := [(4, .int (iI (A 10 k))), (3, .int (iI (A 9 k))), (0, .ref (q 3)), (1, .ref (q 1)), (2, .int (iI (k)))]) hx hb zd_P_addWaitsOf_13 hl (by decide) rfl (fun ls hl => ?_)
  refine lv_aload_n hx hb zd_P_addWaitsOf_15 rfl (lv_at hl 3 rfl) ?_
  refine va_getN (D := D) (ci := 1) (v := .ref (q 11)) (C := zR_N) (T := zT_N) (N := 11) hx hb hts zi_N hown hK.1 hP 1 ga_1 rfl 8 (by decide) (zNW.use hK.2 zw_62) (fun _ h9 => h9) rfl zd_P_addWaitsOf_16 ?_
  refine lv_iload_n hx hb zd_P_addWaitsOf_19 rfl (lv_at hl 4 rfl) ?_
  refine x_iald (v := A 11 k) hx hb hK.1 hP 11 0 ga_11 rfl (by decide) (by omega) (by omega) (rfl) zd_P_addWaitsOf_20 ?_
  refine lv_istore (lv' := [(5, .int (iI (A 11 k))), (4, .int (iI (A 10 k))), (3, .int (iI (A 9 k))), (0, .ref (q 3)), (1, .ref (q 1)), (2, .int (iI (k)))]) hx hb zd_P_addWaitsOf_21 hl (by decide) rfl (fun ls hl => ?_)
  refine lv_aload_n hx hb zd_P_addWaitsOf_23 rfl (lv_at hl 4 rfl) ?_
  refine va_getN (D := D) (ci := 1) (v := .ref (q 7)) (C := zR_N) (T := zT_N) (N := 11) hx hb hts zi_N hown hK.1 hP 1 ga_1 rfl 4 (by decide) (zNW.use hK.2 zw_49) (fun _ h9 => h9) rfl zd_P_addWaitsOf_24 ?_
  refine lv_iload_n hx hb zd_P_addWaitsOf_27 rfl (lv_at hl 2 rfl) ?_
  refine x_iald (v := A 7 (A 9 k)) hx hb hK.1 hP 7 0 ga_7 rfl (by decide) (by omega) (by omega) (rfl) zd_P_addWaitsOf_28 ?_
  refine lv_istore (lv' := [(6, .int (iI (A 7 (A 9 k)))), (5, .int (iI (A 11 k))), (4, .int (iI (A 10 k))), (3, .int (iI (A 9 k))), (0, .ref (q 3)), (1, .ref (q 1)), (2, .int (iI (k)))]) hx hb zd_P_addWaitsOf_29 hl (by decide) rfl (fun ls hl => ?_)
  refine lv_iload hx hb zd_P_addWaitsOf_31 (lv_at hl 1 rfl) ?_
  refine x_if_le (tgt := 41) hx hb zd_P_addWaitsOf_33 (by decide) (⟨by omega, by omega⟩) (fun h_33 => ?_) (fun h_33 => ?_)
  · omega
  · refine lv_iload hx hb zd_P_addWaitsOf_36 (lv_at hl 0 rfl) ?_
    refine x_if_gt (tgt := 42) hx hb zd_P_addWaitsOf_38 (by decide) (⟨by omega, by omega⟩) (fun h_38 => ?_) (fun h_38 => ?_)
    · refine lv_iconst (v := iI (0)) hx hb zd_P_addWaitsOf_42 rfl ?_
      refine lv_istore (lv' := [(7, .int (iI (0))), (6, .int (iI (A 7 (A 9 k)))), (5, .int (iI (A 11 k))), (4, .int (iI (A 10 k))), (3, .int (iI (A 9 k))), (0, .ref (q 3)), (1, .ref (q 1)), (2, .int (iI (k)))]) hx hb zd_P_addWaitsOf_43 hl (by decide) rfl (fun ls hl => ?_)
      have L_45 : ∀ (fu : Nat) (i : Int)  (F45 : Nat → Int) (A45 : Nat → Int → Int), (0 ≤ i ∧ i ≤ A 7 (A 10 k)) → (∀ j, j ≠ 304 → F45 j = F j) → (∀ k, k ≠ 20 → k ≠ 21 → k ≠ 22 → A45 k = A k) → (F45 304 = F 304 + i) → (∀ u v w, EIn (F45 304) (A45 20) (A45 21) (A45 22) u v w ↔ EIn (F 304) (A 20) (A 21) (A 22) u v w ∨ wE A k i u v w) → (A 7 (A 10 k) - i < (fu : Int)) → ∀ (H : Heap) (locs : List Loc), va_P D zcl (gw q c F45 A45) H → va_D A0 (gw q c F45 A45) → va_S A0 s.heap H locs → ∀ ls : Array Slot, lv_has ls 12 [(0, .ref (q 3)), (1, .ref (q 1)), (2, .int (iI (k))), (3, .int (iI (A 9 k))), (4, .int (iI (A 10 k))), (5, .int (iI (A 11 k))), (6, .int (iI (A 7 (A 9 k)))), (7, .int (iI (i)))] → W p l e zr_P_addWaitsOf s m args below meth c0 H locs 0 0 Q (F0 m 45 ls []) := by
        intro fu
        induction fu with
        | zero => intro i  F45 A45 hi hF hk h304 hed hm_45; exact absurd hm_45 (by omega)
        | succ fu ih_45 =>
          intro i  F45 A45 hi hF hk h304 hed hm_45 H locs hP hD hS ls hl
          have e7 := hk 7 (by decide) (by decide) (by decide)
          have e12 := hk 12 (by decide) (by decide) (by decide)
          have e13 := hk 13 (by decide) (by decide) (by decide)
          have e18 := hk 18 (by decide) (by decide) (by decide)
          refine lv_iload hx hb zd_P_addWaitsOf_45 (lv_at hl 7 rfl) ?_
          refine lv_aload_n hx hb zd_P_addWaitsOf_47 rfl (lv_at hl 1 rfl) ?_
          refine va_getN (D := D) (ci := 1) (v := .ref (q 7)) (C := zR_N) (T := zT_N) (N := 11) hx hb hts zi_N hown hK.1 hP 1 ga_1 rfl 4 (by decide) (zNW.use hK.2 zw_49) (fun _ h9 => h9) rfl zd_P_addWaitsOf_48 ?_
          refine lv_iload hx hb zd_P_addWaitsOf_51 (lv_at hl 4 rfl) ?_
          refine x_iald (v := A 7 (A 10 k)) hx hb hK.1 hP 7 0 ga_7 rfl (by decide) (by omega) (by omega) (by rw [e7]) zd_P_addWaitsOf_53 ?_
          refine x_icmp_ge (tgt := 138) hx hb zd_P_addWaitsOf_54 (by decide) (⟨by omega, by omega⟩) (⟨by omega, by omega⟩) (fun h_54 => ?_) (fun h_54 => ?_)
          · have e_ : i = A 7 (A 10 k) := by omega
            subst e_
            exact ret _ _ _ _ _ _ zd_P_addWaitsOf_138 hP hD hS (⟨hF, hk, h304, hed⟩)
          · have hm_ := bnd0 (x := i + 1) (y := A 12 k) (X := 41) (Y := 9) (by omega) (by omega)
            refine lv_iload hx hb zd_P_addWaitsOf_57 (lv_at hl 7 rfl) ?_
            refine lv_iconst (v := iI (1)) hx hb zd_P_addWaitsOf_59 rfl ?_
            refine x_iadd hx hb zd_P_addWaitsOf_60 ?_
            refine lv_aload_n hx hb zd_P_addWaitsOf_61 rfl (lv_at hl 1 rfl) ?_
            refine va_getN (D := D) (ci := 1) (v := .ref (q 12)) (C := zR_N) (T := zT_N) (N := 11) hx hb hts zi_N hown hK.1 hP 1 ga_1 rfl 9 (by decide) (zNW.use hK.2 zw_66) (fun _ h9 => h9) rfl zd_P_addWaitsOf_62 ?_
            refine lv_iload_n hx hb zd_P_addWaitsOf_65 rfl (lv_at hl 2 rfl) ?_
            refine x_iald (v := A 12 k) hx hb hK.1 hP 12 0 ga_12 rfl (by decide) (by omega) (by omega) (by rw [e12]) zd_P_addWaitsOf_66 ?_
            refine x_imul hx hb zd_P_addWaitsOf_67 ?_
            refine lv_aload_n hx hb zd_P_addWaitsOf_68 rfl (lv_at hl 1 rfl) ?_
            refine va_getN (D := D) (ci := 1) (v := .ref (q 13)) (C := zR_N) (T := zT_N) (N := 11) hx hb hts zi_N hown hK.1 hP 1 ga_1 rfl 10 (by decide) (zNW.use hK.2 zw_69) (fun _ h9 => h9) rfl zd_P_addWaitsOf_69 ?_
            refine lv_iload_n hx hb zd_P_addWaitsOf_72 rfl (lv_at hl 2 rfl) ?_
            refine x_iald (v := A 13 k) hx hb hK.1 hP 13 0 ga_13 rfl (by decide) (by omega) (by omega) (by rw [e13]) zd_P_addWaitsOf_73 ?_
            refine x_isub hx hb zd_P_addWaitsOf_74 ?_
            refine lv_iconst (v := iI (1)) hx hb zd_P_addWaitsOf_75 rfl ?_
            refine x_isub hx hb zd_P_addWaitsOf_76 ?_
            refine lv_istore (lv' := [(8, .int (iI ((((i + 1) * (A 12 k)) - (A 13 k)) - 1))), (0, .ref (q 3)), (1, .ref (q 1)), (2, .int (iI (k))), (3, .int (iI (A 9 k))), (4, .int (iI (A 10 k))), (5, .int (iI (A 11 k))), (6, .int (iI (A 7 (A 9 k)))), (7, .int (iI (i)))]) hx hb zd_P_addWaitsOf_77 hl (by decide) rfl (fun ls hl => ?_)
            refine lv_iload hx hb zd_P_addWaitsOf_79 (lv_at hl 0 rfl) ?_
            refine lv_iload hx hb zd_P_addWaitsOf_81 (lv_at hl 6 rfl) ?_
            refine z_goi (z_runSO (n := 2) (As := [.int (iI ((((i + 1) * (A 12 k)) - (A 13 k)) - 1)), .int (iI (A 11 k))]) (rest := []) S (c_J_floorDiv l D q c _ F45 A45 ((((i + 1) * (A 12 k)) - (A 13 k)) - 1) (A 11 k) (by first | assumption | omega | exact ⟨by omega, by omega⟩) (by first | assumption | omega | exact ⟨by omega, by omega⟩)) zw_494 zw_495 zw_7 zw_496 ⟨by decide +kernel, by decide, rfl, rfl⟩ hK hP hD rfl hl.1 rfl (Nat.le_of_ble_eq_true rfl) zd_P_addWaitsOf_83 ⟨Nat.zero_le _, Nat.zero_le _⟩) hD hS hA (fun z_83 F_83 A_83 H locs hq_83 hP hD hS => ?_)
            obtain ⟨hf_83, ha_83, hq_83⟩ := hq_83
            rw [hf_83, ha_83] at hP hD
            have hw_ : z_83 = wf A k i := hq_83
            have hwb_ : -100 ≤ z_83 ∧ z_83 ≤ 1000 := by (rw [hq_83]; exact ⟨Int.le_ediv_of_mul_le (by omega) (by omega), Int.ediv_le_of_le_mul (by omega) (by omega)⟩)
            refine lv_istore (lv' := [(9, .int (iI (z_83))), (8, .int (iI ((((i + 1) * (A 12 k)) - (A 13 k)) - 1))), (0, .ref (q 3)), (1, .ref (q 1)), (2, .int (iI (k))), (3, .int (iI (A 9 k))), (4, .int (iI (A 10 k))), (5, .int (iI (A 11 k))), (6, .int (iI (A 7 (A 9 k)))), (7, .int (iI (i)))]) hx hb zd_P_addWaitsOf_86 hl (by decide) rfl (fun ls hl => ?_)
            refine lv_iload hx hb zd_P_addWaitsOf_88 (lv_at hl 0 rfl) ?_
            refine lv_iload hx hb zd_P_addWaitsOf_90 (lv_at hl 8 rfl) ?_
            refine z_goi (z_runSO (n := 2) (As := [.int (iI (z_83)), .int (iI (A 7 (A 9 k)))]) (rest := []) S (c_J_floorMod l D q c _ F45 A45 z_83 (A 7 (A 9 k)) (by first | assumption | omega | exact ⟨by omega, by omega⟩) (by first | assumption | omega | exact ⟨by omega, by omega⟩)) zw_497 zw_498 zw_7 zw_499 ⟨by decide +kernel, by decide, rfl, rfl⟩ hK hP hD rfl hl.1 rfl (Nat.le_of_ble_eq_true rfl) zd_P_addWaitsOf_92 ⟨Nat.zero_le _, Nat.zero_le _⟩) hD hS hA (fun z_92 F_92 A_92 H locs hq_92 hP hD hS => ?_)
            obtain ⟨hf_92, ha_92, hq_92⟩ := hq_92
            rw [hf_92, ha_92] at hP hD
            have hr1_ := Int.emod_nonneg z_83 (show A 7 (A 9 k) ≠ 0 by omega)
            have hr2_ := Int.emod_lt_of_pos z_83 (show 0 < A 7 (A 9 k) by omega)
            refine lv_istore (lv' := [(10, .int (iI (z_92))), (9, .int (iI (z_83))), (8, .int (iI ((((i + 1) * (A 12 k)) - (A 13 k)) - 1))), (0, .ref (q 3)), (1, .ref (q 1)), (2, .int (iI (k))), (3, .int (iI (A 9 k))), (4, .int (iI (A 10 k))), (5, .int (iI (A 11 k))), (6, .int (iI (A 7 (A 9 k)))), (7, .int (iI (i)))]) hx hb zd_P_addWaitsOf_95 hl (by decide) rfl (fun ls hl => ?_)
            refine lv_iload hx hb zd_P_addWaitsOf_97 (lv_at hl 1 rfl) ?_
            refine lv_iload hx hb zd_P_addWaitsOf_99 (lv_at hl 9 rfl) ?_
            refine z_goi (z_runSO (n := 2) (As := [.int (iI (z_83)), .int (iI (A 7 (A 9 k)))]) (rest := []) S (c_J_floorDiv l D q c _ F45 A45 z_83 (A 7 (A 9 k)) (by first | assumption | omega | exact ⟨by omega, by omega⟩) (by first | assumption | omega | exact ⟨by omega, by omega⟩)) zw_494 zw_495 zw_7 zw_496 ⟨by decide +kernel, by decide, rfl, rfl⟩ hK hP hD rfl hl.1 rfl (Nat.le_of_ble_eq_true rfl) zd_P_addWaitsOf_101 ⟨Nat.zero_le _, Nat.zero_le _⟩) hD hS hA (fun z_101 F_101 A_101 H locs hq_101 hP hD hS => ?_)
            obtain ⟨hf_101, ha_101, hq_101⟩ := hq_101
            rw [hf_101, ha_101] at hP hD
            refine x_ineg hx hb zd_P_addWaitsOf_104 ?_
            refine lv_istore (lv' := [(11, .int (iI (-z_101))), (10, .int (iI (z_92))), (9, .int (iI (z_83))), (8, .int (iI ((((i + 1) * (A 12 k)) - (A 13 k)) - 1))), (0, .ref (q 3)), (1, .ref (q 1)), (2, .int (iI (k))), (3, .int (iI (A 9 k))), (4, .int (iI (A 10 k))), (5, .int (iI (A 11 k))), (6, .int (iI (A 7 (A 9 k)))), (7, .int (iI (i)))]) hx hb zd_P_addWaitsOf_105 hl (by decide) rfl (fun ls hl => ?_)
            refine lv_aload_n hx hb zd_P_addWaitsOf_107 rfl (lv_at hl 4 rfl) ?_
            refine lv_aload_n hx hb zd_P_addWaitsOf_108 rfl (lv_at hl 4 rfl) ?_
            refine va_get (D := D) (ci := 3) (v := .ref (q 18)) (C := zR_P) (T := zT_P) (N := 13) hx hb hts zi_P hown hK.1 hP 3 ga_3 rfl 5 (by decide) (hts _ zw_138) (fun _ h9 => h9) rfl zd_P_addWaitsOf_109 ?_
            refine lv_iload_n hx hb zd_P_addWaitsOf_112 rfl (lv_at hl 7 rfl) ?_
            refine x_iald (v := A 18 (A 9 k)) hx hb hK.1 hP 18 0 ga_18 rfl (by decide) (by omega) (by omega) (by rw [e18]) zd_P_addWaitsOf_113 ?_
            refine lv_iload hx hb zd_P_addWaitsOf_114 (lv_at hl 1 rfl) ?_
            refine x_iadd hx hb zd_P_addWaitsOf_116 ?_
            refine lv_aload_n hx hb zd_P_addWaitsOf_117 rfl (lv_at hl 4 rfl) ?_
            refine va_get (D := D) (ci := 3) (v := .ref (q 18)) (C := zR_P) (T := zT_P) (N := 13) hx hb hts zi_P hown hK.1 hP 3 ga_3 rfl 5 (by decide) (hts _ zw_138) (fun _ h9 => h9) rfl zd_P_addWaitsOf_118 ?_
            refine lv_iload hx hb zd_P_addWaitsOf_121 (lv_at hl 8 rfl) ?_
            refine x_iald (v := A 18 (A 10 k)) hx hb hK.1 hP 18 0 ga_18 rfl (by decide) (by omega) (by omega) (by rw [e18]) zd_P_addWaitsOf_123 ?_
            refine lv_iload hx hb zd_P_addWaitsOf_124 (lv_at hl 11 rfl) ?_
            refine x_iadd hx hb zd_P_addWaitsOf_126 ?_
            refine lv_iload hx hb zd_P_addWaitsOf_127 (lv_at hl 0 rfl) ?_
            refine z_gov (z_runV (n := 3) (k := 3) (ci := 3) (As := [.int (iI ((A 18 (A 9 k)) + z_92)), .int (iI ((A 18 (A 10 k)) + i)), .int (iI (-z_101))]) (rest := []) S (c_P_addEdge l D q c _ F45 A45 ((A 18 (A 9 k)) + z_92) ((A 18 (A 10 k)) + i) (-z_101) (by first | assumption | omega | exact ⟨by omega, by omega⟩) (by first | assumption | omega | exact ⟨by omega, by omega⟩) (by first | assumption | omega | exact ⟨by omega, by omega⟩)) zw_482 zw_484 zs_28 zw_4 zw_485 ⟨by decide +kernel, by decide, rfl, rfl⟩ hK hP hD ga_3 rfl rfl rfl hl.1 rfl (Nat.le_of_ble_eq_true rfl) zd_P_addWaitsOf_129 ⟨Nat.zero_le _, Nat.zero_le _⟩) hD hS hA (fun F_129 A_129 H locs hq_129 hP hD hS => ?_)
            obtain ⟨hf_129, ha_129⟩ := hq_129
            rw [hf_129, ha_129] at hP hD
            refine lv_iinc (v := iI (i + 1)) (lv' := [(7, .int (iI (i + 1))), (11, .int (iI (-z_101))), (10, .int (iI (z_92))), (9, .int (iI (z_83))), (8, .int (iI ((((i + 1) * (A 12 k)) - (A 13 k)) - 1))), (0, .ref (q 3)), (1, .ref (q 1)), (2, .int (iI (k))), (3, .int (iI (A 9 k))), (4, .int (iI (A 10 k))), (5, .int (iI (A 11 k))), (6, .int (iI (A 7 (A 9 k))))]) hx hb zd_P_addWaitsOf_132 hl (k := 11) rfl (iI_add _ _) (by decide) rfl (fun ls hl => ?_)
            refine lv_goto (tgt := 45) hx hb zd_P_addWaitsOf_135 (by decide) ?_
            exact ih_45 (i + 1)  (fuP F45 304 ((F45 304) + 1)) (auP (auP (auP A45 20 (F45 304) ((A 18 (A 9 k)) + z_92)) 21 (F45 304) ((A 18 (A 10 k)) + i)) 22 (F45 304) (-z_101)) (by first | assumption | omega | (simp_all; done)) (fun j h => by simp [fuP, h, hF j h]) (fun k h1 h2 h3 => by simp [auP, h1, h2, h3, hk k h1 h2 h3]) (by simp [fuP]; omega) (fun u v w => by rw [hq_92, hq_101, hw_]; exact (EIn_add (by omega) u v w).trans (wE_s (hed u v w) hi.1)) (by omega) _ _ hP hD hS ls (lv_sub hl [5, 6, 7, 8, 9, 10, 11, 0] rfl)
      exact L_45 (((A 7 (A 10 k) - (0) : Int) + 1).toNat) (0)  F A (by first | assumption | omega | (simp_all; done)) (fun j _ => rfl) (fun k _ _ _ => rfl) (by omega) (fun u v w => ⟨fun h => Or.inl h, fun h => h.elim id (fun ⟨j, h0, h1, _⟩ => by omega)⟩) (by omega) _ _ hP hD hS ls (lv_sub hl [5, 6, 7, 4, 3, 2, 1, 0] rfl)
    · omega

abbrev zr_P_addWaits : Room := ({ frames := 2, cells := 0, slots := 0, locals := 54 } : Room)
set_option maxHeartbeats 4000000 in
set_option maxRecDepth 100000 in
theorem c_P_addWaits (l : Launch) (D : va_G) (q : Nat → Nat) (c : Nat → ClassId) (sz : Nat) (F : Nat → Int) (A : Nat → Int → Int) (root : Int) (hn : 1 ≤ F 100 ∧ F 100 ≤ 8) (hc : 0 ≤ F 101 ∧ F 101 ≤ 14) (hact : ∀ a, 0 ≤ a → a < 8 → (1 ≤ A 7 a ∧ A 7 a ≤ 4782969) ∧ 0 ≤ A 8 a ∧ A 8 a < 8) (hch : ∀ k, 0 ≤ k → k < F 101 → (0 ≤ A 9 k ∧ A 9 k < F 100) ∧ (0 ≤ A 10 k ∧ A 10 k < F 100) ∧ (1 ≤ A 11 k ∧ A 11 k ≤ 9) ∧ (1 ≤ A 12 k ∧ A 12 k ≤ 9) ∧ 0 ≤ A 13 k ∧ A 13 k ≤ 99) (hrt : 0 ≤ root ∧ root < 8) (hsame : ∀ k, 0 ≤ k → k < F 101 → A 8 (A 9 k) = A 8 (A 10 k)) (hfo : ∀ b, 0 ≤ b → b < F 100 → A 8 b = root → 0 ≤ A 18 b ∧ A 18 b + A 7 b ≤ 40) (hE : 0 ≤ F 304 ∧ F 304 ≤ 40) : zMV l zy_P_addWaits zc_P_addWaits 4 none zr_P_addWaits D q c sz [.ref (q 3), .ref (q 1), .int (iI (root))] F A (fun F1 A1 => (∀ j, j ≠ 304 → F1 j = F j) ∧ (∀ k, k ≠ 20 → k ≠ 21 → k ≠ 22 → A1 k = A k) ∧ (0 ≤ F1 304 ∧ F1 304 ≤ 600) ∧ ∀ u v w, EIn (F1 304) (A1 20) (A1 21) (A1 22) u v w ↔ EIn (F 304) (A 20) (A 21) (A 22) u v w ∨ wA A root (F 101) u v w) := by
  refine z_ofV (by decide) (Nat.le_of_ble_eq_true rfl) ?_
  intro p e s m args below meth c0 A0 Q C0 ret hP hD hS ls hl
  obtain ⟨S, hK, hA⟩ := C0
  have hx := S.1
  have hb := S.2.1
  have hown := S.2.2.2.1
  have hts : ∀ w ∈ zG, w.before args s = true := fun w h => S.2.2.2.2 w (List.mem_cons_of_mem _ h)
  have hl : lv_has ls 4 [(0, .ref (q 3)), (1, .ref (q 1)), (2, .int (iI (root)))] := hl
  refine lv_iconst (v := iI (0)) hx hb zd_P_addWaits_0 rfl ?_
  refine lv_istore_n (lv' := [(3, .int (iI (0))), (0, .ref (q 3)), (1, .ref (q 1)), (2, .int (iI (root)))]) hx hb zd_P_addWaits_1 rfl hl (by decide) rfl (fun ls hl => ?_)
  have L_2 : ∀ (fu : Nat) (i : Int)  (F2 : Nat → Int) (A2 : Nat → Int → Int), (0 ≤ i ∧ i ≤ F 101) → (∀ j, j ≠ 304 → F2 j = F j) → (∀ k, k ≠ 20 → k ≠ 21 → k ≠ 22 → A2 k = A k) → (0 ≤ F2 304 ∧ F2 304 ≤ 40 + 40 * i) → (∀ u v w, EIn (F2 304) (A2 20) (A2 21) (A2 22) u v w ↔ EIn (F 304) (A 20) (A 21) (A 22) u v w ∨ wA A root i u v w) → (F 101 - i < (fu : Int)) → ∀ (H : Heap) (locs : List Loc), va_P D zcl (gw q c F2 A2) H → va_D A0 (gw q c F2 A2) → va_S A0 s.heap H locs → ∀ ls : Array Slot, lv_has ls 4 [(0, .ref (q 3)), (1, .ref (q 1)), (2, .int (iI (root))), (3, .int (iI (i)))] → W p l e zr_P_addWaits s m args below meth c0 H locs 0 0 Q (F0 m 2 ls []) := by
    intro fu
    induction fu with
    | zero => intro i  F2 A2 hi hF hk h304 hed hm_2; exact absurd hm_2 (by omega)
    | succ fu ih_2 =>
      intro i  F2 A2 hi hF hk h304 hed hm_2 H locs hP hD hS ls hl
      have e101 := hF 101 (by decide)
      have e100 := hF 100 (by decide)
      have e7 := hk 7 (by decide) (by decide) (by decide)
      have e8 := hk 8 (by decide) (by decide) (by decide)
      have e9 := hk 9 (by decide) (by decide) (by decide)
      have e10 := hk 10 (by decide) (by decide) (by decide)
      have e11 := hk 11 (by decide) (by decide) (by decide)
      have e12 := hk 12 (by decide) (by decide) (by decide)
      have e13 := hk 13 (by decide) (by decide) (by decide)
      have e18 := hk 18 (by decide) (by decide) (by decide)
      refine lv_iload_n hx hb zd_P_addWaits_2 rfl (lv_at hl 3 rfl) ?_
      refine lv_aload_n hx hb zd_P_addWaits_3 rfl (lv_at hl 1 rfl) ?_
      refine va_getN (D := D) (ci := 1) (v := .int (iI (F2 101))) (C := zR_N) (T := zT_N) (N := 11) hx hb hts zi_N hown hK.1 hP 1 ga_1 rfl 1 (by decide) (zNW.use hK.2 zw_40) (fun _ h9 => h9) rfl zd_P_addWaits_4 ?_
      refine x_icmp_ge (tgt := 37) hx hb zd_P_addWaits_7 (by decide) (⟨by omega, by omega⟩) (⟨by omega, by omega⟩) (fun h_7 => ?_) (fun h_7 => ?_)
      · have e_ : i = F 101 := by omega
        subst e_
        exact ret _ _ _ _ _ _ zd_P_addWaits_37 hP hD hS (⟨hF, hk, by omega, hed⟩)
      · have hc_ := hch i (by omega) (by omega)
        have ha_ := hact (A 9 i) (by omega) (by omega)
        refine lv_aload_n hx hb zd_P_addWaits_10 rfl (lv_at hl 1 rfl) ?_
        refine va_getN (D := D) (ci := 1) (v := .ref (q 8)) (C := zR_N) (T := zT_N) (N := 11) hx hb hts zi_N hown hK.1 hP 1 ga_1 rfl 5 (by decide) (zNW.use hK.2 zw_52) (fun _ h9 => h9) rfl zd_P_addWaits_11 ?_
        refine lv_aload_n hx hb zd_P_addWaits_14 rfl (lv_at hl 1 rfl) ?_
        refine va_getN (D := D) (ci := 1) (v := .ref (q 9)) (C := zR_N) (T := zT_N) (N := 11) hx hb hts zi_N hown hK.1 hP 1 ga_1 rfl 6 (by decide) (zNW.use hK.2 zw_55) (fun _ h9 => h9) rfl zd_P_addWaits_15 ?_
        refine lv_iload_n hx hb zd_P_addWaits_18 rfl (lv_at hl 3 rfl) ?_
        refine x_iald (v := A 9 i) hx hb hK.1 hP 9 0 ga_9 rfl (by decide) (by omega) (by omega) (by rw [e9]) zd_P_addWaits_19 ?_
        refine x_iald (v := A 8 (A 9 i)) hx hb hK.1 hP 8 0 ga_8 rfl (by decide) (by omega) (by omega) (by rw [e8]) zd_P_addWaits_20 ?_
        refine lv_iload_n hx hb zd_P_addWaits_21 rfl (lv_at hl 2 rfl) ?_
        refine x_icmp_ne (tgt := 31) hx hb zd_P_addWaits_22 (by decide) (⟨by omega, by omega⟩) (⟨by omega, by omega⟩) (fun h_22 => ?_) (fun h_22 => ?_)
        · refine lv_iinc (v := iI (i + 1)) (lv' := [(3, .int (iI (i + 1))), (0, .ref (q 3)), (1, .ref (q 1)), (2, .int (iI (root)))]) hx hb zd_P_addWaits_31 hl (k := 3) rfl (iI_add _ _) (by decide) rfl (fun ls hl => ?_)
          refine lv_goto (tgt := 2) hx hb zd_P_addWaits_34 (by decide) ?_
          exact ih_2 (i + 1)  F2 A2 (by first | assumption | omega | (simp_all; done)) (by first | exact hF | exact fun j h => (g1 j h).trans (hF j h)) (by first | exact hk | exact fun k h1 h2 h3 => (g2 k h1 h2 h3).trans (hk k h1 h2 h3)) (by first | omega | (rw [g3, e7, e10]; omega)) (fun u v w => by first | exact wA_n (hed u v w) h_22 | (rw [g4 u v w]; have h9 : wE A2 i (A2 7 (A2 10 i)) u v w ↔ wE A i (A 7 (A 10 i)) u v w := (by unfold wE wf; rw [e7, e9, e10, e11, e12, e13, e18]); rw [h9]; exact wA_y (hed u v w) hi.1 h_22)) (by omega) _ _ hP hD hS ls (lv_sub hl [1, 2, 3, 0] rfl)
        · have h1_ := hfo (A 9 i) (by omega) (by omega) h_22
          have h2_ := hfo (A 10 i) (by omega) (by omega) (by rw [← hsame i (by omega) (by omega)]; exact h_22)
          have hb_ := hact (A 10 i) (by omega) (by omega)
          refine lv_aload_n hx hb zd_P_addWaits_25 rfl (lv_at hl 0 rfl) ?_
          refine lv_aload_n hx hb zd_P_addWaits_26 rfl (lv_at hl 1 rfl) ?_
          refine lv_iload_n hx hb zd_P_addWaits_27 rfl (lv_at hl 3 rfl) ?_
          refine z_gov (z_runV (n := 2) (k := 3) (ci := 3) (As := [.ref (q 1), .int (iI (i))]) (rest := []) S (c_P_addWaitsOf l D q c _ F2 A2 i (by simp only [e7, e8, e9, e10, e11, e12, e13, e18, e100, e101]; first | assumption | omega) (by simp only [e7, e8, e9, e10, e11, e12, e13, e18, e100, e101]; first | assumption | omega) (by simp only [e7, e8, e9, e10, e11, e12, e13, e18, e100, e101]; first | assumption | omega) (by simp only [e7, e8, e9, e10, e11, e12, e13, e18, e100, e101]; first | assumption | omega) (by simp only [e7, e8, e9, e10, e11, e12, e13, e18, e100, e101]; first | assumption | omega) (by simp only [e7, e8, e9, e10, e11, e12, e13, e18, e100, e101]; first | assumption | omega) (by simp only [e7, e8, e9, e10, e11, e12, e13, e18, e100, e101]; first | assumption | omega) (by simp only [e7, e8, e9, e10, e11, e12, e13, e18, e100, e101]; first | assumption | omega)) zw_490 zw_492 zs_30 zw_4 zw_493 ⟨by decide +kernel, by decide, rfl, rfl⟩ hK hP hD ga_3 rfl rfl rfl hl.1 rfl (Nat.le_of_ble_eq_true rfl) zd_P_addWaits_28 ⟨Nat.zero_le _, Nat.zero_le _⟩) hD hS hA (fun F_28 A_28 H locs hq_28 hP hD hS => ?_)
          obtain ⟨g1, g2, g3, g4⟩ := hq_28
          refine lv_iinc (v := iI (i + 1)) (lv' := [(3, .int (iI (i + 1))), (0, .ref (q 3)), (1, .ref (q 1)), (2, .int (iI (root)))]) hx hb zd_P_addWaits_31 hl (k := 3) rfl (iI_add _ _) (by decide) rfl (fun ls hl => ?_)
          refine lv_goto (tgt := 2) hx hb zd_P_addWaits_34 (by decide) ?_
          exact ih_2 (i + 1)  F_28 A_28 (by first | assumption | omega | (simp_all; done)) (by first | exact hF | exact fun j h => (g1 j h).trans (hF j h)) (by first | exact hk | exact fun k h1 h2 h3 => (g2 k h1 h2 h3).trans (hk k h1 h2 h3)) (by first | omega | (rw [g3, e7, e10]; omega)) (fun u v w => by first | exact wA_n (hed u v w) h_22 | (rw [g4 u v w]; have h9 : wE A2 i (A2 7 (A2 10 i)) u v w ↔ wE A i (A 7 (A 10 i)) u v w := (by unfold wE wf; rw [e7, e9, e10, e11, e12, e13, e18]); rw [h9]; exact wA_y (hed u v w) hi.1 h_22)) (by omega) _ _ hP hD hS ls (lv_sub hl [1, 2, 3, 0] rfl)
  exact L_2 (((F 101 - (0) : Int) + 1).toNat) (0)  F A (by first | assumption | omega | (simp_all; done)) (fun j _ => rfl) (fun k _ _ _ => rfl) (by omega) (fun u v w => ⟨fun h => Or.inl h, fun h => h.elim id (fun ⟨j, h0, h1, _⟩ => by omega)⟩) (by omega) _ _ hP hD hS ls (lv_sub hl [1, 2, 3, 0] rfl)
end
section
/-! Looking for a loop of parents -/
def LO (n : Int) (f S2 : Int → Int) (st : Int) (g : Int → Int) : Prop := ∀ x, 0 ≤ x → x < n → (-1 ≤ g x ∧ g x < st) ∧ (g x ≠ -1 → ∃ j : Nat, S2 (rx_it f j x) = -1) ∧ (x < st → g x ≠ -1)
def LR (n : Int) (f S2 : Int → Int) (st t v : Int) (g : Int → Int) : Prop :=
  (∀ x, 0 ≤ x → x < n → (-1 ≤ g x ∧ g x ≤ st) ∧ (g x ≠ -1 → g x ≠ st → ∃ j : Nat, S2 (rx_it f j x) = -1) ∧ (x < st → g x ≠ -1) ∧ (g x = st → ∃ j : Nat, (j : Int) < t ∧ x = rx_it f j st)) ∧
  (∀ j : Nat, (j : Int) < t → (0 ≤ rx_it f j st ∧ rx_it f j st < n) ∧ g (rx_it f j st) = st) ∧
  (∀ j k : Nat, j < k → (k : Int) < t → rx_it f j st ≠ rx_it f k st) ∧
  ((v = -1 ∧ 1 ≤ t ∧ S2 (rx_it f (t - 1).toNat st) = -1) ∨ ((0 ≤ v ∧ v < n) ∧ v = rx_it f t.toNat st ∧ ∀ j : Nat, (j : Int) < t → S2 (rx_it f j st) ≠ -1))
section LRS
variable {n : Int} {f S2 g : Int → Int} {st t v : Int}
theorem LR_init (h : LO n f S2 st g) (h0 : 0 ≤ st) (h1 : st < n) : LR n f S2 st 0 st g := by
  refine ⟨fun x x0 x1 => ?_, fun j hj => by omega, fun j k _ hk => by omega, Or.inr ⟨⟨h0, h1⟩, rfl, fun j hj => by omega⟩⟩
  obtain ⟨a, b, c⟩ := h x x0 x1
  exact ⟨by omega, fun h2 _ => b h2, c, fun e => by omega⟩
theorem LR_lt (h : LR n f S2 st t v g) (ht : 0 ≤ t) (hv : v ≠ -1) (hg : ∀ x, 0 ≤ x → x < n → g v = -1) (hn : 0 ≤ n) : t < n := by
  obtain ⟨h1, h2, h3, h4⟩ := h
  rcases h4 with h4 | ⟨hr, hv2, h5⟩
  · exact absurd h4.1 hv
  · refine Int.lt_of_not_ge (fun hc => ?_)
    obtain ⟨i, j, c1, c2, c3⟩ := rx_pigeonI (n := n.toNat) (k := t.toNat) (a := fun j => rx_it f j st) (fun i hi => by
      by_cases e : i = t.toNat
      · subst e; rw [← hv2]; omega
      · have := (h2 i (by omega)).1; omega) (by omega)
    by_cases e : j = t.toNat
    · subst e
      have c4 : rx_it f i st = v := by rw [hv2]; exact c3
      have c5 := (h2 i (by omega)).2
      rw [c4, hg v hr.1 hr.2] at c5
      have c6 := (h2 i (by omega)).1
      have := (h1 v hr.1 hr.2).1
      have c7 := h2 0 (by omega)
      have c8 : rx_it f 0 st = st := rfl
      rw [c8] at c7
      omega
    · exact h3 i j c1 (by omega) c3
theorem LR_step (h : LR n f S2 st t v g) (ht : 0 ≤ t) (h0 : 0 ≤ st) (hv : v ≠ -1) (hg : g v = -1) (hf : ∀ x, 0 ≤ x → x < n → S2 x ≠ -1 → 0 ≤ f x ∧ f x < n) {v' : Int} (hv' : v' = if S2 v = -1 then -1 else f v) : LR n f S2 st (t + 1) v' (upI g v st) := by
  obtain ⟨h1, h2, h3, h4⟩ := h
  rcases h4 with h4 | ⟨hr, hv2, h5⟩
  · exact absurd h4.1 hv
  · have et : (t + 1).toNat = t.toNat + 1 := by omega
    have ett : ((t.toNat : Nat) : Int) = t := by omega
    refine ⟨fun x x0 x1 => ?_, fun j hj => ?_, fun j k hjk hk => ?_, ?_⟩
    · obtain ⟨a, b, c, d⟩ := h1 x x0 x1
      by_cases e : x = v
      · subst e
        rw [upI_s]
        exact ⟨by omega, fun _ z => absurd rfl z, fun _ => by omega, fun _ => ⟨t.toNat, by omega, hv2⟩⟩
      · rw [upI_n e]
        exact ⟨a, b, c, fun z => by obtain ⟨j, j1, j2⟩ := d z; exact ⟨j, by omega, j2⟩⟩
    · by_cases e : j = t.toNat
      · subst e; rw [← hv2, upI_s]; exact ⟨hr, rfl⟩
      · obtain ⟨a, b⟩ := h2 j (by omega)
        refine ⟨a, ?_⟩
        by_cases e2 : rx_it f j st = v
        · rw [e2, upI_s]
        · rw [upI_n e2]; exact b
    · by_cases e : k = t.toNat
      · subst e
        intro c
        have b := (h2 j (by omega)).2
        rw [c, ← hv2, hg] at b
        omega
      · exact h3 j k hjk (by omega)
    · by_cases e : S2 v = -1
      · left
        rw [if_pos e] at hv'
        exact ⟨hv', by omega, by rw [show t + 1 - 1 = t by omega, ← hv2]; exact e⟩
      · right
        rw [if_neg e] at hv'
        refine ⟨by rw [hv']; exact hf v hr.1 hr.2 e, by rw [hv', et, rx_it_succ, ← hv2], fun j hj => ?_⟩
        by_cases e2 : j = t.toNat
        · subst e2; rw [← hv2]; exact e
        · exact h5 j (by omega)
/-- none here: the next start -/
theorem LR_next (h : LR n f S2 st t v g) (ht : 0 ≤ t) (h0 : 0 ≤ st) (h1' : st < n) (he : v = -1 ∨ (v ≠ -1 ∧ g v ≠ -1 ∧ g v ≠ st)) : LO n f S2 (st + 1) g := by
  obtain ⟨h1, h2, h3, h4⟩ := h
  have hend : ∃ k : Nat, (t ≤ k + 1) ∧ S2 (rx_it f k st) = -1 := by
    rcases h4 with ⟨-, h5, h6⟩ | ⟨hr, hv2, h5⟩
    · exact ⟨(t - 1).toNat, by omega, h6⟩
    · rcases he with he | ⟨-, he1, he2⟩
      · omega
      · obtain ⟨j, hj⟩ := (h1 v hr.1 hr.2).2.1 he1 he2
        refine ⟨t.toNat + j, by omega, ?_⟩
        rw [rx_it_add, ← hv2]; exact hj
  obtain ⟨k, hk1, hk2⟩ := hend
  have hon : ∀ j : Nat, (j : Int) < t → ∃ i : Nat, S2 (rx_it f i (rx_it f j st)) = -1 := fun j hj => ⟨k - j, by rw [← rx_it_add, show j + (k - j) = k by omega]; exact hk2⟩
  intro x x0 x1
  obtain ⟨a, b, c, d⟩ := h1 x x0 x1
  refine ⟨by omega, fun hne => ?_, fun hx => ?_⟩
  · by_cases e : g x = st
    · obtain ⟨j, j1, j2⟩ := d e
      rw [j2]; exact hon j j1
    · exact b hne e
  · by_cases e : x = st
    · rcases Int.lt_or_eq_of_le ht with c1 | c1
      · have := (h2 0 (by omega)).2
        have c8 : rx_it f 0 st = st := rfl
        rw [c8] at this
        rw [e]; omega
      · rcases h4 with ⟨-, h5, -⟩ | ⟨hr, hv2, h5⟩
        · omega
        · rcases he with he | ⟨-, he1, he2⟩
          · omega
          · rw [← c1] at hv2
            have c9 : v = st := hv2
            rw [e, ← c9]; exact he1
    · exact c (by omega)
/-- a loop -/
theorem LR_loop (h : LR n f S2 st t v g) (ht : 0 ≤ t) (hv : v ≠ -1) (hg : g v = st) : (0 ≤ v ∧ v < n) ∧ ∃ i : Nat, 1 ≤ i ∧ (∀ j : Nat, j < i → S2 (rx_it f j v) ≠ -1) ∧ rx_it f i v = v := by
  obtain ⟨h1, h2, h3, h4⟩ := h
  rcases h4 with h4 | ⟨hr, hv2, h5⟩
  · exact absurd h4.1 hv
  · obtain ⟨j, j1, j2⟩ := (h1 v hr.1 hr.2).2.2.2 hg
    refine ⟨hr, t.toNat - j, by omega, fun i hi => ?_, ?_⟩
    · rw [j2, ← rx_it_add]; exact h5 (j + i) (by omega)
    · have e : rx_it f (j + (t.toNat - j)) st = v := by rw [show j + (t.toNat - j) = t.toNat by omega]; exact hv2.symm
      rw [rx_it_add, ← j2] at e
      exact e
/-- all lead to an end: no loop -/
theorem LO_none (h : LO n f S2 n g) : ∀ y, 0 ≤ y → y < n → ∀ i : Nat, 1 ≤ i → (∀ j : Nat, j < i → S2 (rx_it f j y) ≠ -1) → rx_it f i y ≠ y := by
  intro y y0 y1 i hi hp hc
  obtain ⟨-, b, c⟩ := h y y0 y1
  obtain ⟨k, hk⟩ := b (c y1)
  have key : ∀ m : Nat, S2 (rx_it f m y) ≠ -1 := by
    intro m
    induction m using Nat.strongRecOn with
    | ind m ih =>
      by_cases hm : m < i
      · exact hp m hm
      · have := ih (m - i) (by omega)
        have e : rx_it f m y = rx_it f (m - i) y := by
          rw [show m = i + (m - i) by omega, rx_it_add, hc, show i + (m - i) - i = m - i by omega]
        rw [e]; exact this
  exact key k hk
end LRS
theorem nl_x {n : Int} {f S2 g : Int → Int} {st t v : Int} (h : LR n f S2 st t v g) (ht : 0 ≤ t ∧ t ≤ n + 1) (he : n < t ∨ ¬ g v = -1) (hv : ¬ v = -1) (hn : 0 ≤ n) : g v ≠ -1 := by
  rcases he with he | he
  · intro c
    have := LR_lt h ht.1 hv (fun _ _ _ => c) (by omega)
    omega
  · exact he
abbrev zr_P_nodeOnLoopOfRaises : Room := ({ frames := 1, cells := 0, slots := 0, locals := 22 } : Room)
set_option maxHeartbeats 4000000 in
set_option maxRecDepth 100000 in
theorem c_P_nodeOnLoopOfRaises (l : Launch) (D : va_G) (q : Nat → Nat) (c : Nat → ClassId) (sz : Nat) (F : Nat → Int) (A : Nat → Int → Int)  (hN : 0 ≤ F 303 ∧ F 303 ≤ 40) (hE : 0 ≤ F 304 ∧ F 304 ≤ 600) (hed : ∀ e, 0 ≤ e → e < F 304 → (0 ≤ A 20 e ∧ A 20 e < F 303) ∧ (0 ≤ A 21 e ∧ A 21 e < F 303) ∧ 0 ≤ A 22 e ∧ A 22 e ≤ 100) (hnt : ∀ v, 0 ≤ v → v < F 303 → 1 ≤ A 19 v ∧ A 19 v ≤ 9) (hpq : (0 ≤ F 301 ∧ F 301 ≤ 360) ∧ 1 ≤ F 302 ∧ F 302 ≤ 7) (hvia : ∀ v, 0 ≤ v → v < F 303 → -1 ≤ A 24 v ∧ A 24 v < F 304) : zMI l zy_P_nodeOnLoopOfRaises zc_P_nodeOnLoopOfRaises 4 (some .int) zr_P_nodeOnLoopOfRaises D q c sz [.ref (q 3)] F A (fun z F1 A1 => F1 = F ∧ (∀ k, k ≠ 25 → A1 k = A k) ∧ (-1 ≤ z ∧ z < 40) ∧ (z = -1 → ∀ y, 0 ≤ y → y < F 303 → ∀ i : Nat, 1 ≤ i → (∀ j : Nat, j < i → A 24 (rx_it (px_f (A 20) (A 23, A 24)) j y) ≠ -1) → rx_it (px_f (A 20) (A 23, A 24)) i y ≠ y) ∧ (z ≠ -1 → (0 ≤ z ∧ z < F 303) ∧ ∃ i : Nat, 1 ≤ i ∧ (∀ j : Nat, j < i → A 24 (rx_it (px_f (A 20) (A 23, A 24)) j z) ≠ -1) ∧ rx_it (px_f (A 20) (A 23, A 24)) i z = z)) := by
  refine z_ofI (by decide) (Nat.le_of_ble_eq_true rfl) ?_
  intro p e s m args below meth c0 A0 Q C0 ret hP hD hS ls hl
  obtain ⟨S, hK, hA⟩ := C0
  have hx := S.1
  have hb := S.2.1
  have hown := S.2.2.2.1
  have hts : ∀ w ∈ zG, w.before args s = true := fun w h => S.2.2.2.2 w (List.mem_cons_of_mem _ h)
  have hl : lv_has ls 4 [(0, .ref (q 3))] := hl
  have hf_ : ∀ x, 0 ≤ x → x < F 303 → A 24 x ≠ -1 → 0 ≤ (px_f (A 20) (A 23, A 24)) x ∧ (px_f (A 20) (A 23, A 24)) x < F 303 := fun x h0 h1 h2 => by have h3 := hvia x h0 h1; have h4 := hed (A 24 x) (by omega) (by omega); exact h4.1
  refine lv_iconst (v := iI (0)) hx hb zd_P_nodeOnLoopOfRaises_0 rfl ?_
  refine lv_istore_n (lv' := [(1, .int (iI (0))), (0, .ref (q 3))]) hx hb zd_P_nodeOnLoopOfRaises_1 rfl hl (by decide) rfl (fun ls hl => ?_)
  have L_2 : ∀ (fu : Nat) (i : Int)  (A2 : Nat → Int → Int), (0 ≤ i ∧ i ≤ F 303) → (∀ k, k ≠ 25 → A2 k = A k) → (∀ x, 0 ≤ x → x < i → A2 25 x = -1) → (F 303 - i < (fu : Int)) → ∀ (H : Heap) (locs : List Loc), va_P D zcl (gw q c F A2) H → va_D A0 (gw q c F A2) → va_S A0 s.heap H locs → ∀ ls : Array Slot, lv_has ls 4 [(0, .ref (q 3)), (1, .int (iI (i)))] → W p l e zr_P_nodeOnLoopOfRaises s m args below meth c0 H locs 0 0 Q (F0 m 2 ls []) := by
    intro fu
    induction fu with
    | zero => intro i  A2 hi hk hs hm_2; exact absurd hm_2 (by omega)
    | succ fu ih_2 =>
      intro i  A2 hi hk hs hm_2 H locs hP hD hS ls hl
      refine lv_iload_n hx hb zd_P_nodeOnLoopOfRaises_2 rfl (lv_at hl 1 rfl) ?_
      refine lv_aload_n hx hb zd_P_nodeOnLoopOfRaises_3 rfl (lv_at hl 0 rfl) ?_
      refine va_get (D := D) (ci := 3) (v := .int (iI (F 303))) (C := zR_P) (T := zT_P) (N := 13) hx hb hts zi_P hown hK.1 hP 3 ga_3 rfl 3 (by decide) (hts _ zw_136) (fun _ h9 => h9) rfl zd_P_nodeOnLoopOfRaises_4 ?_
      refine x_icmp_ge (tgt := 23) hx hb zd_P_nodeOnLoopOfRaises_7 (by decide) (⟨by omega, by omega⟩) (⟨by omega, by omega⟩) (fun h_7 => ?_) (fun h_7 => ?_)
      · refine lv_iconst (v := iI (0)) hx hb zd_P_nodeOnLoopOfRaises_23 rfl ?_
        refine lv_istore_n (lv' := [(1, .int (iI (0))), (0, .ref (q 3))]) hx hb zd_P_nodeOnLoopOfRaises_24 rfl hl (by decide) rfl (fun ls hl => ?_)
        have L_25 : ∀ (fu : Nat) (st : Int)  (A25 : Nat → Int → Int), (0 ≤ st ∧ st ≤ F 303) → (∀ k, k ≠ 25 → A25 k = A k) → (LO (F 303) (px_f (A 20) (A 23, A 24)) (A 24) st (A25 25)) → (F 303 - st < (fu : Int)) → ∀ (H : Heap) (locs : List Loc), va_P D zcl (gw q c F A25) H → va_D A0 (gw q c F A25) → va_S A0 s.heap H locs → ∀ ls : Array Slot, lv_has ls 4 [(0, .ref (q 3)), (1, .int (iI (st)))] → W p l e zr_P_nodeOnLoopOfRaises s m args below meth c0 H locs 0 0 Q (F0 m 25 ls []) := by
          intro fu
          induction fu with
          | zero => intro st  A25 hst hk5 hLO hm_25; exact absurd hm_25 (by omega)
          | succ fu ih_25 =>
            intro st  A25 hst hk5 hLO hm_25 H locs hP hD hS ls hl
            refine lv_iload_n hx hb zd_P_nodeOnLoopOfRaises_25 rfl (lv_at hl 1 rfl) ?_
            refine lv_aload_n hx hb zd_P_nodeOnLoopOfRaises_26 rfl (lv_at hl 0 rfl) ?_
            refine va_get (D := D) (ci := 3) (v := .int (iI (F 303))) (C := zR_P) (T := zT_P) (N := 13) hx hb hts zi_P hown hK.1 hP 3 ga_3 rfl 3 (by decide) (hts _ zw_136) (fun _ h9 => h9) rfl zd_P_nodeOnLoopOfRaises_27 ?_
            refine x_icmp_ge (tgt := 102) hx hb zd_P_nodeOnLoopOfRaises_30 (by decide) (⟨by omega, by omega⟩) (⟨by omega, by omega⟩) (fun h_30 => ?_) (fun h_30 => ?_)
            · refine lv_iconst (v := iI (-1)) hx hb zd_P_nodeOnLoopOfRaises_102 rfl ?_
              exact ret _ _ _ _ _ _ _ zd_P_nodeOnLoopOfRaises_103 hP hD hS (⟨rfl, hk5, by omega, fun _ => LO_none (by have e_ : st = F 303 := (by omega); rw [e_] at hLO; exact hLO), fun h => absurd rfl h⟩)
            · refine lv_iload_n hx hb zd_P_nodeOnLoopOfRaises_33 rfl (lv_at hl 1 rfl) ?_
              refine lv_istore_n (lv' := [(2, .int (iI (st))), (0, .ref (q 3)), (1, .int (iI (st)))]) hx hb zd_P_nodeOnLoopOfRaises_34 rfl hl (by decide) rfl (fun ls hl => ?_)
              refine lv_iconst (v := iI (0)) hx hb zd_P_nodeOnLoopOfRaises_35 rfl ?_
              refine lv_istore_n (lv' := [(3, .int (iI (0))), (2, .int (iI (st))), (0, .ref (q 3)), (1, .int (iI (st)))]) hx hb zd_P_nodeOnLoopOfRaises_36 rfl hl (by decide) rfl (fun ls hl => ?_)
              have L_37 : ∀ (fu : Nat) (v : Int) (t : Int)  (A37 : Nat → Int → Int), (0 ≤ t ∧ t ≤ F 303 + 1) → (∀ k, k ≠ 25 → A37 k = A k) → (-1 ≤ v ∧ v < F 303) → (LR (F 303) (px_f (A 20) (A 23, A 24)) (A 24) st t v (A37 25)) → (F 303 + 1 - t < (fu : Int)) → ∀ (H : Heap) (locs : List Loc), va_P D zcl (gw q c F A37) H → va_D A0 (gw q c F A37) → va_S A0 s.heap H locs → ∀ ls : Array Slot, lv_has ls 4 [(0, .ref (q 3)), (1, .int (iI (st))), (2, .int (iI (v))), (3, .int (iI (t)))] → W p l e zr_P_nodeOnLoopOfRaises s m args below meth c0 H locs 0 0 Q (F0 m 37 ls []) := by
                intro fu
                induction fu with
                | zero => intro v t  A37 ht hk7 hvb hLR hm_37; exact absurd hm_37 (by omega)
                | succ fu ih_37 =>
                  intro v t  A37 ht hk7 hvb hLR hm_37 H locs hP hD hS ls hl
                  have e20 := hk7 20 (by decide)
                  have e24 := hk7 24 (by decide)
                  have e19 := hk7 19 (by decide)
                  have e21 := hk7 21 (by decide)
                  have e22 := hk7 22 (by decide)
                  refine lv_iload_n hx hb zd_P_nodeOnLoopOfRaises_37 rfl (lv_at hl 3 rfl) ?_
                  refine lv_aload_n hx hb zd_P_nodeOnLoopOfRaises_38 rfl (lv_at hl 0 rfl) ?_
                  refine va_get (D := D) (ci := 3) (v := .int (iI (F 303))) (C := zR_P) (T := zT_P) (N := 13) hx hb hts zi_P hown hK.1 hP 3 ga_3 rfl 3 (by decide) (hts _ zw_136) (fun _ h9 => h9) rfl zd_P_nodeOnLoopOfRaises_39 ?_
                  refine x_icmp_gt (tgt := 79) hx hb zd_P_nodeOnLoopOfRaises_42 (by decide) (⟨by omega, by omega⟩) (⟨by omega, by omega⟩) (fun h_42 => ?_) (fun h_42 => ?_)
                  · refine lv_iload_n hx hb zd_P_nodeOnLoopOfRaises_79 rfl (lv_at hl 2 rfl) ?_
                    refine lv_iconst (v := iI (-1)) hx hb zd_P_nodeOnLoopOfRaises_80 rfl ?_
                    refine x_icmp_eq (tgt := 96) hx hb zd_P_nodeOnLoopOfRaises_81 (by decide) (⟨by omega, by omega⟩) (⟨by omega, by omega⟩) (fun h_81 => ?_) (fun h_81 => ?_)
                    · refine lv_iinc (v := iI (st + 1)) (lv' := [(1, .int (iI (st + 1))), (0, .ref (q 3)), (2, .int (iI (v))), (3, .int (iI (t)))]) hx hb zd_P_nodeOnLoopOfRaises_96 hl (k := 1) rfl (iI_add _ _) (by decide) rfl (fun ls hl => ?_)
                      refine lv_goto (tgt := 25) hx hb zd_P_nodeOnLoopOfRaises_99 (by decide) ?_
                      exact ih_25 (st + 1)  A37 (by first | assumption | omega | (simp_all; done)) (hk7) (by first | exact LR_next hLR ht.1 hst.1 (by omega) (Or.inl h_81) | exact absurd h_47 h_81 | exact LR_next hLR ht.1 hst.1 (by omega) (Or.inr ⟨h_81, nl_x hLR ht (by first | exact Or.inl h_42 | exact Or.inr h_57) h_81 (by omega), h_91⟩)) (by omega) _ _ hP hD hS ls (lv_sub hl [1, 0] rfl)
                    · have hg2_ := (hLR.1 v (by omega) (by omega)).1
                      refine lv_aload_n hx hb zd_P_nodeOnLoopOfRaises_84 rfl (lv_at hl 0 rfl) ?_
                      refine va_get (D := D) (ci := 3) (v := .ref (q 25)) (C := zR_P) (T := zT_P) (N := 13) hx hb hts zi_P hown hK.1 hP 3 ga_3 rfl 12 (by decide) (hts _ zw_145) (fun _ h9 => h9) rfl zd_P_nodeOnLoopOfRaises_85 ?_
                      refine lv_iload_n hx hb zd_P_nodeOnLoopOfRaises_88 rfl (lv_at hl 2 rfl) ?_
                      refine x_iald (v := A37 25 v) hx hb hK.1 hP 25 0 ga_25 rfl (by decide) (by omega) (by omega) (rfl) zd_P_nodeOnLoopOfRaises_89 ?_
                      refine lv_iload_n hx hb zd_P_nodeOnLoopOfRaises_90 rfl (lv_at hl 1 rfl) ?_
                      refine x_icmp_ne (tgt := 96) hx hb zd_P_nodeOnLoopOfRaises_91 (by decide) (⟨by omega, by omega⟩) (⟨by omega, by omega⟩) (fun h_91 => ?_) (fun h_91 => ?_)
                      · refine lv_iinc (v := iI (st + 1)) (lv' := [(1, .int (iI (st + 1))), (0, .ref (q 3)), (2, .int (iI (v))), (3, .int (iI (t)))]) hx hb zd_P_nodeOnLoopOfRaises_96 hl (k := 1) rfl (iI_add _ _) (by decide) rfl (fun ls hl => ?_)
                        refine lv_goto (tgt := 25) hx hb zd_P_nodeOnLoopOfRaises_99 (by decide) ?_
                        exact ih_25 (st + 1)  A37 (by first | assumption | omega | (simp_all; done)) (hk7) (by first | exact LR_next hLR ht.1 hst.1 (by omega) (Or.inl h_81) | exact absurd h_47 h_81 | exact LR_next hLR ht.1 hst.1 (by omega) (Or.inr ⟨h_81, nl_x hLR ht (by first | exact Or.inl h_42 | exact Or.inr h_57) h_81 (by omega), h_91⟩)) (by omega) _ _ hP hD hS ls (lv_sub hl [1, 0] rfl)
                      · refine lv_iload_n hx hb zd_P_nodeOnLoopOfRaises_94 rfl (lv_at hl 2 rfl) ?_
                        exact ret _ _ _ _ _ _ _ zd_P_nodeOnLoopOfRaises_95 hP hD hS (⟨rfl, hk7, by omega, fun h => absurd h h_81, fun _ => LR_loop hLR ht.1 h_81 h_91⟩)
                  · refine lv_iload_n hx hb zd_P_nodeOnLoopOfRaises_45 rfl (lv_at hl 2 rfl) ?_
                    refine lv_iconst (v := iI (-1)) hx hb zd_P_nodeOnLoopOfRaises_46 rfl ?_
                    refine x_icmp_eq (tgt := 79) hx hb zd_P_nodeOnLoopOfRaises_47 (by decide) (⟨by omega, by omega⟩) (⟨by omega, by omega⟩) (fun h_47 => ?_) (fun h_47 => ?_)
                    · refine lv_iload_n hx hb zd_P_nodeOnLoopOfRaises_79 rfl (lv_at hl 2 rfl) ?_
                      refine lv_iconst (v := iI (-1)) hx hb zd_P_nodeOnLoopOfRaises_80 rfl ?_
                      refine x_icmp_eq (tgt := 96) hx hb zd_P_nodeOnLoopOfRaises_81 (by decide) (⟨by omega, by omega⟩) (⟨by omega, by omega⟩) (fun h_81 => ?_) (fun h_81 => ?_)
                      · refine lv_iinc (v := iI (st + 1)) (lv' := [(1, .int (iI (st + 1))), (0, .ref (q 3)), (2, .int (iI (v))), (3, .int (iI (t)))]) hx hb zd_P_nodeOnLoopOfRaises_96 hl (k := 1) rfl (iI_add _ _) (by decide) rfl (fun ls hl => ?_)
                        refine lv_goto (tgt := 25) hx hb zd_P_nodeOnLoopOfRaises_99 (by decide) ?_
                        exact ih_25 (st + 1)  A37 (by first | assumption | omega | (simp_all; done)) (hk7) (by first | exact LR_next hLR ht.1 hst.1 (by omega) (Or.inl h_81) | exact absurd h_47 h_81 | exact LR_next hLR ht.1 hst.1 (by omega) (Or.inr ⟨h_81, nl_x hLR ht (by first | exact Or.inl h_42 | exact Or.inr h_57) h_81 (by omega), h_91⟩)) (by omega) _ _ hP hD hS ls (lv_sub hl [1, 0] rfl)
                      · have hg2_ := (hLR.1 v (by omega) (by omega)).1
                        refine lv_aload_n hx hb zd_P_nodeOnLoopOfRaises_84 rfl (lv_at hl 0 rfl) ?_
                        refine va_get (D := D) (ci := 3) (v := .ref (q 25)) (C := zR_P) (T := zT_P) (N := 13) hx hb hts zi_P hown hK.1 hP 3 ga_3 rfl 12 (by decide) (hts _ zw_145) (fun _ h9 => h9) rfl zd_P_nodeOnLoopOfRaises_85 ?_
                        refine lv_iload_n hx hb zd_P_nodeOnLoopOfRaises_88 rfl (lv_at hl 2 rfl) ?_
                        refine x_iald (v := A37 25 v) hx hb hK.1 hP 25 0 ga_25 rfl (by decide) (by omega) (by omega) (rfl) zd_P_nodeOnLoopOfRaises_89 ?_
                        refine lv_iload_n hx hb zd_P_nodeOnLoopOfRaises_90 rfl (lv_at hl 1 rfl) ?_
                        refine x_icmp_ne (tgt := 96) hx hb zd_P_nodeOnLoopOfRaises_91 (by decide) (⟨by omega, by omega⟩) (⟨by omega, by omega⟩) (fun h_91 => ?_) (fun h_91 => ?_)
                        · refine lv_iinc (v := iI (st + 1)) (lv' := [(1, .int (iI (st + 1))), (0, .ref (q 3)), (2, .int (iI (v))), (3, .int (iI (t)))]) hx hb zd_P_nodeOnLoopOfRaises_96 hl (k := 1) rfl (iI_add _ _) (by decide) rfl (fun ls hl => ?_)
                          refine lv_goto (tgt := 25) hx hb zd_P_nodeOnLoopOfRaises_99 (by decide) ?_
                          exact ih_25 (st + 1)  A37 (by first | assumption | omega | (simp_all; done)) (hk7) (by first | exact LR_next hLR ht.1 hst.1 (by omega) (Or.inl h_81) | exact absurd h_47 h_81 | exact LR_next hLR ht.1 hst.1 (by omega) (Or.inr ⟨h_81, nl_x hLR ht (by first | exact Or.inl h_42 | exact Or.inr h_57) h_81 (by omega), h_91⟩)) (by omega) _ _ hP hD hS ls (lv_sub hl [1, 0] rfl)
                        · refine lv_iload_n hx hb zd_P_nodeOnLoopOfRaises_94 rfl (lv_at hl 2 rfl) ?_
                          exact ret _ _ _ _ _ _ _ zd_P_nodeOnLoopOfRaises_95 hP hD hS (⟨rfl, hk7, by omega, fun h => absurd h h_81, fun _ => LR_loop hLR ht.1 h_81 h_91⟩)
                    · have hg_ := (hLR.1 v (by omega) (by omega)).1
                      refine lv_aload_n hx hb zd_P_nodeOnLoopOfRaises_50 rfl (lv_at hl 0 rfl) ?_
                      refine va_get (D := D) (ci := 3) (v := .ref (q 25)) (C := zR_P) (T := zT_P) (N := 13) hx hb hts zi_P hown hK.1 hP 3 ga_3 rfl 12 (by decide) (hts _ zw_145) (fun _ h9 => h9) rfl zd_P_nodeOnLoopOfRaises_51 ?_
                      refine lv_iload_n hx hb zd_P_nodeOnLoopOfRaises_54 rfl (lv_at hl 2 rfl) ?_
                      refine x_iald (v := A37 25 v) hx hb hK.1 hP 25 0 ga_25 rfl (by decide) (by omega) (by omega) (rfl) zd_P_nodeOnLoopOfRaises_55 ?_
                      refine lv_iconst (v := iI (-1)) hx hb zd_P_nodeOnLoopOfRaises_56 rfl ?_
                      refine x_icmp_ne (tgt := 79) hx hb zd_P_nodeOnLoopOfRaises_57 (by decide) (⟨by omega, by omega⟩) (⟨by omega, by omega⟩) (fun h_57 => ?_) (fun h_57 => ?_)
                      · refine lv_iload_n hx hb zd_P_nodeOnLoopOfRaises_79 rfl (lv_at hl 2 rfl) ?_
                        refine lv_iconst (v := iI (-1)) hx hb zd_P_nodeOnLoopOfRaises_80 rfl ?_
                        refine x_icmp_eq (tgt := 96) hx hb zd_P_nodeOnLoopOfRaises_81 (by decide) (⟨by omega, by omega⟩) (⟨by omega, by omega⟩) (fun h_81 => ?_) (fun h_81 => ?_)
                        · refine lv_iinc (v := iI (st + 1)) (lv' := [(1, .int (iI (st + 1))), (0, .ref (q 3)), (2, .int (iI (v))), (3, .int (iI (t)))]) hx hb zd_P_nodeOnLoopOfRaises_96 hl (k := 1) rfl (iI_add _ _) (by decide) rfl (fun ls hl => ?_)
                          refine lv_goto (tgt := 25) hx hb zd_P_nodeOnLoopOfRaises_99 (by decide) ?_
                          exact ih_25 (st + 1)  A37 (by first | assumption | omega | (simp_all; done)) (hk7) (by first | exact LR_next hLR ht.1 hst.1 (by omega) (Or.inl h_81) | exact absurd h_47 h_81 | exact LR_next hLR ht.1 hst.1 (by omega) (Or.inr ⟨h_81, nl_x hLR ht (by first | exact Or.inl h_42 | exact Or.inr h_57) h_81 (by omega), h_91⟩)) (by omega) _ _ hP hD hS ls (lv_sub hl [1, 0] rfl)
                        · have hg2_ := (hLR.1 v (by omega) (by omega)).1
                          refine lv_aload_n hx hb zd_P_nodeOnLoopOfRaises_84 rfl (lv_at hl 0 rfl) ?_
                          refine va_get (D := D) (ci := 3) (v := .ref (q 25)) (C := zR_P) (T := zT_P) (N := 13) hx hb hts zi_P hown hK.1 hP 3 ga_3 rfl 12 (by decide) (hts _ zw_145) (fun _ h9 => h9) rfl zd_P_nodeOnLoopOfRaises_85 ?_
                          refine lv_iload_n hx hb zd_P_nodeOnLoopOfRaises_88 rfl (lv_at hl 2 rfl) ?_
                          refine x_iald (v := A37 25 v) hx hb hK.1 hP 25 0 ga_25 rfl (by decide) (by omega) (by omega) (rfl) zd_P_nodeOnLoopOfRaises_89 ?_
                          refine lv_iload_n hx hb zd_P_nodeOnLoopOfRaises_90 rfl (lv_at hl 1 rfl) ?_
                          refine x_icmp_ne (tgt := 96) hx hb zd_P_nodeOnLoopOfRaises_91 (by decide) (⟨by omega, by omega⟩) (⟨by omega, by omega⟩) (fun h_91 => ?_) (fun h_91 => ?_)
                          · refine lv_iinc (v := iI (st + 1)) (lv' := [(1, .int (iI (st + 1))), (0, .ref (q 3)), (2, .int (iI (v))), (3, .int (iI (t)))]) hx hb zd_P_nodeOnLoopOfRaises_96 hl (k := 1) rfl (iI_add _ _) (by decide) rfl (fun ls hl => ?_)
                            refine lv_goto (tgt := 25) hx hb zd_P_nodeOnLoopOfRaises_99 (by decide) ?_
                            exact ih_25 (st + 1)  A37 (by first | assumption | omega | (simp_all; done)) (hk7) (by first | exact LR_next hLR ht.1 hst.1 (by omega) (Or.inl h_81) | exact absurd h_47 h_81 | exact LR_next hLR ht.1 hst.1 (by omega) (Or.inr ⟨h_81, nl_x hLR ht (by first | exact Or.inl h_42 | exact Or.inr h_57) h_81 (by omega), h_91⟩)) (by omega) _ _ hP hD hS ls (lv_sub hl [1, 0] rfl)
                          · refine lv_iload_n hx hb zd_P_nodeOnLoopOfRaises_94 rfl (lv_at hl 2 rfl) ?_
                            exact ret _ _ _ _ _ _ _ zd_P_nodeOnLoopOfRaises_95 hP hD hS (⟨rfl, hk7, by omega, fun h => absurd h h_81, fun _ => LR_loop hLR ht.1 h_81 h_91⟩)
                      · have hlt_ := LR_lt hLR ht.1 h_47 (fun _ _ _ => h_57) (by omega)
                        refine lv_aload_n hx hb zd_P_nodeOnLoopOfRaises_60 rfl (lv_at hl 0 rfl) ?_
                        refine va_get (D := D) (ci := 3) (v := .ref (q 25)) (C := zR_P) (T := zT_P) (N := 13) hx hb hts zi_P hown hK.1 hP 3 ga_3 rfl 12 (by decide) (hts _ zw_145) (fun _ h9 => h9) rfl zd_P_nodeOnLoopOfRaises_61 ?_
                        refine lv_iload_n hx hb zd_P_nodeOnLoopOfRaises_64 rfl (lv_at hl 2 rfl) ?_
                        refine lv_iload_n hx hb zd_P_nodeOnLoopOfRaises_65 rfl (lv_at hl 1 rfl) ?_
                        refine x_iast hx hb hK.1 hP hD hS 25 0 ga_25 rfl (by decide) (by omega) (by omega) zd_P_nodeOnLoopOfRaises_66 (fun H locs hP hD hS => ?_)
                        rw [gs_25] at hP hD
                        refine lv_aload_n hx hb zd_P_nodeOnLoopOfRaises_67 rfl (lv_at hl 0 rfl) ?_
                        refine lv_iload_n hx hb zd_P_nodeOnLoopOfRaises_68 rfl (lv_at hl 2 rfl) ?_
                        refine z_goi (z_runV (n := 1) (k := 3) (ci := 3) (As := [.int (iI (v))]) (rest := []) S (c_P_nodeAhead l D q c _ F (auP A37 25 v st) v (by first | assumption | omega | (simp [auP, e19, e20, e21, e22, e24]; assumption)) (by first | assumption | omega | (simp [auP, e19, e20, e21, e22, e24]; assumption)) (by first | assumption | omega | (simp [auP, e19, e20, e21, e22, e24]; assumption)) (by first | assumption | omega | (simp [auP, e19, e20, e21, e22, e24]; assumption)) (by first | assumption | omega | (simp [auP, e19, e20, e21, e22, e24]; assumption)) (by first | assumption | omega | (simp [auP, e19, e20, e21, e22, e24]; assumption)) (by first | assumption | omega | (simp [auP, e19, e20, e21, e22, e24]; assumption))) zw_517 zw_519 zs_35 zw_4 zw_520 ⟨by decide +kernel, by decide, rfl, rfl⟩ hK hP hD ga_3 rfl rfl rfl hl.1 rfl (Nat.le_of_ble_eq_true rfl) zd_P_nodeOnLoopOfRaises_69 ⟨Nat.zero_le _, Nat.zero_le _⟩) hD hS hA (fun z_69 F_69 A_69 H locs hq_69 hP hD hS => ?_)
                        obtain ⟨hf_69, ha_69, hq_69⟩ := hq_69
                        rw [hf_69, ha_69] at hP hD
                        have hw_ : z_69 = if A 24 v = -1 then -1 else (px_f (A 20) (A 23, A 24)) v := by (rw [hq_69]; show (if A37 24 v = -1 then -1 else A37 20 (A37 24 v)) = _; rw [e20, e24]; rfl)
                        have hst_ := LR_step hLR ht.1 hst.1 h_47 h_57 hf_ hw_
                        have hzb_ : -1 ≤ z_69 ∧ z_69 < F 303 := by (rw [hw_]; by_cases e_ : A 24 v = -1; (rw [if_pos e_]; omega); (rw [if_neg e_]; have := hf_ v (by omega) (by omega) e_; omega))
                        refine lv_istore_n (lv' := [(2, .int (iI (z_69))), (0, .ref (q 3)), (1, .int (iI (st))), (3, .int (iI (t)))]) hx hb zd_P_nodeOnLoopOfRaises_72 rfl hl (by decide) rfl (fun ls hl => ?_)
                        refine lv_iinc (v := iI (t + 1)) (lv' := [(3, .int (iI (t + 1))), (2, .int (iI (z_69))), (0, .ref (q 3)), (1, .int (iI (st)))]) hx hb zd_P_nodeOnLoopOfRaises_73 hl (k := 3) rfl (iI_add _ _) (by decide) rfl (fun ls hl => ?_)
                        refine lv_goto (tgt := 37) hx hb zd_P_nodeOnLoopOfRaises_76 (by decide) ?_
                        exact ih_37 (z_69) (t + 1)  (auP A37 25 v st) (by first | assumption | omega | (simp_all; done)) (fun k h => by simp [auP, h, hk7 k h]) (by first | assumption | omega | (simp_all; done)) (hst_) (by omega) _ _ hP hD hS ls (lv_sub hl [2, 3, 1, 0] rfl)
              exact L_37 (((F 303 + 1 - (0) : Int) + 1).toNat) (st) (0)  A25 (by first | assumption | omega | (simp_all; done)) (hk5) (by first | assumption | omega | (simp_all; done)) (LR_init hLO hst.1 (by omega)) (by omega) _ _ hP hD hS ls (lv_sub hl [2, 3, 1, 0] rfl)
        exact L_25 (((F 303 - (0) : Int) + 1).toNat) (0)  A2 (by first | assumption | omega | (simp_all; done)) (hk) (fun x h0 h1 => by rw [hs x h0 (by omega)]; exact ⟨by omega, fun h => absurd rfl h, fun h => by omega⟩) (by omega) _ _ hP hD hS ls (lv_sub hl [1, 0] rfl)
      · refine lv_aload_n hx hb zd_P_nodeOnLoopOfRaises_10 rfl (lv_at hl 0 rfl) ?_
        refine va_get (D := D) (ci := 3) (v := .ref (q 25)) (C := zR_P) (T := zT_P) (N := 13) hx hb hts zi_P hown hK.1 hP 3 ga_3 rfl 12 (by decide) (hts _ zw_145) (fun _ h9 => h9) rfl zd_P_nodeOnLoopOfRaises_11 ?_
        refine lv_iload_n hx hb zd_P_nodeOnLoopOfRaises_14 rfl (lv_at hl 1 rfl) ?_
        refine lv_iconst (v := iI (-1)) hx hb zd_P_nodeOnLoopOfRaises_15 rfl ?_
        refine x_iast hx hb hK.1 hP hD hS 25 0 ga_25 rfl (by decide) (by omega) (by omega) zd_P_nodeOnLoopOfRaises_16 (fun H locs hP hD hS => ?_)
        rw [gs_25] at hP hD
        refine lv_iinc (v := iI (i + 1)) (lv' := [(1, .int (iI (i + 1))), (0, .ref (q 3))]) hx hb zd_P_nodeOnLoopOfRaises_17 hl (k := 1) rfl (iI_add _ _) (by decide) rfl (fun ls hl => ?_)
        refine lv_goto (tgt := 2) hx hb zd_P_nodeOnLoopOfRaises_20 (by decide) ?_
        exact ih_2 (i + 1)  (auP A2 25 i (-1)) (by first | assumption | omega | (simp_all; done)) (fun k h => by simp [auP, h, hk k h]) (fun x h0 h1 => by by_cases e_ : x = i; (subst e_; simp [auP, upI]); (have := hs x h0 (by omega); simp [auP, upI, e_, this])) (by omega) _ _ hP hD hS ls (lv_sub hl [1, 0] rfl)
  exact L_2 (((F 303 - (0) : Int) + 1).toNat) (0)  A (by first | assumption | omega | (simp_all; done)) (fun k _ => rfl) (fun x h0 h1 => by omega) (by omega) _ _ hP hD hS ls (lv_sub hl [1, 0] rfl)
end
section
section PJ
variable {n m : Nat} {ef et w : Int → Int} {S : (Int → Int) × (Int → Int)}
theorem px_init_I (h : ∀ v, px_N n v → S.2 v = -1) : px_I n m ef et w S :=
  ⟨⟨fun y hy hh => absurd (h y hy) hh, fun y hy k hk hp _ => absurd (h y hy) (hp 0 (by omega))⟩, fun v hv hh => absurd (h v hv) hh⟩
theorem px_init_J (h : ∀ v, px_N n v → S.2 v = -1) : px_J n m ef et w S (fun _ => 0) 1 0 :=
  ⟨fun v hv => ⟨Nat.zero_le _, fun hh => absurd (h v hv) hh, fun _ => rfl⟩, fun e he => ⟨fun h1 => by have := he.1; omega, fun _ h2 => by have h3 : 0 + 1 < 1 := h2; omega⟩⟩
theorem px_J_next {c : Int → Nat} {k : Nat} (h : px_J n m ef et w S c k m) : px_J n m ef et w S c (k + 1) 0 :=
  ⟨fun v hv => by obtain ⟨a, b, d⟩ := h.1 v hv; exact ⟨by omega, b, d⟩, fun e he => ⟨fun h1 => by have := he.1; omega, fun _ h2 => (h.2 e he).1 he.2 (by omega)⟩⟩
end PJ
/-- one pass more: what it leaves, and that there was a loop if the passes are as many as the nodes -/
theorem sl_pass {F : Nat → Int} {A B1 B2 : Nat → Int → Int} {p : Int} (hp : 0 ≤ p) (hN : 0 ≤ F 303 ∧ F 303 ≤ 40) (hE : 0 ≤ F 304 ∧ F 304 ≤ 600) (hed : ∀ e, 0 ≤ e → e < F 304 → (0 ≤ A 20 e ∧ A 20 e < F 303) ∧ (0 ≤ A 21 e ∧ A 21 e < F 303) ∧ 0 ≤ A 22 e ∧ A 22 e ≤ 100)
    (hI : px_I (F 303).toNat (F 304).toNat (A 20) (A 21) (cw F A) (B1 23, B1 24)) (hJ : ∃ c, px_J (F 303).toNat (F 304).toNat (A 20) (A 21) (cw F A) (B1 23, B1 24) c (p.toNat + 1) 0)
    (hB : (B2 23, B2 24) = px_pass (A 20) (A 21) (cw F A) (B1 23, B1 24) (F 304).toNat) (hr : px_rai (A 20) (A 21) (cw F A) (B1 23, B1 24) (F 304).toNat = true) :
    px_I (F 303).toNat (F 304).toNat (A 20) (A 21) (cw F A) (B2 23, B2 24) ∧ (∃ c, px_J (F 303).toNat (F 304).toNat (A 20) (A 21) (cw F A) (B2 23, B2 24) c ((p + 1).toNat + 1) 0) ∧
    ((∀ y, 0 ≤ y → y < F 303 → ∀ i : Nat, 1 ≤ i → (∀ j : Nat, j < i → B2 24 (rx_it (px_f (A 20) (B2 23, B2 24)) j y) ≠ -1) → rx_it (px_f (A 20) (B2 23, B2 24)) i y ≠ y) → p + 1 < F 303) := by
  obtain ⟨c, hJ⟩ := hJ
  have hE2 : ∀ e, px_N (F 304).toNat e → px_N (F 303).toNat (A 20 e) ∧ px_N (F 303).toNat (A 21 e) := fun e he => by
    have := hed e he.1 (by have := he.2; omega)
    exact ⟨⟨by omega, by omega⟩, ⟨by omega, by omega⟩⟩
  obtain ⟨h1, c2, h2, h3⟩ := px_pass_ok (k := p.toNat + 1) (by omega) hE2 hI hJ (F 304).toNat (Nat.le_refl _)
  rw [← hB] at h1 h2
  refine ⟨h1, ⟨c2, by rw [show (p + 1).toNat = p.toNat + 1 by omega]; exact px_J_next h2⟩, fun hno => ?_⟩
  refine Int.lt_of_not_ge (fun hc => ?_)
  obtain ⟨y, hy, i, hi, hp1, hp2⟩ := px_loop h1 (fun v hv => (h2.1 v hv).2) (h3 hr) (by omega)
  exact hno y hy.1 (by have := hy.2; omega) i hi hp1 hp2
theorem sl_end {F : Nat → Int} {A B1 : Nat → Int → Int} (hE : 0 ≤ F 304 ∧ F 304 ≤ 600) (hr : px_rai (A 20) (A 21) (cw F A) (B1 23, B1 24) (F 304).toNat = false) : ∀ e, 0 ≤ e → e < F 304 → B1 23 (A 20 e) + cw F A e ≤ B1 23 (A 21 e) := by
  intro e h0 h1
  have := (px_still _ hr).2 e.toNat (by omega)
  rw [show ((e.toNat : Nat) : Int) = e by omega] at this
  exact this
theorem sl_via {F : Nat → Int} {A B2 : Nat → Int → Int} (hN : 0 ≤ F 303 ∧ F 303 ≤ 40) (hE : 0 ≤ F 304 ∧ F 304 ≤ 600) (h : px_I (F 303).toNat (F 304).toNat (A 20) (A 21) (cw F A) (B2 23, B2 24)) : ∀ v, 0 ≤ v → v < F 303 → -1 ≤ B2 24 v ∧ B2 24 v < F 304 := by
  intro v h0 h1
  by_cases e : B2 24 v = -1
  · rw [e]; omega
  · have := (h.2 v ⟨h0, by omega⟩ e).1
    have h2 := this.1
    have h3 := this.2
    dsimp only at h2 h3
    omega
abbrev zr_P_nodeOnSlowerLoop : Room := ({ frames := 2, cells := 0, slots := 0, locals := 45 } : Room)
set_option maxHeartbeats 4000000 in
set_option maxRecDepth 100000 in
theorem c_P_nodeOnSlowerLoop (l : Launch) (D : va_G) (q : Nat → Nat) (c : Nat → ClassId) (sz : Nat) (F : Nat → Int) (A : Nat → Int → Int)  (hN : 0 ≤ F 303 ∧ F 303 ≤ 40) (hE : 0 ≤ F 304 ∧ F 304 ≤ 600) (hed : ∀ e, 0 ≤ e → e < F 304 → (0 ≤ A 20 e ∧ A 20 e < F 303) ∧ (0 ≤ A 21 e ∧ A 21 e < F 303) ∧ 0 ≤ A 22 e ∧ A 22 e ≤ 100) (hnt : ∀ v, 0 ≤ v → v < F 303 → 1 ≤ A 19 v ∧ A 19 v ≤ 9) (hpq : (0 ≤ F 301 ∧ F 301 ≤ 360) ∧ 1 ≤ F 302 ∧ F 302 ≤ 7) : zMI l zy_P_nodeOnSlowerLoop zc_P_nodeOnSlowerLoop 3 (some .int) zr_P_nodeOnSlowerLoop D q c sz [.ref (q 3)] F A (fun z F1 A1 => F1 = F ∧ (∀ k, k ≠ 23 → k ≠ 24 → k ≠ 25 → A1 k = A k) ∧ (-1 ≤ z ∧ z < 40) ∧ (z = -1 → ∃ x : Int → Int, ∀ e, 0 ≤ e → e < F 304 → x (A 20 e) + cw F A e ≤ x (A 21 e)) ∧ (z ≠ -1 → (0 ≤ z ∧ z < F 303) ∧ px_I (F 303).toNat (F 304).toNat (A 20) (A 21) (cw F A) (A1 23, A1 24) ∧ ∃ i : Nat, 1 ≤ i ∧ (∀ j : Nat, j < i → A1 24 (rx_it (px_f (A 20) (A1 23, A1 24)) j z) ≠ -1) ∧ rx_it (px_f (A 20) (A1 23, A1 24)) i z = z)) := by
  refine z_ofI (by decide) (Nat.le_of_ble_eq_true rfl) ?_
  intro p e s m args below meth c0 A0 Q C0 ret hP hD hS ls hl
  obtain ⟨S, hK, hA⟩ := C0
  have hx := S.1
  have hb := S.2.1
  have hown := S.2.2.2.1
  have hts : ∀ w ∈ zG, w.before args s = true := fun w h => S.2.2.2.2 w (List.mem_cons_of_mem _ h)
  have hl : lv_has ls 3 [(0, .ref (q 3))] := hl
  refine lv_iconst (v := iI (0)) hx hb zd_P_nodeOnSlowerLoop_0 rfl ?_
  refine lv_istore_n (lv' := [(1, .int (iI (0))), (0, .ref (q 3))]) hx hb zd_P_nodeOnSlowerLoop_1 rfl hl (by decide) rfl (fun ls hl => ?_)
  have L_2 : ∀ (fu : Nat) (i : Int)  (A2 : Nat → Int → Int), (0 ≤ i ∧ i ≤ F 303) → (∀ k, k ≠ 23 → k ≠ 24 → A2 k = A k) → (∀ x, 0 ≤ x → x < i → A2 23 x = 0 ∧ A2 24 x = -1) → (F 303 - i < (fu : Int)) → ∀ (H : Heap) (locs : List Loc), va_P D zcl (gw q c F A2) H → va_D A0 (gw q c F A2) → va_S A0 s.heap H locs → ∀ ls : Array Slot, lv_has ls 3 [(0, .ref (q 3)), (1, .int (iI (i)))] → W p l e zr_P_nodeOnSlowerLoop s m args below meth c0 H locs 0 0 Q (F0 m 2 ls []) := by
    intro fu
    induction fu with
    | zero => intro i  A2 hi hk hs hm_2; exact absurd hm_2 (by omega)
    | succ fu ih_2 =>
      intro i  A2 hi hk hs hm_2 H locs hP hD hS ls hl
      refine lv_iload_n hx hb zd_P_nodeOnSlowerLoop_2 rfl (lv_at hl 1 rfl) ?_
      refine lv_aload_n hx hb zd_P_nodeOnSlowerLoop_3 rfl (lv_at hl 0 rfl) ?_
      refine va_get (D := D) (ci := 3) (v := .int (iI (F 303))) (C := zR_P) (T := zT_P) (N := 13) hx hb hts zi_P hown hK.1 hP 3 ga_3 rfl 3 (by decide) (hts _ zw_136) (fun _ h9 => h9) rfl zd_P_nodeOnSlowerLoop_4 ?_
      refine x_icmp_ge (tgt := 30) hx hb zd_P_nodeOnSlowerLoop_7 (by decide) (⟨by omega, by omega⟩) (⟨by omega, by omega⟩) (fun h_7 => ?_) (fun h_7 => ?_)
      · refine lv_iconst (v := iI (0)) hx hb zd_P_nodeOnSlowerLoop_30 rfl ?_
        refine lv_istore_n (lv' := [(1, .int (iI (0))), (0, .ref (q 3))]) hx hb zd_P_nodeOnSlowerLoop_31 rfl hl (by decide) rfl (fun ls hl => ?_)
        have L_32 : ∀ (fu : Nat) (p1 : Int)  (A32 : Nat → Int → Int), (0 ≤ p1 ∧ p1 ≤ F 303) → (∀ k, k ≠ 23 → k ≠ 24 → k ≠ 25 → A32 k = A k) → (px_I (F 303).toNat (F 304).toNat (A 20) (A 21) (cw F A) (A32 23, A32 24)) → (∃ c, px_J (F 303).toNat (F 304).toNat (A 20) (A 21) (cw F A) (A32 23, A32 24) c (p1.toNat + 1) 0) → (∀ v, 0 ≤ v → v < F 303 → 0 ≤ A32 23 v ∧ A32 23 v ≤ 37800 * p1) → (F 303 - p1 < (fu : Int)) → ∀ (H : Heap) (locs : List Loc), va_P D zcl (gw q c F A32) H → va_D A0 (gw q c F A32) → va_S A0 s.heap H locs → ∀ ls : Array Slot, lv_has ls 3 [(0, .ref (q 3)), (1, .int (iI (p1)))] → W p l e zr_P_nodeOnSlowerLoop s m args below meth c0 H locs 0 0 Q (F0 m 32 ls []) := by
          intro fu
          induction fu with
          | zero => intro p1  A32 hp hk5 hI hJ hx3 hm_32; exact absurd hm_32 (by omega)
          | succ fu ih_32 =>
            intro p1  A32 hp hk5 hI hJ hx3 hm_32 H locs hP hD hS ls hl
            have e19 := hk5 19 (by decide) (by decide) (by decide)
            have e20 := hk5 20 (by decide) (by decide) (by decide)
            have e21 := hk5 21 (by decide) (by decide) (by decide)
            have e22 := hk5 22 (by decide) (by decide) (by decide)
            have ecw : cw F A32 = cw F A := by (funext e; unfold cw; rw [e19, e20, e22])
            refine lv_iload_n hx hb zd_P_nodeOnSlowerLoop_32 rfl (lv_at hl 1 rfl) ?_
            refine lv_sipush (v := iI (1000)) hx hb zd_P_nodeOnSlowerLoop_33 (by decide) ?_
            refine x_icmp_ge (tgt := 66) hx hb zd_P_nodeOnSlowerLoop_36 (by decide) (⟨by omega, by omega⟩) (⟨by omega, by omega⟩) (fun h_36 => ?_) (fun h_36 => ?_)
            · omega
            · refine lv_aload_n hx hb zd_P_nodeOnSlowerLoop_39 rfl (lv_at hl 0 rfl) ?_
              refine z_goi (z_runV (n := 0) (k := 3) (ci := 3) (As := []) (rest := []) S (c_P_raiseAll l D q c _ F A32 (37800 * p1) (by first | assumption | omega | (simp only [e19, e20, e21, e22]; assumption)) (by first | assumption | omega | (simp only [e19, e20, e21, e22]; assumption)) (by first | assumption | omega | (simp only [e19, e20, e21, e22]; assumption)) (by first | assumption | omega | (simp only [e19, e20, e21, e22]; assumption)) (by first | assumption | omega | (simp only [e19, e20, e21, e22]; assumption)) (by first | assumption | omega | (simp only [e19, e20, e21, e22]; assumption)) (by first | assumption | omega | (simp only [e19, e20, e21, e22]; assumption))) zw_509 zw_511 zs_33 zw_4 zw_512 ⟨by decide +kernel, by decide, rfl, rfl⟩ hK hP hD ga_3 rfl rfl rfl hl.1 rfl (Nat.le_of_ble_eq_true rfl) zd_P_nodeOnSlowerLoop_40 ⟨Nat.zero_le _, Nat.zero_le _⟩) hD hS hA (fun z_40 F_40 A_40 H locs hq_40 hP hD hS => ?_)
              obtain ⟨hf_40, hq_40⟩ := hq_40
              rw [hf_40] at hP hD
              obtain ⟨r1, r2, r3, r4⟩ := hq_40
              rw [e20, e21, ecw] at r2 r3
              have b40_ : z_40 = 0 ∨ z_40 = 1 := by rw [r3]; split <;> simp
              refine x_if_ne (tgt := 48) hx hb zd_P_nodeOnSlowerLoop_43 (by decide) (⟨by omega, by omega⟩) (fun h_43 => ?_) (fun h_43 => ?_)
              · have hra_ : px_rai (A 20) (A 21) (cw F A) (A32 23, A32 24) (F 304).toNat = true := by (by_cases e_ : px_rai (A 20) (A 21) (cw F A) (A32 23, A32 24) (F 304).toNat = true; (exact e_); (rw [if_neg e_] at r3; omega))
                obtain ⟨t1, t2, t3⟩ := sl_pass hp.1 hN hE hed hI hJ r2 hra_
                have hvia_ := sl_via hN hE t1
                refine lv_aload_n hx hb zd_P_nodeOnSlowerLoop_48 rfl (lv_at hl 0 rfl) ?_
                refine z_goi (z_runV (n := 0) (k := 3) (ci := 3) (As := []) (rest := []) S (c_P_nodeOnLoopOfRaises l D q c _ F A_40 (by first | assumption | omega | (simp only [r1 19 (by decide) (by decide), r1 20 (by decide) (by decide), r1 21 (by decide) (by decide), r1 22 (by decide) (by decide), e19, e20, e21, e22]; assumption)) (by first | assumption | omega | (simp only [r1 19 (by decide) (by decide), r1 20 (by decide) (by decide), r1 21 (by decide) (by decide), r1 22 (by decide) (by decide), e19, e20, e21, e22]; assumption)) (by first | assumption | omega | (simp only [r1 19 (by decide) (by decide), r1 20 (by decide) (by decide), r1 21 (by decide) (by decide), r1 22 (by decide) (by decide), e19, e20, e21, e22]; assumption)) (by first | assumption | omega | (simp only [r1 19 (by decide) (by decide), r1 20 (by decide) (by decide), r1 21 (by decide) (by decide), r1 22 (by decide) (by decide), e19, e20, e21, e22]; assumption)) (by first | assumption | omega | (simp only [r1 19 (by decide) (by decide), r1 20 (by decide) (by decide), r1 21 (by decide) (by decide), r1 22 (by decide) (by decide), e19, e20, e21, e22]; assumption)) (by first | assumption | omega | (simp only [r1 19 (by decide) (by decide), r1 20 (by decide) (by decide), r1 21 (by decide) (by decide), r1 22 (by decide) (by decide), e19, e20, e21, e22]; assumption))) zw_513 zw_515 zs_34 zw_4 zw_516 ⟨by decide +kernel, by decide, rfl, rfl⟩ hK hP hD ga_3 rfl rfl rfl hl.1 rfl (Nat.le_of_ble_eq_true rfl) zd_P_nodeOnSlowerLoop_49 ⟨Nat.zero_le _, Nat.zero_le _⟩) hD hS hA (fun z_49 F_49 A_49 H locs hq_49 hP hD hS => ?_)
                obtain ⟨hf_49, hq_49⟩ := hq_49
                rw [hf_49] at hP hD
                obtain ⟨s1, s2, s3, s4⟩ := hq_49
                have q20 := (r1 20 (by decide) (by decide)).trans e20
                rw [q20] at s3 s4
                refine lv_istore_n (lv' := [(2, .int (iI (z_49))), (0, .ref (q 3)), (1, .int (iI (p1)))]) hx hb zd_P_nodeOnSlowerLoop_52 rfl hl (by decide) rfl (fun ls hl => ?_)
                refine lv_iload_n hx hb zd_P_nodeOnSlowerLoop_53 rfl (lv_at hl 0 rfl) ?_
                refine lv_iconst (v := iI (-1)) hx hb zd_P_nodeOnSlowerLoop_54 rfl ?_
                refine x_icmp_eq (tgt := 60) hx hb zd_P_nodeOnSlowerLoop_55 (by decide) (⟨by omega, by omega⟩) (⟨by omega, by omega⟩) (fun h_55 => ?_) (fun h_55 => ?_)
                · have hlt_ := t3 (s3 h_55)
                  refine lv_iinc (v := iI (p1 + 1)) (lv' := [(1, .int (iI (p1 + 1))), (2, .int (iI (z_49))), (0, .ref (q 3))]) hx hb zd_P_nodeOnSlowerLoop_60 hl (k := 2) rfl (iI_add _ _) (by decide) rfl (fun ls hl => ?_)
                  refine lv_goto (tgt := 32) hx hb zd_P_nodeOnSlowerLoop_63 (by decide) ?_
                  exact ih_32 (p1 + 1)  A_49 (by first | assumption | omega | (simp_all; done)) (fun k h1 h2 h3 => by rw [s1 k h3, r1 k h1 h2, hk5 k h1 h2 h3]) (by rw [s1 23 (by decide), s1 24 (by decide)]; exact t1) (by rw [s1 23 (by decide), s1 24 (by decide)]; exact t2) (fun v h0 h1 => by rw [s1 23 (by decide)]; have := r4 v h0 h1; omega) (by omega) _ _ hP hD hS ls (lv_sub hl [2, 0] rfl)
                · refine lv_iload_n hx hb zd_P_nodeOnSlowerLoop_58 rfl (lv_at hl 0 rfl) ?_
                  exact ret _ _ _ _ _ _ _ zd_P_nodeOnSlowerLoop_59 hP hD hS (⟨rfl, fun k h1 h2 h3 => by rw [s1 k h3, r1 k h1 h2, hk5 k h1 h2 h3], s2, fun h => absurd h h_55, fun _ => ⟨(s4 h_55).1, by rw [s1 23 (by decide), s1 24 (by decide)]; exact t1, by rw [s1 23 (by decide), s1 24 (by decide)]; exact (s4 h_55).2⟩⟩)
              · refine lv_iconst (v := iI (-1)) hx hb zd_P_nodeOnSlowerLoop_46 rfl ?_
                exact ret _ _ _ _ _ _ _ zd_P_nodeOnSlowerLoop_47 hP hD hS (⟨rfl, fun k h1 h2 h3 => by rw [r1 k h1 h2, hk5 k h1 h2 h3], by omega, fun _ => ⟨A32 23, sl_end hE (by (by_cases e_ : px_rai (A 20) (A 21) (cw F A) (A32 23, A32 24) (F 304).toNat = true; (rw [if_pos e_] at r3; omega); (simpa using e_)))⟩, fun h => absurd rfl h⟩)
        exact L_32 (((F 303 - (0) : Int) + 1).toNat) (0)  A2 (by first | assumption | omega | (simp_all; done)) (fun k h1 h2 _ => hk k h1 h2) (px_init_I (fun v hv => (hs v hv.1 (by have := hv.2; omega)).2)) (⟨_, px_init_J (fun v hv => (hs v hv.1 (by have := hv.2; omega)).2)⟩) (fun v h0 h1 => by rw [(hs v h0 (by omega)).1]; omega) (by omega) _ _ hP hD hS ls (lv_sub hl [1, 0] rfl)
      · refine lv_aload_n hx hb zd_P_nodeOnSlowerLoop_10 rfl (lv_at hl 0 rfl) ?_
        refine va_get (D := D) (ci := 3) (v := .ref (q 23)) (C := zR_P) (T := zT_P) (N := 13) hx hb hts zi_P hown hK.1 hP 3 ga_3 rfl 10 (by decide) (hts _ zw_143) (fun _ h9 => h9) rfl zd_P_nodeOnSlowerLoop_11 ?_
        refine lv_iload_n hx hb zd_P_nodeOnSlowerLoop_14 rfl (lv_at hl 1 rfl) ?_
        refine lv_iconst (v := iI (0)) hx hb zd_P_nodeOnSlowerLoop_15 rfl ?_
        refine x_iast hx hb hK.1 hP hD hS 23 0 ga_23 rfl (by decide) (by omega) (by omega) zd_P_nodeOnSlowerLoop_16 (fun H locs hP hD hS => ?_)
        rw [gs_23] at hP hD
        refine lv_aload_n hx hb zd_P_nodeOnSlowerLoop_17 rfl (lv_at hl 0 rfl) ?_
        refine va_get (D := D) (ci := 3) (v := .ref (q 24)) (C := zR_P) (T := zT_P) (N := 13) hx hb hts zi_P hown hK.1 hP 3 ga_3 rfl 11 (by decide) (hts _ zw_144) (fun _ h9 => h9) rfl zd_P_nodeOnSlowerLoop_18 ?_
        refine lv_iload_n hx hb zd_P_nodeOnSlowerLoop_21 rfl (lv_at hl 1 rfl) ?_
        refine lv_iconst (v := iI (-1)) hx hb zd_P_nodeOnSlowerLoop_22 rfl ?_
        refine x_iast hx hb hK.1 hP hD hS 24 0 ga_24 rfl (by decide) (by omega) (by omega) zd_P_nodeOnSlowerLoop_23 (fun H locs hP hD hS => ?_)
        rw [gs_24] at hP hD
        refine lv_iinc (v := iI (i + 1)) (lv' := [(1, .int (iI (i + 1))), (0, .ref (q 3))]) hx hb zd_P_nodeOnSlowerLoop_24 hl (k := 1) rfl (iI_add _ _) (by decide) rfl (fun ls hl => ?_)
        refine lv_goto (tgt := 2) hx hb zd_P_nodeOnSlowerLoop_27 (by decide) ?_
        exact ih_2 (i + 1)  (auP (auP A2 23 i 0) 24 i (-1)) (by first | assumption | omega | (simp_all; done)) (fun k h1 h2 => by simp [auP, h1, h2, hk k h1 h2]) (fun x h0 h1 => by by_cases e_ : x = i; (subst e_; simp [auP, upI]); (have := hs x h0 (by omega); simp [auP, upI, e_, this])) (by omega) _ _ hP hD hS ls (lv_sub hl [1, 0] rfl)
  exact L_2 (((F 303 - (0) : Int) + 1).toNat) (0)  A (by first | assumption | omega | (simp_all; done)) (fun k _ _ => rfl) (fun x h0 h1 => by omega) (by omega) _ _ hP hD hS ls (lv_sub hl [1, 0] rfl)
end
