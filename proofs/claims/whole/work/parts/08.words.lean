/-- the words that a call keeps -/
def zG : List Cond := lw_tbl.filter goodWord
theorem zG_of {w : Cond} {i : Nat} (h : lw_tbl[i]? = some w) (g : goodWord w = true) : w ∈ zG := List.mem_filter.mpr ⟨List.mem_of_getElem? h, g⟩
theorem zG_good {big : List Cond} (h : ∀ w ∈ zG, w ∈ big) : GoodIn big zG := fun w hw => ⟨h w hw, good_of_word (List.mem_filter.mp hw).2⟩
def zIsN : Cond → Bool
  | .fieldLinkNest .. => true
  | .methodLinkNest .. => true
  | _ => false
/-- the words of the nest -/
def zNs : List Cond := lw_tbl.filter zIsN
theorem zN_of {w : Cond} {i : Nat} (h : lw_tbl[i]? = some w) (g : zIsN w = true) : w ∈ zNs := List.mem_filter.mpr ⟨List.mem_of_getElem? h, g⟩
theorem zN_on {w : Cond} (h : zIsN w = true) : w.onTables = true := by cases w <;> first | rfl | exact absurd h Bool.false_ne_true
def zNW (U : State) : Prop := ∀ w ∈ zNs, va_Nw w U
theorem zNW.warm {s U : State} (hW : s.WarmedH U.vm) (h : zNW s) : zNW U := fun w hw => by
  have h1 := h w hw
  have h2 := (List.mem_filter.mp hw).2
  cases w <;> first | exact va_Nw.warmF hW h1 | exact va_Nw.warmM hW h1 | exact absurd h2 Bool.false_ne_true
theorem zNW.same {u U : State} (h : u.vm = U.vm) (hZ : zNW u) : zNW U := fun w hw => va_Nw.same (zN_on (List.mem_filter.mp hw).2) h (hZ w hw)
theorem zNW.use {w : Cond} {s : State} {A : Array Value} (h : zNW s) (hw : w ∈ zNs) : w.before A s = true := va_Nw.use (zN_on (List.mem_filter.mp hw).2) (h w hw)
theorem zNW.of {s : State} {A : Array Value} (h : ∀ w ∈ lw_tbl, w.before A s = true) : zNW s := fun w hw => va_Nw.of (zN_on (List.mem_filter.mp hw).2) (h w (List.mem_filter.mp hw).1)
theorem zs_0 : Cond.selects "RatePlans$Net" ⟨"RatePlans$Net", "begin", "(I)V"⟩ ⟨"RatePlans$Net", "begin", "(I)V"⟩ ∈ zG := zG_of (i := 0) rfl (by decide +kernel)
theorem zs_1 : Cond.selects "RatePlans" ⟨"RatePlans", "forgetAnswers", "()V"⟩ ⟨"RatePlans", "forgetAnswers", "()V"⟩ ∈ zG := zG_of (i := 1) rfl (by decide +kernel)
theorem zs_2 : Cond.selects "RatePlans$Net" ⟨"RatePlans$Net", "hasActor", "(I)Z"⟩ ⟨"RatePlans$Net", "hasActor", "(I)Z"⟩ ∈ zG := zG_of (i := 2) rfl (by decide +kernel)
theorem zs_3 : Cond.selects "RatePlans$Net" ⟨"RatePlans$Net", "add", "(IIIII)I"⟩ ⟨"RatePlans$Net", "add", "(IIIII)I"⟩ ∈ zG := zG_of (i := 3) rfl (by decide +kernel)
theorem zs_4 : Cond.selects "RatePlans$Net" ⟨"RatePlans$Net", "balance", "(I)V"⟩ ⟨"RatePlans$Net", "balance", "(I)V"⟩ ∈ zG := zG_of (i := 4) rfl (by decide +kernel)
theorem zs_5 : Cond.selects "RatePlans$Net" ⟨"RatePlans$Net", "multiply", "(II)V"⟩ ⟨"RatePlans$Net", "multiply", "(II)V"⟩ ∈ zG := zG_of (i := 5) rfl (by decide +kernel)
theorem zs_6 : Cond.selects "RatePlans$Net" ⟨"RatePlans$Net", "join", "(II)V"⟩ ⟨"RatePlans$Net", "join", "(II)V"⟩ ∈ zG := zG_of (i := 6) rfl (by decide +kernel)
theorem zs_7 : Cond.selects "RatePlans" ⟨"RatePlans", "findRound", "()Z"⟩ ⟨"RatePlans", "findRound", "()Z"⟩ ∈ zG := zG_of (i := 7) rfl (by decide +kernel)
theorem zs_8 : Cond.selects "RatePlans$Net" ⟨"RatePlans$Net", "isUneven", "()Z"⟩ ⟨"RatePlans$Net", "isUneven", "()Z"⟩ ∈ zG := zG_of (i := 8) rfl (by decide +kernel)
theorem zs_9 : Cond.selects "RatePlans$Net" ⟨"RatePlans$Net", "isGreat", "()Z"⟩ ⟨"RatePlans$Net", "isGreat", "()Z"⟩ ∈ zG := zG_of (i := 9) rfl (by decide +kernel)
theorem zs_10 : Cond.selects "RatePlans$Round" ⟨"RatePlans$Round", "play", "(LRatePlans$Net;)V"⟩ ⟨"RatePlans$Round", "play", "(LRatePlans$Net;)V"⟩ ∈ zG := zG_of (i := 10) rfl (by decide +kernel)
theorem zs_11 : Cond.selects "RatePlans$Round" ⟨"RatePlans$Round", "begin", "(LRatePlans$Net;)V"⟩ ⟨"RatePlans$Round", "begin", "(LRatePlans$Net;)V"⟩ ∈ zG := zG_of (i := 11) rfl (by decide +kernel)
theorem zs_12 : Cond.selects "RatePlans$Round" ⟨"RatePlans$Round", "leastReady", "(LRatePlans$Net;)I"⟩ ⟨"RatePlans$Round", "leastReady", "(LRatePlans$Net;)I"⟩ ∈ zG := zG_of (i := 12) rfl (by decide +kernel)
theorem zs_13 : Cond.selects "RatePlans$Round" ⟨"RatePlans$Round", "hasEnough", "(LRatePlans$Net;I)Z"⟩ ⟨"RatePlans$Round", "hasEnough", "(LRatePlans$Net;I)Z"⟩ ∈ zG := zG_of (i := 13) rfl (by decide +kernel)
theorem zs_14 : Cond.selects "RatePlans$Round" ⟨"RatePlans$Round", "fire", "(LRatePlans$Net;I)V"⟩ ⟨"RatePlans$Round", "fire", "(LRatePlans$Net;I)V"⟩ ∈ zG := zG_of (i := 14) rfl (by decide +kernel)
theorem zs_15 : Cond.selects "RatePlans$Net" ⟨"RatePlans$Net", "hasChannel", "(I)Z"⟩ ⟨"RatePlans$Net", "hasChannel", "(I)Z"⟩ ∈ zG := zG_of (i := 15) rfl (by decide +kernel)
theorem zs_16 : Cond.selects "RatePlans$Net" ⟨"RatePlans$Net", "isChain", "()Z"⟩ ⟨"RatePlans$Net", "isChain", "()Z"⟩ ∈ zG := zG_of (i := 16) rfl (by decide +kernel)
theorem zs_17 : Cond.selects "RatePlans$Rooms" ⟨"RatePlans$Rooms", "ofAll", "(LRatePlans$Net;)I"⟩ ⟨"RatePlans$Rooms", "ofAll", "(LRatePlans$Net;)I"⟩ ∈ zG := zG_of (i := 17) rfl (by decide +kernel)
theorem zs_18 : Cond.selects "RatePlans$Rooms" ⟨"RatePlans$Rooms", "ofBestCut", "(LRatePlans$Net;III)I"⟩ ⟨"RatePlans$Rooms", "ofBestCut", "(LRatePlans$Net;III)I"⟩ ∈ zG := zG_of (i := 18) rfl (by decide +kernel)
theorem zs_19 : Cond.selects "RatePlans$Net" ⟨"RatePlans$Net", "parts", "()I"⟩ ⟨"RatePlans$Net", "parts", "()I"⟩ ∈ zG := zG_of (i := 19) rfl (by decide +kernel)
theorem zs_20 : Cond.selects "java/lang/Throwable" ⟨"java/lang/Throwable", "fillInStackTrace", "(I)Ljava/lang/Throwable;"⟩ ⟨"java/lang/Throwable", "fillInStackTrace", "(I)Ljava/lang/Throwable;"⟩ ∈ zG := zG_of (i := 20) rfl (by decide +kernel)
theorem zs_21 : Cond.selects "RatePlans$Round" ⟨"RatePlans$Round", "isAlive", "(LRatePlans$Net;)Z"⟩ ⟨"RatePlans$Round", "isAlive", "(LRatePlans$Net;)Z"⟩ ∈ zG := zG_of (i := 21) rfl (by decide +kernel)
theorem zs_22 : Cond.selects "RatePlans$Net" ⟨"RatePlans$Net", "isClosed", "(I)Z"⟩ ⟨"RatePlans$Net", "isClosed", "(I)Z"⟩ ∈ zG := zG_of (i := 22) rfl (by decide +kernel)
theorem zs_23 : Cond.selects "RatePlans$Net" ⟨"RatePlans$Net", "reached", "(I[I[I)I"⟩ ⟨"RatePlans$Net", "reached", "(I[I[I)I"⟩ ∈ zG := zG_of (i := 23) rfl (by decide +kernel)
theorem zs_24 : Cond.selects "RatePlans$Net" ⟨"RatePlans$Net", "countsOfPart", "(I)I"⟩ ⟨"RatePlans$Net", "countsOfPart", "(I)I"⟩ ∈ zG := zG_of (i := 24) rfl (by decide +kernel)
theorem zs_25 : Cond.selects "RatePlans$Pacer" ⟨"RatePlans$Pacer", "find", "(LRatePlans$Net;I)V"⟩ ⟨"RatePlans$Pacer", "find", "(LRatePlans$Net;I)V"⟩ ∈ zG := zG_of (i := 25) rfl (by decide +kernel)
theorem zs_26 : Cond.selects "RatePlans$Pacer" ⟨"RatePlans$Pacer", "addFirings", "(LRatePlans$Net;I)V"⟩ ⟨"RatePlans$Pacer", "addFirings", "(LRatePlans$Net;I)V"⟩ ∈ zG := zG_of (i := 26) rfl (by decide +kernel)
theorem zs_27 : Cond.selects "RatePlans$Pacer" ⟨"RatePlans$Pacer", "addFiringsOf", "(III)V"⟩ ⟨"RatePlans$Pacer", "addFiringsOf", "(III)V"⟩ ∈ zG := zG_of (i := 27) rfl (by decide +kernel)
theorem zs_28 : Cond.selects "RatePlans$Pacer" ⟨"RatePlans$Pacer", "addEdge", "(III)V"⟩ ⟨"RatePlans$Pacer", "addEdge", "(III)V"⟩ ∈ zG := zG_of (i := 28) rfl (by decide +kernel)
theorem zs_29 : Cond.selects "RatePlans$Pacer" ⟨"RatePlans$Pacer", "addWaits", "(LRatePlans$Net;I)V"⟩ ⟨"RatePlans$Pacer", "addWaits", "(LRatePlans$Net;I)V"⟩ ∈ zG := zG_of (i := 29) rfl (by decide +kernel)
theorem zs_30 : Cond.selects "RatePlans$Pacer" ⟨"RatePlans$Pacer", "addWaitsOf", "(LRatePlans$Net;I)V"⟩ ⟨"RatePlans$Pacer", "addWaitsOf", "(LRatePlans$Net;I)V"⟩ ∈ zG := zG_of (i := 30) rfl (by decide +kernel)
theorem zs_31 : Cond.selects "RatePlans$Pacer" ⟨"RatePlans$Pacer", "beginWithSlowestActor", "(LRatePlans$Net;I)V"⟩ ⟨"RatePlans$Pacer", "beginWithSlowestActor", "(LRatePlans$Net;I)V"⟩ ∈ zG := zG_of (i := 31) rfl (by decide +kernel)
theorem zs_32 : Cond.selects "RatePlans$Pacer" ⟨"RatePlans$Pacer", "nodeOnSlowerLoop", "()I"⟩ ⟨"RatePlans$Pacer", "nodeOnSlowerLoop", "()I"⟩ ∈ zG := zG_of (i := 32) rfl (by decide +kernel)
theorem zs_33 : Cond.selects "RatePlans$Pacer" ⟨"RatePlans$Pacer", "raiseAll", "()Z"⟩ ⟨"RatePlans$Pacer", "raiseAll", "()Z"⟩ ∈ zG := zG_of (i := 33) rfl (by decide +kernel)
theorem zs_34 : Cond.selects "RatePlans$Pacer" ⟨"RatePlans$Pacer", "nodeOnLoopOfRaises", "()I"⟩ ⟨"RatePlans$Pacer", "nodeOnLoopOfRaises", "()I"⟩ ∈ zG := zG_of (i := 34) rfl (by decide +kernel)
theorem zs_35 : Cond.selects "RatePlans$Pacer" ⟨"RatePlans$Pacer", "nodeAhead", "(I)I"⟩ ⟨"RatePlans$Pacer", "nodeAhead", "(I)I"⟩ ∈ zG := zG_of (i := 35) rfl (by decide +kernel)
theorem zs_36 : Cond.selects "RatePlans$Pacer" ⟨"RatePlans$Pacer", "takeRatioOf", "(I)V"⟩ ⟨"RatePlans$Pacer", "takeRatioOf", "(I)V"⟩ ∈ zG := zG_of (i := 36) rfl (by decide +kernel)
theorem zs_37 : Cond.selects "RatePlansModel" ⟨"RatePlansModel", "know", "()V"⟩ ⟨"RatePlansModel", "know", "()V"⟩ ∈ zG := zG_of (i := 37) rfl (by decide +kernel)
theorem zs_38 : Cond.selects "RatePlansModel" ⟨"RatePlansModel", "fits", "(I)Z"⟩ ⟨"RatePlansModel", "fits", "(I)Z"⟩ ∈ zG := zG_of (i := 38) rfl (by decide +kernel)
theorem zs_39 : Cond.selects "RatePlansModel" ⟨"RatePlansModel", "set", "(IJJ)V"⟩ ⟨"RatePlansModel", "set", "(IJJ)V"⟩ ∈ zG := zG_of (i := 39) rfl (by decide +kernel)
theorem zs_40 : Cond.selects "RatePlansModel" ⟨"RatePlansModel", "reach", "(I)Z"⟩ ⟨"RatePlansModel", "reach", "(I)Z"⟩ ∈ zG := zG_of (i := 40) rfl (by decide +kernel)
theorem zs_41 : Cond.selects "RatePlansModel" ⟨"RatePlansModel", "findCounts", "()V"⟩ ⟨"RatePlansModel", "findCounts", "()V"⟩ ∈ zG := zG_of (i := 41) rfl (by decide +kernel)
theorem zs_42 : Cond.selects "RatePlansModel" ⟨"RatePlansModel", "leastOf", "(I)I"⟩ ⟨"RatePlansModel", "leastOf", "(I)I"⟩ ∈ zG := zG_of (i := 42) rfl (by decide +kernel)
theorem zs_43 : Cond.selects "RatePlansModel" ⟨"RatePlansModel", "round", "()V"⟩ ⟨"RatePlansModel", "round", "()V"⟩ ∈ zG := zG_of (i := 43) rfl (by decide +kernel)
theorem zs_44 : Cond.selects "RatePlansModel" ⟨"RatePlansModel", "canBeDone", "(I)Z"⟩ ⟨"RatePlansModel", "canBeDone", "(I)Z"⟩ ∈ zG := zG_of (i := 44) rfl (by decide +kernel)
theorem zs_45 : Cond.selects "RatePlansModel" ⟨"RatePlansModel", "raise", "(I)I"⟩ ⟨"RatePlansModel", "raise", "(I)I"⟩ ∈ zG := zG_of (i := 45) rfl (by decide +kernel)
theorem zs_46 : Cond.selects "RatePlansModel" ⟨"RatePlansModel", "isPlain", "()Z"⟩ ⟨"RatePlansModel", "isPlain", "()Z"⟩ ∈ zG := zG_of (i := 46) rfl (by decide +kernel)
theorem zs_47 : Cond.selects "RatePlansModel" ⟨"RatePlansModel", "comesToAll", "(IZ)Z"⟩ ⟨"RatePlansModel", "comesToAll", "(IZ)Z"⟩ ∈ zG := zG_of (i := 47) rfl (by decide +kernel)
theorem zs_48 : Cond.selects "RatePlansModel" ⟨"RatePlansModel", "findPace", "(I)V"⟩ ⟨"RatePlansModel", "findPace", "(I)V"⟩ ∈ zG := zG_of (i := 48) rfl (by decide +kernel)
theorem zs_49 : Cond.selects "RatePlansModel" ⟨"RatePlansModel", "build", "(I)V"⟩ ⟨"RatePlansModel", "build", "(I)V"⟩ ∈ zG := zG_of (i := 49) rfl (by decide +kernel)
theorem zs_50 : Cond.selects "RatePlansModel" ⟨"RatePlansModel", "edge", "(IIII)V"⟩ ⟨"RatePlansModel", "edge", "(IIII)V"⟩ ∈ zG := zG_of (i := 50) rfl (by decide +kernel)
theorem zs_51 : Cond.selects "RatePlansModel" ⟨"RatePlansModel", "isSlower", "(J)Z"⟩ ⟨"RatePlansModel", "isSlower", "(J)Z"⟩ ∈ zG := zG_of (i := 51) rfl (by decide +kernel)
theorem zs_52 : Cond.selects "RatePlansModel" ⟨"RatePlansModel", "isChain", "()Z"⟩ ⟨"RatePlansModel", "isChain", "()Z"⟩ ∈ zG := zG_of (i := 52) rfl (by decide +kernel)
theorem zs_53 : Cond.selects "RatePlansModel" ⟨"RatePlansModel", "divisorOf", "(II)I"⟩ ⟨"RatePlansModel", "divisorOf", "(II)I"⟩ ∈ zG := zG_of (i := 53) rfl (by decide +kernel)
set_option maxRecDepth 100000 in
theorem zw_0 : Cond.initialized "RatePlansLaw" ∈ zG := zG_of (i := 54) rfl (by decide +kernel)
set_option maxRecDepth 100000 in
theorem zw_1 : Cond.initialized "RatePlans" ∈ zG := zG_of (i := 55) rfl (by decide +kernel)
set_option maxRecDepth 100000 in
theorem zw_2 : Cond.initialized "RatePlans$Net" ∈ zG := zG_of (i := 56) rfl (by decide +kernel)
set_option maxRecDepth 100000 in
theorem zw_3 : Cond.initialized "RatePlans$Round" ∈ zG := zG_of (i := 57) rfl (by decide +kernel)
set_option maxRecDepth 100000 in
theorem zw_4 : Cond.initialized "RatePlans$Pacer" ∈ zG := zG_of (i := 58) rfl (by decide +kernel)
set_option maxRecDepth 100000 in
theorem zw_5 : Cond.initialized "RatePlans$Rooms" ∈ zG := zG_of (i := 59) rfl (by decide +kernel)
set_option maxRecDepth 100000 in
theorem zw_6 : Cond.initialized "RatePlansModel" ∈ zG := zG_of (i := 60) rfl (by decide +kernel)
set_option maxRecDepth 100000 in
theorem zw_7 : Cond.initialized "java/lang/Math" ∈ zG := zG_of (i := 61) rfl (by decide +kernel)
set_option maxRecDepth 100000 in
theorem zw_8 : Cond.initialized "java/lang/Throwable" ∈ zG := zG_of (i := 62) rfl (by decide +kernel)
set_option maxRecDepth 100000 in
theorem zw_9 : Cond.initialized "java/lang/Exception" ∈ zG := zG_of (i := 63) rfl (by decide +kernel)
set_option maxRecDepth 100000 in
theorem zw_10 : Cond.initialized "java/lang/RuntimeException" ∈ zG := zG_of (i := 64) rfl (by decide +kernel)
set_option maxRecDepth 100000 in
theorem zw_11 : Cond.initialized "java/lang/IllegalStateException" ∈ zG := zG_of (i := 65) rfl (by decide +kernel)
set_option maxRecDepth 100000 in
theorem zw_12 : Cond.initialized "java/lang/ArithmeticException" ∈ zG := zG_of (i := 66) rfl (by decide +kernel)
set_option maxRecDepth 100000 in
theorem zw_13 : Cond.initialized "java/util/NoSuchElementException" ∈ zG := zG_of (i := 67) rfl (by decide +kernel)
set_option maxRecDepth 100000 in
theorem zw_14 : Cond.classLink "RatePlansLaw" (8 : Nat) "RatePlans" ∈ zG := zG_of (i := 68) rfl (by decide +kernel)
set_option maxRecDepth 100000 in
theorem zw_15 : Cond.instantiable "RatePlans" (4 : Nat) ∈ zG := zG_of (i := 69) rfl (by decide +kernel)
set_option maxRecDepth 100000 in
theorem zw_16 : Cond.methodLink "RatePlansLaw" (26 : Nat) ({ cls := "RatePlans", name := "<init>", desc := "()V" } : Jvm.MethodName) ∈ zG := zG_of (i := 70) rfl (by decide +kernel)
set_option maxRecDepth 100000 in
theorem zw_17 : Cond.instanceMethod ({ cls := "RatePlans", name := "<init>", desc := "()V" } : Jvm.MethodName) ∈ zG := zG_of (i := 71) rfl (by decide +kernel)
set_option maxRecDepth 100000 in
theorem zw_18 : Cond.code ({ cls := "RatePlans", name := "<init>", desc := "()V" } : Jvm.MethodName) prog_1_method_1_code (1 : Nat) (Option.none : Option Jvm.ClassFile.FieldType) ∈ zG := zG_of (i := 72) rfl (by decide +kernel)
set_option maxRecDepth 100000 in
theorem zw_19 : Cond.methodLink "RatePlans" (3 : Nat) ({ cls := "java/lang/Object", name := "<init>", desc := "()V" } : Jvm.MethodName) ∈ zG := zG_of (i := 73) rfl (by decide +kernel)
set_option maxRecDepth 100000 in
theorem zw_20 : Cond.instanceMethod ({ cls := "java/lang/Object", name := "<init>", desc := "()V" } : Jvm.MethodName) ∈ zG := zG_of (i := 74) rfl (by decide +kernel)
set_option maxRecDepth 100000 in
theorem zw_21 : Cond.code ({ cls := "java/lang/Object", name := "<init>", desc := "()V" } : Jvm.MethodName) object_method_1_code (1 : Nat) (Option.none : Option Jvm.ClassFile.FieldType) ∈ zG := zG_of (i := 75) rfl (by decide +kernel)
set_option maxRecDepth 100000 in
theorem zw_22 : Cond.classLink "RatePlans" (9 : Nat) "RatePlans$Net" ∈ zG := zG_of (i := 76) rfl (by decide +kernel)
set_option maxRecDepth 100000 in
theorem zw_23 : Cond.instantiable "RatePlans$Net" (11 : Nat) ∈ zG := zG_of (i := 77) rfl (by decide +kernel)
set_option maxRecDepth 100000 in
theorem zw_24 : Cond.methodLinkNest "RatePlans" (11 : Nat) ({ cls := "RatePlans$Net", name := "<init>", desc := "()V" } : Jvm.MethodName) "RatePlans" ∈ zNs := zN_of (i := 78) rfl (by decide +kernel)
set_option maxRecDepth 100000 in
theorem zw_25 : Cond.instanceMethod ({ cls := "RatePlans$Net", name := "<init>", desc := "()V" } : Jvm.MethodName) ∈ zG := zG_of (i := 79) rfl (by decide +kernel)
set_option maxRecDepth 100000 in
theorem zw_26 : Cond.code ({ cls := "RatePlans$Net", name := "<init>", desc := "()V" } : Jvm.MethodName) prog_2_method_1_code (1 : Nat) (Option.none : Option Jvm.ClassFile.FieldType) ∈ zG := zG_of (i := 80) rfl (by decide +kernel)
set_option maxRecDepth 100000 in
theorem zw_27 : Cond.methodLink "RatePlans$Net" (3 : Nat) ({ cls := "java/lang/Object", name := "<init>", desc := "()V" } : Jvm.MethodName) ∈ zG := zG_of (i := 81) rfl (by decide +kernel)
set_option maxRecDepth 100000 in
theorem zw_28 : Cond.methodLink "RatePlans$Net" (36 : Nat) ({ cls := "RatePlans$Net", name := "begin", desc := "(I)V" } : Jvm.MethodName) ∈ zG := zG_of (i := 82) rfl (by decide +kernel)
set_option maxRecDepth 100000 in
theorem zw_30 : Cond.instanceMethod ({ cls := "RatePlans$Net", name := "begin", desc := "(I)V" } : Jvm.MethodName) ∈ zG := zG_of (i := 84) rfl (by decide +kernel)
set_option maxRecDepth 100000 in
theorem zw_31 : Cond.code ({ cls := "RatePlans$Net", name := "begin", desc := "(I)V" } : Jvm.MethodName) prog_2_method_2_code (3 : Nat) (Option.none : Option Jvm.ClassFile.FieldType) ∈ zG := zG_of (i := 85) rfl (by decide +kernel)
set_option maxRecDepth 100000 in
theorem zw_32 : Cond.fieldLinkNest "RatePlans$Rooms" (16 : Nat) "RatePlans$Net" "actors" "I" "RatePlans" ∈ zNs := zN_of (i := 86) rfl (by decide +kernel)
set_option maxRecDepth 100000 in
theorem zw_33 : Cond.fieldLink "RatePlans$Net" (40 : Nat) "RatePlans$Net" "actors" "I" ∈ zG := zG_of (i := 87) rfl (by decide +kernel)
set_option maxRecDepth 100000 in
theorem zw_34 : Cond.fieldLinkNest "RatePlans$Round" (44 : Nat) "RatePlans$Net" "actors" "I" "RatePlans" ∈ zNs := zN_of (i := 88) rfl (by decide +kernel)
set_option maxRecDepth 100000 in
theorem zw_35 : Cond.fieldLinkNest "RatePlans$Pacer" (70 : Nat) "RatePlans$Net" "actors" "I" "RatePlans" ∈ zNs := zN_of (i := 89) rfl (by decide +kernel)
set_option maxRecDepth 100000 in
theorem zw_36 : Cond.fieldLinkNest "RatePlans" (149 : Nat) "RatePlans$Net" "actors" "I" "RatePlans" ∈ zNs := zN_of (i := 90) rfl (by decide +kernel)
set_option maxRecDepth 100000 in
theorem zw_37 : Cond.fieldLink "RatePlans$Net" (44 : Nat) "RatePlans$Net" "channels" "I" ∈ zG := zG_of (i := 91) rfl (by decide +kernel)
set_option maxRecDepth 100000 in
theorem zw_38 : Cond.fieldLinkNest "RatePlans$Round" (52 : Nat) "RatePlans$Net" "channels" "I" "RatePlans" ∈ zNs := zN_of (i := 92) rfl (by decide +kernel)
set_option maxRecDepth 100000 in
theorem zw_39 : Cond.fieldLinkNest "RatePlans" (56 : Nat) "RatePlans$Net" "channels" "I" "RatePlans" ∈ zNs := zN_of (i := 93) rfl (by decide +kernel)
set_option maxRecDepth 100000 in
theorem zw_40 : Cond.fieldLinkNest "RatePlans$Pacer" (91 : Nat) "RatePlans$Net" "channels" "I" "RatePlans" ∈ zNs := zN_of (i := 94) rfl (by decide +kernel)
set_option maxRecDepth 100000 in
theorem zw_41 : Cond.fieldLink "RatePlans$Net" (47 : Nat) "RatePlans$Net" "uneven" "I" ∈ zG := zG_of (i := 95) rfl (by decide +kernel)
set_option maxRecDepth 100000 in
theorem zw_42 : Cond.fieldLinkNest "RatePlans" (64 : Nat) "RatePlans$Net" "uneven" "I" "RatePlans" ∈ zNs := zN_of (i := 96) rfl (by decide +kernel)
set_option maxRecDepth 100000 in
theorem zw_43 : Cond.fieldLink "RatePlans$Net" (9 : Nat) "RatePlans$Net" "time" "[I" ∈ zG := zG_of (i := 97) rfl (by decide +kernel)
set_option maxRecDepth 100000 in
theorem zw_44 : Cond.fieldLinkNest "RatePlans" (52 : Nat) "RatePlans$Net" "time" "[I" "RatePlans" ∈ zNs := zN_of (i := 98) rfl (by decide +kernel)
set_option maxRecDepth 100000 in
theorem zw_45 : Cond.fieldLinkNest "RatePlans$Pacer" (81 : Nat) "RatePlans$Net" "time" "[I" "RatePlans" ∈ zNs := zN_of (i := 99) rfl (by decide +kernel)
set_option maxRecDepth 100000 in
theorem zw_46 : Cond.fieldLink "RatePlans$Net" (15 : Nat) "RatePlans$Net" "count" "[I" ∈ zG := zG_of (i := 100) rfl (by decide +kernel)
set_option maxRecDepth 100000 in
theorem zw_47 : Cond.fieldLinkNest "RatePlans$Rooms" (22 : Nat) "RatePlans$Net" "count" "[I" "RatePlans" ∈ zNs := zN_of (i := 101) rfl (by decide +kernel)
set_option maxRecDepth 100000 in
theorem zw_48 : Cond.fieldLinkNest "RatePlans$Round" (49 : Nat) "RatePlans$Net" "count" "[I" "RatePlans" ∈ zNs := zN_of (i := 102) rfl (by decide +kernel)
set_option maxRecDepth 100000 in
theorem zw_49 : Cond.fieldLinkNest "RatePlans$Pacer" (78 : Nat) "RatePlans$Net" "count" "[I" "RatePlans" ∈ zNs := zN_of (i := 103) rfl (by decide +kernel)
set_option maxRecDepth 100000 in
theorem zw_50 : Cond.fieldLinkNest "RatePlans" (86 : Nat) "RatePlans$Net" "count" "[I" "RatePlans" ∈ zNs := zN_of (i := 104) rfl (by decide +kernel)
set_option maxRecDepth 100000 in
theorem zw_51 : Cond.fieldLink "RatePlans$Net" (18 : Nat) "RatePlans$Net" "part" "[I" ∈ zG := zG_of (i := 105) rfl (by decide +kernel)
set_option maxRecDepth 100000 in
theorem zw_52 : Cond.fieldLinkNest "RatePlans$Pacer" (75 : Nat) "RatePlans$Net" "part" "[I" "RatePlans" ∈ zNs := zN_of (i := 106) rfl (by decide +kernel)
set_option maxRecDepth 100000 in
theorem zw_53 : Cond.fieldLinkNest "RatePlans" (129 : Nat) "RatePlans$Net" "part" "[I" "RatePlans" ∈ zNs := zN_of (i := 107) rfl (by decide +kernel)
set_option maxRecDepth 100000 in
theorem zw_54 : Cond.fieldLink "RatePlans$Net" (21 : Nat) "RatePlans$Net" "from" "[I" ∈ zG := zG_of (i := 108) rfl (by decide +kernel)
set_option maxRecDepth 100000 in
theorem zw_55 : Cond.fieldLinkNest "RatePlans$Pacer" (94 : Nat) "RatePlans$Net" "from" "[I" "RatePlans" ∈ zNs := zN_of (i := 109) rfl (by decide +kernel)
set_option maxRecDepth 100000 in
theorem zw_56 : Cond.fieldLinkNest "RatePlans$Round" (68 : Nat) "RatePlans$Net" "from" "[I" "RatePlans" ∈ zNs := zN_of (i := 110) rfl (by decide +kernel)
set_option maxRecDepth 100000 in
theorem zw_57 : Cond.fieldLink "RatePlans$Net" (24 : Nat) "RatePlans$Net" "to" "[I" ∈ zG := zG_of (i := 111) rfl (by decide +kernel)
set_option maxRecDepth 100000 in
theorem zw_58 : Cond.fieldLinkNest "RatePlans$Round" (62 : Nat) "RatePlans$Net" "to" "[I" "RatePlans" ∈ zNs := zN_of (i := 112) rfl (by decide +kernel)
set_option maxRecDepth 100000 in
theorem zw_59 : Cond.fieldLinkNest "RatePlans$Pacer" (100 : Nat) "RatePlans$Net" "to" "[I" "RatePlans" ∈ zNs := zN_of (i := 113) rfl (by decide +kernel)
set_option maxRecDepth 100000 in
theorem zw_60 : Cond.fieldLink "RatePlans$Net" (27 : Nat) "RatePlans$Net" "puts" "[I" ∈ zG := zG_of (i := 114) rfl (by decide +kernel)
set_option maxRecDepth 100000 in
theorem zw_61 : Cond.fieldLinkNest "RatePlans$Rooms" (37 : Nat) "RatePlans$Net" "puts" "[I" "RatePlans" ∈ zNs := zN_of (i := 115) rfl (by decide +kernel)
set_option maxRecDepth 100000 in
theorem zw_62 : Cond.fieldLinkNest "RatePlans$Pacer" (103 : Nat) "RatePlans$Net" "puts" "[I" "RatePlans" ∈ zNs := zN_of (i := 116) rfl (by decide +kernel)
set_option maxRecDepth 100000 in
theorem zw_63 : Cond.fieldLinkNest "RatePlans$Round" (71 : Nat) "RatePlans$Net" "puts" "[I" "RatePlans" ∈ zNs := zN_of (i := 117) rfl (by decide +kernel)
set_option maxRecDepth 100000 in
theorem zw_64 : Cond.fieldLink "RatePlans$Net" (30 : Nat) "RatePlans$Net" "takes" "[I" ∈ zG := zG_of (i := 118) rfl (by decide +kernel)
set_option maxRecDepth 100000 in
theorem zw_65 : Cond.fieldLinkNest "RatePlans$Round" (65 : Nat) "RatePlans$Net" "takes" "[I" "RatePlans" ∈ zNs := zN_of (i := 119) rfl (by decide +kernel)
set_option maxRecDepth 100000 in
theorem zw_66 : Cond.fieldLinkNest "RatePlans$Pacer" (106 : Nat) "RatePlans$Net" "takes" "[I" "RatePlans" ∈ zNs := zN_of (i := 120) rfl (by decide +kernel)
set_option maxRecDepth 100000 in
theorem zw_67 : Cond.fieldLink "RatePlans$Net" (33 : Nat) "RatePlans$Net" "tokens" "[I" ∈ zG := zG_of (i := 121) rfl (by decide +kernel)
set_option maxRecDepth 100000 in
theorem zw_68 : Cond.fieldLinkNest "RatePlans$Round" (55 : Nat) "RatePlans$Net" "tokens" "[I" "RatePlans" ∈ zNs := zN_of (i := 122) rfl (by decide +kernel)
set_option maxRecDepth 100000 in
theorem zw_69 : Cond.fieldLinkNest "RatePlans$Pacer" (109 : Nat) "RatePlans$Net" "tokens" "[I" "RatePlans" ∈ zNs := zN_of (i := 123) rfl (by decide +kernel)
set_option maxRecDepth 100000 in
theorem zw_70 : Cond.lays "RatePlans$Net" "RatePlans$Net" "actors" "I" ∈ zG := zG_of (i := 124) rfl (by decide +kernel)
set_option maxRecDepth 100000 in
theorem zw_71 : Cond.soleField "RatePlans$Net" "actors" ∈ zG := zG_of (i := 125) rfl (by decide +kernel)
set_option maxRecDepth 100000 in
theorem zw_72 : Cond.lays "RatePlans$Net" "RatePlans$Net" "channels" "I" ∈ zG := zG_of (i := 126) rfl (by decide +kernel)
set_option maxRecDepth 100000 in
theorem zw_73 : Cond.soleField "RatePlans$Net" "channels" ∈ zG := zG_of (i := 127) rfl (by decide +kernel)
set_option maxRecDepth 100000 in
theorem zw_74 : Cond.lays "RatePlans$Net" "RatePlans$Net" "uneven" "I" ∈ zG := zG_of (i := 128) rfl (by decide +kernel)
set_option maxRecDepth 100000 in
theorem zw_75 : Cond.soleField "RatePlans$Net" "uneven" ∈ zG := zG_of (i := 129) rfl (by decide +kernel)
set_option maxRecDepth 100000 in
theorem zw_76 : Cond.laysFinal "RatePlans$Net" "RatePlans$Net" "time" "[I" ∈ zG := zG_of (i := 130) rfl (by decide +kernel)
set_option maxRecDepth 100000 in
theorem zw_77 : Cond.soleField "RatePlans$Net" "time" ∈ zG := zG_of (i := 131) rfl (by decide +kernel)
set_option maxRecDepth 100000 in
theorem zw_78 : Cond.laysFinal "RatePlans$Net" "RatePlans$Net" "count" "[I" ∈ zG := zG_of (i := 132) rfl (by decide +kernel)
set_option maxRecDepth 100000 in
theorem zw_79 : Cond.soleField "RatePlans$Net" "count" ∈ zG := zG_of (i := 133) rfl (by decide +kernel)
set_option maxRecDepth 100000 in
theorem zw_80 : Cond.laysFinal "RatePlans$Net" "RatePlans$Net" "part" "[I" ∈ zG := zG_of (i := 134) rfl (by decide +kernel)
set_option maxRecDepth 100000 in
theorem zw_81 : Cond.soleField "RatePlans$Net" "part" ∈ zG := zG_of (i := 135) rfl (by decide +kernel)
set_option maxRecDepth 100000 in
theorem zw_82 : Cond.laysFinal "RatePlans$Net" "RatePlans$Net" "from" "[I" ∈ zG := zG_of (i := 136) rfl (by decide +kernel)
set_option maxRecDepth 100000 in
theorem zw_83 : Cond.soleField "RatePlans$Net" "from" ∈ zG := zG_of (i := 137) rfl (by decide +kernel)
set_option maxRecDepth 100000 in
theorem zw_84 : Cond.laysFinal "RatePlans$Net" "RatePlans$Net" "to" "[I" ∈ zG := zG_of (i := 138) rfl (by decide +kernel)
set_option maxRecDepth 100000 in
theorem zw_85 : Cond.soleField "RatePlans$Net" "to" ∈ zG := zG_of (i := 139) rfl (by decide +kernel)
set_option maxRecDepth 100000 in
theorem zw_86 : Cond.laysFinal "RatePlans$Net" "RatePlans$Net" "puts" "[I" ∈ zG := zG_of (i := 140) rfl (by decide +kernel)
set_option maxRecDepth 100000 in
theorem zw_87 : Cond.soleField "RatePlans$Net" "puts" ∈ zG := zG_of (i := 141) rfl (by decide +kernel)
set_option maxRecDepth 100000 in
theorem zw_88 : Cond.laysFinal "RatePlans$Net" "RatePlans$Net" "takes" "[I" ∈ zG := zG_of (i := 142) rfl (by decide +kernel)
set_option maxRecDepth 100000 in
theorem zw_89 : Cond.soleField "RatePlans$Net" "takes" ∈ zG := zG_of (i := 143) rfl (by decide +kernel)
set_option maxRecDepth 100000 in
theorem zw_90 : Cond.laysFinal "RatePlans$Net" "RatePlans$Net" "tokens" "[I" ∈ zG := zG_of (i := 144) rfl (by decide +kernel)
set_option maxRecDepth 100000 in
theorem zw_91 : Cond.soleField "RatePlans$Net" "tokens" ∈ zG := zG_of (i := 145) rfl (by decide +kernel)
set_option maxRecDepth 100000 in
theorem zw_93 : Cond.arrayClass Jvm.ClassFile.FieldType.int ∈ zG := zG_of (i := 147) rfl (by decide +kernel)
set_option maxRecDepth 100000 in
theorem zw_94 : Cond.classLink "RatePlans" (16 : Nat) "RatePlans$Round" ∈ zG := zG_of (i := 148) rfl (by decide +kernel)
set_option maxRecDepth 100000 in
theorem zw_95 : Cond.instantiable "RatePlans$Round" (6 : Nat) ∈ zG := zG_of (i := 149) rfl (by decide +kernel)
set_option maxRecDepth 100000 in
theorem zw_96 : Cond.methodLinkNest "RatePlans" (18 : Nat) ({ cls := "RatePlans$Round", name := "<init>", desc := "()V" } : Jvm.MethodName) "RatePlans" ∈ zNs := zN_of (i := 150) rfl (by decide +kernel)
set_option maxRecDepth 100000 in
theorem zw_97 : Cond.instanceMethod ({ cls := "RatePlans$Round", name := "<init>", desc := "()V" } : Jvm.MethodName) ∈ zG := zG_of (i := 151) rfl (by decide +kernel)
set_option maxRecDepth 100000 in
theorem zw_98 : Cond.code ({ cls := "RatePlans$Round", name := "<init>", desc := "()V" } : Jvm.MethodName) prog_5_method_1_code (1 : Nat) (Option.none : Option Jvm.ClassFile.FieldType) ∈ zG := zG_of (i := 152) rfl (by decide +kernel)
set_option maxRecDepth 100000 in
theorem zw_99 : Cond.methodLink "RatePlans$Round" (3 : Nat) ({ cls := "java/lang/Object", name := "<init>", desc := "()V" } : Jvm.MethodName) ∈ zG := zG_of (i := 153) rfl (by decide +kernel)
set_option maxRecDepth 100000 in
theorem zw_100 : Cond.fieldLink "RatePlans$Round" (40 : Nat) "RatePlans$Round" "known" "Z" ∈ zG := zG_of (i := 154) rfl (by decide +kernel)
set_option maxRecDepth 100000 in
theorem zw_101 : Cond.fieldLinkNest "RatePlans" (156 : Nat) "RatePlans$Round" "known" "Z" "RatePlans" ∈ zNs := zN_of (i := 155) rfl (by decide +kernel)
set_option maxRecDepth 100000 in
theorem zw_102 : Cond.fieldLink "RatePlans$Round" (36 : Nat) "RatePlans$Round" "done" "I" ∈ zG := zG_of (i := 156) rfl (by decide +kernel)
set_option maxRecDepth 100000 in
theorem zw_103 : Cond.fieldLinkNest "RatePlans" (92 : Nat) "RatePlans$Round" "done" "I" "RatePlans" ∈ zNs := zN_of (i := 157) rfl (by decide +kernel)
set_option maxRecDepth 100000 in
theorem zw_104 : Cond.fieldLink "RatePlans$Round" (9 : Nat) "RatePlans$Round" "order" "[I" ∈ zG := zG_of (i := 158) rfl (by decide +kernel)
set_option maxRecDepth 100000 in
theorem zw_105 : Cond.fieldLinkNest "RatePlans" (100 : Nat) "RatePlans$Round" "order" "[I" "RatePlans" ∈ zNs := zN_of (i := 159) rfl (by decide +kernel)
set_option maxRecDepth 100000 in
theorem zw_106 : Cond.fieldLink "RatePlans$Round" (15 : Nat) "RatePlans$Round" "left" "[I" ∈ zG := zG_of (i := 160) rfl (by decide +kernel)
set_option maxRecDepth 100000 in
theorem zw_107 : Cond.fieldLinkNest "RatePlans" (103 : Nat) "RatePlans$Round" "left" "[I" "RatePlans" ∈ zNs := zN_of (i := 161) rfl (by decide +kernel)
set_option maxRecDepth 100000 in
theorem zw_108 : Cond.fieldLink "RatePlans$Round" (18 : Nat) "RatePlans$Round" "lying" "[I" ∈ zG := zG_of (i := 162) rfl (by decide +kernel)
set_option maxRecDepth 100000 in
theorem zw_109 : Cond.fieldLink "RatePlans$Round" (21 : Nat) "RatePlans$Round" "peak" "[I" ∈ zG := zG_of (i := 163) rfl (by decide +kernel)
set_option maxRecDepth 100000 in
theorem zw_110 : Cond.fieldLinkNest "RatePlans" (109 : Nat) "RatePlans$Round" "peak" "[I" "RatePlans" ∈ zNs := zN_of (i := 164) rfl (by decide +kernel)
set_option maxRecDepth 100000 in
theorem zw_111 : Cond.lays "RatePlans$Round" "RatePlans$Round" "known" "Z" ∈ zG := zG_of (i := 165) rfl (by decide +kernel)
set_option maxRecDepth 100000 in
theorem zw_112 : Cond.soleField "RatePlans$Round" "known" ∈ zG := zG_of (i := 166) rfl (by decide +kernel)
set_option maxRecDepth 100000 in
theorem zw_113 : Cond.lays "RatePlans$Round" "RatePlans$Round" "done" "I" ∈ zG := zG_of (i := 167) rfl (by decide +kernel)
set_option maxRecDepth 100000 in
theorem zw_114 : Cond.soleField "RatePlans$Round" "done" ∈ zG := zG_of (i := 168) rfl (by decide +kernel)
set_option maxRecDepth 100000 in
theorem zw_115 : Cond.laysFinal "RatePlans$Round" "RatePlans$Round" "order" "[I" ∈ zG := zG_of (i := 169) rfl (by decide +kernel)
set_option maxRecDepth 100000 in
theorem zw_116 : Cond.soleField "RatePlans$Round" "order" ∈ zG := zG_of (i := 170) rfl (by decide +kernel)
set_option maxRecDepth 100000 in
theorem zw_117 : Cond.laysFinal "RatePlans$Round" "RatePlans$Round" "left" "[I" ∈ zG := zG_of (i := 171) rfl (by decide +kernel)
set_option maxRecDepth 100000 in
theorem zw_118 : Cond.soleField "RatePlans$Round" "left" ∈ zG := zG_of (i := 172) rfl (by decide +kernel)
set_option maxRecDepth 100000 in
theorem zw_119 : Cond.laysFinal "RatePlans$Round" "RatePlans$Round" "lying" "[I" ∈ zG := zG_of (i := 173) rfl (by decide +kernel)
set_option maxRecDepth 100000 in
theorem zw_120 : Cond.soleField "RatePlans$Round" "lying" ∈ zG := zG_of (i := 174) rfl (by decide +kernel)
set_option maxRecDepth 100000 in
theorem zw_121 : Cond.laysFinal "RatePlans$Round" "RatePlans$Round" "peak" "[I" ∈ zG := zG_of (i := 175) rfl (by decide +kernel)
set_option maxRecDepth 100000 in
theorem zw_122 : Cond.soleField "RatePlans$Round" "peak" ∈ zG := zG_of (i := 176) rfl (by decide +kernel)
set_option maxRecDepth 100000 in
theorem zw_124 : Cond.classLink "RatePlans" (23 : Nat) "RatePlans$Pacer" ∈ zG := zG_of (i := 178) rfl (by decide +kernel)
set_option maxRecDepth 100000 in
theorem zw_125 : Cond.instantiable "RatePlans$Pacer" (13 : Nat) ∈ zG := zG_of (i := 179) rfl (by decide +kernel)
set_option maxRecDepth 100000 in
theorem zw_126 : Cond.methodLinkNest "RatePlans" (25 : Nat) ({ cls := "RatePlans$Pacer", name := "<init>", desc := "()V" } : Jvm.MethodName) "RatePlans" ∈ zNs := zN_of (i := 180) rfl (by decide +kernel)
set_option maxRecDepth 100000 in
theorem zw_127 : Cond.instanceMethod ({ cls := "RatePlans$Pacer", name := "<init>", desc := "()V" } : Jvm.MethodName) ∈ zG := zG_of (i := 181) rfl (by decide +kernel)
set_option maxRecDepth 100000 in
theorem zw_128 : Cond.code ({ cls := "RatePlans$Pacer", name := "<init>", desc := "()V" } : Jvm.MethodName) prog_3_method_1_code (1 : Nat) (Option.none : Option Jvm.ClassFile.FieldType) ∈ zG := zG_of (i := 182) rfl (by decide +kernel)
set_option maxRecDepth 100000 in
theorem zw_129 : Cond.methodLink "RatePlans$Pacer" (3 : Nat) ({ cls := "java/lang/Object", name := "<init>", desc := "()V" } : Jvm.MethodName) ∈ zG := zG_of (i := 183) rfl (by decide +kernel)
set_option maxRecDepth 100000 in
theorem zw_130 : Cond.fieldLink "RatePlans$Pacer" (36 : Nat) "RatePlans$Pacer" "knownPart" "I" ∈ zG := zG_of (i := 184) rfl (by decide +kernel)
set_option maxRecDepth 100000 in
theorem zw_131 : Cond.fieldLinkNest "RatePlans" (160 : Nat) "RatePlans$Pacer" "knownPart" "I" "RatePlans" ∈ zNs := zN_of (i := 185) rfl (by decide +kernel)
set_option maxRecDepth 100000 in
theorem zw_132 : Cond.fieldLink "RatePlans$Pacer" (40 : Nat) "RatePlans$Pacer" "paceTime" "I" ∈ zG := zG_of (i := 186) rfl (by decide +kernel)
set_option maxRecDepth 100000 in
theorem zw_133 : Cond.fieldLinkNest "RatePlans" (136 : Nat) "RatePlans$Pacer" "paceTime" "I" "RatePlans" ∈ zNs := zN_of (i := 187) rfl (by decide +kernel)
set_option maxRecDepth 100000 in
theorem zw_134 : Cond.fieldLink "RatePlans$Pacer" (43 : Nat) "RatePlans$Pacer" "paceRounds" "I" ∈ zG := zG_of (i := 188) rfl (by decide +kernel)
set_option maxRecDepth 100000 in
theorem zw_135 : Cond.fieldLinkNest "RatePlans" (139 : Nat) "RatePlans$Pacer" "paceRounds" "I" "RatePlans" ∈ zNs := zN_of (i := 189) rfl (by decide +kernel)
set_option maxRecDepth 100000 in
theorem zw_136 : Cond.fieldLink "RatePlans$Pacer" (64 : Nat) "RatePlans$Pacer" "nodes" "I" ∈ zG := zG_of (i := 190) rfl (by decide +kernel)
set_option maxRecDepth 100000 in
theorem zw_137 : Cond.fieldLink "RatePlans$Pacer" (67 : Nat) "RatePlans$Pacer" "edges" "I" ∈ zG := zG_of (i := 191) rfl (by decide +kernel)
set_option maxRecDepth 100000 in
theorem zw_138 : Cond.fieldLink "RatePlans$Pacer" (9 : Nat) "RatePlans$Pacer" "firstNode" "[I" ∈ zG := zG_of (i := 192) rfl (by decide +kernel)
set_option maxRecDepth 100000 in
theorem zw_139 : Cond.fieldLink "RatePlans$Pacer" (15 : Nat) "RatePlans$Pacer" "nodeTime" "[I" ∈ zG := zG_of (i := 193) rfl (by decide +kernel)
set_option maxRecDepth 100000 in
theorem zw_140 : Cond.fieldLink "RatePlans$Pacer" (18 : Nat) "RatePlans$Pacer" "edgeFrom" "[I" ∈ zG := zG_of (i := 194) rfl (by decide +kernel)
set_option maxRecDepth 100000 in
theorem zw_141 : Cond.fieldLink "RatePlans$Pacer" (21 : Nat) "RatePlans$Pacer" "edgeTo" "[I" ∈ zG := zG_of (i := 195) rfl (by decide +kernel)
set_option maxRecDepth 100000 in
theorem zw_142 : Cond.fieldLink "RatePlans$Pacer" (24 : Nat) "RatePlans$Pacer" "edgeRounds" "[I" ∈ zG := zG_of (i := 196) rfl (by decide +kernel)
set_option maxRecDepth 100000 in
theorem zw_143 : Cond.fieldLink "RatePlans$Pacer" (27 : Nat) "RatePlans$Pacer" "excess" "[I" ∈ zG := zG_of (i := 197) rfl (by decide +kernel)
set_option maxRecDepth 100000 in
theorem zw_144 : Cond.fieldLink "RatePlans$Pacer" (30 : Nat) "RatePlans$Pacer" "via" "[I" ∈ zG := zG_of (i := 198) rfl (by decide +kernel)
set_option maxRecDepth 100000 in
theorem zw_145 : Cond.fieldLink "RatePlans$Pacer" (33 : Nat) "RatePlans$Pacer" "seenFrom" "[I" ∈ zG := zG_of (i := 199) rfl (by decide +kernel)
set_option maxRecDepth 100000 in
theorem zw_146 : Cond.lays "RatePlans$Pacer" "RatePlans$Pacer" "knownPart" "I" ∈ zG := zG_of (i := 200) rfl (by decide +kernel)
set_option maxRecDepth 100000 in
theorem zw_147 : Cond.soleField "RatePlans$Pacer" "knownPart" ∈ zG := zG_of (i := 201) rfl (by decide +kernel)
set_option maxRecDepth 100000 in
theorem zw_148 : Cond.lays "RatePlans$Pacer" "RatePlans$Pacer" "paceTime" "I" ∈ zG := zG_of (i := 202) rfl (by decide +kernel)
set_option maxRecDepth 100000 in
theorem zw_149 : Cond.soleField "RatePlans$Pacer" "paceTime" ∈ zG := zG_of (i := 203) rfl (by decide +kernel)
set_option maxRecDepth 100000 in
theorem zw_150 : Cond.lays "RatePlans$Pacer" "RatePlans$Pacer" "paceRounds" "I" ∈ zG := zG_of (i := 204) rfl (by decide +kernel)
set_option maxRecDepth 100000 in
theorem zw_151 : Cond.soleField "RatePlans$Pacer" "paceRounds" ∈ zG := zG_of (i := 205) rfl (by decide +kernel)
set_option maxRecDepth 100000 in
theorem zw_152 : Cond.lays "RatePlans$Pacer" "RatePlans$Pacer" "nodes" "I" ∈ zG := zG_of (i := 206) rfl (by decide +kernel)
set_option maxRecDepth 100000 in
theorem zw_153 : Cond.soleField "RatePlans$Pacer" "nodes" ∈ zG := zG_of (i := 207) rfl (by decide +kernel)
set_option maxRecDepth 100000 in
theorem zw_154 : Cond.lays "RatePlans$Pacer" "RatePlans$Pacer" "edges" "I" ∈ zG := zG_of (i := 208) rfl (by decide +kernel)
set_option maxRecDepth 100000 in
theorem zw_155 : Cond.soleField "RatePlans$Pacer" "edges" ∈ zG := zG_of (i := 209) rfl (by decide +kernel)
set_option maxRecDepth 100000 in
theorem zw_156 : Cond.laysFinal "RatePlans$Pacer" "RatePlans$Pacer" "firstNode" "[I" ∈ zG := zG_of (i := 210) rfl (by decide +kernel)
set_option maxRecDepth 100000 in
theorem zw_157 : Cond.soleField "RatePlans$Pacer" "firstNode" ∈ zG := zG_of (i := 211) rfl (by decide +kernel)
set_option maxRecDepth 100000 in
theorem zw_158 : Cond.laysFinal "RatePlans$Pacer" "RatePlans$Pacer" "nodeTime" "[I" ∈ zG := zG_of (i := 212) rfl (by decide +kernel)
set_option maxRecDepth 100000 in
theorem zw_159 : Cond.soleField "RatePlans$Pacer" "nodeTime" ∈ zG := zG_of (i := 213) rfl (by decide +kernel)
set_option maxRecDepth 100000 in
theorem zw_160 : Cond.laysFinal "RatePlans$Pacer" "RatePlans$Pacer" "edgeFrom" "[I" ∈ zG := zG_of (i := 214) rfl (by decide +kernel)
set_option maxRecDepth 100000 in
theorem zw_161 : Cond.soleField "RatePlans$Pacer" "edgeFrom" ∈ zG := zG_of (i := 215) rfl (by decide +kernel)
set_option maxRecDepth 100000 in
theorem zw_162 : Cond.laysFinal "RatePlans$Pacer" "RatePlans$Pacer" "edgeTo" "[I" ∈ zG := zG_of (i := 216) rfl (by decide +kernel)
set_option maxRecDepth 100000 in
theorem zw_163 : Cond.soleField "RatePlans$Pacer" "edgeTo" ∈ zG := zG_of (i := 217) rfl (by decide +kernel)
set_option maxRecDepth 100000 in
theorem zw_164 : Cond.laysFinal "RatePlans$Pacer" "RatePlans$Pacer" "edgeRounds" "[I" ∈ zG := zG_of (i := 218) rfl (by decide +kernel)
set_option maxRecDepth 100000 in
theorem zw_165 : Cond.soleField "RatePlans$Pacer" "edgeRounds" ∈ zG := zG_of (i := 219) rfl (by decide +kernel)
set_option maxRecDepth 100000 in
theorem zw_166 : Cond.laysFinal "RatePlans$Pacer" "RatePlans$Pacer" "excess" "[I" ∈ zG := zG_of (i := 220) rfl (by decide +kernel)
set_option maxRecDepth 100000 in
theorem zw_167 : Cond.soleField "RatePlans$Pacer" "excess" ∈ zG := zG_of (i := 221) rfl (by decide +kernel)
set_option maxRecDepth 100000 in
theorem zw_168 : Cond.laysFinal "RatePlans$Pacer" "RatePlans$Pacer" "via" "[I" ∈ zG := zG_of (i := 222) rfl (by decide +kernel)
set_option maxRecDepth 100000 in
theorem zw_169 : Cond.soleField "RatePlans$Pacer" "via" ∈ zG := zG_of (i := 223) rfl (by decide +kernel)
set_option maxRecDepth 100000 in
theorem zw_170 : Cond.laysFinal "RatePlans$Pacer" "RatePlans$Pacer" "seenFrom" "[I" ∈ zG := zG_of (i := 224) rfl (by decide +kernel)
set_option maxRecDepth 100000 in
theorem zw_171 : Cond.soleField "RatePlans$Pacer" "seenFrom" ∈ zG := zG_of (i := 225) rfl (by decide +kernel)
set_option maxRecDepth 100000 in
theorem zw_173 : Cond.classLink "RatePlans" (30 : Nat) "RatePlans$Rooms" ∈ zG := zG_of (i := 227) rfl (by decide +kernel)
set_option maxRecDepth 100000 in
theorem zw_174 : Cond.instantiable "RatePlans$Rooms" (1 : Nat) ∈ zG := zG_of (i := 228) rfl (by decide +kernel)
set_option maxRecDepth 100000 in
theorem zw_175 : Cond.methodLinkNest "RatePlans" (32 : Nat) ({ cls := "RatePlans$Rooms", name := "<init>", desc := "()V" } : Jvm.MethodName) "RatePlans" ∈ zNs := zN_of (i := 229) rfl (by decide +kernel)
set_option maxRecDepth 100000 in
theorem zw_176 : Cond.instanceMethod ({ cls := "RatePlans$Rooms", name := "<init>", desc := "()V" } : Jvm.MethodName) ∈ zG := zG_of (i := 230) rfl (by decide +kernel)
set_option maxRecDepth 100000 in
theorem zw_177 : Cond.code ({ cls := "RatePlans$Rooms", name := "<init>", desc := "()V" } : Jvm.MethodName) prog_4_method_1_code (1 : Nat) (Option.none : Option Jvm.ClassFile.FieldType) ∈ zG := zG_of (i := 231) rfl (by decide +kernel)
set_option maxRecDepth 100000 in
theorem zw_178 : Cond.methodLink "RatePlans$Rooms" (3 : Nat) ({ cls := "java/lang/Object", name := "<init>", desc := "()V" } : Jvm.MethodName) ∈ zG := zG_of (i := 232) rfl (by decide +kernel)
set_option maxRecDepth 100000 in
theorem zw_179 : Cond.classLink "RatePlans$Rooms" (9 : Nat) "[[I" ∈ zG := zG_of (i := 233) rfl (by decide +kernel)
set_option maxRecDepth 100000 in
theorem zw_181 : Cond.fieldLink "RatePlans$Rooms" (11 : Nat) "RatePlans$Rooms" "least" "[[I" ∈ zG := zG_of (i := 235) rfl (by decide +kernel)
set_option maxRecDepth 100000 in
theorem zw_182 : Cond.laysFinal "RatePlans$Rooms" "RatePlans$Rooms" "least" "[[I" ∈ zG := zG_of (i := 236) rfl (by decide +kernel)
set_option maxRecDepth 100000 in
theorem zw_183 : Cond.soleField "RatePlans$Rooms" "least" ∈ zG := zG_of (i := 237) rfl (by decide +kernel)
set_option maxRecDepth 100000 in
theorem zw_185 : Cond.fieldLink "RatePlans" (12 : Nat) "RatePlans" "net" "LRatePlans$Net;" ∈ zG := zG_of (i := 239) rfl (by decide +kernel)
set_option maxRecDepth 100000 in
theorem zw_186 : Cond.fieldLink "RatePlans" (19 : Nat) "RatePlans" "round" "LRatePlans$Round;" ∈ zG := zG_of (i := 240) rfl (by decide +kernel)
set_option maxRecDepth 100000 in
theorem zw_187 : Cond.fieldLink "RatePlans" (26 : Nat) "RatePlans" "pacer" "LRatePlans$Pacer;" ∈ zG := zG_of (i := 241) rfl (by decide +kernel)
set_option maxRecDepth 100000 in
theorem zw_188 : Cond.fieldLink "RatePlans" (33 : Nat) "RatePlans" "rooms" "LRatePlans$Rooms;" ∈ zG := zG_of (i := 242) rfl (by decide +kernel)
set_option maxRecDepth 100000 in
theorem zw_189 : Cond.laysFinal "RatePlans" "RatePlans" "net" "LRatePlans$Net;" ∈ zG := zG_of (i := 243) rfl (by decide +kernel)
set_option maxRecDepth 100000 in
theorem zw_190 : Cond.soleField "RatePlans" "net" ∈ zG := zG_of (i := 244) rfl (by decide +kernel)
set_option maxRecDepth 100000 in
theorem zw_191 : Cond.laysFinal "RatePlans" "RatePlans" "round" "LRatePlans$Round;" ∈ zG := zG_of (i := 245) rfl (by decide +kernel)
set_option maxRecDepth 100000 in
theorem zw_192 : Cond.soleField "RatePlans" "round" ∈ zG := zG_of (i := 246) rfl (by decide +kernel)
set_option maxRecDepth 100000 in
theorem zw_193 : Cond.laysFinal "RatePlans" "RatePlans" "pacer" "LRatePlans$Pacer;" ∈ zG := zG_of (i := 247) rfl (by decide +kernel)
set_option maxRecDepth 100000 in
theorem zw_194 : Cond.soleField "RatePlans" "pacer" ∈ zG := zG_of (i := 248) rfl (by decide +kernel)
set_option maxRecDepth 100000 in
theorem zw_195 : Cond.laysFinal "RatePlans" "RatePlans" "rooms" "LRatePlans$Rooms;" ∈ zG := zG_of (i := 249) rfl (by decide +kernel)
set_option maxRecDepth 100000 in
theorem zw_196 : Cond.soleField "RatePlans" "rooms" ∈ zG := zG_of (i := 250) rfl (by decide +kernel)
set_option maxRecDepth 100000 in
theorem zw_198 : Cond.methodLink "RatePlansLaw" (30 : Nat) ({ cls := "RatePlans", name := "graph", desc := "(I)Z" } : Jvm.MethodName) ∈ zG := zG_of (i := 252) rfl (by decide +kernel)
set_option maxRecDepth 100000 in
theorem zw_199 : Cond.instanceMethod ({ cls := "RatePlans", name := "graph", desc := "(I)Z" } : Jvm.MethodName) ∈ zG := zG_of (i := 253) rfl (by decide +kernel)
set_option maxRecDepth 100000 in
theorem zw_200 : Cond.selects "RatePlans" ({ cls := "RatePlans", name := "graph", desc := "(I)Z" } : Jvm.MethodName) ({ cls := "RatePlans", name := "graph", desc := "(I)Z" } : Jvm.MethodName) ∈ zG := zG_of (i := 254) rfl (by decide +kernel)
set_option maxRecDepth 100000 in
theorem zw_201 : Cond.code ({ cls := "RatePlans", name := "graph", desc := "(I)Z" } : Jvm.MethodName) prog_1_method_2_code (2 : Nat) (Option.some Jvm.ClassFile.FieldType.boolean) ∈ zG := zG_of (i := 255) rfl (by decide +kernel)
set_option maxRecDepth 100000 in
theorem zw_202 : Cond.methodLink "RatePlans" (37 : Nat) ({ cls := "RatePlans", name := "isWithin", desc := "(III)Z" } : Jvm.MethodName) ∈ zG := zG_of (i := 256) rfl (by decide +kernel)
set_option maxRecDepth 100000 in
theorem zw_203 : Cond.static ({ cls := "RatePlans", name := "isWithin", desc := "(III)Z" } : Jvm.MethodName) ∈ zG := zG_of (i := 257) rfl (by decide +kernel)
set_option maxRecDepth 100000 in
theorem zw_204 : Cond.code ({ cls := "RatePlans", name := "isWithin", desc := "(III)Z" } : Jvm.MethodName) prog_1_method_15_code (3 : Nat) (Option.some Jvm.ClassFile.FieldType.boolean) ∈ zG := zG_of (i := 258) rfl (by decide +kernel)
set_option maxRecDepth 100000 in
theorem zw_205 : Cond.methodLinkNest "RatePlans" (41 : Nat) ({ cls := "RatePlans$Net", name := "begin", desc := "(I)V" } : Jvm.MethodName) "RatePlans" ∈ zNs := zN_of (i := 259) rfl (by decide +kernel)
set_option maxRecDepth 100000 in
theorem zw_206 : Cond.methodLink "RatePlans" (45 : Nat) ({ cls := "RatePlans", name := "forgetAnswers", desc := "()V" } : Jvm.MethodName) ∈ zG := zG_of (i := 260) rfl (by decide +kernel)
set_option maxRecDepth 100000 in
theorem zw_208 : Cond.instanceMethod ({ cls := "RatePlans", name := "forgetAnswers", desc := "()V" } : Jvm.MethodName) ∈ zG := zG_of (i := 262) rfl (by decide +kernel)
set_option maxRecDepth 100000 in
theorem zw_209 : Cond.code ({ cls := "RatePlans", name := "forgetAnswers", desc := "()V" } : Jvm.MethodName) prog_1_method_13_code (1 : Nat) (Option.none : Option Jvm.ClassFile.FieldType) ∈ zG := zG_of (i := 263) rfl (by decide +kernel)
set_option maxRecDepth 100000 in
theorem zw_210 : Cond.methodLink "RatePlansLaw" (35 : Nat) ({ cls := "RatePlans", name := "time", desc := "(II)Z" } : Jvm.MethodName) ∈ zG := zG_of (i := 264) rfl (by decide +kernel)
set_option maxRecDepth 100000 in
theorem zw_211 : Cond.instanceMethod ({ cls := "RatePlans", name := "time", desc := "(II)Z" } : Jvm.MethodName) ∈ zG := zG_of (i := 265) rfl (by decide +kernel)
set_option maxRecDepth 100000 in
theorem zw_212 : Cond.selects "RatePlans" ({ cls := "RatePlans", name := "time", desc := "(II)Z" } : Jvm.MethodName) ({ cls := "RatePlans", name := "time", desc := "(II)Z" } : Jvm.MethodName) ∈ zG := zG_of (i := 266) rfl (by decide +kernel)
set_option maxRecDepth 100000 in
theorem zw_213 : Cond.code ({ cls := "RatePlans", name := "time", desc := "(II)Z" } : Jvm.MethodName) prog_1_method_3_code (3 : Nat) (Option.some Jvm.ClassFile.FieldType.boolean) ∈ zG := zG_of (i := 267) rfl (by decide +kernel)
set_option maxRecDepth 100000 in
theorem zw_214 : Cond.methodLinkNest "RatePlans" (48 : Nat) ({ cls := "RatePlans$Net", name := "hasActor", desc := "(I)Z" } : Jvm.MethodName) "RatePlans" ∈ zNs := zN_of (i := 268) rfl (by decide +kernel)
set_option maxRecDepth 100000 in
theorem zw_216 : Cond.instanceMethod ({ cls := "RatePlans$Net", name := "hasActor", desc := "(I)Z" } : Jvm.MethodName) ∈ zG := zG_of (i := 270) rfl (by decide +kernel)
set_option maxRecDepth 100000 in
theorem zw_217 : Cond.code ({ cls := "RatePlans$Net", name := "hasActor", desc := "(I)Z" } : Jvm.MethodName) prog_2_method_3_code (2 : Nat) (Option.some Jvm.ClassFile.FieldType.boolean) ∈ zG := zG_of (i := 271) rfl (by decide +kernel)
set_option maxRecDepth 100000 in
theorem zw_218 : Cond.methodLink "RatePlansLaw" (40 : Nat) ({ cls := "RatePlans", name := "channel", desc := "(IIIII)I" } : Jvm.MethodName) ∈ zG := zG_of (i := 272) rfl (by decide +kernel)
set_option maxRecDepth 100000 in
theorem zw_219 : Cond.instanceMethod ({ cls := "RatePlans", name := "channel", desc := "(IIIII)I" } : Jvm.MethodName) ∈ zG := zG_of (i := 273) rfl (by decide +kernel)
set_option maxRecDepth 100000 in
theorem zw_220 : Cond.selects "RatePlans" ({ cls := "RatePlans", name := "channel", desc := "(IIIII)I" } : Jvm.MethodName) ({ cls := "RatePlans", name := "channel", desc := "(IIIII)I" } : Jvm.MethodName) ∈ zG := zG_of (i := 274) rfl (by decide +kernel)
set_option maxRecDepth 100000 in
theorem zw_221 : Cond.code ({ cls := "RatePlans", name := "channel", desc := "(IIIII)I" } : Jvm.MethodName) prog_1_method_4_code (6 : Nat) (Option.some Jvm.ClassFile.FieldType.int) ∈ zG := zG_of (i := 275) rfl (by decide +kernel)
set_option maxRecDepth 100000 in
theorem zw_222 : Cond.methodLinkNest "RatePlans" (60 : Nat) ({ cls := "RatePlans$Net", name := "add", desc := "(IIIII)I" } : Jvm.MethodName) "RatePlans" ∈ zNs := zN_of (i := 276) rfl (by decide +kernel)
set_option maxRecDepth 100000 in
theorem zw_224 : Cond.instanceMethod ({ cls := "RatePlans$Net", name := "add", desc := "(IIIII)I" } : Jvm.MethodName) ∈ zG := zG_of (i := 278) rfl (by decide +kernel)
set_option maxRecDepth 100000 in
theorem zw_225 : Cond.code ({ cls := "RatePlans$Net", name := "add", desc := "(IIIII)I" } : Jvm.MethodName) prog_2_method_5_code (7 : Nat) (Option.some Jvm.ClassFile.FieldType.int) ∈ zG := zG_of (i := 279) rfl (by decide +kernel)
set_option maxRecDepth 100000 in
theorem zw_226 : Cond.methodLink "RatePlans$Net" (50 : Nat) ({ cls := "RatePlans$Net", name := "balance", desc := "(I)V" } : Jvm.MethodName) ∈ zG := zG_of (i := 280) rfl (by decide +kernel)
set_option maxRecDepth 100000 in
theorem zw_228 : Cond.instanceMethod ({ cls := "RatePlans$Net", name := "balance", desc := "(I)V" } : Jvm.MethodName) ∈ zG := zG_of (i := 282) rfl (by decide +kernel)
set_option maxRecDepth 100000 in
theorem zw_229 : Cond.code ({ cls := "RatePlans$Net", name := "balance", desc := "(I)V" } : Jvm.MethodName) prog_2_method_6_code (7 : Nat) (Option.none : Option Jvm.ClassFile.FieldType) ∈ zG := zG_of (i := 283) rfl (by decide +kernel)
set_option maxRecDepth 100000 in
theorem zw_230 : Cond.methodLinkNest "RatePlans$Net" (53 : Nat) ({ cls := "RatePlans", name := "commonDivisor", desc := "(II)I" } : Jvm.MethodName) "RatePlans" ∈ zNs := zN_of (i := 284) rfl (by decide +kernel)
set_option maxRecDepth 100000 in
theorem zw_231 : Cond.static ({ cls := "RatePlans", name := "commonDivisor", desc := "(II)I" } : Jvm.MethodName) ∈ zG := zG_of (i := 285) rfl (by decide +kernel)
set_option maxRecDepth 100000 in
theorem zw_232 : Cond.code ({ cls := "RatePlans", name := "commonDivisor", desc := "(II)I" } : Jvm.MethodName) prog_1_method_16_code (6 : Nat) (Option.some Jvm.ClassFile.FieldType.int) ∈ zG := zG_of (i := 286) rfl (by decide +kernel)
set_option maxRecDepth 100000 in
theorem zw_233 : Cond.methodLinkNest "RatePlans$Net" (57 : Nat) ({ cls := "RatePlans", name := "divided", desc := "(II)I" } : Jvm.MethodName) "RatePlans" ∈ zNs := zN_of (i := 287) rfl (by decide +kernel)
set_option maxRecDepth 100000 in
theorem zw_234 : Cond.static ({ cls := "RatePlans", name := "divided", desc := "(II)I" } : Jvm.MethodName) ∈ zG := zG_of (i := 288) rfl (by decide +kernel)
set_option maxRecDepth 100000 in
theorem zw_235 : Cond.code ({ cls := "RatePlans", name := "divided", desc := "(II)I" } : Jvm.MethodName) prog_1_method_17_code (2 : Nat) (Option.some Jvm.ClassFile.FieldType.int) ∈ zG := zG_of (i := 289) rfl (by decide +kernel)
set_option maxRecDepth 100000 in
theorem zw_236 : Cond.methodLink "RatePlans$Net" (60 : Nat) ({ cls := "RatePlans$Net", name := "multiply", desc := "(II)V" } : Jvm.MethodName) ∈ zG := zG_of (i := 290) rfl (by decide +kernel)
set_option maxRecDepth 100000 in
theorem zw_238 : Cond.instanceMethod ({ cls := "RatePlans$Net", name := "multiply", desc := "(II)V" } : Jvm.MethodName) ∈ zG := zG_of (i := 292) rfl (by decide +kernel)
set_option maxRecDepth 100000 in
theorem zw_239 : Cond.code ({ cls := "RatePlans$Net", name := "multiply", desc := "(II)V" } : Jvm.MethodName) prog_2_method_7_code (4 : Nat) (Option.none : Option Jvm.ClassFile.FieldType) ∈ zG := zG_of (i := 293) rfl (by decide +kernel)
set_option maxRecDepth 100000 in
theorem zw_240 : Cond.methodLink "RatePlans$Net" (64 : Nat) ({ cls := "RatePlans$Net", name := "join", desc := "(II)V" } : Jvm.MethodName) ∈ zG := zG_of (i := 294) rfl (by decide +kernel)
set_option maxRecDepth 100000 in
theorem zw_242 : Cond.instanceMethod ({ cls := "RatePlans$Net", name := "join", desc := "(II)V" } : Jvm.MethodName) ∈ zG := zG_of (i := 296) rfl (by decide +kernel)
set_option maxRecDepth 100000 in
theorem zw_243 : Cond.code ({ cls := "RatePlans$Net", name := "join", desc := "(II)V" } : Jvm.MethodName) prog_2_method_8_code (6 : Nat) (Option.none : Option Jvm.ClassFile.FieldType) ∈ zG := zG_of (i := 297) rfl (by decide +kernel)
set_option maxRecDepth 100000 in
theorem zw_244 : Cond.methodLink "RatePlans$Net" (67 : Nat) ({ cls := "java/lang/Math", name := "min", desc := "(II)I" } : Jvm.MethodName) ∈ zG := zG_of (i := 298) rfl (by decide +kernel)
set_option maxRecDepth 100000 in
theorem zw_245 : Cond.static ({ cls := "java/lang/Math", name := "min", desc := "(II)I" } : Jvm.MethodName) ∈ zG := zG_of (i := 299) rfl (by decide +kernel)
set_option maxRecDepth 100000 in
theorem zw_246 : Cond.code ({ cls := "java/lang/Math", name := "min", desc := "(II)I" } : Jvm.MethodName) prog_11_method_69_code (2 : Nat) (Option.some Jvm.ClassFile.FieldType.int) ∈ zG := zG_of (i := 300) rfl (by decide +kernel)
set_option maxRecDepth 100000 in
theorem zw_247 : Cond.methodLink "RatePlans$Net" (72 : Nat) ({ cls := "java/lang/Math", name := "max", desc := "(II)I" } : Jvm.MethodName) ∈ zG := zG_of (i := 301) rfl (by decide +kernel)
set_option maxRecDepth 100000 in
theorem zw_248 : Cond.static ({ cls := "java/lang/Math", name := "max", desc := "(II)I" } : Jvm.MethodName) ∈ zG := zG_of (i := 302) rfl (by decide +kernel)
set_option maxRecDepth 100000 in
theorem zw_249 : Cond.code ({ cls := "java/lang/Math", name := "max", desc := "(II)I" } : Jvm.MethodName) prog_11_method_65_code (2 : Nat) (Option.some Jvm.ClassFile.FieldType.int) ∈ zG := zG_of (i := 303) rfl (by decide +kernel)
set_option maxRecDepth 100000 in
theorem zw_250 : Cond.methodLink "RatePlansLaw" (45 : Nat) ({ cls := "RatePlans", name := "uneven", desc := "()I" } : Jvm.MethodName) ∈ zG := zG_of (i := 304) rfl (by decide +kernel)
set_option maxRecDepth 100000 in
theorem zw_251 : Cond.instanceMethod ({ cls := "RatePlans", name := "uneven", desc := "()I" } : Jvm.MethodName) ∈ zG := zG_of (i := 305) rfl (by decide +kernel)
set_option maxRecDepth 100000 in
theorem zw_252 : Cond.selects "RatePlans" ({ cls := "RatePlans", name := "uneven", desc := "()I" } : Jvm.MethodName) ({ cls := "RatePlans", name := "uneven", desc := "()I" } : Jvm.MethodName) ∈ zG := zG_of (i := 306) rfl (by decide +kernel)
set_option maxRecDepth 100000 in
theorem zw_253 : Cond.code ({ cls := "RatePlans", name := "uneven", desc := "()I" } : Jvm.MethodName) prog_1_method_5_code (1 : Nat) (Option.some Jvm.ClassFile.FieldType.int) ∈ zG := zG_of (i := 307) rfl (by decide +kernel)
set_option maxRecDepth 100000 in
theorem zw_254 : Cond.methodLink "RatePlansLaw" (62 : Nat) ({ cls := "RatePlans", name := "left", desc := "(I)I" } : Jvm.MethodName) ∈ zG := zG_of (i := 308) rfl (by decide +kernel)
set_option maxRecDepth 100000 in
theorem zw_255 : Cond.instanceMethod ({ cls := "RatePlans", name := "left", desc := "(I)I" } : Jvm.MethodName) ∈ zG := zG_of (i := 309) rfl (by decide +kernel)
set_option maxRecDepth 100000 in
theorem zw_256 : Cond.selects "RatePlans" ({ cls := "RatePlans", name := "left", desc := "(I)I" } : Jvm.MethodName) ({ cls := "RatePlans", name := "left", desc := "(I)I" } : Jvm.MethodName) ∈ zG := zG_of (i := 310) rfl (by decide +kernel)
set_option maxRecDepth 100000 in
theorem zw_257 : Cond.code ({ cls := "RatePlans", name := "left", desc := "(I)I" } : Jvm.MethodName) prog_1_method_8_code (2 : Nat) (Option.some Jvm.ClassFile.FieldType.int) ∈ zG := zG_of (i := 311) rfl (by decide +kernel)
set_option maxRecDepth 100000 in
theorem zw_258 : Cond.methodLink "RatePlans" (89 : Nat) ({ cls := "RatePlans", name := "findRound", desc := "()Z" } : Jvm.MethodName) ∈ zG := zG_of (i := 312) rfl (by decide +kernel)
set_option maxRecDepth 100000 in
theorem zw_260 : Cond.instanceMethod ({ cls := "RatePlans", name := "findRound", desc := "()Z" } : Jvm.MethodName) ∈ zG := zG_of (i := 314) rfl (by decide +kernel)
set_option maxRecDepth 100000 in
theorem zw_261 : Cond.code ({ cls := "RatePlans", name := "findRound", desc := "()Z" } : Jvm.MethodName) prog_1_method_14_code (1 : Nat) (Option.some Jvm.ClassFile.FieldType.boolean) ∈ zG := zG_of (i := 315) rfl (by decide +kernel)
set_option maxRecDepth 100000 in
theorem zw_262 : Cond.methodLinkNest "RatePlans" (67 : Nat) ({ cls := "RatePlans$Net", name := "isUneven", desc := "()Z" } : Jvm.MethodName) "RatePlans" ∈ zNs := zN_of (i := 316) rfl (by decide +kernel)
set_option maxRecDepth 100000 in
theorem zw_264 : Cond.instanceMethod ({ cls := "RatePlans$Net", name := "isUneven", desc := "()Z" } : Jvm.MethodName) ∈ zG := zG_of (i := 318) rfl (by decide +kernel)
set_option maxRecDepth 100000 in
theorem zw_265 : Cond.code ({ cls := "RatePlans$Net", name := "isUneven", desc := "()Z" } : Jvm.MethodName) prog_2_method_10_code (1 : Nat) (Option.some Jvm.ClassFile.FieldType.boolean) ∈ zG := zG_of (i := 319) rfl (by decide +kernel)
set_option maxRecDepth 100000 in
theorem zw_266 : Cond.methodLinkNest "RatePlans" (78 : Nat) ({ cls := "RatePlans$Net", name := "isGreat", desc := "()Z" } : Jvm.MethodName) "RatePlans" ∈ zNs := zN_of (i := 320) rfl (by decide +kernel)
set_option maxRecDepth 100000 in
theorem zw_268 : Cond.instanceMethod ({ cls := "RatePlans$Net", name := "isGreat", desc := "()Z" } : Jvm.MethodName) ∈ zG := zG_of (i := 322) rfl (by decide +kernel)
set_option maxRecDepth 100000 in
theorem zw_269 : Cond.code ({ cls := "RatePlans$Net", name := "isGreat", desc := "()Z" } : Jvm.MethodName) prog_2_method_11_code (3 : Nat) (Option.some Jvm.ClassFile.FieldType.boolean) ∈ zG := zG_of (i := 323) rfl (by decide +kernel)
set_option maxRecDepth 100000 in
theorem zw_270 : Cond.methodLinkNest "RatePlans" (163 : Nat) ({ cls := "RatePlans$Round", name := "play", desc := "(LRatePlans$Net;)V" } : Jvm.MethodName) "RatePlans" ∈ zNs := zN_of (i := 324) rfl (by decide +kernel)
set_option maxRecDepth 100000 in
theorem zw_272 : Cond.instanceMethod ({ cls := "RatePlans$Round", name := "play", desc := "(LRatePlans$Net;)V" } : Jvm.MethodName) ∈ zG := zG_of (i := 326) rfl (by decide +kernel)
set_option maxRecDepth 100000 in
theorem zw_273 : Cond.code ({ cls := "RatePlans$Round", name := "play", desc := "(LRatePlans$Net;)V" } : Jvm.MethodName) prog_5_method_2_code (4 : Nat) (Option.none : Option Jvm.ClassFile.FieldType) ∈ zG := zG_of (i := 327) rfl (by decide +kernel)
set_option maxRecDepth 100000 in
theorem zw_274 : Cond.methodLink "RatePlans$Round" (24 : Nat) ({ cls := "RatePlans$Round", name := "begin", desc := "(LRatePlans$Net;)V" } : Jvm.MethodName) ∈ zG := zG_of (i := 328) rfl (by decide +kernel)
set_option maxRecDepth 100000 in
theorem zw_276 : Cond.instanceMethod ({ cls := "RatePlans$Round", name := "begin", desc := "(LRatePlans$Net;)V" } : Jvm.MethodName) ∈ zG := zG_of (i := 330) rfl (by decide +kernel)
set_option maxRecDepth 100000 in
theorem zw_277 : Cond.code ({ cls := "RatePlans$Round", name := "begin", desc := "(LRatePlans$Net;)V" } : Jvm.MethodName) prog_5_method_3_code (3 : Nat) (Option.none : Option Jvm.ClassFile.FieldType) ∈ zG := zG_of (i := 331) rfl (by decide +kernel)
set_option maxRecDepth 100000 in
theorem zw_278 : Cond.methodLink "RatePlans$Round" (28 : Nat) ({ cls := "RatePlans$Round", name := "leastReady", desc := "(LRatePlans$Net;)I" } : Jvm.MethodName) ∈ zG := zG_of (i := 332) rfl (by decide +kernel)
set_option maxRecDepth 100000 in
theorem zw_280 : Cond.instanceMethod ({ cls := "RatePlans$Round", name := "leastReady", desc := "(LRatePlans$Net;)I" } : Jvm.MethodName) ∈ zG := zG_of (i := 334) rfl (by decide +kernel)
set_option maxRecDepth 100000 in
theorem zw_281 : Cond.code ({ cls := "RatePlans$Round", name := "leastReady", desc := "(LRatePlans$Net;)I" } : Jvm.MethodName) prog_5_method_4_code (3 : Nat) (Option.some Jvm.ClassFile.FieldType.int) ∈ zG := zG_of (i := 335) rfl (by decide +kernel)
set_option maxRecDepth 100000 in
theorem zw_282 : Cond.methodLink "RatePlans$Round" (58 : Nat) ({ cls := "RatePlans$Round", name := "hasEnough", desc := "(LRatePlans$Net;I)Z" } : Jvm.MethodName) ∈ zG := zG_of (i := 336) rfl (by decide +kernel)
set_option maxRecDepth 100000 in
theorem zw_284 : Cond.instanceMethod ({ cls := "RatePlans$Round", name := "hasEnough", desc := "(LRatePlans$Net;I)Z" } : Jvm.MethodName) ∈ zG := zG_of (i := 338) rfl (by decide +kernel)
set_option maxRecDepth 100000 in
theorem zw_285 : Cond.code ({ cls := "RatePlans$Round", name := "hasEnough", desc := "(LRatePlans$Net;I)Z" } : Jvm.MethodName) prog_5_method_5_code (4 : Nat) (Option.some Jvm.ClassFile.FieldType.boolean) ∈ zG := zG_of (i := 339) rfl (by decide +kernel)
set_option maxRecDepth 100000 in
theorem zw_286 : Cond.methodLink "RatePlans$Round" (32 : Nat) ({ cls := "RatePlans$Round", name := "fire", desc := "(LRatePlans$Net;I)V" } : Jvm.MethodName) ∈ zG := zG_of (i := 340) rfl (by decide +kernel)
set_option maxRecDepth 100000 in
theorem zw_288 : Cond.instanceMethod ({ cls := "RatePlans$Round", name := "fire", desc := "(LRatePlans$Net;I)V" } : Jvm.MethodName) ∈ zG := zG_of (i := 342) rfl (by decide +kernel)
set_option maxRecDepth 100000 in
theorem zw_289 : Cond.code ({ cls := "RatePlans$Round", name := "fire", desc := "(LRatePlans$Net;I)V" } : Jvm.MethodName) prog_5_method_6_code (4 : Nat) (Option.none : Option Jvm.ClassFile.FieldType) ∈ zG := zG_of (i := 343) rfl (by decide +kernel)
set_option maxRecDepth 100000 in
theorem zw_290 : Cond.methodLink "RatePlans$Round" (74 : Nat) ({ cls := "java/lang/Math", name := "max", desc := "(II)I" } : Jvm.MethodName) ∈ zG := zG_of (i := 344) rfl (by decide +kernel)
set_option maxRecDepth 100000 in
theorem zw_291 : Cond.methodLink "RatePlansLaw" (66 : Nat) ({ cls := "RatePlans", name := "peak", desc := "(I)I" } : Jvm.MethodName) ∈ zG := zG_of (i := 345) rfl (by decide +kernel)
set_option maxRecDepth 100000 in
theorem zw_292 : Cond.instanceMethod ({ cls := "RatePlans", name := "peak", desc := "(I)I" } : Jvm.MethodName) ∈ zG := zG_of (i := 346) rfl (by decide +kernel)
set_option maxRecDepth 100000 in
theorem zw_293 : Cond.selects "RatePlans" ({ cls := "RatePlans", name := "peak", desc := "(I)I" } : Jvm.MethodName) ({ cls := "RatePlans", name := "peak", desc := "(I)I" } : Jvm.MethodName) ∈ zG := zG_of (i := 347) rfl (by decide +kernel)
set_option maxRecDepth 100000 in
theorem zw_294 : Cond.code ({ cls := "RatePlans", name := "peak", desc := "(I)I" } : Jvm.MethodName) prog_1_method_9_code (2 : Nat) (Option.some Jvm.ClassFile.FieldType.int) ∈ zG := zG_of (i := 348) rfl (by decide +kernel)
set_option maxRecDepth 100000 in
theorem zw_295 : Cond.methodLinkNest "RatePlans" (106 : Nat) ({ cls := "RatePlans$Net", name := "hasChannel", desc := "(I)Z" } : Jvm.MethodName) "RatePlans" ∈ zNs := zN_of (i := 349) rfl (by decide +kernel)
set_option maxRecDepth 100000 in
theorem zw_297 : Cond.instanceMethod ({ cls := "RatePlans$Net", name := "hasChannel", desc := "(I)Z" } : Jvm.MethodName) ∈ zG := zG_of (i := 351) rfl (by decide +kernel)
set_option maxRecDepth 100000 in
theorem zw_298 : Cond.code ({ cls := "RatePlans$Net", name := "hasChannel", desc := "(I)Z" } : Jvm.MethodName) prog_2_method_4_code (2 : Nat) (Option.some Jvm.ClassFile.FieldType.boolean) ∈ zG := zG_of (i := 352) rfl (by decide +kernel)
set_option maxRecDepth 100000 in
theorem zw_299 : Cond.methodLink "RatePlansLaw" (74 : Nat) ({ cls := "RatePlans", name := "room", desc := "()I" } : Jvm.MethodName) ∈ zG := zG_of (i := 353) rfl (by decide +kernel)
set_option maxRecDepth 100000 in
theorem zw_300 : Cond.instanceMethod ({ cls := "RatePlans", name := "room", desc := "()I" } : Jvm.MethodName) ∈ zG := zG_of (i := 354) rfl (by decide +kernel)
set_option maxRecDepth 100000 in
theorem zw_301 : Cond.selects "RatePlans" ({ cls := "RatePlans", name := "room", desc := "()I" } : Jvm.MethodName) ({ cls := "RatePlans", name := "room", desc := "()I" } : Jvm.MethodName) ∈ zG := zG_of (i := 355) rfl (by decide +kernel)
set_option maxRecDepth 100000 in
theorem zw_302 : Cond.code ({ cls := "RatePlans", name := "room", desc := "()I" } : Jvm.MethodName) prog_1_method_11_code (1 : Nat) (Option.some Jvm.ClassFile.FieldType.int) ∈ zG := zG_of (i := 356) rfl (by decide +kernel)
set_option maxRecDepth 100000 in
theorem zw_303 : Cond.methodLinkNest "RatePlans" (142 : Nat) ({ cls := "RatePlans$Net", name := "isChain", desc := "()Z" } : Jvm.MethodName) "RatePlans" ∈ zNs := zN_of (i := 357) rfl (by decide +kernel)
set_option maxRecDepth 100000 in
theorem zw_305 : Cond.instanceMethod ({ cls := "RatePlans$Net", name := "isChain", desc := "()Z" } : Jvm.MethodName) ∈ zG := zG_of (i := 359) rfl (by decide +kernel)
set_option maxRecDepth 100000 in
theorem zw_306 : Cond.code ({ cls := "RatePlans$Net", name := "isChain", desc := "()Z" } : Jvm.MethodName) prog_2_method_15_code (2 : Nat) (Option.some Jvm.ClassFile.FieldType.boolean) ∈ zG := zG_of (i := 360) rfl (by decide +kernel)
set_option maxRecDepth 100000 in
theorem zw_307 : Cond.methodLinkNest "RatePlans" (145 : Nat) ({ cls := "RatePlans$Rooms", name := "ofAll", desc := "(LRatePlans$Net;)I" } : Jvm.MethodName) "RatePlans" ∈ zNs := zN_of (i := 361) rfl (by decide +kernel)
set_option maxRecDepth 100000 in
theorem zw_309 : Cond.instanceMethod ({ cls := "RatePlans$Rooms", name := "ofAll", desc := "(LRatePlans$Net;)I" } : Jvm.MethodName) ∈ zG := zG_of (i := 363) rfl (by decide +kernel)
set_option maxRecDepth 100000 in
theorem zw_310 : Cond.code ({ cls := "RatePlans$Rooms", name := "ofAll", desc := "(LRatePlans$Net;)I" } : Jvm.MethodName) prog_4_method_2_code (5 : Nat) (Option.some Jvm.ClassFile.FieldType.int) ∈ zG := zG_of (i := 364) rfl (by decide +kernel)
set_option maxRecDepth 100000 in
theorem zw_311 : Cond.methodLinkNest "RatePlans$Rooms" (26 : Nat) ({ cls := "RatePlans", name := "commonDivisor", desc := "(II)I" } : Jvm.MethodName) "RatePlans" ∈ zNs := zN_of (i := 365) rfl (by decide +kernel)
set_option maxRecDepth 100000 in
theorem zw_312 : Cond.methodLink "RatePlans$Rooms" (30 : Nat) ({ cls := "RatePlans$Rooms", name := "ofBestCut", desc := "(LRatePlans$Net;III)I" } : Jvm.MethodName) ∈ zG := zG_of (i := 366) rfl (by decide +kernel)
set_option maxRecDepth 100000 in
theorem zw_314 : Cond.instanceMethod ({ cls := "RatePlans$Rooms", name := "ofBestCut", desc := "(LRatePlans$Net;III)I" } : Jvm.MethodName) ∈ zG := zG_of (i := 368) rfl (by decide +kernel)
set_option maxRecDepth 100000 in
theorem zw_315 : Cond.code ({ cls := "RatePlans$Rooms", name := "ofBestCut", desc := "(LRatePlans$Net;III)I" } : Jvm.MethodName) prog_4_method_3_code (8 : Nat) (Option.some Jvm.ClassFile.FieldType.int) ∈ zG := zG_of (i := 369) rfl (by decide +kernel)
set_option maxRecDepth 100000 in
theorem zw_316 : Cond.constant "RatePlans$Rooms" (36 : Nat) (2147483647 : Int32) ∈ zG := zG_of (i := 370) rfl (by decide +kernel)
set_option maxRecDepth 100000 in
theorem zw_317 : Cond.methodLinkNest "RatePlans$Rooms" (40 : Nat) ({ cls := "RatePlans", name := "divided", desc := "(II)I" } : Jvm.MethodName) "RatePlans" ∈ zNs := zN_of (i := 371) rfl (by decide +kernel)
set_option maxRecDepth 100000 in
theorem zw_318 : Cond.methodLink "RatePlans$Rooms" (43 : Nat) ({ cls := "java/lang/Math", name := "min", desc := "(II)I" } : Jvm.MethodName) ∈ zG := zG_of (i := 372) rfl (by decide +kernel)
set_option maxRecDepth 100000 in
theorem zw_319 : Cond.methodLink "RatePlansLaw" (78 : Nat) ({ cls := "RatePlans", name := "total", desc := "(I)I" } : Jvm.MethodName) ∈ zG := zG_of (i := 373) rfl (by decide +kernel)
set_option maxRecDepth 100000 in
theorem zw_320 : Cond.instanceMethod ({ cls := "RatePlans", name := "total", desc := "(I)I" } : Jvm.MethodName) ∈ zG := zG_of (i := 374) rfl (by decide +kernel)
set_option maxRecDepth 100000 in
theorem zw_321 : Cond.selects "RatePlans" ({ cls := "RatePlans", name := "total", desc := "(I)I" } : Jvm.MethodName) ({ cls := "RatePlans", name := "total", desc := "(I)I" } : Jvm.MethodName) ∈ zG := zG_of (i := 375) rfl (by decide +kernel)
set_option maxRecDepth 100000 in
theorem zw_322 : Cond.code ({ cls := "RatePlans", name := "total", desc := "(I)I" } : Jvm.MethodName) prog_1_method_12_code (2 : Nat) (Option.some Jvm.ClassFile.FieldType.int) ∈ zG := zG_of (i := 376) rfl (by decide +kernel)
set_option maxRecDepth 100000 in
theorem zw_323 : Cond.methodLinkNest "RatePlans" (152 : Nat) ({ cls := "RatePlans$Net", name := "parts", desc := "()I" } : Jvm.MethodName) "RatePlans" ∈ zNs := zN_of (i := 377) rfl (by decide +kernel)
set_option maxRecDepth 100000 in
theorem zw_325 : Cond.instanceMethod ({ cls := "RatePlans$Net", name := "parts", desc := "()I" } : Jvm.MethodName) ∈ zG := zG_of (i := 379) rfl (by decide +kernel)
set_option maxRecDepth 100000 in
theorem zw_326 : Cond.code ({ cls := "RatePlans$Net", name := "parts", desc := "()I" } : Jvm.MethodName) prog_2_method_9_code (3 : Nat) (Option.some Jvm.ClassFile.FieldType.int) ∈ zG := zG_of (i := 380) rfl (by decide +kernel)
set_option maxRecDepth 100000 in
theorem zw_327 : Cond.methodLink "RatePlansLaw" (50 : Nat) ({ cls := "RatePlansLaw", name := "count", desc := "(LRatePlans;I[J)I" } : Jvm.MethodName) ∈ zG := zG_of (i := 381) rfl (by decide +kernel)
set_option maxRecDepth 100000 in
theorem zw_328 : Cond.static ({ cls := "RatePlansLaw", name := "count", desc := "(LRatePlans;I[J)I" } : Jvm.MethodName) ∈ zG := zG_of (i := 382) rfl (by decide +kernel)
set_option maxRecDepth 100000 in
theorem zw_332 : Cond.methodLink "RatePlansLaw" (7 : Nat) ({ cls := "RatePlans", name := "count", desc := "(I)I" } : Jvm.MethodName) ∈ zG := zG_of (i := 386) rfl (by decide +kernel)
set_option maxRecDepth 100000 in
theorem zw_333 : Cond.instanceMethod ({ cls := "RatePlans", name := "count", desc := "(I)I" } : Jvm.MethodName) ∈ zG := zG_of (i := 387) rfl (by decide +kernel)
set_option maxRecDepth 100000 in
theorem zw_334 : Cond.selects "RatePlans" ({ cls := "RatePlans", name := "count", desc := "(I)I" } : Jvm.MethodName) ({ cls := "RatePlans", name := "count", desc := "(I)I" } : Jvm.MethodName) ∈ zG := zG_of (i := 388) rfl (by decide +kernel)
set_option maxRecDepth 100000 in
theorem zw_335 : Cond.code ({ cls := "RatePlans", name := "count", desc := "(I)I" } : Jvm.MethodName) prog_1_method_6_code (2 : Nat) (Option.some Jvm.ClassFile.FieldType.int) ∈ zG := zG_of (i := 389) rfl (by decide +kernel)
set_option maxRecDepth 100000 in
theorem zw_359 : Cond.instanceMethod ({ cls := "java/lang/Throwable", name := "<init>", desc := "()V" } : Jvm.MethodName) ∈ zG := zG_of (i := 413) rfl (by decide +kernel)
set_option maxRecDepth 100000 in
theorem zw_360 : Cond.code ({ cls := "java/lang/Throwable", name := "<init>", desc := "()V" } : Jvm.MethodName) prog_14_method_1_code (1 : Nat) (Option.none : Option Jvm.ClassFile.FieldType) ∈ zG := zG_of (i := 414) rfl (by decide +kernel)
set_option maxRecDepth 100000 in
theorem zw_361 : Cond.methodLink "java/lang/Throwable" (1 : Nat) ({ cls := "java/lang/Object", name := "<init>", desc := "()V" } : Jvm.MethodName) ∈ zG := zG_of (i := 415) rfl (by decide +kernel)
set_option maxRecDepth 100000 in
theorem zw_366 : Cond.methodLink "java/lang/Throwable" (27 : Nat) ({ cls := "java/lang/Throwable", name := "fillInStackTrace", desc := "()Ljava/lang/Throwable;" } : Jvm.MethodName) ∈ zG := zG_of (i := 420) rfl (by decide +kernel)
set_option maxRecDepth 100000 in
theorem zw_367 : Cond.instanceMethod ({ cls := "java/lang/Throwable", name := "fillInStackTrace", desc := "()Ljava/lang/Throwable;" } : Jvm.MethodName) ∈ zG := zG_of (i := 421) rfl (by decide +kernel)
set_option maxRecDepth 100000 in
theorem zw_372 : Cond.methodLink "java/lang/Throwable" (202 : Nat) ({ cls := "java/lang/Throwable", name := "fillInStackTrace", desc := "(I)Ljava/lang/Throwable;" } : Jvm.MethodName) ∈ zG := zG_of (i := 426) rfl (by decide +kernel)
set_option maxRecDepth 100000 in
theorem zw_374 : Cond.instanceMethod ({ cls := "java/lang/Throwable", name := "fillInStackTrace", desc := "(I)Ljava/lang/Throwable;" } : Jvm.MethodName) ∈ zG := zG_of (i := 428) rfl (by decide +kernel)
set_option maxRecDepth 100000 in
theorem zw_378 : Cond.methodLink "RatePlans" (75 : Nat) ({ cls := "java/lang/IllegalStateException", name := "<init>", desc := "(Ljava/lang/String;)V" } : Jvm.MethodName) ∈ zG := zG_of (i := 432) rfl (by decide +kernel)
set_option maxRecDepth 100000 in
theorem zw_379 : Cond.instanceMethod ({ cls := "java/lang/IllegalStateException", name := "<init>", desc := "(Ljava/lang/String;)V" } : Jvm.MethodName) ∈ zG := zG_of (i := 433) rfl (by decide +kernel)
set_option maxRecDepth 100000 in
theorem zw_380 : Cond.code ({ cls := "java/lang/IllegalStateException", name := "<init>", desc := "(Ljava/lang/String;)V" } : Jvm.MethodName) prog_10_method_2_code (2 : Nat) (Option.none : Option Jvm.ClassFile.FieldType) ∈ zG := zG_of (i := 434) rfl (by decide +kernel)
set_option maxRecDepth 100000 in
theorem zw_381 : Cond.methodLink "java/lang/IllegalStateException" (7 : Nat) ({ cls := "java/lang/RuntimeException", name := "<init>", desc := "(Ljava/lang/String;)V" } : Jvm.MethodName) ∈ zG := zG_of (i := 435) rfl (by decide +kernel)
set_option maxRecDepth 100000 in
theorem zw_382 : Cond.instanceMethod ({ cls := "java/lang/RuntimeException", name := "<init>", desc := "(Ljava/lang/String;)V" } : Jvm.MethodName) ∈ zG := zG_of (i := 436) rfl (by decide +kernel)
set_option maxRecDepth 100000 in
theorem zw_383 : Cond.code ({ cls := "java/lang/RuntimeException", name := "<init>", desc := "(Ljava/lang/String;)V" } : Jvm.MethodName) prog_12_method_2_code (2 : Nat) (Option.none : Option Jvm.ClassFile.FieldType) ∈ zG := zG_of (i := 437) rfl (by decide +kernel)
set_option maxRecDepth 100000 in
theorem zw_384 : Cond.methodLink "java/lang/RuntimeException" (7 : Nat) ({ cls := "java/lang/Exception", name := "<init>", desc := "(Ljava/lang/String;)V" } : Jvm.MethodName) ∈ zG := zG_of (i := 438) rfl (by decide +kernel)
set_option maxRecDepth 100000 in
theorem zw_385 : Cond.instanceMethod ({ cls := "java/lang/Exception", name := "<init>", desc := "(Ljava/lang/String;)V" } : Jvm.MethodName) ∈ zG := zG_of (i := 439) rfl (by decide +kernel)
set_option maxRecDepth 100000 in
theorem zw_386 : Cond.code ({ cls := "java/lang/Exception", name := "<init>", desc := "(Ljava/lang/String;)V" } : Jvm.MethodName) prog_9_method_2_code (2 : Nat) (Option.none : Option Jvm.ClassFile.FieldType) ∈ zG := zG_of (i := 440) rfl (by decide +kernel)
set_option maxRecDepth 100000 in
theorem zw_387 : Cond.methodLink "java/lang/Exception" (7 : Nat) ({ cls := "java/lang/Throwable", name := "<init>", desc := "(Ljava/lang/String;)V" } : Jvm.MethodName) ∈ zG := zG_of (i := 441) rfl (by decide +kernel)
set_option maxRecDepth 100000 in
theorem zw_388 : Cond.instanceMethod ({ cls := "java/lang/Throwable", name := "<init>", desc := "(Ljava/lang/String;)V" } : Jvm.MethodName) ∈ zG := zG_of (i := 442) rfl (by decide +kernel)
set_option maxRecDepth 100000 in
theorem zw_389 : Cond.code ({ cls := "java/lang/Throwable", name := "<init>", desc := "(Ljava/lang/String;)V" } : Jvm.MethodName) prog_14_method_2_code (2 : Nat) (Option.none : Option Jvm.ClassFile.FieldType) ∈ zG := zG_of (i := 443) rfl (by decide +kernel)
set_option maxRecDepth 100000 in
theorem zw_403 : Cond.arrayClass Jvm.ClassFile.FieldType.byte ∈ zG := zG_of (i := 457) rfl (by decide +kernel)
set_option maxRecDepth 100000 in
theorem zw_414 : Cond.methodLink "RatePlans" (85 : Nat) ({ cls := "java/lang/ArithmeticException", name := "<init>", desc := "(Ljava/lang/String;)V" } : Jvm.MethodName) ∈ zG := zG_of (i := 468) rfl (by decide +kernel)
set_option maxRecDepth 100000 in
theorem zw_415 : Cond.instanceMethod ({ cls := "java/lang/ArithmeticException", name := "<init>", desc := "(Ljava/lang/String;)V" } : Jvm.MethodName) ∈ zG := zG_of (i := 469) rfl (by decide +kernel)
set_option maxRecDepth 100000 in
theorem zw_416 : Cond.code ({ cls := "java/lang/ArithmeticException", name := "<init>", desc := "(Ljava/lang/String;)V" } : Jvm.MethodName) prog_8_method_2_code (2 : Nat) (Option.none : Option Jvm.ClassFile.FieldType) ∈ zG := zG_of (i := 470) rfl (by decide +kernel)
set_option maxRecDepth 100000 in
theorem zw_417 : Cond.methodLink "java/lang/ArithmeticException" (7 : Nat) ({ cls := "java/lang/RuntimeException", name := "<init>", desc := "(Ljava/lang/String;)V" } : Jvm.MethodName) ∈ zG := zG_of (i := 471) rfl (by decide +kernel)
set_option maxRecDepth 100000 in
theorem zw_420 : Cond.methodLink "RatePlansLaw" (59 : Nat) ({ cls := "RatePlansLaw", name := "order", desc := "(LRatePlans;I[J)I" } : Jvm.MethodName) ∈ zG := zG_of (i := 474) rfl (by decide +kernel)
set_option maxRecDepth 100000 in
theorem zw_421 : Cond.static ({ cls := "RatePlansLaw", name := "order", desc := "(LRatePlans;I[J)I" } : Jvm.MethodName) ∈ zG := zG_of (i := 475) rfl (by decide +kernel)
set_option maxRecDepth 100000 in
theorem zw_424 : Cond.methodLink "RatePlansLaw" (17 : Nat) ({ cls := "RatePlans", name := "order", desc := "(I)I" } : Jvm.MethodName) ∈ zG := zG_of (i := 478) rfl (by decide +kernel)
set_option maxRecDepth 100000 in
theorem zw_425 : Cond.instanceMethod ({ cls := "RatePlans", name := "order", desc := "(I)I" } : Jvm.MethodName) ∈ zG := zG_of (i := 479) rfl (by decide +kernel)
set_option maxRecDepth 100000 in
theorem zw_426 : Cond.selects "RatePlans" ({ cls := "RatePlans", name := "order", desc := "(I)I" } : Jvm.MethodName) ({ cls := "RatePlans", name := "order", desc := "(I)I" } : Jvm.MethodName) ∈ zG := zG_of (i := 480) rfl (by decide +kernel)
set_option maxRecDepth 100000 in
theorem zw_427 : Cond.code ({ cls := "RatePlans", name := "order", desc := "(I)I" } : Jvm.MethodName) prog_1_method_7_code (2 : Nat) (Option.some Jvm.ClassFile.FieldType.int) ∈ zG := zG_of (i := 481) rfl (by decide +kernel)
set_option maxRecDepth 100000 in
theorem zw_438 : Cond.methodLink "RatePlans" (99 : Nat) ({ cls := "java/util/NoSuchElementException", name := "<init>", desc := "(Ljava/lang/String;)V" } : Jvm.MethodName) ∈ zG := zG_of (i := 492) rfl (by decide +kernel)
set_option maxRecDepth 100000 in
theorem zw_439 : Cond.instanceMethod ({ cls := "java/util/NoSuchElementException", name := "<init>", desc := "(Ljava/lang/String;)V" } : Jvm.MethodName) ∈ zG := zG_of (i := 493) rfl (by decide +kernel)
set_option maxRecDepth 100000 in
theorem zw_440 : Cond.code ({ cls := "java/util/NoSuchElementException", name := "<init>", desc := "(Ljava/lang/String;)V" } : Jvm.MethodName) prog_15_method_4_code (2 : Nat) (Option.none : Option Jvm.ClassFile.FieldType) ∈ zG := zG_of (i := 494) rfl (by decide +kernel)
set_option maxRecDepth 100000 in
theorem zw_441 : Cond.methodLink "java/util/NoSuchElementException" (13 : Nat) ({ cls := "java/lang/RuntimeException", name := "<init>", desc := "(Ljava/lang/String;)V" } : Jvm.MethodName) ∈ zG := zG_of (i := 495) rfl (by decide +kernel)
set_option maxRecDepth 100000 in
theorem zw_444 : Cond.methodLink "RatePlansLaw" (70 : Nat) ({ cls := "RatePlansLaw", name := "pace", desc := "(LRatePlans;II[J)I" } : Jvm.MethodName) ∈ zG := zG_of (i := 498) rfl (by decide +kernel)
set_option maxRecDepth 100000 in
theorem zw_445 : Cond.static ({ cls := "RatePlansLaw", name := "pace", desc := "(LRatePlans;II[J)I" } : Jvm.MethodName) ∈ zG := zG_of (i := 499) rfl (by decide +kernel)
set_option maxRecDepth 100000 in
theorem zw_447 : Cond.methodLink "RatePlansLaw" (22 : Nat) ({ cls := "RatePlans", name := "pace", desc := "(II)I" } : Jvm.MethodName) ∈ zG := zG_of (i := 501) rfl (by decide +kernel)
set_option maxRecDepth 100000 in
theorem zw_448 : Cond.instanceMethod ({ cls := "RatePlans", name := "pace", desc := "(II)I" } : Jvm.MethodName) ∈ zG := zG_of (i := 502) rfl (by decide +kernel)
set_option maxRecDepth 100000 in
theorem zw_449 : Cond.selects "RatePlans" ({ cls := "RatePlans", name := "pace", desc := "(II)I" } : Jvm.MethodName) ({ cls := "RatePlans", name := "pace", desc := "(II)I" } : Jvm.MethodName) ∈ zG := zG_of (i := 503) rfl (by decide +kernel)
set_option maxRecDepth 100000 in
theorem zw_450 : Cond.code ({ cls := "RatePlans", name := "pace", desc := "(II)I" } : Jvm.MethodName) prog_1_method_10_code (3 : Nat) (Option.some Jvm.ClassFile.FieldType.int) ∈ zG := zG_of (i := 504) rfl (by decide +kernel)
set_option maxRecDepth 100000 in
theorem zw_452 : Cond.methodLinkNest "RatePlans" (114 : Nat) ({ cls := "RatePlans$Round", name := "isAlive", desc := "(LRatePlans$Net;)Z" } : Jvm.MethodName) "RatePlans" ∈ zNs := zN_of (i := 506) rfl (by decide +kernel)
set_option maxRecDepth 100000 in
theorem zw_454 : Cond.instanceMethod ({ cls := "RatePlans$Round", name := "isAlive", desc := "(LRatePlans$Net;)Z" } : Jvm.MethodName) ∈ zG := zG_of (i := 508) rfl (by decide +kernel)
set_option maxRecDepth 100000 in
theorem zw_455 : Cond.code ({ cls := "RatePlans$Round", name := "isAlive", desc := "(LRatePlans$Net;)Z" } : Jvm.MethodName) prog_5_method_7_code (3 : Nat) (Option.some Jvm.ClassFile.FieldType.boolean) ∈ zG := zG_of (i := 509) rfl (by decide +kernel)
set_option maxRecDepth 100000 in
theorem zw_456 : Cond.methodLinkNest "RatePlans" (118 : Nat) ({ cls := "RatePlans$Net", name := "isClosed", desc := "(I)Z" } : Jvm.MethodName) "RatePlans" ∈ zNs := zN_of (i := 510) rfl (by decide +kernel)
set_option maxRecDepth 100000 in
theorem zw_458 : Cond.instanceMethod ({ cls := "RatePlans$Net", name := "isClosed", desc := "(I)Z" } : Jvm.MethodName) ∈ zG := zG_of (i := 512) rfl (by decide +kernel)
set_option maxRecDepth 100000 in
theorem zw_459 : Cond.code ({ cls := "RatePlans$Net", name := "isClosed", desc := "(I)Z" } : Jvm.MethodName) prog_2_method_13_code (4 : Nat) (Option.some Jvm.ClassFile.FieldType.boolean) ∈ zG := zG_of (i := 513) rfl (by decide +kernel)
set_option maxRecDepth 100000 in
theorem zw_460 : Cond.methodLink "RatePlans$Net" (75 : Nat) ({ cls := "RatePlans$Net", name := "reached", desc := "(I[I[I)I" } : Jvm.MethodName) ∈ zG := zG_of (i := 514) rfl (by decide +kernel)
set_option maxRecDepth 100000 in
theorem zw_462 : Cond.instanceMethod ({ cls := "RatePlans$Net", name := "reached", desc := "(I[I[I)I" } : Jvm.MethodName) ∈ zG := zG_of (i := 516) rfl (by decide +kernel)
set_option maxRecDepth 100000 in
theorem zw_463 : Cond.code ({ cls := "RatePlans$Net", name := "reached", desc := "(I[I[I)I" } : Jvm.MethodName) prog_2_method_14_code (7 : Nat) (Option.some Jvm.ClassFile.FieldType.int) ∈ zG := zG_of (i := 517) rfl (by decide +kernel)
set_option maxRecDepth 100000 in
theorem zw_465 : Cond.methodLinkNest "RatePlans" (123 : Nat) ({ cls := "RatePlans$Net", name := "countsOfPart", desc := "(I)I" } : Jvm.MethodName) "RatePlans" ∈ zNs := zN_of (i := 519) rfl (by decide +kernel)
set_option maxRecDepth 100000 in
theorem zw_467 : Cond.instanceMethod ({ cls := "RatePlans$Net", name := "countsOfPart", desc := "(I)I" } : Jvm.MethodName) ∈ zG := zG_of (i := 521) rfl (by decide +kernel)
set_option maxRecDepth 100000 in
theorem zw_468 : Cond.code ({ cls := "RatePlans$Net", name := "countsOfPart", desc := "(I)I" } : Jvm.MethodName) prog_2_method_12_code (4 : Nat) (Option.some Jvm.ClassFile.FieldType.int) ∈ zG := zG_of (i := 522) rfl (by decide +kernel)
set_option maxRecDepth 100000 in
theorem zw_470 : Cond.methodLinkNest "RatePlans" (132 : Nat) ({ cls := "RatePlans$Pacer", name := "find", desc := "(LRatePlans$Net;I)V" } : Jvm.MethodName) "RatePlans" ∈ zNs := zN_of (i := 524) rfl (by decide +kernel)
set_option maxRecDepth 100000 in
theorem zw_472 : Cond.instanceMethod ({ cls := "RatePlans$Pacer", name := "find", desc := "(LRatePlans$Net;I)V" } : Jvm.MethodName) ∈ zG := zG_of (i := 526) rfl (by decide +kernel)
set_option maxRecDepth 100000 in
theorem zw_473 : Cond.code ({ cls := "RatePlans$Pacer", name := "find", desc := "(LRatePlans$Net;I)V" } : Jvm.MethodName) prog_3_method_2_code (5 : Nat) (Option.none : Option Jvm.ClassFile.FieldType) ∈ zG := zG_of (i := 527) rfl (by decide +kernel)
set_option maxRecDepth 100000 in
theorem zw_474 : Cond.methodLink "RatePlans$Pacer" (46 : Nat) ({ cls := "RatePlans$Pacer", name := "addFirings", desc := "(LRatePlans$Net;I)V" } : Jvm.MethodName) ∈ zG := zG_of (i := 528) rfl (by decide +kernel)
set_option maxRecDepth 100000 in
theorem zw_476 : Cond.instanceMethod ({ cls := "RatePlans$Pacer", name := "addFirings", desc := "(LRatePlans$Net;I)V" } : Jvm.MethodName) ∈ zG := zG_of (i := 530) rfl (by decide +kernel)
set_option maxRecDepth 100000 in
theorem zw_477 : Cond.code ({ cls := "RatePlans$Pacer", name := "addFirings", desc := "(LRatePlans$Net;I)V" } : Jvm.MethodName) prog_3_method_3_code (4 : Nat) (Option.none : Option Jvm.ClassFile.FieldType) ∈ zG := zG_of (i := 531) rfl (by decide +kernel)
set_option maxRecDepth 100000 in
theorem zw_478 : Cond.methodLink "RatePlans$Pacer" (84 : Nat) ({ cls := "RatePlans$Pacer", name := "addFiringsOf", desc := "(III)V" } : Jvm.MethodName) ∈ zG := zG_of (i := 532) rfl (by decide +kernel)
set_option maxRecDepth 100000 in
theorem zw_480 : Cond.instanceMethod ({ cls := "RatePlans$Pacer", name := "addFiringsOf", desc := "(III)V" } : Jvm.MethodName) ∈ zG := zG_of (i := 534) rfl (by decide +kernel)
set_option maxRecDepth 100000 in
theorem zw_481 : Cond.code ({ cls := "RatePlans$Pacer", name := "addFiringsOf", desc := "(III)V" } : Jvm.MethodName) prog_3_method_4_code (5 : Nat) (Option.none : Option Jvm.ClassFile.FieldType) ∈ zG := zG_of (i := 535) rfl (by decide +kernel)
set_option maxRecDepth 100000 in
theorem zw_482 : Cond.methodLink "RatePlans$Pacer" (88 : Nat) ({ cls := "RatePlans$Pacer", name := "addEdge", desc := "(III)V" } : Jvm.MethodName) ∈ zG := zG_of (i := 536) rfl (by decide +kernel)
set_option maxRecDepth 100000 in
theorem zw_484 : Cond.instanceMethod ({ cls := "RatePlans$Pacer", name := "addEdge", desc := "(III)V" } : Jvm.MethodName) ∈ zG := zG_of (i := 538) rfl (by decide +kernel)
set_option maxRecDepth 100000 in
theorem zw_485 : Cond.code ({ cls := "RatePlans$Pacer", name := "addEdge", desc := "(III)V" } : Jvm.MethodName) prog_3_method_7_code (4 : Nat) (Option.none : Option Jvm.ClassFile.FieldType) ∈ zG := zG_of (i := 539) rfl (by decide +kernel)
set_option maxRecDepth 100000 in
theorem zw_486 : Cond.methodLink "RatePlans$Pacer" (50 : Nat) ({ cls := "RatePlans$Pacer", name := "addWaits", desc := "(LRatePlans$Net;I)V" } : Jvm.MethodName) ∈ zG := zG_of (i := 540) rfl (by decide +kernel)
set_option maxRecDepth 100000 in
theorem zw_488 : Cond.instanceMethod ({ cls := "RatePlans$Pacer", name := "addWaits", desc := "(LRatePlans$Net;I)V" } : Jvm.MethodName) ∈ zG := zG_of (i := 542) rfl (by decide +kernel)
set_option maxRecDepth 100000 in
theorem zw_489 : Cond.code ({ cls := "RatePlans$Pacer", name := "addWaits", desc := "(LRatePlans$Net;I)V" } : Jvm.MethodName) prog_3_method_5_code (4 : Nat) (Option.none : Option Jvm.ClassFile.FieldType) ∈ zG := zG_of (i := 543) rfl (by decide +kernel)
set_option maxRecDepth 100000 in
theorem zw_490 : Cond.methodLink "RatePlans$Pacer" (97 : Nat) ({ cls := "RatePlans$Pacer", name := "addWaitsOf", desc := "(LRatePlans$Net;I)V" } : Jvm.MethodName) ∈ zG := zG_of (i := 544) rfl (by decide +kernel)
set_option maxRecDepth 100000 in
theorem zw_492 : Cond.instanceMethod ({ cls := "RatePlans$Pacer", name := "addWaitsOf", desc := "(LRatePlans$Net;I)V" } : Jvm.MethodName) ∈ zG := zG_of (i := 546) rfl (by decide +kernel)
set_option maxRecDepth 100000 in
theorem zw_493 : Cond.code ({ cls := "RatePlans$Pacer", name := "addWaitsOf", desc := "(LRatePlans$Net;I)V" } : Jvm.MethodName) prog_3_method_6_code (12 : Nat) (Option.none : Option Jvm.ClassFile.FieldType) ∈ zG := zG_of (i := 547) rfl (by decide +kernel)
set_option maxRecDepth 100000 in
theorem zw_494 : Cond.methodLink "RatePlans$Pacer" (112 : Nat) ({ cls := "java/lang/Math", name := "floorDiv", desc := "(II)I" } : Jvm.MethodName) ∈ zG := zG_of (i := 548) rfl (by decide +kernel)
set_option maxRecDepth 100000 in
theorem zw_495 : Cond.static ({ cls := "java/lang/Math", name := "floorDiv", desc := "(II)I" } : Jvm.MethodName) ∈ zG := zG_of (i := 549) rfl (by decide +kernel)
set_option maxRecDepth 100000 in
theorem zw_496 : Cond.code ({ cls := "java/lang/Math", name := "floorDiv", desc := "(II)I" } : Jvm.MethodName) prog_11_method_47_code (3 : Nat) (Option.some Jvm.ClassFile.FieldType.int) ∈ zG := zG_of (i := 550) rfl (by decide +kernel)
set_option maxRecDepth 100000 in
theorem zw_497 : Cond.methodLink "RatePlans$Pacer" (118 : Nat) ({ cls := "java/lang/Math", name := "floorMod", desc := "(II)I" } : Jvm.MethodName) ∈ zG := zG_of (i := 551) rfl (by decide +kernel)
set_option maxRecDepth 100000 in
theorem zw_498 : Cond.static ({ cls := "java/lang/Math", name := "floorMod", desc := "(II)I" } : Jvm.MethodName) ∈ zG := zG_of (i := 552) rfl (by decide +kernel)
set_option maxRecDepth 100000 in
theorem zw_499 : Cond.code ({ cls := "java/lang/Math", name := "floorMod", desc := "(II)I" } : Jvm.MethodName) prog_11_method_50_code (3 : Nat) (Option.some Jvm.ClassFile.FieldType.int) ∈ zG := zG_of (i := 553) rfl (by decide +kernel)
set_option maxRecDepth 100000 in
theorem zw_500 : Cond.methodLink "RatePlans$Pacer" (53 : Nat) ({ cls := "RatePlans$Pacer", name := "beginWithSlowestActor", desc := "(LRatePlans$Net;I)V" } : Jvm.MethodName) ∈ zG := zG_of (i := 554) rfl (by decide +kernel)
set_option maxRecDepth 100000 in
theorem zw_502 : Cond.instanceMethod ({ cls := "RatePlans$Pacer", name := "beginWithSlowestActor", desc := "(LRatePlans$Net;I)V" } : Jvm.MethodName) ∈ zG := zG_of (i := 556) rfl (by decide +kernel)
set_option maxRecDepth 100000 in
theorem zw_503 : Cond.code ({ cls := "RatePlans$Pacer", name := "beginWithSlowestActor", desc := "(LRatePlans$Net;I)V" } : Jvm.MethodName) prog_3_method_8_code (4 : Nat) (Option.none : Option Jvm.ClassFile.FieldType) ∈ zG := zG_of (i := 557) rfl (by decide +kernel)
set_option maxRecDepth 100000 in
theorem zw_504 : Cond.methodLink "RatePlans$Pacer" (121 : Nat) ({ cls := "java/lang/Math", name := "max", desc := "(II)I" } : Jvm.MethodName) ∈ zG := zG_of (i := 558) rfl (by decide +kernel)
set_option maxRecDepth 100000 in
theorem zw_505 : Cond.methodLink "RatePlans$Pacer" (56 : Nat) ({ cls := "RatePlans$Pacer", name := "nodeOnSlowerLoop", desc := "()I" } : Jvm.MethodName) ∈ zG := zG_of (i := 559) rfl (by decide +kernel)
set_option maxRecDepth 100000 in
theorem zw_507 : Cond.instanceMethod ({ cls := "RatePlans$Pacer", name := "nodeOnSlowerLoop", desc := "()I" } : Jvm.MethodName) ∈ zG := zG_of (i := 561) rfl (by decide +kernel)
set_option maxRecDepth 100000 in
theorem zw_508 : Cond.code ({ cls := "RatePlans$Pacer", name := "nodeOnSlowerLoop", desc := "()I" } : Jvm.MethodName) prog_3_method_9_code (3 : Nat) (Option.some Jvm.ClassFile.FieldType.int) ∈ zG := zG_of (i := 562) rfl (by decide +kernel)
set_option maxRecDepth 100000 in
theorem zw_509 : Cond.methodLink "RatePlans$Pacer" (124 : Nat) ({ cls := "RatePlans$Pacer", name := "raiseAll", desc := "()Z" } : Jvm.MethodName) ∈ zG := zG_of (i := 563) rfl (by decide +kernel)
set_option maxRecDepth 100000 in
theorem zw_511 : Cond.instanceMethod ({ cls := "RatePlans$Pacer", name := "raiseAll", desc := "()Z" } : Jvm.MethodName) ∈ zG := zG_of (i := 565) rfl (by decide +kernel)
set_option maxRecDepth 100000 in
theorem zw_512 : Cond.code ({ cls := "RatePlans$Pacer", name := "raiseAll", desc := "()Z" } : Jvm.MethodName) prog_3_method_10_code (6 : Nat) (Option.some Jvm.ClassFile.FieldType.boolean) ∈ zG := zG_of (i := 566) rfl (by decide +kernel)
set_option maxRecDepth 100000 in
theorem zw_513 : Cond.methodLink "RatePlans$Pacer" (128 : Nat) ({ cls := "RatePlans$Pacer", name := "nodeOnLoopOfRaises", desc := "()I" } : Jvm.MethodName) ∈ zG := zG_of (i := 567) rfl (by decide +kernel)
set_option maxRecDepth 100000 in
theorem zw_515 : Cond.instanceMethod ({ cls := "RatePlans$Pacer", name := "nodeOnLoopOfRaises", desc := "()I" } : Jvm.MethodName) ∈ zG := zG_of (i := 569) rfl (by decide +kernel)
set_option maxRecDepth 100000 in
theorem zw_516 : Cond.code ({ cls := "RatePlans$Pacer", name := "nodeOnLoopOfRaises", desc := "()I" } : Jvm.MethodName) prog_3_method_11_code (4 : Nat) (Option.some Jvm.ClassFile.FieldType.int) ∈ zG := zG_of (i := 570) rfl (by decide +kernel)
set_option maxRecDepth 100000 in
theorem zw_517 : Cond.methodLink "RatePlans$Pacer" (131 : Nat) ({ cls := "RatePlans$Pacer", name := "nodeAhead", desc := "(I)I" } : Jvm.MethodName) ∈ zG := zG_of (i := 571) rfl (by decide +kernel)
set_option maxRecDepth 100000 in
theorem zw_519 : Cond.instanceMethod ({ cls := "RatePlans$Pacer", name := "nodeAhead", desc := "(I)I" } : Jvm.MethodName) ∈ zG := zG_of (i := 573) rfl (by decide +kernel)
set_option maxRecDepth 100000 in
theorem zw_520 : Cond.code ({ cls := "RatePlans$Pacer", name := "nodeAhead", desc := "(I)I" } : Jvm.MethodName) prog_3_method_12_code (3 : Nat) (Option.some Jvm.ClassFile.FieldType.int) ∈ zG := zG_of (i := 574) rfl (by decide +kernel)
set_option maxRecDepth 100000 in
theorem zw_521 : Cond.methodLink "RatePlans$Pacer" (60 : Nat) ({ cls := "RatePlans$Pacer", name := "takeRatioOf", desc := "(I)V" } : Jvm.MethodName) ∈ zG := zG_of (i := 575) rfl (by decide +kernel)
set_option maxRecDepth 100000 in
theorem zw_523 : Cond.instanceMethod ({ cls := "RatePlans$Pacer", name := "takeRatioOf", desc := "(I)V" } : Jvm.MethodName) ∈ zG := zG_of (i := 577) rfl (by decide +kernel)
set_option maxRecDepth 100000 in
theorem zw_524 : Cond.code ({ cls := "RatePlans$Pacer", name := "takeRatioOf", desc := "(I)V" } : Jvm.MethodName) prog_3_method_13_code (6 : Nat) (Option.none : Option Jvm.ClassFile.FieldType) ∈ zG := zG_of (i := 578) rfl (by decide +kernel)
set_option maxRecDepth 100000 in
theorem zw_525 : Cond.methodLinkNest "RatePlans$Pacer" (135 : Nat) ({ cls := "RatePlans", name := "commonDivisor", desc := "(II)I" } : Jvm.MethodName) "RatePlans" ∈ zNs := zN_of (i := 579) rfl (by decide +kernel)
set_option maxRecDepth 100000 in
theorem zw_526 : Cond.methodLinkNest "RatePlans$Pacer" (138 : Nat) ({ cls := "RatePlans", name := "divided", desc := "(II)I" } : Jvm.MethodName) "RatePlans" ∈ zNs := zN_of (i := 580) rfl (by decide +kernel)
set_option maxRecDepth 100000 in
theorem zw_527 : Cond.classLink "RatePlansLaw" (27 : Nat) "RatePlansModel" ∈ zG := zG_of (i := 581) rfl (by decide +kernel)
set_option maxRecDepth 100000 in
theorem zw_528 : Cond.instantiable "RatePlansModel" (34 : Nat) ∈ zG := zG_of (i := 582) rfl (by decide +kernel)
set_option maxRecDepth 100000 in
theorem zw_529 : Cond.methodLink "RatePlansLaw" (29 : Nat) ({ cls := "RatePlansModel", name := "<init>", desc := "()V" } : Jvm.MethodName) ∈ zG := zG_of (i := 583) rfl (by decide +kernel)
set_option maxRecDepth 100000 in
theorem zw_530 : Cond.instanceMethod ({ cls := "RatePlansModel", name := "<init>", desc := "()V" } : Jvm.MethodName) ∈ zG := zG_of (i := 584) rfl (by decide +kernel)
set_option maxRecDepth 100000 in
theorem zw_531 : Cond.code ({ cls := "RatePlansModel", name := "<init>", desc := "()V" } : Jvm.MethodName) prog_7_method_1_code (1 : Nat) (Option.none : Option Jvm.ClassFile.FieldType) ∈ zG := zG_of (i := 585) rfl (by decide +kernel)
set_option maxRecDepth 100000 in
theorem zw_532 : Cond.methodLink "RatePlansModel" (1 : Nat) ({ cls := "java/lang/Object", name := "<init>", desc := "()V" } : Jvm.MethodName) ∈ zG := zG_of (i := 586) rfl (by decide +kernel)
set_option maxRecDepth 100000 in
theorem zw_533 : Cond.fieldLink "RatePlansModel" (82 : Nat) "RatePlansModel" "thrown" "I" ∈ zG := zG_of (i := 587) rfl (by decide +kernel)
set_option maxRecDepth 100000 in
theorem zw_534 : Cond.fieldLink "RatePlansModel" (7 : Nat) "RatePlansModel" "actors" "I" ∈ zG := zG_of (i := 588) rfl (by decide +kernel)
set_option maxRecDepth 100000 in
theorem zw_535 : Cond.fieldLink "RatePlansModel" (89 : Nat) "RatePlansModel" "channels" "I" ∈ zG := zG_of (i := 589) rfl (by decide +kernel)
set_option maxRecDepth 100000 in
theorem zw_536 : Cond.fieldLink "RatePlansModel" (13 : Nat) "RatePlansModel" "time" "[I" ∈ zG := zG_of (i := 590) rfl (by decide +kernel)
set_option maxRecDepth 100000 in
theorem zw_537 : Cond.fieldLink "RatePlansModel" (17 : Nat) "RatePlansModel" "from" "[I" ∈ zG := zG_of (i := 591) rfl (by decide +kernel)
set_option maxRecDepth 100000 in
theorem zw_538 : Cond.fieldLink "RatePlansModel" (20 : Nat) "RatePlansModel" "to" "[I" ∈ zG := zG_of (i := 592) rfl (by decide +kernel)
set_option maxRecDepth 100000 in
theorem zw_539 : Cond.fieldLink "RatePlansModel" (23 : Nat) "RatePlansModel" "puts" "[I" ∈ zG := zG_of (i := 593) rfl (by decide +kernel)
set_option maxRecDepth 100000 in
theorem zw_540 : Cond.fieldLink "RatePlansModel" (26 : Nat) "RatePlansModel" "takes" "[I" ∈ zG := zG_of (i := 594) rfl (by decide +kernel)
set_option maxRecDepth 100000 in
theorem zw_541 : Cond.fieldLink "RatePlansModel" (29 : Nat) "RatePlansModel" "tokens" "[I" ∈ zG := zG_of (i := 595) rfl (by decide +kernel)
set_option maxRecDepth 100000 in
theorem zw_542 : Cond.fieldLink "RatePlansModel" (92 : Nat) "RatePlansModel" "isKnown" "Z" ∈ zG := zG_of (i := 596) rfl (by decide +kernel)
set_option maxRecDepth 100000 in
theorem zw_543 : Cond.fieldLink "RatePlansModel" (126 : Nat) "RatePlansModel" "uneven" "I" ∈ zG := zG_of (i := 597) rfl (by decide +kernel)
set_option maxRecDepth 100000 in
theorem zw_544 : Cond.fieldLink "RatePlansModel" (108 : Nat) "RatePlansModel" "isGreat" "Z" ∈ zG := zG_of (i := 598) rfl (by decide +kernel)
set_option maxRecDepth 100000 in
theorem zw_545 : Cond.fieldLink "RatePlansModel" (111 : Nat) "RatePlansModel" "parts" "I" ∈ zG := zG_of (i := 599) rfl (by decide +kernel)
set_option maxRecDepth 100000 in
theorem zw_546 : Cond.fieldLink "RatePlansModel" (32 : Nat) "RatePlansModel" "part" "[I" ∈ zG := zG_of (i := 600) rfl (by decide +kernel)
set_option maxRecDepth 100000 in
theorem zw_547 : Cond.fieldLink "RatePlansModel" (35 : Nat) "RatePlansModel" "over" "[J" ∈ zG := zG_of (i := 601) rfl (by decide +kernel)
set_option maxRecDepth 100000 in
theorem zw_548 : Cond.fieldLink "RatePlansModel" (39 : Nat) "RatePlansModel" "under" "[J" ∈ zG := zG_of (i := 602) rfl (by decide +kernel)
set_option maxRecDepth 100000 in
theorem zw_549 : Cond.fieldLink "RatePlansModel" (42 : Nat) "RatePlansModel" "count" "[I" ∈ zG := zG_of (i := 603) rfl (by decide +kernel)
set_option maxRecDepth 100000 in
theorem zw_550 : Cond.fieldLink "RatePlansModel" (45 : Nat) "RatePlansModel" "left" "[I" ∈ zG := zG_of (i := 604) rfl (by decide +kernel)
set_option maxRecDepth 100000 in
theorem zw_551 : Cond.fieldLink "RatePlansModel" (48 : Nat) "RatePlansModel" "lies" "[I" ∈ zG := zG_of (i := 605) rfl (by decide +kernel)
set_option maxRecDepth 100000 in
theorem zw_552 : Cond.fieldLink "RatePlansModel" (51 : Nat) "RatePlansModel" "peak" "[I" ∈ zG := zG_of (i := 606) rfl (by decide +kernel)
set_option maxRecDepth 100000 in
theorem zw_553 : Cond.fieldLink "RatePlansModel" (120 : Nat) "RatePlansModel" "dones" "I" ∈ zG := zG_of (i := 607) rfl (by decide +kernel)
set_option maxRecDepth 100000 in
theorem zw_554 : Cond.fieldLink "RatePlansModel" (54 : Nat) "RatePlansModel" "done" "[I" ∈ zG := zG_of (i := 608) rfl (by decide +kernel)
set_option maxRecDepth 100000 in
theorem zw_555 : Cond.fieldLink "RatePlansModel" (57 : Nat) "RatePlansModel" "isThere" "[Z" ∈ zG := zG_of (i := 609) rfl (by decide +kernel)
set_option maxRecDepth 100000 in
theorem zw_556 : Cond.fieldLink "RatePlansModel" (151 : Nat) "RatePlansModel" "nodes" "I" ∈ zG := zG_of (i := 610) rfl (by decide +kernel)
set_option maxRecDepth 100000 in
theorem zw_557 : Cond.fieldLink "RatePlansModel" (61 : Nat) "RatePlansModel" "firstNode" "[I" ∈ zG := zG_of (i := 611) rfl (by decide +kernel)
set_option maxRecDepth 100000 in
theorem zw_558 : Cond.fieldLink "RatePlansModel" (148 : Nat) "RatePlansModel" "edges" "I" ∈ zG := zG_of (i := 612) rfl (by decide +kernel)
set_option maxRecDepth 100000 in
theorem zw_559 : Cond.fieldLink "RatePlansModel" (64 : Nat) "RatePlansModel" "edgeFrom" "[I" ∈ zG := zG_of (i := 613) rfl (by decide +kernel)
set_option maxRecDepth 100000 in
theorem zw_560 : Cond.fieldLink "RatePlansModel" (67 : Nat) "RatePlansModel" "edgeTo" "[I" ∈ zG := zG_of (i := 614) rfl (by decide +kernel)
set_option maxRecDepth 100000 in
theorem zw_561 : Cond.fieldLink "RatePlansModel" (70 : Nat) "RatePlansModel" "edgeTime" "[I" ∈ zG := zG_of (i := 615) rfl (by decide +kernel)
set_option maxRecDepth 100000 in
theorem zw_562 : Cond.fieldLink "RatePlansModel" (73 : Nat) "RatePlansModel" "edgeRounds" "[I" ∈ zG := zG_of (i := 616) rfl (by decide +kernel)
set_option maxRecDepth 100000 in
theorem zw_563 : Cond.fieldLink "RatePlansModel" (76 : Nat) "RatePlansModel" "far" "[J" ∈ zG := zG_of (i := 617) rfl (by decide +kernel)
set_option maxRecDepth 100000 in
theorem zw_564 : Cond.fieldLink "RatePlansModel" (175 : Nat) "RatePlansModel" "paceOver" "I" ∈ zG := zG_of (i := 618) rfl (by decide +kernel)
set_option maxRecDepth 100000 in
theorem zw_565 : Cond.fieldLink "RatePlansModel" (172 : Nat) "RatePlansModel" "paceUnder" "I" ∈ zG := zG_of (i := 619) rfl (by decide +kernel)
set_option maxRecDepth 100000 in
theorem zw_566 : Cond.fieldLink "RatePlansModel" (79 : Nat) "RatePlansModel" "rooms" "[I" ∈ zG := zG_of (i := 620) rfl (by decide +kernel)
set_option maxRecDepth 100000 in
theorem zw_567 : Cond.lays "RatePlansModel" "RatePlansModel" "thrown" "I" ∈ zG := zG_of (i := 621) rfl (by decide +kernel)
set_option maxRecDepth 100000 in
theorem zw_568 : Cond.soleField "RatePlansModel" "thrown" ∈ zG := zG_of (i := 622) rfl (by decide +kernel)
set_option maxRecDepth 100000 in
theorem zw_569 : Cond.lays "RatePlansModel" "RatePlansModel" "actors" "I" ∈ zG := zG_of (i := 623) rfl (by decide +kernel)
set_option maxRecDepth 100000 in
theorem zw_570 : Cond.soleField "RatePlansModel" "actors" ∈ zG := zG_of (i := 624) rfl (by decide +kernel)
set_option maxRecDepth 100000 in
theorem zw_571 : Cond.lays "RatePlansModel" "RatePlansModel" "channels" "I" ∈ zG := zG_of (i := 625) rfl (by decide +kernel)
set_option maxRecDepth 100000 in
theorem zw_572 : Cond.soleField "RatePlansModel" "channels" ∈ zG := zG_of (i := 626) rfl (by decide +kernel)
set_option maxRecDepth 100000 in
theorem zw_573 : Cond.laysFinal "RatePlansModel" "RatePlansModel" "time" "[I" ∈ zG := zG_of (i := 627) rfl (by decide +kernel)
set_option maxRecDepth 100000 in
theorem zw_574 : Cond.soleField "RatePlansModel" "time" ∈ zG := zG_of (i := 628) rfl (by decide +kernel)
set_option maxRecDepth 100000 in
theorem zw_575 : Cond.laysFinal "RatePlansModel" "RatePlansModel" "from" "[I" ∈ zG := zG_of (i := 629) rfl (by decide +kernel)
set_option maxRecDepth 100000 in
theorem zw_576 : Cond.soleField "RatePlansModel" "from" ∈ zG := zG_of (i := 630) rfl (by decide +kernel)
set_option maxRecDepth 100000 in
theorem zw_577 : Cond.laysFinal "RatePlansModel" "RatePlansModel" "to" "[I" ∈ zG := zG_of (i := 631) rfl (by decide +kernel)
set_option maxRecDepth 100000 in
theorem zw_578 : Cond.soleField "RatePlansModel" "to" ∈ zG := zG_of (i := 632) rfl (by decide +kernel)
set_option maxRecDepth 100000 in
theorem zw_579 : Cond.laysFinal "RatePlansModel" "RatePlansModel" "puts" "[I" ∈ zG := zG_of (i := 633) rfl (by decide +kernel)
set_option maxRecDepth 100000 in
theorem zw_580 : Cond.soleField "RatePlansModel" "puts" ∈ zG := zG_of (i := 634) rfl (by decide +kernel)
set_option maxRecDepth 100000 in
theorem zw_581 : Cond.laysFinal "RatePlansModel" "RatePlansModel" "takes" "[I" ∈ zG := zG_of (i := 635) rfl (by decide +kernel)
set_option maxRecDepth 100000 in
theorem zw_582 : Cond.soleField "RatePlansModel" "takes" ∈ zG := zG_of (i := 636) rfl (by decide +kernel)
set_option maxRecDepth 100000 in
theorem zw_583 : Cond.laysFinal "RatePlansModel" "RatePlansModel" "tokens" "[I" ∈ zG := zG_of (i := 637) rfl (by decide +kernel)
set_option maxRecDepth 100000 in
theorem zw_584 : Cond.soleField "RatePlansModel" "tokens" ∈ zG := zG_of (i := 638) rfl (by decide +kernel)
set_option maxRecDepth 100000 in
theorem zw_585 : Cond.lays "RatePlansModel" "RatePlansModel" "isKnown" "Z" ∈ zG := zG_of (i := 639) rfl (by decide +kernel)
set_option maxRecDepth 100000 in
theorem zw_586 : Cond.soleField "RatePlansModel" "isKnown" ∈ zG := zG_of (i := 640) rfl (by decide +kernel)
set_option maxRecDepth 100000 in
theorem zw_587 : Cond.lays "RatePlansModel" "RatePlansModel" "uneven" "I" ∈ zG := zG_of (i := 641) rfl (by decide +kernel)
set_option maxRecDepth 100000 in
theorem zw_588 : Cond.soleField "RatePlansModel" "uneven" ∈ zG := zG_of (i := 642) rfl (by decide +kernel)
set_option maxRecDepth 100000 in
theorem zw_589 : Cond.lays "RatePlansModel" "RatePlansModel" "isGreat" "Z" ∈ zG := zG_of (i := 643) rfl (by decide +kernel)
set_option maxRecDepth 100000 in
theorem zw_590 : Cond.soleField "RatePlansModel" "isGreat" ∈ zG := zG_of (i := 644) rfl (by decide +kernel)
set_option maxRecDepth 100000 in
theorem zw_591 : Cond.lays "RatePlansModel" "RatePlansModel" "parts" "I" ∈ zG := zG_of (i := 645) rfl (by decide +kernel)
set_option maxRecDepth 100000 in
theorem zw_592 : Cond.soleField "RatePlansModel" "parts" ∈ zG := zG_of (i := 646) rfl (by decide +kernel)
set_option maxRecDepth 100000 in
theorem zw_593 : Cond.laysFinal "RatePlansModel" "RatePlansModel" "part" "[I" ∈ zG := zG_of (i := 647) rfl (by decide +kernel)
set_option maxRecDepth 100000 in
theorem zw_594 : Cond.soleField "RatePlansModel" "part" ∈ zG := zG_of (i := 648) rfl (by decide +kernel)
set_option maxRecDepth 100000 in
theorem zw_595 : Cond.laysFinal "RatePlansModel" "RatePlansModel" "over" "[J" ∈ zG := zG_of (i := 649) rfl (by decide +kernel)
set_option maxRecDepth 100000 in
theorem zw_596 : Cond.soleField "RatePlansModel" "over" ∈ zG := zG_of (i := 650) rfl (by decide +kernel)
set_option maxRecDepth 100000 in
theorem zw_597 : Cond.laysFinal "RatePlansModel" "RatePlansModel" "under" "[J" ∈ zG := zG_of (i := 651) rfl (by decide +kernel)
set_option maxRecDepth 100000 in
theorem zw_598 : Cond.soleField "RatePlansModel" "under" ∈ zG := zG_of (i := 652) rfl (by decide +kernel)
set_option maxRecDepth 100000 in
theorem zw_599 : Cond.laysFinal "RatePlansModel" "RatePlansModel" "count" "[I" ∈ zG := zG_of (i := 653) rfl (by decide +kernel)
set_option maxRecDepth 100000 in
theorem zw_600 : Cond.soleField "RatePlansModel" "count" ∈ zG := zG_of (i := 654) rfl (by decide +kernel)
set_option maxRecDepth 100000 in
theorem zw_601 : Cond.laysFinal "RatePlansModel" "RatePlansModel" "left" "[I" ∈ zG := zG_of (i := 655) rfl (by decide +kernel)
set_option maxRecDepth 100000 in
theorem zw_602 : Cond.soleField "RatePlansModel" "left" ∈ zG := zG_of (i := 656) rfl (by decide +kernel)
set_option maxRecDepth 100000 in
theorem zw_603 : Cond.laysFinal "RatePlansModel" "RatePlansModel" "lies" "[I" ∈ zG := zG_of (i := 657) rfl (by decide +kernel)
set_option maxRecDepth 100000 in
theorem zw_604 : Cond.soleField "RatePlansModel" "lies" ∈ zG := zG_of (i := 658) rfl (by decide +kernel)
set_option maxRecDepth 100000 in
theorem zw_605 : Cond.laysFinal "RatePlansModel" "RatePlansModel" "peak" "[I" ∈ zG := zG_of (i := 659) rfl (by decide +kernel)
set_option maxRecDepth 100000 in
theorem zw_606 : Cond.soleField "RatePlansModel" "peak" ∈ zG := zG_of (i := 660) rfl (by decide +kernel)
set_option maxRecDepth 100000 in
theorem zw_607 : Cond.lays "RatePlansModel" "RatePlansModel" "dones" "I" ∈ zG := zG_of (i := 661) rfl (by decide +kernel)
set_option maxRecDepth 100000 in
theorem zw_608 : Cond.soleField "RatePlansModel" "dones" ∈ zG := zG_of (i := 662) rfl (by decide +kernel)
set_option maxRecDepth 100000 in
theorem zw_609 : Cond.laysFinal "RatePlansModel" "RatePlansModel" "done" "[I" ∈ zG := zG_of (i := 663) rfl (by decide +kernel)
set_option maxRecDepth 100000 in
theorem zw_610 : Cond.soleField "RatePlansModel" "done" ∈ zG := zG_of (i := 664) rfl (by decide +kernel)
set_option maxRecDepth 100000 in
theorem zw_611 : Cond.laysFinal "RatePlansModel" "RatePlansModel" "isThere" "[Z" ∈ zG := zG_of (i := 665) rfl (by decide +kernel)
set_option maxRecDepth 100000 in
theorem zw_612 : Cond.soleField "RatePlansModel" "isThere" ∈ zG := zG_of (i := 666) rfl (by decide +kernel)
set_option maxRecDepth 100000 in
theorem zw_613 : Cond.lays "RatePlansModel" "RatePlansModel" "nodes" "I" ∈ zG := zG_of (i := 667) rfl (by decide +kernel)
set_option maxRecDepth 100000 in
theorem zw_614 : Cond.soleField "RatePlansModel" "nodes" ∈ zG := zG_of (i := 668) rfl (by decide +kernel)
set_option maxRecDepth 100000 in
theorem zw_615 : Cond.laysFinal "RatePlansModel" "RatePlansModel" "firstNode" "[I" ∈ zG := zG_of (i := 669) rfl (by decide +kernel)
set_option maxRecDepth 100000 in
theorem zw_616 : Cond.soleField "RatePlansModel" "firstNode" ∈ zG := zG_of (i := 670) rfl (by decide +kernel)
set_option maxRecDepth 100000 in
theorem zw_617 : Cond.lays "RatePlansModel" "RatePlansModel" "edges" "I" ∈ zG := zG_of (i := 671) rfl (by decide +kernel)
set_option maxRecDepth 100000 in
theorem zw_618 : Cond.soleField "RatePlansModel" "edges" ∈ zG := zG_of (i := 672) rfl (by decide +kernel)
set_option maxRecDepth 100000 in
theorem zw_619 : Cond.laysFinal "RatePlansModel" "RatePlansModel" "edgeFrom" "[I" ∈ zG := zG_of (i := 673) rfl (by decide +kernel)
set_option maxRecDepth 100000 in
theorem zw_620 : Cond.soleField "RatePlansModel" "edgeFrom" ∈ zG := zG_of (i := 674) rfl (by decide +kernel)
set_option maxRecDepth 100000 in
theorem zw_621 : Cond.laysFinal "RatePlansModel" "RatePlansModel" "edgeTo" "[I" ∈ zG := zG_of (i := 675) rfl (by decide +kernel)
set_option maxRecDepth 100000 in
theorem zw_622 : Cond.soleField "RatePlansModel" "edgeTo" ∈ zG := zG_of (i := 676) rfl (by decide +kernel)
set_option maxRecDepth 100000 in
theorem zw_623 : Cond.laysFinal "RatePlansModel" "RatePlansModel" "edgeTime" "[I" ∈ zG := zG_of (i := 677) rfl (by decide +kernel)
set_option maxRecDepth 100000 in
theorem zw_624 : Cond.soleField "RatePlansModel" "edgeTime" ∈ zG := zG_of (i := 678) rfl (by decide +kernel)
set_option maxRecDepth 100000 in
theorem zw_625 : Cond.laysFinal "RatePlansModel" "RatePlansModel" "edgeRounds" "[I" ∈ zG := zG_of (i := 679) rfl (by decide +kernel)
set_option maxRecDepth 100000 in
theorem zw_626 : Cond.soleField "RatePlansModel" "edgeRounds" ∈ zG := zG_of (i := 680) rfl (by decide +kernel)
set_option maxRecDepth 100000 in
theorem zw_627 : Cond.laysFinal "RatePlansModel" "RatePlansModel" "far" "[J" ∈ zG := zG_of (i := 681) rfl (by decide +kernel)
set_option maxRecDepth 100000 in
theorem zw_628 : Cond.soleField "RatePlansModel" "far" ∈ zG := zG_of (i := 682) rfl (by decide +kernel)
set_option maxRecDepth 100000 in
theorem zw_629 : Cond.lays "RatePlansModel" "RatePlansModel" "paceOver" "I" ∈ zG := zG_of (i := 683) rfl (by decide +kernel)
set_option maxRecDepth 100000 in
theorem zw_630 : Cond.soleField "RatePlansModel" "paceOver" ∈ zG := zG_of (i := 684) rfl (by decide +kernel)
set_option maxRecDepth 100000 in
theorem zw_631 : Cond.lays "RatePlansModel" "RatePlansModel" "paceUnder" "I" ∈ zG := zG_of (i := 685) rfl (by decide +kernel)
set_option maxRecDepth 100000 in
theorem zw_632 : Cond.soleField "RatePlansModel" "paceUnder" ∈ zG := zG_of (i := 686) rfl (by decide +kernel)
set_option maxRecDepth 100000 in
theorem zw_633 : Cond.laysFinal "RatePlansModel" "RatePlansModel" "rooms" "[I" ∈ zG := zG_of (i := 687) rfl (by decide +kernel)
set_option maxRecDepth 100000 in
theorem zw_634 : Cond.soleField "RatePlansModel" "rooms" ∈ zG := zG_of (i := 688) rfl (by decide +kernel)
set_option maxRecDepth 100000 in
theorem zw_636 : Cond.arrayClass Jvm.ClassFile.FieldType.long ∈ zG := zG_of (i := 690) rfl (by decide +kernel)
set_option maxRecDepth 100000 in
theorem zw_637 : Cond.arrayClass Jvm.ClassFile.FieldType.boolean ∈ zG := zG_of (i := 691) rfl (by decide +kernel)
set_option maxRecDepth 100000 in
theorem zw_638 : Cond.methodLink "RatePlansLaw" (56 : Nat) ({ cls := "RatePlansModel", name := "thrown", desc := "()I" } : Jvm.MethodName) ∈ zG := zG_of (i := 692) rfl (by decide +kernel)
set_option maxRecDepth 100000 in
theorem zw_639 : Cond.instanceMethod ({ cls := "RatePlansModel", name := "thrown", desc := "()I" } : Jvm.MethodName) ∈ zG := zG_of (i := 693) rfl (by decide +kernel)
set_option maxRecDepth 100000 in
theorem zw_640 : Cond.selects "RatePlansModel" ({ cls := "RatePlansModel", name := "thrown", desc := "()I" } : Jvm.MethodName) ({ cls := "RatePlansModel", name := "thrown", desc := "()I" } : Jvm.MethodName) ∈ zG := zG_of (i := 694) rfl (by decide +kernel)
set_option maxRecDepth 100000 in
theorem zw_641 : Cond.code ({ cls := "RatePlansModel", name := "thrown", desc := "()I" } : Jvm.MethodName) prog_7_method_2_code (1 : Nat) (Option.some Jvm.ClassFile.FieldType.int) ∈ zG := zG_of (i := 695) rfl (by decide +kernel)
set_option maxRecDepth 100000 in
theorem zw_642 : Cond.methodLink "RatePlansLaw" (34 : Nat) ({ cls := "RatePlansModel", name := "graph", desc := "(I)Z" } : Jvm.MethodName) ∈ zG := zG_of (i := 696) rfl (by decide +kernel)
set_option maxRecDepth 100000 in
theorem zw_643 : Cond.instanceMethod ({ cls := "RatePlansModel", name := "graph", desc := "(I)Z" } : Jvm.MethodName) ∈ zG := zG_of (i := 697) rfl (by decide +kernel)
set_option maxRecDepth 100000 in
theorem zw_644 : Cond.selects "RatePlansModel" ({ cls := "RatePlansModel", name := "graph", desc := "(I)Z" } : Jvm.MethodName) ({ cls := "RatePlansModel", name := "graph", desc := "(I)Z" } : Jvm.MethodName) ∈ zG := zG_of (i := 698) rfl (by decide +kernel)
set_option maxRecDepth 100000 in
theorem zw_645 : Cond.code ({ cls := "RatePlansModel", name := "graph", desc := "(I)Z" } : Jvm.MethodName) prog_7_method_5_code (3 : Nat) (Option.some Jvm.ClassFile.FieldType.boolean) ∈ zG := zG_of (i := 699) rfl (by decide +kernel)
set_option maxRecDepth 100000 in
theorem zw_646 : Cond.methodLink "RatePlansModel" (85 : Nat) ({ cls := "RatePlansModel", name := "in", desc := "(III)Z" } : Jvm.MethodName) ∈ zG := zG_of (i := 700) rfl (by decide +kernel)
set_option maxRecDepth 100000 in
theorem zw_647 : Cond.static ({ cls := "RatePlansModel", name := "in", desc := "(III)Z" } : Jvm.MethodName) ∈ zG := zG_of (i := 701) rfl (by decide +kernel)
set_option maxRecDepth 100000 in
theorem zw_648 : Cond.code ({ cls := "RatePlansModel", name := "in", desc := "(III)Z" } : Jvm.MethodName) prog_7_method_3_code (3 : Nat) (Option.some Jvm.ClassFile.FieldType.boolean) ∈ zG := zG_of (i := 702) rfl (by decide +kernel)
set_option maxRecDepth 100000 in
theorem zw_649 : Cond.methodLink "RatePlansLaw" (39 : Nat) ({ cls := "RatePlansModel", name := "time", desc := "(II)Z" } : Jvm.MethodName) ∈ zG := zG_of (i := 703) rfl (by decide +kernel)
set_option maxRecDepth 100000 in
theorem zw_650 : Cond.instanceMethod ({ cls := "RatePlansModel", name := "time", desc := "(II)Z" } : Jvm.MethodName) ∈ zG := zG_of (i := 704) rfl (by decide +kernel)
set_option maxRecDepth 100000 in
theorem zw_651 : Cond.selects "RatePlansModel" ({ cls := "RatePlansModel", name := "time", desc := "(II)Z" } : Jvm.MethodName) ({ cls := "RatePlansModel", name := "time", desc := "(II)Z" } : Jvm.MethodName) ∈ zG := zG_of (i := 705) rfl (by decide +kernel)
set_option maxRecDepth 100000 in
theorem zw_652 : Cond.code ({ cls := "RatePlansModel", name := "time", desc := "(II)Z" } : Jvm.MethodName) prog_7_method_6_code (3 : Nat) (Option.some Jvm.ClassFile.FieldType.boolean) ∈ zG := zG_of (i := 706) rfl (by decide +kernel)
set_option maxRecDepth 100000 in
theorem zw_653 : Cond.methodLink "RatePlansLaw" (44 : Nat) ({ cls := "RatePlansModel", name := "channel", desc := "(IIIII)I" } : Jvm.MethodName) ∈ zG := zG_of (i := 707) rfl (by decide +kernel)
set_option maxRecDepth 100000 in
theorem zw_654 : Cond.instanceMethod ({ cls := "RatePlansModel", name := "channel", desc := "(IIIII)I" } : Jvm.MethodName) ∈ zG := zG_of (i := 708) rfl (by decide +kernel)
set_option maxRecDepth 100000 in
theorem zw_655 : Cond.selects "RatePlansModel" ({ cls := "RatePlansModel", name := "channel", desc := "(IIIII)I" } : Jvm.MethodName) ({ cls := "RatePlansModel", name := "channel", desc := "(IIIII)I" } : Jvm.MethodName) ∈ zG := zG_of (i := 709) rfl (by decide +kernel)
set_option maxRecDepth 100000 in
theorem zw_656 : Cond.code ({ cls := "RatePlansModel", name := "channel", desc := "(IIIII)I" } : Jvm.MethodName) prog_7_method_7_code (6 : Nat) (Option.some Jvm.ClassFile.FieldType.int) ∈ zG := zG_of (i := 710) rfl (by decide +kernel)
set_option maxRecDepth 100000 in
theorem zw_657 : Cond.methodLink "RatePlansLaw" (49 : Nat) ({ cls := "RatePlansModel", name := "uneven", desc := "()I" } : Jvm.MethodName) ∈ zG := zG_of (i := 711) rfl (by decide +kernel)
set_option maxRecDepth 100000 in
theorem zw_658 : Cond.instanceMethod ({ cls := "RatePlansModel", name := "uneven", desc := "()I" } : Jvm.MethodName) ∈ zG := zG_of (i := 712) rfl (by decide +kernel)
set_option maxRecDepth 100000 in
theorem zw_659 : Cond.selects "RatePlansModel" ({ cls := "RatePlansModel", name := "uneven", desc := "()I" } : Jvm.MethodName) ({ cls := "RatePlansModel", name := "uneven", desc := "()I" } : Jvm.MethodName) ∈ zG := zG_of (i := 713) rfl (by decide +kernel)
set_option maxRecDepth 100000 in
theorem zw_660 : Cond.code ({ cls := "RatePlansModel", name := "uneven", desc := "()I" } : Jvm.MethodName) prog_7_method_18_code (1 : Nat) (Option.some Jvm.ClassFile.FieldType.int) ∈ zG := zG_of (i := 714) rfl (by decide +kernel)
set_option maxRecDepth 100000 in
theorem zw_661 : Cond.methodLink "RatePlansModel" (138 : Nat) ({ cls := "RatePlansModel", name := "know", desc := "()V" } : Jvm.MethodName) ∈ zG := zG_of (i := 715) rfl (by decide +kernel)
set_option maxRecDepth 100000 in
theorem zw_663 : Cond.instanceMethod ({ cls := "RatePlansModel", name := "know", desc := "()V" } : Jvm.MethodName) ∈ zG := zG_of (i := 717) rfl (by decide +kernel)
set_option maxRecDepth 100000 in
theorem zw_664 : Cond.code ({ cls := "RatePlansModel", name := "know", desc := "()V" } : Jvm.MethodName) prog_7_method_16_code (2 : Nat) (Option.none : Option Jvm.ClassFile.FieldType) ∈ zG := zG_of (i := 718) rfl (by decide +kernel)
set_option maxRecDepth 100000 in
theorem zw_665 : Cond.methodLink "RatePlansModel" (129 : Nat) ({ cls := "RatePlansModel", name := "fits", desc := "(I)Z" } : Jvm.MethodName) ∈ zG := zG_of (i := 719) rfl (by decide +kernel)
set_option maxRecDepth 100000 in
theorem zw_667 : Cond.instanceMethod ({ cls := "RatePlansModel", name := "fits", desc := "(I)Z" } : Jvm.MethodName) ∈ zG := zG_of (i := 721) rfl (by decide +kernel)
set_option maxRecDepth 100000 in
theorem zw_668 : Cond.code ({ cls := "RatePlansModel", name := "fits", desc := "(I)Z" } : Jvm.MethodName) prog_7_method_10_code (5 : Nat) (Option.some Jvm.ClassFile.FieldType.boolean) ∈ zG := zG_of (i := 722) rfl (by decide +kernel)
set_option maxRecDepth 100000 in
theorem zw_669 : Cond.methodLink "RatePlansModel" (100 : Nat) ({ cls := "RatePlansModel", name := "set", desc := "(IJJ)V" } : Jvm.MethodName) ∈ zG := zG_of (i := 723) rfl (by decide +kernel)
set_option maxRecDepth 100000 in
theorem zw_671 : Cond.instanceMethod ({ cls := "RatePlansModel", name := "set", desc := "(IJJ)V" } : Jvm.MethodName) ∈ zG := zG_of (i := 725) rfl (by decide +kernel)
set_option maxRecDepth 100000 in
theorem zw_672 : Cond.code ({ cls := "RatePlansModel", name := "set", desc := "(IJJ)V" } : Jvm.MethodName) prog_7_method_9_code (8 : Nat) (Option.none : Option Jvm.ClassFile.FieldType) ∈ zG := zG_of (i := 726) rfl (by decide +kernel)
set_option maxRecDepth 100000 in
theorem zw_673 : Cond.methodLink "RatePlansModel" (96 : Nat) ({ cls := "RatePlansModel", name := "divisor", desc := "(JJ)J" } : Jvm.MethodName) ∈ zG := zG_of (i := 727) rfl (by decide +kernel)
set_option maxRecDepth 100000 in
theorem zw_674 : Cond.static ({ cls := "RatePlansModel", name := "divisor", desc := "(JJ)J" } : Jvm.MethodName) ∈ zG := zG_of (i := 728) rfl (by decide +kernel)
set_option maxRecDepth 100000 in
theorem zw_675 : Cond.code ({ cls := "RatePlansModel", name := "divisor", desc := "(JJ)J" } : Jvm.MethodName) prog_7_method_8_code (10 : Nat) (Option.some Jvm.ClassFile.FieldType.long) ∈ zG := zG_of (i := 729) rfl (by decide +kernel)
set_option maxRecDepth 100000 in
theorem zw_676 : Cond.methodLink "RatePlansModel" (104 : Nat) ({ cls := "RatePlansModel", name := "reach", desc := "(I)Z" } : Jvm.MethodName) ∈ zG := zG_of (i := 730) rfl (by decide +kernel)
set_option maxRecDepth 100000 in
theorem zw_678 : Cond.instanceMethod ({ cls := "RatePlansModel", name := "reach", desc := "(I)Z" } : Jvm.MethodName) ∈ zG := zG_of (i := 732) rfl (by decide +kernel)
set_option maxRecDepth 100000 in
theorem zw_679 : Cond.code ({ cls := "RatePlansModel", name := "reach", desc := "(I)Z" } : Jvm.MethodName) prog_7_method_11_code (4 : Nat) (Option.some Jvm.ClassFile.FieldType.boolean) ∈ zG := zG_of (i := 733) rfl (by decide +kernel)
set_option maxRecDepth 100000 in
theorem zw_680 : Cond.methodLink "RatePlansModel" (132 : Nat) ({ cls := "RatePlansModel", name := "findCounts", desc := "()V" } : Jvm.MethodName) ∈ zG := zG_of (i := 734) rfl (by decide +kernel)
set_option maxRecDepth 100000 in
theorem zw_682 : Cond.instanceMethod ({ cls := "RatePlansModel", name := "findCounts", desc := "()V" } : Jvm.MethodName) ∈ zG := zG_of (i := 736) rfl (by decide +kernel)
set_option maxRecDepth 100000 in
theorem zw_683 : Cond.code ({ cls := "RatePlansModel", name := "findCounts", desc := "()V" } : Jvm.MethodName) prog_7_method_13_code (8 : Nat) (Option.none : Option Jvm.ClassFile.FieldType) ∈ zG := zG_of (i := 737) rfl (by decide +kernel)
set_option maxRecDepth 100000 in
theorem zw_684 : Cond.methodLink "RatePlansModel" (114 : Nat) ({ cls := "RatePlansModel", name := "leastOf", desc := "(I)I" } : Jvm.MethodName) ∈ zG := zG_of (i := 738) rfl (by decide +kernel)
set_option maxRecDepth 100000 in
theorem zw_686 : Cond.instanceMethod ({ cls := "RatePlansModel", name := "leastOf", desc := "(I)I" } : Jvm.MethodName) ∈ zG := zG_of (i := 740) rfl (by decide +kernel)
set_option maxRecDepth 100000 in
theorem zw_687 : Cond.code ({ cls := "RatePlansModel", name := "leastOf", desc := "(I)I" } : Jvm.MethodName) prog_7_method_12_code (5 : Nat) (Option.some Jvm.ClassFile.FieldType.int) ∈ zG := zG_of (i := 741) rfl (by decide +kernel)
set_option maxRecDepth 100000 in
theorem zw_688 : Cond.constantLong "RatePlansModel" (118 : Nat) (400 : Int64) ∈ zG := zG_of (i := 742) rfl (by decide +kernel)
set_option maxRecDepth 100000 in
theorem zw_689 : Cond.methodLink "RatePlansModel" (135 : Nat) ({ cls := "RatePlansModel", name := "round", desc := "()V" } : Jvm.MethodName) ∈ zG := zG_of (i := 743) rfl (by decide +kernel)
set_option maxRecDepth 100000 in
theorem zw_691 : Cond.instanceMethod ({ cls := "RatePlansModel", name := "round", desc := "()V" } : Jvm.MethodName) ∈ zG := zG_of (i := 745) rfl (by decide +kernel)
set_option maxRecDepth 100000 in
theorem zw_692 : Cond.code ({ cls := "RatePlansModel", name := "round", desc := "()V" } : Jvm.MethodName) prog_7_method_15_code (3 : Nat) (Option.none : Option Jvm.ClassFile.FieldType) ∈ zG := zG_of (i := 746) rfl (by decide +kernel)
set_option maxRecDepth 100000 in
theorem zw_693 : Cond.methodLink "RatePlansModel" (123 : Nat) ({ cls := "RatePlansModel", name := "canBeDone", desc := "(I)Z" } : Jvm.MethodName) ∈ zG := zG_of (i := 747) rfl (by decide +kernel)
set_option maxRecDepth 100000 in
theorem zw_695 : Cond.instanceMethod ({ cls := "RatePlansModel", name := "canBeDone", desc := "(I)Z" } : Jvm.MethodName) ∈ zG := zG_of (i := 749) rfl (by decide +kernel)
set_option maxRecDepth 100000 in
theorem zw_696 : Cond.code ({ cls := "RatePlansModel", name := "canBeDone", desc := "(I)Z" } : Jvm.MethodName) prog_7_method_14_code (3 : Nat) (Option.some Jvm.ClassFile.FieldType.boolean) ∈ zG := zG_of (i := 750) rfl (by decide +kernel)
set_option maxRecDepth 100000 in
theorem zw_697 : Cond.methodLink "RatePlansLaw" (55 : Nat) ({ cls := "RatePlansModel", name := "count", desc := "(I)I" } : Jvm.MethodName) ∈ zG := zG_of (i := 751) rfl (by decide +kernel)
set_option maxRecDepth 100000 in
theorem zw_698 : Cond.instanceMethod ({ cls := "RatePlansModel", name := "count", desc := "(I)I" } : Jvm.MethodName) ∈ zG := zG_of (i := 752) rfl (by decide +kernel)
set_option maxRecDepth 100000 in
theorem zw_699 : Cond.selects "RatePlansModel" ({ cls := "RatePlansModel", name := "count", desc := "(I)I" } : Jvm.MethodName) ({ cls := "RatePlansModel", name := "count", desc := "(I)I" } : Jvm.MethodName) ∈ zG := zG_of (i := 753) rfl (by decide +kernel)
set_option maxRecDepth 100000 in
theorem zw_700 : Cond.code ({ cls := "RatePlansModel", name := "count", desc := "(I)I" } : Jvm.MethodName) prog_7_method_19_code (2 : Nat) (Option.some Jvm.ClassFile.FieldType.int) ∈ zG := zG_of (i := 754) rfl (by decide +kernel)
set_option maxRecDepth 100000 in
theorem zw_701 : Cond.methodLink "RatePlansModel" (141 : Nat) ({ cls := "RatePlansModel", name := "raise", desc := "(I)I" } : Jvm.MethodName) ∈ zG := zG_of (i := 755) rfl (by decide +kernel)
set_option maxRecDepth 100000 in
theorem zw_703 : Cond.instanceMethod ({ cls := "RatePlansModel", name := "raise", desc := "(I)I" } : Jvm.MethodName) ∈ zG := zG_of (i := 757) rfl (by decide +kernel)
set_option maxRecDepth 100000 in
theorem zw_704 : Cond.code ({ cls := "RatePlansModel", name := "raise", desc := "(I)I" } : Jvm.MethodName) prog_7_method_4_code (2 : Nat) (Option.some Jvm.ClassFile.FieldType.int) ∈ zG := zG_of (i := 758) rfl (by decide +kernel)
set_option maxRecDepth 100000 in
theorem zw_705 : Cond.methodLink "RatePlansLaw" (61 : Nat) ({ cls := "RatePlansModel", name := "order", desc := "(I)I" } : Jvm.MethodName) ∈ zG := zG_of (i := 759) rfl (by decide +kernel)
set_option maxRecDepth 100000 in
theorem zw_706 : Cond.instanceMethod ({ cls := "RatePlansModel", name := "order", desc := "(I)I" } : Jvm.MethodName) ∈ zG := zG_of (i := 760) rfl (by decide +kernel)
set_option maxRecDepth 100000 in
theorem zw_707 : Cond.selects "RatePlansModel" ({ cls := "RatePlansModel", name := "order", desc := "(I)I" } : Jvm.MethodName) ({ cls := "RatePlansModel", name := "order", desc := "(I)I" } : Jvm.MethodName) ∈ zG := zG_of (i := 761) rfl (by decide +kernel)
set_option maxRecDepth 100000 in
theorem zw_708 : Cond.code ({ cls := "RatePlansModel", name := "order", desc := "(I)I" } : Jvm.MethodName) prog_7_method_20_code (2 : Nat) (Option.some Jvm.ClassFile.FieldType.int) ∈ zG := zG_of (i := 762) rfl (by decide +kernel)
set_option maxRecDepth 100000 in
theorem zw_709 : Cond.methodLink "RatePlansModel" (144 : Nat) ({ cls := "RatePlansModel", name := "isPlain", desc := "()Z" } : Jvm.MethodName) ∈ zG := zG_of (i := 763) rfl (by decide +kernel)
set_option maxRecDepth 100000 in
theorem zw_711 : Cond.instanceMethod ({ cls := "RatePlansModel", name := "isPlain", desc := "()Z" } : Jvm.MethodName) ∈ zG := zG_of (i := 765) rfl (by decide +kernel)
set_option maxRecDepth 100000 in
theorem zw_712 : Cond.code ({ cls := "RatePlansModel", name := "isPlain", desc := "()Z" } : Jvm.MethodName) prog_7_method_17_code (1 : Nat) (Option.some Jvm.ClassFile.FieldType.boolean) ∈ zG := zG_of (i := 766) rfl (by decide +kernel)
set_option maxRecDepth 100000 in
theorem zw_713 : Cond.methodLink "RatePlansLaw" (65 : Nat) ({ cls := "RatePlansModel", name := "left", desc := "(I)I" } : Jvm.MethodName) ∈ zG := zG_of (i := 767) rfl (by decide +kernel)
set_option maxRecDepth 100000 in
theorem zw_714 : Cond.instanceMethod ({ cls := "RatePlansModel", name := "left", desc := "(I)I" } : Jvm.MethodName) ∈ zG := zG_of (i := 768) rfl (by decide +kernel)
set_option maxRecDepth 100000 in
theorem zw_715 : Cond.selects "RatePlansModel" ({ cls := "RatePlansModel", name := "left", desc := "(I)I" } : Jvm.MethodName) ({ cls := "RatePlansModel", name := "left", desc := "(I)I" } : Jvm.MethodName) ∈ zG := zG_of (i := 769) rfl (by decide +kernel)
set_option maxRecDepth 100000 in
theorem zw_716 : Cond.code ({ cls := "RatePlansModel", name := "left", desc := "(I)I" } : Jvm.MethodName) prog_7_method_21_code (2 : Nat) (Option.some Jvm.ClassFile.FieldType.int) ∈ zG := zG_of (i := 770) rfl (by decide +kernel)
set_option maxRecDepth 100000 in
theorem zw_717 : Cond.methodLink "RatePlansLaw" (69 : Nat) ({ cls := "RatePlansModel", name := "peak", desc := "(I)I" } : Jvm.MethodName) ∈ zG := zG_of (i := 771) rfl (by decide +kernel)
set_option maxRecDepth 100000 in
theorem zw_718 : Cond.instanceMethod ({ cls := "RatePlansModel", name := "peak", desc := "(I)I" } : Jvm.MethodName) ∈ zG := zG_of (i := 772) rfl (by decide +kernel)
set_option maxRecDepth 100000 in
theorem zw_719 : Cond.selects "RatePlansModel" ({ cls := "RatePlansModel", name := "peak", desc := "(I)I" } : Jvm.MethodName) ({ cls := "RatePlansModel", name := "peak", desc := "(I)I" } : Jvm.MethodName) ∈ zG := zG_of (i := 773) rfl (by decide +kernel)
set_option maxRecDepth 100000 in
theorem zw_720 : Cond.code ({ cls := "RatePlansModel", name := "peak", desc := "(I)I" } : Jvm.MethodName) prog_7_method_22_code (2 : Nat) (Option.some Jvm.ClassFile.FieldType.int) ∈ zG := zG_of (i := 774) rfl (by decide +kernel)
set_option maxRecDepth 100000 in
theorem zw_721 : Cond.methodLink "RatePlansLaw" (73 : Nat) ({ cls := "RatePlansModel", name := "pace", desc := "(II)I" } : Jvm.MethodName) ∈ zG := zG_of (i := 775) rfl (by decide +kernel)
set_option maxRecDepth 100000 in
theorem zw_722 : Cond.instanceMethod ({ cls := "RatePlansModel", name := "pace", desc := "(II)I" } : Jvm.MethodName) ∈ zG := zG_of (i := 776) rfl (by decide +kernel)
set_option maxRecDepth 100000 in
theorem zw_723 : Cond.selects "RatePlansModel" ({ cls := "RatePlansModel", name := "pace", desc := "(II)I" } : Jvm.MethodName) ({ cls := "RatePlansModel", name := "pace", desc := "(II)I" } : Jvm.MethodName) ∈ zG := zG_of (i := 777) rfl (by decide +kernel)
set_option maxRecDepth 100000 in
theorem zw_724 : Cond.code ({ cls := "RatePlansModel", name := "pace", desc := "(II)I" } : Jvm.MethodName) prog_7_method_29_code (5 : Nat) (Option.some Jvm.ClassFile.FieldType.int) ∈ zG := zG_of (i := 778) rfl (by decide +kernel)
set_option maxRecDepth 100000 in
theorem zw_725 : Cond.methodLink "RatePlansModel" (178 : Nat) ({ cls := "RatePlansModel", name := "comesToAll", desc := "(IZ)Z" } : Jvm.MethodName) ∈ zG := zG_of (i := 779) rfl (by decide +kernel)
set_option maxRecDepth 100000 in
theorem zw_727 : Cond.instanceMethod ({ cls := "RatePlansModel", name := "comesToAll", desc := "(IZ)Z" } : Jvm.MethodName) ∈ zG := zG_of (i := 781) rfl (by decide +kernel)
set_option maxRecDepth 100000 in
theorem zw_728 : Cond.code ({ cls := "RatePlansModel", name := "comesToAll", desc := "(IZ)Z" } : Jvm.MethodName) prog_7_method_23_code (7 : Nat) (Option.some Jvm.ClassFile.FieldType.boolean) ∈ zG := zG_of (i := 782) rfl (by decide +kernel)
set_option maxRecDepth 100000 in
theorem zw_729 : Cond.methodLink "RatePlansModel" (182 : Nat) ({ cls := "RatePlansModel", name := "findPace", desc := "(I)V" } : Jvm.MethodName) ∈ zG := zG_of (i := 783) rfl (by decide +kernel)
set_option maxRecDepth 100000 in
theorem zw_731 : Cond.instanceMethod ({ cls := "RatePlansModel", name := "findPace", desc := "(I)V" } : Jvm.MethodName) ∈ zG := zG_of (i := 785) rfl (by decide +kernel)
set_option maxRecDepth 100000 in
theorem zw_732 : Cond.code ({ cls := "RatePlansModel", name := "findPace", desc := "(I)V" } : Jvm.MethodName) prog_7_method_28_code (8 : Nat) (Option.none : Option Jvm.ClassFile.FieldType) ∈ zG := zG_of (i := 786) rfl (by decide +kernel)
set_option maxRecDepth 100000 in
theorem zw_733 : Cond.methodLink "RatePlansModel" (162 : Nat) ({ cls := "RatePlansModel", name := "build", desc := "(I)V" } : Jvm.MethodName) ∈ zG := zG_of (i := 787) rfl (by decide +kernel)
set_option maxRecDepth 100000 in
theorem zw_735 : Cond.instanceMethod ({ cls := "RatePlansModel", name := "build", desc := "(I)V" } : Jvm.MethodName) ∈ zG := zG_of (i := 789) rfl (by decide +kernel)
set_option maxRecDepth 100000 in
theorem zw_736 : Cond.code ({ cls := "RatePlansModel", name := "build", desc := "(I)V" } : Jvm.MethodName) prog_7_method_26_code (7 : Nat) (Option.none : Option Jvm.ClassFile.FieldType) ∈ zG := zG_of (i := 790) rfl (by decide +kernel)
set_option maxRecDepth 100000 in
theorem zw_737 : Cond.methodLink "RatePlansModel" (154 : Nat) ({ cls := "RatePlansModel", name := "edge", desc := "(IIII)V" } : Jvm.MethodName) ∈ zG := zG_of (i := 791) rfl (by decide +kernel)
set_option maxRecDepth 100000 in
theorem zw_739 : Cond.instanceMethod ({ cls := "RatePlansModel", name := "edge", desc := "(IIII)V" } : Jvm.MethodName) ∈ zG := zG_of (i := 793) rfl (by decide +kernel)
set_option maxRecDepth 100000 in
theorem zw_740 : Cond.code ({ cls := "RatePlansModel", name := "edge", desc := "(IIII)V" } : Jvm.MethodName) prog_7_method_24_code (5 : Nat) (Option.none : Option Jvm.ClassFile.FieldType) ∈ zG := zG_of (i := 794) rfl (by decide +kernel)
set_option maxRecDepth 100000 in
theorem zw_741 : Cond.methodLink "RatePlansModel" (158 : Nat) ({ cls := "RatePlansModel", name := "down", desc := "(II)I" } : Jvm.MethodName) ∈ zG := zG_of (i := 795) rfl (by decide +kernel)
set_option maxRecDepth 100000 in
theorem zw_742 : Cond.static ({ cls := "RatePlansModel", name := "down", desc := "(II)I" } : Jvm.MethodName) ∈ zG := zG_of (i := 796) rfl (by decide +kernel)
set_option maxRecDepth 100000 in
theorem zw_743 : Cond.code ({ cls := "RatePlansModel", name := "down", desc := "(II)I" } : Jvm.MethodName) prog_7_method_25_code (2 : Nat) (Option.some Jvm.ClassFile.FieldType.int) ∈ zG := zG_of (i := 797) rfl (by decide +kernel)
set_option maxRecDepth 100000 in
theorem zw_744 : Cond.constantLong "RatePlansModel" (166 : Nat) (6710886400 : Int64) ∈ zG := zG_of (i := 798) rfl (by decide +kernel)
set_option maxRecDepth 100000 in
theorem zw_745 : Cond.methodLink "RatePlansModel" (168 : Nat) ({ cls := "RatePlansModel", name := "isSlower", desc := "(J)Z" } : Jvm.MethodName) ∈ zG := zG_of (i := 799) rfl (by decide +kernel)
set_option maxRecDepth 100000 in
theorem zw_747 : Cond.instanceMethod ({ cls := "RatePlansModel", name := "isSlower", desc := "(J)Z" } : Jvm.MethodName) ∈ zG := zG_of (i := 801) rfl (by decide +kernel)
set_option maxRecDepth 100000 in
theorem zw_748 : Cond.code ({ cls := "RatePlansModel", name := "isSlower", desc := "(J)Z" } : Jvm.MethodName) prog_7_method_27_code (8 : Nat) (Option.some Jvm.ClassFile.FieldType.boolean) ∈ zG := zG_of (i := 802) rfl (by decide +kernel)
set_option maxRecDepth 100000 in
theorem zw_749 : Cond.methodLink "RatePlansLaw" (77 : Nat) ({ cls := "RatePlansModel", name := "room", desc := "()I" } : Jvm.MethodName) ∈ zG := zG_of (i := 803) rfl (by decide +kernel)
set_option maxRecDepth 100000 in
theorem zw_750 : Cond.instanceMethod ({ cls := "RatePlansModel", name := "room", desc := "()I" } : Jvm.MethodName) ∈ zG := zG_of (i := 804) rfl (by decide +kernel)
set_option maxRecDepth 100000 in
theorem zw_751 : Cond.selects "RatePlansModel" ({ cls := "RatePlansModel", name := "room", desc := "()I" } : Jvm.MethodName) ({ cls := "RatePlansModel", name := "room", desc := "()I" } : Jvm.MethodName) ∈ zG := zG_of (i := 805) rfl (by decide +kernel)
set_option maxRecDepth 100000 in
theorem zw_752 : Cond.code ({ cls := "RatePlansModel", name := "room", desc := "()I" } : Jvm.MethodName) prog_7_method_32_code (7 : Nat) (Option.some Jvm.ClassFile.FieldType.int) ∈ zG := zG_of (i := 806) rfl (by decide +kernel)
set_option maxRecDepth 100000 in
theorem zw_753 : Cond.methodLink "RatePlansModel" (185 : Nat) ({ cls := "RatePlansModel", name := "isChain", desc := "()Z" } : Jvm.MethodName) ∈ zG := zG_of (i := 807) rfl (by decide +kernel)
set_option maxRecDepth 100000 in
theorem zw_755 : Cond.instanceMethod ({ cls := "RatePlansModel", name := "isChain", desc := "()Z" } : Jvm.MethodName) ∈ zG := zG_of (i := 809) rfl (by decide +kernel)
set_option maxRecDepth 100000 in
theorem zw_756 : Cond.code ({ cls := "RatePlansModel", name := "isChain", desc := "()Z" } : Jvm.MethodName) prog_7_method_30_code (2 : Nat) (Option.some Jvm.ClassFile.FieldType.boolean) ∈ zG := zG_of (i := 810) rfl (by decide +kernel)
set_option maxRecDepth 100000 in
theorem zw_757 : Cond.methodLink "RatePlansModel" (188 : Nat) ({ cls := "RatePlansModel", name := "divisorOf", desc := "(II)I" } : Jvm.MethodName) ∈ zG := zG_of (i := 811) rfl (by decide +kernel)
set_option maxRecDepth 100000 in
theorem zw_759 : Cond.instanceMethod ({ cls := "RatePlansModel", name := "divisorOf", desc := "(II)I" } : Jvm.MethodName) ∈ zG := zG_of (i := 813) rfl (by decide +kernel)
set_option maxRecDepth 100000 in
theorem zw_760 : Cond.code ({ cls := "RatePlansModel", name := "divisorOf", desc := "(II)I" } : Jvm.MethodName) prog_7_method_31_code (6 : Nat) (Option.some Jvm.ClassFile.FieldType.int) ∈ zG := zG_of (i := 814) rfl (by decide +kernel)
set_option maxRecDepth 100000 in
theorem zw_761 : Cond.methodLink "RatePlansLaw" (81 : Nat) ({ cls := "RatePlansModel", name := "total", desc := "(I)I" } : Jvm.MethodName) ∈ zG := zG_of (i := 815) rfl (by decide +kernel)
set_option maxRecDepth 100000 in
theorem zw_762 : Cond.instanceMethod ({ cls := "RatePlansModel", name := "total", desc := "(I)I" } : Jvm.MethodName) ∈ zG := zG_of (i := 816) rfl (by decide +kernel)
set_option maxRecDepth 100000 in
theorem zw_763 : Cond.selects "RatePlansModel" ({ cls := "RatePlansModel", name := "total", desc := "(I)I" } : Jvm.MethodName) ({ cls := "RatePlansModel", name := "total", desc := "(I)I" } : Jvm.MethodName) ∈ zG := zG_of (i := 817) rfl (by decide +kernel)
set_option maxRecDepth 100000 in
theorem zw_764 : Cond.code ({ cls := "RatePlansModel", name := "total", desc := "(I)I" } : Jvm.MethodName) prog_7_method_33_code (2 : Nat) (Option.some Jvm.ClassFile.FieldType.int) ∈ zG := zG_of (i := 818) rfl (by decide +kernel)
set_option maxRecDepth 100000 in
theorem zi_C : ∀ w ∈ u_ws zR_C zT_C 4, w ∈ zG := by decide +kernel
set_option maxRecDepth 100000 in
theorem zi_N : ∀ w ∈ u_ws zR_N zT_N 11, w ∈ zG := by decide +kernel
set_option maxRecDepth 100000 in
theorem zi_U : ∀ w ∈ u_ws zR_U zT_U 6, w ∈ zG := by decide +kernel
set_option maxRecDepth 100000 in
theorem zi_P : ∀ w ∈ u_ws zR_P zT_P 13, w ∈ zG := by decide +kernel
set_option maxRecDepth 100000 in
theorem zi_M : ∀ w ∈ u_ws zR_M zT_M 1, w ∈ zG := by decide +kernel
set_option maxRecDepth 100000 in
theorem zi_X : ∀ w ∈ u_ws zR_X zT_X 34, w ∈ zG := by decide +kernel
