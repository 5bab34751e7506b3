/-! Throws: the words that no call keeps by itself, and the road from 'new' to the thrown cell -/
def thD : List Cond := [.declares (Bundle.initS "java/lang/RuntimeException"), .declares (Bundle.initS "java/lang/Exception"), .declares (Bundle.initS Bundle.tN)]
def thS : List Cond := [.stringRef "RatePlans" 73 "a channel is uneven", .stringRef "RatePlans" 83 "the graph is great", .stringRef "RatePlans" 97 "none is done there", .stringRef "RatePlans" 112 "no such actor or what", .stringRef "RatePlans" 121 "the part has no pace", .stringRef "RatePlans" 127 "the counts of the part are too many"]
def thL : List Cond := [.laysStatic Bundle.tN "UNASSIGNED_STACK" Bundle.steD, .laysStatic Bundle.tN "SUPPRESSED_SENTINEL" Bundle.listD]
def thI : List Cond := [.isRef (.static Bundle.tN "UNASSIGNED_STACK" Bundle.steD), .isRef (.static Bundle.tN "SUPPRESSED_SENTINEL" Bundle.listD)]
def zTH (U : State) : Prop := ∀ w ∈ thD ++ thS ++ thL ++ thI, ∀ a, w.before a U = true
theorem th_lays {s U : State} {a a' : Array Value} {o n d : String} (hW : s.vm.Alike U.vm) (hh : ∀ q : Nat, q < s.heap.size → U.heap[q]? = s.heap[q]?) (h : (Cond.laysStatic o n d).before a s = true) : (Cond.laysStatic o n d).before a' U = true := by
  obtain ⟨c, k, i, f, ad, cell, h1, h2, h3, h4, h5, h6, h7, h8, h9⟩ := Cond.laysStatic_spec (Cond.laysStatic_setVm hW h)
  exact Cond.laysStatic_of h1 h2 h3 h4 (by rw [hh ad (Array.getElem?_eq_some_iff.mp h5).1]; exact h5) h6 h7 h8 h9
theorem th_isref {s U : State} {a a' : Array Value} {o n d : String} (hW : s.vm.Alike U.vm) (hh : ∀ q : Nat, q < s.heap.size → U.heap[q]? = s.heap[q]?) (hl : (Cond.laysStatic o n d).before a s = true) (h : (Cond.isRef (.static o n d)).before a s = true) : (Cond.isRef (.static o n d)).before a' U = true := by
  obtain ⟨c, k, i, f, ad, cell, h1, h2, h3, h4, h5, h6, h7, h8, h9⟩ := Cond.laysStatic_spec hl
  obtain ⟨k', hi', he⟩ := State.fieldFound?_setVm hW h2
  have h5' : U.heap[ad]? = some cell := by rw [hh ad (Array.getElem?_eq_some_iff.mp h5).1]; exact h5
  have hi2 : U.fieldFound? o n d = some (c, k', i, f) := hi'
  have e4 : k'.statics = some ad := by rw [he]; exact h4
  have eS : (Term.static o n d).eval a s none [] s = cell.slots[f.slot]? := by simp [Term.eval, State.fieldNamed?, h2, h3, h4, h5, h6]
  have eU : (Term.static o n d).eval a' U none [] U = cell.slots[f.slot]? := by simp [Term.eval, State.fieldNamed?, hi2, h3, e4, h5', h6]
  simp only [Cond.before, Cond.holds, Cond.value, eS] at h
  simp only [Cond.before, Cond.holds, Cond.value, eU]
  exact h
theorem th_str {s U : State} {a a' : Array Value} {o t : String} {i : Nat} (hW : s.WarmedH U.vm) (h : (Cond.stringRef o i t).before a s = true) : (Cond.stringRef o i t).before a' U = true := by
  have h1 : (Cond.stringRef o i t).before a (s.setVm U.vm) = true := Cond.stringRef_warmed hW h
  simp only [Cond.before, Cond.holds, Cond.value, State.names, State.poolOf?, State.resolvedAt?, State.vm_setVm] at h1 ⊢
  exact h1
theorem zTH.move {s U : State} (h : zTH s) (hW : s.WarmedH U.vm) (hh : ∀ q : Nat, q < s.heap.size → U.heap[q]? = s.heap[q]?) : zTH U := by
  intro w hw a
  have hl1 := h (.laysStatic Bundle.tN "UNASSIGNED_STACK" Bundle.steD) (by simp [thL]) #[]
  have hl2 := h (.laysStatic Bundle.tN "SUPPRESSED_SENTINEL" Bundle.listD) (by simp [thL]) #[]
  have h0 := h w hw #[]
  simp only [thD, thS, thL, thI, List.cons_append, List.nil_append, List.mem_cons, List.not_mem_nil, or_false] at hw
  rcases hw with rfl | rfl | rfl | rfl | rfl | rfl | rfl | rfl | rfl | rfl | rfl | rfl | rfl
  all_goals first | exact va_Nw.use rfl (va_Nw.warmD hW (va_Nw.of rfl h0)) | exact th_str hW h0 | exact th_lays hW.alike hh h0 | exact th_isref hW.alike hh hl1 h0 | exact th_isref hW.alike hh hl2 h0
/-- the good words of a throw of X, whose constructor hands on by the pool's entry ix -/
def thG (own : String) (ic : Nat) (X : String) (ix : Nat) (bytes : ByteArray) : List Cond :=
  [.initialized Bundle.tN, .superclass Bundle.tN "java/lang/Object", .instanceMethod Bundle.tFill, .codeSync Bundle.tFill LibCode.Throwable.Fill.code 1 (some (.object Bundle.tN)), .instanceMethod Bundle.tFill0, .native Bundle.tFill0, .instanceMethod Bundle.tInit0, .code Bundle.tInit0 LibCode.Throwable.Init0.code 1 none, .instanceMethod Bundle.oInit, .code Bundle.oInit ⟨#[0xb1]⟩ 1 none,
   .methodLink Bundle.tN 1 Bundle.oInit, .methodLink Bundle.tN 27 Bundle.tFill, .methodLink Bundle.tN 202 Bundle.tFill0, .fieldLink Bundle.tN 7 Bundle.tN "cause" "Ljava/lang/Throwable;", .lays Bundle.tN Bundle.tN "cause" "Ljava/lang/Throwable;", .fieldLink Bundle.tN 17 Bundle.tN "stackTrace" Bundle.steD, .lays Bundle.tN Bundle.tN "stackTrace" Bundle.steD, .fieldLink Bundle.tN 24 Bundle.tN "suppressedExceptions" Bundle.listD, .lays Bundle.tN Bundle.tN "suppressedExceptions" Bundle.listD,
   .fieldLink Bundle.tN 13 Bundle.tN "UNASSIGNED_STACK" Bundle.steD, .fieldLink Bundle.tN 20 Bundle.tN "SUPPRESSED_SENTINEL" Bundle.listD, .lays Bundle.tN Bundle.tN "detailMessage" "Ljava/lang/String;",
   .instanceMethod (Bundle.initS Bundle.tN), .code (Bundle.initS Bundle.tN) LibCode.Throwable.InitS.code 2 none, .fieldLink Bundle.tN 31 Bundle.tN "detailMessage" "Ljava/lang/String;",
   .instanceMethod (Bundle.initS "java/lang/RuntimeException"), .code (Bundle.initS "java/lang/RuntimeException") Bundle.six 2 none, .methodLink "java/lang/RuntimeException" 7 (Bundle.initS "java/lang/Exception"), .instanceMethod (Bundle.initS "java/lang/Exception"), .code (Bundle.initS "java/lang/Exception") Bundle.six 2 none, .methodLink "java/lang/Exception" 7 (Bundle.initS Bundle.tN),
   .instanceMethod (Bundle.initS X), .code (Bundle.initS X) bytes 2 none, .methodLink X ix (Bundle.initS "java/lang/RuntimeException"),
   .methodLink own ic (Bundle.initS X), .instantiable X 6, .initialized X, .selects X Bundle.tFill0 Bundle.tFill0, .selects X Bundle.tFill Bundle.tFill,
   .lays X Bundle.tN "cause" "Ljava/lang/Throwable;", .lays X Bundle.tN "stackTrace" Bundle.steD, .lays X Bundle.tN "suppressedExceptions" Bundle.listD, .lays X Bundle.tN "detailMessage" "Ljava/lang/String;", .fieldLink Bundle.tN 198 Bundle.tN "backtrace" "Ljava/lang/Object;", .lays Bundle.tN Bundle.tN "backtrace" "Ljava/lang/Object;", .lays X Bundle.tN "backtrace" "Ljava/lang/Object;"]
section TH
variable {p : Program} {l : Launch} {e : Env} {R : Room} {s : State} {m : MethodId} {args : Array Value} {below : List Frame} {meth : Method} {c : Code} {W : State} {locs : List Loc} {cells slots : Nat}
set_option maxHeartbeats 4000000 in
/-- from the constructor's call to the end by a throw: the cell a, made by 'new', is what is thrown; no other cell moves -/
theorem th_ctor (Y : Stand p l e R s m args below meth c W locs cells slots) (hexec : p.tables.exec = Jvm.exec) (htr : e.platform.stackTraces = false) {own X : String} {ic ix : Nat} {bytes : ByteArray} (hown : s.vm.findClass own = some m.cls) (hX : Bundle.fit X = true)
    (hb0 : decode bytes 0 = .ok (.aload_n 0, 1)) (hb1 : decode bytes 1 = .ok (.aload_n 1, 1)) (hb2 : decode bytes 2 = .ok (.invokespecial ix, 3)) (hb5 : decode bytes 5 = .ok (.return_, 1))
    (hg : ∀ w ∈ thG own ic X ix bytes, w.before args s = true) (hT : zTH s) (hlocs : ∀ y ∈ locs, ∀ ce, s.heap[y.base]? = some ce → ce.vm.isStatics = false)
    {a : Addr} {cX : ClassId} {kX : Class} (hfX : s.vm.findClass X = some cX) (hkX : s.vm.classes[cX]? = some kX) (hcell : W.heap[a]? = some (freshCell cX kX)) (hnew : s.heap.size ≤ a) {msg : Value} (hmsg : msg.isRef = true)
    {pc : Nat} {ls : Array Slot} (hsize : ls.size = c.maxLocals) (hd6 : decode c.code pc = .ok (.invokespecial ic, 3)) (hd9 : decode c.code (pc + 3) = .ok (.athrow, 1)) (hout : ∀ y ∈ c.exceptionTable.toList, covers y (pc + 3) = false)
    (hRf : 6 ≤ R.frames) (hRl : 90 ≤ R.locals) (hlocks : meth.locks = false) :
    ∃ U : State, Steps p.tables e below (W.setTop (F0 m pc ls [msg, .ref a, .ref a])) U ∧ U.status = .running ∧ Ended U below (.threw a) ∧ s.WarmedH U.vm ∧ s.sameButNew ({ U with vm := s.vm } : State) locs cells slots ∧
      (∃ ce, U.heap[a]? = some ce ∧ ce.cls = cX ∧ ce.vm = .none) ∧ (∀ q : Nat, q ≠ a → U.heap[q]? = W.heap[q]?) ∧ U.heap.size = W.heap.size := by
  have g : ∀ w, w ∈ thG own ic X ix bytes → w.before args s = true := hg
  have t : ∀ w, w ∈ thD ++ thS ++ thL ++ thI → w.before args s = true := fun w hw => hT w hw args
  have pl1 : e.platform.frameOwnsMonitors = true := by rw [Y.admits.platform]
  have pl2 : e.platform.finalization = false := by rw [Y.admits.platform]
  have pl3 : e.platform.magicAccessors = ({} : Platform).magicAccessors := by rw [Y.admits.platform]
  obtain ⟨T, Z0, L, -, K⟩ := ThrowableC.of_atoms (args := args) (s := s) pl1 pl2 pl3 (fun w hw => by
    simp only [Bundle.throwableAtoms, List.mem_cons, List.not_mem_nil, or_false] at hw
    rcases hw with rfl | rfl | rfl | rfl | rfl | rfl | rfl | rfl | rfl | rfl | rfl | rfl | rfl | rfl | rfl | rfl | rfl | rfl | rfl | rfl | rfl | rfl | rfl | rfl
    all_goals first | (refine g _ ?_; simp [thG]; done) | (refine t _ ?_; simp [thL]; done))
  obtain ⟨Z, M, LZ, LM, hnZ⟩ := Init0T.ofS_atoms (args := args) pl3 L K (fun w hw => by
    simp only [Bundle.throwableSAtoms, List.mem_cons, List.not_mem_nil, or_false] at hw
    rcases hw with rfl | rfl | rfl | rfl
    all_goals exact g _ (by simp [thG]))
  obtain ⟨P2, Ps, hlen, L2, hL, hm2, hl2, hl3⟩ := Bundle.chainS (args := args) pl3 hnZ ["java/lang/Exception"] "java/lang/RuntimeException" (by decide +kernel) (by decide +kernel) (fun w hw => by
    simp only [Bundle.chainSAtoms, Bundle.passSAtoms, List.cons_append, List.nil_append, List.mem_cons, List.not_mem_nil, or_false] at hw
    rcases hw with rfl | rfl | rfl | rfl | rfl | rfl | rfl | rfl | rfl | rfl
    all_goals first | (refine g _ ?_; simp [thG]; done) | (refine t _ ?_; simp [thD]; done))
  obtain ⟨P1, L1, hm1, hs1⟩ := PassC.ofS_atoms (args := args) (s := s) pl3 (X := X) (Y := "java/lang/RuntimeException") (Bundle.fit_spec hX).1 (by decide) hb0 hb1 hb2 hb5 (fun w hw => by
    simp only [Bundle.passSAtoms, List.mem_cons, List.not_mem_nil, or_false] at hw
    rcases hw with rfl | rfl | rfl | rfl | rfl
    all_goals first | (refine g _ ?_; simp [thG]; done) | (refine t _ ?_; simp [thD]; done))
  have hl1 : P1.sup = P2.m := Option.some.inj (hs1.symm.trans hm2)
  have hc1 : s.vm.findClass X = some P1.m.cls := findClass_of_methodNamed hm1
  obtain rfl : cX = P1.m.cls := Option.some.inj (hfX.symm.trans hc1)
  obtain ⟨_, kX', z1, z2, hord, -, -, hn6⟩ := Cond.instantiable_spec (g (.instantiable X 6) (by simp [thG]))
  obtain rfl := Option.some.inj (z1.symm.trans hc1)
  obtain rfl := Option.some.inj (hkX.symm.trans z2)
  have sel : ∀ {y : MethodName} {i : MethodId}, s.methodNamed? y = some i → (y.cls ≠ "java/lang/invoke/MethodHandle" ∧ y.cls ≠ "java/lang/invoke/VarHandle") → (Cond.selects X y y).before args s = true → selectMethod e.platform s.vm P1.m.cls i = .method i := by
    intro y i hy hne h
    obtain ⟨_, _, _, q1, q2, q3, q4, -⟩ := Cond.selects_spec h
    obtain rfl := Option.some.inj (q1.symm.trans hc1)
    obtain rfl := Option.some.inj (q2.symm.trans (State.methodFound?_of_named hy hne))
    obtain rfl := Option.some.inj (q3.symm.trans hy)
    rw [Launch.admits_selectMethod Y.admits]
    exact q4
  obtain ⟨cS, hS1, hS2⟩ := K.statics
  obtain ⟨u0, hu0⟩ := Cond.staticRefV K.unassigned L.unassignedStatic L.statics hS1 hS2 (t (.isRef (.static Bundle.tN "UNASSIGNED_STACK" Bundle.steD)) (by simp [thI]))
  obtain ⟨sen, hsen⟩ := Cond.staticRefV K.sentinel L.sentinelStatic L.statics hS1 hS2 (t (.isRef (.static Bundle.tN "SUPPRESSED_SENTINEL" Bundle.listD)) (by simp [thI]))
  obtain ⟨ciB, iB, fB, b1, b2, b3, b4, -, b5, b6, b7⟩ := Cond.ownField (t := .object "java/lang/Object") K.found L.cls (by decide +kernel) (g (.fieldLink Bundle.tN 198 Bundle.tN "backtrace" "Ljava/lang/Object;") (by simp [thG])) (g (.lays Bundle.tN Bundle.tN "backtrace" "Ljava/lang/Object;") (by simp [thG])) e.platform pl3
  obtain ⟨cS', hS3, hS4, -, hS5⟩ := Y.same.2.2.2.2.2 T.aS cS hS1
  have hS6 : W.heap[T.aS]? = some cS' := hS3
  have hS7 : ∀ i, (⟨T.aS, i⟩ : Loc) ∉ locs := fun i hm => absurd (hlocs _ hm cS hS1) (by rw [hS2]; decide)
  have hS8 : cS'.vm ≠ .unknown := fun hu => by
    rw [hS4] at hu
    have hu2 : cS.vm = .unknown := hu
    rw [hu2] at hS2; cases hS2
  have hS9 : T.aS ≠ a := fun h => by
    have := (Array.getElem?_eq_some_iff.mp hS1).1
    rw [h] at this
    omega
  obtain ⟨iM, hM⟩ := K.msg
  obtain ⟨yC, dC, mC, nC⟩ := Cond.laysAt hc1 hkX K.cause (g (.lays X Bundle.tN "cause" "Ljava/lang/Throwable;") (by simp [thG]))
  obtain ⟨yS, dS, mS, nS⟩ := Cond.laysAt hc1 hkX K.stack (g (.lays X Bundle.tN "stackTrace" Bundle.steD) (by simp [thG]))
  obtain ⟨yP, dP, mP, nP⟩ := Cond.laysAt hc1 hkX K.supp (g (.lays X Bundle.tN "suppressedExceptions" Bundle.listD) (by simp [thG]))
  obtain ⟨yM, dM, mM, nM⟩ := Cond.laysAt hc1 hkX hM (g (.lays X Bundle.tN "detailMessage" "Ljava/lang/String;") (by simp [thG]))
  obtain ⟨yB, dB, mB, nB⟩ := Cond.laysAt hc1 hkX b7 (g (.lays X Bundle.tN "backtrace" "Ljava/lang/Object;") (by simp [thG]))
  have aC := Cond.laysApart mB mC nB nC (by rw [b5, K.causeName]; decide)
  have aS := Cond.laysApart mB mS nB nS (by rw [b5, K.stackName]; decide)
  have aP := Cond.laysApart mB mP nB nP (by rw [b5, K.suppName]; decide)
  have hskip : SkipFacts T e.platform s (fun u => u) u0 ((preparedCellV T.toThrowableT (freshCell P1.m.cls kX) a u0 sen).withEntry W.cur) := by
    refine ⟨{ ci198 := ciB, i198 := iB, fBack := fB }, ⟨b1, b2, b3, b4⟩, ?_, fun _ _ => rfl⟩
    have h := fresh_default (c := P1.m.cls) yB
    rw [b6] at h
    simpa [preparedCellV, Cell.setSlot, Cell.withEntry, Array.getElem?_setIfInBounds, aC, aS, aP, aC.symm, aS.symm, aP.symm, defaultValue] using h
  obtain ⟨tm, _, _, _, vm1, hn1, -, -, -, -, -, -, -, hW1, st1⟩ := Steps.initColdS (tb := p.tables) (e := e) (below := below) (s := s) (U := W) Y.here hexec Y.warmed pl3 hown (t := Bundle.initS X) rfl rfl (Bundle.fit_spec hX).2
    (g (.methodLink own ic (Bundle.initS X)) (by simp [thG])) (g (.instanceMethod (Bundle.initS X)) (by simp [thG])) (bytes := bytes) (maxL := 2) (g (.code (Bundle.initS X) bytes 2 none) (by simp [thG]))
    (f := F0 m pc ls [msg, .ref a, .ref a]) rfl (a := a) (msg := msg) (rest := [.ref a]) rfl hd6
  obtain rfl := Option.some.inj (hn1.symm.trans hm1)
  obtain ⟨vm2, Y2, st2⟩ := (Y.noted hW1).ctorMessageOffV hexec (g := F0 m pc ls [.ref a]) rfl hsize T L Z LZ M LM (P1 :: P2 :: Ps)
    (fun P hP => by
      rcases List.mem_cons.mp hP with rfl | hP
      · exact L1
      · rcases List.mem_cons.mp hP with rfl | hP
        · exact L2
        · exact hL P hP) ⟨hl1, hl2, hl3⟩ (u0 := u0) (sen := sen) (self := a) hmsg (cell := freshCell P1.m.cls kX) (cellS := cS')
    hcell (fun _ => by simp) (by simp) rfl rfl (sel K.fill0 (by decide) (g _ (by simp [thG]))) (sel K.fill (by decide) (g _ (by simp [thG]))) hS6 hS9 hS8 (by rw [hS5 _ (hS7 _)]; exact hu0) (by rw [hS5 _ (hS7 _)]; exact hsen)
    (Takes.of_laid hkX hord yC (by rw [K.causeType]; rfl)) (Takes.of_laid hkX hord yS (by rw [K.stackType]; exact fits_refV_array _ u0)) (Takes.of_laid hkX hord yP (by rw [K.suppType]; exact fits_refV_object _ sen))
    (Takes.of_laid hkX hord yM (by rw [K.msgType]; exact fits_refV_object _ ⟨msg, hmsg⟩)) K.objLocals hskip htr [] hd6
    (by simp only [List.length_cons, hlen, List.length_nil]; omega) (by simp only [List.length_cons, hlen, List.length_nil]; simp [JFrame.monitorRoom, Value.category]; omega)
  obtain ⟨hwalk, hrun, hend, hWU, hsame⟩ := Y2.athrowLeaves hexec (g := F0 m (pc + 3) ls [.ref a]) rfl rfl rfl hout (a := a) (rest := []) rfl hd9 hlocks
  have hlt : a < W.heap.size := (Array.getElem?_eq_some_iff.mp hcell).1
  refine ⟨_, st1 _ (fun acts => by rw [doInvoke_state]; exact st2 _ hwalk), hrun, hend, hWU, hsame.weaken (fun y hy hl => ?_) (Nat.le_refl _) (Nat.le_refl _), ⟨_, heapAt_setCell_self (s := (W.setVm vm1).setVm vm2) (plainBareV T.toThrowableT (freshCell P1.m.cls kX) a u0 sen msg) hlt, rfl, rfl⟩, fun q hq => ?_, ?_⟩
  · rcases List.mem_append.mp hy with h | h
    · exact h
    · exfalso
      have hb : y.base = a := by
        simp only [List.mem_cons, List.not_mem_nil, or_false] at h
        rcases h with rfl | rfl | rfl | rfl | rfl <;> rfl
      rw [hb] at hl
      exact absurd hl (Nat.not_lt.mpr hnew)
  · show (((W.setVm vm1).setVm vm2).setCell a _).heap[q]? = _
    simp [State.setCell, Array.getElem?_setIfInBounds, hq, Ne.symm hq]
  · show (((W.setVm vm1).setVm vm2).setCell a _).heap.size = _
    simp [State.setCell]
end TH
/-- what a throw of X by own needs of the words -/
def thOK (own X : String) (icl ic ix : Nat) (bytes : ByteArray) : Prop := (Bundle.fit X = true ∧ decode bytes 0 = .ok (.aload_n 0, 1) ∧ decode bytes 1 = .ok (.aload_n 1, 1) ∧ decode bytes 2 = .ok (.invokespecial ix, 3) ∧ decode bytes 5 = .ok (.return_, 1)) ∧ (∀ w ∈ thG own ic X ix bytes, w ∈ zG) ∧ Cond.classLink own icl X ∈ zG
theorem th_in {L : List Cond} (h : L.all (fun w => lw_tbl.contains w && goodWord w) = true) : ∀ w ∈ L, w ∈ zG := fun w hw => by
  have h1 := List.all_eq_true.mp h w hw
  rw [Bool.and_eq_true] at h1
  exact List.mem_filter.mpr ⟨List.contains_iff_mem.mp h1.1, h1.2⟩
theorem th_ise : thOK "RatePlans" "java/lang/IllegalStateException" 71 75 7 Bundle.six := ⟨⟨by decide +kernel, Bundle.six_0, Bundle.six_1, Bundle.six_2, Bundle.six_5⟩, th_in (by decide +kernel), th_in (L := [.classLink "RatePlans" 71 "java/lang/IllegalStateException"]) (by decide +kernel) _ List.mem_cons_self⟩
theorem th_ae : thOK "RatePlans" "java/lang/ArithmeticException" 81 85 7 Bundle.six := ⟨⟨by decide +kernel, Bundle.six_0, Bundle.six_1, Bundle.six_2, Bundle.six_5⟩, th_in (by decide +kernel), th_in (L := [.classLink "RatePlans" 81 "java/lang/ArithmeticException"]) (by decide +kernel) _ List.mem_cons_self⟩
theorem th_nse : thOK "RatePlans" "java/util/NoSuchElementException" 95 99 13 prog_15_method_4_code := ⟨⟨by decide +kernel, by decide +kernel, by decide +kernel, by decide +kernel, by decide +kernel⟩, th_in (by decide +kernel), th_in (L := [.classLink "RatePlans" 95 "java/util/NoSuchElementException"]) (by decide +kernel) _ List.mem_cons_self⟩
section TN
variable {p : Program} {l : Launch} {e : Env} {R : Room} {s : State} {m : MethodId} {args : Array Value} {below : List Frame} {meth : Method} {c0 : Code} {T : State} {locs : List Loc}
set_option maxHeartbeats 4000000 in
/-- from 'new' to the end by a throw -/
theorem th_new {cc : ByteArray} {nL : Nat} {w0 : Cond} {own X : String} {icl ist ic ix : Nat} {bts : ByteArray} {text : String} (Y : Stand p l e R s m args below meth c0 T locs 0 0) (S : CallFix p m c0 cc nL s args (w0 :: zG) own) (htr : e.platform.stackTraces = false) (hT : zTH s) (hok : thOK own X icl ic ix bts) (hst : Cond.stringRef own ist text ∈ thS)
    (hlocs : ∀ y ∈ locs, ∀ ce, s.heap[y.base]? = some ce → ce.vm.isStatics = false) (hout : ∀ pc, ∀ y ∈ c0.exceptionTable.toList, covers y pc = false) (hlocks : meth.locks = false) (hrm : 1 ≤ R.cells ∧ 6 ≤ R.slots ∧ 6 ≤ R.frames ∧ 90 ≤ R.locals) {pc : Nat} {ls : Array Slot} (hls : ls.size = nL)
    (d0 : decode cc pc = .ok (.new icl, 3)) (d3 : decode cc (pc + 3) = .ok (.dup, 1)) (d4 : decode cc (pc + 4) = .ok (.ldc ist, 2)) (d6 : decode cc (pc + 6) = .ok (.invokespecial ic, 3)) (d9 : decode cc (pc + 9) = .ok (.athrow, 1)) :
    ∃ U : State, Steps p.tables e below (T.setTop (F0 m pc ls [])) U ∧ U.status = .running ∧ Ended U below (.threw T.heap.size) ∧ s.WarmedH U.vm ∧ s.sameButNew ({ U with vm := s.vm } : State) locs 1 6 ∧
      (∃ ce, U.heap[T.heap.size]? = some ce ∧ s.vm.findClass X = some ce.cls ∧ ce.vm = .none) ∧ (∀ q : Nat, q < T.heap.size → U.heap[q]? = T.heap[q]?) ∧ U.heap.size = T.heap.size + 1 := by
  obtain ⟨hexec, hb, hml, hown, hts0⟩ := S
  have hts : ∀ w ∈ zG, w.before args s = true := fun w h => hts0 w (List.mem_cons_of_mem _ h)
  obtain ⟨⟨o1, o2, o3, o4, o5⟩, o6, o7⟩ := hok
  subst hb
  obtain ⟨vm1, cX, kX, hfX, hkX, -, -, Y1, st1⟩ := Y.newCold hexec (own := own) (C := X) (index := icl) (n := 6) hown (hts _ o7) (hts _ (o6 _ (by simp [thG]))) (hts _ (o6 (.initialized X) (by simp [thG]))) (g := F0 m pc ls []) rfl d0 (by omega) (by omega)
  generalize hT1 : (T.setVm vm1).pushCell { cls := cX, slots := kX.instanceTypes.map defaultValue, vm := .none } = T1 at Y1 st1
  have hca : T1.heap[T.heap.size]? = some (freshCell cX kX) := by rw [← hT1]; exact State.heap_pushCell_size _ _
  have hsz1 : T1.heap.size = T.heap.size + 1 := by rw [← hT1]; simp [State.pushCell]
  have hT1' : ∀ q : Nat, q < T.heap.size → T1.heap[q]? = T.heap[q]? := fun q hq => by
    rw [← hT1]
    show (T.heap.push _)[q]? = _
    rw [Array.getElem?_push, if_neg (by omega)]
  have hstr := hT (.stringRef own ist text) (by simp only [List.mem_append]; exact Or.inl (Or.inl (Or.inr hst))) args
  obtain ⟨-, -, -, sa, -, -, -, -, -, hev⟩ := Cond.stringRef_spec hown hstr
  have hle : s.heap.size ≤ T.heap.size := Y.same.2.1
  obtain ⟨U, hs, h1, h2, h3, h4, ⟨ce, h5, h6, h7⟩, h8, h9⟩ := th_ctor Y1 hexec htr hown o1 o2 o3 o4 o5 (fun w hw => hts w (o6 w hw)) hT hlocs hfX hkX hca hle (msg := .ref sa) rfl (pc := pc + 6) (ls := ls) (hls.trans hml.symm) d6 d9 (hout _) hrm.2.2.1 hrm.2.2.2 hlocks
  refine ⟨U, st1 _ ?_, h1, h2, h3, by simpa using h4, ⟨ce, h5, by rw [h6]; exact hfX, h7⟩, fun q hq => by rw [h8 q (by omega)]; exact hT1' q hq, by rw [h9, hsz1]⟩
  show Steps p.tables e below (T1.setTop (F0 m (pc + 3) ls [.ref T.heap.size])) _
  jvm_step Y1.here [Y1.here.top, hexec, d3, Value.category]
  exact Y1.ldcString hexec (own := own) (text := text) (index := ist) (a := sa) hown hstr hev (g := F0 m (pc + 4) ls [.ref T.heap.size, .ref T.heap.size]) rfl d4 _ hs
end TN
/-- contracts of an end by a throw of X -/
def zQT (D : va_G) (q : Nat → Nat) (c : Nat → ClassId) (A0 : Nat → Prop) (X : String) (post : (Nat → Int) → (Nat → Int → Int) → Prop) : State → Outcome → State → Prop := fun st o t =>
  ∃ (x : Addr) (ce : Cell) (u : zS), o = .threw x ∧ st.heap.size ≤ x ∧ t.heap[x]? = some ce ∧ ce.vm = .none ∧ st.vm.findClass X = some ce.cls ∧ post u.1 u.2 ∧ zW D q c A0 u t ∧ va_F A0 st t
def zMT (l : Launch) (y : MethodName) (bytes : ByteArray) (maxL : Nat) (ret : Option FieldType) (rm : Room) (D : va_G) (q : Nat → Nat) (c : Nat → ClassId) (sz : Nat) (av : List Value) (F : Nat → Int) (A : Nat → Int → Int) (X : String) (post : (Nat → Int) → (Nat → Int → Int) → Prop) : Prop :=
  MetFree l y (headSpec (Cond.code y bytes maxL ret :: zG) rm) (va_Pc av (fun U => zB D q c F A sz U ∧ zTH U)) (fun _ _ _ _ _ => True) (fun _ st o t => zQT D q c (va_A (gw q c F A) sz) X post st o t ∧ ∃ L, FrameEndT st o t L 1 6 ∧ ∀ z ∈ L, va_A (gw q c F A) sz z.base)
theorem va_at.nost {D : va_G} {cl : List vw_C} {x : Nat × va_E} {H : Heap} (h : va_at D cl x H) : ∀ ce, H[x.1]? = some ce → ce.vm.isStatics = false := by
  intro ce hc
  obtain ⟨a, en⟩ := x
  cases en with
  | inl v =>
    have h1 : H[a]? = some (vp_cell v.1 v.2) := h
    obtain rfl := Option.some.inj (hc.symm.trans h1)
    obtain ⟨cA, n, f⟩ := v
    rcases f with f | f | f | f | f <;> rfl
  | inr v =>
    obtain ⟨r, -, cell, h1, -, h2, -⟩ := h
    obtain rfl := Option.some.inj (hc.symm.trans h1)
    rw [h2]; rfl
set_option maxHeartbeats 4000000 in
theorem z_ofT {l : Launch} {y : MethodName} {bytes : ByteArray} {maxL : Nat} {ret : Option FieldType} {rm : Room} {D : va_G} {q : Nat → Nat} {c : Nat → ClassId} {sz : Nat} {av : List Value} {F : Nat → Int} {A : Nat → Int → Int} {X : String} {post : (Nat → Int) → (Nat → Int → Int) → Prop}
    (hy : plainName y.cls = true) (hlen : (lg_sl av).length ≤ maxL) (hrm : 1 ≤ rm.cells ∧ 6 ≤ rm.slots ∧ 6 ≤ rm.frames ∧ 90 ≤ rm.locals) (hfl : l.stackTraces = false)
    (body : ∀ (p : Program) (e : Env) (s : State) (m : MethodId) (args : Array Value) (below : List Frame) (meth : Method) (c0 : Code) (A0 : Nat → Prop) (Q : State → Prop), zCtx l y bytes maxL ret D c p s m args c0 A0 →
      (∀ (F1 : Nat → Int) (A1 : Nat → Int → Int) (H : Heap) (locs : List Loc) (pc : Nat) (ls : Array Slot) (icl ist ic ix : Nat) (bts : ByteArray) (text : String), thOK y.cls X icl ic ix bts → Cond.stringRef y.cls ist text ∈ thS → decode bytes pc = .ok (.new icl, 3) → decode bytes (pc + 3) = .ok (.dup, 1) → decode bytes (pc + 4) = .ok (.ldc ist, 2) → decode bytes (pc + 6) = .ok (.invokespecial ic, 3) → decode bytes (pc + 9) = .ok (.athrow, 1) →
        va_P D zcl (gw q c F1 A1) H → va_D A0 (gw q c F1 A1) → va_S A0 s.heap H locs → post F1 A1 → ls.size = maxL → W p l e rm s m args below meth c0 H locs 0 0 Q (F0 m pc ls [])) →
      va_P D zcl (gw q c F A) s.heap → va_D A0 (gw q c F A) → va_S A0 s.heap s.heap [] → ∀ ls : Array Slot, lv_has ls maxL (lv_args 0 av) → W p l e rm s m args below meth c0 s.heap [] 0 0 Q (F0 m 0 ls [])) :
    zMT l y bytes maxL ret rm D q c sz av F A X post := by
  refine MetFree.of_bodyS (code := bytes) (maxLocals := maxL) (ret := ret) hy ?_ ?_
  · intro args s m h hn
    obtain ⟨meth, c1, h1, h2, h3, h4, h5, h6, -, -⟩ := Cond.code_spec hn (atoms_spec (ws := Cond.code y bytes maxL ret :: zG) h _ List.mem_cons_self)
    exact ⟨meth, c1, h1, h2, h3, h4, h5, h6⟩
  · intro p e s m args below meth c0 s₁ B hml hv _
    obtain ⟨rfl, ⟨hsz, hP, hK, hD0⟩, hTH⟩ := hv
    subst hsz
    have hh0 : s₁.heap = s.heap := by rw [B.state]; rfl
    have hat := atoms_spec (ws := Cond.code y bytes maxL ret :: zG) B.pre
    have hcodeV := hat _ List.mem_cons_self
    have hl := lv_entry av (n := maxL) hlen
    have htr : e.platform.stackTraces = false := by rw [B.admits.platform]; exact hfl
    have S : CallFix p m c0 bytes maxL s av.toArray (Cond.code y bytes maxL ret :: zG) y.cls := ⟨B.exec, B.bytes, hml, findClass_of_methodNamed B.named, hat⟩
    have key := body p e s m av.toArray below meth c0 (va_A (gw q c F A) s.heap.size) (fun t => ∃ o, t.status = .running ∧ Ended t below o ∧ zQT D q c (va_A (gw q c F A) s.heap.size) X post s o t ∧ ∃ L, FrameEndT s o t L 1 6 ∧ ∀ z ∈ L, va_A (gw q c F A) s.heap.size z.base) ⟨S, hK, fun x h => Or.inr h⟩ ?_ hP hD0.self va_S.rf _ hl
    · obtain ⟨t, a1, o, b1, b2, b3⟩ := key s₁ hh0 (Stand.of_body B)
      rw [lg_entry_eq]
      exact ⟨t, o, a1, b1, b2, b3⟩
    · intro F1 A1 H locs pc ls icl ist ic ix bts text hok hst d0 d3 d4 d6 d9 hP1 hD1 hS1 hpost hls T hT Y
      have hlocs : ∀ y ∈ locs, ∀ ce, s.heap[y.base]? = some ce → ce.vm.isStatics = false := by
        intro z hz ce hce
        rcases hS1.2.2 z hz with ⟨k, en, hk⟩ | hk
        · exact (hP k _ hk).nost ce hce
        · exact absurd (Array.getElem?_eq_some_iff.mp hce).1 (Nat.not_lt.mpr hk)
      obtain ⟨U, u1, u2, u3, u4, u5, ⟨ce, u6, u7, u8⟩, u9, u10⟩ := th_new Y S htr hTH hok hst hlocs (fun pc => covers_of_empty (B.noHandlers hcodeV) pc) B.notSynchronized hrm hls d0 d3 d4 d6 d9
      rw [hT] at u3 u6 u9 u10
      have keep : ∀ k (x : Nat × va_E), (gw q c F1 A1)[k]? = some x → U.heap[x.1]? = H[x.1]? := fun k x hk => u9 x.1 (hP1 k x hk).lt
      refine ⟨U, u1, .threw H.size, u2, u3, ⟨H.size, ce, (F1, A1), rfl, hS1.1, u6, u8, u7, hpost, ⟨fun k x hk => (hP1 k x hk).kept (keep k x hk), hD1⟩, ⟨by rw [u10]; exact Nat.le_succ_of_le hS1.1, fun z hz hn => by rw [u9 z (Nat.lt_of_lt_of_le hz hS1.1)]; exact hS1.2.1 z hz hn⟩⟩, locs, ⟨⟨_, rfl⟩, u4, u5⟩, hS1.2.2⟩
theorem th_s73 : Cond.stringRef "RatePlans" 73 "a channel is uneven" ∈ thS := by simp [thS]
theorem th_s83 : Cond.stringRef "RatePlans" 83 "the graph is great" ∈ thS := by simp [thS]
theorem th_s97 : Cond.stringRef "RatePlans" 97 "none is done there" ∈ thS := by simp [thS]
theorem th_s112 : Cond.stringRef "RatePlans" 112 "no such actor or what" ∈ thS := by simp [thS]
theorem th_s121 : Cond.stringRef "RatePlans" 121 "the part has no pace" ∈ thS := by simp [thS]
theorem th_s127 : Cond.stringRef "RatePlans" 127 "the counts of the part are too many" ∈ thS := by simp [thS]
abbrev zr_C_count : Room := ({ frames := 1, cells := 0, slots := 0, locals := 22 } : Room)
set_option maxHeartbeats 4000000 in
set_option maxRecDepth 100000 in
theorem c_C_count (l : Launch) (D : va_G) (q : Nat → Nat) (c : Nat → ClassId) (sz : Nat) (F : Nat → Int) (A : Nat → Int → Int) (a : Int) (ba : ib a) (hn : 1 ≤ F 100 ∧ F 100 ≤ 8) (hc : 0 ≤ F 101 ∧ F 101 ≤ 14) (hact : ∀ a, 0 ≤ a → a < 8 → (1 ≤ A 7 a ∧ A 7 a ≤ 4782969) ∧ 0 ≤ A 8 a ∧ A 8 a < 8) (hu : ib (F 102)) (hok : (0 ≤ a ∧ a < F 100) → F 102 = -1 ∧ sI (A 7) (F 100) ≤ 400) : zMI l zy_C_count zc_C_count 2 (some .int) zr_C_count D q c sz [.ref (q 0), .int (iI (a))] F A (fun z F1 A1 => F1 = F ∧ A1 = A ∧ ((0 ≤ a ∧ a < F 100) → z = A 7 a) ∧ (¬ (0 ≤ a ∧ a < F 100) → z = -1)) := by
  refine z_ofI (by decide) (Nat.le_of_ble_eq_true rfl) ?_
  intro p e s m args below meth c0 A0 Q C0 ret hP hD hS ls hl
  obtain ⟨S, hK, hA⟩ := C0
  have hx := S.1
  have hb := S.2.1
  have hown := S.2.2.2.1
  have hts : ∀ w ∈ zG, w.before args s = true := fun w h => S.2.2.2.2 w (List.mem_cons_of_mem _ h)
  have hl : lv_has ls 2 [(0, .ref (q 0)), (1, .int (iI (a)))] := hl
  refine lv_aload_n hx hb zd_C_count_0 rfl (lv_at hl 0 rfl) ?_
  refine va_get (D := D) (ci := 0) (v := .ref (q 1)) (C := zR_C) (T := zT_C) (N := 4) hx hb hts zi_C hown hK.1 hP 0 ga_0 rfl 0 (by decide) (hts _ zw_185) (fun _ h9 => h9) rfl zd_C_count_1 ?_
  refine lv_iload_n hx hb zd_C_count_4 rfl (lv_at hl 1 rfl) ?_
  refine z_goi (z_runVN (n := 1) (k := 1) (ci := 1) (As := [.int (iI (a))]) (rest := []) S (c_N_hasActor l D q c _ F A a (by first | assumption | omega | exact ⟨by omega, by omega⟩) (by first | assumption | omega | exact ⟨by omega, by omega⟩)) zw_214 zw_216 zs_2 zw_2 zw_217 ⟨by decide +kernel, by decide, rfl, rfl⟩ hK hP hD ga_1 rfl rfl rfl hl.1 rfl (Nat.le_of_ble_eq_true rfl) zd_C_count_5 ⟨Nat.zero_le _, Nat.zero_le _⟩) hD hS hA (fun z_5 F_5 A_5 H locs hq_5 hP hD hS => ?_)
  obtain ⟨hf_5, ha_5, hq_5⟩ := hq_5
  rw [hf_5, ha_5] at hP hD
  have b5_ : z_5 = 0 ∨ z_5 = 1 := by rw [hq_5]; split <;> simp
  refine x_if_ne (tgt := 13) hx hb zd_C_count_8 (by decide) (⟨by omega, by omega⟩) (fun h_8 => ?_) (fun h_8 => ?_)
  · refine lv_aload_n hx hb zd_C_count_13 rfl (lv_at hl 0 rfl) ?_
    refine va_get (D := D) (ci := 0) (v := .ref (q 1)) (C := zR_C) (T := zT_C) (N := 4) hx hb hts zi_C hown hK.1 hP 0 ga_0 rfl 0 (by decide) (hts _ zw_185) (fun _ h9 => h9) rfl zd_C_count_14 ?_
    refine z_goi (z_runVN (n := 0) (k := 1) (ci := 1) (As := []) (rest := []) S (c_N_isUneven l D q c _ F A (by first | assumption | omega | exact ⟨by omega, by omega⟩)) zw_262 zw_264 zs_8 zw_2 zw_265 ⟨by decide +kernel, by decide, rfl, rfl⟩ hK hP hD ga_1 rfl rfl rfl hl.1 rfl (Nat.le_of_ble_eq_true rfl) zd_C_count_17 ⟨Nat.zero_le _, Nat.zero_le _⟩) hD hS hA (fun z_17 F_17 A_17 H locs hq_17 hP hD hS => ?_)
    obtain ⟨hf_17, ha_17, hq_17⟩ := hq_17
    rw [hf_17, ha_17] at hP hD
    have b17_ : z_17 = 0 ∨ z_17 = 1 := by rw [hq_17]; split <;> simp
    refine x_if_eq (tgt := 33) hx hb zd_C_count_20 (by decide) (⟨by omega, by omega⟩) (fun h_20 => ?_) (fun h_20 => ?_)
    · refine lv_aload_n hx hb zd_C_count_33 rfl (lv_at hl 0 rfl) ?_
      refine va_get (D := D) (ci := 0) (v := .ref (q 1)) (C := zR_C) (T := zT_C) (N := 4) hx hb hts zi_C hown hK.1 hP 0 ga_0 rfl 0 (by decide) (hts _ zw_185) (fun _ h9 => h9) rfl zd_C_count_34 ?_
      refine z_goi (z_runVN (n := 0) (k := 1) (ci := 1) (As := []) (rest := []) S (c_N_isGreat l D q c _ F A (by first | assumption | omega | exact ⟨by omega, by omega⟩) (fun a h0 h1 => (hact a h0 h1).1)) zw_266 zw_268 zs_9 zw_2 zw_269 ⟨by decide +kernel, by decide, rfl, rfl⟩ hK hP hD ga_1 rfl rfl rfl hl.1 rfl (Nat.le_of_ble_eq_true rfl) zd_C_count_37 ⟨Nat.zero_le _, Nat.zero_le _⟩) hD hS hA (fun z_37 F_37 A_37 H locs hq_37 hP hD hS => ?_)
      obtain ⟨hf_37, ha_37, hq_37⟩ := hq_37
      rw [hf_37, ha_37] at hP hD
      have b37_ : z_37 = 0 ∨ z_37 = 1 := by rw [hq_37]; split <;> simp
      refine x_if_eq (tgt := 53) hx hb zd_C_count_40 (by decide) (⟨by omega, by omega⟩) (fun h_40 => ?_) (fun h_40 => ?_)
      · refine lv_aload_n hx hb zd_C_count_53 rfl (lv_at hl 0 rfl) ?_
        refine va_get (D := D) (ci := 0) (v := .ref (q 1)) (C := zR_C) (T := zT_C) (N := 4) hx hb hts zi_C hown hK.1 hP 0 ga_0 rfl 0 (by decide) (hts _ zw_185) (fun _ h9 => h9) rfl zd_C_count_54 ?_
        refine va_getN (D := D) (ci := 1) (v := .ref (q 7)) (C := zR_N) (T := zT_N) (N := 11) hx hb hts zi_N hown hK.1 hP 1 ga_1 rfl 4 (by decide) (zNW.use hK.2 zw_50) (fun _ h9 => h9) rfl zd_C_count_57 ?_
        refine lv_iload_n hx hb zd_C_count_60 rfl (lv_at hl 1 rfl) ?_
        refine x_iald (v := A 7 a) hx hb hK.1 hP 7 0 ga_7 rfl (by decide) (by rw [hq_5] at h_8; split at h_8 <;> omega) (by rw [hq_5] at h_8; split at h_8 <;> omega) (rfl) zd_C_count_61 ?_
        exact ret _ _ _ _ _ _ _ zd_C_count_62 hP hD hS (⟨rfl, rfl, fun _ => rfl, fun h => absurd (by rw [hq_5] at h_8; split at h_8 <;> omega) h⟩)
      · exact absurd h_40 (by rw [hq_37, if_neg (by have := (hok (by rw [hq_5] at h_8; split at h_8 <;> omega)).2; omega)]; simp)
    · exact absurd h_20 (by rw [hq_17, if_pos (hok (by rw [hq_5] at h_8; split at h_8 <;> omega)).1]; simp)
  · refine lv_iconst (v := iI (-1)) hx hb zd_C_count_11 rfl ?_
    exact ret _ _ _ _ _ _ _ zd_C_count_12 hP hD hS (⟨rfl, rfl, fun h => by rw [if_pos h] at hq_5; omega, fun _ => rfl⟩)

abbrev zr_C_count_ise : Room := ({ frames := 6, cells := 1, slots := 6, locals := 90 } : Room)
set_option maxHeartbeats 4000000 in
set_option maxRecDepth 100000 in
theorem c_C_count_ise (l : Launch) (hfl : l.stackTraces = false) (D : va_G) (q : Nat → Nat) (c : Nat → ClassId) (sz : Nat) (F : Nat → Int) (A : Nat → Int → Int) (a : Int) (ba : ib a) (hn : 1 ≤ F 100 ∧ F 100 ≤ 8) (hc : 0 ≤ F 101 ∧ F 101 ≤ 14) (hact : ∀ a, 0 ≤ a → a < 8 → (1 ≤ A 7 a ∧ A 7 a ≤ 4782969) ∧ 0 ≤ A 8 a ∧ A 8 a < 8) (hu : ib (F 102)) (ha : (0 ≤ a ∧ a < F 100)) (hne : F 102 ≠ -1) : zMT l zy_C_count zc_C_count 2 (some .int) zr_C_count_ise D q c sz [.ref (q 0), .int (iI (a))] F A "java/lang/IllegalStateException" (fun F1 A1 => F1 = F ∧ A1 = A) := by
  refine z_ofT (by decide) (Nat.le_of_ble_eq_true rfl) (by decide) hfl ?_
  intro p e s m args below meth c0 A0 Q C0 ret hP hD hS ls hl
  obtain ⟨S, hK, hA⟩ := C0
  have hx := S.1
  have hb := S.2.1
  have hown := S.2.2.2.1
  have hts : ∀ w ∈ zG, w.before args s = true := fun w h => S.2.2.2.2 w (List.mem_cons_of_mem _ h)
  have hl : lv_has ls 2 [(0, .ref (q 0)), (1, .int (iI (a)))] := hl
  refine lv_aload_n hx hb zd_C_count_0 rfl (lv_at hl 0 rfl) ?_
  refine va_get (D := D) (ci := 0) (v := .ref (q 1)) (C := zR_C) (T := zT_C) (N := 4) hx hb hts zi_C hown hK.1 hP 0 ga_0 rfl 0 (by decide) (hts _ zw_185) (fun _ h9 => h9) rfl zd_C_count_1 ?_
  refine lv_iload_n hx hb zd_C_count_4 rfl (lv_at hl 1 rfl) ?_
  refine z_goi (z_runVN (n := 1) (k := 1) (ci := 1) (As := [.int (iI (a))]) (rest := []) S (c_N_hasActor l D q c _ F A a (by first | assumption | omega | exact ⟨by omega, by omega⟩) (by first | assumption | omega | exact ⟨by omega, by omega⟩)) zw_214 zw_216 zs_2 zw_2 zw_217 ⟨by decide +kernel, by decide, rfl, rfl⟩ hK hP hD ga_1 rfl rfl rfl hl.1 rfl (Nat.le_of_ble_eq_true rfl) zd_C_count_5 ⟨Nat.zero_le _, Nat.zero_le _⟩) hD hS hA (fun z_5 F_5 A_5 H locs hq_5 hP hD hS => ?_)
  obtain ⟨hf_5, ha_5, hq_5⟩ := hq_5
  rw [hf_5, ha_5] at hP hD
  have b5_ : z_5 = 0 ∨ z_5 = 1 := by rw [hq_5]; split <;> simp
  refine x_if_ne (tgt := 13) hx hb zd_C_count_8 (by decide) (⟨by omega, by omega⟩) (fun h_8 => ?_) (fun h_8 => ?_)
  · refine lv_aload_n hx hb zd_C_count_13 rfl (lv_at hl 0 rfl) ?_
    refine va_get (D := D) (ci := 0) (v := .ref (q 1)) (C := zR_C) (T := zT_C) (N := 4) hx hb hts zi_C hown hK.1 hP 0 ga_0 rfl 0 (by decide) (hts _ zw_185) (fun _ h9 => h9) rfl zd_C_count_14 ?_
    refine z_goi (z_runVN (n := 0) (k := 1) (ci := 1) (As := []) (rest := []) S (c_N_isUneven l D q c _ F A (by first | assumption | omega | exact ⟨by omega, by omega⟩)) zw_262 zw_264 zs_8 zw_2 zw_265 ⟨by decide +kernel, by decide, rfl, rfl⟩ hK hP hD ga_1 rfl rfl rfl hl.1 rfl (Nat.le_of_ble_eq_true rfl) zd_C_count_17 ⟨Nat.zero_le _, Nat.zero_le _⟩) hD hS hA (fun z_17 F_17 A_17 H locs hq_17 hP hD hS => ?_)
    obtain ⟨hf_17, ha_17, hq_17⟩ := hq_17
    rw [hf_17, ha_17] at hP hD
    have b17_ : z_17 = 0 ∨ z_17 = 1 := by rw [hq_17]; split <;> simp
    refine x_if_eq (tgt := 33) hx hb zd_C_count_20 (by decide) (⟨by omega, by omega⟩) (fun h_20 => ?_) (fun h_20 => ?_)
    · exact absurd h_20 (by rw [hq_17, if_neg hne]; simp)
    · exact ret _ _ _ _ _ _ _ 73 _ _ _ _ th_ise th_s73 zd_C_count_23 zd_C_count_26 zd_C_count_27 zd_C_count_29 zd_C_count_32 hP hD hS (⟨rfl, rfl⟩) hl.1
  · exact absurd h_8 (by rw [hq_5, if_pos ha]; simp)

abbrev zr_C_count_ae : Room := ({ frames := 6, cells := 1, slots := 6, locals := 90 } : Room)
set_option maxHeartbeats 4000000 in
set_option maxRecDepth 100000 in
theorem c_C_count_ae (l : Launch) (hfl : l.stackTraces = false) (D : va_G) (q : Nat → Nat) (c : Nat → ClassId) (sz : Nat) (F : Nat → Int) (A : Nat → Int → Int) (a : Int) (ba : ib a) (hn : 1 ≤ F 100 ∧ F 100 ≤ 8) (hc : 0 ≤ F 101 ∧ F 101 ≤ 14) (hact : ∀ a, 0 ≤ a → a < 8 → (1 ≤ A 7 a ∧ A 7 a ≤ 4782969) ∧ 0 ≤ A 8 a ∧ A 8 a < 8) (hu : ib (F 102)) (ha : (0 ≤ a ∧ a < F 100)) (heq : F 102 = -1) (hgr : 400 < sI (A 7) (F 100)) : zMT l zy_C_count zc_C_count 2 (some .int) zr_C_count_ae D q c sz [.ref (q 0), .int (iI (a))] F A "java/lang/ArithmeticException" (fun F1 A1 => F1 = F ∧ A1 = A) := by
  refine z_ofT (by decide) (Nat.le_of_ble_eq_true rfl) (by decide) hfl ?_
  intro p e s m args below meth c0 A0 Q C0 ret hP hD hS ls hl
  obtain ⟨S, hK, hA⟩ := C0
  have hx := S.1
  have hb := S.2.1
  have hown := S.2.2.2.1
  have hts : ∀ w ∈ zG, w.before args s = true := fun w h => S.2.2.2.2 w (List.mem_cons_of_mem _ h)
  have hl : lv_has ls 2 [(0, .ref (q 0)), (1, .int (iI (a)))] := hl
  refine lv_aload_n hx hb zd_C_count_0 rfl (lv_at hl 0 rfl) ?_
  refine va_get (D := D) (ci := 0) (v := .ref (q 1)) (C := zR_C) (T := zT_C) (N := 4) hx hb hts zi_C hown hK.1 hP 0 ga_0 rfl 0 (by decide) (hts _ zw_185) (fun _ h9 => h9) rfl zd_C_count_1 ?_
  refine lv_iload_n hx hb zd_C_count_4 rfl (lv_at hl 1 rfl) ?_
  refine z_goi (z_runVN (n := 1) (k := 1) (ci := 1) (As := [.int (iI (a))]) (rest := []) S (c_N_hasActor l D q c _ F A a (by first | assumption | omega | exact ⟨by omega, by omega⟩) (by first | assumption | omega | exact ⟨by omega, by omega⟩)) zw_214 zw_216 zs_2 zw_2 zw_217 ⟨by decide +kernel, by decide, rfl, rfl⟩ hK hP hD ga_1 rfl rfl rfl hl.1 rfl (Nat.le_of_ble_eq_true rfl) zd_C_count_5 ⟨Nat.zero_le _, Nat.zero_le _⟩) hD hS hA (fun z_5 F_5 A_5 H locs hq_5 hP hD hS => ?_)
  obtain ⟨hf_5, ha_5, hq_5⟩ := hq_5
  rw [hf_5, ha_5] at hP hD
  have b5_ : z_5 = 0 ∨ z_5 = 1 := by rw [hq_5]; split <;> simp
  refine x_if_ne (tgt := 13) hx hb zd_C_count_8 (by decide) (⟨by omega, by omega⟩) (fun h_8 => ?_) (fun h_8 => ?_)
  · refine lv_aload_n hx hb zd_C_count_13 rfl (lv_at hl 0 rfl) ?_
    refine va_get (D := D) (ci := 0) (v := .ref (q 1)) (C := zR_C) (T := zT_C) (N := 4) hx hb hts zi_C hown hK.1 hP 0 ga_0 rfl 0 (by decide) (hts _ zw_185) (fun _ h9 => h9) rfl zd_C_count_14 ?_
    refine z_goi (z_runVN (n := 0) (k := 1) (ci := 1) (As := []) (rest := []) S (c_N_isUneven l D q c _ F A (by first | assumption | omega | exact ⟨by omega, by omega⟩)) zw_262 zw_264 zs_8 zw_2 zw_265 ⟨by decide +kernel, by decide, rfl, rfl⟩ hK hP hD ga_1 rfl rfl rfl hl.1 rfl (Nat.le_of_ble_eq_true rfl) zd_C_count_17 ⟨Nat.zero_le _, Nat.zero_le _⟩) hD hS hA (fun z_17 F_17 A_17 H locs hq_17 hP hD hS => ?_)
    obtain ⟨hf_17, ha_17, hq_17⟩ := hq_17
    rw [hf_17, ha_17] at hP hD
    have b17_ : z_17 = 0 ∨ z_17 = 1 := by rw [hq_17]; split <;> simp
    refine x_if_eq (tgt := 33) hx hb zd_C_count_20 (by decide) (⟨by omega, by omega⟩) (fun h_20 => ?_) (fun h_20 => ?_)
    · refine lv_aload_n hx hb zd_C_count_33 rfl (lv_at hl 0 rfl) ?_
      refine va_get (D := D) (ci := 0) (v := .ref (q 1)) (C := zR_C) (T := zT_C) (N := 4) hx hb hts zi_C hown hK.1 hP 0 ga_0 rfl 0 (by decide) (hts _ zw_185) (fun _ h9 => h9) rfl zd_C_count_34 ?_
      refine z_goi (z_runVN (n := 0) (k := 1) (ci := 1) (As := []) (rest := []) S (c_N_isGreat l D q c _ F A (by first | assumption | omega | exact ⟨by omega, by omega⟩) (fun a h0 h1 => (hact a h0 h1).1)) zw_266 zw_268 zs_9 zw_2 zw_269 ⟨by decide +kernel, by decide, rfl, rfl⟩ hK hP hD ga_1 rfl rfl rfl hl.1 rfl (Nat.le_of_ble_eq_true rfl) zd_C_count_37 ⟨Nat.zero_le _, Nat.zero_le _⟩) hD hS hA (fun z_37 F_37 A_37 H locs hq_37 hP hD hS => ?_)
      obtain ⟨hf_37, ha_37, hq_37⟩ := hq_37
      rw [hf_37, ha_37] at hP hD
      have b37_ : z_37 = 0 ∨ z_37 = 1 := by rw [hq_37]; split <;> simp
      refine x_if_eq (tgt := 53) hx hb zd_C_count_40 (by decide) (⟨by omega, by omega⟩) (fun h_40 => ?_) (fun h_40 => ?_)
      · exact absurd h_40 (by rw [hq_37, if_pos hgr]; simp)
      · exact ret _ _ _ _ _ _ _ 83 _ _ _ _ th_ae th_s83 zd_C_count_43 zd_C_count_46 zd_C_count_47 zd_C_count_49 zd_C_count_52 hP hD hS (⟨rfl, rfl⟩) hl.1
    · exact absurd h_20 (by rw [hq_17, if_pos heq]; simp)
  · exact absurd h_8 (by rw [hq_5, if_pos ha]; simp)

abbrev zr_C_order : Room := ({ frames := 4, cells := 0, slots := 0, locals := 95 } : Room)
set_option maxHeartbeats 4000000 in
set_option maxRecDepth 100000 in
theorem c_C_order (l : Launch) (D : va_G) (q : Nat → Nat) (c : Nat → ClassId) (sz : Nat) (F : Nat → Int) (A : Nat → Int → Int) (a : Int) (ba : ib a) (hn : 1 ≤ F 100 ∧ F 100 ≤ 8) (hc : 0 ≤ F 101 ∧ F 101 ≤ 14) (hact : ∀ a, 0 ≤ a → a < 8 → (1 ≤ A 7 a ∧ A 7 a ≤ 4782969) ∧ 0 ≤ A 8 a ∧ A 8 a < 8) (hch : ∀ k, 0 ≤ k → k < F 101 → (0 ≤ A 9 k ∧ A 9 k < F 100) ∧ (0 ≤ A 10 k ∧ A 10 k < F 100) ∧ (1 ≤ A 11 k ∧ A 11 k ≤ 9) ∧ (1 ≤ A 12 k ∧ A 12 k ≤ 9) ∧ 0 ≤ A 13 k ∧ A 13 k ≤ 99) (hkn : (F 200 = 0 ∨ F 200 = 1) ∧ (F 200 = 1 → RdOK F A)) (hu : ib (F 102)) (hpl : F 102 = -1 ∧ sI (A 7) (F 100) ≤ 400) (hin : ∀ F9 A9, (∀ j, j ≠ 200 → j ≠ 201 → F9 j = F j) → (∀ k, k ≠ 14 → k ≠ 15 → k ≠ 16 → k ≠ 17 → A9 k = A k) → RdOK F9 A9 → 0 ≤ a ∧ a < F9 201) : zMI l zy_C_order zc_C_order 2 (some .int) zr_C_order D q c sz [.ref (q 0), .int (iI (a))] F A (fun z F1 A1 => ((∀ j, j ≠ 200 → j ≠ 201 → F1 j = F j) ∧ (∀ k, k ≠ 14 → k ≠ 15 → k ≠ 16 → k ≠ 17 → A1 k = A k)) ∧ F1 200 = 1 ∧ RdOK F1 A1 ∧ z = A1 14 a) := by
  refine z_ofI (by decide) (Nat.le_of_ble_eq_true rfl) ?_
  intro p e s m args below meth c0 A0 Q C0 ret hP hD hS ls hl
  obtain ⟨S, hK, hA⟩ := C0
  have hx := S.1
  have hb := S.2.1
  have hown := S.2.2.2.1
  have hts : ∀ w ∈ zG, w.before args s = true := fun w h => S.2.2.2.2 w (List.mem_cons_of_mem _ h)
  have hl : lv_has ls 2 [(0, .ref (q 0)), (1, .int (iI (a)))] := hl
  refine lv_aload_n hx hb zd_C_order_0 rfl (lv_at hl 0 rfl) ?_
  refine z_goi (z_runV (n := 0) (k := 0) (ci := 0) (As := []) (rest := []) S (c_C_findRound l D q c _ F A (by first | assumption | omega | exact ⟨by omega, by omega⟩) (by first | assumption | omega | exact ⟨by omega, by omega⟩) (by first | assumption | omega | exact ⟨by omega, by omega⟩) (by first | assumption | omega | exact ⟨by omega, by omega⟩) (by first | assumption | omega | exact ⟨by omega, by omega⟩) (by first | assumption | omega | exact ⟨by omega, by omega⟩)) zw_258 zw_260 zs_7 zw_1 zw_261 ⟨by decide +kernel, by decide, rfl, rfl⟩ hK hP hD ga_0 rfl rfl rfl hl.1 rfl (Nat.le_of_ble_eq_true rfl) zd_C_order_1 ⟨Nat.zero_le _, Nat.zero_le _⟩) hD hS hA (fun z_1 F_1 A_1 H locs hq_1 hP hD hS => ?_)
  obtain ⟨r1, r2, r3, r4, r5⟩ := hq_1
  refine x_if_eq (tgt := 24) hx hb zd_C_order_4 (by decide) (⟨by omega, by omega⟩) (fun h_4 => ?_) (fun h_4 => ?_)
  · exact absurd (r2.mpr hpl) (by omega)
  · have hr_ := r4 (by omega)
    have hi_ := hin F_1 A_1 r3.1 r3.2 hr_.2
    have hd_ := hr_.2.1
    refine lv_iload_n hx hb zd_C_order_7 rfl (lv_at hl 1 rfl) ?_
    refine lv_iconst (v := iI (0)) hx hb zd_C_order_8 rfl ?_
    refine lv_aload_n hx hb zd_C_order_9 rfl (lv_at hl 0 rfl) ?_
    refine va_get (D := D) (ci := 0) (v := .ref (q 2)) (C := zR_C) (T := zT_C) (N := 4) hx hb hts zi_C hown hK.1 hP 0 ga_0 rfl 1 (by decide) (hts _ zw_186) (fun _ h9 => h9) rfl zd_C_order_10 ?_
    refine va_getN (D := D) (ci := 2) (v := .int (iI (F_1 201))) (C := zR_U) (T := zT_U) (N := 6) hx hb hts zi_U hown hK.1 hP 2 ga_2 rfl 1 (by decide) (zNW.use hK.2 zw_103) (fun _ h9 => h9) rfl zd_C_order_13 ?_
    refine lv_iconst (v := iI (1)) hx hb zd_C_order_16 rfl ?_
    refine x_isub hx hb zd_C_order_17 ?_
    refine z_goi (z_runS (n := 3) (As := [.int (iI (a)), .int (iI (0)), .int (iI ((F_1 201) - 1))]) (rest := []) S (c_C_isWithin l D q c _ F_1 A_1 a 0 ((F_1 201) - 1) (by first | assumption | omega | exact ⟨by omega, by omega⟩) (by first | assumption | omega | exact ⟨by omega, by omega⟩) (by first | assumption | omega | exact ⟨by omega, by omega⟩)) zw_202 zw_203 zw_1 zw_204 ⟨by decide +kernel, by decide, rfl, rfl⟩ rfl hK hP hD rfl hl.1 rfl (Nat.le_of_ble_eq_true rfl) zd_C_order_18 ⟨Nat.zero_le _, Nat.zero_le _⟩) hD hS hA (fun z_18 F_18 A_18 H locs hq_18 hP hD hS => ?_)
    obtain ⟨hf_18, ha_18, hq_18⟩ := hq_18
    rw [hf_18, ha_18] at hP hD
    have b18_ : z_18 = 0 ∨ z_18 = 1 := by rw [hq_18]; split <;> simp
    refine x_if_ne (tgt := 34) hx hb zd_C_order_21 (by decide) (⟨by omega, by omega⟩) (fun h_21 => ?_) (fun h_21 => ?_)
    · refine lv_aload_n hx hb zd_C_order_34 rfl (lv_at hl 0 rfl) ?_
      refine va_get (D := D) (ci := 0) (v := .ref (q 2)) (C := zR_C) (T := zT_C) (N := 4) hx hb hts zi_C hown hK.1 hP 0 ga_0 rfl 1 (by decide) (hts _ zw_186) (fun _ h9 => h9) rfl zd_C_order_35 ?_
      refine va_getN (D := D) (ci := 2) (v := .ref (q 14)) (C := zR_U) (T := zT_U) (N := 6) hx hb hts zi_U hown hK.1 hP 2 ga_2 rfl 2 (by decide) (zNW.use hK.2 zw_105) (fun _ h9 => h9) rfl zd_C_order_38 ?_
      refine lv_iload_n hx hb zd_C_order_41 rfl (lv_at hl 1 rfl) ?_
      refine x_iald (v := A_1 14 a) hx hb hK.1 hP 14 0 ga_14 rfl (by decide) (by omega) (by omega) (rfl) zd_C_order_42 ?_
      exact ret _ _ _ _ _ _ _ zd_C_order_43 hP hD hS (⟨r3, hr_.1, hr_.2, rfl⟩)
    · exact absurd h_21 (by rw [hq_18, if_pos (by omega)]; simp)

abbrev zr_C_order_nse : Room := ({ frames := 6, cells := 1, slots := 6, locals := 95 } : Room)
set_option maxHeartbeats 4000000 in
set_option maxRecDepth 100000 in
theorem c_C_order_nse (l : Launch) (hfl : l.stackTraces = false) (D : va_G) (q : Nat → Nat) (c : Nat → ClassId) (sz : Nat) (F : Nat → Int) (A : Nat → Int → Int) (a : Int) (ba : ib a) (hn : 1 ≤ F 100 ∧ F 100 ≤ 8) (hc : 0 ≤ F 101 ∧ F 101 ≤ 14) (hact : ∀ a, 0 ≤ a → a < 8 → (1 ≤ A 7 a ∧ A 7 a ≤ 4782969) ∧ 0 ≤ A 8 a ∧ A 8 a < 8) (hch : ∀ k, 0 ≤ k → k < F 101 → (0 ≤ A 9 k ∧ A 9 k < F 100) ∧ (0 ≤ A 10 k ∧ A 10 k < F 100) ∧ (1 ≤ A 11 k ∧ A 11 k ≤ 9) ∧ (1 ≤ A 12 k ∧ A 12 k ≤ 9) ∧ 0 ≤ A 13 k ∧ A 13 k ≤ 99) (hkn : (F 200 = 0 ∨ F 200 = 1) ∧ (F 200 = 1 → RdOK F A)) (hu : ib (F 102)) (hno : F 102 = -1 ∧ sI (A 7) (F 100) ≤ 400 → ∀ F9 A9, (∀ j, j ≠ 200 → j ≠ 201 → F9 j = F j) → (∀ k, k ≠ 14 → k ≠ 15 → k ≠ 16 → k ≠ 17 → A9 k = A k) → RdOK F9 A9 → ¬ (0 ≤ a ∧ a < F9 201)) : zMT l zy_C_order zc_C_order 2 (some .int) zr_C_order_nse D q c sz [.ref (q 0), .int (iI (a))] F A "java/util/NoSuchElementException" (fun F1 A1 => ((∀ j, j ≠ 200 → j ≠ 201 → F1 j = F j) ∧ (∀ k, k ≠ 14 → k ≠ 15 → k ≠ 16 → k ≠ 17 → A1 k = A k)) ∧ ((F 102 = -1 ∧ sI (A 7) (F 100) ≤ 400) → F1 200 = 1 ∧ RdOK F1 A1) ∧ (¬ (F 102 = -1 ∧ sI (A 7) (F 100) ≤ 400) → F1 = F ∧ A1 = A)) := by
  refine z_ofT (by decide) (Nat.le_of_ble_eq_true rfl) (by decide) hfl ?_
  intro p e s m args below meth c0 A0 Q C0 ret hP hD hS ls hl
  obtain ⟨S, hK, hA⟩ := C0
  have hx := S.1
  have hb := S.2.1
  have hown := S.2.2.2.1
  have hts : ∀ w ∈ zG, w.before args s = true := fun w h => S.2.2.2.2 w (List.mem_cons_of_mem _ h)
  have hl : lv_has ls 2 [(0, .ref (q 0)), (1, .int (iI (a)))] := hl
  refine lv_aload_n hx hb zd_C_order_0 rfl (lv_at hl 0 rfl) ?_
  refine z_goi (z_runV (n := 0) (k := 0) (ci := 0) (As := []) (rest := []) S (c_C_findRound l D q c _ F A (by first | assumption | omega | exact ⟨by omega, by omega⟩) (by first | assumption | omega | exact ⟨by omega, by omega⟩) (by first | assumption | omega | exact ⟨by omega, by omega⟩) (by first | assumption | omega | exact ⟨by omega, by omega⟩) (by first | assumption | omega | exact ⟨by omega, by omega⟩) (by first | assumption | omega | exact ⟨by omega, by omega⟩)) zw_258 zw_260 zs_7 zw_1 zw_261 ⟨by decide +kernel, by decide, rfl, rfl⟩ hK hP hD ga_0 rfl rfl rfl hl.1 rfl (Nat.le_of_ble_eq_true rfl) zd_C_order_1 ⟨Nat.zero_le _, Nat.zero_le _⟩) hD hS hA (fun z_1 F_1 A_1 H locs hq_1 hP hD hS => ?_)
  obtain ⟨r1, r2, r3, r4, r5⟩ := hq_1
  refine x_if_eq (tgt := 24) hx hb zd_C_order_4 (by decide) (⟨by omega, by omega⟩) (fun h_4 => ?_) (fun h_4 => ?_)
  · exact ret _ _ _ _ _ _ _ 97 _ _ _ _ th_nse th_s97 zd_C_order_24 zd_C_order_27 zd_C_order_28 zd_C_order_30 zd_C_order_33 hP hD hS (by first | exact ⟨r3, fun h => absurd (r2.mpr h) (by omega), fun _ => r5 h_4⟩ | exact ⟨r3, fun _ => hr_, fun h => absurd (r2.mp (by omega)) h⟩) hl.1
  · have hr_ := r4 (by omega)
    have hi_ := hno (r2.mp (by omega)) F_1 A_1 r3.1 r3.2 hr_.2
    have hd_ := hr_.2.1
    refine lv_iload_n hx hb zd_C_order_7 rfl (lv_at hl 1 rfl) ?_
    refine lv_iconst (v := iI (0)) hx hb zd_C_order_8 rfl ?_
    refine lv_aload_n hx hb zd_C_order_9 rfl (lv_at hl 0 rfl) ?_
    refine va_get (D := D) (ci := 0) (v := .ref (q 2)) (C := zR_C) (T := zT_C) (N := 4) hx hb hts zi_C hown hK.1 hP 0 ga_0 rfl 1 (by decide) (hts _ zw_186) (fun _ h9 => h9) rfl zd_C_order_10 ?_
    refine va_getN (D := D) (ci := 2) (v := .int (iI (F_1 201))) (C := zR_U) (T := zT_U) (N := 6) hx hb hts zi_U hown hK.1 hP 2 ga_2 rfl 1 (by decide) (zNW.use hK.2 zw_103) (fun _ h9 => h9) rfl zd_C_order_13 ?_
    refine lv_iconst (v := iI (1)) hx hb zd_C_order_16 rfl ?_
    refine x_isub hx hb zd_C_order_17 ?_
    refine z_goi (z_runS (n := 3) (As := [.int (iI (a)), .int (iI (0)), .int (iI ((F_1 201) - 1))]) (rest := []) S (c_C_isWithin l D q c _ F_1 A_1 a 0 ((F_1 201) - 1) (by first | assumption | omega | exact ⟨by omega, by omega⟩) (by first | assumption | omega | exact ⟨by omega, by omega⟩) (by first | assumption | omega | exact ⟨by omega, by omega⟩)) zw_202 zw_203 zw_1 zw_204 ⟨by decide +kernel, by decide, rfl, rfl⟩ rfl hK hP hD rfl hl.1 rfl (Nat.le_of_ble_eq_true rfl) zd_C_order_18 ⟨Nat.zero_le _, Nat.zero_le _⟩) hD hS hA (fun z_18 F_18 A_18 H locs hq_18 hP hD hS => ?_)
    obtain ⟨hf_18, ha_18, hq_18⟩ := hq_18
    rw [hf_18, ha_18] at hP hD
    have b18_ : z_18 = 0 ∨ z_18 = 1 := by rw [hq_18]; split <;> simp
    refine x_if_ne (tgt := 34) hx hb zd_C_order_21 (by decide) (⟨by omega, by omega⟩) (fun h_21 => ?_) (fun h_21 => ?_)
    · exact absurd h_21 (by rw [hq_18, if_neg (by omega)]; simp)
    · exact ret _ _ _ _ _ _ _ 97 _ _ _ _ th_nse th_s97 zd_C_order_24 zd_C_order_27 zd_C_order_28 zd_C_order_30 zd_C_order_33 hP hD hS (by first | exact ⟨r3, fun h => absurd (r2.mpr h) (by omega), fun _ => r5 h_4⟩ | exact ⟨r3, fun _ => hr_, fun h => absurd (r2.mp (by omega)) h⟩) hl.1
