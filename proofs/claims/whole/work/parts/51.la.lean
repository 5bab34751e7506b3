/-! Catches: the search through a method's own handlers, whose classes may not be resolved yet -/
theorem th_go {E : CtlPost} {e : Env} {d : Bool} {acts : List Action} {s : State} {f : JFrame} {a : Addr} {Q : Handler → Pre} {x : ExceptionTableEntry} {t : List ExceptionTableEntry} {c : ClassId} {cell : Cell} {vm' : Vm} (hx : covers x f.pc = true) (h0 : x.catchType ≠ 0)
    (hg : (resolveClass f.method.cls x.catchType).Gives e.toSetting s.vm (.ok c) vm') (hsz : vm'.classes.size ≤ s.vm.classes.size) (hcell : s.heap[a]? = some cell) (hobj : ∀ k, cell.vm ≠ .statics k) (hk : ∃ k, vm'.classes[cell.cls]? = some k) (hc : ∃ k, vm'.classes[c]? = some k) :
    wp (findHandler.go f a (x :: t)) Q E e d acts s ↔ if vm'.assignable cell.cls c = true then Q (.found x.handlerPc) d acts (s.setVm vm') else wp (findHandler.go f a t) Q E e d acts (s.setVm vm') := by
  simp only [covers] at hx
  obtain ⟨ha, ht⟩ := hg.op (op := VmOp.resolveClass f.method.cls x.catchType) rfl
  cases hfit : vm'.assignable cell.cls c <;>
    simp [findHandler.go, hx, h0, ha, ht, hsz, hcell, hobj, hk, hc, hfit, VmOp.dirties, VmOp.acts]
/-- the search comes to the handler at pc, with the tables noted -/
def thF (s : State) (e : Env) (T : State) (f : JFrame) (a : Addr) (t : List ExceptionTableEntry) (pc : Nat) : Prop := ∃ vm', s.WarmedH vm' ∧ ∀ (Q : Handler → Pre) (E : CtlPost) (d : Bool) (acts : List Action), wp (findHandler.go f a t) Q E e d acts T ↔ Q (.found pc) d acts (T.setVm vm')
section THF
variable {s T : State} {e : Env} {f : JFrame} {a : Addr} {t : List ExceptionTableEntry} {args : Array Value} {own X C : String} {cell : Cell} {x : ExceptionTableEntry}
theorem th_look (hW : s.WarmedH T.vm) (hpl : e.platform.magicAccessors = ({} : Platform).magicAccessors) (hown : s.vm.findClass own = some f.method.cls) (hcl : (Cond.classLink own x.catchType C).before args s = true) (hcell : T.heap[a]? = some cell) (hvm : cell.vm = .none) (hcx : s.vm.findClass X = some cell.cls) (hx : covers x f.pc = true) (h0 : x.catchType ≠ 0) :
    ∃ (c : ClassId) (vm' : Vm), s.vm.findClass C = some c ∧ s.WarmedH vm' ∧ ∀ (Q : Handler → Pre) (E : CtlPost) (d : Bool) (acts : List Action), wp (findHandler.go f a (x :: t)) Q E e d acts T ↔ if s.vm.assignable cell.cls c = true then Q (.found x.handlerPc) d acts (T.setVm vm') else wp (findHandler.go f a t) Q E e d acts (T.setVm vm') := by
  obtain ⟨c, h1, h2⟩ := Cond.classLink_spec hown hcl e.platform hpl
  obtain ⟨g1, g2, -⟩ := State.classEntry (e := e) hW h2
  refine ⟨c, _, h1, g2, fun Q E d acts => ?_⟩
  have hsz : (T.vm.noted f.method.cls x.catchType (.cls c)).classes.size ≤ T.vm.classes.size := by no_record
  rw [th_go (cell := cell) hx h0 g1 hsz hcell (fun k h => by rw [hvm] at h; cases h) (by
    obtain ⟨k, hk⟩ := Vm.classAt_of_findClass hcx
    obtain ⟨k', hk', -⟩ := g2.alike.2.2 _ _ hk
    exact ⟨k', hk'⟩) (by
    obtain ⟨k, hk⟩ := Vm.classAt_of_findClass h1
    obtain ⟨k', hk', -⟩ := g2.alike.2.2 _ _ hk
    exact ⟨k', hk'⟩), g2.alike.assignable]
theorem thF.hit (hW : s.WarmedH T.vm) (hpl : e.platform.magicAccessors = ({} : Platform).magicAccessors) (hown : s.vm.findClass own = some f.method.cls) (hcl : (Cond.classLink own x.catchType X).before args s = true) (hcell : T.heap[a]? = some cell) (hvm : cell.vm = .none) (hcx : s.vm.findClass X = some cell.cls) (hx : covers x f.pc = true) (h0 : x.catchType ≠ 0)
    (hself : ∃ c, s.vm.findClass X = some c ∧ s.vm.assignable c c = true) : thF s e T f a (x :: t) x.handlerPc := by
  obtain ⟨c, vm', h1, h2, h3⟩ := th_look (t := t) hW hpl hown hcl hcell hvm hcx hx h0
  obtain ⟨c9, k1, k2⟩ := hself
  obtain rfl := Option.some.inj (k1.symm.trans h1)
  obtain rfl := Option.some.inj (k1.symm.trans hcx)
  exact ⟨vm', h2, fun Q E d acts => by rw [h3 Q E d acts, if_pos k2]⟩
theorem thF.miss {pc : Nat} (hW : s.WarmedH T.vm) (hpl : e.platform.magicAccessors = ({} : Platform).magicAccessors) (hown : s.vm.findClass own = some f.method.cls) (hcl : (Cond.classLink own x.catchType C).before args s = true) (hcell : T.heap[a]? = some cell) (hvm : cell.vm = .none) (hcx : s.vm.findClass X = some cell.cls) (hx : covers x f.pc = true) (h0 : x.catchType ≠ 0)
    (hno : va_Nc X C s) (hrest : ∀ vm1, s.WarmedH vm1 → thF s e (T.setVm vm1) f a t pc) : thF s e T f a (x :: t) pc := by
  obtain ⟨c, vm', h1, h2, h3⟩ := th_look (t := t) hW hpl hown hcl hcell hvm hcx hx h0
  obtain ⟨c8, c9, k1, k2, k3⟩ := hno
  obtain rfl := Option.some.inj (k2.symm.trans h1)
  obtain rfl := Option.some.inj (k1.symm.trans hcx)
  obtain ⟨vm2, r1, r2⟩ := hrest vm' h2
  exact ⟨vm2, r1, fun Q E d acts => by rw [h3 Q E d acts, if_neg (by rw [k3]; decide), r2 Q E d acts]; rfl⟩
end THF
theorem th_step {e : Env} {s : State} {a : Addr} {f : JFrame} {r : List Frame} {pc : Nat} {vm' : Vm} (hf : ∀ (Q : Handler → Pre) (E : CtlPost) (d : Bool) (acts : List Action), wp (findHandler f a) Q E e d acts s ↔ Q (.found pc) d acts (s.setVm vm')) :
    (stepThrowing e s a (.java f :: r)).Is ((s.setVm vm').setFrames (.java { f with pc := pc, stack := [.ref a] } :: r)) [] := by
  simp only [stepThrowing, searchFrame, vmDo]
  generalize hr : Sem.go _ e false [] s = res
  obtain ⟨as, rfl, ha⟩ := Sem.eq_ok_of hr (a := Handler.found pc) (s' := s.setVm vm') (acts' := []) (by simp [hf _ _ _ _])
  exact ⟨rfl, ha⟩
section THC
variable {p : Program} {l : Launch} {e : Env} {R : Room} {s : State} {m : MethodId} {args : Array Value} {below : List Frame} {meth : Method} {c0 : Code} {T : State} {locs : List Loc} {cells slots : Nat}
theorem th_caught (Y : Stand p l e R s m args below meth c0 T locs cells slots) {a : Addr} {g : JFrame} (hg : g.method = m) {pc : Nat} (hf : thF s e ((T.setTop g).pushFrame (.throwing a)) g a c0.exceptionTable.toList pc) :
    ∃ vm', Stand p l e R s m args below meth c0 (T.setVm vm') locs cells slots ∧ ∀ target, Steps p.tables e below ((T.setVm vm').setTop { g with pc := pc, stack := [.ref a] }) target → Steps p.tables e below ((T.setTop g).pushFrame (.throwing a)) target := by
  obtain ⟨vm', h1, h2⟩ := hf
  refine ⟨vm', Y.noted h1, fun target hrest => ?_⟩
  subst hg
  have h := Y.here
  obtain ⟨hgo, hw⟩ := h.throwing a
  refine Steps.head hgo hw ?_
  have hfind : ∀ (Q : Handler → Pre) (E : CtlPost) (d : Bool) (acts : List Action), wp (findHandler g a) Q E e d acts ((T.setTop g).pushFrame (.throwing a)) ↔ Q (.found pc) d acts (((T.setTop g).pushFrame (.throwing a)).setVm vm') := fun Q E d acts => by
    rw [W.findHandler_eq (meth := meth) (code := c0) (by rw [Stand.throwing_vm]; exact Y.method') Y.code]
    exact h2 Q E d acts
  rw [stepThread_throwing (frames_entered h.top _), (th_step hfind).1]
  obtain ⟨g₀, hg⟩ := Option.isSome_iff_exists.mp h.top
  obtain ⟨r, hr⟩ := State.topJava?_eq_some.mp hg
  have hr2 : (T.setVm vm').frames = .java g₀ :: r := hr
  rw [State.setTop_of_frames _ hr2] at hrest
  rw [State.pushFrame, State.setTop_of_frames _ hr]
  rw [hr, State.setFrames_setFrames, show ∀ (fs : List Frame), (T.setFrames fs).setVm vm' = (T.setVm vm').setFrames fs from fun _ => rfl, State.setFrames_setFrames]
  exact hrest
/-- a call that throws X, into the method's own handler at hpc -/
theorem z_catch {Q : State → Prop} {H H0 : Heap} {cc bytes : ByteArray} {maxL nL n index : Nat} {ret : Option FieldType} {rm : Room} {w0 : Cond} {own X : String} {y : MethodName} {b : Addr} {As rest st0 : List Value} {pc hpc : Nat} {ls : Array Slot} {D : va_G} {q : Nat → Nat} {c : Nat → ClassId} {F : Nat → Int} {A : Nat → Int → Int} {A0 : Nat → Prop} {k ci : Nat} {r : vw_C} {fs : List Value} {post : (Nat → Int) → (Nat → Int → Int) → Prop}
    (S : CallFix p m c0 cc nL s args (w0 :: zG) own) (hM : zMT l y bytes maxL ret rm D q c H.size (.ref b :: As) F A X post)
    (h1 : Cond.methodLink own index y ∈ zG) (h2 : Cond.instanceMethod y ∈ zG) (h3 : Cond.selects y.cls y y ∈ zG) (h4 : Cond.initialized y.cls ∈ zG) (h5 : Cond.code y bytes maxL ret ∈ zG)
    (hd : (y.cls ≠ "java/lang/invoke/MethodHandle" ∧ y.cls ≠ "java/lang/invoke/VarHandle" ∧ (parseMethodDescriptor y.desc).map (fun d => d.parameters.length) = some n) ∧ (rm.frames + 1 ≤ R.frames ∧ 8 + (maxL + 11) + rm.locals ≤ R.locals) ∧ rm.cells = 1 ∧ rm.slots = 6)
    (hK : va_K D zcl (zty c) s ∧ zNW s) (hP : va_P D zcl (gw q c F A) H) (hD : va_D A0 (gw q c F A)) (hS : va_S A0 H0 H locs) (hA : ∀ x, H0.size ≤ x → A0 x) (hTH : ∀ U : State, U.heap = H → s.WarmedH U.vm → zTH U)
    (hk : (gw q c F A)[k]? = some (b, .inr (ci, fs))) (hc : zcl[ci]? = some r) (hr : r.1 = y.cls) (hn : As.length = n) (hsz : ls.size = nL) (hst : st0 = As.reverse ++ .ref b :: rest) (hW : (rest.map fun v => v.category).sum ≤ 8) (hdg : decode cc pc = .ok (.invokevirtual index, 3)) (hf : cells + 1 ≤ R.cells ∧ slots + 6 ≤ R.slots)
    (hfind : ∀ (T : State) (x : Addr) (ce : Cell), s.WarmedH T.vm → T.heap[x]? = some ce → ce.vm = .none → s.vm.findClass X = some ce.cls → thF s e T (F0 m pc ls rest) x c0.exceptionTable.toList hpc)
    (kk : ∀ (x : Addr) (F1 : Nat → Int) (A1 : Nat → Int → Int) (H1 : Heap) (locs1 : List Loc), post F1 A1 → va_P D zcl (gw q c F1 A1) H1 → va_D A0 (gw q c F1 A1) → va_S A0 H0 H1 locs1 → W p l e R s m args below meth c0 H1 locs1 (cells + 1) (slots + 6) Q (F0 m hpc ls [.ref x])) : W p l e R s m args below meth c0 H locs cells slots Q (F0 m pc ls st0) := by
  obtain ⟨hexec, hb, hml, hown, hts0⟩ := S
  have hts : ∀ w ∈ zG, w.before args s = true := fun w h => hts0 w (List.mem_cons_of_mem _ h)
  obtain ⟨hy, ⟨hrf, hrl⟩, hrc, hrs⟩ := hd
  subst hb
  have hws : ∀ w ∈ Cond.code y bytes maxL ret :: zG, ∀ (a' : Array Value) (U : State), s.WarmedH U.vm → w.before a' U = true := fun w hw a' U hU => word_at hU (z_gS (w0 := w0) h5 w hw).2 (hts0 w (z_gS (w0 := w0) h5 w hw).1)
  have hBk : BackT l R p e below s args y 3 8 (fun B a => B.cells + 1 ≤ R.cells ∧ B.slots + 6 ≤ R.slots ∧ va_Pc (.ref b :: As) (fun U => zB D q c F A H.size U ∧ zTH U) a B.U)
      (fun B a v B1 => ∃ (g : JFrame) (mk : MethodId) (t : State) (L : List Loc), B1.U.heap = t.heap ∧ B1.U.vm = t.vm ∧ zQT D q c (va_A (gw q c F A) H.size) X post (B.U.calling g mk a) (.threw v) t ∧ B1.locs = B.locs ++ L ∧ (∀ z ∈ L, va_A (gw q c F A) H.size z.base) ∧ B1.cells = B.cells + 1 ∧ B1.slots = B.slots + 6) := by
    refine BackT.of_free (bytes := bytes) (maxL := maxL) (ret := ret) (E := fun _ _ _ _ L k n => k = 1 ∧ n = 6 ∧ ∀ z ∈ L, va_A (gw q c F A) H.size z.base) hM hrf hrl ?_ ?_ (fun _ _ _ _ _ _ _ _ _ => trivial) ?_ ?_
    · intro m' meth' c' B a Y hp
      exact ⟨atoms_intro fun w hw => hws w hw _ _ Y.warmed, hws _ List.mem_cons_self _ _ Y.warmed, word_at Y.warmed (Or.inl (by first | rfl | simp [Cond.onTables, Cond.keeps, Cond.steady])) (hts _ h4), by rw [show (headSpec (Cond.code y bytes maxL ret :: zG) rm).room.cells = 1 from hrc]; exact hp.1, by rw [show (headSpec (Cond.code y bytes maxL ret :: zG) rm).room.slots = 6 from hrs]; exact hp.2.1⟩
    · intro m' meth' c' B a g mk Y hp
      have h9 := z_blind (D := D) (q := q) (c := c) (F := F) (A := A) (sz := H.size) (av := .ref b :: As) a B.U g mk ⟨hp.2.2.1, hp.2.2.2.1⟩
      exact ⟨h9.1, h9.2, hp.2.2.2.2.move (State.WarmedH.refl _) (fun _ _ => rfl)⟩
    · intro a first o t h9
      obtain ⟨hq, L, hF, hL⟩ := h9
      exact ⟨L, 1, 6, hF, rfl, rfl, hL⟩
    · intro m' meth' c' B a g mk v t L k n Y hp hq hF hE
      obtain ⟨rfl, rfl, hL⟩ := hE
      exact ⟨g, mk, t, L, rfl, rfl, hq.1, rfl, hL, rfl, rfl⟩
  intro T hT Y
  subst hT
  obtain ⟨cellB, hcB, hoB, hclB⟩ := va_recv hK.1 hP hc hk
  rw [hr] at hclB
  obtain ⟨mk, methM, hnamed, hmethM, hstM, habM⟩ := Cond.instanceMethod_spec (hts _ h2)
  obtain ⟨methM', cM, hmethM', -, -, -, -, -, -, hsigM⟩ := Cond.code_spec hnamed (hts _ h5)
  obtain rfl := Option.some.inj (hmethM.symm.trans hmethM')
  obtain ⟨c2, r2, m2, q1, q2, q3, q4, kP, hkP, hkPi⟩ := Cond.selects_spec (hts _ h3)
  obtain rfl := Option.some.inj (hclB.symm.trans q1)
  obtain rfl := Option.some.inj ((State.methodFound?_of_named hnamed ⟨hy.1, hy.2.1⟩).symm.trans q2)
  obtain rfl := Option.some.inj (hnamed.symm.trans q3)
  have hlen : As.length = methM.sig.parameters.length := by
    have h9 := hy.2.2
    rw [hsigM] at h9
    rw [hn]
    exact (Option.some.inj h9).symm
  obtain ⟨vm1, Y1, st1⟩ := Y.invokevirtual hexec hown (hts _ h1) hnamed hmethM hstM hkP hkPi ⟨hy.1, hy.2.1⟩ (a := b) (cell := cellB) hcB (fun z h => by rw [h] at hoB; cases hoB) (by rw [Launch.admits_selectMethod Y.admits]; exact q4) hmethM habM hkP hkPi (g := F0 m pc ls st0) rfl (argsL := As) (rest := rest) hlen hst hdg
  obtain ⟨v, B, Y2, ⟨g', mk', t, L, e1, e2, hq, e3, hL, e4, e5⟩, st2⟩ := hBk m meth c0 ⟨T.setVm vm1, locs, cells, slots⟩ (F0 m pc ls rest) (.invokevirtual index) mk (Value.ref b :: As).toArray Y1 rfl (hsz.trans hml.symm) hdg (by simpa [JFrame.monitorRoom] using hW) (Y1.named hnamed)
    ⟨hf.1, hf.2, rfl, (z_pre (av := .ref b :: As) hK hP hD (T.setVm vm1) rfl Y1.warmed).2, hTH (T.setVm vm1) rfl Y1.warmed⟩
  obtain ⟨U', l2, n2, s2⟩ := B
  dsimp only [Pt.U, Pt.locs, Pt.cells, Pt.slots] at Y2 e1 e2 e3 e4 e5 st2
  subst e3; subst e4; subst e5
  obtain ⟨x, ce, u, x1, x2, x3, x4, x5, x6, ⟨x7, x8⟩, x9⟩ := hq
  obtain rfl := Outcome.threw.inj x1
  have x5' : s.vm.findClass X = some ce.cls := by
    have h9 : (T.setVm vm1).vm.findClass X = some ce.cls := x5
    rw [Y1.warmed.alike.findClass] at h9
    exact h9
  obtain ⟨vm2, Y3, st3⟩ := th_caught Y2 (a := v) (g := F0 m pc ls rest) rfl (hfind _ v ce (by rw [Stand.throwing_vm]; exact Y2.warmed) (by rw [Stand.throwing_heap, e1]; exact x3) x4 x5')
  have hF := x_free hD hS hA
  have hz : T.heap.size ≤ t.heap.size := x9.1
  have hkp : ∀ z : Nat, z < T.heap.size → ¬ va_A (gw q c F A) T.heap.size z → t.heap[z]? = T.heap[z]? := x9.2
  obtain ⟨t2, a1, b1⟩ := kk v u.1 u.2 U'.heap (locs ++ L) x6 (by rw [e1]; exact x7) (x8.weaken (fun _ _ _ h => hF _ h))
    ⟨Nat.le_trans hS.1 (by rw [e1]; exact hz), fun z g1 g2 => by rw [e1, hkp z (Nat.lt_of_lt_of_le g1 hS.1) (fun h => g2 (hF z h))]; exact hS.2.1 z g1 g2, fun z hz => by
      rcases List.mem_append.mp hz with h | h
      · exact hS.2.2 z h
      · exact hF _ (hL z h)⟩ (U'.setVm vm2) rfl Y3
  exact ⟨t2, st1 _ (fun acts => by rw [doInvoke_state]; exact st2.trans (st3 _ a1)), b1⟩
end THC
/-- what the handlers' search asks of the classes of the exceptions -/
def zAs (U : State) : Prop := (∀ X ∈ ["java/lang/IllegalStateException", "java/lang/ArithmeticException", "java/util/NoSuchElementException"], ∃ c, U.vm.findClass X = some c ∧ U.vm.assignable c c = true) ∧ va_Nc "java/lang/ArithmeticException" "java/lang/IllegalStateException" U ∧ va_Nc "java/lang/IllegalStateException" "java/util/NoSuchElementException" U ∧ va_Nc "java/lang/ArithmeticException" "java/util/NoSuchElementException" U
theorem zAs.moved {u U : State} (hvm : u.vm.Alike U.vm) (h : zAs u) : zAs U := ⟨fun X hX => by
  obtain ⟨c, h1, h2⟩ := h.1 X hX
  exact ⟨c, by rw [hvm.findClass]; exact h1, by rw [hvm.assignable]; exact h2⟩, h.2.1.moved hvm, h.2.2.1.moved hvm, h.2.2.2.moved hvm⟩
abbrev zHs (D : va_G) (q : Nat → Nat) (c : Nat → ClassId) (F : Nat → Int) (A : Nat → Int → Int) (sz : Nat) : State → Prop := fun U => zB D q c F A sz U ∧ zTH U ∧ zAs U
/-- contracts of the law's helpers, which catch -/
def zMH (l : Launch) (y : MethodName) (bytes : ByteArray) (maxL : Nat) (hh : List (Nat × Nat × Nat × Nat)) (rm : Room) (D : va_G) (q : Nat → Nat) (c : Nat → ClassId) (sz : Nat) (av : List Value) (F : Nat → Int) (A : Nat → Int → Int) (post : Int → (Nat → Int) → (Nat → Int → Int) → Prop) : Prop :=
  Met l y (Cond.codeWith y bytes maxL (some .int) hh :: zG) rm (va_Pc av (zHs D q c F A sz)) (va_Qi (zPi post) (zW D q c (va_A (gw q c F A) sz)) (va_A (gw q c F A) sz)) 1 6 (va_A (gw q c F A) sz)
theorem z_ofH {l : Launch} {y : MethodName} {bytes : ByteArray} {maxL : Nat} {hh : List (Nat × Nat × Nat × Nat)} {rm : Room} {D : va_G} {q : Nat → Nat} {c : Nat → ClassId} {sz : Nat} {av : List Value} {F : Nat → Int} {A : Nat → Int → Int} {post : Int → (Nat → Int) → (Nat → Int → Int) → Prop} (hy : plainName y.cls = true) (hlen : (lg_sl av).length ≤ maxL)
    (body : ∀ (p : Program) (e : Env) (s : State) (m : MethodId) (args : Array Value) (below : List Frame) (meth : Method) (c0 : Code) (A0 : Nat → Prop) (Q : State → Prop), (CallFix p m c0 bytes maxL s args (Cond.codeWith y bytes maxL (some .int) hh :: zG) y.cls ∧ (va_K D zcl (zty c) s ∧ zNW s) ∧ ∀ x, s.heap.size ≤ x → A0 x) →
      (zTH s ∧ zAs s ∧ e.platform.magicAccessors = ({} : Platform).magicAccessors ∧ c0.exceptionTable.toList = tableOf hh) →
      (∀ (z : Int) (F1 : Nat → Int) (A1 : Nat → Int → Int) (H : Heap) (locs : List Loc) (pc : Nat) (ls : Array Slot) (n1 n2 : Nat), n1 ≤ 1 → n2 ≤ 6 → decode bytes pc = .ok (.ireturn, 1) → va_P D zcl (gw q c F1 A1) H → va_D A0 (gw q c F1 A1) → va_S A0 s.heap H locs → post z F1 A1 → W p l e rm s m args below meth c0 H locs n1 n2 Q (F0 m pc ls [.int (iI z)])) →
      va_P D zcl (gw q c F A) s.heap → va_D A0 (gw q c F A) → va_S A0 s.heap s.heap [] → ∀ ls : Array Slot, lv_has ls maxL (lv_args 0 av) → W p l e rm s m args below meth c0 s.heap [] 0 0 Q (F0 m 0 ls [])) :
    zMH l y bytes maxL hh rm D q c sz av F A post := by
  refine va_MetW (cc := bytes) (maxL := maxL) (ret := some .int) (hh := hh) hy rfl ?_
  intro p e s m args below meth c0 s₁ B hml hv
  obtain ⟨rfl, ⟨hsz, hP, hK, hD0⟩, hTH, hAs⟩ := hv
  subst hsz
  have hat := atoms_spec (ws := Cond.codeWith y bytes maxL (some .int) hh :: zG) B.pre
  obtain ⟨m', meth', c', hname', hmeth, hcode, -, -, htable, -, -, -⟩ := Cond.codeWith_spec (hat _ List.mem_cons_self)
  obtain rfl := Option.some.inj (B.named.symm.trans hname')
  obtain rfl := Option.some.inj (B.method.symm.trans hmeth)
  obtain rfl := Option.some.inj ((Stand.of_body B).code.symm.trans hcode)
  have hl := lv_entry av (n := maxL) hlen
  rw [lg_entry_eq]
  refine body p e s m _ below meth c0 (va_A (gw q c F A) s.heap.size) _ ⟨⟨B.exec, B.bytes, hml, findClass_of_methodNamed B.named, hat⟩, hK, fun x h => Or.inr h⟩ ⟨hTH, hAs, by rw [B.admits.platform], by rw [← htable, table_eq]⟩ ?_ hP hD0.self va_S.rf _ hl
  intro z F1 A1 H locs pc ls n1 n2 hn1 hn2 hdg hP1 hD1 hS1 hpost
  refine W.widen hn1 hn2 ?_
  exact W.iret (v := iI z) B.exec B.bytes B.returns (fun t ht hW => ⟨⟨iI z, (F1, A1), rfl, ⟨z, rfl, hpost⟩, by rw [ht]; exact hP1, hD1⟩, hS1.F ht⟩) hS1.2.2 hdg B.notSynchronized
theorem th_l13 : Cond.classLink "RatePlansLaw" 13 "java/lang/IllegalStateException" ∈ zG := th_in (L := [.classLink "RatePlansLaw" 13 "java/lang/IllegalStateException"]) (by decide +kernel) _ List.mem_cons_self
theorem th_l15 : Cond.classLink "RatePlansLaw" 15 "java/lang/ArithmeticException" ∈ zG := th_in (L := [.classLink "RatePlansLaw" 15 "java/lang/ArithmeticException"]) (by decide +kernel) _ List.mem_cons_self
theorem th_l20 : Cond.classLink "RatePlansLaw" 20 "java/util/NoSuchElementException" ∈ zG := th_in (L := [.classLink "RatePlansLaw" 20 "java/util/NoSuchElementException"]) (by decide +kernel) _ List.mem_cons_self
theorem rd_b {F F1 : Nat → Int} {A A1 : Nat → Int → Int} {a : Int} (hn : 1 ≤ F 100 ∧ F 100 ≤ 8) (hch : ∀ k, 0 ≤ k → k < F 101 → (0 ≤ A 9 k ∧ A 9 k < F 100) ∧ (0 ≤ A 10 k ∧ A 10 k < F 100) ∧ (1 ≤ A 11 k ∧ A 11 k ≤ 9) ∧ (1 ≤ A 12 k ∧ A 12 k ≤ 9) ∧ 0 ≤ A 13 k ∧ A 13 k ≤ 99)
    (hF : ∀ j, j ≠ 200 → j ≠ 201 → F1 j = F j) (hA : ∀ k, k ≠ 14 → k ≠ 15 → k ≠ 16 → k ≠ 17 → A1 k = A k) (hr : RdOK F1 A1) (ha : 0 ≤ a ∧ a < F1 201) : 0 ≤ A1 14 a ∧ A1 14 a < 8 := by
  have e100 := hF 100 (by decide) (by decide)
  have h := hr.2.1 a.toNat (by omega)
  rw [show ((a.toNat : Nat) : Int) = a by omega] at h
  have h2 := h.1
  omega
abbrev zr_L_count : Room := ({ frames := 7, cells := 1, slots := 6, locals := 111 } : Room)
set_option maxHeartbeats 4000000 in
set_option maxRecDepth 100000 in
theorem c_L_count (l : Launch) (hfl : l.stackTraces = false) (D : va_G) (q : Nat → Nat) (c : Nat → ClassId) (sz : Nat) (F : Nat → Int) (A : Nat → Int → Int) (a : Int) (ba : ib a) (hn : 1 ≤ F 100 ∧ F 100 ≤ 8) (hc : 0 ≤ F 101 ∧ F 101 ≤ 14) (hact : ∀ a, 0 ≤ a → a < 8 → (1 ≤ A 7 a ∧ A 7 a ≤ 4782969) ∧ 0 ≤ A 8 a ∧ A 8 a < 8) (hu : ib (F 102)) (hok : (0 ≤ a ∧ a < F 100) → F 102 = -1 ∧ sI (A 7) (F 100) ≤ 400) : zMH l zy_L_count zc_L_count 4 [(0, 9, 12, 13), (0, 9, 15, 15)] zr_L_count D q c sz [.ref (q 0), .int (iI (a)), .ref (q 57)] F A (fun z F1 A1 => z = 0 ∧ F1 = F ∧ (∀ k, k ≠ 57 → A1 k = A k) ∧ ((0 ≤ a ∧ a < F 100) → A1 57 0 = A 7 a) ∧ (¬ (0 ≤ a ∧ a < F 100) → A1 57 0 = -1)) := by
  refine z_ofH (by decide) (Nat.le_of_ble_eq_true rfl) ?_
  intro p e s m args below meth c0 A0 Q C0 T0 ret hP hD hS ls hl
  obtain ⟨S, hK, hA⟩ := C0
  have hx := S.1
  have hb := S.2.1
  have hown := S.2.2.2.1
  have hts : ∀ w ∈ zG, w.before args s = true := fun w h => S.2.2.2.2 w (List.mem_cons_of_mem _ h)
  have hl : lv_has ls 4 [(0, .ref (q 0)), (1, .int (iI (a))), (2, .ref (q 57))] := hl
  refine lv_aload_n hx hb zd_L_count_0 rfl (lv_at hl 2 rfl) ?_
  refine lv_iconst (v := iI (0)) hx hb zd_L_count_1 rfl ?_
  refine lv_aload_n hx hb zd_L_count_2 rfl (lv_at hl 0 rfl) ?_
  refine lv_iload_n hx hb zd_L_count_3 rfl (lv_at hl 1 rfl) ?_
  refine z_goi (z_runV (n := 1) (k := 0) (ci := 0) (As := [.int (iI (a))]) (rest := [.int (iI (0)), .ref (q 57)]) S (c_C_count l D q c _ F A a (by first | assumption | omega | exact ⟨by omega, by omega⟩) (by first | assumption | omega | exact ⟨by omega, by omega⟩) (by first | assumption | omega | exact ⟨by omega, by omega⟩) (by first | assumption | omega | exact ⟨by omega, by omega⟩) (by first | assumption | omega | exact ⟨by omega, by omega⟩) (by first | assumption | omega | exact ⟨by omega, by omega⟩)) zw_332 zw_333 zw_334 zw_1 zw_335 ⟨by decide +kernel, by decide, rfl, rfl⟩ hK hP hD ga_0 rfl rfl rfl hl.1 rfl (Nat.le_of_ble_eq_true rfl) zd_L_count_4 ⟨Nat.zero_le _, Nat.zero_le _⟩) hD hS hA (fun z_4 F_4 A_4 H locs hq_4 hP hD hS => ?_)
  obtain ⟨hf_4, ha_4, hq_4⟩ := hq_4
  rw [hf_4, ha_4] at hP hD
  obtain ⟨c1_, c2_⟩ := hq_4
  have cb_ : -1 ≤ z_4 ∧ z_4 ≤ 4782969 := by (by_cases hi : (0 ≤ a ∧ a < F 100); (rw [c1_ hi]; have := hact a (by omega) (by omega); omega); (rw [c2_ hi]; omega))
  refine x_i2l hx hb zd_L_count_7 (⟨by omega, by omega⟩) ?_
  refine x_last hx hb hK.1 hP hD hS 57 1 ga_57 rfl (by decide) (by omega) (by omega) zd_L_count_8 (fun H locs hP hD hS => ?_)
  rw [gs_57] at hP hD
  refine lv_goto (tgt := 18) hx hb zd_L_count_9 (by decide) ?_
  refine lv_iconst (v := iI (0)) hx hb zd_L_count_18 rfl ?_
  exact ret _ _ _ _ _ _ _ _ _ (by decide) (by decide) zd_L_count_19 hP hD hS (⟨rfl, rfl, fun k h => by simp [auP, h], fun h => by rw [← c1_ h]; simp [auP, upI], fun h => by rw [← c2_ h]; simp [auP, upI]⟩)

set_option maxHeartbeats 4000000 in
set_option maxRecDepth 100000 in
theorem c_L_count_ise (l : Launch) (hfl : l.stackTraces = false) (D : va_G) (q : Nat → Nat) (c : Nat → ClassId) (sz : Nat) (F : Nat → Int) (A : Nat → Int → Int) (a : Int) (ba : ib a) (hn : 1 ≤ F 100 ∧ F 100 ≤ 8) (hc : 0 ≤ F 101 ∧ F 101 ≤ 14) (hact : ∀ a, 0 ≤ a → a < 8 → (1 ≤ A 7 a ∧ A 7 a ≤ 4782969) ∧ 0 ≤ A 8 a ∧ A 8 a < 8) (hu : ib (F 102)) (ha : (0 ≤ a ∧ a < F 100)) (hne : F 102 ≠ -1) : zMH l zy_L_count zc_L_count 4 [(0, 9, 12, 13), (0, 9, 15, 15)] zr_L_count D q c sz [.ref (q 0), .int (iI (a)), .ref (q 57)] F A (fun z F1 A1 => z = 1 ∧ F1 = F ∧ A1 = A) := by
  refine z_ofH (by decide) (Nat.le_of_ble_eq_true rfl) ?_
  intro p e s m args below meth c0 A0 Q C0 T0 ret hP hD hS ls hl
  obtain ⟨S, hK, hA⟩ := C0
  have hx := S.1
  have hb := S.2.1
  have hown := S.2.2.2.1
  have hts : ∀ w ∈ zG, w.before args s = true := fun w h => S.2.2.2.2 w (List.mem_cons_of_mem _ h)
  have hl : lv_has ls 4 [(0, .ref (q 0)), (1, .int (iI (a))), (2, .ref (q 57))] := hl
  refine lv_aload_n hx hb zd_L_count_0 rfl (lv_at hl 2 rfl) ?_
  refine lv_iconst (v := iI (0)) hx hb zd_L_count_1 rfl ?_
  refine lv_aload_n hx hb zd_L_count_2 rfl (lv_at hl 0 rfl) ?_
  refine lv_iload_n hx hb zd_L_count_3 rfl (lv_at hl 1 rfl) ?_
  refine z_catch (n := 1) (k := 0) (ci := 0) (As := [.int (iI (a))]) (rest := [.int (iI (0)), .ref (q 57)]) (hpc := 12) S (c_C_count_ise l hfl D q c _ F A a (by assumption) (by assumption) (by assumption) (by assumption) (by assumption) (by assumption) (by assumption)) zw_332 zw_333 zw_334 zw_1 zw_335 ⟨by decide +kernel, by decide, rfl, rfl⟩ hK hP hD hS hA (fun U hU hW => T0.1.move hW (fun q hq => by rw [hU])) ga_0 rfl rfl rfl hl.1 rfl (Nat.le_of_ble_eq_true rfl) zd_L_count_4 ⟨by decide, by decide⟩ (fun T x ce h1 h2 h3 h4 => by (rw [T0.2.2.2]; show thF s e T _ x (⟨0, 9, 12, 13⟩ :: ⟨0, 9, 15, 15⟩ :: []) _; exact thF.hit h1 T0.2.2.1 hown (hts _ th_l13) h2 h3 h4 rfl (by decide) (T0.2.1.1 _ (by simp)))) (fun x_4 F_4 A_4 H locs hq_4 hP hD hS => ?_)
  refine lv_astore_n (lv' := [(3, .ref x_4), (0, .ref (q 0)), (1, .int (iI (a))), (2, .ref (q 57))]) hx hb zd_L_count_12 rfl hl (by decide) rfl (fun ls hl => ?_)
  refine lv_iconst (v := iI (1)) hx hb zd_L_count_13 rfl ?_
  exact ret _ _ _ _ _ _ _ _ _ (by decide) (by decide) zd_L_count_14 hP hD hS (⟨rfl, hq_4⟩)

set_option maxHeartbeats 4000000 in
set_option maxRecDepth 100000 in
theorem c_L_count_ae (l : Launch) (hfl : l.stackTraces = false) (D : va_G) (q : Nat → Nat) (c : Nat → ClassId) (sz : Nat) (F : Nat → Int) (A : Nat → Int → Int) (a : Int) (ba : ib a) (hn : 1 ≤ F 100 ∧ F 100 ≤ 8) (hc : 0 ≤ F 101 ∧ F 101 ≤ 14) (hact : ∀ a, 0 ≤ a → a < 8 → (1 ≤ A 7 a ∧ A 7 a ≤ 4782969) ∧ 0 ≤ A 8 a ∧ A 8 a < 8) (hu : ib (F 102)) (ha : (0 ≤ a ∧ a < F 100)) (heq : F 102 = -1) (hgr : 400 < sI (A 7) (F 100)) : zMH l zy_L_count zc_L_count 4 [(0, 9, 12, 13), (0, 9, 15, 15)] zr_L_count D q c sz [.ref (q 0), .int (iI (a)), .ref (q 57)] F A (fun z F1 A1 => z = 2 ∧ F1 = F ∧ A1 = A) := by
  refine z_ofH (by decide) (Nat.le_of_ble_eq_true rfl) ?_
  intro p e s m args below meth c0 A0 Q C0 T0 ret hP hD hS ls hl
  obtain ⟨S, hK, hA⟩ := C0
  have hx := S.1
  have hb := S.2.1
  have hown := S.2.2.2.1
  have hts : ∀ w ∈ zG, w.before args s = true := fun w h => S.2.2.2.2 w (List.mem_cons_of_mem _ h)
  have hl : lv_has ls 4 [(0, .ref (q 0)), (1, .int (iI (a))), (2, .ref (q 57))] := hl
  refine lv_aload_n hx hb zd_L_count_0 rfl (lv_at hl 2 rfl) ?_
  refine lv_iconst (v := iI (0)) hx hb zd_L_count_1 rfl ?_
  refine lv_aload_n hx hb zd_L_count_2 rfl (lv_at hl 0 rfl) ?_
  refine lv_iload_n hx hb zd_L_count_3 rfl (lv_at hl 1 rfl) ?_
  refine z_catch (n := 1) (k := 0) (ci := 0) (As := [.int (iI (a))]) (rest := [.int (iI (0)), .ref (q 57)]) (hpc := 15) S (c_C_count_ae l hfl D q c _ F A a (by assumption) (by assumption) (by assumption) (by assumption) (by assumption) (by assumption) (by assumption) (by assumption)) zw_332 zw_333 zw_334 zw_1 zw_335 ⟨by decide +kernel, by decide, rfl, rfl⟩ hK hP hD hS hA (fun U hU hW => T0.1.move hW (fun q hq => by rw [hU])) ga_0 rfl rfl rfl hl.1 rfl (Nat.le_of_ble_eq_true rfl) zd_L_count_4 ⟨by decide, by decide⟩ (fun T x ce h1 h2 h3 h4 => by (rw [T0.2.2.2]; show thF s e T _ x (⟨0, 9, 12, 13⟩ :: ⟨0, 9, 15, 15⟩ :: []) _; exact thF.miss h1 T0.2.2.1 hown (hts _ th_l13) h2 h3 h4 rfl (by decide) T0.2.1.2.1 (fun vm1 hv => thF.hit hv T0.2.2.1 hown (hts _ th_l15) h2 h3 h4 rfl (by decide) (T0.2.1.1 _ (by simp))))) (fun x_4 F_4 A_4 H locs hq_4 hP hD hS => ?_)
  refine lv_astore_n (lv' := [(3, .ref x_4), (0, .ref (q 0)), (1, .int (iI (a))), (2, .ref (q 57))]) hx hb zd_L_count_15 rfl hl (by decide) rfl (fun ls hl => ?_)
  refine lv_iconst (v := iI (2)) hx hb zd_L_count_16 rfl ?_
  exact ret _ _ _ _ _ _ _ _ _ (by decide) (by decide) zd_L_count_17 hP hD hS (⟨rfl, hq_4⟩)

abbrev zr_L_order : Room := ({ frames := 7, cells := 1, slots := 6, locals := 116 } : Room)
set_option maxHeartbeats 4000000 in
set_option maxRecDepth 100000 in
theorem c_L_order (l : Launch) (hfl : l.stackTraces = false) (D : va_G) (q : Nat → Nat) (c : Nat → ClassId) (sz : Nat) (F : Nat → Int) (A : Nat → Int → Int) (a : Int) (ba : ib a) (hn : 1 ≤ F 100 ∧ F 100 ≤ 8) (hc : 0 ≤ F 101 ∧ F 101 ≤ 14) (hact : ∀ a, 0 ≤ a → a < 8 → (1 ≤ A 7 a ∧ A 7 a ≤ 4782969) ∧ 0 ≤ A 8 a ∧ A 8 a < 8) (hch : ∀ k, 0 ≤ k → k < F 101 → (0 ≤ A 9 k ∧ A 9 k < F 100) ∧ (0 ≤ A 10 k ∧ A 10 k < F 100) ∧ (1 ≤ A 11 k ∧ A 11 k ≤ 9) ∧ (1 ≤ A 12 k ∧ A 12 k ≤ 9) ∧ 0 ≤ A 13 k ∧ A 13 k ≤ 99) (hkn : (F 200 = 0 ∨ F 200 = 1) ∧ (F 200 = 1 → RdOK F A)) (hu : ib (F 102)) (hpl : F 102 = -1 ∧ sI (A 7) (F 100) ≤ 400) (hin : ∀ F9 A9, (∀ j, j ≠ 200 → j ≠ 201 → F9 j = F j) → (∀ k, k ≠ 14 → k ≠ 15 → k ≠ 16 → k ≠ 17 → A9 k = A k) → RdOK F9 A9 → 0 ≤ a ∧ a < F9 201) : zMH l zy_L_order zc_L_order 4 [(0, 9, 12, 20)] zr_L_order D q c sz [.ref (q 0), .int (iI (a)), .ref (q 57)] F A (fun z F1 A1 => z = 0 ∧ ∃ (F9 : Nat → Int) (A9 : Nat → Int → Int), (∀ j, j ≠ 200 → j ≠ 201 → F9 j = F j) ∧ (∀ k, k ≠ 14 → k ≠ 15 → k ≠ 16 → k ≠ 17 → A9 k = A k) ∧ F9 200 = 1 ∧ RdOK F9 A9 ∧ F1 = F9 ∧ (∀ k, k ≠ 57 → A1 k = A9 k) ∧ A1 57 0 = A9 14 a) := by
  refine z_ofH (by decide) (Nat.le_of_ble_eq_true rfl) ?_
  intro p e s m args below meth c0 A0 Q C0 T0 ret hP hD hS ls hl
  obtain ⟨S, hK, hA⟩ := C0
  have hx := S.1
  have hb := S.2.1
  have hown := S.2.2.2.1
  have hts : ∀ w ∈ zG, w.before args s = true := fun w h => S.2.2.2.2 w (List.mem_cons_of_mem _ h)
  have hl : lv_has ls 4 [(0, .ref (q 0)), (1, .int (iI (a))), (2, .ref (q 57))] := hl
  refine lv_aload_n hx hb zd_L_order_0 rfl (lv_at hl 2 rfl) ?_
  refine lv_iconst (v := iI (0)) hx hb zd_L_order_1 rfl ?_
  refine lv_aload_n hx hb zd_L_order_2 rfl (lv_at hl 0 rfl) ?_
  refine lv_iload_n hx hb zd_L_order_3 rfl (lv_at hl 1 rfl) ?_
  refine z_goi (z_runV (n := 1) (k := 0) (ci := 0) (As := [.int (iI (a))]) (rest := [.int (iI (0)), .ref (q 57)]) S (c_C_order l D q c _ F A a (by first | assumption | omega | exact ⟨by omega, by omega⟩) (by first | assumption | omega | exact ⟨by omega, by omega⟩) (by first | assumption | omega | exact ⟨by omega, by omega⟩) (by first | assumption | omega | exact ⟨by omega, by omega⟩) (by first | assumption | omega | exact ⟨by omega, by omega⟩) (by first | assumption | omega | exact ⟨by omega, by omega⟩) (by first | assumption | omega | exact ⟨by omega, by omega⟩) (by first | assumption | omega | exact ⟨by omega, by omega⟩) (by first | assumption | omega | exact ⟨by omega, by omega⟩)) zw_424 zw_425 zw_426 zw_1 zw_427 ⟨by decide +kernel, by decide, rfl, rfl⟩ hK hP hD ga_0 rfl rfl rfl hl.1 rfl (Nat.le_of_ble_eq_true rfl) zd_L_order_4 ⟨Nat.zero_le _, Nat.zero_le _⟩) hD hS hA (fun z_4 F_4 A_4 H locs hq_4 hP hD hS => ?_)
  obtain ⟨o1, o2, o3, o4⟩ := hq_4
  have ob_ := hin _ _ o1.1 o1.2 o3
  have oc_ := rd_b hn hch o1.1 o1.2 o3 ob_
  rw [← o4] at oc_
  refine x_i2l hx hb zd_L_order_7 (⟨by omega, by omega⟩) ?_
  refine x_last hx hb hK.1 hP hD hS 57 1 ga_57 rfl (by decide) (by omega) (by omega) zd_L_order_8 (fun H locs hP hD hS => ?_)
  rw [gs_57] at hP hD
  refine lv_goto (tgt := 15) hx hb zd_L_order_9 (by decide) ?_
  refine lv_iconst (v := iI (0)) hx hb zd_L_order_15 rfl ?_
  exact ret _ _ _ _ _ _ _ _ _ (by decide) (by decide) zd_L_order_16 hP hD hS (⟨rfl, F_4, A_4, o1.1, o1.2, o2, o3, rfl, fun k h => by simp [auP, h], by rw [← o4]; simp [auP, upI]⟩)

set_option maxHeartbeats 4000000 in
set_option maxRecDepth 100000 in
theorem c_L_order_nse (l : Launch) (hfl : l.stackTraces = false) (D : va_G) (q : Nat → Nat) (c : Nat → ClassId) (sz : Nat) (F : Nat → Int) (A : Nat → Int → Int) (a : Int) (ba : ib a) (hn : 1 ≤ F 100 ∧ F 100 ≤ 8) (hc : 0 ≤ F 101 ∧ F 101 ≤ 14) (hact : ∀ a, 0 ≤ a → a < 8 → (1 ≤ A 7 a ∧ A 7 a ≤ 4782969) ∧ 0 ≤ A 8 a ∧ A 8 a < 8) (hch : ∀ k, 0 ≤ k → k < F 101 → (0 ≤ A 9 k ∧ A 9 k < F 100) ∧ (0 ≤ A 10 k ∧ A 10 k < F 100) ∧ (1 ≤ A 11 k ∧ A 11 k ≤ 9) ∧ (1 ≤ A 12 k ∧ A 12 k ≤ 9) ∧ 0 ≤ A 13 k ∧ A 13 k ≤ 99) (hkn : (F 200 = 0 ∨ F 200 = 1) ∧ (F 200 = 1 → RdOK F A)) (hu : ib (F 102)) (hno : F 102 = -1 ∧ sI (A 7) (F 100) ≤ 400 → ∀ F9 A9, (∀ j, j ≠ 200 → j ≠ 201 → F9 j = F j) → (∀ k, k ≠ 14 → k ≠ 15 → k ≠ 16 → k ≠ 17 → A9 k = A k) → RdOK F9 A9 → ¬ (0 ≤ a ∧ a < F9 201)) : zMH l zy_L_order zc_L_order 4 [(0, 9, 12, 20)] zr_L_order D q c sz [.ref (q 0), .int (iI (a)), .ref (q 57)] F A (fun z F1 A1 => z = 1 ∧ ((∀ j, j ≠ 200 → j ≠ 201 → F1 j = F j) ∧ (∀ k, k ≠ 14 → k ≠ 15 → k ≠ 16 → k ≠ 17 → A1 k = A k)) ∧ ((F 102 = -1 ∧ sI (A 7) (F 100) ≤ 400) → F1 200 = 1 ∧ RdOK F1 A1) ∧ (¬ (F 102 = -1 ∧ sI (A 7) (F 100) ≤ 400) → F1 = F ∧ A1 = A)) := by
  refine z_ofH (by decide) (Nat.le_of_ble_eq_true rfl) ?_
  intro p e s m args below meth c0 A0 Q C0 T0 ret hP hD hS ls hl
  obtain ⟨S, hK, hA⟩ := C0
  have hx := S.1
  have hb := S.2.1
  have hown := S.2.2.2.1
  have hts : ∀ w ∈ zG, w.before args s = true := fun w h => S.2.2.2.2 w (List.mem_cons_of_mem _ h)
  have hl : lv_has ls 4 [(0, .ref (q 0)), (1, .int (iI (a))), (2, .ref (q 57))] := hl
  refine lv_aload_n hx hb zd_L_order_0 rfl (lv_at hl 2 rfl) ?_
  refine lv_iconst (v := iI (0)) hx hb zd_L_order_1 rfl ?_
  refine lv_aload_n hx hb zd_L_order_2 rfl (lv_at hl 0 rfl) ?_
  refine lv_iload_n hx hb zd_L_order_3 rfl (lv_at hl 1 rfl) ?_
  refine z_catch (n := 1) (k := 0) (ci := 0) (As := [.int (iI (a))]) (rest := [.int (iI (0)), .ref (q 57)]) (hpc := 12) S (c_C_order_nse l hfl D q c _ F A a (by assumption) (by assumption) (by assumption) (by assumption) (by assumption) (by assumption) (by assumption) (by assumption)) zw_424 zw_425 zw_426 zw_1 zw_427 ⟨by decide +kernel, by decide, rfl, rfl⟩ hK hP hD hS hA (fun U hU hW => T0.1.move hW (fun q hq => by rw [hU])) ga_0 rfl rfl rfl hl.1 rfl (Nat.le_of_ble_eq_true rfl) zd_L_order_4 ⟨by decide, by decide⟩ (fun T x ce h1 h2 h3 h4 => by (rw [T0.2.2.2]; show thF s e T _ x (⟨0, 9, 12, 20⟩ :: []) _; exact thF.hit h1 T0.2.2.1 hown (hts _ th_l20) h2 h3 h4 rfl (by decide) (T0.2.1.1 _ (by simp)))) (fun x_4 F_4 A_4 H locs hq_4 hP hD hS => ?_)
  refine lv_astore_n (lv' := [(3, .ref x_4), (0, .ref (q 0)), (1, .int (iI (a))), (2, .ref (q 57))]) hx hb zd_L_order_12 rfl hl (by decide) rfl (fun ls hl => ?_)
  refine lv_iconst (v := iI (1)) hx hb zd_L_order_13 rfl ?_
  exact ret _ _ _ _ _ _ _ _ _ (by decide) (by decide) zd_L_order_14 hP hD hS (⟨rfl, hq_4⟩)

abbrev zr_L_pace : Room := ({ frames := 7, cells := 1, slots := 6, locals := 123 } : Room)
set_option maxHeartbeats 4000000 in
set_option maxRecDepth 100000 in
theorem c_L_pace (l : Launch) (hfl : l.stackTraces = false) (D : va_G) (q : Nat → Nat) (c : Nat → ClassId) (sz : Nat) (F : Nat → Int) (A : Nat → Int → Int) (a : Int) (w : Int) (ba : ib a) (bw : ib w) (hn : 1 ≤ F 100 ∧ F 100 ≤ 8) (hc : 0 ≤ F 101 ∧ F 101 ≤ 14) (hact : ∀ a, 0 ≤ a → a < 8 → (1 ≤ A 7 a ∧ A 7 a ≤ 4782969) ∧ 0 ≤ A 8 a ∧ A 8 a < 8) (hch : ∀ k, 0 ≤ k → k < F 101 → (0 ≤ A 9 k ∧ A 9 k < F 100) ∧ (0 ≤ A 10 k ∧ A 10 k < F 100) ∧ (1 ≤ A 11 k ∧ A 11 k ≤ 9) ∧ (1 ≤ A 12 k ∧ A 12 k ≤ 9) ∧ 0 ≤ A 13 k ∧ A 13 k ≤ 99) (hkn : (F 200 = 0 ∨ F 200 = 1) ∧ (F 200 = 1 → RdOK F A)) (hu : ib (F 102)) (hsame : ∀ k, 0 ≤ k → k < F 101 → A 8 (A 9 k) = A 8 (A 10 k)) (ha : 0 ≤ a ∧ a < F 100) (hw : 0 ≤ w ∧ w ≤ 1) (hpl : F 102 = -1 ∧ sI (A 7) (F 100) ≤ 400) (hal : ∀ F9 A9, (∀ j, j ≠ 200 → j ≠ 201 → F9 j = F j) → (∀ k, k ≠ 14 → k ≠ 15 → k ≠ 16 → k ≠ 17 → A9 k = A k) → RdOK F9 A9 → (∀ b, 0 ≤ b → b < F9 100 → A9 15 b = 0)) (hcl : ((∀ b, 0 ≤ b → b < F 100 → A 8 b = A 8 a → Rch (F 101) (A 9) (A 10) a b) ∧ ∀ b, 0 ≤ b → b < F 100 → A 8 b = A 8 a → Rch (F 101) (A 10) (A 9) a b)) (hle : sI (fun b => if A 8 b = A 8 a then A 7 b else 0) (F 100) ≤ 40) (htm : ∀ a, 0 ≤ a → a < 8 → 1 ≤ A 6 a ∧ A 6 a ≤ 9) (bk : -1 ≤ F 300 ∧ F 300 < 8) (hpe : ∀ u v s w, (pG A (A 8 a) (F 100) (F 101)) u v s w → (0 ≤ u ∧ u < sI (gS A (A 8 a)) (F 100)) ∧ (0 ≤ v ∧ v < sI (gS A (A 8 a)) (F 100)) ∧ 0 ≤ w ∧ w ≤ 100) (hlp : ∀ T R, lpE (pG A (A 8 a) (F 100) (F 101)) T R → 1 ≤ R) (hkb : F 300 = A 8 a → bestR (pG A (A 8 a) (F 100) (F 101)) (F 301) (F 302)) : zMH l zy_L_pace zc_L_pace 5 [(0, 10, 13, 20), (0, 10, 17, 13), (0, 10, 21, 15)] zr_L_pace D q c sz [.ref (q 0), .int (iI (a)), .int (iI (w)), .ref (q 57)] F A (fun z F1 A1 => z = 0 ∧ ∃ (F8 : Nat → Int) (A8 : Nat → Int → Int) (F9 : Nat → Int) (A9 : Nat → Int → Int), (∀ j, j ≠ 200 → j ≠ 201 → F9 j = F j) ∧ (∀ k, k ≠ 14 → k ≠ 15 → k ≠ 16 → k ≠ 17 → A9 k = A k) ∧ F9 200 = 1 ∧ RdOK F9 A9 ∧ (∀ j, j < 300 ∨ 304 < j → F8 j = F9 j) ∧ (∀ k, k < 18 ∨ 25 < k → A8 k = A9 k) ∧ F8 300 = A 8 a ∧ bestR (pG A (A 8 a) (F 100) (F 101)) (F8 301) (F8 302) ∧ F1 = F8 ∧ (∀ k, k ≠ 57 → A1 k = A8 k) ∧ (w = 0 → A1 57 0 = F8 301) ∧ (w = 1 → A1 57 0 = F8 302)) := by
  refine z_ofH (by decide) (Nat.le_of_ble_eq_true rfl) ?_
  intro p e s m args below meth c0 A0 Q C0 T0 ret hP hD hS ls hl
  obtain ⟨S, hK, hA⟩ := C0
  have hx := S.1
  have hb := S.2.1
  have hown := S.2.2.2.1
  have hts : ∀ w ∈ zG, w.before args s = true := fun w h => S.2.2.2.2 w (List.mem_cons_of_mem _ h)
  have hl : lv_has ls 5 [(0, .ref (q 0)), (1, .int (iI (a))), (2, .int (iI (w))), (3, .ref (q 57))] := hl
  refine lv_aload_n hx hb zd_L_pace_0 rfl (lv_at hl 3 rfl) ?_
  refine lv_iconst (v := iI (0)) hx hb zd_L_pace_1 rfl ?_
  refine lv_aload_n hx hb zd_L_pace_2 rfl (lv_at hl 0 rfl) ?_
  refine lv_iload_n hx hb zd_L_pace_3 rfl (lv_at hl 1 rfl) ?_
  refine lv_iload_n hx hb zd_L_pace_4 rfl (lv_at hl 2 rfl) ?_
  refine z_goi (z_runV (n := 2) (k := 0) (ci := 0) (As := [.int (iI (a)), .int (iI (w))]) (rest := [.int (iI (0)), .ref (q 57)]) S (c_C_pace l D q c _ F A a w (by first | assumption | omega | exact ⟨by omega, by omega⟩) (by first | assumption | omega | exact ⟨by omega, by omega⟩) (by first | assumption | omega | exact ⟨by omega, by omega⟩) (by first | assumption | omega | exact ⟨by omega, by omega⟩) (by first | assumption | omega | exact ⟨by omega, by omega⟩) (by first | assumption | omega | exact ⟨by omega, by omega⟩) (by first | assumption | omega | exact ⟨by omega, by omega⟩) (by first | assumption | omega | exact ⟨by omega, by omega⟩) (by first | assumption | omega | exact ⟨by omega, by omega⟩) (by first | assumption | omega | exact ⟨by omega, by omega⟩) (by first | assumption | omega | exact ⟨by omega, by omega⟩) (by first | assumption | omega | exact ⟨by omega, by omega⟩) (by first | assumption | omega | exact ⟨by omega, by omega⟩) (by first | assumption | omega | exact ⟨by omega, by omega⟩) (by first | assumption | omega | exact ⟨by omega, by omega⟩) (by first | assumption | omega | exact ⟨by omega, by omega⟩) (by first | assumption | omega | exact ⟨by omega, by omega⟩) (by first | assumption | omega | exact ⟨by omega, by omega⟩) (by first | assumption | omega | exact ⟨by omega, by omega⟩) (by first | assumption | omega | exact ⟨by omega, by omega⟩)) zw_447 zw_448 zw_449 zw_1 zw_450 ⟨by decide +kernel, by decide, rfl, rfl⟩ hK hP hD ga_0 rfl rfl rfl hl.1 rfl (Nat.le_of_ble_eq_true rfl) zd_L_pace_5 ⟨Nat.zero_le _, Nat.zero_le _⟩) hD hS hA (fun z_5 F_5 A_5 H locs hq_5 hP hD hS => ?_)
  obtain ⟨F9, A9, q1, q2, q3, q4, q5, q6, q7, q8, q9, q10⟩ := hq_5
  have qb_ : 1 ≤ z_5 ∧ z_5 ≤ 360 := by (have h1 := q8.1; have h2 := q8.2.1; rcases (show w = 0 ∨ w = 1 by omega) with h | h; (rw [q9 h]; omega); (rw [q10 h]; omega))
  refine x_i2l hx hb zd_L_pace_8 (⟨by omega, by omega⟩) ?_
  refine x_last hx hb hK.1 hP hD hS 57 1 ga_57 rfl (by decide) (by omega) (by omega) zd_L_pace_9 (fun H locs hP hD hS => ?_)
  rw [gs_57] at hP hD
  refine lv_goto (tgt := 25) hx hb zd_L_pace_10 (by decide) ?_
  refine lv_iconst (v := iI (0)) hx hb zd_L_pace_25 rfl ?_
  exact ret _ _ _ _ _ _ _ _ _ (by decide) (by decide) zd_L_pace_26 hP hD hS (⟨rfl, F_5, A_5, F9, A9, q1, q2, q3, q4, q5, q6, q7, q8, rfl, fun k h => by simp [auP, h], fun h => by rw [← q9 h]; simp [auP, upI], fun h => by rw [← q10 h]; simp [auP, upI]⟩)

set_option maxHeartbeats 4000000 in
set_option maxRecDepth 100000 in
theorem c_L_pace_nse (l : Launch) (hfl : l.stackTraces = false) (D : va_G) (q : Nat → Nat) (c : Nat → ClassId) (sz : Nat) (F : Nat → Int) (A : Nat → Int → Int) (a : Int) (w : Int) (ba : ib a) (bw : ib w) (hn : 1 ≤ F 100 ∧ F 100 ≤ 8) (hc : 0 ≤ F 101 ∧ F 101 ≤ 14) (hact : ∀ a, 0 ≤ a → a < 8 → (1 ≤ A 7 a ∧ A 7 a ≤ 4782969) ∧ 0 ≤ A 8 a ∧ A 8 a < 8) (hch : ∀ k, 0 ≤ k → k < F 101 → (0 ≤ A 9 k ∧ A 9 k < F 100) ∧ (0 ≤ A 10 k ∧ A 10 k < F 100) ∧ (1 ≤ A 11 k ∧ A 11 k ≤ 9) ∧ (1 ≤ A 12 k ∧ A 12 k ≤ 9) ∧ 0 ≤ A 13 k ∧ A 13 k ≤ 99) (hkn : (F 200 = 0 ∨ F 200 = 1) ∧ (F 200 = 1 → RdOK F A)) (hu : ib (F 102)) (hsame : ∀ k, 0 ≤ k → k < F 101 → A 8 (A 9 k) = A 8 (A 10 k)) (hno : ¬ ((0 ≤ a ∧ a < F 100) ∧ 0 ≤ w ∧ w ≤ 1)) : zMH l zy_L_pace zc_L_pace 5 [(0, 10, 13, 20), (0, 10, 17, 13), (0, 10, 21, 15)] zr_L_pace D q c sz [.ref (q 0), .int (iI (a)), .int (iI (w)), .ref (q 57)] F A (fun z F1 A1 => z = 1 ∧ F1 = F ∧ A1 = A) := by
  refine z_ofH (by decide) (Nat.le_of_ble_eq_true rfl) ?_
  intro p e s m args below meth c0 A0 Q C0 T0 ret hP hD hS ls hl
  obtain ⟨S, hK, hA⟩ := C0
  have hx := S.1
  have hb := S.2.1
  have hown := S.2.2.2.1
  have hts : ∀ w ∈ zG, w.before args s = true := fun w h => S.2.2.2.2 w (List.mem_cons_of_mem _ h)
  have hl : lv_has ls 5 [(0, .ref (q 0)), (1, .int (iI (a))), (2, .int (iI (w))), (3, .ref (q 57))] := hl
  refine lv_aload_n hx hb zd_L_pace_0 rfl (lv_at hl 3 rfl) ?_
  refine lv_iconst (v := iI (0)) hx hb zd_L_pace_1 rfl ?_
  refine lv_aload_n hx hb zd_L_pace_2 rfl (lv_at hl 0 rfl) ?_
  refine lv_iload_n hx hb zd_L_pace_3 rfl (lv_at hl 1 rfl) ?_
  refine lv_iload_n hx hb zd_L_pace_4 rfl (lv_at hl 2 rfl) ?_
  refine z_catch (n := 2) (k := 0) (ci := 0) (As := [.int (iI (a)), .int (iI (w))]) (rest := [.int (iI (0)), .ref (q 57)]) (hpc := 13) S (c_C_pace_nse l hfl D q c _ F A a w (by assumption) (by assumption) (by assumption) (by assumption) (by assumption) (by assumption) (by assumption) (by assumption) (by assumption) (by assumption)) zw_447 zw_448 zw_449 zw_1 zw_450 ⟨by decide +kernel, by decide, rfl, rfl⟩ hK hP hD hS hA (fun U hU hW => T0.1.move hW (fun q hq => by rw [hU])) ga_0 rfl rfl rfl hl.1 rfl (Nat.le_of_ble_eq_true rfl) zd_L_pace_5 ⟨by decide, by decide⟩ (fun T x ce h1 h2 h3 h4 => by (rw [T0.2.2.2]; show thF s e T _ x (⟨0, 10, 13, 20⟩ :: ⟨0, 10, 17, 13⟩ :: ⟨0, 10, 21, 15⟩ :: []) _; exact thF.hit h1 T0.2.2.1 hown (hts _ th_l20) h2 h3 h4 rfl (by decide) (T0.2.1.1 _ (by simp)))) (fun x_5 F_5 A_5 H locs hq_5 hP hD hS => ?_)
  refine lv_astore (lv' := [(4, .ref x_5), (0, .ref (q 0)), (1, .int (iI (a))), (2, .int (iI (w))), (3, .ref (q 57))]) hx hb zd_L_pace_13 hl (by decide) rfl (fun ls hl => ?_)
  refine lv_iconst (v := iI (1)) hx hb zd_L_pace_15 rfl ?_
  exact ret _ _ _ _ _ _ _ _ _ (by decide) (by decide) zd_L_pace_16 hP hD hS (⟨rfl, hq_5⟩)

set_option maxHeartbeats 4000000 in
set_option maxRecDepth 100000 in
theorem c_L_pace_ise (l : Launch) (hfl : l.stackTraces = false) (D : va_G) (q : Nat → Nat) (c : Nat → ClassId) (sz : Nat) (F : Nat → Int) (A : Nat → Int → Int) (a : Int) (w : Int) (ba : ib a) (bw : ib w) (hn : 1 ≤ F 100 ∧ F 100 ≤ 8) (hc : 0 ≤ F 101 ∧ F 101 ≤ 14) (hact : ∀ a, 0 ≤ a → a < 8 → (1 ≤ A 7 a ∧ A 7 a ≤ 4782969) ∧ 0 ≤ A 8 a ∧ A 8 a < 8) (hch : ∀ k, 0 ≤ k → k < F 101 → (0 ≤ A 9 k ∧ A 9 k < F 100) ∧ (0 ≤ A 10 k ∧ A 10 k < F 100) ∧ (1 ≤ A 11 k ∧ A 11 k ≤ 9) ∧ (1 ≤ A 12 k ∧ A 12 k ≤ 9) ∧ 0 ≤ A 13 k ∧ A 13 k ≤ 99) (hkn : (F 200 = 0 ∨ F 200 = 1) ∧ (F 200 = 1 → RdOK F A)) (hu : ib (F 102)) (hsame : ∀ k, 0 ≤ k → k < F 101 → A 8 (A 9 k) = A 8 (A 10 k)) (ha : 0 ≤ a ∧ a < F 100) (hw : 0 ≤ w ∧ w ≤ 1) (hno : (F 102 = -1 ∧ sI (A 7) (F 100) ≤ 400) → (∀ F9 A9, (∀ j, j ≠ 200 → j ≠ 201 → F9 j = F j) → (∀ k, k ≠ 14 → k ≠ 15 → k ≠ 16 → k ≠ 17 → A9 k = A k) → RdOK F9 A9 → (∀ b, 0 ≤ b → b < F9 100 → A9 15 b = 0)) → ¬ ((∀ b, 0 ≤ b → b < F 100 → A 8 b = A 8 a → Rch (F 101) (A 9) (A 10) a b) ∧ ∀ b, 0 ≤ b → b < F 100 → A 8 b = A 8 a → Rch (F 101) (A 10) (A 9) a b)) (hall : (F 102 = -1 ∧ sI (A 7) (F 100) ≤ 400) → (∀ F9 A9, (∀ j, j ≠ 200 → j ≠ 201 → F9 j = F j) → (∀ k, k ≠ 14 → k ≠ 15 → k ≠ 16 → k ≠ 17 → A9 k = A k) → RdOK F9 A9 → (∀ b, 0 ≤ b → b < F9 100 → A9 15 b = 0)) ∨ ∀ F9 A9, (∀ j, j ≠ 200 → j ≠ 201 → F9 j = F j) → (∀ k, k ≠ 14 → k ≠ 15 → k ≠ 16 → k ≠ 17 → A9 k = A k) → RdOK F9 A9 → ¬ (∀ b, 0 ≤ b → b < F9 100 → A9 15 b = 0)) : zMH l zy_L_pace zc_L_pace 5 [(0, 10, 13, 20), (0, 10, 17, 13), (0, 10, 21, 15)] zr_L_pace D q c sz [.ref (q 0), .int (iI (a)), .int (iI (w)), .ref (q 57)] F A (fun z F1 A1 => z = 2 ∧ ((∀ j, j ≠ 200 → j ≠ 201 → F1 j = F j) ∧ (∀ k, k ≠ 14 → k ≠ 15 → k ≠ 16 → k ≠ 17 → A1 k = A k)) ∧ ((F 102 = -1 ∧ sI (A 7) (F 100) ≤ 400) → F1 200 = 1 ∧ RdOK F1 A1) ∧ (¬ (F 102 = -1 ∧ sI (A 7) (F 100) ≤ 400) → F1 = F ∧ A1 = A)) := by
  refine z_ofH (by decide) (Nat.le_of_ble_eq_true rfl) ?_
  intro p e s m args below meth c0 A0 Q C0 T0 ret hP hD hS ls hl
  obtain ⟨S, hK, hA⟩ := C0
  have hx := S.1
  have hb := S.2.1
  have hown := S.2.2.2.1
  have hts : ∀ w ∈ zG, w.before args s = true := fun w h => S.2.2.2.2 w (List.mem_cons_of_mem _ h)
  have hl : lv_has ls 5 [(0, .ref (q 0)), (1, .int (iI (a))), (2, .int (iI (w))), (3, .ref (q 57))] := hl
  refine lv_aload_n hx hb zd_L_pace_0 rfl (lv_at hl 3 rfl) ?_
  refine lv_iconst (v := iI (0)) hx hb zd_L_pace_1 rfl ?_
  refine lv_aload_n hx hb zd_L_pace_2 rfl (lv_at hl 0 rfl) ?_
  refine lv_iload_n hx hb zd_L_pace_3 rfl (lv_at hl 1 rfl) ?_
  refine lv_iload_n hx hb zd_L_pace_4 rfl (lv_at hl 2 rfl) ?_
  refine z_catch (n := 2) (k := 0) (ci := 0) (As := [.int (iI (a)), .int (iI (w))]) (rest := [.int (iI (0)), .ref (q 57)]) (hpc := 17) S (c_C_pace_ise l hfl D q c _ F A a w (by assumption) (by assumption) (by assumption) (by assumption) (by assumption) (by assumption) (by assumption) (by assumption) (by assumption) (by assumption) (by assumption) (by assumption) (by assumption)) zw_447 zw_448 zw_449 zw_1 zw_450 ⟨by decide +kernel, by decide, rfl, rfl⟩ hK hP hD hS hA (fun U hU hW => T0.1.move hW (fun q hq => by rw [hU])) ga_0 rfl rfl rfl hl.1 rfl (Nat.le_of_ble_eq_true rfl) zd_L_pace_5 ⟨by decide, by decide⟩ (fun T x ce h1 h2 h3 h4 => by (rw [T0.2.2.2]; show thF s e T _ x (⟨0, 10, 13, 20⟩ :: ⟨0, 10, 17, 13⟩ :: ⟨0, 10, 21, 15⟩ :: []) _; exact thF.miss h1 T0.2.2.1 hown (hts _ th_l20) h2 h3 h4 rfl (by decide) T0.2.1.2.2.1 (fun vm1 hv => thF.hit hv T0.2.2.1 hown (hts _ th_l13) h2 h3 h4 rfl (by decide) (T0.2.1.1 _ (by simp))))) (fun x_5 F_5 A_5 H locs hq_5 hP hD hS => ?_)
  refine lv_astore (lv' := [(4, .ref x_5), (0, .ref (q 0)), (1, .int (iI (a))), (2, .int (iI (w))), (3, .ref (q 57))]) hx hb zd_L_pace_17 hl (by decide) rfl (fun ls hl => ?_)
  refine lv_iconst (v := iI (2)) hx hb zd_L_pace_19 rfl ?_
  exact ret _ _ _ _ _ _ _ _ _ (by decide) (by decide) zd_L_pace_20 hP hD hS (⟨rfl, hq_5⟩)

set_option maxHeartbeats 4000000 in
set_option maxRecDepth 100000 in
theorem c_L_pace_ae (l : Launch) (hfl : l.stackTraces = false) (D : va_G) (q : Nat → Nat) (c : Nat → ClassId) (sz : Nat) (F : Nat → Int) (A : Nat → Int → Int) (a : Int) (w : Int) (ba : ib a) (bw : ib w) (hn : 1 ≤ F 100 ∧ F 100 ≤ 8) (hc : 0 ≤ F 101 ∧ F 101 ≤ 14) (hact : ∀ a, 0 ≤ a → a < 8 → (1 ≤ A 7 a ∧ A 7 a ≤ 4782969) ∧ 0 ≤ A 8 a ∧ A 8 a < 8) (hch : ∀ k, 0 ≤ k → k < F 101 → (0 ≤ A 9 k ∧ A 9 k < F 100) ∧ (0 ≤ A 10 k ∧ A 10 k < F 100) ∧ (1 ≤ A 11 k ∧ A 11 k ≤ 9) ∧ (1 ≤ A 12 k ∧ A 12 k ≤ 9) ∧ 0 ≤ A 13 k ∧ A 13 k ≤ 99) (hkn : (F 200 = 0 ∨ F 200 = 1) ∧ (F 200 = 1 → RdOK F A)) (hu : ib (F 102)) (hsame : ∀ k, 0 ≤ k → k < F 101 → A 8 (A 9 k) = A 8 (A 10 k)) (ha : 0 ≤ a ∧ a < F 100) (hw : 0 ≤ w ∧ w ≤ 1) (hpl : F 102 = -1 ∧ sI (A 7) (F 100) ≤ 400) (hal : ∀ F9 A9, (∀ j, j ≠ 200 → j ≠ 201 → F9 j = F j) → (∀ k, k ≠ 14 → k ≠ 15 → k ≠ 16 → k ≠ 17 → A9 k = A k) → RdOK F9 A9 → (∀ b, 0 ≤ b → b < F9 100 → A9 15 b = 0)) (hcl : ((∀ b, 0 ≤ b → b < F 100 → A 8 b = A 8 a → Rch (F 101) (A 9) (A 10) a b) ∧ ∀ b, 0 ≤ b → b < F 100 → A 8 b = A 8 a → Rch (F 101) (A 10) (A 9) a b)) (hgr : 40 < sI (fun b => if A 8 b = A 8 a then A 7 b else 0) (F 100)) : zMH l zy_L_pace zc_L_pace 5 [(0, 10, 13, 20), (0, 10, 17, 13), (0, 10, 21, 15)] zr_L_pace D q c sz [.ref (q 0), .int (iI (a)), .int (iI (w)), .ref (q 57)] F A (fun z F1 A1 => z = 3 ∧ ((∀ j, j ≠ 200 → j ≠ 201 → F1 j = F j) ∧ (∀ k, k ≠ 14 → k ≠ 15 → k ≠ 16 → k ≠ 17 → A1 k = A k)) ∧ F1 200 = 1 ∧ RdOK F1 A1) := by
  refine z_ofH (by decide) (Nat.le_of_ble_eq_true rfl) ?_
  intro p e s m args below meth c0 A0 Q C0 T0 ret hP hD hS ls hl
  obtain ⟨S, hK, hA⟩ := C0
  have hx := S.1
  have hb := S.2.1
  have hown := S.2.2.2.1
  have hts : ∀ w ∈ zG, w.before args s = true := fun w h => S.2.2.2.2 w (List.mem_cons_of_mem _ h)
  have hl : lv_has ls 5 [(0, .ref (q 0)), (1, .int (iI (a))), (2, .int (iI (w))), (3, .ref (q 57))] := hl
  refine lv_aload_n hx hb zd_L_pace_0 rfl (lv_at hl 3 rfl) ?_
  refine lv_iconst (v := iI (0)) hx hb zd_L_pace_1 rfl ?_
  refine lv_aload_n hx hb zd_L_pace_2 rfl (lv_at hl 0 rfl) ?_
  refine lv_iload_n hx hb zd_L_pace_3 rfl (lv_at hl 1 rfl) ?_
  refine lv_iload_n hx hb zd_L_pace_4 rfl (lv_at hl 2 rfl) ?_
  refine z_catch (n := 2) (k := 0) (ci := 0) (As := [.int (iI (a)), .int (iI (w))]) (rest := [.int (iI (0)), .ref (q 57)]) (hpc := 21) S (c_C_pace_ae l hfl D q c _ F A a w (by assumption) (by assumption) (by assumption) (by assumption) (by assumption) (by assumption) (by assumption) (by assumption) (by assumption) (by assumption) (by assumption) (by assumption) (by assumption) (by assumption) (by assumption)) zw_447 zw_448 zw_449 zw_1 zw_450 ⟨by decide +kernel, by decide, rfl, rfl⟩ hK hP hD hS hA (fun U hU hW => T0.1.move hW (fun q hq => by rw [hU])) ga_0 rfl rfl rfl hl.1 rfl (Nat.le_of_ble_eq_true rfl) zd_L_pace_5 ⟨by decide, by decide⟩ (fun T x ce h1 h2 h3 h4 => by (rw [T0.2.2.2]; show thF s e T _ x (⟨0, 10, 13, 20⟩ :: ⟨0, 10, 17, 13⟩ :: ⟨0, 10, 21, 15⟩ :: []) _; exact thF.miss h1 T0.2.2.1 hown (hts _ th_l20) h2 h3 h4 rfl (by decide) T0.2.1.2.2.2 (fun vm1 hv => thF.miss hv T0.2.2.1 hown (hts _ th_l13) h2 h3 h4 rfl (by decide) T0.2.1.2.1 (fun vm1 hv => thF.hit hv T0.2.2.1 hown (hts _ th_l15) h2 h3 h4 rfl (by decide) (T0.2.1.1 _ (by simp)))))) (fun x_5 F_5 A_5 H locs hq_5 hP hD hS => ?_)
  refine lv_astore (lv' := [(4, .ref x_5), (0, .ref (q 0)), (1, .int (iI (a))), (2, .int (iI (w))), (3, .ref (q 57))]) hx hb zd_L_pace_21 hl (by decide) rfl (fun ls hl => ?_)
  refine lv_iconst (v := iI (3)) hx hb zd_L_pace_23 rfl ?_
  exact ret _ _ _ _ _ _ _ _ _ (by decide) (by decide) zd_L_pace_24 hP hD hS (⟨rfl, hq_5⟩)
