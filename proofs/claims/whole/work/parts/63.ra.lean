/-! The law: the script, its helpers' calls, answers that are one -/
abbrev sc (xs : Nat → Int32) (i : Int) : Int := (xs i.toNat).toInt
section LX
variable {p : Program} {l : Launch} {e : Env} {R : Room} {s : State} {m : MethodId} {args : Array Value} {below : List Frame} {meth : Method} {c0 : Code} {H : Heap} {locs : List Loc} {cells slots : Nat} {Q : State → Prop}
variable {cc : ByteArray} {pc : Nat} {ls : Array Slot} {rest : List Value} {b L : Nat} {xs : Nat → Int32}
theorem x_scr (hexec : p.tables.exec = Jvm.exec) (hb : c0.code = cc) (hX : va_X b L xs s s.heap) (hH : H[b]? = s.heap[b]?) (hL : L ≤ 3072) {i : Int} (h0 : 0 ≤ i) (h1 : i < (L : Int)) (hdg : decode cc pc = .ok (.iaload, 1)) (kk : W p l e R s m args below meth c0 H locs cells slots Q (F0 m (pc + 1) ls (.int (iI (sc xs i)) :: rest))) : W p l e R s m args below meth c0 H locs cells slots Q (F0 m pc ls (.int (iI i) :: .ref b :: rest)) := by
  obtain ⟨scr, x1, x2, x3, x4, x5⟩ := hX
  have hc : (iI i).toNatClampNeg = i.toNat := iI_clamp h0 (by omega)
  refine W.iald hexec hb (cell := scr) (v := .int (xs i.toNat)) (by rw [hH]; exact x1) x2 x3 ?_ ?_ (g := F0 m pc ls (.int (iI i) :: .ref b :: rest)) rfl rfl hdg ?_
  · have := iI_in (n := L) h0 h1 (by omega)
    rw [x4]
    exact this
  · rw [hc]; exact x5 i.toNat (by omega)
  · have e9 : iI (sc xs i) = xs i.toNat := (iI_of _).symm
    rw [e9] at kk
    exact kk
theorem x_slen (hexec : p.tables.exec = Jvm.exec) (hb : c0.code = cc) (hX : va_X b L xs s s.heap) (hH : H[b]? = s.heap[b]?) (hdg : decode cc pc = .ok (.arraylength, 1)) (kk : W p l e R s m args below meth c0 H locs cells slots Q (F0 m (pc + 1) ls (.int (iI (L : Int)) :: rest))) : W p l e R s m args below meth c0 H locs cells slots Q (F0 m pc ls (.ref b :: rest)) := by
  obtain ⟨scr, x1, x2, x3, x4, x5⟩ := hX
  refine W.alen hexec hb (n := iI (L : Int)) (by rw [hH]; exact x1) x2 ?_ (g := F0 m pc ls (.ref b :: rest)) rfl rfl hdg kk
  rw [x4]
  exact (Int32.ofInt_eq_ofNat (n := L)).symm
theorem x_icmp_sm (hexec : p.tables.exec = Jvm.exec) (hb : c0.code = cc) {x y : Int} {off : Int} {tgt : Nat} (hdg : decode cc pc = .ok (.if_icmp .eq off, 3)) (ht : (pc : Int) + off = (tgt : Int)) (h : x = y) (kt : W p l e R s m args below meth c0 H locs cells slots Q (F0 m tgt ls rest)) : W p l e R s m args below meth c0 H locs cells slots Q (F0 m pc ls (.int (iI y) :: .int (iI x) :: rest)) :=
  lv_icmp_eq hexec hb hdg ht (fun _ => kt) (fun h9 => absurd (congrArg iI h) h9)
theorem x_iand_v (hexec : p.tables.exec = Jvm.exec) (hb : c0.code = cc) {x y : Int} (hdg : decode cc pc = .ok (.iand, 1)) (kk : ∀ v : Int, ib v → W p l e R s m args below meth c0 H locs cells slots Q (F0 m (pc + 1) ls (.int (iI v) :: rest))) : W p l e R s m args below meth c0 H locs cells slots Q (F0 m pc ls (.int (iI y) :: .int (iI x) :: rest)) := by
  refine lv_iand hexec hb hdg ?_
  rw [iI_of (iI x &&& iI y)]
  exact kk _ (ib_of _)
end LX
section LH
variable {p : Program} {l : Launch} {e : Env} {R : Room} {s : State} {m : MethodId} {args : Array Value} {below : List Frame} {meth : Method} {c0 : Code} {H : Heap} {locs : List Loc} {cells slots : Nat} {Q : State → Prop}
variable {cc bytes : ByteArray} {maxL nL n index : Nat} {rm : Room} {w0 : Cond} {own : String} {y : MethodName} {As rest st0 : List Value} {pc : Nat} {ls : Array Slot} {hh : List (Nat × Nat × Nat × Nat)}
variable {D : va_G} {q : Nat → Nat} {c : Nat → ClassId} {F : Nat → Int} {A : Nat → Int → Int} {A0 : Nat → Prop} {H0 : Heap}
/-- a call of a helper: one cell, six fields at the most -/
theorem z_goh {post : Int → (Nat → Int) → (Nat → Int → Int) → Prop} (S : CallFix p m c0 cc nL s args (w0 :: zG) own) (hM : zMH l y bytes maxL hh rm D q c H.size As F A post) (h1 : Cond.methodLink own index y ∈ zG) (h2 : Cond.static y ∈ zG) (h4 : Cond.initialized y.cls ∈ zG) (h5 : Cond.codeWith y bytes maxL (some .int) hh ∈ zG)
    (hd : (y.cls ≠ "java/lang/invoke/MethodHandle" ∧ y.cls ≠ "java/lang/invoke/VarHandle" ∧ (parseMethodDescriptor y.desc).map (fun d => d.parameters.length) = some n) ∧ (rm.frames + 1 ≤ R.frames ∧ 8 + (maxL + 11) + rm.locals ≤ R.locals) ∧ rm.cells = 1 ∧ rm.slots = 6)
    (hK : va_K D zcl (zty c) s ∧ zNW s) (hP : va_P D zcl (gw q c F A) H) (hD : va_D A0 (gw q c F A)) (hS : va_S A0 H0 H locs) (hA : ∀ x, H0.size ≤ x → A0 x) (hT : ∀ U : State, U.heap = H → s.WarmedH U.vm → zTH U ∧ zAs U) (hn : As.length = n) (hsz : ls.size = nL) (hst : st0 = As.reverse ++ rest) (hW : (rest.map fun v => v.category).sum ≤ 8) (hdg : decode cc pc = .ok (.invokestatic index, 3)) (hf : cells + 1 ≤ R.cells ∧ slots + 6 ≤ R.slots)
    (kk : ∀ (z : Int) (F1 : Nat → Int) (A1 : Nat → Int → Int) (H1 : Heap) (locs1 : List Loc), post z F1 A1 → va_P D zcl (gw q c F1 A1) H1 → va_D A0 (gw q c F1 A1) → va_S A0 H0 H1 locs1 → W p l e R s m args below meth c0 H1 locs1 (cells + 1) (slots + 6) Q (F0 m (pc + 3) ls (.int (iI z) :: rest))) : W p l e R s m args below meth c0 H locs cells slots Q (F0 m pc ls st0) := by
  obtain ⟨hexec, hb, hml, hown, hts0⟩ := id S
  have hts : ∀ w ∈ zG, w.before args s = true := fun w h => hts0 w (List.mem_cons_of_mem _ h)
  obtain ⟨hy, ⟨hrf, hrl⟩, hrc, hrs⟩ := hd
  subst hb
  have hG : GoodIn (w0 :: zG) (Cond.codeWith y bytes maxL (some .int) hh :: zG) := fun w h => by
    rcases List.mem_cons.mp h with rfl | h
    · exact ⟨List.mem_cons_of_mem _ h5, good_of_word (List.mem_filter.mp h5).2⟩
    · exact ⟨List.mem_cons_of_mem _ h, good_of_word (List.mem_filter.mp h).2⟩
  have hws : ∀ w ∈ Cond.codeWith y bytes maxL (some .int) hh :: zG, ∀ (a' : Array Value) (U : State), s.WarmedH U.vm → w.before a' U = true := fun w hw a' U hU => word_at hU (hG w hw).2 (hts0 w (hG w hw).1)
  have hbl : FrameBlind (va_Pc As (zHs D q c F A H.size)) := fun a U g mk hp => by
    have h9 := z_blind (D := D) (q := q) (c := c) (F := F) (A := A) (sz := H.size) (av := As) a U g mk ⟨hp.1, hp.2.1⟩
    exact ⟨h9.1, h9.2, hp.2.2.1.move (State.WarmedH.refl _) (fun _ _ => rfl), zAs.moved (u := U) (U := U.calling g mk a) (Vm.Alike.refl U.vm) hp.2.2.2⟩
  have hBk : Back l R p e below s args y 3 8 (PreOf R 1 6 (va_Pc As (zHs D q c F A H.size))) (PostOf (va_Qi (zPi post) (zW D q c (va_A (gw q c F A) H.size)) (va_A (gw q c F A) H.size)) 1 6 (va_A (gw q c F A) H.size)) :=
    va_backW (bytes := bytes) (maxL := maxL) (ret := some .int) (hh := hh) hM hbl hrc hrs hrf hrl hws List.mem_cons_self (fun a' U hU => word_at hU (Or.inl (by first | rfl | simp [Cond.onTables, Cond.keeps, Cond.steady])) (hts _ h4))
  have hrun : va_Run p l e R s m args below meth c0 H locs cells slots 1 6 (F0 m pc ls st0) rest (va_Qi (zPi post) (zW D q c (va_A (gw q c F A) H.size)) (va_A (gw q c F A) H.size) As.toArray) (va_A (gw q c F A) H.size) := by
    intro T hT' Y
    obtain ⟨mk, methM, cM, hnamed, hmethM, -, -, -, -, -, -, hsigM⟩ := Cond.codeWith_spec (hts _ h5)
    have hstatic : methM.isStatic = true := Cond.static_spec hnamed hmethM (hts _ h2)
    obtain ⟨kP, hkP, -⟩ := className_of_methodNamed hnamed
    have hinitP : kP.init = .initialized := Cond.initialized_spec (findClass_of_methodNamed hnamed) hkP (hts _ h4)
    have hlen : As.length = methM.sig.parameters.length := by
      have h9 := hy.2.2
      rw [hsigM] at h9
      rw [hn]
      exact (Option.some.inj h9).symm
    obtain ⟨vm1, Y1, st1⟩ := Y.invokestatic hexec hown (hts _ h1) hnamed hmethM hstatic hkP hinitP ⟨hy.1, hy.2.1⟩ (g := F0 m pc ls st0) rfl (argsL := As) (rest := rest) hlen hst hdg
    obtain ⟨v, B, Y2, ⟨g', mk', t, L, e1, e2, hq, e3, hL, e4, e5⟩, st2⟩ := hBk m meth c0 ⟨T.setVm vm1, locs, cells, slots⟩ (F0 m pc ls rest) (.invokestatic index) mk As.toArray Y1 rfl (hsz.trans hml.symm) hdg (by simpa [JFrame.monitorRoom] using hW) (Y1.named hnamed)
      ⟨hf.1, hf.2, rfl, (z_pre (av := As) hK hP hD (T.setVm vm1) hT' Y1.warmed).2, hT (T.setVm vm1) hT' Y1.warmed⟩
    obtain ⟨U', l2, n2, s2⟩ := B
    dsimp only [Pt.U, Pt.locs, Pt.cells, Pt.slots] at Y2 e1 e2 e3 e4 e5 st2
    subst e3; subst e4; subst e5
    exact ⟨v, (T.setVm vm1).calling g' mk' As.toArray, t, U', L, hT', Y2, hL, e1, e2, hq, fun target h => st1 _ (fun acts => by rw [doInvoke_state]; exact st2.trans h)⟩
  exact x_calli (gwf := fun u : zS => gw q c u.1 u.2) hrun hD hS hA (fun r u H1 locs1 hp g1 g2 g3 => by
    obtain ⟨z, rfl, hp⟩ := hp
    exact kk z u.1 u.2 H1 locs1 hp g1 g2 g3)
end LH
