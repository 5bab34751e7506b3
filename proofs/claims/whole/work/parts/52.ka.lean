/-! Constructors: of a world that grows -/
def zAO (U : State) : Prop := (Cond.arrayOver (.array .int)).before #[] U = true
theorem zAO.of {s : State} {a : Array Value} (h : (Cond.arrayOver (.array .int)).before a s = true) : zAO s := h
theorem zAO.use {s : State} {a : Array Value} (h : zAO s) : (Cond.arrayOver (.array .int)).before a s = true := h
theorem zAO.moved {s U : State} (hvm : s.vm.Alike U.vm) (h : zAO s) : zAO U := by
  have h1 : (Cond.arrayOver (.array .int)).before #[] (s.setVm U.vm) = true := by rw [Cond.arrayOver_setVmC hvm]; exact h
  exact h1
def zKK (D : va_G) (c : Nat → ClassId) (U : State) : Prop := (va_K D zcl (zty c) U ∧ zNW U) ∧ zAO U
theorem zKK.warm {D : va_G} {c : Nat → ClassId} {s U : State} (hW : s.WarmedH U.vm) (h : zKK D c s) : zKK D c U := ⟨⟨va_K.moved hW.alike h.1.1, zNW.warm hW h.1.2⟩, h.2.moved hW.alike⟩
def zBk (D : va_G) (c : Nat → ClassId) (ws : va_W) (sz : Nat) : State → Prop := fun U => U.heap.size = sz ∧ va_P D zcl ws U.heap ∧ zKK D c U ∧ va_D (fun _ => True) ws
def zMK (l : Launch) (y : MethodName) (bytes : ByteArray) (maxL : Nat) (rm : Room) (D : va_G) (c : Nat → ClassId) (sz : Nat) (av : List Value) (ws : va_W) (mc ms : Nat) (Post : va_W → Prop) : Prop :=
  Met l y (Cond.code y bytes maxL none :: zG) rm (va_Pc av (zBk D c ws sz)) (va_Qv Post (fun w t => va_P D zcl w t.heap ∧ va_D (va_A ws sz) w) (va_A ws sz)) mc ms (va_A ws sz)
theorem zk_blind {D : va_G} {c : Nat → ClassId} {ws : va_W} {sz : Nat} {av : List Value} : FrameBlind (va_Pc av (zBk D c ws sz)) := fun a U g mk h => by
  obtain ⟨q0, q1, qP, qK, qD⟩ := h
  exact ⟨q0, q1, qP, ⟨⟨va_K.moved (u := U) (U := U.calling g mk a) (Vm.Alike.refl U.vm) qK.1.1, zNW.same (u := U) rfl qK.1.2⟩, zAO.moved (s := U) (U := U.calling g mk a) (Vm.Alike.refl U.vm) qK.2⟩, qD⟩
theorem zk_pre {D : va_G} {c : Nat → ClassId} {ws : va_W} {av : List Value} {s : State} {H : Heap} {A0 : Nat → Prop} (hK : zKK D c s) (hP : va_P D zcl ws H) (hD : va_D A0 ws) : ∀ U : State, U.heap = H → s.WarmedH U.vm → va_Pc av (zBk D c ws H.size) av.toArray U := fun U hU hW => ⟨rfl, by rw [hU], by rw [hU]; exact hP, hK.warm hW, hD.weaken (fun _ _ _ _ => trivial)⟩
section ZK
variable {l : Launch} {y : MethodName} {bytes : ByteArray} {maxL : Nat} {rm : Room} {D : va_G} {c : Nat → ClassId} {sz : Nat} {av : List Value} {ws : va_W} {mc ms : Nat} {Post : va_W → Prop}
theorem z_ofK (hy : plainName y.cls = true) (hlen : (lg_sl av).length ≤ maxL)
    (body : ∀ (p : Program) (e : Env) (s : State) (m : MethodId) (args : Array Value) (below : List Frame) (meth : Method) (c0 : Code) (A0 : Nat → Prop) (Q : State → Prop), CallFix p m c0 bytes maxL s args (Cond.code y bytes maxL none :: zG) y.cls ∧ zKK D c s ∧ (∀ x, s.heap.size ≤ x → A0 x) ∧ meth.name = y.name →
      (∀ (w : va_W) (H : Heap) (locs : List Loc) (pc : Nat) (ls : Array Slot) (n1 n2 : Nat), n1 ≤ mc → n2 ≤ ms → decode bytes pc = .ok (.return_, 1) → va_P D zcl w H → va_D A0 w → va_S A0 s.heap H locs → Post w → W p l e rm s m args below meth c0 H locs n1 n2 Q (F0 m pc ls [])) →
      va_P D zcl ws s.heap → va_D A0 ws → va_S A0 s.heap s.heap [] → ∀ ls : Array Slot, lv_has ls maxL (lv_args 0 av) → W p l e rm s m args below meth c0 s.heap [] 0 0 Q (F0 m 0 ls [])) :
    zMK l y bytes maxL rm D c sz av ws mc ms Post := by
  refine Met.ofW (cc := bytes) (maxL := maxL) (ret := none) hy rfl ?_
  intro p e s m args below meth c0 s₁ B hml hv
  obtain ⟨rfl, hsz, hP, hK, hD0⟩ := hv
  subst hsz
  have hl := lv_entry av (n := maxL) hlen
  rw [lg_entry_eq]
  refine body p e s m _ below meth c0 (va_A ws s.heap.size) _ ⟨⟨B.exec, B.bytes, hml, findClass_of_methodNamed B.named, atoms_spec (ws := Cond.code y bytes maxL none :: zG) B.pre⟩, hK, fun x h => Or.inr h, (name_of_methodNamed B.named B.method).1⟩ ?_ hP hD0.self va_S.rf _ hl
  intro w H locs pc ls n1 n2 hn1 hn2 hdg hP1 hD1 hS1 hpost
  refine W.widen hn1 hn2 ?_
  exact W.vret B.exec B.bytes B.returns (fun t ht hW => ⟨⟨w, rfl, hpost, by rw [ht]; exact hP1, hD1⟩, hS1.F ht⟩) hS1.2.2 hdg B.notSynchronized
end ZK
theorem zRA_int {U : State} {a b : ClassId} (h1 : va_RA U a .int) (h2 : va_RA U b .int) : a = b := by
  unfold va_RA at h1 h2
  simp only at h1 h2
  exact Option.some.inj (h1.symm.trans h2)
theorem zRA_long {U : State} {a b : ClassId} (h1 : va_RA U a .long) (h2 : va_RA U b .long) : a = b := by
  unfold va_RA at h1 h2
  simp only at h1 h2
  exact Option.some.inj (h1.symm.trans h2)
theorem zRA_boolean {U : State} {a b : ClassId} (h1 : va_RA U a .boolean) (h2 : va_RA U b .boolean) : a = b := by
  unfold va_RA at h1 h2
  simp only at h1 h2
  exact Option.some.inj (h1.symm.trans h2)
section ZN
variable {p : Program} {l : Launch} {e : Env} {R : Room} {s : State} {m : MethodId} {args : Array Value} {below : List Frame} {meth : Method} {c0 : Code} {H : Heap} {locs : List Loc} {cells slots : Nat} {Q : State → Prop}
variable {cc : ByteArray} {pc : Nat} {ls : Array Slot} {rest : List Value} {D : va_G} {c : Nat → ClassId} {A0 : Nat → Prop} {ws : va_W} {H0 : Heap}
theorem x_newI (hexec : p.tables.exec = Jvm.exec) (hb : c0.code = cc) (harr : (Cond.arrayClass .int).before args s = true) (hK : va_K D zcl (zty c) s) (hP : va_P D zcl ws H) (hD : va_D A0 ws) (hS : va_S A0 H0 H locs) (hA : ∀ q, H0.size ≤ q → A0 q) {n : Int} {N' : Nat} (hn : ¬ iI n < 0) (hN : (iI n).toNatClampNeg = N') (hby : N' * 4 ≤ 536870912) (hc : cells + 1 ≤ R.cells) (hs : slots + N' ≤ R.slots) (hdg : decode cc pc = .ok (.newarray .int, 2))
    (kk : ∀ (q : Nat) (H1 : Heap), va_P D zcl (ws ++ [(q, .inl (c 0, N', .inl (aI (fun _ => 0))))]) H1 → va_D A0 (ws ++ [(q, .inl (c 0, N', .inl (aI (fun _ => 0))))]) → va_S A0 H0 H1 locs → W p l e R s m args below meth c0 H1 locs (cells + 1) (slots + N') Q (F0 m (pc + 2) ls (.ref q :: rest))) : W p l e R s m args below meth c0 H locs cells slots Q (F0 m pc ls (.int (iI n) :: rest)) := by
  refine va_newa (atype := .int) (ty := .int) (a0 := (N', .inl (aI (fun _ => 0)))) hexec hb harr rfl hK hP hD hS hA (fun _ => rfl) hn hN hby hc hs hdg (fun q cA H1 hK1 hP1 hD1 hS1 => ?_)
  have h1 := (hK1.2 4 (cA, .int) rfl).2
  have h2 := (hK.2 0 (c 0, .int) rfl).2
  obtain rfl := zRA_int h1 h2
  exact kk q H1 hP1 hD1 hS1
theorem x_newJ (hexec : p.tables.exec = Jvm.exec) (hb : c0.code = cc) (harr : (Cond.arrayClass .long).before args s = true) (hK : va_K D zcl (zty c) s) (hP : va_P D zcl ws H) (hD : va_D A0 ws) (hS : va_S A0 H0 H locs) (hA : ∀ q, H0.size ≤ q → A0 q) {n : Int} {N' : Nat} (hn : ¬ iI n < 0) (hN : (iI n).toNatClampNeg = N') (hby : N' * 8 ≤ 536870912) (hc : cells + 1 ≤ R.cells) (hs : slots + N' ≤ R.slots) (hdg : decode cc pc = .ok (.newarray .long, 2))
    (kk : ∀ (q : Nat) (H1 : Heap), va_P D zcl (ws ++ [(q, .inl (c 1, N', .inr (.inl (aL (fun _ => 0)))))]) H1 → va_D A0 (ws ++ [(q, .inl (c 1, N', .inr (.inl (aL (fun _ => 0)))))]) → va_S A0 H0 H1 locs → W p l e R s m args below meth c0 H1 locs (cells + 1) (slots + N') Q (F0 m (pc + 2) ls (.ref q :: rest))) : W p l e R s m args below meth c0 H locs cells slots Q (F0 m pc ls (.int (iI n) :: rest)) := by
  refine va_newa (atype := .long) (ty := .long) (a0 := (N', .inr (.inl (aL (fun _ => 0))))) hexec hb harr rfl hK hP hD hS hA (fun _ => rfl) hn hN hby hc hs hdg (fun q cA H1 hK1 hP1 hD1 hS1 => ?_)
  have h1 := (hK1.2 4 (cA, .long) rfl).2
  have h2 := (hK.2 1 (c 1, .long) rfl).2
  obtain rfl := zRA_long h1 h2
  exact kk q H1 hP1 hD1 hS1
theorem x_newZ (hexec : p.tables.exec = Jvm.exec) (hb : c0.code = cc) (harr : (Cond.arrayClass .boolean).before args s = true) (hK : va_K D zcl (zty c) s) (hP : va_P D zcl ws H) (hD : va_D A0 ws) (hS : va_S A0 H0 H locs) (hA : ∀ q, H0.size ≤ q → A0 q) {n : Int} {N' : Nat} (hn : ¬ iI n < 0) (hN : (iI n).toNatClampNeg = N') (hby : N' * 1 ≤ 536870912) (hc : cells + 1 ≤ R.cells) (hs : slots + N' ≤ R.slots) (hdg : decode cc pc = .ok (.newarray .boolean, 2))
    (kk : ∀ (q : Nat) (H1 : Heap), va_P D zcl (ws ++ [(q, .inl (c 2, N', .inl (aI (fun _ => 0))))]) H1 → va_D A0 (ws ++ [(q, .inl (c 2, N', .inl (aI (fun _ => 0))))]) → va_S A0 H0 H1 locs → W p l e R s m args below meth c0 H1 locs (cells + 1) (slots + N') Q (F0 m (pc + 2) ls (.ref q :: rest))) : W p l e R s m args below meth c0 H locs cells slots Q (F0 m pc ls (.int (iI n) :: rest)) := by
  refine va_newa (atype := .boolean) (ty := .boolean) (a0 := (N', .inl (aI (fun _ => 0)))) hexec hb harr rfl hK hP hD hS hA (fun _ => rfl) hn hN hby hc hs hdg (fun q cA H1 hK1 hP1 hD1 hS1 => ?_)
  have h1 := (hK1.2 4 (cA, .boolean) rfl).2
  have h2 := (hK.2 2 (c 2, .boolean) rfl).2
  obtain rfl := zRA_boolean h1 h2
  exact kk q H1 hP1 hD1 hS1
end ZN
def gn (q : Nat → Nat) (c : Nat → ClassId) (F : Nat → Int) (A : Nat → Int → Int) : va_W := [
  (q 1, .inr (1, [.int (iI (F 100)), .int (iI (F 101)), .int (iI (F 102)), .ref (q 6), .ref (q 7), .ref (q 8), .ref (q 9), .ref (q 10), .ref (q 11), .ref (q 12), .ref (q 13)])),
  (q 6, .inl (c 0, 8, .inl (aI (A 6)))),
  (q 7, .inl (c 0, 8, .inl (aI (A 7)))),
  (q 8, .inl (c 0, 8, .inl (aI (A 8)))),
  (q 9, .inl (c 0, 14, .inl (aI (A 9)))),
  (q 10, .inl (c 0, 14, .inl (aI (A 10)))),
  (q 11, .inl (c 0, 14, .inl (aI (A 11)))),
  (q 12, .inl (c 0, 14, .inl (aI (A 12)))),
  (q 13, .inl (c 0, 14, .inl (aI (A 13))))]
def gr (q : Nat → Nat) (c : Nat → ClassId) (F : Nat → Int) (A : Nat → Int → Int) : va_W := [
  (q 2, .inr (2, [.int (iI (F 200)), .int (iI (F 201)), .ref (q 14), .ref (q 15), .ref (q 16), .ref (q 17)])),
  (q 14, .inl (c 0, 400, .inl (aI (A 14)))),
  (q 15, .inl (c 0, 8, .inl (aI (A 15)))),
  (q 16, .inl (c 0, 14, .inl (aI (A 16)))),
  (q 17, .inl (c 0, 14, .inl (aI (A 17))))]
def gp (q : Nat → Nat) (c : Nat → ClassId) (F : Nat → Int) (A : Nat → Int → Int) : va_W := [
  (q 3, .inr (3, [.int (iI (F 300)), .int (iI (F 301)), .int (iI (F 302)), .int (iI (F 303)), .int (iI (F 304)), .ref (q 18), .ref (q 19), .ref (q 20), .ref (q 21), .ref (q 22), .ref (q 23), .ref (q 24), .ref (q 25)])),
  (q 18, .inl (c 0, 8, .inl (aI (A 18)))),
  (q 19, .inl (c 0, 40, .inl (aI (A 19)))),
  (q 20, .inl (c 0, 600, .inl (aI (A 20)))),
  (q 21, .inl (c 0, 600, .inl (aI (A 21)))),
  (q 22, .inl (c 0, 600, .inl (aI (A 22)))),
  (q 23, .inl (c 0, 40, .inl (aI (A 23)))),
  (q 24, .inl (c 0, 40, .inl (aI (A 24)))),
  (q 25, .inl (c 0, 40, .inl (aI (A 25))))]
def gm (q : Nat → Nat) (c : Nat → ClassId) (F : Nat → Int) (A : Nat → Int → Int) : va_W := [
  (q 4, .inr (4, [.ref (q 26)])),
  (q 26, .inl (c 3, 8, .inr (.inr (.inr (.inr (fun i => if i < 8 then some (q (27 + i)) else none)))))),
  (q 27, .inl (c 0, 8, .inl (aI (A 27)))),
  (q 28, .inl (c 0, 8, .inl (aI (A 28)))),
  (q 29, .inl (c 0, 8, .inl (aI (A 29)))),
  (q 30, .inl (c 0, 8, .inl (aI (A 30)))),
  (q 31, .inl (c 0, 8, .inl (aI (A 31)))),
  (q 32, .inl (c 0, 8, .inl (aI (A 32)))),
  (q 33, .inl (c 0, 8, .inl (aI (A 33)))),
  (q 34, .inl (c 0, 8, .inl (aI (A 34))))]
def gx (q : Nat → Nat) (c : Nat → ClassId) (F : Nat → Int) (A : Nat → Int → Int) : va_W := [
  (q 5, .inr (5, [.int (iI (F 500)), .int (iI (F 501)), .int (iI (F 502)), .ref (q 35), .ref (q 36), .ref (q 37), .ref (q 38), .ref (q 39), .ref (q 40), .int (iI (F 509)), .int (iI (F 510)), .int (iI (F 511)), .int (iI (F 512)), .ref (q 41), .ref (q 42), .ref (q 43), .ref (q 44), .ref (q 45), .ref (q 46), .ref (q 47), .int (iI (F 520)), .ref (q 48), .ref (q 49), .int (iI (F 523)), .ref (q 50), .int (iI (F 525)), .ref (q 51), .ref (q 52), .ref (q 53), .ref (q 54), .ref (q 55), .int (iI (F 531)), .int (iI (F 532)), .ref (q 56)])),
  (q 35, .inl (c 0, 8, .inl (aI (A 35)))),
  (q 36, .inl (c 0, 14, .inl (aI (A 36)))),
  (q 37, .inl (c 0, 14, .inl (aI (A 37)))),
  (q 38, .inl (c 0, 14, .inl (aI (A 38)))),
  (q 39, .inl (c 0, 14, .inl (aI (A 39)))),
  (q 40, .inl (c 0, 14, .inl (aI (A 40)))),
  (q 41, .inl (c 0, 8, .inl (aI (A 41)))),
  (q 42, .inl (c 1, 8, .inr (.inl (aL (A 42))))),
  (q 43, .inl (c 1, 8, .inr (.inl (aL (A 43))))),
  (q 44, .inl (c 0, 8, .inl (aI (A 44)))),
  (q 45, .inl (c 0, 8, .inl (aI (A 45)))),
  (q 46, .inl (c 0, 14, .inl (aI (A 46)))),
  (q 47, .inl (c 0, 14, .inl (aI (A 47)))),
  (q 48, .inl (c 0, 400, .inl (aI (A 48)))),
  (q 49, .inl (c 2, 8, .inl (aI (A 49)))),
  (q 50, .inl (c 0, 8, .inl (aI (A 50)))),
  (q 51, .inl (c 0, 700, .inl (aI (A 51)))),
  (q 52, .inl (c 0, 700, .inl (aI (A 52)))),
  (q 53, .inl (c 0, 700, .inl (aI (A 53)))),
  (q 54, .inl (c 0, 700, .inl (aI (A 54)))),
  (q 55, .inl (c 1, 40, .inr (.inl (aL (A 55))))),
  (q 56, .inl (c 0, 64, .inl (aI (A 56))))]
section GN
variable {q : Nat → Nat} {c : Nat → ClassId} {F : Nat → Int} {A : Nat → Int → Int}
theorem gns_0 {x : Int} : (gn q c F A).set 0 (q 1, .inr (1, ([.int (iI (F 100)), .int (iI (F 101)), .int (iI (F 102)), .ref (q 6), .ref (q 7), .ref (q 8), .ref (q 9), .ref (q 10), .ref (q 11), .ref (q 12), .ref (q 13)] : List Value).set 0 (.int (iI x)))) = gn q c (fuP F 100 x) A := rfl
theorem gns_1 {x : Int} : (gn q c F A).set 0 (q 1, .inr (1, ([.int (iI (F 100)), .int (iI (F 101)), .int (iI (F 102)), .ref (q 6), .ref (q 7), .ref (q 8), .ref (q 9), .ref (q 10), .ref (q 11), .ref (q 12), .ref (q 13)] : List Value).set 1 (.int (iI x)))) = gn q c (fuP F 101 x) A := rfl
theorem gns_2 {x : Int} : (gn q c F A).set 0 (q 1, .inr (1, ([.int (iI (F 100)), .int (iI (F 101)), .int (iI (F 102)), .ref (q 6), .ref (q 7), .ref (q 8), .ref (q 9), .ref (q 10), .ref (q 11), .ref (q 12), .ref (q 13)] : List Value).set 2 (.int (iI x)))) = gn q c (fuP F 102 x) A := rfl
theorem gns_6 {i x : Int} : (gn q c F A).set 1 (q 6, .inl (c 0, 8, .inl (aI (upI (A 6) i x)))) = gn q c F (auP A 6 i x) := rfl
theorem gns_7 {i x : Int} : (gn q c F A).set 2 (q 7, .inl (c 0, 8, .inl (aI (upI (A 7) i x)))) = gn q c F (auP A 7 i x) := rfl
theorem gns_8 {i x : Int} : (gn q c F A).set 3 (q 8, .inl (c 0, 8, .inl (aI (upI (A 8) i x)))) = gn q c F (auP A 8 i x) := rfl
end GN
theorem zf_C : ∀ j, j < 4 → defaultValue (zk_C j) = vp_V [.null, .null, .null, .null] j := by
  intro j hj
  rcases j with _ | _ | _ | _ | j
  all_goals first | rfl | (exfalso; omega)
theorem zf_N : ∀ j, j < 11 → defaultValue (zk_N j) = vp_V [.int (iI 0), .int (iI 0), .int (iI 0), .null, .null, .null, .null, .null, .null, .null, .null] j := by
  intro j hj
  rcases j with _ | _ | _ | _ | _ | _ | _ | _ | _ | _ | _ | j
  all_goals first | rfl | (exfalso; omega)
theorem zf_U : ∀ j, j < 6 → defaultValue (zk_U j) = vp_V [.int (iI 0), .int (iI 0), .null, .null, .null, .null] j := by
  intro j hj
  rcases j with _ | _ | _ | _ | _ | _ | j
  all_goals first | rfl | (exfalso; omega)
theorem zf_P : ∀ j, j < 13 → defaultValue (zk_P j) = vp_V [.int (iI 0), .int (iI 0), .int (iI 0), .int (iI 0), .int (iI 0), .null, .null, .null, .null, .null, .null, .null, .null] j := by
  intro j hj
  rcases j with _ | _ | _ | _ | _ | _ | _ | _ | _ | _ | _ | _ | _ | j
  all_goals first | rfl | (exfalso; omega)
theorem zf_M : ∀ j, j < 1 → defaultValue (zk_M j) = vp_V [.null] j := by
  intro j hj
  rcases j with _ | j
  all_goals first | rfl | (exfalso; omega)
theorem zf_X : ∀ j, j < 34 → defaultValue (zk_X j) = vp_V [.int (iI 0), .int (iI 0), .int (iI 0), .null, .null, .null, .null, .null, .null, .int (iI 0), .int (iI 0), .int (iI 0), .int (iI 0), .null, .null, .null, .null, .null, .null, .null, .int (iI 0), .null, .null, .int (iI 0), .null, .int (iI 0), .null, .null, .null, .null, .null, .int (iI 0), .int (iI 0), .null] j := by
  intro j hj
  rcases j with _ | _ | _ | _ | _ | _ | _ | _ | _ | _ | _ | _ | _ | _ | _ | _ | _ | _ | _ | _ | _ | _ | _ | _ | _ | _ | _ | _ | _ | _ | _ | _ | _ | _ | j
  all_goals first | rfl | (exfalso; omega)
set_option maxHeartbeats 4000000 in
set_option maxRecDepth 100000 in
theorem c_N_begin_k (l : Launch) (D : va_G) (q : Nat → Nat) (c : Nat → ClassId) (sz : Nat) (F : Nat → Int) (A : Nat → Int → Int) : zMK l zy_N_begin zc_N_begin 3 zr_N_begin D c sz [.ref (q 1), .int (iI 1)] (gn q c F A) 0 0 (fun w => ∃ F1 A1, w = gn q c F1 A1 ∧ F1 = fuP (fuP (fuP F 100 1) 101 0) 102 (-1) ∧ (∀ k, k ≠ 6 → k ≠ 7 → k ≠ 8 → A1 k = A k) ∧ ∀ a, 0 ≤ a → a < 8 → A1 6 a = 1 ∧ A1 7 a = 1 ∧ A1 8 a = a) := by
  refine z_ofK (by decide) (Nat.le_of_ble_eq_true rfl) ?_
  intro p e s m args below meth c0 A0 Q C0 ret hP hD hS ls hl
  obtain ⟨S, hKK, hA, hnm⟩ := C0
  have hK := hKK.1
  have hx := S.1
  have hb := S.2.1
  have hown := S.2.2.2.1
  have hts : ∀ w ∈ zG, w.before args s = true := fun w h => S.2.2.2.2 w (List.mem_cons_of_mem _ h)
  have hl : lv_has ls 3 [(0, .ref (q 1)), (1, .int (iI (1)))] := hl
  refine lv_aload_n hx hb zd_N_begin_0 rfl (lv_at hl 0 rfl) ?_
  refine lv_iload_n hx hb zd_N_begin_1 rfl (lv_at hl 1 rfl) ?_
  refine va_put (D := D) (ci := 1) (v := .int (iI (1))) (ty := .int) (C := zR_N) (T := zT_N) (N := 11) hx hb hts zi_N zk_N zo_N zn_N hown hK.1 hP hD hS 0 rfl rfl 0 (by decide) (hts _ zw_33) (fun _ h9 => h9) rfl (by decide +kernel) (rfl) (rfl) (Nat.le_of_ble_eq_true rfl) zd_N_begin_2 (fun H locs hP hD hS => ?_)
  rw [gns_0] at hP hD
  refine lv_aload_n hx hb zd_N_begin_5 rfl (lv_at hl 0 rfl) ?_
  refine lv_iconst (v := iI (0)) hx hb zd_N_begin_6 rfl ?_
  refine va_put (D := D) (ci := 1) (v := .int (iI (0))) (ty := .int) (C := zR_N) (T := zT_N) (N := 11) hx hb hts zi_N zk_N zo_N zn_N hown hK.1 hP hD hS 0 rfl rfl 1 (by decide) (hts _ zw_37) (fun _ h9 => h9) rfl (by decide +kernel) (rfl) (rfl) (Nat.le_of_ble_eq_true rfl) zd_N_begin_7 (fun H locs hP hD hS => ?_)
  rw [gns_1] at hP hD
  refine lv_aload_n hx hb zd_N_begin_10 rfl (lv_at hl 0 rfl) ?_
  refine lv_iconst (v := iI (-1)) hx hb zd_N_begin_11 rfl ?_
  refine va_put (D := D) (ci := 1) (v := .int (iI (-1))) (ty := .int) (C := zR_N) (T := zT_N) (N := 11) hx hb hts zi_N zk_N zo_N zn_N hown hK.1 hP hD hS 0 rfl rfl 2 (by decide) (hts _ zw_41) (fun _ h9 => h9) rfl (by decide +kernel) (rfl) (rfl) (Nat.le_of_ble_eq_true rfl) zd_N_begin_12 (fun H locs hP hD hS => ?_)
  rw [gns_2] at hP hD
  refine lv_iconst (v := iI (0)) hx hb zd_N_begin_15 rfl ?_
  refine lv_istore_n (lv' := [(2, .int (iI (0))), (0, .ref (q 1)), (1, .int (iI (1)))]) hx hb zd_N_begin_16 rfl hl (by decide) rfl (fun ls hl => ?_)
  have L_17 : ∀ (fu : Nat) (i : Int)  (A17 : Nat → Int → Int), (0 ≤ i ∧ i ≤ 8) → (∀ k, k ≠ 6 → k ≠ 7 → k ≠ 8 → A17 k = A k) → (∀ a, 0 ≤ a → a < i → A17 6 a = 1 ∧ A17 7 a = 1 ∧ A17 8 a = a) → (8 - i < (fu : Int)) → ∀ (H : Heap) (locs : List Loc), va_P D zcl (gn q c (fuP (fuP (fuP F 100 1) 101 0) 102 (-1)) A17) H → va_D A0 (gn q c (fuP (fuP (fuP F 100 1) 101 0) 102 (-1)) A17) → va_S A0 s.heap H locs → ∀ ls : Array Slot, lv_has ls 3 [(0, .ref (q 1)), (1, .int (iI (1))), (2, .int (iI (i)))] → W p l e zr_N_begin s m args below meth c0 H locs 0 0 Q (F0 m 17 ls []) := by
    intro fu
    induction fu with
    | zero => intro i  A17 hi hk he hm_17; exact absurd hm_17 (by omega)
    | succ fu ih_17 =>
      intro i  A17 hi hk he hm_17 H locs hP hD hS ls hl
      refine lv_iload_n hx hb zd_N_begin_17 rfl (lv_at hl 2 rfl) ?_
      refine lv_bipush (v := iI (8)) hx hb zd_N_begin_18 (by decide) ?_
      refine x_icmp_ge (tgt := 50) hx hb zd_N_begin_20 (by decide) (⟨by omega, by omega⟩) (⟨by omega, by omega⟩) (fun h_20 => ?_) (fun h_20 => ?_)
      · exact ret _ _ _ _ _ _ _ (by decide) (by decide) zd_N_begin_50 hP hD hS ⟨_, _, rfl, ⟨rfl, hk, fun a h0 h1 => he a h0 (by omega)⟩⟩
      · refine lv_aload_n hx hb zd_N_begin_23 rfl (lv_at hl 0 rfl) ?_
        refine va_get (D := D) (ci := 1) (v := .ref (q 6)) (C := zR_N) (T := zT_N) (N := 11) hx hb hts zi_N hown hK.1 hP 0 rfl rfl 3 (by decide) (hts _ zw_43) (fun _ h9 => h9) rfl zd_N_begin_24 ?_
        refine lv_iload_n hx hb zd_N_begin_27 rfl (lv_at hl 2 rfl) ?_
        refine lv_iconst (v := iI (1)) hx hb zd_N_begin_28 rfl ?_
        refine x_iast hx hb hK.1 hP hD hS 1 0 rfl rfl (by decide) (by omega) (by omega) zd_N_begin_29 (fun H locs hP hD hS => ?_)
        rw [gns_6] at hP hD
        refine lv_aload_n hx hb zd_N_begin_30 rfl (lv_at hl 0 rfl) ?_
        refine va_get (D := D) (ci := 1) (v := .ref (q 7)) (C := zR_N) (T := zT_N) (N := 11) hx hb hts zi_N hown hK.1 hP 0 rfl rfl 4 (by decide) (hts _ zw_46) (fun _ h9 => h9) rfl zd_N_begin_31 ?_
        refine lv_iload_n hx hb zd_N_begin_34 rfl (lv_at hl 2 rfl) ?_
        refine lv_iconst (v := iI (1)) hx hb zd_N_begin_35 rfl ?_
        refine x_iast hx hb hK.1 hP hD hS 2 0 rfl rfl (by decide) (by omega) (by omega) zd_N_begin_36 (fun H locs hP hD hS => ?_)
        rw [gns_7] at hP hD
        refine lv_aload_n hx hb zd_N_begin_37 rfl (lv_at hl 0 rfl) ?_
        refine va_get (D := D) (ci := 1) (v := .ref (q 8)) (C := zR_N) (T := zT_N) (N := 11) hx hb hts zi_N hown hK.1 hP 0 rfl rfl 5 (by decide) (hts _ zw_51) (fun _ h9 => h9) rfl zd_N_begin_38 ?_
        refine lv_iload_n hx hb zd_N_begin_41 rfl (lv_at hl 2 rfl) ?_
        refine lv_iload_n hx hb zd_N_begin_42 rfl (lv_at hl 2 rfl) ?_
        refine x_iast hx hb hK.1 hP hD hS 3 0 rfl rfl (by decide) (by omega) (by omega) zd_N_begin_43 (fun H locs hP hD hS => ?_)
        rw [gns_8] at hP hD
        refine lv_iinc (v := iI (i + 1)) (lv' := [(2, .int (iI (i + 1))), (0, .ref (q 1)), (1, .int (iI (1)))]) hx hb zd_N_begin_44 hl (k := 2) rfl (iI_add _ _) (by decide) rfl (fun ls hl => ?_)
        refine lv_goto (tgt := 17) hx hb zd_N_begin_47 (by decide) ?_
        exact ih_17 (i + 1)  (auP (auP (auP A17 6 i 1) 7 i 1) 8 i i) (by first | assumption | omega | (simp_all; done)) (fun k h6 h7 h8 => by simp [auP, h6, h7, h8, hk k h6 h7 h8]) (fun a h0 h1 => by by_cases e_ : a = i; (subst e_; simp [auP, upI]); (have := he a h0 (by omega); simp [auP, upI, e_, this])) (by omega) _ _ hP hD hS ls (lv_sub hl [1, 2, 0] rfl)
  exact L_17 (((8 - (0) : Int) + 1).toNat) (0)  A (by first | assumption | omega | (simp_all; done)) (fun k _ _ _ => rfl) (fun a h0 h1 => by omega) (by omega) _ _ hP hD hS ls (lv_sub hl [1, 2, 0] rfl)
abbrev zr_N_init : Room := ({ frames := 2, cells := 8, slots := 94, locals := 60 } : Room)
set_option maxHeartbeats 4000000 in
set_option maxRecDepth 100000 in
theorem c_N_init (l : Launch) (D : va_G) (c : Nat → ClassId) (sz : Nat) (o : Nat) : zMK l zy_N_init zc_N_init 1 zr_N_init D c sz [.ref o] [(o, .inr (1, [.int (iI 0), .int (iI 0), .int (iI 0), .null, .null, .null, .null, .null, .null, .null, .null]))] 8 94 (fun w => ∃ (qN : Nat → Nat) (FN : Nat → Int) (AN : Nat → Int → Int), w = gn qN c FN AN ∧ qN 1 = o ∧ (FN 100 = 1 ∧ FN 101 = 0 ∧ FN 102 = -1) ∧ ∀ a, 0 ≤ a → a < 8 → AN 6 a = 1 ∧ AN 7 a = 1 ∧ AN 8 a = a) := by
  refine z_ofK (by decide) (Nat.le_of_ble_eq_true rfl) ?_
  intro p e s m args below meth c0 A0 Q C0 ret hP hD hS ls hl
  obtain ⟨S, hKK, hA, hnm⟩ := C0
  have hK := hKK.1
  have hx := S.1
  have hb := S.2.1
  have hown := S.2.2.2.1
  have hts : ∀ w ∈ zG, w.before args s = true := fun w h => S.2.2.2.2 w (List.mem_cons_of_mem _ h)
  have hl : lv_has ls 1 [(0, .ref o)] := hl
  refine lv_aload_n hx hb zd_N_init_0 rfl (lv_at hl 0 rfl) ?_
  refine W.objInit hx hb hown (hts _ zw_27) (hts _ zw_20) (hts _ zw_21) (g := F0 m 1 ls [.ref o]) rfl (hl.1.trans S.2.2.1.symm) (rest := []) rfl zd_N_init_1 (by decide) (Nat.le_of_ble_eq_true rfl) ?_
  refine lv_aload_n hx hb zd_N_init_4 rfl (lv_at hl 0 rfl) ?_
  refine lv_bipush (v := iI (8)) hx hb zd_N_init_5 (by decide) ?_
  refine x_newI (n := 8) (N' := 8) hx hb (hts _ zw_93) hK.1 hP hD hS hA (by decide) (by decide) (by decide) (by decide) (by decide) zd_N_init_7 (fun r_7 H hP hD hS => ?_)
  have hP : va_P D zcl ([(o, .inr (1, [.int (iI 0), .int (iI 0), .int (iI 0), .null, .null, .null, .null, .null, .null, .null, .null])), (r_7, .inl (c 0, 8, .inl (aI (fun _ => 0))))]) H := hP
  have hD : va_D A0 ([(o, .inr (1, [.int (iI 0), .int (iI 0), .int (iI 0), .null, .null, .null, .null, .null, .null, .null, .null])), (r_7, .inl (c 0, 8, .inl (aI (fun _ => 0))))]) := hD
  refine va_putF (D := D) (ci := 1) (v := .ref r_7) (ty := .array .int) (C := zR_N) (T := zT_N) (N := 11) hx hb hts zi_N zk_N zo_N zn_N hown hK.1 hP hD hS 0 rfl rfl 3 (by decide) (hts _ zw_43) (fun _ h9 => h9) rfl hnm rfl (by decide +kernel) rfl rfl (Nat.le_of_ble_eq_true rfl) zd_N_init_9 (fun H locs hP hD hS => ?_)
  have hP : va_P D zcl ([(o, .inr (1, [.int (iI 0), .int (iI 0), .int (iI 0), .ref r_7, .null, .null, .null, .null, .null, .null, .null])), (r_7, .inl (c 0, 8, .inl (aI (fun _ => 0))))]) H := hP
  have hD : va_D A0 ([(o, .inr (1, [.int (iI 0), .int (iI 0), .int (iI 0), .ref r_7, .null, .null, .null, .null, .null, .null, .null])), (r_7, .inl (c 0, 8, .inl (aI (fun _ => 0))))]) := hD
  refine lv_aload_n hx hb zd_N_init_12 rfl (lv_at hl 0 rfl) ?_
  refine lv_bipush (v := iI (8)) hx hb zd_N_init_13 (by decide) ?_
  refine x_newI (n := 8) (N' := 8) hx hb (hts _ zw_93) hK.1 hP hD hS hA (by decide) (by decide) (by decide) (by decide) (by decide) zd_N_init_15 (fun r_15 H hP hD hS => ?_)
  have hP : va_P D zcl ([(o, .inr (1, [.int (iI 0), .int (iI 0), .int (iI 0), .ref r_7, .null, .null, .null, .null, .null, .null, .null])), (r_7, .inl (c 0, 8, .inl (aI (fun _ => 0)))), (r_15, .inl (c 0, 8, .inl (aI (fun _ => 0))))]) H := hP
  have hD : va_D A0 ([(o, .inr (1, [.int (iI 0), .int (iI 0), .int (iI 0), .ref r_7, .null, .null, .null, .null, .null, .null, .null])), (r_7, .inl (c 0, 8, .inl (aI (fun _ => 0)))), (r_15, .inl (c 0, 8, .inl (aI (fun _ => 0))))]) := hD
  refine va_putF (D := D) (ci := 1) (v := .ref r_15) (ty := .array .int) (C := zR_N) (T := zT_N) (N := 11) hx hb hts zi_N zk_N zo_N zn_N hown hK.1 hP hD hS 0 rfl rfl 4 (by decide) (hts _ zw_46) (fun _ h9 => h9) rfl hnm rfl (by decide +kernel) rfl rfl (Nat.le_of_ble_eq_true rfl) zd_N_init_17 (fun H locs hP hD hS => ?_)
  have hP : va_P D zcl ([(o, .inr (1, [.int (iI 0), .int (iI 0), .int (iI 0), .ref r_7, .ref r_15, .null, .null, .null, .null, .null, .null])), (r_7, .inl (c 0, 8, .inl (aI (fun _ => 0)))), (r_15, .inl (c 0, 8, .inl (aI (fun _ => 0))))]) H := hP
  have hD : va_D A0 ([(o, .inr (1, [.int (iI 0), .int (iI 0), .int (iI 0), .ref r_7, .ref r_15, .null, .null, .null, .null, .null, .null])), (r_7, .inl (c 0, 8, .inl (aI (fun _ => 0)))), (r_15, .inl (c 0, 8, .inl (aI (fun _ => 0))))]) := hD
  refine lv_aload_n hx hb zd_N_init_20 rfl (lv_at hl 0 rfl) ?_
  refine lv_bipush (v := iI (8)) hx hb zd_N_init_21 (by decide) ?_
  refine x_newI (n := 8) (N' := 8) hx hb (hts _ zw_93) hK.1 hP hD hS hA (by decide) (by decide) (by decide) (by decide) (by decide) zd_N_init_23 (fun r_23 H hP hD hS => ?_)
  have hP : va_P D zcl ([(o, .inr (1, [.int (iI 0), .int (iI 0), .int (iI 0), .ref r_7, .ref r_15, .null, .null, .null, .null, .null, .null])), (r_7, .inl (c 0, 8, .inl (aI (fun _ => 0)))), (r_15, .inl (c 0, 8, .inl (aI (fun _ => 0)))), (r_23, .inl (c 0, 8, .inl (aI (fun _ => 0))))]) H := hP
  have hD : va_D A0 ([(o, .inr (1, [.int (iI 0), .int (iI 0), .int (iI 0), .ref r_7, .ref r_15, .null, .null, .null, .null, .null, .null])), (r_7, .inl (c 0, 8, .inl (aI (fun _ => 0)))), (r_15, .inl (c 0, 8, .inl (aI (fun _ => 0)))), (r_23, .inl (c 0, 8, .inl (aI (fun _ => 0))))]) := hD
  refine va_putF (D := D) (ci := 1) (v := .ref r_23) (ty := .array .int) (C := zR_N) (T := zT_N) (N := 11) hx hb hts zi_N zk_N zo_N zn_N hown hK.1 hP hD hS 0 rfl rfl 5 (by decide) (hts _ zw_51) (fun _ h9 => h9) rfl hnm rfl (by decide +kernel) rfl rfl (Nat.le_of_ble_eq_true rfl) zd_N_init_25 (fun H locs hP hD hS => ?_)
  have hP : va_P D zcl ([(o, .inr (1, [.int (iI 0), .int (iI 0), .int (iI 0), .ref r_7, .ref r_15, .ref r_23, .null, .null, .null, .null, .null])), (r_7, .inl (c 0, 8, .inl (aI (fun _ => 0)))), (r_15, .inl (c 0, 8, .inl (aI (fun _ => 0)))), (r_23, .inl (c 0, 8, .inl (aI (fun _ => 0))))]) H := hP
  have hD : va_D A0 ([(o, .inr (1, [.int (iI 0), .int (iI 0), .int (iI 0), .ref r_7, .ref r_15, .ref r_23, .null, .null, .null, .null, .null])), (r_7, .inl (c 0, 8, .inl (aI (fun _ => 0)))), (r_15, .inl (c 0, 8, .inl (aI (fun _ => 0)))), (r_23, .inl (c 0, 8, .inl (aI (fun _ => 0))))]) := hD
  refine lv_aload_n hx hb zd_N_init_28 rfl (lv_at hl 0 rfl) ?_
  refine lv_bipush (v := iI (14)) hx hb zd_N_init_29 (by decide) ?_
  refine x_newI (n := 14) (N' := 14) hx hb (hts _ zw_93) hK.1 hP hD hS hA (by decide) (by decide) (by decide) (by decide) (by decide) zd_N_init_31 (fun r_31 H hP hD hS => ?_)
  have hP : va_P D zcl ([(o, .inr (1, [.int (iI 0), .int (iI 0), .int (iI 0), .ref r_7, .ref r_15, .ref r_23, .null, .null, .null, .null, .null])), (r_7, .inl (c 0, 8, .inl (aI (fun _ => 0)))), (r_15, .inl (c 0, 8, .inl (aI (fun _ => 0)))), (r_23, .inl (c 0, 8, .inl (aI (fun _ => 0)))), (r_31, .inl (c 0, 14, .inl (aI (fun _ => 0))))]) H := hP
  have hD : va_D A0 ([(o, .inr (1, [.int (iI 0), .int (iI 0), .int (iI 0), .ref r_7, .ref r_15, .ref r_23, .null, .null, .null, .null, .null])), (r_7, .inl (c 0, 8, .inl (aI (fun _ => 0)))), (r_15, .inl (c 0, 8, .inl (aI (fun _ => 0)))), (r_23, .inl (c 0, 8, .inl (aI (fun _ => 0)))), (r_31, .inl (c 0, 14, .inl (aI (fun _ => 0))))]) := hD
  refine va_putF (D := D) (ci := 1) (v := .ref r_31) (ty := .array .int) (C := zR_N) (T := zT_N) (N := 11) hx hb hts zi_N zk_N zo_N zn_N hown hK.1 hP hD hS 0 rfl rfl 6 (by decide) (hts _ zw_54) (fun _ h9 => h9) rfl hnm rfl (by decide +kernel) rfl rfl (Nat.le_of_ble_eq_true rfl) zd_N_init_33 (fun H locs hP hD hS => ?_)
  have hP : va_P D zcl ([(o, .inr (1, [.int (iI 0), .int (iI 0), .int (iI 0), .ref r_7, .ref r_15, .ref r_23, .ref r_31, .null, .null, .null, .null])), (r_7, .inl (c 0, 8, .inl (aI (fun _ => 0)))), (r_15, .inl (c 0, 8, .inl (aI (fun _ => 0)))), (r_23, .inl (c 0, 8, .inl (aI (fun _ => 0)))), (r_31, .inl (c 0, 14, .inl (aI (fun _ => 0))))]) H := hP
  have hD : va_D A0 ([(o, .inr (1, [.int (iI 0), .int (iI 0), .int (iI 0), .ref r_7, .ref r_15, .ref r_23, .ref r_31, .null, .null, .null, .null])), (r_7, .inl (c 0, 8, .inl (aI (fun _ => 0)))), (r_15, .inl (c 0, 8, .inl (aI (fun _ => 0)))), (r_23, .inl (c 0, 8, .inl (aI (fun _ => 0)))), (r_31, .inl (c 0, 14, .inl (aI (fun _ => 0))))]) := hD
  refine lv_aload_n hx hb zd_N_init_36 rfl (lv_at hl 0 rfl) ?_
  refine lv_bipush (v := iI (14)) hx hb zd_N_init_37 (by decide) ?_
  refine x_newI (n := 14) (N' := 14) hx hb (hts _ zw_93) hK.1 hP hD hS hA (by decide) (by decide) (by decide) (by decide) (by decide) zd_N_init_39 (fun r_39 H hP hD hS => ?_)
  have hP : va_P D zcl ([(o, .inr (1, [.int (iI 0), .int (iI 0), .int (iI 0), .ref r_7, .ref r_15, .ref r_23, .ref r_31, .null, .null, .null, .null])), (r_7, .inl (c 0, 8, .inl (aI (fun _ => 0)))), (r_15, .inl (c 0, 8, .inl (aI (fun _ => 0)))), (r_23, .inl (c 0, 8, .inl (aI (fun _ => 0)))), (r_31, .inl (c 0, 14, .inl (aI (fun _ => 0)))), (r_39, .inl (c 0, 14, .inl (aI (fun _ => 0))))]) H := hP
  have hD : va_D A0 ([(o, .inr (1, [.int (iI 0), .int (iI 0), .int (iI 0), .ref r_7, .ref r_15, .ref r_23, .ref r_31, .null, .null, .null, .null])), (r_7, .inl (c 0, 8, .inl (aI (fun _ => 0)))), (r_15, .inl (c 0, 8, .inl (aI (fun _ => 0)))), (r_23, .inl (c 0, 8, .inl (aI (fun _ => 0)))), (r_31, .inl (c 0, 14, .inl (aI (fun _ => 0)))), (r_39, .inl (c 0, 14, .inl (aI (fun _ => 0))))]) := hD
  refine va_putF (D := D) (ci := 1) (v := .ref r_39) (ty := .array .int) (C := zR_N) (T := zT_N) (N := 11) hx hb hts zi_N zk_N zo_N zn_N hown hK.1 hP hD hS 0 rfl rfl 7 (by decide) (hts _ zw_57) (fun _ h9 => h9) rfl hnm rfl (by decide +kernel) rfl rfl (Nat.le_of_ble_eq_true rfl) zd_N_init_41 (fun H locs hP hD hS => ?_)
  have hP : va_P D zcl ([(o, .inr (1, [.int (iI 0), .int (iI 0), .int (iI 0), .ref r_7, .ref r_15, .ref r_23, .ref r_31, .ref r_39, .null, .null, .null])), (r_7, .inl (c 0, 8, .inl (aI (fun _ => 0)))), (r_15, .inl (c 0, 8, .inl (aI (fun _ => 0)))), (r_23, .inl (c 0, 8, .inl (aI (fun _ => 0)))), (r_31, .inl (c 0, 14, .inl (aI (fun _ => 0)))), (r_39, .inl (c 0, 14, .inl (aI (fun _ => 0))))]) H := hP
  have hD : va_D A0 ([(o, .inr (1, [.int (iI 0), .int (iI 0), .int (iI 0), .ref r_7, .ref r_15, .ref r_23, .ref r_31, .ref r_39, .null, .null, .null])), (r_7, .inl (c 0, 8, .inl (aI (fun _ => 0)))), (r_15, .inl (c 0, 8, .inl (aI (fun _ => 0)))), (r_23, .inl (c 0, 8, .inl (aI (fun _ => 0)))), (r_31, .inl (c 0, 14, .inl (aI (fun _ => 0)))), (r_39, .inl (c 0, 14, .inl (aI (fun _ => 0))))]) := hD
  refine lv_aload_n hx hb zd_N_init_44 rfl (lv_at hl 0 rfl) ?_
  refine lv_bipush (v := iI (14)) hx hb zd_N_init_45 (by decide) ?_
  refine x_newI (n := 14) (N' := 14) hx hb (hts _ zw_93) hK.1 hP hD hS hA (by decide) (by decide) (by decide) (by decide) (by decide) zd_N_init_47 (fun r_47 H hP hD hS => ?_)
  have hP : va_P D zcl ([(o, .inr (1, [.int (iI 0), .int (iI 0), .int (iI 0), .ref r_7, .ref r_15, .ref r_23, .ref r_31, .ref r_39, .null, .null, .null])), (r_7, .inl (c 0, 8, .inl (aI (fun _ => 0)))), (r_15, .inl (c 0, 8, .inl (aI (fun _ => 0)))), (r_23, .inl (c 0, 8, .inl (aI (fun _ => 0)))), (r_31, .inl (c 0, 14, .inl (aI (fun _ => 0)))), (r_39, .inl (c 0, 14, .inl (aI (fun _ => 0)))), (r_47, .inl (c 0, 14, .inl (aI (fun _ => 0))))]) H := hP
  have hD : va_D A0 ([(o, .inr (1, [.int (iI 0), .int (iI 0), .int (iI 0), .ref r_7, .ref r_15, .ref r_23, .ref r_31, .ref r_39, .null, .null, .null])), (r_7, .inl (c 0, 8, .inl (aI (fun _ => 0)))), (r_15, .inl (c 0, 8, .inl (aI (fun _ => 0)))), (r_23, .inl (c 0, 8, .inl (aI (fun _ => 0)))), (r_31, .inl (c 0, 14, .inl (aI (fun _ => 0)))), (r_39, .inl (c 0, 14, .inl (aI (fun _ => 0)))), (r_47, .inl (c 0, 14, .inl (aI (fun _ => 0))))]) := hD
  refine va_putF (D := D) (ci := 1) (v := .ref r_47) (ty := .array .int) (C := zR_N) (T := zT_N) (N := 11) hx hb hts zi_N zk_N zo_N zn_N hown hK.1 hP hD hS 0 rfl rfl 8 (by decide) (hts _ zw_60) (fun _ h9 => h9) rfl hnm rfl (by decide +kernel) rfl rfl (Nat.le_of_ble_eq_true rfl) zd_N_init_49 (fun H locs hP hD hS => ?_)
  have hP : va_P D zcl ([(o, .inr (1, [.int (iI 0), .int (iI 0), .int (iI 0), .ref r_7, .ref r_15, .ref r_23, .ref r_31, .ref r_39, .ref r_47, .null, .null])), (r_7, .inl (c 0, 8, .inl (aI (fun _ => 0)))), (r_15, .inl (c 0, 8, .inl (aI (fun _ => 0)))), (r_23, .inl (c 0, 8, .inl (aI (fun _ => 0)))), (r_31, .inl (c 0, 14, .inl (aI (fun _ => 0)))), (r_39, .inl (c 0, 14, .inl (aI (fun _ => 0)))), (r_47, .inl (c 0, 14, .inl (aI (fun _ => 0))))]) H := hP
  have hD : va_D A0 ([(o, .inr (1, [.int (iI 0), .int (iI 0), .int (iI 0), .ref r_7, .ref r_15, .ref r_23, .ref r_31, .ref r_39, .ref r_47, .null, .null])), (r_7, .inl (c 0, 8, .inl (aI (fun _ => 0)))), (r_15, .inl (c 0, 8, .inl (aI (fun _ => 0)))), (r_23, .inl (c 0, 8, .inl (aI (fun _ => 0)))), (r_31, .inl (c 0, 14, .inl (aI (fun _ => 0)))), (r_39, .inl (c 0, 14, .inl (aI (fun _ => 0)))), (r_47, .inl (c 0, 14, .inl (aI (fun _ => 0))))]) := hD
  refine lv_aload_n hx hb zd_N_init_52 rfl (lv_at hl 0 rfl) ?_
  refine lv_bipush (v := iI (14)) hx hb zd_N_init_53 (by decide) ?_
  refine x_newI (n := 14) (N' := 14) hx hb (hts _ zw_93) hK.1 hP hD hS hA (by decide) (by decide) (by decide) (by decide) (by decide) zd_N_init_55 (fun r_55 H hP hD hS => ?_)
  have hP : va_P D zcl ([(o, .inr (1, [.int (iI 0), .int (iI 0), .int (iI 0), .ref r_7, .ref r_15, .ref r_23, .ref r_31, .ref r_39, .ref r_47, .null, .null])), (r_7, .inl (c 0, 8, .inl (aI (fun _ => 0)))), (r_15, .inl (c 0, 8, .inl (aI (fun _ => 0)))), (r_23, .inl (c 0, 8, .inl (aI (fun _ => 0)))), (r_31, .inl (c 0, 14, .inl (aI (fun _ => 0)))), (r_39, .inl (c 0, 14, .inl (aI (fun _ => 0)))), (r_47, .inl (c 0, 14, .inl (aI (fun _ => 0)))), (r_55, .inl (c 0, 14, .inl (aI (fun _ => 0))))]) H := hP
  have hD : va_D A0 ([(o, .inr (1, [.int (iI 0), .int (iI 0), .int (iI 0), .ref r_7, .ref r_15, .ref r_23, .ref r_31, .ref r_39, .ref r_47, .null, .null])), (r_7, .inl (c 0, 8, .inl (aI (fun _ => 0)))), (r_15, .inl (c 0, 8, .inl (aI (fun _ => 0)))), (r_23, .inl (c 0, 8, .inl (aI (fun _ => 0)))), (r_31, .inl (c 0, 14, .inl (aI (fun _ => 0)))), (r_39, .inl (c 0, 14, .inl (aI (fun _ => 0)))), (r_47, .inl (c 0, 14, .inl (aI (fun _ => 0)))), (r_55, .inl (c 0, 14, .inl (aI (fun _ => 0))))]) := hD
  refine va_putF (D := D) (ci := 1) (v := .ref r_55) (ty := .array .int) (C := zR_N) (T := zT_N) (N := 11) hx hb hts zi_N zk_N zo_N zn_N hown hK.1 hP hD hS 0 rfl rfl 9 (by decide) (hts _ zw_64) (fun _ h9 => h9) rfl hnm rfl (by decide +kernel) rfl rfl (Nat.le_of_ble_eq_true rfl) zd_N_init_57 (fun H locs hP hD hS => ?_)
  have hP : va_P D zcl ([(o, .inr (1, [.int (iI 0), .int (iI 0), .int (iI 0), .ref r_7, .ref r_15, .ref r_23, .ref r_31, .ref r_39, .ref r_47, .ref r_55, .null])), (r_7, .inl (c 0, 8, .inl (aI (fun _ => 0)))), (r_15, .inl (c 0, 8, .inl (aI (fun _ => 0)))), (r_23, .inl (c 0, 8, .inl (aI (fun _ => 0)))), (r_31, .inl (c 0, 14, .inl (aI (fun _ => 0)))), (r_39, .inl (c 0, 14, .inl (aI (fun _ => 0)))), (r_47, .inl (c 0, 14, .inl (aI (fun _ => 0)))), (r_55, .inl (c 0, 14, .inl (aI (fun _ => 0))))]) H := hP
  have hD : va_D A0 ([(o, .inr (1, [.int (iI 0), .int (iI 0), .int (iI 0), .ref r_7, .ref r_15, .ref r_23, .ref r_31, .ref r_39, .ref r_47, .ref r_55, .null])), (r_7, .inl (c 0, 8, .inl (aI (fun _ => 0)))), (r_15, .inl (c 0, 8, .inl (aI (fun _ => 0)))), (r_23, .inl (c 0, 8, .inl (aI (fun _ => 0)))), (r_31, .inl (c 0, 14, .inl (aI (fun _ => 0)))), (r_39, .inl (c 0, 14, .inl (aI (fun _ => 0)))), (r_47, .inl (c 0, 14, .inl (aI (fun _ => 0)))), (r_55, .inl (c 0, 14, .inl (aI (fun _ => 0))))]) := hD
  refine lv_aload_n hx hb zd_N_init_60 rfl (lv_at hl 0 rfl) ?_
  refine lv_bipush (v := iI (14)) hx hb zd_N_init_61 (by decide) ?_
  refine x_newI (n := 14) (N' := 14) hx hb (hts _ zw_93) hK.1 hP hD hS hA (by decide) (by decide) (by decide) (by decide) (by decide) zd_N_init_63 (fun r_63 H hP hD hS => ?_)
  have hP : va_P D zcl ([(o, .inr (1, [.int (iI 0), .int (iI 0), .int (iI 0), .ref r_7, .ref r_15, .ref r_23, .ref r_31, .ref r_39, .ref r_47, .ref r_55, .null])), (r_7, .inl (c 0, 8, .inl (aI (fun _ => 0)))), (r_15, .inl (c 0, 8, .inl (aI (fun _ => 0)))), (r_23, .inl (c 0, 8, .inl (aI (fun _ => 0)))), (r_31, .inl (c 0, 14, .inl (aI (fun _ => 0)))), (r_39, .inl (c 0, 14, .inl (aI (fun _ => 0)))), (r_47, .inl (c 0, 14, .inl (aI (fun _ => 0)))), (r_55, .inl (c 0, 14, .inl (aI (fun _ => 0)))), (r_63, .inl (c 0, 14, .inl (aI (fun _ => 0))))]) H := hP
  have hD : va_D A0 ([(o, .inr (1, [.int (iI 0), .int (iI 0), .int (iI 0), .ref r_7, .ref r_15, .ref r_23, .ref r_31, .ref r_39, .ref r_47, .ref r_55, .null])), (r_7, .inl (c 0, 8, .inl (aI (fun _ => 0)))), (r_15, .inl (c 0, 8, .inl (aI (fun _ => 0)))), (r_23, .inl (c 0, 8, .inl (aI (fun _ => 0)))), (r_31, .inl (c 0, 14, .inl (aI (fun _ => 0)))), (r_39, .inl (c 0, 14, .inl (aI (fun _ => 0)))), (r_47, .inl (c 0, 14, .inl (aI (fun _ => 0)))), (r_55, .inl (c 0, 14, .inl (aI (fun _ => 0)))), (r_63, .inl (c 0, 14, .inl (aI (fun _ => 0))))]) := hD
  refine va_putF (D := D) (ci := 1) (v := .ref r_63) (ty := .array .int) (C := zR_N) (T := zT_N) (N := 11) hx hb hts zi_N zk_N zo_N zn_N hown hK.1 hP hD hS 0 rfl rfl 10 (by decide) (hts _ zw_67) (fun _ h9 => h9) rfl hnm rfl (by decide +kernel) rfl rfl (Nat.le_of_ble_eq_true rfl) zd_N_init_65 (fun H locs hP hD hS => ?_)
  have hP : va_P D zcl ([(o, .inr (1, [.int (iI 0), .int (iI 0), .int (iI 0), .ref r_7, .ref r_15, .ref r_23, .ref r_31, .ref r_39, .ref r_47, .ref r_55, .ref r_63])), (r_7, .inl (c 0, 8, .inl (aI (fun _ => 0)))), (r_15, .inl (c 0, 8, .inl (aI (fun _ => 0)))), (r_23, .inl (c 0, 8, .inl (aI (fun _ => 0)))), (r_31, .inl (c 0, 14, .inl (aI (fun _ => 0)))), (r_39, .inl (c 0, 14, .inl (aI (fun _ => 0)))), (r_47, .inl (c 0, 14, .inl (aI (fun _ => 0)))), (r_55, .inl (c 0, 14, .inl (aI (fun _ => 0)))), (r_63, .inl (c 0, 14, .inl (aI (fun _ => 0))))]) H := hP
  have hD : va_D A0 ([(o, .inr (1, [.int (iI 0), .int (iI 0), .int (iI 0), .ref r_7, .ref r_15, .ref r_23, .ref r_31, .ref r_39, .ref r_47, .ref r_55, .ref r_63])), (r_7, .inl (c 0, 8, .inl (aI (fun _ => 0)))), (r_15, .inl (c 0, 8, .inl (aI (fun _ => 0)))), (r_23, .inl (c 0, 8, .inl (aI (fun _ => 0)))), (r_31, .inl (c 0, 14, .inl (aI (fun _ => 0)))), (r_39, .inl (c 0, 14, .inl (aI (fun _ => 0)))), (r_47, .inl (c 0, 14, .inl (aI (fun _ => 0)))), (r_55, .inl (c 0, 14, .inl (aI (fun _ => 0)))), (r_63, .inl (c 0, 14, .inl (aI (fun _ => 0))))]) := hD
  refine lv_aload_n hx hb zd_N_init_68 rfl (lv_at hl 0 rfl) ?_
  refine lv_iconst (v := iI (1)) hx hb zd_N_init_69 rfl ?_
  let qN : Nat → Nat := fun k => if k = 1 then o else if k = 6 then r_7 else if k = 7 then r_15 else if k = 8 then r_23 else if k = 9 then r_31 else if k = 10 then r_39 else if k = 11 then r_47 else if k = 12 then r_55 else if k = 13 then r_63 else 0
  have hP : va_P D zcl (gn qN c (fun _ => 0) (fun _ _ => 0)) H := hP
  have hD : va_D A0 (gn qN c (fun _ => 0) (fun _ _ => 0)) := hD
  have hF0 : ∀ q, va_A (gn qN c (fun _ => 0) (fun _ _ => 0)) H.size q → A0 q := x_free hD hS hA
  refine va_callv (va_runV (C := zR_N) (n := 1) (As := [.int (iI 1)]) (rest := []) S (c_N_begin_k l D qN c _ (fun _ => 0) (fun _ _ => 0)) (cwV 1 S.2.2.2.2 (z_gA (pre := [_, _, _, _]) (fun w hw => by (simp only [List.mem_cons, List.not_mem_nil, or_false] at hw; rcases hw with rfl | rfl | rfl | rfl; (exact zw_28); (exact zw_30); (exact zs_0); (exact zw_2))) (z_gS zw_31)) rfl rfl rfl ⟨rfl, by decide, by decide, by decide +kernel⟩ ⟨by decide, by decide⟩) ⟨zk_blind, va_recv hK.1 hP (ci := 1) rfl (q0 := 0) rfl, zk_pre hKK hP hD⟩ rfl rfl hl.1 rfl (lv_room (Nat.le_of_ble_eq_true rfl)) zd_N_init_70 ⟨by decide, by decide⟩) hS (fun q _ h => hF0 q h) hF0 (fun w t H locs ht hvm hq hB hz hk hS => ?_)
  obtain ⟨F1, A1, rfl, n1, n2, n3⟩ := hq
  have hP : va_P D zcl (gn qN c F1 A1) H := by rw [← ht]; exact hB.1
  have hD : va_D A0 (gn qN c F1 A1) := hB.2.weaken (fun _ _ _ h => hF0 _ h)
  exact ret _ _ _ _ _ _ _ (by decide) (by decide) zd_N_init_73 hP hD hS (⟨qN, F1, A1, rfl, rfl, ⟨by rw [n1]; rfl, by rw [n1]; rfl, by rw [n1]; rfl⟩, n3⟩)
