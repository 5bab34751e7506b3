abbrev zc_J_floorDiv : ByteArray := prog_11_method_47_code
def zy_J_floorDiv : MethodName := ⟨"java/lang/Math", "floorDiv", "(II)I"⟩
abbrev zc_J_floorMod : ByteArray := prog_11_method_50_code
def zy_J_floorMod : MethodName := ⟨"java/lang/Math", "floorMod", "(II)I"⟩
theorem zd_J_floorDiv_0 : decode zc_J_floorDiv 0 = .ok (.iload_n 0, 1) := by decide +kernel
theorem zd_J_floorDiv_1 : decode zc_J_floorDiv 1 = .ok (.iload_n 1, 1) := by decide +kernel
theorem zd_J_floorDiv_2 : decode zc_J_floorDiv 2 = .ok (.idiv, 1) := by decide +kernel
theorem zd_J_floorDiv_3 : decode zc_J_floorDiv 3 = .ok (.istore_n 2, 1) := by decide +kernel
theorem zd_J_floorDiv_4 : decode zc_J_floorDiv 4 = .ok (.iload_n 0, 1) := by decide +kernel
theorem zd_J_floorDiv_5 : decode zc_J_floorDiv 5 = .ok (.iload_n 1, 1) := by decide +kernel
theorem zd_J_floorDiv_6 : decode zc_J_floorDiv 6 = .ok (.ixor, 1) := by decide +kernel
theorem zd_J_floorDiv_7 : decode zc_J_floorDiv 7 = .ok (.ifCond .ge 14, 3) := by decide +kernel
theorem zd_J_floorDiv_10 : decode zc_J_floorDiv 10 = .ok (.iload_n 2, 1) := by decide +kernel
theorem zd_J_floorDiv_11 : decode zc_J_floorDiv 11 = .ok (.iload_n 1, 1) := by decide +kernel
theorem zd_J_floorDiv_12 : decode zc_J_floorDiv 12 = .ok (.imul, 1) := by decide +kernel
theorem zd_J_floorDiv_13 : decode zc_J_floorDiv 13 = .ok (.iload_n 0, 1) := by decide +kernel
theorem zd_J_floorDiv_14 : decode zc_J_floorDiv 14 = .ok (.if_icmp .eq 7, 3) := by decide +kernel
theorem zd_J_floorDiv_17 : decode zc_J_floorDiv 17 = .ok (.iload_n 2, 1) := by decide +kernel
theorem zd_J_floorDiv_18 : decode zc_J_floorDiv 18 = .ok (.iconst 1, 1) := by decide +kernel
theorem zd_J_floorDiv_19 : decode zc_J_floorDiv 19 = .ok (.isub, 1) := by decide +kernel
theorem zd_J_floorDiv_20 : decode zc_J_floorDiv 20 = .ok (.ireturn, 1) := by decide +kernel
theorem zd_J_floorDiv_21 : decode zc_J_floorDiv 21 = .ok (.iload_n 2, 1) := by decide +kernel
theorem zd_J_floorDiv_22 : decode zc_J_floorDiv 22 = .ok (.ireturn, 1) := by decide +kernel
theorem zd_J_floorMod_0 : decode zc_J_floorMod 0 = .ok (.iload_n 0, 1) := by decide +kernel
theorem zd_J_floorMod_1 : decode zc_J_floorMod 1 = .ok (.iload_n 1, 1) := by decide +kernel
theorem zd_J_floorMod_2 : decode zc_J_floorMod 2 = .ok (.irem, 1) := by decide +kernel
theorem zd_J_floorMod_3 : decode zc_J_floorMod 3 = .ok (.istore_n 2, 1) := by decide +kernel
theorem zd_J_floorMod_4 : decode zc_J_floorMod 4 = .ok (.iload_n 0, 1) := by decide +kernel
theorem zd_J_floorMod_5 : decode zc_J_floorMod 5 = .ok (.iload_n 1, 1) := by decide +kernel
theorem zd_J_floorMod_6 : decode zc_J_floorMod 6 = .ok (.ixor, 1) := by decide +kernel
theorem zd_J_floorMod_7 : decode zc_J_floorMod 7 = .ok (.ifCond .ge 11, 3) := by decide +kernel
theorem zd_J_floorMod_10 : decode zc_J_floorMod 10 = .ok (.iload_n 2, 1) := by decide +kernel
theorem zd_J_floorMod_11 : decode zc_J_floorMod 11 = .ok (.ifCond .eq 7, 3) := by decide +kernel
theorem zd_J_floorMod_14 : decode zc_J_floorMod 14 = .ok (.iload_n 2, 1) := by decide +kernel
theorem zd_J_floorMod_15 : decode zc_J_floorMod 15 = .ok (.iload_n 1, 1) := by decide +kernel
theorem zd_J_floorMod_16 : decode zc_J_floorMod 16 = .ok (.iadd, 1) := by decide +kernel
theorem zd_J_floorMod_17 : decode zc_J_floorMod 17 = .ok (.ireturn, 1) := by decide +kernel
theorem zd_J_floorMod_18 : decode zc_J_floorMod 18 = .ok (.iload_n 2, 1) := by decide +kernel
theorem zd_J_floorMod_19 : decode zc_J_floorMod 19 = .ok (.ireturn, 1) := by decide +kernel
section XX
variable {p : Program} {l : Launch} {e : Env} {R : Room} {s : State} {m : MethodId} {args : Array Value} {below : List Frame} {meth : Method} {c : Code} {H : Heap} {locs : List Loc} {cells slots : Nat} {Q : State → Prop}
variable {cc : ByteArray} {pc : Nat} {ls : Array Slot} {rest : List Value}
theorem xor_sign (a b : Int32) : (0 ≤ (a ^^^ b).toInt) ↔ (0 ≤ a.toInt ↔ 0 ≤ b.toInt) := by
  have h : ∀ x : Int32, (0 ≤ x.toInt) ↔ x.toBitVec.msb = false := by
    intro x
    rw [BitVec.msb_eq_toInt]
    show 0 ≤ x.toBitVec.toInt ↔ _
    simp
  rw [h, h, h]
  rw [show (a ^^^ b).toBitVec = a.toBitVec ^^^ b.toBitVec from rfl, BitVec.msb_xor]
  cases a.toBitVec.msb <;> cases b.toBitVec.msb <;> simp
theorem x_ixor (hexec : p.tables.exec = Jvm.exec) (hb : c.code = cc) {x y : Int} (hdg : decode cc pc = .ok (.ixor, 1)) (hx : ib x) (hy : ib y) (k : ∀ v : Int, ib v → (0 ≤ v ↔ (0 ≤ x ↔ 0 ≤ y)) → W p l e R s m args below meth c H locs cells slots Q (F0 m (pc + 1) ls (.int (iI v) :: rest))) : W p l e R s m args below meth c H locs cells slots Q (F0 m pc ls (.int (iI y) :: .int (iI x) :: rest)) := by
  refine lv_ixor hexec hb hdg ?_
  rw [iI_of (iI x ^^^ iI y)]
  refine k _ (ib_of _) ?_
  have := xor_sign (iI x) (iI y)
  rw [iI_toInt hx, iI_toInt hy] at this
  exact this
end XX
section ZO
variable {p : Program} {l : Launch} {e : Env} {R : Room} {s : State} {m : MethodId} {args : Array Value} {below : List Frame} {meth : Method} {c0 : Code} {H : Heap} {locs : List Loc} {cells slots : Nat} {Q : State → Prop}
variable {cc bytes : ByteArray} {maxL nL n index : Nat} {ret : Option FieldType} {rm : Room} {w0 : Cond} {own : String} {y : MethodName} {As rest st0 : List Value} {pc : Nat} {ls : Array Slot}
variable {D : va_G} {q : Nat → Nat} {c : Nat → ClassId} {F : Nat → Int} {A : Nat → Int → Int} {A0 : Nat → Prop}
theorem z_runSO {Qc : Array Value → State → Outcome → State → Prop} {free : Addr → Prop} (S : CallFix p m c0 cc nL s args (w0 :: zG) own) (hM : Met l y (Cond.code y bytes maxL ret :: zG) rm (va_Pc As (zB D q c F A H.size)) Qc 0 0 free)
    (h1 : Cond.methodLink own index y ∈ zG) (h2 : Cond.static y ∈ zG) (h4 : Cond.initialized y.cls ∈ zG) (h5 : Cond.code y bytes maxL ret ∈ zG) (hd : zCW R y maxL rm n)
    (hK : va_K D zcl (zty c) s ∧ zNW s) (hP : va_P D zcl (gw q c F A) H) (hD : va_D A0 (gw q c F A)) (hn : As.length = n) (hsz : ls.size = nL) (hst : st0 = As.reverse ++ rest) (hW : (rest.map fun v => v.category).sum ≤ 8) (hdg : decode cc pc = .ok (.invokestatic index, 3)) (hf : cells ≤ R.cells ∧ slots ≤ R.slots) :
    va_Run p l e R s m args below meth c0 H locs cells slots 0 0 (F0 m pc ls st0) rest (Qc As.toArray) free := by
  refine va_runS S hM (va_cwS n S.2.2.2.2 (z_gA (fun w hw => ?_) (z_gS h5)) rfl hd.2.2.1 hd.2.2.2 hd.1 hd.2.1) ⟨z_blind, z_pre hK hP hD⟩ rfl hn hsz hst (lv_room hW) hdg hf
  simp only [List.mem_cons, List.not_mem_nil, or_false] at hw
  rcases hw with rfl | rfl | rfl <;> assumption
end ZO
/-- an int method of a class that has entries, none for this member: its body from the entry -/
theorem z_ofIF {l : Launch} {y : MethodName} {bytes : ByteArray} {maxL : Nat} {rm : Room} {D : va_G} {q : Nat → Nat} {c : Nat → ClassId} {sz : Nat} {av : List Value} {F : Nat → Int} {A : Nat → Int → Int} {post : Int → (Nat → Int) → (Nat → Int → Int) → Prop} (hy : plainFor y = true) (hlen : (lg_sl av).length ≤ maxL)
    (body : ∀ (p : Program) (e : Env) (s : State) (m : MethodId) (args : Array Value) (below : List Frame) (meth : Method) (c0 : Code) (A0 : Nat → Prop) (Q : State → Prop), zCtx l y bytes maxL (some .int) D c p s m args c0 A0 →
      (∀ (z : Int) (F1 : Nat → Int) (A1 : Nat → Int → Int) (H : Heap) (locs : List Loc) (pc : Nat) (ls : Array Slot), decode bytes pc = .ok (.ireturn, 1) → va_P D zcl (gw q c F1 A1) H → va_D A0 (gw q c F1 A1) → va_S A0 s.heap H locs → post z F1 A1 → W p l e rm s m args below meth c0 H locs 0 0 Q (F0 m pc ls [.int (iI z)])) →
      va_P D zcl (gw q c F A) s.heap → va_D A0 (gw q c F A) → va_S A0 s.heap s.heap [] → ∀ ls : Array Slot, lv_has ls maxL (lv_args 0 av) → W p l e rm s m args below meth c0 s.heap [] 0 0 Q (F0 m 0 ls [])) :
    zMI l y bytes maxL (some .int) rm D q c sz av F A post := by
  refine va_MetF (cc := bytes) (maxL := maxL) (ret := (some .int)) hy rfl ?_
  intro p e s m args below meth c0 s₁ B hml hv
  obtain ⟨rfl, hsz, hP, hK, hD0⟩ := hv
  subst hsz
  have hl := lv_entry av (n := maxL) hlen
  rw [lg_entry_eq]
  refine body p e s m _ below meth c0 (va_A (gw q c F A) s.heap.size) _ ⟨⟨B.exec, B.bytes, hml, findClass_of_methodNamed B.named, atoms_spec (ws := Cond.code y bytes maxL (some .int) :: zG) B.pre⟩, hK, fun x h => Or.inr h⟩ ?_ hP hD0.self va_S.rf _ hl
  intro z F1 A1 H locs pc ls hdg hP1 hD1 hS1 hpost
  exact z_iret B.exec B.bytes B.returns B.notSynchronized hP1 hD1 hS1 hdg hpost
theorem td_neg {x y : Int} (hy : 0 < y) (hx : x < 0) : (x.tdiv y * y = x → x / y = x.tdiv y) ∧ (¬ x.tdiv y * y = x → x / y = x.tdiv y - 1) := by
  have h := Int.tdiv_eq_ediv (a := x) (b := y)
  have hs : y.sign = 1 := Int.sign_eq_one_of_pos hy
  constructor
  · intro e
    have hd : y ∣ x := ⟨x.tdiv y, by rw [Int.mul_comm]; exact e.symm⟩
    rw [if_pos (Or.inr hd)] at h
    omega
  · intro e
    have hd : ¬ y ∣ x := by
      rintro ⟨k, rfl⟩
      apply e
      rw [Int.mul_tdiv_cancel_left _ (by omega), Int.mul_comm]
    rw [if_neg (fun z => z.elim (fun z => by omega) hd), hs] at h
    omega
theorem tm_neg {x y : Int} (hy : 0 < y) (hx : x < 0) : (x.tmod y = 0 → x % y = x.tmod y) ∧ (¬ x.tmod y = 0 → x % y = x.tmod y + y) := by
  have h := Int.tmod_eq_emod (a := x) (b := y)
  constructor
  · intro e
    by_cases hd : y ∣ x
    · rw [if_pos (Or.inr hd)] at h; omega
    · exfalso
      exact hd (Int.dvd_of_tmod_eq_zero e)
  · intro e
    have hd : ¬ y ∣ x := fun hd => e (Int.tmod_eq_zero_of_dvd hd)
    rw [if_neg (fun z => z.elim (fun z => by omega) hd)] at h
    omega
theorem tm_b {x y : Int} (hy : 0 < y) : -y < x.tmod y ∧ x.tmod y < y := by
  refine ⟨?_, Int.tmod_lt_of_pos x hy⟩
  by_cases hx : 0 ≤ x
  · have := Int.tmod_nonneg y hx; omega
  · have h2 := Int.emod_nonneg x (show y ≠ 0 by omega)
    have := tm_neg (x := x) hy (by omega)
    by_cases e : x.tmod y = 0
    · omega
    · have h9 := this.2 e
      by_cases e0 : x % y = 0
      · exact absurd (Int.tmod_eq_zero_of_dvd (Int.dvd_of_emod_eq_zero e0)) e
      · omega
theorem td_b {x y : Int} (hy : 0 < y) (hx : -1000000 ≤ x ∧ x ≤ 1000000) : -1000000 ≤ x.tdiv y ∧ x.tdiv y ≤ 1000000 := by
  by_cases h0 : 0 ≤ x
  · rw [Int.tdiv_eq_ediv_of_nonneg h0]
    have h1 := Int.ediv_nonneg h0 (show 0 ≤ y by omega)
    have h2 := Int.ediv_le_self y h0
    omega
  · have h := Int.tdiv_eq_ediv (a := x) (b := y)
    have hs : y.sign = 1 := Int.sign_eq_one_of_pos hy
    have h3 : x ≤ x / y := by
      have := Int.le_ediv_of_mul_le (a := x) (b := x) hy (by have := Int.mul_le_mul_of_nonpos_left (a := x) (b := y) (c := 1) (by omega) (by omega); omega)
      exact this
    have h4 : x / y < 0 := Int.ediv_neg_of_neg_of_pos (by omega) hy
    split at h <;> omega
abbrev zr_J_floorDiv : Room := ({ frames := 0, cells := 0, slots := 0, locals := 0 } : Room)
set_option maxHeartbeats 4000000 in
set_option maxRecDepth 100000 in
theorem c_J_floorDiv (l : Launch) (D : va_G) (q : Nat → Nat) (c : Nat → ClassId) (sz : Nat) (F : Nat → Int) (A : Nat → Int → Int) (x : Int) (y : Int) (hx_ : -1000000 ≤ x ∧ x ≤ 1000000) (hy_ : 1 ≤ y ∧ y ≤ 400) : zMI l zy_J_floorDiv zc_J_floorDiv 3 (some .int) zr_J_floorDiv D q c sz [.int (iI (x)), .int (iI (y))] F A (fun z F1 A1 => F1 = F ∧ A1 = A ∧ z = x / y) := by
  refine z_ofIF (by decide +kernel) (Nat.le_of_ble_eq_true rfl) ?_
  intro p e s m args below meth c0 A0 Q C0 ret hP hD hS ls hl
  obtain ⟨S, hK, hA⟩ := C0
  have hx := S.1
  have hb := S.2.1
  have hown := S.2.2.2.1
  have hts : ∀ w ∈ zG, w.before args s = true := fun w h => S.2.2.2.2 w (List.mem_cons_of_mem _ h)
  have hl : lv_has ls 3 [(0, .int (iI (x))), (1, .int (iI (y)))] := hl
  have ht_ := td_b (x := x) (y := y) (by omega) hx_
  have hm_ : -400000000 ≤ x.tdiv y * y ∧ x.tdiv y * y ≤ 400000000 := by (have h9 := Int.tmod_def x y; rw [Int.mul_comm] at h9; have := tm_b (x := x) (y := y) (by omega); omega)
  refine lv_iload_n hx hb zd_J_floorDiv_0 rfl (lv_at hl 0 rfl) ?_
  refine lv_iload_n hx hb zd_J_floorDiv_1 rfl (lv_at hl 1 rfl) ?_
  refine x_idiv hx hb zd_J_floorDiv_2 (⟨by omega, by omega⟩) (⟨by omega, by omega⟩) (by omega) ?_
  refine lv_istore_n (lv' := [(2, .int (iI (x.tdiv y))), (0, .int (iI (x))), (1, .int (iI (y)))]) hx hb zd_J_floorDiv_3 rfl hl (by decide) rfl (fun ls hl => ?_)
  refine lv_iload_n hx hb zd_J_floorDiv_4 rfl (lv_at hl 1 rfl) ?_
  refine lv_iload_n hx hb zd_J_floorDiv_5 rfl (lv_at hl 2 rfl) ?_
  refine x_ixor hx hb zd_J_floorDiv_6 (⟨by omega, by omega⟩) (⟨by omega, by omega⟩) (fun v_6 bv_6 hv_6 => ?_)
  refine x_if_ge (tgt := 21) hx hb zd_J_floorDiv_7 (by decide) (⟨by omega, by omega⟩) (fun h_7 => ?_) (fun h_7 => ?_)
  · refine lv_iload_n hx hb zd_J_floorDiv_21 rfl (lv_at hl 0 rfl) ?_
    exact ret _ _ _ _ _ _ _ zd_J_floorDiv_22 hP hD hS (⟨rfl, rfl, by first | exact ((td_neg (by omega) (by omega)).1 h_14).symm | exact Int.tdiv_eq_ediv_of_nonneg (by omega)⟩)
  · refine lv_iload_n hx hb zd_J_floorDiv_10 rfl (lv_at hl 0 rfl) ?_
    refine lv_iload_n hx hb zd_J_floorDiv_11 rfl (lv_at hl 2 rfl) ?_
    refine x_imul hx hb zd_J_floorDiv_12 ?_
    refine lv_iload_n hx hb zd_J_floorDiv_13 rfl (lv_at hl 1 rfl) ?_
    refine x_icmp_eq (tgt := 21) hx hb zd_J_floorDiv_14 (by decide) (⟨by omega, by omega⟩) (⟨by omega, by omega⟩) (fun h_14 => ?_) (fun h_14 => ?_)
    · refine lv_iload_n hx hb zd_J_floorDiv_21 rfl (lv_at hl 0 rfl) ?_
      exact ret _ _ _ _ _ _ _ zd_J_floorDiv_22 hP hD hS (⟨rfl, rfl, by first | exact ((td_neg (by omega) (by omega)).1 h_14).symm | exact Int.tdiv_eq_ediv_of_nonneg (by omega)⟩)
    · refine lv_iload_n hx hb zd_J_floorDiv_17 rfl (lv_at hl 0 rfl) ?_
      refine lv_iconst (v := iI (1)) hx hb zd_J_floorDiv_18 rfl ?_
      refine x_isub hx hb zd_J_floorDiv_19 ?_
      exact ret _ _ _ _ _ _ _ zd_J_floorDiv_20 hP hD hS (⟨rfl, rfl, ((td_neg (by omega) (by omega)).2 h_14).symm⟩)

abbrev zr_J_floorMod : Room := ({ frames := 0, cells := 0, slots := 0, locals := 0 } : Room)
set_option maxHeartbeats 4000000 in
set_option maxRecDepth 100000 in
theorem c_J_floorMod (l : Launch) (D : va_G) (q : Nat → Nat) (c : Nat → ClassId) (sz : Nat) (F : Nat → Int) (A : Nat → Int → Int) (x : Int) (y : Int) (hx_ : -1000000 ≤ x ∧ x ≤ 1000000) (hy_ : 1 ≤ y ∧ y ≤ 400) : zMI l zy_J_floorMod zc_J_floorMod 3 (some .int) zr_J_floorMod D q c sz [.int (iI (x)), .int (iI (y))] F A (fun z F1 A1 => F1 = F ∧ A1 = A ∧ z = x % y) := by
  refine z_ofIF (by decide +kernel) (Nat.le_of_ble_eq_true rfl) ?_
  intro p e s m args below meth c0 A0 Q C0 ret hP hD hS ls hl
  obtain ⟨S, hK, hA⟩ := C0
  have hx := S.1
  have hb := S.2.1
  have hown := S.2.2.2.1
  have hts : ∀ w ∈ zG, w.before args s = true := fun w h => S.2.2.2.2 w (List.mem_cons_of_mem _ h)
  have hl : lv_has ls 3 [(0, .int (iI (x))), (1, .int (iI (y)))] := hl
  have ht_ := tm_b (x := x) (y := y) (by omega)
  refine lv_iload_n hx hb zd_J_floorMod_0 rfl (lv_at hl 0 rfl) ?_
  refine lv_iload_n hx hb zd_J_floorMod_1 rfl (lv_at hl 1 rfl) ?_
  refine x_irem hx hb zd_J_floorMod_2 (⟨by omega, by omega⟩) (⟨by omega, by omega⟩) (by omega) ?_
  refine lv_istore_n (lv' := [(2, .int (iI (x.tmod y))), (0, .int (iI (x))), (1, .int (iI (y)))]) hx hb zd_J_floorMod_3 rfl hl (by decide) rfl (fun ls hl => ?_)
  refine lv_iload_n hx hb zd_J_floorMod_4 rfl (lv_at hl 1 rfl) ?_
  refine lv_iload_n hx hb zd_J_floorMod_5 rfl (lv_at hl 2 rfl) ?_
  refine x_ixor hx hb zd_J_floorMod_6 (⟨by omega, by omega⟩) (⟨by omega, by omega⟩) (fun v_6 bv_6 hv_6 => ?_)
  refine x_if_ge (tgt := 18) hx hb zd_J_floorMod_7 (by decide) (⟨by omega, by omega⟩) (fun h_7 => ?_) (fun h_7 => ?_)
  · refine lv_iload_n hx hb zd_J_floorMod_18 rfl (lv_at hl 0 rfl) ?_
    exact ret _ _ _ _ _ _ _ zd_J_floorMod_19 hP hD hS (⟨rfl, rfl, by first | exact ((tm_neg (by omega) (by omega)).1 h_11).symm | exact Int.tmod_eq_emod_of_nonneg (by omega)⟩)
  · refine lv_iload_n hx hb zd_J_floorMod_10 rfl (lv_at hl 0 rfl) ?_
    refine x_if_eq (tgt := 18) hx hb zd_J_floorMod_11 (by decide) (⟨by omega, by omega⟩) (fun h_11 => ?_) (fun h_11 => ?_)
    · refine lv_iload_n hx hb zd_J_floorMod_18 rfl (lv_at hl 0 rfl) ?_
      exact ret _ _ _ _ _ _ _ zd_J_floorMod_19 hP hD hS (⟨rfl, rfl, by first | exact ((tm_neg (by omega) (by omega)).1 h_11).symm | exact Int.tmod_eq_emod_of_nonneg (by omega)⟩)
    · refine lv_iload_n hx hb zd_J_floorMod_14 rfl (lv_at hl 0 rfl) ?_
      refine lv_iload_n hx hb zd_J_floorMod_15 rfl (lv_at hl 2 rfl) ?_
      refine x_iadd hx hb zd_J_floorMod_16 ?_
      exact ret _ _ _ _ _ _ _ zd_J_floorMod_17 hP hD hS (⟨rfl, rfl, ((tm_neg (by omega) (by omega)).2 h_11).symm⟩)
