abbrev lb (z : Int) : Prop := -9223372036854775808 ≤ z ∧ z ≤ 9223372036854775807
theorem lI_add (a b : Int) : lI a + lI b = lI (a + b) := (Int64.ofInt_add a b).symm
theorem lI_sub (a b : Int) : lI a - lI b = lI (a - b) := (Int64.ofInt_sub a b).symm
theorem lI_mul (a b : Int) : lI a * lI b = lI (a * b) := (Int64.ofInt_mul a b).symm
theorem lI_toInt {z : Int} (h : lb z) : (lI z).toInt = z := Int64.toInt_ofInt_of_le (by have := h.1; omega) (by have := h.2; omega)
theorem lI_lt {a b : Int} (ha : lb a) (hb : lb b) : lI a < lI b ↔ a < b := by rw [Int64.lt_iff_toInt_lt, lI_toInt ha, lI_toInt hb]
theorem lI_eq {a b : Int} (ha : lb a) (hb : lb b) : lI a = lI b ↔ a = b := by rw [← Int64.toInt_inj, lI_toInt ha, lI_toInt hb]
theorem lI_max : Int64.maxValue.toInt = 9223372036854775807 := by decide
theorem lI_min : Int64.minValue.toInt = -9223372036854775808 := by decide
theorem lI_div {a b : Int} (ha : lb a) (hb : lb b) : lI a / lI b = lI (a.tdiv b) := (Int64.ofInt_tdiv (by rw [lI_min]; exact ha.1) (by rw [lI_max]; exact ha.2) (by rw [lI_min]; exact hb.1) (by rw [lI_max]; exact hb.2)).symm
theorem lI_rem {a b : Int} (ha : lb a) (hb : lb b) : lI a - lI a / lI b * lI b = lI (a.tmod b) := by
  rw [lI_div ha hb, lI_mul, lI_sub, Int.tmod_def, Int.mul_comm b]
theorem lb_0 : lb 0 := ⟨by decide, by decide⟩
def cmpI (x y : Int) : Int := if x < y then -1 else if x = y then 0 else 1
theorem cmpI_spec (x y : Int) : (cmpI x y = -1 ∧ x < y) ∨ (cmpI x y = 0 ∧ x = y) ∨ (cmpI x y = 1 ∧ y < x) := by
  unfold cmpI
  by_cases h : x < y
  · rw [if_pos h]; exact Or.inl ⟨rfl, h⟩
  · rw [if_neg h]
    by_cases h2 : x = y
    · rw [if_pos h2]; exact Or.inr (Or.inl ⟨rfl, h2⟩)
    · rw [if_neg h2]; exact Or.inr (Or.inr ⟨rfl, by omega⟩)
theorem lg_cmpI {x y : Int} (hx : lb x) (hy : lb y) : lg_cmp (lI x) (lI y) = iI (cmpI x y) := by
  unfold cmpI lg_cmp
  simp only [lI_lt hx hy, lI_lt hy hx, lI_eq hx hy]
  rcases Int.lt_trichotomy x y with h | h | h
  · have h1 : ¬ x = y := by omega
    have h2 : ¬ y < x := by omega
    simp [h, h1, h2]; try rfl
  · subst h; simp; try rfl
  · have h1 : ¬ x = y := by omega
    have h2 : ¬ x < y := by omega
    simp [h, h1, h2]; try rfl
section XL
variable {p : Program} {l : Launch} {e : Env} {R : Room} {s : State} {m : MethodId} {args : Array Value} {below : List Frame} {meth : Method} {c : Code} {H : Heap} {locs : List Loc} {cells slots : Nat} {Q : State → Prop}
variable {cc : ByteArray} {pc : Nat} {ls : Array Slot} {rest : List Value}
theorem x_ladd (hexec : p.tables.exec = Jvm.exec) (hb : c.code = cc) {x y : Int} (hdg : decode cc pc = .ok (.ladd, 1)) (k : W p l e R s m args below meth c H locs cells slots Q (F0 m (pc + 1) ls (.long (lI (x + y)) :: rest))) : W p l e R s m args below meth c H locs cells slots Q (F0 m pc ls (.long (lI y) :: .long (lI x) :: rest)) :=
  lv_ladd hexec hb hdg (by rw [lI_add]; exact k)
theorem x_lsub (hexec : p.tables.exec = Jvm.exec) (hb : c.code = cc) {x y : Int} (hdg : decode cc pc = .ok (.lsub, 1)) (k : W p l e R s m args below meth c H locs cells slots Q (F0 m (pc + 1) ls (.long (lI (x - y)) :: rest))) : W p l e R s m args below meth c H locs cells slots Q (F0 m pc ls (.long (lI y) :: .long (lI x) :: rest)) :=
  lv_lsub hexec hb hdg (by rw [lI_sub]; exact k)
theorem x_lmul (hexec : p.tables.exec = Jvm.exec) (hb : c.code = cc) {x y : Int} (hdg : decode cc pc = .ok (.lmul, 1)) (k : W p l e R s m args below meth c H locs cells slots Q (F0 m (pc + 1) ls (.long (lI (x * y)) :: rest))) : W p l e R s m args below meth c H locs cells slots Q (F0 m pc ls (.long (lI y) :: .long (lI x) :: rest)) :=
  lv_lmul hexec hb hdg (by rw [lI_mul]; exact k)
theorem x_ldiv (hexec : p.tables.exec = Jvm.exec) (hb : c.code = cc) {x y : Int} (hdg : decode cc pc = .ok (.ldiv, 1)) (hx : lb x) (hy : lb y) (h0 : ¬ y = 0) (k : W p l e R s m args below meth c H locs cells slots Q (F0 m (pc + 1) ls (.long (lI (x.tdiv y)) :: rest))) : W p l e R s m args below meth c H locs cells slots Q (F0 m pc ls (.long (lI y) :: .long (lI x) :: rest)) :=
  lv_ldiv hexec hb hdg (fun h => h0 ((lI_eq hy lb_0).mp h)) (by rw [lI_div hx hy]; exact k)
theorem x_lrem (hexec : p.tables.exec = Jvm.exec) (hb : c.code = cc) {x y : Int} (hdg : decode cc pc = .ok (.lrem, 1)) (hx : lb x) (hy : lb y) (h0 : ¬ y = 0) (k : W p l e R s m args below meth c H locs cells slots Q (F0 m (pc + 1) ls (.long (lI (x.tmod y)) :: rest))) : W p l e R s m args below meth c H locs cells slots Q (F0 m pc ls (.long (lI y) :: .long (lI x) :: rest)) :=
  lv_lrem hexec hb hdg (fun h => h0 ((lI_eq hy lb_0).mp h)) (by rw [lI_rem hx hy]; exact k)
theorem x_lcmp (hexec : p.tables.exec = Jvm.exec) (hb : c.code = cc) {x y : Int} (hdg : decode cc pc = .ok (.lcmp, 1)) (hx : lb x) (hy : lb y) (k : W p l e R s m args below meth c H locs cells slots Q (F0 m (pc + 1) ls (.int (iI (cmpI x y)) :: rest))) : W p l e R s m args below meth c H locs cells slots Q (F0 m pc ls (.long (lI y) :: .long (lI x) :: rest)) :=
  W.lcmp hexec hb hdg (by rw [lg_cmpI hx hy]; exact k)
theorem x_i2l (hexec : p.tables.exec = Jvm.exec) (hb : c.code = cc) {x : Int} (hdg : decode cc pc = .ok (.i2l, 1)) (hx : ib x) (k : W p l e R s m args below meth c H locs cells slots Q (F0 m (pc + 1) ls (.long (lI x) :: rest))) : W p l e R s m args below meth c H locs cells slots Q (F0 m pc ls (.int (iI x) :: rest)) :=
  lv_i2l hexec hb hdg (Int32.toInt64_ofInt (by rw [iI_min]; exact hx.1) (by rw [iI_max]; exact hx.2)) k
theorem x_l2i (hexec : p.tables.exec = Jvm.exec) (hb : c.code = cc) {x : Int} (hdg : decode cc pc = .ok (.l2i, 1)) (k : W p l e R s m args below meth c H locs cells slots Q (F0 m (pc + 1) ls (.int (iI x) :: rest))) : W p l e R s m args below meth c H locs cells slots Q (F0 m pc ls (.long (lI x) :: rest)) :=
  lv_l2i hexec hb hdg Int64.toInt32_ofInt k
variable {D : va_G} {cl : List vw_C} {A : Nat → Prop} {a : Nat} {tys : List (ClassId × FieldType)} {ws : va_W} {H0 : Heap}
theorem aL_at {f : Int → Int} {i : Int} (h0 : 0 ≤ i) (h1 : i ≤ 2147483647) : aL f (iI i).toNatClampNeg = lI (f i) := by
  simp only [aL, iI_clamp h0 h1]
  rw [show ((i.toNat : Nat) : Int) = i by omega]
theorem aL_upd {f : Int → Int} {i x : Int} (h0 : 0 ≤ i) (h1 : i ≤ 2147483647) : vp_updL (aL f) (iI i).toNatClampNeg (lI x) = aL (upI f i x) := by
  funext j
  simp only [vp_updL, aL, upI, iI_clamp h0 h1]
  by_cases h : j = i.toNat
  · rw [if_pos h, if_pos (by omega)]
  · rw [if_neg h, if_neg (by omega)]
theorem x_lald (hexec : p.tables.exec = Jvm.exec) (hb : c.code = cc) (hK : va_K D cl tys s) (hP : va_P D cl ws H) (q0 t0 : Nat) {cA : ClassId} {n : Nat} {f : Int → Int} (ha : ws[q0]? = some (a, .inl (cA, n, .inr (.inl (aL f))))) (ht : tys[t0]? = some (cA, .long)) {i v : Int} (hn : n < 2147483648) (h0 : 0 ≤ i) (h1 : i < (n : Int)) (hv : f i = v) (hdg : decode cc pc = .ok (.laload, 1)) (kk : W p l e R s m args below meth c H locs cells slots Q (F0 m (pc + 1) ls (.long (lI v) :: rest))) : W p l e R s m args below meth c H locs cells slots Q (F0 m pc ls (.int (iI i) :: .ref a :: rest)) :=
  va_lald hexec hb hK hP q0 t0 ha ht (iI_in h0 h1 hn) hdg (by rw [aL_at h0 (by omega), hv]; exact kk)
theorem x_last (hexec : p.tables.exec = Jvm.exec) (hb : c.code = cc) (hK : va_K D cl tys s) (hP : va_P D cl ws H) (hD : va_D A ws) (hS : va_S A H0 H locs) (q0 t0 : Nat) {cA : ClassId} {n : Nat} {f : Int → Int} (ha : ws[q0]? = some (a, .inl (cA, n, .inr (.inl (aL f))))) (ht : tys[t0]? = some (cA, .long)) {i x : Int} (hn : n < 2147483648) (h0 : 0 ≤ i) (h1 : i < (n : Int)) (hdg : decode cc pc = .ok (.lastore, 1)) (kk : ∀ (H1 : Heap) (locs1 : List Loc), va_P D cl (ws.set q0 (a, .inl (cA, n, .inr (.inl (aL (upI f i x)))))) H1 → va_D A (ws.set q0 (a, .inl (cA, n, .inr (.inl (aL (upI f i x)))))) → va_S A H0 H1 locs1 → W p l e R s m args below meth c H1 locs1 cells slots Q (F0 m (pc + 1) ls rest)) : W p l e R s m args below meth c H locs cells slots Q (F0 m pc ls (.long (lI x) :: .int (iI i) :: .ref a :: rest)) :=
  va_last hexec hb hK hP hD hS q0 t0 ha ht (iI_in h0 h1 hn) hdg (by rw [aL_upd h0 (by omega)]; exact kk)
end XL
section ZL
variable {p : Program} {l : Launch} {e : Env} {R : Room} {s : State} {m : MethodId} {args : Array Value} {below : List Frame} {meth : Method} {c0 : Code} {H : Heap} {locs : List Loc} {cells slots : Nat} {Q : State → Prop}
variable {rest st0 : List Value} {pc : Nat} {ls : Array Slot} {D : va_G} {q : Nat → Nat} {c : Nat → ClassId} {F : Nat → Int} {A : Nat → Int → Int} {A0 : Nat → Prop}
theorem z_gol {a : Array Value} {H0 : Heap} {post : Int → (Nat → Int) → (Nat → Int → Int) → Prop} (hr : va_Run p l e R s m args below meth c0 H locs cells slots 0 0 (F0 m pc ls st0) rest (va_Ql (zPl post) (zW D q c (va_A (gw q c F A) H.size)) (va_A (gw q c F A) H.size) a) (va_A (gw q c F A) H.size)) (hD : va_D A0 (gw q c F A)) (hS : va_S A0 H0 H locs) (hA : ∀ x, H0.size ≤ x → A0 x)
    (kk : ∀ (z : Int) (F1 : Nat → Int) (A1 : Nat → Int → Int) (H1 : Heap) (locs1 : List Loc), post z F1 A1 → va_P D zcl (gw q c F1 A1) H1 → va_D A0 (gw q c F1 A1) → va_S A0 H0 H1 locs1 → W p l e R s m args below meth c0 H1 locs1 cells slots Q (F0 m (pc + 3) ls (.long (lI z) :: rest))) : W p l e R s m args below meth c0 H locs cells slots Q (F0 m pc ls st0) := by
  have hF := x_free hD hS hA
  refine va_calll hr hS (fun q _ h => hF q h) hF (fun r u t H1 locs1 ht hvm hw hB hz hk hS' => ?_)
  obtain ⟨h1, h3⟩ := hB
  obtain ⟨z, rfl, hp⟩ := hw
  exact kk z u.1 u.2 H1 locs1 hp (by rw [← ht]; exact h1) (h3.weaken (fun _ _ _ h => hF _ h)) hS'
end ZL
abbrev zr_X_divisor : Room := ({ frames := 0, cells := 0, slots := 0, locals := 0 } : Room)
set_option maxHeartbeats 4000000 in
set_option maxRecDepth 100000 in
theorem c_X_divisor (l : Launch) (D : va_G) (q : Nat → Nat) (c : Nat → ClassId) (sz : Nat) (F : Nat → Int) (A : Nat → Int → Int) (a : Int) (b : Int) (ha : 0 ≤ a ∧ a ≤ 4611686018427387904) (hb_ : 0 ≤ b ∧ b ≤ 4611686018427387904) : zML l zy_X_divisor zc_X_divisor 10 (some .long) zr_X_divisor D q c sz [.long (lI (a)), .long (lI (b))] F A (fun z F1 A1 => F1 = F ∧ A1 = A ∧ z = gI a b) := by
  refine z_ofL (by decide) (Nat.le_of_ble_eq_true rfl) ?_
  intro p e s m args below meth c0 A0 Q C0 ret hP hD hS ls hl
  obtain ⟨S, hK, hA⟩ := C0
  have hx := S.1
  have hb := S.2.1
  have hown := S.2.2.2.1
  have hts : ∀ w ∈ zG, w.before args s = true := fun w h => S.2.2.2.2 w (List.mem_cons_of_mem _ h)
  have hl : lv_has ls 10 [(0, .long (lI (a))), (2, .long (lI (b)))] := hl
  refine lv_lload_n hx hb zd_X_divisor_0 rfl (lv_at hl 0 rfl) ?_
  refine lv_lstore (lv' := [(4, .long (lI (a))), (0, .long (lI (a))), (2, .long (lI (b)))]) hx hb zd_X_divisor_1 hl (by decide) rfl (fun ls hl => ?_)
  refine lv_lload_n hx hb zd_X_divisor_3 rfl (lv_at hl 2 rfl) ?_
  refine lv_lstore (lv' := [(6, .long (lI (b))), (4, .long (lI (a))), (0, .long (lI (a))), (2, .long (lI (b)))]) hx hb zd_X_divisor_4 hl (by decide) rfl (fun ls hl => ?_)
  have L_6 : ∀ (fu : Nat) (x : Int) (y : Int) , ((0 ≤ x ∧ x ≤ 4611686018427387904) ∧ 0 ≤ y ∧ y ≤ 4611686018427387904) → (gI x y = gI a b) → (y < (fu : Int)) → ∀ (H : Heap) (locs : List Loc), va_P D zcl (gw q c F A) H → va_D A0 (gw q c F A) → va_S A0 s.heap H locs → ∀ ls : Array Slot, lv_has ls 10 [(0, .long (lI (a))), (2, .long (lI (b))), (4, .long (lI (x))), (6, .long (lI (y)))] → W p l e zr_X_divisor s m args below meth c0 H locs 0 0 Q (F0 m 6 ls []) := by
    intro fu
    induction fu with
    | zero => intro x y   hxy hg hm_6; exact absurd hm_6 (by omega)
    | succ fu ih_6 =>
      intro x y   hxy hg hm_6 H locs hP hD hS ls hl
      refine lv_lload hx hb zd_X_divisor_6 (lv_at hl 3 rfl) ?_
      refine lv_lconst (v := lI (0)) hx hb zd_X_divisor_8 (by decide) ?_
      refine x_lcmp hx hb zd_X_divisor_9 (⟨by omega, by omega⟩) (⟨by omega, by omega⟩) ?_
      have hc_9 := cmpI_spec y 0
      refine x_if_eq (tgt := 31) hx hb zd_X_divisor_10 (by decide) (⟨by omega, by omega⟩) (fun h_10 => ?_) (fun h_10 => ?_)
      · refine lv_lload hx hb zd_X_divisor_31 (lv_at hl 2 rfl) ?_
        exact ret _ _ _ _ _ _ _ zd_X_divisor_33 hP hD hS (⟨rfl, rfl, by have e_ : y = 0 := (by omega); rw [e_] at hg; rw [← hg, gI_0 (by omega)]⟩)
      · have ht_ := tm_lt (x := x) (y := y) (by omega) (by omega)
        refine lv_lload hx hb zd_X_divisor_13 (lv_at hl 2 rfl) ?_
        refine lv_lload hx hb zd_X_divisor_15 (lv_at hl 3 rfl) ?_
        refine x_lrem hx hb zd_X_divisor_17 (⟨by omega, by omega⟩) (⟨by omega, by omega⟩) (by omega) ?_
        refine lv_lstore (lv' := [(8, .long (lI (x.tmod y))), (0, .long (lI (a))), (2, .long (lI (b))), (4, .long (lI (x))), (6, .long (lI (y)))]) hx hb zd_X_divisor_18 hl (by decide) rfl (fun ls hl => ?_)
        refine lv_lload hx hb zd_X_divisor_20 (lv_at hl 4 rfl) ?_
        refine lv_lstore (lv' := [(4, .long (lI (y))), (8, .long (lI (x.tmod y))), (0, .long (lI (a))), (2, .long (lI (b))), (6, .long (lI (y)))]) hx hb zd_X_divisor_22 hl (by decide) rfl (fun ls hl => ?_)
        refine lv_lload hx hb zd_X_divisor_24 (lv_at hl 1 rfl) ?_
        refine lv_lstore (lv' := [(6, .long (lI (x.tmod y))), (4, .long (lI (y))), (8, .long (lI (x.tmod y))), (0, .long (lI (a))), (2, .long (lI (b)))]) hx hb zd_X_divisor_26 hl (by decide) rfl (fun ls hl => ?_)
        refine lv_goto (tgt := 6) hx hb zd_X_divisor_28 (by decide) ?_
        exact ih_6 (y) (x.tmod y)   (by first | assumption | omega | (simp_all; done)) (by rw [gI_step (by omega) (by omega)]; exact hg) (by omega) _ _ hP hD hS ls (lv_sub hl [3, 4, 1, 0] rfl)
  exact L_6 ((((b) : Int) + 1).toNat) (a) (b)   (by first | assumption | omega | (simp_all; done)) (rfl) (by omega) _ _ hP hD hS ls (lv_sub hl [2, 3, 1, 0] rfl)

abbrev zr_X_set : Room := ({ frames := 1, cells := 0, slots := 0, locals := 29 } : Room)
set_option maxHeartbeats 4000000 in
set_option maxRecDepth 100000 in
theorem c_X_set (l : Launch) (D : va_G) (q : Nat → Nat) (c : Nat → ClassId) (sz : Nat) (F : Nat → Int) (A : Nat → Int → Int) (a : Int) (x : Int) (y : Int) (ha : 0 ≤ a ∧ a < 8) (hx_ : 1 ≤ x ∧ x ≤ 4611686018427387904) (hy_ : 1 ≤ y ∧ y ≤ 4611686018427387904) : zMV l zy_X_set zc_X_set 8 none zr_X_set D q c sz [.ref (q 5), .int (iI (a)), .long (lI (x)), .long (lI (y))] F A (fun F1 A1 => F1 = F ∧ A1 = auP (auP A 42 a (x.tdiv (gI x y))) 43 a (y.tdiv (gI x y))) := by
  refine z_ofV (by decide) (Nat.le_of_ble_eq_true rfl) ?_
  intro p e s m args below meth c0 A0 Q C0 ret hP hD hS ls hl
  obtain ⟨S, hK, hA⟩ := C0
  have hx := S.1
  have hb := S.2.1
  have hown := S.2.2.2.1
  have hts : ∀ w ∈ zG, w.before args s = true := fun w h => S.2.2.2.2 w (List.mem_cons_of_mem _ h)
  have hl : lv_has ls 8 [(0, .ref (q 5)), (1, .int (iI (a))), (2, .long (lI (x))), (4, .long (lI (y)))] := hl
  refine lv_lload_n hx hb zd_X_set_0 rfl (lv_at hl 2 rfl) ?_
  refine lv_lload hx hb zd_X_set_1 (lv_at hl 3 rfl) ?_
  refine z_gol (z_runS (n := 2) (As := [.long (lI (x)), .long (lI (y))]) (rest := []) S (c_X_divisor l D q c _ F A x y (by first | assumption | omega | exact ⟨by omega, by omega⟩) (by first | assumption | omega | exact ⟨by omega, by omega⟩)) zw_673 zw_674 zw_6 zw_675 ⟨by decide +kernel, by decide, rfl, rfl⟩ rfl hK hP hD rfl hl.1 rfl (Nat.le_of_ble_eq_true rfl) zd_X_set_3 ⟨Nat.zero_le _, Nat.zero_le _⟩) hD hS hA (fun z_3 F_3 A_3 H locs hq_3 hP hD hS => ?_)
  obtain ⟨hf_3, ha_3, hq_3⟩ := hq_3
  rw [hf_3, ha_3] at hP hD
  have hg1_ := gI_pos (a := x) (b := y) (by omega)
  have hg2_ := gI_le (a := x) (b := y) (by omega)
  refine lv_lstore (lv' := [(6, .long (lI (z_3))), (0, .ref (q 5)), (1, .int (iI (a))), (2, .long (lI (x))), (4, .long (lI (y)))]) hx hb zd_X_set_6 hl (by decide) rfl (fun ls hl => ?_)
  refine lv_aload_n hx hb zd_X_set_8 rfl (lv_at hl 1 rfl) ?_
  refine va_get (D := D) (ci := 5) (v := .ref (q 42)) (C := zR_X) (T := zT_X) (N := 34) hx hb hts zi_X hown hK.1 hP 5 ga_5 rfl 14 (by decide) (hts _ zw_547) (fun _ h9 => h9) rfl zd_X_set_9 ?_
  refine lv_iload_n hx hb zd_X_set_12 rfl (lv_at hl 2 rfl) ?_
  refine lv_lload_n hx hb zd_X_set_13 rfl (lv_at hl 3 rfl) ?_
  refine lv_lload hx hb zd_X_set_14 (lv_at hl 0 rfl) ?_
  refine x_ldiv hx hb zd_X_set_16 (⟨by omega, by omega⟩) (⟨by omega, by omega⟩) (by omega) ?_
  refine x_last hx hb hK.1 hP hD hS 42 1 ga_42 rfl (by decide) (by omega) (by omega) zd_X_set_17 (fun H locs hP hD hS => ?_)
  rw [gs_42] at hP hD
  refine lv_aload_n hx hb zd_X_set_18 rfl (lv_at hl 1 rfl) ?_
  refine va_get (D := D) (ci := 5) (v := .ref (q 43)) (C := zR_X) (T := zT_X) (N := 34) hx hb hts zi_X hown hK.1 hP 5 ga_5 rfl 15 (by decide) (hts _ zw_548) (fun _ h9 => h9) rfl zd_X_set_19 ?_
  refine lv_iload_n hx hb zd_X_set_22 rfl (lv_at hl 2 rfl) ?_
  refine lv_lload hx hb zd_X_set_23 (lv_at hl 4 rfl) ?_
  refine lv_lload hx hb zd_X_set_25 (lv_at hl 0 rfl) ?_
  refine x_ldiv hx hb zd_X_set_27 (⟨by omega, by omega⟩) (⟨by omega, by omega⟩) (by omega) ?_
  refine x_last hx hb hK.1 hP hD hS 43 1 ga_43 rfl (by decide) (by omega) (by omega) zd_X_set_28 (fun H locs hP hD hS => ?_)
  rw [gs_43] at hP hD
  exact ret _ _ _ _ _ _ zd_X_set_29 hP hD hS (⟨rfl, by rw [hq_3]⟩)
