/-! Shifts of longs (rows of the kit's laws/BITS.to-paste, as given for pasting) -/
theorem wb_tb (n : Nat) : (lN n).toBitVec = BitVec.ofNat 64 n := rfl
theorem wb_inj {a b : Int64} (h : a.toBitVec = b.toBitVec) : a = b := Int64.toBitVec_inj.mp h
theorem wb_c : ∀ k, k < 64 → ((nI k).toInt64 &&& 63) = lN k := by decide +kernel
theorem wb_sm : ∀ k, k < 64 → (BitVec.ofNat 64 k).smod 64 = BitVec.ofNat 64 k := by decide +kernel
theorem wb_shl (n : Nat) {k : Nat} (hk : k < 64) : lN n <<< ((nI k).toInt64 &&& 63) = lN (n * 2 ^ k) := by
  rw [wb_c k hk]
  apply wb_inj
  rw [Int64.toBitVec_shiftLeft, wb_tb, wb_tb, wb_tb, wb_sm k hk]
  apply BitVec.eq_of_toNat_eq
  rw [BitVec.shiftLeft_eq', BitVec.toNat_shiftLeft, BitVec.toNat_ofNat, BitVec.toNat_ofNat, BitVec.toNat_ofNat, Nat.mod_eq_of_lt (show k < 2 ^ 64 by omega), Nat.shiftLeft_eq, Nat.mul_mod, Nat.mod_mod, ← Nat.mul_mod]
theorem pf_lI {a : Nat} (h : a < 2 ^ 63) : (lN a).toInt = (a : Int) := lg_ofNat_toInt h
theorem pf_shr {a d : Nat} {D : Int64} (hD : (D.toBitVec.smod 64).toNat = d) (h : a < 2 ^ 62) : lN a >>> D = lN (a / 2 ^ d) := by
  have hd : a / 2 ^ d ≤ a := Nat.div_le_self _ _
  apply Int64.toInt_inj.mp
  have e : (lN a >>> D).toInt = (lN a).toInt >>> d := by
    rw [← hD]
    exact BitVec.toInt_sshiftRight ..
  rw [e, Int.shiftRight_eq_div_pow, pf_lI (by omega), pf_lI (by omega)]
  rfl
theorem lI_N {x : Int} (h : 0 ≤ x) : lI x = lN x.toNat := by
  obtain ⟨n, rfl⟩ : ∃ n : Nat, x = (n : Int) := ⟨x.toNat, by omega⟩
  rw [Int.toNat_natCast]
  exact wb_inj (BitVec.ofInt_natCast 64 n)
theorem lN_I (n : Nat) : lN n = lI (n : Int) := by
  have h : lI (n : Int) = lN n := wb_inj (BitVec.ofInt_natCast 64 n)
  exact h.symm
theorem sh_l {x : Int} (h : 0 ≤ x) {k : Nat} (hk : k < 64) : lI x <<< ((nI k).toInt64 &&& 63) = lI (x * 2 ^ k) := by
  rw [lI_N h, wb_shl _ hk, lN_I]
  congr 1
  rw [Int.natCast_mul, Int.toNat_of_nonneg h, Int.natCast_pow]; rfl
theorem sh_d : ∀ k, k < 64 → (((nI k).toInt64 &&& 63).toBitVec.smod 64).toNat = k := by decide +kernel
theorem sh_r {x : Int} (h : 0 ≤ x) (h2 : x < 4611686018427387904) {k : Nat} (hk : k < 64) : lI x >>> ((nI k).toInt64 &&& 63) = lI (x / 2 ^ k) := by
  rw [lI_N h, pf_shr (sh_d k hk) (by have : (2 : Nat) ^ 62 = 4611686018427387904 := by decide
                                     omega), lN_I]
  congr 1
  rw [Int.natCast_ediv, Int.toNat_of_nonneg h, Int.natCast_pow]; rfl
section XS
variable {p : Program} {l : Launch} {e : Env} {R : Room} {s : State} {m : MethodId} {args : Array Value} {below : List Frame} {meth : Method} {c : Code} {H : Heap} {locs : List Loc} {cells slots : Nat} {Q : State → Prop}
variable {cc : ByteArray} {pc : Nat} {ls : Array Slot} {rest : List Value}
theorem x_lshl24 (hexec : p.tables.exec = Jvm.exec) (hb : c.code = cc) {x : Int} (hdg : decode cc pc = .ok (.lshl, 1)) (h : 0 ≤ x) (k : W p l e R s m args below meth c H locs cells slots Q (F0 m (pc + 1) ls (.long (lI (x * 16777216)) :: rest))) : W p l e R s m args below meth c H locs cells slots Q (F0 m pc ls (.int (iI 24) :: .long (lI x) :: rest)) :=
  lv_lshl hexec hb hdg (sh_l (k := 24) h (by decide)) k
theorem x_lshr24 (hexec : p.tables.exec = Jvm.exec) (hb : c.code = cc) {x : Int} (hdg : decode cc pc = .ok (.lshr, 1)) (h : 0 ≤ x ∧ x < 4611686018427387904) (k : W p l e R s m args below meth c H locs cells slots Q (F0 m (pc + 1) ls (.long (lI (x / 16777216)) :: rest))) : W p l e R s m args below meth c H locs cells slots Q (F0 m pc ls (.int (iI 24) :: .long (lI x) :: rest)) :=
  lv_lshr hexec hb hdg (sh_r (k := 24) h.1 h.2 (by decide)) k
theorem x_lshr1 (hexec : p.tables.exec = Jvm.exec) (hb : c.code = cc) {x : Int} (hdg : decode cc pc = .ok (.lshr, 1)) (h : 0 ≤ x ∧ x < 4611686018427387904) (k : W p l e R s m args below meth c H locs cells slots Q (F0 m (pc + 1) ls (.long (lI (x / 2)) :: rest))) : W p l e R s m args below meth c H locs cells slots Q (F0 m pc ls (.int (iI 1) :: .long (lI x) :: rest)) :=
  lv_lshr hexec hb hdg (sh_r (k := 1) h.1 h.2 (by decide)) k
end XS
/-! Loops of edges, their time and their rounds -/
def snN (f : Nat → Int) : Nat → Int
  | 0 => 0
  | k + 1 => snN f k + f k
def lpE (E : Int → Int → Int → Int → Prop) (T R : Int) : Prop := ∃ (k : Nat) (nd tt ww : Nat → Int), 1 ≤ k ∧ nd k = nd 0 ∧ (∀ i, i < k → E (nd (i + 1)) (nd i) (tt i) (ww i)) ∧ T = snN tt k ∧ R = snN ww k
theorem rx_sn (f g : Int → Int) (y : Int) : ∀ k : Nat, rx_pw f g k y = snN (fun i => g (rx_it f i y)) k
  | 0 => rfl
  | k + 1 => by
    rw [rx_pw_add, rx_sn f g y k]
    show _ + (g (rx_it f k y) + 0) = snN _ k + g (rx_it f k y)
    omega
theorem sn_lin {f g h : Nat → Int} {a b : Int} (he : ∀ i, h i = f i * a - b * g i) : ∀ k, snN h k = snN f k * a - b * snN g k
  | 0 => by simp [snN]
  | k + 1 => by
    show snN h k + h k = (snN f k + f k) * a - b * (snN g k + g k)
    rw [sn_lin he k, he k, Int.add_mul, Int.mul_add]; omega
/-- a loop of parents is a loop of edges, and above 0 -/
theorem lp_of {n m : Nat} {ef et te re w x V : Int → Int} {M a b : Int} (hM : (m : Int) = M) (hI : px_I n m ef et w (x, V)) (hw : ∀ e, w e = te e * a - b * re e) {y : Int} (hy : px_N n y) {i : Nat} (hi : 1 ≤ i) (hp : ∀ j, j < i → px_hv (x, V) (rx_it (px_f ef (x, V)) j y)) (hc : rx_it (px_f ef (x, V)) i y = y) :
    ∃ T R, lpE (E4 M ef et te re) T R ∧ 0 < T * a - b * R ∧ T = rx_pw (px_f ef (x, V)) (fun v => te (V v)) i y ∧ R = rx_pw (px_f ef (x, V)) (fun v => re (V v)) i y := by
  have hpos := hI.1.2 y hy i hi hp hc
  have key : ∀ j, j ≤ i → px_N n (rx_it (px_f ef (x, V)) j y) := fun j hj => (rx_tele hI.1.1 j y hy (fun t ht => hp t (by omega))).1
  refine ⟨_, _, ⟨i, fun j => rx_it (px_f ef (x, V)) j y, fun j => te (V (rx_it (px_f ef (x, V)) j y)), fun j => re (V (rx_it (px_f ef (x, V)) j y)), hi, hc, fun j hj => ?_, rfl, rfl⟩, ?_, ?_, ?_⟩
  · obtain ⟨h1, h2⟩ := hI.2 _ (key j (by omega)) (hp j hj)
    exact ⟨V (rx_it (px_f ef (x, V)) j y), h1.1, by rw [← hM]; exact h1.2, (rx_it_succ (px_f ef (x, V)) j y).symm, h2, rfl, rfl⟩
  · rw [rx_sn] at hpos
    rwa [sn_lin (f := fun j => te (V (rx_it (px_f ef (x, V)) j y))) (g := fun j => re (V (rx_it (px_f ef (x, V)) j y))) (a := a) (b := b) (fun j => hw _)] at hpos
  · rw [rx_sn]
  · rw [rx_sn]
/-- labels that hold at all edges: no loop is above 0 -/
theorem lp_le {E : Int → Int → Int → Int → Prop} {x : Int → Int} {a b : Int} (hx : ∀ u v s r, E u v s r → x u + (s * a - b * r) ≤ x v) {T R : Int} (h : lpE E T R) : T * a ≤ b * R := by
  obtain ⟨k, nd, tt, ww, hk, hc, he, hT, hR⟩ := h
  have key : ∀ j, j ≤ k → x (nd j) + (snN tt j * a - b * snN ww j) ≤ x (nd 0) := by
    intro j
    induction j with
    | zero => intro _; simp [snN]
    | succ j ih =>
      intro hj
      have h1 := ih (by omega)
      have h2 := hx _ _ _ _ (he j (by omega))
      show x (nd (j + 1)) + ((snN tt j + tt j) * a - b * (snN ww j + ww j)) ≤ _
      rw [Int.add_mul, Int.mul_add]
      omega
  have := key k (Nat.le_refl _)
  rw [hc, ← hT, ← hR] at this
  omega
theorem gl_pass {n m : Nat} {ef et w : Int → Int} {S : (Int → Int) × (Int → Int)} {k : Nat} (hE : ∀ e, px_N m e → px_N n (ef e) ∧ px_N n (et e)) (hI : px_I n m ef et w S) (hJ : ∃ c, px_J n m ef et w S c (k + 1) 0) :
    px_I n m ef et w (px_pass ef et w S m) ∧ (∃ c, px_J n m ef et w (px_pass ef et w S m) c (k + 1 + 1) 0) ∧
    (px_rai ef et w S m = true → n ≤ k + 1 → ∃ y, px_N n y ∧ ∃ i : Nat, 1 ≤ i ∧ (∀ j, j < i → px_hv (px_pass ef et w S m) (rx_it (px_f ef (px_pass ef et w S m)) j y)) ∧ rx_it (px_f ef (px_pass ef et w S m)) i y = y) := by
  obtain ⟨c, hJ⟩ := hJ
  obtain ⟨h1, c2, h2, h3⟩ := px_pass_ok (k := k + 1) (by omega) hE hI hJ m (Nat.le_refl _)
  exact ⟨h1, ⟨c2, px_J_next h2⟩, fun hr hn => px_loop h1 (fun v hv => (h2.1 v hv).2) (h3 hr) hn⟩
/-- the weight of an edge of the reference -/
def xw (x : Int) (A : Nat → Int → Int) (e : Int) : Int := A 53 e * 16777216 - x * A 54 e
abbrev eX (F : Nat → Int) (A : Nat → Int → Int) : Int → Int → Int → Int → Prop := E4 (F 525) (A 51) (A 52) (A 53) (A 54)
section XI
variable {A : Nat → Int → Int} {S : (Int → Int) × (Int → Int)} {f : Int → Int} {i r x : Int}
theorem xi_y (hp : f = (px_pass (A 51) (A 52) (xw x A) S i.toNat).1) (hi : 0 ≤ i) (h : f (A 52 i) < f (A 51 i) + A 53 i * 16777216 - x * A 54 i) : upI f (A 52 i) (f (A 51 i) + A 53 i * 16777216 - x * A 54 i) = (px_pass (A 51) (A 52) (xw x A) S (i + 1).toNat).1 := by
  rw [px_pass_s hi]
  unfold px_step
  rw [← hp, if_pos (by unfold xw; omega)]
  show _ = upI f (A 52 i) (f (A 51 i) + xw x A i)
  unfold xw
  rw [show f (A 51 i) + (A 53 i * 16777216 - x * A 54 i) = f (A 51 i) + A 53 i * 16777216 - x * A 54 i by omega]
theorem xi_n (hp : f = (px_pass (A 51) (A 52) (xw x A) S i.toNat).1) (hi : 0 ≤ i) (h : ¬ f (A 52 i) < f (A 51 i) + A 53 i * 16777216 - x * A 54 i) : f = (px_pass (A 51) (A 52) (xw x A) S (i + 1).toNat).1 := by
  rw [px_pass_s hi]
  unfold px_step
  rw [← hp, if_neg (by unfold xw; omega)]
  exact hp
theorem xr_y (hp : f = (px_pass (A 51) (A 52) (xw x A) S i.toNat).1) (hi : 0 ≤ i) (h : f (A 52 i) < f (A 51 i) + A 53 i * 16777216 - x * A 54 i) : (1 : Int) = if px_rai (A 51) (A 52) (xw x A) S (i + 1).toNat = true then 1 else 0 := by
  rw [px_rai_s hi, ← hp, if_pos]
  simp only [Bool.or_eq_true, decide_eq_true_eq]
  right
  unfold xw
  omega
theorem xr_n (hp : f = (px_pass (A 51) (A 52) (xw x A) S i.toNat).1) (hr : r = if px_rai (A 51) (A 52) (xw x A) S i.toNat = true then 1 else 0) (hi : 0 ≤ i) (h : ¬ f (A 52 i) < f (A 51 i) + A 53 i * 16777216 - x * A 54 i) : r = if px_rai (A 51) (A 52) (xw x A) S (i + 1).toNat = true then 1 else 0 := by
  rw [px_rai_s hi, ← hp, hr]
  have e : decide (f (A 52 i) < f (A 51 i) + xw x A i) = false := by
    rw [decide_eq_false_iff_not]; unfold xw; omega
  rw [e, Bool.or_false]
end XI
abbrev zr_X_isSlower : Room := ({ frames := 0, cells := 0, slots := 0, locals := 0 } : Room)
set_option maxHeartbeats 4000000 in
set_option maxRecDepth 100000 in
theorem c_X_isSlower (l : Launch) (D : va_G) (q : Nat → Nat) (c : Nat → ClassId) (sz : Nat) (F : Nat → Int) (A : Nat → Int → Int) (x : Int) (hN : 1 ≤ F 523 ∧ F 523 ≤ 40) (hE : 0 ≤ F 525 ∧ F 525 ≤ 600) (hed : ∀ e, 0 ≤ e → e < F 525 → (0 ≤ A 51 e ∧ A 51 e < F 523) ∧ (0 ≤ A 52 e ∧ A 52 e < F 523) ∧ (1 ≤ A 53 e ∧ A 53 e ≤ 9) ∧ 0 ≤ A 54 e ∧ A 54 e ≤ 100) (hx : 0 ≤ x ∧ x ≤ 6710886400) : zMI l zy_X_isSlower zc_X_isSlower 8 (some .boolean) zr_X_isSlower D q c sz [.ref (q 5), .long (lI (x))] F A (fun z F1 A1 => F1 = F ∧ (∀ k, k ≠ 55 → A1 k = A k) ∧ (z = 0 ∨ z = 1) ∧ (z = 0 → ∃ p : Int → Int, ∀ u v s r, eX F A u v s r → p u + (s * 16777216 - x * r) ≤ p v) ∧ (z = 1 → ∃ T R, lpE (eX F A) T R ∧ 0 < T * 16777216 - x * R)) := by
  refine z_ofB (by decide) (Nat.le_of_ble_eq_true rfl) ?_
  intro p e s m args below meth c0 A0 Q C0 ret hP hD hS ls hl
  obtain ⟨S, hK, hA⟩ := C0
  have hx := S.1
  have hb := S.2.1
  have hown := S.2.2.2.1
  have hts : ∀ w ∈ zG, w.before args s = true := fun w h => S.2.2.2.2 w (List.mem_cons_of_mem _ h)
  have hl : lv_has ls 8 [(0, .ref (q 5)), (1, .long (lI (x)))] := hl
  have hE2 : ∀ e, px_N (F 525).toNat e → px_N (F 523).toNat (A 51 e) ∧ px_N (F 523).toNat (A 52 e) := fun e he => by (have := hed e he.1 (by have := he.2; omega); exact ⟨⟨by omega, by omega⟩, ⟨by omega, by omega⟩⟩)
  refine lv_iconst (v := iI (0)) hx hb zd_X_isSlower_0 rfl ?_
  refine lv_istore_n (lv' := [(3, .int (iI (0))), (0, .ref (q 5)), (1, .long (lI (x)))]) hx hb zd_X_isSlower_1 rfl hl (by decide) rfl (fun ls hl => ?_)
  have L_2 : ∀ (fu : Nat) (i : Int)  (A2 : Nat → Int → Int), (0 ≤ i ∧ i ≤ F 523) → (∀ k, k ≠ 55 → A2 k = A k) → (∀ v, 0 ≤ v → v < i → A2 55 v = 0) → (F 523 - i < (fu : Int)) → ∀ (H : Heap) (locs : List Loc), va_P D zcl (gw q c F A2) H → va_D A0 (gw q c F A2) → va_S A0 s.heap H locs → ∀ ls : Array Slot, lv_has ls 8 [(0, .ref (q 5)), (1, .long (lI (x))), (3, .int (iI (i)))] → W p l e zr_X_isSlower s m args below meth c0 H locs 0 0 Q (F0 m 2 ls []) := by
    intro fu
    induction fu with
    | zero => intro i  A2 hi hk hs hm_2; exact absurd hm_2 (by omega)
    | succ fu ih_2 =>
      intro i  A2 hi hk hs hm_2 H locs hP hD hS ls hl
      refine lv_iload_n hx hb zd_X_isSlower_2 rfl (lv_at hl 2 rfl) ?_
      refine lv_aload_n hx hb zd_X_isSlower_3 rfl (lv_at hl 0 rfl) ?_
      refine va_get (D := D) (ci := 5) (v := .int (iI (F 523))) (C := zR_X) (T := zT_X) (N := 34) hx hb hts zi_X hown hK.1 hP 5 ga_5 rfl 23 (by decide) (hts _ zw_556) (fun _ h9 => h9) rfl zd_X_isSlower_4 ?_
      refine x_icmp_ge (tgt := 23) hx hb zd_X_isSlower_7 (by decide) (⟨by omega, by omega⟩) (⟨by omega, by omega⟩) (fun h_7 => ?_) (fun h_7 => ?_)
      · refine lv_iconst (v := iI (1)) hx hb zd_X_isSlower_23 rfl ?_
        refine lv_istore_n (lv' := [(3, .int (iI (1))), (0, .ref (q 5)), (1, .long (lI (x)))]) hx hb zd_X_isSlower_24 rfl hl (by decide) rfl (fun ls hl => ?_)
        refine lv_iconst (v := iI (0)) hx hb zd_X_isSlower_25 rfl ?_
        refine lv_istore (lv' := [(4, .int (iI (0))), (3, .int (iI (1))), (0, .ref (q 5)), (1, .long (lI (x)))]) hx hb zd_X_isSlower_26 hl (by decide) rfl (fun ls hl => ?_)
        have L_28 : ∀ (fu : Nat) (mo : Int) (p1 : Int) (V : Int → Int) (A28 : Nat → Int → Int), (0 ≤ p1 ∧ p1 ≤ F 523 + 1) → (mo = 0 ∨ mo = 1) → (∀ k, k ≠ 55 → A28 k = A k) → (px_I (F 523).toNat (F 525).toNat (A 51) (A 52) (xw x A) (A28 55, V)) → (∃ c, px_J (F 523).toNat (F 525).toNat (A 51) (A 52) (xw x A) (A28 55, V) c (p1.toNat + 1) 0) → (∀ v, 0 ≤ v → v < F 523 → 0 ≤ A28 55 v ∧ A28 55 v ≤ 90596966400 * p1) → (mo = 0 → ∀ e, 0 ≤ e → e < F 525 → A28 55 (A 51 e) + xw x A e ≤ A28 55 (A 52 e)) → (mo = 1 → F 523 ≤ p1 → ∃ y, px_N (F 523).toNat y ∧ ∃ i : Nat, 1 ≤ i ∧ (∀ j, j < i → px_hv (A28 55, V) (rx_it (px_f (A 51) (A28 55, V)) j y)) ∧ rx_it (px_f (A 51) (A28 55, V)) i y = y) → (F 523 + 2 - p1 < (fu : Int)) → ∀ (H : Heap) (locs : List Loc), va_P D zcl (gw q c F A28) H → va_D A0 (gw q c F A28) → va_S A0 s.heap H locs → ∀ ls : Array Slot, lv_has ls 8 [(0, .ref (q 5)), (1, .long (lI (x))), (3, .int (iI (mo))), (4, .int (iI (p1)))] → W p l e zr_X_isSlower s m args below meth c0 H locs 0 0 Q (F0 m 28 ls []) := by
          intro fu
          induction fu with
          | zero => intro mo p1 V A28 hp hmo hk hI hJ hx3 hst hlp hm_28; exact absurd hm_28 (by omega)
          | succ fu ih_28 =>
            intro mo p1 V A28 hp hmo hk hI hJ hx3 hst hlp hm_28 H locs hP hD hS ls hl
            refine lv_iload hx hb zd_X_isSlower_28 (lv_at hl 3 rfl) ?_
            refine lv_aload_n hx hb zd_X_isSlower_30 rfl (lv_at hl 0 rfl) ?_
            refine va_get (D := D) (ci := 5) (v := .int (iI (F 523))) (C := zR_X) (T := zT_X) (N := 34) hx hb hts zi_X hown hK.1 hP 5 ga_5 rfl 23 (by decide) (hts _ zw_556) (fun _ h9 => h9) rfl zd_X_isSlower_31 ?_
            refine x_icmp_gt (tgt := 141) hx hb zd_X_isSlower_34 (by decide) (⟨by omega, by omega⟩) (⟨by omega, by omega⟩) (fun h_34 => ?_) (fun h_34 => ?_)
            · refine lv_iload_n hx hb zd_X_isSlower_141 rfl (lv_at hl 2 rfl) ?_
              exact ret _ _ _ _ _ _ _ zd_X_isSlower_142 hP hD hS (by omega) (⟨rfl, hk, hmo, fun h => ⟨A28 55, fun u v s r ⟨e, h0, h1, h2, h3, h4, h5⟩ => by have := hst h e h0 h1; unfold xw at this; rw [h2, h3, h4, h5] at this; exact this⟩, fun h => by obtain ⟨y, hy, j, hj, hj2, hj3⟩ := hlp h (by omega); obtain ⟨T, R, t1, t2, _⟩ := lp_of (M := F 525) (te := A 53) (re := A 54) (a := 16777216) (b := x) (by omega) hI (fun e => rfl) hy hj hj2 hj3; exact ⟨T, R, t1, t2⟩⟩)
            · refine lv_iload_n hx hb zd_X_isSlower_37 rfl (lv_at hl 2 rfl) ?_
              refine x_if_eq (tgt := 141) hx hb zd_X_isSlower_38 (by decide) (⟨by omega, by omega⟩) (fun h_38 => ?_) (fun h_38 => ?_)
              · refine lv_iload_n hx hb zd_X_isSlower_141 rfl (lv_at hl 2 rfl) ?_
                exact ret _ _ _ _ _ _ _ zd_X_isSlower_142 hP hD hS (by omega) (⟨rfl, hk, hmo, fun h => ⟨A28 55, fun u v s r ⟨e, h0, h1, h2, h3, h4, h5⟩ => by have := hst h e h0 h1; unfold xw at this; rw [h2, h3, h4, h5] at this; exact this⟩, fun h => by obtain ⟨y, hy, j, hj, hj2, hj3⟩ := hlp h (by omega); obtain ⟨T, R, t1, t2, _⟩ := lp_of (M := F 525) (te := A 53) (re := A 54) (a := 16777216) (b := x) (by omega) hI (fun e => rfl) hy hj hj2 hj3; exact ⟨T, R, t1, t2⟩⟩)
              · refine lv_iconst (v := iI (0)) hx hb zd_X_isSlower_41 rfl ?_
                refine lv_istore_n (lv' := [(3, .int (iI (0))), (0, .ref (q 5)), (1, .long (lI (x))), (4, .int (iI (p1)))]) hx hb zd_X_isSlower_42 rfl hl (by decide) rfl (fun ls hl => ?_)
                refine lv_iconst (v := iI (0)) hx hb zd_X_isSlower_43 rfl ?_
                refine lv_istore (lv' := [(5, .int (iI (0))), (3, .int (iI (0))), (0, .ref (q 5)), (1, .long (lI (x))), (4, .int (iI (p1)))]) hx hb zd_X_isSlower_44 hl (by decide) rfl (fun ls hl => ?_)
                have L_46 : ∀ (fu : Nat) (r : Int) (i : Int)  (A46 : Nat → Int → Int), (0 ≤ i ∧ i ≤ F 525) → (r = if px_rai (A 51) (A 52) (xw x A) (A28 55, V) i.toNat = true then 1 else 0) → (∀ k, k ≠ 55 → A46 k = A k) → (A46 55 = (px_pass (A 51) (A 52) (xw x A) (A28 55, V) i.toNat).1) → (∀ v, 0 ≤ v → v < F 523 → 0 ≤ A46 55 v ∧ A46 55 v ≤ 90596966400 * p1 + 150994944 * i) → (F 525 - i < (fu : Int)) → ∀ (H : Heap) (locs : List Loc), va_P D zcl (gw q c F A46) H → va_D A0 (gw q c F A46) → va_S A0 s.heap H locs → ∀ ls : Array Slot, lv_has ls 8 [(0, .ref (q 5)), (1, .long (lI (x))), (3, .int (iI (r))), (4, .int (iI (p1))), (5, .int (iI (i)))] → W p l e zr_X_isSlower s m args below meth c0 H locs 0 0 Q (F0 m 46 ls []) := by
                  intro fu
                  induction fu with
                  | zero => intro r i  A46 hi hr hk4 hps hx4 hm_46; exact absurd hm_46 (by omega)
                  | succ fu ih_46 =>
                    intro r i  A46 hi hr hk4 hps hx4 hm_46 H locs hP hD hS ls hl
                    have e51 := hk4 51 (by decide)
                    have e52 := hk4 52 (by decide)
                    have e53 := hk4 53 (by decide)
                    have e54 := hk4 54 (by decide)
                    have hr01_ : r = 0 ∨ r = 1 := by rw [hr]; split <;> simp
                    refine lv_iload hx hb zd_X_isSlower_46 (lv_at hl 4 rfl) ?_
                    refine lv_aload_n hx hb zd_X_isSlower_48 rfl (lv_at hl 0 rfl) ?_
                    refine va_get (D := D) (ci := 5) (v := .int (iI (F 525))) (C := zR_X) (T := zT_X) (N := 34) hx hb hts zi_X hown hK.1 hP 5 ga_5 rfl 25 (by decide) (hts _ zw_558) (fun _ h9 => h9) rfl zd_X_isSlower_49 ?_
                    refine x_icmp_ge (tgt := 135) hx hb zd_X_isSlower_52 (by decide) (⟨by omega, by omega⟩) (⟨by omega, by omega⟩) (fun h_52 => ?_) (fun h_52 => ?_)
                    · have e_ : i = F 525 := by omega
                      rw [e_] at hr hps hx4
                      obtain ⟨g1_, g2_, g3_⟩ := gl_pass (k := p1.toNat) hE2 hI hJ
                      refine lv_iinc (v := iI (p1 + 1)) (lv' := [(4, .int (iI (p1 + 1))), (0, .ref (q 5)), (1, .long (lI (x))), (3, .int (iI (r))), (5, .int (iI (i)))]) hx hb zd_X_isSlower_135 hl (k := 3) rfl (iI_add _ _) (by decide) rfl (fun ls hl => ?_)
                      refine lv_goto (tgt := 28) hx hb zd_X_isSlower_138 (by decide) ?_
                      exact ih_28 (r) (p1 + 1) ((px_pass (A 51) (A 52) (xw x A) (A28 55, V) (F 525).toNat).2) A46 (by first | assumption | omega | (simp_all; done)) (by first | assumption | omega | (simp_all; done)) (hk4) (by rw [hps]; exact g1_) (by rw [hps, show (p1 + 1).toNat = p1.toNat + 1 by omega]; exact g2_) (fun v h0 h1 => by have := hx4 v h0 h1; omega) (fun h e h0 h1 => by have hq : px_rai (A 51) (A 52) (xw x A) (A28 55, V) (F 525).toNat = false := (by (by_cases c_ : px_rai (A 51) (A 52) (xw x A) (A28 55, V) (F 525).toNat = true; (rw [if_pos c_] at hr; omega); (simpa using c_))); obtain ⟨y1, y2⟩ := px_still _ hq; have y3 := y2 e.toNat (by omega); rw [hps, y1]; rw [show ((e.toNat : Nat) : Int) = e by omega] at y3; exact y3) (fun h h0 => by rw [hps]; exact g3_ (by by_cases c_ : px_rai (A 51) (A 52) (xw x A) (A28 55, V) (F 525).toNat = true; (exact c_); (rw [if_neg c_] at hr; omega)) (by omega)) (by omega) _ _ hP hD hS ls (lv_sub hl [1, 2, 3, 0] rfl)
                    · have he_ := hed i (by omega) (by omega)
                      have hxs_ := hx4 (A 51 i) (by omega) (by omega)
                      have hxt_ := hx4 (A 52 i) (by omega) (by omega)
                      have hm_ := bnd0 (x := x) (y := A 54 i) (X := 6710886400) (Y := 100) (by omega) (by omega)
                      refine lv_aload_n hx hb zd_X_isSlower_55 rfl (lv_at hl 0 rfl) ?_
                      refine va_get (D := D) (ci := 5) (v := .ref (q 55)) (C := zR_X) (T := zT_X) (N := 34) hx hb hts zi_X hown hK.1 hP 5 ga_5 rfl 30 (by decide) (hts _ zw_563) (fun _ h9 => h9) rfl zd_X_isSlower_56 ?_
                      refine lv_aload_n hx hb zd_X_isSlower_59 rfl (lv_at hl 0 rfl) ?_
                      refine va_get (D := D) (ci := 5) (v := .ref (q 51)) (C := zR_X) (T := zT_X) (N := 34) hx hb hts zi_X hown hK.1 hP 5 ga_5 rfl 26 (by decide) (hts _ zw_559) (fun _ h9 => h9) rfl zd_X_isSlower_60 ?_
                      refine lv_iload hx hb zd_X_isSlower_63 (lv_at hl 4 rfl) ?_
                      refine x_iald (v := A 51 i) hx hb hK.1 hP 51 0 ga_51 rfl (by decide) (by omega) (by omega) (by rw [e51]) zd_X_isSlower_65 ?_
                      refine x_lald (v := A46 55 (A 51 i)) hx hb hK.1 hP 55 1 ga_55 rfl (by decide) (by omega) (by omega) (rfl) zd_X_isSlower_66 ?_
                      refine lv_aload_n hx hb zd_X_isSlower_67 rfl (lv_at hl 0 rfl) ?_
                      refine va_get (D := D) (ci := 5) (v := .ref (q 53)) (C := zR_X) (T := zT_X) (N := 34) hx hb hts zi_X hown hK.1 hP 5 ga_5 rfl 28 (by decide) (hts _ zw_561) (fun _ h9 => h9) rfl zd_X_isSlower_68 ?_
                      refine lv_iload hx hb zd_X_isSlower_71 (lv_at hl 4 rfl) ?_
                      refine x_iald (v := A 53 i) hx hb hK.1 hP 53 0 ga_53 rfl (by decide) (by omega) (by omega) (by rw [e53]) zd_X_isSlower_73 ?_
                      refine x_i2l hx hb zd_X_isSlower_74 (⟨by omega, by omega⟩) ?_
                      refine lv_bipush (v := iI (24)) hx hb zd_X_isSlower_75 (by decide) ?_
                      refine x_lshl24 hx hb zd_X_isSlower_77 (by omega) ?_
                      refine x_ladd hx hb zd_X_isSlower_78 ?_
                      refine lv_lload_n hx hb zd_X_isSlower_79 rfl (lv_at hl 1 rfl) ?_
                      refine lv_aload_n hx hb zd_X_isSlower_80 rfl (lv_at hl 0 rfl) ?_
                      refine va_get (D := D) (ci := 5) (v := .ref (q 54)) (C := zR_X) (T := zT_X) (N := 34) hx hb hts zi_X hown hK.1 hP 5 ga_5 rfl 29 (by decide) (hts _ zw_562) (fun _ h9 => h9) rfl zd_X_isSlower_81 ?_
                      refine lv_iload hx hb zd_X_isSlower_84 (lv_at hl 4 rfl) ?_
                      refine x_iald (v := A 54 i) hx hb hK.1 hP 54 0 ga_54 rfl (by decide) (by omega) (by omega) (by rw [e54]) zd_X_isSlower_86 ?_
                      refine x_i2l hx hb zd_X_isSlower_87 (⟨by omega, by omega⟩) ?_
                      refine x_lmul hx hb zd_X_isSlower_88 ?_
                      refine x_lsub hx hb zd_X_isSlower_89 ?_
                      refine lv_lstore (lv' := [(6, .long (lI (((A46 55 (A 51 i)) + ((A 53 i) * 16777216)) - (x * (A 54 i))))), (0, .ref (q 5)), (1, .long (lI (x))), (3, .int (iI (r))), (4, .int (iI (p1))), (5, .int (iI (i)))]) hx hb zd_X_isSlower_90 hl (by decide) rfl (fun ls hl => ?_)
                      refine lv_lload hx hb zd_X_isSlower_92 (lv_at hl 0 rfl) ?_
                      refine lv_aload_n hx hb zd_X_isSlower_94 rfl (lv_at hl 1 rfl) ?_
                      refine va_get (D := D) (ci := 5) (v := .ref (q 55)) (C := zR_X) (T := zT_X) (N := 34) hx hb hts zi_X hown hK.1 hP 5 ga_5 rfl 30 (by decide) (hts _ zw_563) (fun _ h9 => h9) rfl zd_X_isSlower_95 ?_
                      refine lv_aload_n hx hb zd_X_isSlower_98 rfl (lv_at hl 1 rfl) ?_
                      refine va_get (D := D) (ci := 5) (v := .ref (q 52)) (C := zR_X) (T := zT_X) (N := 34) hx hb hts zi_X hown hK.1 hP 5 ga_5 rfl 27 (by decide) (hts _ zw_560) (fun _ h9 => h9) rfl zd_X_isSlower_99 ?_
                      refine lv_iload hx hb zd_X_isSlower_102 (lv_at hl 5 rfl) ?_
                      refine x_iald (v := A 52 i) hx hb hK.1 hP 52 0 ga_52 rfl (by decide) (by omega) (by omega) (by rw [e52]) zd_X_isSlower_104 ?_
                      refine x_lald (v := A46 55 (A 52 i)) hx hb hK.1 hP 55 1 ga_55 rfl (by decide) (by omega) (by omega) (rfl) zd_X_isSlower_105 ?_
                      refine x_lcmp hx hb zd_X_isSlower_106 (⟨by omega, by omega⟩) (⟨by omega, by omega⟩) ?_
                      have hc_106 := cmpI_spec (((A46 55 (A 51 i)) + ((A 53 i) * 16777216)) - (x * (A 54 i))) (A46 55 (A 52 i))
                      refine x_if_gt (tgt := 113) hx hb zd_X_isSlower_107 (by decide) (⟨by omega, by omega⟩) (fun h_107 => ?_) (fun h_107 => ?_)
                      · refine lv_aload_n hx hb zd_X_isSlower_113 rfl (lv_at hl 1 rfl) ?_
                        refine va_get (D := D) (ci := 5) (v := .ref (q 55)) (C := zR_X) (T := zT_X) (N := 34) hx hb hts zi_X hown hK.1 hP 5 ga_5 rfl 30 (by decide) (hts _ zw_563) (fun _ h9 => h9) rfl zd_X_isSlower_114 ?_
                        refine lv_aload_n hx hb zd_X_isSlower_117 rfl (lv_at hl 1 rfl) ?_
                        refine va_get (D := D) (ci := 5) (v := .ref (q 52)) (C := zR_X) (T := zT_X) (N := 34) hx hb hts zi_X hown hK.1 hP 5 ga_5 rfl 27 (by decide) (hts _ zw_560) (fun _ h9 => h9) rfl zd_X_isSlower_118 ?_
                        refine lv_iload hx hb zd_X_isSlower_121 (lv_at hl 5 rfl) ?_
                        refine x_iald (v := A 52 i) hx hb hK.1 hP 52 0 ga_52 rfl (by decide) (by omega) (by omega) (by rw [e52]) zd_X_isSlower_123 ?_
                        refine lv_lload hx hb zd_X_isSlower_124 (lv_at hl 0 rfl) ?_
                        refine x_last hx hb hK.1 hP hD hS 55 1 ga_55 rfl (by decide) (by omega) (by omega) zd_X_isSlower_126 (fun H locs hP hD hS => ?_)
                        rw [gs_55] at hP hD
                        refine lv_iconst (v := iI (1)) hx hb zd_X_isSlower_127 rfl ?_
                        refine lv_istore_n (lv' := [(3, .int (iI (1))), (6, .long (lI (((A46 55 (A 51 i)) + ((A 53 i) * 16777216)) - (x * (A 54 i))))), (0, .ref (q 5)), (1, .long (lI (x))), (4, .int (iI (p1))), (5, .int (iI (i)))]) hx hb zd_X_isSlower_128 rfl hl (by decide) rfl (fun ls hl => ?_)
                        refine lv_iinc (v := iI (i + 1)) (lv' := [(5, .int (iI (i + 1))), (3, .int (iI (1))), (6, .long (lI (((A46 55 (A 51 i)) + ((A 53 i) * 16777216)) - (x * (A 54 i))))), (0, .ref (q 5)), (1, .long (lI (x))), (4, .int (iI (p1)))]) hx hb zd_X_isSlower_129 hl (k := 5) rfl (iI_add _ _) (by decide) rfl (fun ls hl => ?_)
                        refine lv_goto (tgt := 46) hx hb zd_X_isSlower_132 (by decide) ?_
                        exact ih_46 (1) (i + 1)  (auP A46 55 (A 52 i) (((A46 55 (A 51 i)) + ((A 53 i) * 16777216)) - (x * (A 54 i)))) (by first | assumption | omega | (simp_all; done)) (by first | exact xr_y hps hi.1 (by omega) | exact xr_n hps hr hi.1 (by omega)) (fun k h => by first | exact hk4 k h | simp [auP, h, hk4 k h]) (by first | exact xi_n hps hi.1 (by omega) | exact xi_y hps hi.1 (by omega)) (fun v h0 h1 => by first | (have := hx4 v h0 h1; omega) | (have := hx4 v h0 h1; show 0 ≤ upI (A46 55) (A 52 i) _ v ∧ upI (A46 55) (A 52 i) _ v ≤ _; by_cases e_ : v = A 52 i; (rw [e_, upI_s]; omega); (rw [upI_n e_]; omega))) (by omega) _ _ hP hD hS ls (lv_sub hl [3, 4, 1, 5, 0] rfl)
                      · refine lv_goto (tgt := 129) hx hb zd_X_isSlower_110 (by decide) ?_
                        refine lv_iinc (v := iI (i + 1)) (lv' := [(5, .int (iI (i + 1))), (6, .long (lI (((A46 55 (A 51 i)) + ((A 53 i) * 16777216)) - (x * (A 54 i))))), (0, .ref (q 5)), (1, .long (lI (x))), (3, .int (iI (r))), (4, .int (iI (p1)))]) hx hb zd_X_isSlower_129 hl (k := 5) rfl (iI_add _ _) (by decide) rfl (fun ls hl => ?_)
                        refine lv_goto (tgt := 46) hx hb zd_X_isSlower_132 (by decide) ?_
                        exact ih_46 (r) (i + 1)  A46 (by first | assumption | omega | (simp_all; done)) (by first | exact xr_y hps hi.1 (by omega) | exact xr_n hps hr hi.1 (by omega)) (fun k h => by first | exact hk4 k h | simp [auP, h, hk4 k h]) (by first | exact xi_n hps hi.1 (by omega) | exact xi_y hps hi.1 (by omega)) (fun v h0 h1 => by first | (have := hx4 v h0 h1; omega) | (have := hx4 v h0 h1; show 0 ≤ upI (A46 55) (A 52 i) _ v ∧ upI (A46 55) (A 52 i) _ v ≤ _; by_cases e_ : v = A 52 i; (rw [e_, upI_s]; omega); (rw [upI_n e_]; omega))) (by omega) _ _ hP hD hS ls (lv_sub hl [2, 3, 4, 5, 0] rfl)
                exact L_46 (((F 525 - (0) : Int) + 1).toNat) (0) (0)  A28 (by first | assumption | omega | (simp_all; done)) (rfl) (hk) (rfl) (fun v h0 h1 => by have := hx3 v h0 h1; omega) (by omega) _ _ hP hD hS ls (lv_sub hl [2, 3, 1, 4, 0] rfl)
        exact L_28 (((F 523 + 2 - (0) : Int) + 1).toNat) (1) (0) (fun _ => -1) A2 (by first | assumption | omega | (simp_all; done)) (by first | assumption | omega | (simp_all; done)) (hk) (px_init_I (fun v hv => rfl)) (⟨_, px_init_J (fun v hv => rfl)⟩) (fun v h0 h1 => by rw [hs v h0 (by omega)]; omega) (fun h => by omega) (fun _ h => by omega) (by omega) _ _ hP hD hS ls (lv_sub hl [2, 3, 1, 0] rfl)
      · refine lv_aload_n hx hb zd_X_isSlower_10 rfl (lv_at hl 0 rfl) ?_
        refine va_get (D := D) (ci := 5) (v := .ref (q 55)) (C := zR_X) (T := zT_X) (N := 34) hx hb hts zi_X hown hK.1 hP 5 ga_5 rfl 30 (by decide) (hts _ zw_563) (fun _ h9 => h9) rfl zd_X_isSlower_11 ?_
        refine lv_iload_n hx hb zd_X_isSlower_14 rfl (lv_at hl 2 rfl) ?_
        refine lv_lconst (v := lI (0)) hx hb zd_X_isSlower_15 (by decide) ?_
        refine x_last hx hb hK.1 hP hD hS 55 1 ga_55 rfl (by decide) (by omega) (by omega) zd_X_isSlower_16 (fun H locs hP hD hS => ?_)
        rw [gs_55] at hP hD
        refine lv_iinc (v := iI (i + 1)) (lv' := [(3, .int (iI (i + 1))), (0, .ref (q 5)), (1, .long (lI (x)))]) hx hb zd_X_isSlower_17 hl (k := 2) rfl (iI_add _ _) (by decide) rfl (fun ls hl => ?_)
        refine lv_goto (tgt := 2) hx hb zd_X_isSlower_20 (by decide) ?_
        exact ih_2 (i + 1)  (auP A2 55 i 0) (by first | assumption | omega | (simp_all; done)) (fun k h => by simp [auP, h, hk k h]) (fun v h0 h1 => by by_cases e_ : v = i; (subst e_; simp [auP, upI]); (have := hs v h0 (by omega); simp [auP, upI, e_, this])) (by omega) _ _ hP hD hS ls (lv_sub hl [1, 2, 0] rfl)
  exact L_2 (((F 523 - (0) : Int) + 1).toNat) (0)  A (by first | assumption | omega | (simp_all; done)) (fun k _ => rfl) (fun v h0 h1 => by omega) (by omega) _ _ hP hD hS ls (lv_sub hl [1, 2, 0] rfl)
