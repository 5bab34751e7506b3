theorem dn_neg {a b : Int} (hb : 0 < b) (ha : a < 0) : -((b - 1 - a).tdiv b) = a / b := by
  rw [Int.tdiv_eq_ediv_of_nonneg (by omega)]
  have h1 := Int.emod_add_mul_ediv (b - 1 - a) b
  have h2 := Int.emod_nonneg (b - 1 - a) (show b ≠ 0 by omega)
  have h3 := Int.emod_lt_of_pos (b - 1 - a) hb
  have h4 : a = (b - 1 - (b - 1 - a) % b) + b * (-((b - 1 - a) / b)) := by rw [Int.mul_neg]; omega
  have h5 := (Int.ediv_emod_unique (a := a) (b := b) (q := -((b - 1 - a) / b)) (r := b - 1 - (b - 1 - a) % b) hb).mpr ⟨by omega, by omega, by omega⟩
  exact h5.1.symm
/-- the divisor of the counts of i .. j -/
def dvN (f : Int → Int) (i : Int) : Nat → Int
  | 0 => f i
  | d + 1 => gI (dvN f i d) (f (i + d + 1))
abbrev zr_X_down : Room := ({ frames := 0, cells := 0, slots := 0, locals := 0 } : Room)
set_option maxHeartbeats 4000000 in
set_option maxRecDepth 100000 in
theorem c_X_down (l : Launch) (D : va_G) (q : Nat → Nat) (c : Nat → ClassId) (sz : Nat) (F : Nat → Int) (A : Nat → Int → Int) (a : Int) (b : Int) (ha : -1000000 ≤ a ∧ a ≤ 1000000) (hb_ : 1 ≤ b ∧ b ≤ 1000000) : zMI l zy_X_down zc_X_down 2 (some .int) zr_X_down D q c sz [.int (iI (a)), .int (iI (b))] F A (fun z F1 A1 => F1 = F ∧ A1 = A ∧ z = a / b) := by
  refine z_ofI (by decide) (Nat.le_of_ble_eq_true rfl) ?_
  intro p e s m args below meth c0 A0 Q C0 ret hP hD hS ls hl
  obtain ⟨S, hK, hA⟩ := C0
  have hx := S.1
  have hb := S.2.1
  have hown := S.2.2.2.1
  have hts : ∀ w ∈ zG, w.before args s = true := fun w h => S.2.2.2.2 w (List.mem_cons_of_mem _ h)
  have hl : lv_has ls 2 [(0, .int (iI (a))), (1, .int (iI (b)))] := hl
  refine lv_iload_n hx hb zd_X_down_0 rfl (lv_at hl 0 rfl) ?_
  refine x_if_lt (tgt := 10) hx hb zd_X_down_1 (by decide) (⟨by omega, by omega⟩) (fun h_1 => ?_) (fun h_1 => ?_)
  · refine lv_iload_n hx hb zd_X_down_10 rfl (lv_at hl 1 rfl) ?_
    refine lv_iconst (v := iI (1)) hx hb zd_X_down_11 rfl ?_
    refine x_isub hx hb zd_X_down_12 ?_
    refine lv_iload_n hx hb zd_X_down_13 rfl (lv_at hl 0 rfl) ?_
    refine x_isub hx hb zd_X_down_14 ?_
    refine lv_iload_n hx hb zd_X_down_15 rfl (lv_at hl 1 rfl) ?_
    refine x_idiv hx hb zd_X_down_16 (⟨by omega, by omega⟩) (⟨by omega, by omega⟩) (by omega) ?_
    refine x_ineg hx hb zd_X_down_17 ?_
    exact ret _ _ _ _ _ _ _ zd_X_down_18 hP hD hS (⟨rfl, rfl, by first | exact dn_neg (by omega) h_1 | exact Int.tdiv_eq_ediv_of_nonneg (by omega)⟩)
  · refine lv_iload_n hx hb zd_X_down_4 rfl (lv_at hl 0 rfl) ?_
    refine lv_iload_n hx hb zd_X_down_5 rfl (lv_at hl 1 rfl) ?_
    refine x_idiv hx hb zd_X_down_6 (⟨by omega, by omega⟩) (⟨by omega, by omega⟩) (by omega) ?_
    refine lv_goto (tgt := 18) hx hb zd_X_down_7 (by decide) ?_
    exact ret _ _ _ _ _ _ _ zd_X_down_18 hP hD hS (⟨rfl, rfl, by first | exact dn_neg (by omega) h_1 | exact Int.tdiv_eq_ediv_of_nonneg (by omega)⟩)

abbrev zr_X_divisorOf : Room := ({ frames := 1, cells := 0, slots := 0, locals := 29 } : Room)
set_option maxHeartbeats 4000000 in
set_option maxRecDepth 100000 in
theorem c_X_divisorOf (l : Launch) (D : va_G) (q : Nat → Nat) (c : Nat → ClassId) (sz : Nat) (F : Nat → Int) (A : Nat → Int → Int) (i : Int) (j : Int) (hmn : 1 ≤ F 501 ∧ F 501 ≤ 8) (hij : 0 ≤ i ∧ i ≤ j ∧ j < F 501) (hmc : ∀ a, 0 ≤ a → a < F 501 → 1 ≤ A 44 a ∧ A 44 a ≤ 400) : zMI l zy_X_divisorOf zc_X_divisorOf 6 (some .int) zr_X_divisorOf D q c sz [.ref (q 5), .int (iI (i)), .int (iI (j))] F A (fun z F1 A1 => F1 = F ∧ A1 = A ∧ z = dvN (A 44) i (j - i).toNat ∧ 1 ≤ z ∧ z ≤ 400) := by
  refine z_ofI (by decide) (Nat.le_of_ble_eq_true rfl) ?_
  intro p e s m args below meth c0 A0 Q C0 ret hP hD hS ls hl
  obtain ⟨S, hK, hA⟩ := C0
  have hx := S.1
  have hb := S.2.1
  have hown := S.2.2.2.1
  have hts : ∀ w ∈ zG, w.before args s = true := fun w h => S.2.2.2.2 w (List.mem_cons_of_mem _ h)
  have hl : lv_has ls 6 [(0, .ref (q 5)), (1, .int (iI (i))), (2, .int (iI (j)))] := hl
  have hc_ := hmc i (by omega) (by omega)
  refine lv_aload_n hx hb zd_X_divisorOf_0 rfl (lv_at hl 0 rfl) ?_
  refine va_get (D := D) (ci := 5) (v := .ref (q 44)) (C := zR_X) (T := zT_X) (N := 34) hx hb hts zi_X hown hK.1 hP 5 ga_5 rfl 16 (by decide) (hts _ zw_549) (fun _ h9 => h9) rfl zd_X_divisorOf_1 ?_
  refine lv_iload_n hx hb zd_X_divisorOf_4 rfl (lv_at hl 1 rfl) ?_
  refine x_iald (v := A 44 i) hx hb hK.1 hP 44 0 ga_44 rfl (by decide) (by omega) (by omega) (rfl) zd_X_divisorOf_5 ?_
  refine x_i2l hx hb zd_X_divisorOf_6 (⟨by omega, by omega⟩) ?_
  refine lv_lstore_n (lv' := [(3, .long (lI (A 44 i))), (0, .ref (q 5)), (1, .int (iI (i))), (2, .int (iI (j)))]) hx hb zd_X_divisorOf_7 rfl hl (by decide) rfl (fun ls hl => ?_)
  refine lv_iload_n hx hb zd_X_divisorOf_8 rfl (lv_at hl 2 rfl) ?_
  refine lv_iconst (v := iI (1)) hx hb zd_X_divisorOf_9 rfl ?_
  refine x_iadd hx hb zd_X_divisorOf_10 ?_
  refine lv_istore (lv' := [(5, .int (iI (i + 1))), (3, .long (lI (A 44 i))), (0, .ref (q 5)), (1, .int (iI (i))), (2, .int (iI (j)))]) hx hb zd_X_divisorOf_11 hl (by decide) rfl (fun ls hl => ?_)
  have L_13 : ∀ (fu : Nat) (d : Int) (a : Int) , (i + 1 ≤ a ∧ a ≤ j + 1) → (d = dvN (A 44) i (a - 1 - i).toNat) → (1 ≤ d ∧ d ≤ 400) → (j + 1 - a < (fu : Int)) → ∀ (H : Heap) (locs : List Loc), va_P D zcl (gw q c F A) H → va_D A0 (gw q c F A) → va_S A0 s.heap H locs → ∀ ls : Array Slot, lv_has ls 6 [(0, .ref (q 5)), (1, .int (iI (i))), (2, .int (iI (j))), (3, .long (lI (d))), (5, .int (iI (a)))] → W p l e zr_X_divisorOf s m args below meth c0 H locs 0 0 Q (F0 m 13 ls []) := by
    intro fu
    induction fu with
    | zero => intro d a   ha hd hdb hm_13; exact absurd hm_13 (by omega)
    | succ fu ih_13 =>
      intro d a   ha hd hdb hm_13 H locs hP hD hS ls hl
      refine lv_iload hx hb zd_X_divisorOf_13 (lv_at hl 4 rfl) ?_
      refine lv_iload_n hx hb zd_X_divisorOf_15 rfl (lv_at hl 2 rfl) ?_
      refine x_icmp_gt (tgt := 38) hx hb zd_X_divisorOf_16 (by decide) (⟨by omega, by omega⟩) (⟨by omega, by omega⟩) (fun h_16 => ?_) (fun h_16 => ?_)
      · refine lv_lload_n hx hb zd_X_divisorOf_38 rfl (lv_at hl 3 rfl) ?_
        refine x_l2i hx hb zd_X_divisorOf_39 ?_
        exact ret _ _ _ _ _ _ _ zd_X_divisorOf_40 hP hD hS (⟨rfl, rfl, by rw [hd, show a - 1 - i = j - i by omega], hdb⟩)
      · have ha_ := hmc a (by omega) (by omega)
        refine lv_lload_n hx hb zd_X_divisorOf_19 rfl (lv_at hl 3 rfl) ?_
        refine lv_aload_n hx hb zd_X_divisorOf_20 rfl (lv_at hl 0 rfl) ?_
        refine va_get (D := D) (ci := 5) (v := .ref (q 44)) (C := zR_X) (T := zT_X) (N := 34) hx hb hts zi_X hown hK.1 hP 5 ga_5 rfl 16 (by decide) (hts _ zw_549) (fun _ h9 => h9) rfl zd_X_divisorOf_21 ?_
        refine lv_iload hx hb zd_X_divisorOf_24 (lv_at hl 4 rfl) ?_
        refine x_iald (v := A 44 a) hx hb hK.1 hP 44 0 ga_44 rfl (by decide) (by omega) (by omega) (rfl) zd_X_divisorOf_26 ?_
        refine x_i2l hx hb zd_X_divisorOf_27 (⟨by omega, by omega⟩) ?_
        refine z_gol (z_runS (n := 2) (As := [.long (lI (d)), .long (lI (A 44 a))]) (rest := []) S (c_X_divisor l D q c _ F A d (A 44 a) (by first | assumption | omega | exact ⟨by omega, by omega⟩) (by first | assumption | omega | exact ⟨by omega, by omega⟩)) zw_673 zw_674 zw_6 zw_675 ⟨by decide +kernel, by decide, rfl, rfl⟩ rfl hK hP hD rfl hl.1 rfl (Nat.le_of_ble_eq_true rfl) zd_X_divisorOf_28 ⟨Nat.zero_le _, Nat.zero_le _⟩) hD hS hA (fun z_28 F_28 A_28 H locs hq_28 hP hD hS => ?_)
        obtain ⟨hf_28, ha_28, hq_28⟩ := hq_28
        rw [hf_28, ha_28] at hP hD
        have hg1_ := gI_pos (a := d) (b := A 44 a) (by omega)
        have hg2_ := gI_le (a := d) (b := A 44 a) (by omega)
        refine lv_lstore_n (lv' := [(3, .long (lI (z_28))), (0, .ref (q 5)), (1, .int (iI (i))), (2, .int (iI (j))), (5, .int (iI (a)))]) hx hb zd_X_divisorOf_31 rfl hl (by decide) rfl (fun ls hl => ?_)
        refine lv_iinc (v := iI (a + 1)) (lv' := [(5, .int (iI (a + 1))), (3, .long (lI (z_28))), (0, .ref (q 5)), (1, .int (iI (i))), (2, .int (iI (j)))]) hx hb zd_X_divisorOf_32 hl (k := 4) rfl (iI_add _ _) (by decide) rfl (fun ls hl => ?_)
        refine lv_goto (tgt := 13) hx hb zd_X_divisorOf_35 (by decide) ?_
        exact ih_13 (z_28) (a + 1)   (by first | assumption | omega | (simp_all; done)) (by rw [hq_28, show (a + 1 - 1 - i).toNat = (a - 1 - i).toNat + 1 by omega]; show gI d (A 44 a) = gI (dvN (A 44) i (a - 1 - i).toNat) (A 44 (i + ((a - 1 - i).toNat : Int) + 1)); rw [← hd, show i + ((a - 1 - i).toNat : Int) + 1 = a by omega]) (by first | assumption | omega | (simp_all; done)) (by omega) _ _ hP hD hS ls (lv_sub hl [2, 3, 4, 1, 0] rfl)
  exact L_13 (((j + 1 - (i + 1) : Int) + 1).toNat) (A 44 i) (i + 1)   (by first | assumption | omega | (simp_all; done)) (by rw [show i + 1 - 1 - i = 0 by omega]; rfl) (by first | assumption | omega | (simp_all; done)) (by omega) _ _ hP hD hS ls (lv_sub hl [2, 3, 4, 1, 0] rfl)
