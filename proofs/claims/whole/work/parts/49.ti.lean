theorem pc_cl {F F1 : Nat → Int} {A A1 : Nat → Int → Int} {a : Int} (e1 : F1 100 = F 100) (e2 : F1 101 = F 101) (e3 : A1 8 = A 8) (e4 : A1 9 = A 9) (e5 : A1 10 = A 10) :
    ((∀ b, 0 ≤ b → b < F1 100 → A1 8 b = A1 8 a → Rch (F1 101) (A1 9) (A1 10) a b) ∧ ∀ b, 0 ≤ b → b < F1 100 → A1 8 b = A1 8 a → Rch (F1 101) (A1 10) (A1 9) a b) ↔ (∀ b, 0 ≤ b → b < F 100 → A 8 b = A 8 a → Rch (F 101) (A 9) (A 10) a b) ∧ ∀ b, 0 ≤ b → b < F 100 → A 8 b = A 8 a → Rch (F 101) (A 10) (A 9) a b := by
  rw [e1, e2, e3, e4, e5]
theorem pc_sm {F : Nat → Int} {A : Nat → Int → Int} {a : Int} (hn : 1 ≤ F 100 ∧ F 100 ≤ 8) (hact : ∀ a, 0 ≤ a → a < 8 → (1 ≤ A 7 a ∧ A 7 a ≤ 4782969) ∧ 0 ≤ A 8 a ∧ A 8 a < 8) : 0 ≤ sI (fun b => if A 8 b = A 8 a then A 7 b else 0) (F 100) ∧ sI (fun b => if A 8 b = A 8 a then A 7 b else 0) (F 100) ≤ 38263752 := by
  have h := sI_nn (f := fun b => if A 8 b = A 8 a then A 7 b else 0) (n := F 100) (B := 4782969) (by omega) (fun b b0 b1 => by
    have h1 := hact b b0 (by omega)
    show 0 ≤ (if A 8 b = A 8 a then A 7 b else 0) ∧ (if A 8 b = A 8 a then A 7 b else 0) ≤ 4782969
    split <;> omega)
  have h2 : F 100 * 4782969 ≤ 8 * 4782969 := Int.mul_le_mul_of_nonneg_right hn.2 (by decide)
  omega
theorem pc_lf {F F1 : Nat → Int} {A A1 : Nat → Int → Int} (hn : 1 ≤ F 100 ∧ F 100 ≤ 8) (hc : 0 ≤ F 101 ∧ F 101 ≤ 14) (hact : ∀ a, 0 ≤ a → a < 8 → (1 ≤ A 7 a ∧ A 7 a ≤ 4782969) ∧ 0 ≤ A 8 a ∧ A 8 a < 8) (hch : ∀ k, 0 ≤ k → k < F 101 → (0 ≤ A 9 k ∧ A 9 k < F 100) ∧ (0 ≤ A 10 k ∧ A 10 k < F 100) ∧ (1 ≤ A 11 k ∧ A 11 k ≤ 9) ∧ (1 ≤ A 12 k ∧ A 12 k ≤ 9) ∧ 0 ≤ A 13 k ∧ A 13 k ≤ 99)
    (hF : ∀ j, j ≠ 200 → j ≠ 201 → F1 j = F j) (hA : ∀ k, k ≠ 14 → k ≠ 15 → k ≠ 16 → k ≠ 17 → A1 k = A k) (hr : RdOK F1 A1) : (∀ a, 0 ≤ a → a < F1 100 → 0 ≤ A1 15 a ∧ A1 15 a ≤ 4782969) ∧ True := by
  have e7 := hA 7 (by decide) (by decide) (by decide) (by decide)
  have e8 := hA 8 (by decide) (by decide) (by decide) (by decide)
  have e9 := hA 9 (by decide) (by decide) (by decide) (by decide)
  have e10 := hA 10 (by decide) (by decide) (by decide) (by decide)
  have e11 := hA 11 (by decide) (by decide) (by decide) (by decide)
  have e12 := hA 12 (by decide) (by decide) (by decide) (by decide)
  have e13 := hA 13 (by decide) (by decide) (by decide) (by decide)
  have e100 := hF 100 (by decide) (by decide)
  have e101 := hF 101 (by decide) (by decide)
  obtain ⟨h1, h2, h3, -⟩ := hr
  exact ⟨(rat_b (F := F1) (A := A1) h1 (by rw [e7, e8]; exact hact) (by rw [e100]; exact hn) (by rw [e9, e10, e11, e12, e13, e100, e101]; exact hch) h2 h3).2, trivial⟩
abbrev zr_C_pace_nse : Room := ({ frames := 6, cells := 1, slots := 6, locals := 101 } : Room)
set_option maxHeartbeats 4000000 in
set_option maxRecDepth 100000 in
theorem c_C_pace_nse (l : Launch) (hfl : l.stackTraces = false) (D : va_G) (q : Nat → Nat) (c : Nat → ClassId) (sz : Nat) (F : Nat → Int) (A : Nat → Int → Int) (a : Int) (w : Int) (ba : ib a) (bw : ib w) (hn : 1 ≤ F 100 ∧ F 100 ≤ 8) (hc : 0 ≤ F 101 ∧ F 101 ≤ 14) (hact : ∀ a, 0 ≤ a → a < 8 → (1 ≤ A 7 a ∧ A 7 a ≤ 4782969) ∧ 0 ≤ A 8 a ∧ A 8 a < 8) (hch : ∀ k, 0 ≤ k → k < F 101 → (0 ≤ A 9 k ∧ A 9 k < F 100) ∧ (0 ≤ A 10 k ∧ A 10 k < F 100) ∧ (1 ≤ A 11 k ∧ A 11 k ≤ 9) ∧ (1 ≤ A 12 k ∧ A 12 k ≤ 9) ∧ 0 ≤ A 13 k ∧ A 13 k ≤ 99) (hkn : (F 200 = 0 ∨ F 200 = 1) ∧ (F 200 = 1 → RdOK F A)) (hu : ib (F 102)) (hsame : ∀ k, 0 ≤ k → k < F 101 → A 8 (A 9 k) = A 8 (A 10 k)) (hno : ¬ ((0 ≤ a ∧ a < F 100) ∧ 0 ≤ w ∧ w ≤ 1)) : zMT l zy_C_pace zc_C_pace 3 (some .int) zr_C_pace_nse D q c sz [.ref (q 0), .int (iI (a)), .int (iI (w))] F A "java/util/NoSuchElementException" (fun F1 A1 => F1 = F ∧ A1 = A) := by
  refine z_ofT (by decide) (Nat.le_of_ble_eq_true rfl) (by decide) hfl ?_
  intro p e s m args below meth c0 A0 Q C0 ret hP hD hS ls hl
  obtain ⟨S, hK, hA⟩ := C0
  have hx := S.1
  have hb := S.2.1
  have hown := S.2.2.2.1
  have hts : ∀ w ∈ zG, w.before args s = true := fun w h => S.2.2.2.2 w (List.mem_cons_of_mem _ h)
  have hl : lv_has ls 3 [(0, .ref (q 0)), (1, .int (iI (a))), (2, .int (iI (w)))] := hl
  refine lv_aload_n hx hb zd_C_pace_0 rfl (lv_at hl 0 rfl) ?_
  refine va_get (D := D) (ci := 0) (v := .ref (q 1)) (C := zR_C) (T := zT_C) (N := 4) hx hb hts zi_C hown hK.1 hP 0 ga_0 rfl 0 (by decide) (hts _ zw_185) (fun _ h9 => h9) rfl zd_C_pace_1 ?_
  refine lv_iload_n hx hb zd_C_pace_4 rfl (lv_at hl 1 rfl) ?_
  refine z_goi (z_runVN (n := 1) (k := 1) (ci := 1) (As := [.int (iI (a))]) (rest := []) S (c_N_hasActor l D q c _ F A a (by first | assumption | omega | exact ⟨by omega, by omega⟩) (by first | assumption | omega | exact ⟨by omega, by omega⟩)) zw_214 zw_216 zs_2 zw_2 zw_217 ⟨by decide +kernel, by decide, rfl, rfl⟩ hK hP hD ga_1 rfl rfl rfl hl.1 rfl (Nat.le_of_ble_eq_true rfl) zd_C_pace_5 ⟨Nat.zero_le _, Nat.zero_le _⟩) hD hS hA (fun z_5 F_5 A_5 H locs hq_5 hP hD hS => ?_)
  obtain ⟨hf_5, ha_5, hq_5⟩ := hq_5
  rw [hf_5, ha_5] at hP hD
  have b5_ : z_5 = 0 ∨ z_5 = 1 := by rw [hq_5]; split <;> simp
  refine x_if_eq (tgt := 20) hx hb zd_C_pace_8 (by decide) (⟨by omega, by omega⟩) (fun h_8 => ?_) (fun h_8 => ?_)
  · exact ret _ _ _ _ _ _ _ 112 _ _ _ _ th_nse th_s112 zd_C_pace_20 zd_C_pace_23 zd_C_pace_24 zd_C_pace_26 zd_C_pace_29 hP hD hS (⟨rfl, rfl⟩) hl.1
  · refine lv_iload_n hx hb zd_C_pace_11 rfl (lv_at hl 2 rfl) ?_
    refine lv_iconst (v := iI (0)) hx hb zd_C_pace_12 rfl ?_
    refine lv_iconst (v := iI (1)) hx hb zd_C_pace_13 rfl ?_
    refine z_goi (z_runS (n := 3) (As := [.int (iI (w)), .int (iI (0)), .int (iI (1))]) (rest := []) S (c_C_isWithin l D q c _ F A w 0 1 (by first | assumption | omega | exact ⟨by omega, by omega⟩) (by first | assumption | omega | exact ⟨by omega, by omega⟩) (by first | assumption | omega | exact ⟨by omega, by omega⟩)) zw_202 zw_203 zw_1 zw_204 ⟨by decide +kernel, by decide, rfl, rfl⟩ rfl hK hP hD rfl hl.1 rfl (Nat.le_of_ble_eq_true rfl) zd_C_pace_14 ⟨Nat.zero_le _, Nat.zero_le _⟩) hD hS hA (fun z_14 F_14 A_14 H locs hq_14 hP hD hS => ?_)
    obtain ⟨hf_14, ha_14, hq_14⟩ := hq_14
    rw [hf_14, ha_14] at hP hD
    have b14_ : z_14 = 0 ∨ z_14 = 1 := by rw [hq_14]; split <;> simp
    refine x_if_ne (tgt := 30) hx hb zd_C_pace_17 (by decide) (⟨by omega, by omega⟩) (fun h_17 => ?_) (fun h_17 => ?_)
    · exact absurd h_17 (by rw [hq_14, if_neg (fun h => hno ⟨by rw [hq_5] at h_8; split at h_8 <;> omega, h⟩)]; simp)
    · exact ret _ _ _ _ _ _ _ 112 _ _ _ _ th_nse th_s112 zd_C_pace_20 zd_C_pace_23 zd_C_pace_24 zd_C_pace_26 zd_C_pace_29 hP hD hS (⟨rfl, rfl⟩) hl.1

abbrev zr_C_pace_ise : Room := ({ frames := 6, cells := 1, slots := 6, locals := 101 } : Room)
set_option maxHeartbeats 4000000 in
set_option maxRecDepth 100000 in
theorem c_C_pace_ise (l : Launch) (hfl : l.stackTraces = false) (D : va_G) (q : Nat → Nat) (c : Nat → ClassId) (sz : Nat) (F : Nat → Int) (A : Nat → Int → Int) (a : Int) (w : Int) (ba : ib a) (bw : ib w) (hn : 1 ≤ F 100 ∧ F 100 ≤ 8) (hc : 0 ≤ F 101 ∧ F 101 ≤ 14) (hact : ∀ a, 0 ≤ a → a < 8 → (1 ≤ A 7 a ∧ A 7 a ≤ 4782969) ∧ 0 ≤ A 8 a ∧ A 8 a < 8) (hch : ∀ k, 0 ≤ k → k < F 101 → (0 ≤ A 9 k ∧ A 9 k < F 100) ∧ (0 ≤ A 10 k ∧ A 10 k < F 100) ∧ (1 ≤ A 11 k ∧ A 11 k ≤ 9) ∧ (1 ≤ A 12 k ∧ A 12 k ≤ 9) ∧ 0 ≤ A 13 k ∧ A 13 k ≤ 99) (hkn : (F 200 = 0 ∨ F 200 = 1) ∧ (F 200 = 1 → RdOK F A)) (hu : ib (F 102)) (hsame : ∀ k, 0 ≤ k → k < F 101 → A 8 (A 9 k) = A 8 (A 10 k)) (ha : 0 ≤ a ∧ a < F 100) (hw : 0 ≤ w ∧ w ≤ 1) (hno : (F 102 = -1 ∧ sI (A 7) (F 100) ≤ 400) → (∀ F9 A9, (∀ j, j ≠ 200 → j ≠ 201 → F9 j = F j) → (∀ k, k ≠ 14 → k ≠ 15 → k ≠ 16 → k ≠ 17 → A9 k = A k) → RdOK F9 A9 → (∀ b, 0 ≤ b → b < F9 100 → A9 15 b = 0)) → ¬ ((∀ b, 0 ≤ b → b < F 100 → A 8 b = A 8 a → Rch (F 101) (A 9) (A 10) a b) ∧ ∀ b, 0 ≤ b → b < F 100 → A 8 b = A 8 a → Rch (F 101) (A 10) (A 9) a b)) (hall : (F 102 = -1 ∧ sI (A 7) (F 100) ≤ 400) → (∀ F9 A9, (∀ j, j ≠ 200 → j ≠ 201 → F9 j = F j) → (∀ k, k ≠ 14 → k ≠ 15 → k ≠ 16 → k ≠ 17 → A9 k = A k) → RdOK F9 A9 → (∀ b, 0 ≤ b → b < F9 100 → A9 15 b = 0)) ∨ ∀ F9 A9, (∀ j, j ≠ 200 → j ≠ 201 → F9 j = F j) → (∀ k, k ≠ 14 → k ≠ 15 → k ≠ 16 → k ≠ 17 → A9 k = A k) → RdOK F9 A9 → ¬ (∀ b, 0 ≤ b → b < F9 100 → A9 15 b = 0)) : zMT l zy_C_pace zc_C_pace 3 (some .int) zr_C_pace_ise D q c sz [.ref (q 0), .int (iI (a)), .int (iI (w))] F A "java/lang/IllegalStateException" (fun F1 A1 => ((∀ j, j ≠ 200 → j ≠ 201 → F1 j = F j) ∧ (∀ k, k ≠ 14 → k ≠ 15 → k ≠ 16 → k ≠ 17 → A1 k = A k)) ∧ ((F 102 = -1 ∧ sI (A 7) (F 100) ≤ 400) → F1 200 = 1 ∧ RdOK F1 A1) ∧ (¬ (F 102 = -1 ∧ sI (A 7) (F 100) ≤ 400) → F1 = F ∧ A1 = A)) := by
  refine z_ofT (by decide) (Nat.le_of_ble_eq_true rfl) (by decide) hfl ?_
  intro p e s m args below meth c0 A0 Q C0 ret hP hD hS ls hl
  obtain ⟨S, hK, hA⟩ := C0
  have hx := S.1
  have hb := S.2.1
  have hown := S.2.2.2.1
  have hts : ∀ w ∈ zG, w.before args s = true := fun w h => S.2.2.2.2 w (List.mem_cons_of_mem _ h)
  have hl : lv_has ls 3 [(0, .ref (q 0)), (1, .int (iI (a))), (2, .int (iI (w)))] := hl
  refine lv_aload_n hx hb zd_C_pace_0 rfl (lv_at hl 0 rfl) ?_
  refine va_get (D := D) (ci := 0) (v := .ref (q 1)) (C := zR_C) (T := zT_C) (N := 4) hx hb hts zi_C hown hK.1 hP 0 ga_0 rfl 0 (by decide) (hts _ zw_185) (fun _ h9 => h9) rfl zd_C_pace_1 ?_
  refine lv_iload_n hx hb zd_C_pace_4 rfl (lv_at hl 1 rfl) ?_
  refine z_goi (z_runVN (n := 1) (k := 1) (ci := 1) (As := [.int (iI (a))]) (rest := []) S (c_N_hasActor l D q c _ F A a (by first | assumption | omega | exact ⟨by omega, by omega⟩) (by first | assumption | omega | exact ⟨by omega, by omega⟩)) zw_214 zw_216 zs_2 zw_2 zw_217 ⟨by decide +kernel, by decide, rfl, rfl⟩ hK hP hD ga_1 rfl rfl rfl hl.1 rfl (Nat.le_of_ble_eq_true rfl) zd_C_pace_5 ⟨Nat.zero_le _, Nat.zero_le _⟩) hD hS hA (fun z_5 F_5 A_5 H locs hq_5 hP hD hS => ?_)
  obtain ⟨hf_5, ha_5, hq_5⟩ := hq_5
  rw [hf_5, ha_5] at hP hD
  have b5_ : z_5 = 0 ∨ z_5 = 1 := by rw [hq_5]; split <;> simp
  refine x_if_eq (tgt := 20) hx hb zd_C_pace_8 (by decide) (⟨by omega, by omega⟩) (fun h_8 => ?_) (fun h_8 => ?_)
  · exact absurd (hq_5.trans (if_pos ha)) (by omega)
  · refine lv_iload_n hx hb zd_C_pace_11 rfl (lv_at hl 2 rfl) ?_
    refine lv_iconst (v := iI (0)) hx hb zd_C_pace_12 rfl ?_
    refine lv_iconst (v := iI (1)) hx hb zd_C_pace_13 rfl ?_
    refine z_goi (z_runS (n := 3) (As := [.int (iI (w)), .int (iI (0)), .int (iI (1))]) (rest := []) S (c_C_isWithin l D q c _ F A w 0 1 (by first | assumption | omega | exact ⟨by omega, by omega⟩) (by first | assumption | omega | exact ⟨by omega, by omega⟩) (by first | assumption | omega | exact ⟨by omega, by omega⟩)) zw_202 zw_203 zw_1 zw_204 ⟨by decide +kernel, by decide, rfl, rfl⟩ rfl hK hP hD rfl hl.1 rfl (Nat.le_of_ble_eq_true rfl) zd_C_pace_14 ⟨Nat.zero_le _, Nat.zero_le _⟩) hD hS hA (fun z_14 F_14 A_14 H locs hq_14 hP hD hS => ?_)
    obtain ⟨hf_14, ha_14, hq_14⟩ := hq_14
    rw [hf_14, ha_14] at hP hD
    have b14_ : z_14 = 0 ∨ z_14 = 1 := by rw [hq_14]; split <;> simp
    refine x_if_ne (tgt := 30) hx hb zd_C_pace_17 (by decide) (⟨by omega, by omega⟩) (fun h_17 => ?_) (fun h_17 => ?_)
    · refine lv_aload_n hx hb zd_C_pace_30 rfl (lv_at hl 0 rfl) ?_
      refine z_goi (z_runV (n := 0) (k := 0) (ci := 0) (As := []) (rest := []) S (c_C_findRound l D q c _ F A (by first | assumption | omega | exact ⟨by omega, by omega⟩) (by first | assumption | omega | exact ⟨by omega, by omega⟩) (by first | assumption | omega | exact ⟨by omega, by omega⟩) (by first | assumption | omega | exact ⟨by omega, by omega⟩) (by first | assumption | omega | exact ⟨by omega, by omega⟩) (by first | assumption | omega | exact ⟨by omega, by omega⟩)) zw_258 zw_260 zs_7 zw_1 zw_261 ⟨by decide +kernel, by decide, rfl, rfl⟩ hK hP hD ga_0 rfl rfl rfl hl.1 rfl (Nat.le_of_ble_eq_true rfl) zd_C_pace_31 ⟨Nat.zero_le _, Nat.zero_le _⟩) hD hS hA (fun z_31 F_31 A_31 H locs hq_31 hP hD hS => ?_)
      obtain ⟨r1, r2, r3, r4, r5⟩ := hq_31
      refine x_if_eq (tgt := 62) hx hb zd_C_pace_34 (by decide) (⟨by omega, by omega⟩) (fun h_34 => ?_) (fun h_34 => ?_)
      · exact ret _ _ _ _ _ _ _ 121 _ _ _ _ th_ise th_s121 zd_C_pace_62 zd_C_pace_65 zd_C_pace_66 zd_C_pace_68 zd_C_pace_71 hP hD hS (by first | exact ⟨r3, fun h => absurd (r2.mpr h) (by omega), fun _ => r5 h_34⟩ | exact ⟨r3, fun _ => hr_, fun h => absurd (r2.mp (by omega)) h⟩) hl.1
      · have hr_ := r4 (by omega)
        have e6 := r3.2 6 (by decide) (by decide) (by decide) (by decide)
        have e7 := r3.2 7 (by decide) (by decide) (by decide) (by decide)
        have e8 := r3.2 8 (by decide) (by decide) (by decide) (by decide)
        have e9 := r3.2 9 (by decide) (by decide) (by decide) (by decide)
        have e10 := r3.2 10 (by decide) (by decide) (by decide) (by decide)
        have e11 := r3.2 11 (by decide) (by decide) (by decide) (by decide)
        have e12 := r3.2 12 (by decide) (by decide) (by decide) (by decide)
        have e13 := r3.2 13 (by decide) (by decide) (by decide) (by decide)
        have e100 := r3.1 100 (by decide) (by decide)
        have e101 := r3.1 101 (by decide) (by decide)
        obtain ⟨lb1_, lb2_⟩ := pc_lf hn hc hact hch r3.1 r3.2 hr_.2
        refine lv_aload_n hx hb zd_C_pace_37 rfl (lv_at hl 0 rfl) ?_
        refine va_get (D := D) (ci := 0) (v := .ref (q 2)) (C := zR_C) (T := zT_C) (N := 4) hx hb hts zi_C hown hK.1 hP 0 ga_0 rfl 1 (by decide) (hts _ zw_186) (fun _ h9 => h9) rfl zd_C_pace_38 ?_
        refine lv_aload_n hx hb zd_C_pace_41 rfl (lv_at hl 0 rfl) ?_
        refine va_get (D := D) (ci := 0) (v := .ref (q 1)) (C := zR_C) (T := zT_C) (N := 4) hx hb hts zi_C hown hK.1 hP 0 ga_0 rfl 0 (by decide) (hts _ zw_185) (fun _ h9 => h9) rfl zd_C_pace_42 ?_
        refine z_goi (z_runVN (n := 1) (k := 2) (ci := 2) (As := [.ref (q 1)]) (rest := []) S (c_U_isAlive l D q c _ F_31 A_31 (by (simp only [e6, e7, e8, e9, e10, e11, e12, e13, e100, e101]; assumption)) (by (simp only [e6, e7, e8, e9, e10, e11, e12, e13, e100, e101]; assumption)) (lb1_)) zw_452 zw_454 zs_21 zw_3 zw_455 ⟨by decide +kernel, by decide, rfl, rfl⟩ hK hP hD ga_2 rfl rfl rfl hl.1 rfl (Nat.le_of_ble_eq_true rfl) zd_C_pace_45 ⟨Nat.zero_le _, Nat.zero_le _⟩) hD hS hA (fun z_45 F_45 A_45 H locs hq_45 hP hD hS => ?_)
        obtain ⟨hf_45, ha_45, hq_45⟩ := hq_45
        rw [hf_45, ha_45] at hP hD
        obtain ⟨s1, s2⟩ := hq_45
        refine x_if_eq (tgt := 62) hx hb zd_C_pace_48 (by decide) (⟨by omega, by omega⟩) (fun h_48 => ?_) (fun h_48 => ?_)
        · exact ret _ _ _ _ _ _ _ 121 _ _ _ _ th_ise th_s121 zd_C_pace_62 zd_C_pace_65 zd_C_pace_66 zd_C_pace_68 zd_C_pace_71 hP hD hS (by first | exact ⟨r3, fun h => absurd (r2.mpr h) (by omega), fun _ => r5 h_34⟩ | exact ⟨r3, fun _ => hr_, fun h => absurd (r2.mp (by omega)) h⟩) hl.1
        · refine lv_aload_n hx hb zd_C_pace_51 rfl (lv_at hl 0 rfl) ?_
          refine va_get (D := D) (ci := 0) (v := .ref (q 1)) (C := zR_C) (T := zT_C) (N := 4) hx hb hts zi_C hown hK.1 hP 0 ga_0 rfl 0 (by decide) (hts _ zw_185) (fun _ h9 => h9) rfl zd_C_pace_52 ?_
          refine lv_iload_n hx hb zd_C_pace_55 rfl (lv_at hl 1 rfl) ?_
          refine z_goi (z_runVN (n := 1) (k := 1) (ci := 1) (As := [.int (iI (a))]) (rest := []) S (c_N_isClosed l D q c _ F_31 A_31 a (by (simp only [e6, e7, e8, e9, e10, e11, e12, e13, e100, e101]; assumption)) (by (simp only [e6, e7, e8, e9, e10, e11, e12, e13, e100, e101]; assumption)) (by (simp only [e6, e7, e8, e9, e10, e11, e12, e13, e100, e101]; assumption)) (by (simp only [e6, e7, e8, e9, e10, e11, e12, e13, e100, e101]; assumption)) (by (simp only [e6, e7, e8, e9, e10, e11, e12, e13, e100, e101]; assumption)) (by rw [e100]; exact ha)) zw_456 zw_458 zs_22 zw_2 zw_459 ⟨by decide +kernel, by decide, rfl, rfl⟩ hK hP hD ga_1 rfl rfl rfl hl.1 rfl (Nat.le_of_ble_eq_true rfl) zd_C_pace_56 ⟨Nat.zero_le _, Nat.zero_le _⟩) hD hS hA (fun z_56 F_56 A_56 H locs hq_56 hP hD hS => ?_)
          obtain ⟨hf_56, ha_56, hq_56⟩ := hq_56
          rw [hf_56, ha_56] at hP hD
          obtain ⟨t1, t2⟩ := hq_56
          refine x_if_ne (tgt := 72) hx hb zd_C_pace_59 (by decide) (⟨by omega, by omega⟩) (fun h_59 => ?_) (fun h_59 => ?_)
          · exact absurd ((pc_cl e100 e101 e8 e9 e10).mp (t2.mp (by omega))) (hno (r2.mp (by omega)) ((hall (r2.mp (by omega))).resolve_right (fun h => h _ _ r3.1 r3.2 hr_.2 (s2.mp (by omega)))))
          · exact ret _ _ _ _ _ _ _ 121 _ _ _ _ th_ise th_s121 zd_C_pace_62 zd_C_pace_65 zd_C_pace_66 zd_C_pace_68 zd_C_pace_71 hP hD hS (by first | exact ⟨r3, fun h => absurd (r2.mpr h) (by omega), fun _ => r5 h_34⟩ | exact ⟨r3, fun _ => hr_, fun h => absurd (r2.mp (by omega)) h⟩) hl.1
    · exact absurd (hq_14.trans (if_pos hw)) (by omega)

abbrev zr_C_pace_ae : Room := ({ frames := 6, cells := 1, slots := 6, locals := 101 } : Room)
set_option maxHeartbeats 4000000 in
set_option maxRecDepth 100000 in
theorem c_C_pace_ae (l : Launch) (hfl : l.stackTraces = false) (D : va_G) (q : Nat → Nat) (c : Nat → ClassId) (sz : Nat) (F : Nat → Int) (A : Nat → Int → Int) (a : Int) (w : Int) (ba : ib a) (bw : ib w) (hn : 1 ≤ F 100 ∧ F 100 ≤ 8) (hc : 0 ≤ F 101 ∧ F 101 ≤ 14) (hact : ∀ a, 0 ≤ a → a < 8 → (1 ≤ A 7 a ∧ A 7 a ≤ 4782969) ∧ 0 ≤ A 8 a ∧ A 8 a < 8) (hch : ∀ k, 0 ≤ k → k < F 101 → (0 ≤ A 9 k ∧ A 9 k < F 100) ∧ (0 ≤ A 10 k ∧ A 10 k < F 100) ∧ (1 ≤ A 11 k ∧ A 11 k ≤ 9) ∧ (1 ≤ A 12 k ∧ A 12 k ≤ 9) ∧ 0 ≤ A 13 k ∧ A 13 k ≤ 99) (hkn : (F 200 = 0 ∨ F 200 = 1) ∧ (F 200 = 1 → RdOK F A)) (hu : ib (F 102)) (hsame : ∀ k, 0 ≤ k → k < F 101 → A 8 (A 9 k) = A 8 (A 10 k)) (ha : 0 ≤ a ∧ a < F 100) (hw : 0 ≤ w ∧ w ≤ 1) (hpl : F 102 = -1 ∧ sI (A 7) (F 100) ≤ 400) (hal : ∀ F9 A9, (∀ j, j ≠ 200 → j ≠ 201 → F9 j = F j) → (∀ k, k ≠ 14 → k ≠ 15 → k ≠ 16 → k ≠ 17 → A9 k = A k) → RdOK F9 A9 → (∀ b, 0 ≤ b → b < F9 100 → A9 15 b = 0)) (hcl : ((∀ b, 0 ≤ b → b < F 100 → A 8 b = A 8 a → Rch (F 101) (A 9) (A 10) a b) ∧ ∀ b, 0 ≤ b → b < F 100 → A 8 b = A 8 a → Rch (F 101) (A 10) (A 9) a b)) (hgr : 40 < sI (fun b => if A 8 b = A 8 a then A 7 b else 0) (F 100)) : zMT l zy_C_pace zc_C_pace 3 (some .int) zr_C_pace_ae D q c sz [.ref (q 0), .int (iI (a)), .int (iI (w))] F A "java/lang/ArithmeticException" (fun F1 A1 => ((∀ j, j ≠ 200 → j ≠ 201 → F1 j = F j) ∧ (∀ k, k ≠ 14 → k ≠ 15 → k ≠ 16 → k ≠ 17 → A1 k = A k)) ∧ F1 200 = 1 ∧ RdOK F1 A1) := by
  refine z_ofT (by decide) (Nat.le_of_ble_eq_true rfl) (by decide) hfl ?_
  intro p e s m args below meth c0 A0 Q C0 ret hP hD hS ls hl
  obtain ⟨S, hK, hA⟩ := C0
  have hx := S.1
  have hb := S.2.1
  have hown := S.2.2.2.1
  have hts : ∀ w ∈ zG, w.before args s = true := fun w h => S.2.2.2.2 w (List.mem_cons_of_mem _ h)
  have hl : lv_has ls 3 [(0, .ref (q 0)), (1, .int (iI (a))), (2, .int (iI (w)))] := hl
  refine lv_aload_n hx hb zd_C_pace_0 rfl (lv_at hl 0 rfl) ?_
  refine va_get (D := D) (ci := 0) (v := .ref (q 1)) (C := zR_C) (T := zT_C) (N := 4) hx hb hts zi_C hown hK.1 hP 0 ga_0 rfl 0 (by decide) (hts _ zw_185) (fun _ h9 => h9) rfl zd_C_pace_1 ?_
  refine lv_iload_n hx hb zd_C_pace_4 rfl (lv_at hl 1 rfl) ?_
  refine z_goi (z_runVN (n := 1) (k := 1) (ci := 1) (As := [.int (iI (a))]) (rest := []) S (c_N_hasActor l D q c _ F A a (by first | assumption | omega | exact ⟨by omega, by omega⟩) (by first | assumption | omega | exact ⟨by omega, by omega⟩)) zw_214 zw_216 zs_2 zw_2 zw_217 ⟨by decide +kernel, by decide, rfl, rfl⟩ hK hP hD ga_1 rfl rfl rfl hl.1 rfl (Nat.le_of_ble_eq_true rfl) zd_C_pace_5 ⟨Nat.zero_le _, Nat.zero_le _⟩) hD hS hA (fun z_5 F_5 A_5 H locs hq_5 hP hD hS => ?_)
  obtain ⟨hf_5, ha_5, hq_5⟩ := hq_5
  rw [hf_5, ha_5] at hP hD
  have b5_ : z_5 = 0 ∨ z_5 = 1 := by rw [hq_5]; split <;> simp
  refine x_if_eq (tgt := 20) hx hb zd_C_pace_8 (by decide) (⟨by omega, by omega⟩) (fun h_8 => ?_) (fun h_8 => ?_)
  · exact absurd (hq_5.trans (if_pos ha)) (by omega)
  · refine lv_iload_n hx hb zd_C_pace_11 rfl (lv_at hl 2 rfl) ?_
    refine lv_iconst (v := iI (0)) hx hb zd_C_pace_12 rfl ?_
    refine lv_iconst (v := iI (1)) hx hb zd_C_pace_13 rfl ?_
    refine z_goi (z_runS (n := 3) (As := [.int (iI (w)), .int (iI (0)), .int (iI (1))]) (rest := []) S (c_C_isWithin l D q c _ F A w 0 1 (by first | assumption | omega | exact ⟨by omega, by omega⟩) (by first | assumption | omega | exact ⟨by omega, by omega⟩) (by first | assumption | omega | exact ⟨by omega, by omega⟩)) zw_202 zw_203 zw_1 zw_204 ⟨by decide +kernel, by decide, rfl, rfl⟩ rfl hK hP hD rfl hl.1 rfl (Nat.le_of_ble_eq_true rfl) zd_C_pace_14 ⟨Nat.zero_le _, Nat.zero_le _⟩) hD hS hA (fun z_14 F_14 A_14 H locs hq_14 hP hD hS => ?_)
    obtain ⟨hf_14, ha_14, hq_14⟩ := hq_14
    rw [hf_14, ha_14] at hP hD
    have b14_ : z_14 = 0 ∨ z_14 = 1 := by rw [hq_14]; split <;> simp
    refine x_if_ne (tgt := 30) hx hb zd_C_pace_17 (by decide) (⟨by omega, by omega⟩) (fun h_17 => ?_) (fun h_17 => ?_)
    · refine lv_aload_n hx hb zd_C_pace_30 rfl (lv_at hl 0 rfl) ?_
      refine z_goi (z_runV (n := 0) (k := 0) (ci := 0) (As := []) (rest := []) S (c_C_findRound l D q c _ F A (by first | assumption | omega | exact ⟨by omega, by omega⟩) (by first | assumption | omega | exact ⟨by omega, by omega⟩) (by first | assumption | omega | exact ⟨by omega, by omega⟩) (by first | assumption | omega | exact ⟨by omega, by omega⟩) (by first | assumption | omega | exact ⟨by omega, by omega⟩) (by first | assumption | omega | exact ⟨by omega, by omega⟩)) zw_258 zw_260 zs_7 zw_1 zw_261 ⟨by decide +kernel, by decide, rfl, rfl⟩ hK hP hD ga_0 rfl rfl rfl hl.1 rfl (Nat.le_of_ble_eq_true rfl) zd_C_pace_31 ⟨Nat.zero_le _, Nat.zero_le _⟩) hD hS hA (fun z_31 F_31 A_31 H locs hq_31 hP hD hS => ?_)
      obtain ⟨r1, r2, r3, r4, r5⟩ := hq_31
      refine x_if_eq (tgt := 62) hx hb zd_C_pace_34 (by decide) (⟨by omega, by omega⟩) (fun h_34 => ?_) (fun h_34 => ?_)
      · exact absurd (r2.mpr hpl) (by omega)
      · have hr_ := r4 (by omega)
        have e6 := r3.2 6 (by decide) (by decide) (by decide) (by decide)
        have e7 := r3.2 7 (by decide) (by decide) (by decide) (by decide)
        have e8 := r3.2 8 (by decide) (by decide) (by decide) (by decide)
        have e9 := r3.2 9 (by decide) (by decide) (by decide) (by decide)
        have e10 := r3.2 10 (by decide) (by decide) (by decide) (by decide)
        have e11 := r3.2 11 (by decide) (by decide) (by decide) (by decide)
        have e12 := r3.2 12 (by decide) (by decide) (by decide) (by decide)
        have e13 := r3.2 13 (by decide) (by decide) (by decide) (by decide)
        have e100 := r3.1 100 (by decide) (by decide)
        have e101 := r3.1 101 (by decide) (by decide)
        obtain ⟨lb1_, lb2_⟩ := pc_lf hn hc hact hch r3.1 r3.2 hr_.2
        refine lv_aload_n hx hb zd_C_pace_37 rfl (lv_at hl 0 rfl) ?_
        refine va_get (D := D) (ci := 0) (v := .ref (q 2)) (C := zR_C) (T := zT_C) (N := 4) hx hb hts zi_C hown hK.1 hP 0 ga_0 rfl 1 (by decide) (hts _ zw_186) (fun _ h9 => h9) rfl zd_C_pace_38 ?_
        refine lv_aload_n hx hb zd_C_pace_41 rfl (lv_at hl 0 rfl) ?_
        refine va_get (D := D) (ci := 0) (v := .ref (q 1)) (C := zR_C) (T := zT_C) (N := 4) hx hb hts zi_C hown hK.1 hP 0 ga_0 rfl 0 (by decide) (hts _ zw_185) (fun _ h9 => h9) rfl zd_C_pace_42 ?_
        refine z_goi (z_runVN (n := 1) (k := 2) (ci := 2) (As := [.ref (q 1)]) (rest := []) S (c_U_isAlive l D q c _ F_31 A_31 (by (simp only [e6, e7, e8, e9, e10, e11, e12, e13, e100, e101]; assumption)) (by (simp only [e6, e7, e8, e9, e10, e11, e12, e13, e100, e101]; assumption)) (lb1_)) zw_452 zw_454 zs_21 zw_3 zw_455 ⟨by decide +kernel, by decide, rfl, rfl⟩ hK hP hD ga_2 rfl rfl rfl hl.1 rfl (Nat.le_of_ble_eq_true rfl) zd_C_pace_45 ⟨Nat.zero_le _, Nat.zero_le _⟩) hD hS hA (fun z_45 F_45 A_45 H locs hq_45 hP hD hS => ?_)
        obtain ⟨hf_45, ha_45, hq_45⟩ := hq_45
        rw [hf_45, ha_45] at hP hD
        obtain ⟨s1, s2⟩ := hq_45
        refine x_if_eq (tgt := 62) hx hb zd_C_pace_48 (by decide) (⟨by omega, by omega⟩) (fun h_48 => ?_) (fun h_48 => ?_)
        · exact absurd (s2.mpr (hal _ _ r3.1 r3.2 hr_.2)) (by omega)
        · refine lv_aload_n hx hb zd_C_pace_51 rfl (lv_at hl 0 rfl) ?_
          refine va_get (D := D) (ci := 0) (v := .ref (q 1)) (C := zR_C) (T := zT_C) (N := 4) hx hb hts zi_C hown hK.1 hP 0 ga_0 rfl 0 (by decide) (hts _ zw_185) (fun _ h9 => h9) rfl zd_C_pace_52 ?_
          refine lv_iload_n hx hb zd_C_pace_55 rfl (lv_at hl 1 rfl) ?_
          refine z_goi (z_runVN (n := 1) (k := 1) (ci := 1) (As := [.int (iI (a))]) (rest := []) S (c_N_isClosed l D q c _ F_31 A_31 a (by (simp only [e6, e7, e8, e9, e10, e11, e12, e13, e100, e101]; assumption)) (by (simp only [e6, e7, e8, e9, e10, e11, e12, e13, e100, e101]; assumption)) (by (simp only [e6, e7, e8, e9, e10, e11, e12, e13, e100, e101]; assumption)) (by (simp only [e6, e7, e8, e9, e10, e11, e12, e13, e100, e101]; assumption)) (by (simp only [e6, e7, e8, e9, e10, e11, e12, e13, e100, e101]; assumption)) (by rw [e100]; exact ha)) zw_456 zw_458 zs_22 zw_2 zw_459 ⟨by decide +kernel, by decide, rfl, rfl⟩ hK hP hD ga_1 rfl rfl rfl hl.1 rfl (Nat.le_of_ble_eq_true rfl) zd_C_pace_56 ⟨Nat.zero_le _, Nat.zero_le _⟩) hD hS hA (fun z_56 F_56 A_56 H locs hq_56 hP hD hS => ?_)
          obtain ⟨hf_56, ha_56, hq_56⟩ := hq_56
          rw [hf_56, ha_56] at hP hD
          obtain ⟨t1, t2⟩ := hq_56
          refine x_if_ne (tgt := 72) hx hb zd_C_pace_59 (by decide) (⟨by omega, by omega⟩) (fun h_59 => ?_) (fun h_59 => ?_)
          · refine lv_aload_n hx hb zd_C_pace_72 rfl (lv_at hl 0 rfl) ?_
            refine va_get (D := D) (ci := 0) (v := .ref (q 1)) (C := zR_C) (T := zT_C) (N := 4) hx hb hts zi_C hown hK.1 hP 0 ga_0 rfl 0 (by decide) (hts _ zw_185) (fun _ h9 => h9) rfl zd_C_pace_73 ?_
            refine lv_iload_n hx hb zd_C_pace_76 rfl (lv_at hl 1 rfl) ?_
            refine z_goi (z_runVN (n := 1) (k := 1) (ci := 1) (As := [.int (iI (a))]) (rest := []) S (c_N_countsOfPart l D q c _ F_31 A_31 a (by (simp only [e6, e7, e8, e9, e10, e11, e12, e13, e100, e101]; assumption)) (by (simp only [e6, e7, e8, e9, e10, e11, e12, e13, e100, e101]; assumption)) (by (simp only [e6, e7, e8, e9, e10, e11, e12, e13, e100, e101]; assumption)) (by rw [e100]; exact ha)) zw_465 zw_467 zs_24 zw_2 zw_468 ⟨by decide +kernel, by decide, rfl, rfl⟩ hK hP hD ga_1 rfl rfl rfl hl.1 rfl (Nat.le_of_ble_eq_true rfl) zd_C_pace_77 ⟨Nat.zero_le _, Nat.zero_le _⟩) hD hS hA (fun z_77 F_77 A_77 H locs hq_77 hP hD hS => ?_)
            obtain ⟨hf_77, ha_77, hq_77⟩ := hq_77
            rw [hf_77, ha_77] at hP hD
            refine lv_bipush (v := iI (40)) hx hb zd_C_pace_80 (by decide) ?_
            have sm_ : z_77 = sI (fun b => if A 8 b = A 8 a then A 7 b else 0) (F 100) := by (rw [hq_77, e7, e8, e100])
            have sb_ := pc_sm (A := A) (a := a) hn hact
            refine x_icmp_le (tgt := 95) hx hb zd_C_pace_82 (by decide) (⟨by omega, by omega⟩) (⟨by omega, by omega⟩) (fun h_82 => ?_) (fun h_82 => ?_)
            · omega
            · exact ret _ _ _ _ _ _ _ 127 _ _ _ _ th_ae th_s127 zd_C_pace_85 zd_C_pace_88 zd_C_pace_89 zd_C_pace_91 zd_C_pace_94 hP hD hS (⟨r3, hr_⟩) hl.1
          · exact absurd (t2.mpr ((pc_cl e100 e101 e8 e9 e10).mpr hcl)) (by omega)
    · exact absurd (hq_14.trans (if_pos hw)) (by omega)
