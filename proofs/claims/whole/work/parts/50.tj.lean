/-! The graph of waits by what the arrays say below their ends -/
def agB (B B' : Nat → Int → Int) (n m : Int) : Prop := (∀ b, 0 ≤ b → b < n → B 6 b = B' 6 b ∧ B 7 b = B' 7 b ∧ B 8 b = B' 8 b) ∧ ∀ k, 0 ≤ k → k < m → B 9 k = B' 9 k ∧ B 10 k = B' 10 k ∧ B 11 k = B' 11 k ∧ B 12 k = B' 12 k ∧ B 13 k = B' 13 k ∧ (0 ≤ B 9 k ∧ B 9 k < n) ∧ (0 ≤ B 10 k ∧ B 10 k < n)
theorem agB.symm {B B' : Nat → Int → Int} {n m : Int} (h : agB B B' n m) : agB B' B n m := ⟨fun b b0 b1 => ⟨(h.1 b b0 b1).1.symm, (h.1 b b0 b1).2.1.symm, (h.1 b b0 b1).2.2.symm⟩, fun k k0 k1 => by
  obtain ⟨h1, h2, h3, h4, h5, h6, h7⟩ := h.2 k k0 k1
  exact ⟨h1.symm, h2.symm, h3.symm, h4.symm, h5.symm, by omega, by omega⟩⟩
theorem gS_ag {B B' : Nat → Int → Int} {n m root i : Int} (h : agB B B' n m) (hi : i ≤ n) : sI (gS B root) i = sI (gS B' root) i := sI_cong (fun b b0 b1 => by
  obtain ⟨-, h2, h3⟩ := h.1 b b0 (by omega)
  unfold gS
  rw [h2, h3])
theorem pG_ag1 {B B' : Nat → Int → Int} {n m root u v s w : Int} (h : agB B B' n m) (hf : pG B root n m u v s w) : pG B' root n m u v s w := by
  rcases hf with ⟨b, b0, b1, b2, b3, b4⟩ | ⟨k, k0, k1, k2, k3, j, j0, j1, k4, k5, k6⟩
  · obtain ⟨h1, h2, h3⟩ := h.1 b b0 b1
    refine Or.inl ⟨b, b0, b1, by rw [← h3]; exact b2, by rw [← h1]; exact b3, ?_⟩
    unfold fX at b4 ⊢
    rw [← h2, ← gS_ag h (Int.le_of_lt b1)]
    exact b4
  · obtain ⟨h1, h2, h3, h4, h5, h6, h7⟩ := h.2 k k0 k1
    obtain ⟨p1, p2, p3⟩ := h.1 _ h6.1 h6.2
    obtain ⟨r1, r2, r3⟩ := h.1 _ h7.1 h7.2
    have k2' : B 8 (B 9 k) = root := k2
    have k3' : s = B 6 (B 9 k) := k3
    have j1' : j < B 7 (B 10 k) := j1
    have k4' : u = sI (gS B root) (B 9 k) + wf B k j % B 7 (B 9 k) := k4
    have k5' : v = sI (gS B root) (B 10 k) + j := k5
    have k6' : w = -(wf B k j / B 7 (B 9 k)) := k6
    have e : wf B k j = wf B' k j := by unfold wf; rw [h3, h4, h5]
    refine Or.inr ⟨k, k0, k1, ?_, ?_, j, j0, ?_, ?_, ?_, ?_⟩
    · show B' 8 (B' 9 k) = root
      rw [← h1, ← p3]; exact k2'
    · show s = B' 6 (B' 9 k)
      rw [← h1, ← p1]; exact k3'
    · show j < B' 7 (B' 10 k)
      rw [← h2, ← r2]; exact j1'
    · show u = sI (gS B' root) (B' 9 k) + wf B' k j % B' 7 (B' 9 k)
      rw [← h1, ← p2, ← e, ← gS_ag h (Int.le_of_lt h6.2)]; exact k4'
    · show v = sI (gS B' root) (B' 10 k) + j
      rw [← h2, ← gS_ag h (Int.le_of_lt h7.2)]; exact k5'
    · show w = -(wf B' k j / B' 7 (B' 9 k))
      rw [← h1, ← p2, ← e]; exact k6'
theorem pG_ag {B B' : Nat → Int → Int} {n m root : Int} (h : agB B B' n m) : pG B root n m = pG B' root n m := by
  funext u v s w
  exact propext ⟨pG_ag1 h, pG_ag1 h.symm⟩
abbrev zr_C_pace : Room := ({ frames := 4, cells := 0, slots := 0, locals := 101 } : Room)
set_option maxHeartbeats 4000000 in
set_option maxRecDepth 100000 in
theorem c_C_pace (l : Launch) (D : va_G) (q : Nat → Nat) (c : Nat → ClassId) (sz : Nat) (F : Nat → Int) (A : Nat → Int → Int) (a : Int) (w : Int) (ba : ib a) (bw : ib w) (hn : 1 ≤ F 100 ∧ F 100 ≤ 8) (hc : 0 ≤ F 101 ∧ F 101 ≤ 14) (hact : ∀ a, 0 ≤ a → a < 8 → (1 ≤ A 7 a ∧ A 7 a ≤ 4782969) ∧ 0 ≤ A 8 a ∧ A 8 a < 8) (hch : ∀ k, 0 ≤ k → k < F 101 → (0 ≤ A 9 k ∧ A 9 k < F 100) ∧ (0 ≤ A 10 k ∧ A 10 k < F 100) ∧ (1 ≤ A 11 k ∧ A 11 k ≤ 9) ∧ (1 ≤ A 12 k ∧ A 12 k ≤ 9) ∧ 0 ≤ A 13 k ∧ A 13 k ≤ 99) (hkn : (F 200 = 0 ∨ F 200 = 1) ∧ (F 200 = 1 → RdOK F A)) (hu : ib (F 102)) (hsame : ∀ k, 0 ≤ k → k < F 101 → A 8 (A 9 k) = A 8 (A 10 k)) (ha : 0 ≤ a ∧ a < F 100) (hw : 0 ≤ w ∧ w ≤ 1) (hpl : F 102 = -1 ∧ sI (A 7) (F 100) ≤ 400) (hal : ∀ F9 A9, (∀ j, j ≠ 200 → j ≠ 201 → F9 j = F j) → (∀ k, k ≠ 14 → k ≠ 15 → k ≠ 16 → k ≠ 17 → A9 k = A k) → RdOK F9 A9 → (∀ b, 0 ≤ b → b < F9 100 → A9 15 b = 0)) (hcl : ((∀ b, 0 ≤ b → b < F 100 → A 8 b = A 8 a → Rch (F 101) (A 9) (A 10) a b) ∧ ∀ b, 0 ≤ b → b < F 100 → A 8 b = A 8 a → Rch (F 101) (A 10) (A 9) a b)) (hle : sI (fun b => if A 8 b = A 8 a then A 7 b else 0) (F 100) ≤ 40) (htm : ∀ a, 0 ≤ a → a < 8 → 1 ≤ A 6 a ∧ A 6 a ≤ 9) (bk : -1 ≤ F 300 ∧ F 300 < 8) (hpe : ∀ u v s w, (pG A (A 8 a) (F 100) (F 101)) u v s w → (0 ≤ u ∧ u < sI (gS A (A 8 a)) (F 100)) ∧ (0 ≤ v ∧ v < sI (gS A (A 8 a)) (F 100)) ∧ 0 ≤ w ∧ w ≤ 100) (hlp : ∀ T R, lpE (pG A (A 8 a) (F 100) (F 101)) T R → 1 ≤ R) (hkb : F 300 = A 8 a → bestR (pG A (A 8 a) (F 100) (F 101)) (F 301) (F 302)) : zMI l zy_C_pace zc_C_pace 3 (some .int) zr_C_pace D q c sz [.ref (q 0), .int (iI (a)), .int (iI (w))] F A (fun z F1 A1 => ∃ F9 A9, (∀ j, j ≠ 200 → j ≠ 201 → F9 j = F j) ∧ (∀ k, k ≠ 14 → k ≠ 15 → k ≠ 16 → k ≠ 17 → A9 k = A k) ∧ F9 200 = 1 ∧ RdOK F9 A9 ∧ (∀ j, j < 300 ∨ 304 < j → F1 j = F9 j) ∧ (∀ k, k < 18 ∨ 25 < k → A1 k = A9 k) ∧ F1 300 = A 8 a ∧ bestR (pG A (A 8 a) (F 100) (F 101)) (F1 301) (F1 302) ∧ (w = 0 → z = F1 301) ∧ (w = 1 → z = F1 302)) := by
  refine z_ofI (by decide) (Nat.le_of_ble_eq_true rfl) ?_
  intro p e s m args below meth c0 A0 Q C0 ret hP hD hS ls hl
  obtain ⟨S, hK, hA⟩ := C0
  have hx := S.1
  have hb := S.2.1
  have hown := S.2.2.2.1
  have hts : ∀ w ∈ zG, w.before args s = true := fun w h => S.2.2.2.2 w (List.mem_cons_of_mem _ h)
  have hl : lv_has ls 3 [(0, .ref (q 0)), (1, .int (iI (a))), (2, .int (iI (w)))] := hl
  refine lv_aload_n hx hb zd_C_pace_0 rfl (lv_at hl 0 rfl) ?_
  refine va_get (D := D) (ci := 0) (v := .ref (q 1)) (C := zR_C) (T := zT_C) (N := 4) hx hb hts zi_C hown hK.1 hP 0 ga_0 rfl 0 (by decide) (hts _ zw_185) (fun _ h9 => h9) rfl zd_C_pace_1 ?_
  refine lv_iload_n hx hb zd_C_pace_4 rfl (lv_at hl 1 rfl) ?_
  refine z_goi (z_runVN (n := 1) (k := 1) (ci := 1) (As := [.int (iI (a))]) (rest := []) S (c_N_hasActor l D q c _ F A a (by first | assumption | omega | exact ⟨by omega, by omega⟩) (by first | assumption | omega | exact ⟨by omega, by omega⟩)) zw_214 zw_216 zs_2 zw_2 zw_217 ⟨by decide +kernel, by decide, rfl, rfl⟩ hK hP hD ga_1 rfl rfl rfl hl.1 rfl (Nat.le_of_ble_eq_true rfl) zd_C_pace_5 ⟨Nat.zero_le _, Nat.zero_le _⟩) hD hS hA (fun z_5 F_5 A_5 H locs hq_5 hP hD hS => ?_)
  obtain ⟨hf_5, ha_5, hq_5⟩ := hq_5
  rw [hf_5, ha_5] at hP hD
  have b5_ : z_5 = 0 ∨ z_5 = 1 := by rw [hq_5]; split <;> simp
  refine x_if_eq (tgt := 20) hx hb zd_C_pace_8 (by decide) (⟨by omega, by omega⟩) (fun h_8 => ?_) (fun h_8 => ?_)
  · exact absurd (hq_5.trans (if_pos ha)) (by omega)
  · refine lv_iload_n hx hb zd_C_pace_11 rfl (lv_at hl 2 rfl) ?_
    refine lv_iconst (v := iI (0)) hx hb zd_C_pace_12 rfl ?_
    refine lv_iconst (v := iI (1)) hx hb zd_C_pace_13 rfl ?_
    refine z_goi (z_runS (n := 3) (As := [.int (iI (w)), .int (iI (0)), .int (iI (1))]) (rest := []) S (c_C_isWithin l D q c _ F A w 0 1 (by first | assumption | omega | exact ⟨by omega, by omega⟩) (by first | assumption | omega | exact ⟨by omega, by omega⟩) (by first | assumption | omega | exact ⟨by omega, by omega⟩)) zw_202 zw_203 zw_1 zw_204 ⟨by decide +kernel, by decide, rfl, rfl⟩ rfl hK hP hD rfl hl.1 rfl (Nat.le_of_ble_eq_true rfl) zd_C_pace_14 ⟨Nat.zero_le _, Nat.zero_le _⟩) hD hS hA (fun z_14 F_14 A_14 H locs hq_14 hP hD hS => ?_)
    obtain ⟨hf_14, ha_14, hq_14⟩ := hq_14
    rw [hf_14, ha_14] at hP hD
    have b14_ : z_14 = 0 ∨ z_14 = 1 := by rw [hq_14]; split <;> simp
    refine x_if_ne (tgt := 30) hx hb zd_C_pace_17 (by decide) (⟨by omega, by omega⟩) (fun h_17 => ?_) (fun h_17 => ?_)
    · refine lv_aload_n hx hb zd_C_pace_30 rfl (lv_at hl 0 rfl) ?_
      refine z_goi (z_runV (n := 0) (k := 0) (ci := 0) (As := []) (rest := []) S (c_C_findRound l D q c _ F A (by first | assumption | omega | exact ⟨by omega, by omega⟩) (by first | assumption | omega | exact ⟨by omega, by omega⟩) (by first | assumption | omega | exact ⟨by omega, by omega⟩) (by first | assumption | omega | exact ⟨by omega, by omega⟩) (by first | assumption | omega | exact ⟨by omega, by omega⟩) (by first | assumption | omega | exact ⟨by omega, by omega⟩)) zw_258 zw_260 zs_7 zw_1 zw_261 ⟨by decide +kernel, by decide, rfl, rfl⟩ hK hP hD ga_0 rfl rfl rfl hl.1 rfl (Nat.le_of_ble_eq_true rfl) zd_C_pace_31 ⟨Nat.zero_le _, Nat.zero_le _⟩) hD hS hA (fun z_31 F_31 A_31 H locs hq_31 hP hD hS => ?_)
      obtain ⟨r1, r2, r3, r4, r5⟩ := hq_31
      refine x_if_eq (tgt := 62) hx hb zd_C_pace_34 (by decide) (⟨by omega, by omega⟩) (fun h_34 => ?_) (fun h_34 => ?_)
      · exact absurd (r2.mpr hpl) (by omega)
      · have hr_ := r4 (by omega)
        have e6 := r3.2 6 (by decide) (by decide) (by decide) (by decide)
        have e7 := r3.2 7 (by decide) (by decide) (by decide) (by decide)
        have e8 := r3.2 8 (by decide) (by decide) (by decide) (by decide)
        have e9 := r3.2 9 (by decide) (by decide) (by decide) (by decide)
        have e10 := r3.2 10 (by decide) (by decide) (by decide) (by decide)
        have e11 := r3.2 11 (by decide) (by decide) (by decide) (by decide)
        have e12 := r3.2 12 (by decide) (by decide) (by decide) (by decide)
        have e13 := r3.2 13 (by decide) (by decide) (by decide) (by decide)
        have e100 := r3.1 100 (by decide) (by decide)
        have e101 := r3.1 101 (by decide) (by decide)
        obtain ⟨lb1_, lb2_⟩ := pc_lf hn hc hact hch r3.1 r3.2 hr_.2
        refine lv_aload_n hx hb zd_C_pace_37 rfl (lv_at hl 0 rfl) ?_
        refine va_get (D := D) (ci := 0) (v := .ref (q 2)) (C := zR_C) (T := zT_C) (N := 4) hx hb hts zi_C hown hK.1 hP 0 ga_0 rfl 1 (by decide) (hts _ zw_186) (fun _ h9 => h9) rfl zd_C_pace_38 ?_
        refine lv_aload_n hx hb zd_C_pace_41 rfl (lv_at hl 0 rfl) ?_
        refine va_get (D := D) (ci := 0) (v := .ref (q 1)) (C := zR_C) (T := zT_C) (N := 4) hx hb hts zi_C hown hK.1 hP 0 ga_0 rfl 0 (by decide) (hts _ zw_185) (fun _ h9 => h9) rfl zd_C_pace_42 ?_
        refine z_goi (z_runVN (n := 1) (k := 2) (ci := 2) (As := [.ref (q 1)]) (rest := []) S (c_U_isAlive l D q c _ F_31 A_31 (by (simp only [e6, e7, e8, e9, e10, e11, e12, e13, e100, e101]; assumption)) (by (simp only [e6, e7, e8, e9, e10, e11, e12, e13, e100, e101]; assumption)) (lb1_)) zw_452 zw_454 zs_21 zw_3 zw_455 ⟨by decide +kernel, by decide, rfl, rfl⟩ hK hP hD ga_2 rfl rfl rfl hl.1 rfl (Nat.le_of_ble_eq_true rfl) zd_C_pace_45 ⟨Nat.zero_le _, Nat.zero_le _⟩) hD hS hA (fun z_45 F_45 A_45 H locs hq_45 hP hD hS => ?_)
        obtain ⟨hf_45, ha_45, hq_45⟩ := hq_45
        rw [hf_45, ha_45] at hP hD
        obtain ⟨s1, s2⟩ := hq_45
        refine x_if_eq (tgt := 62) hx hb zd_C_pace_48 (by decide) (⟨by omega, by omega⟩) (fun h_48 => ?_) (fun h_48 => ?_)
        · exact absurd (s2.mpr (hal _ _ r3.1 r3.2 hr_.2)) (by omega)
        · refine lv_aload_n hx hb zd_C_pace_51 rfl (lv_at hl 0 rfl) ?_
          refine va_get (D := D) (ci := 0) (v := .ref (q 1)) (C := zR_C) (T := zT_C) (N := 4) hx hb hts zi_C hown hK.1 hP 0 ga_0 rfl 0 (by decide) (hts _ zw_185) (fun _ h9 => h9) rfl zd_C_pace_52 ?_
          refine lv_iload_n hx hb zd_C_pace_55 rfl (lv_at hl 1 rfl) ?_
          refine z_goi (z_runVN (n := 1) (k := 1) (ci := 1) (As := [.int (iI (a))]) (rest := []) S (c_N_isClosed l D q c _ F_31 A_31 a (by (simp only [e6, e7, e8, e9, e10, e11, e12, e13, e100, e101]; assumption)) (by (simp only [e6, e7, e8, e9, e10, e11, e12, e13, e100, e101]; assumption)) (by (simp only [e6, e7, e8, e9, e10, e11, e12, e13, e100, e101]; assumption)) (by (simp only [e6, e7, e8, e9, e10, e11, e12, e13, e100, e101]; assumption)) (by (simp only [e6, e7, e8, e9, e10, e11, e12, e13, e100, e101]; assumption)) (by rw [e100]; exact ha)) zw_456 zw_458 zs_22 zw_2 zw_459 ⟨by decide +kernel, by decide, rfl, rfl⟩ hK hP hD ga_1 rfl rfl rfl hl.1 rfl (Nat.le_of_ble_eq_true rfl) zd_C_pace_56 ⟨Nat.zero_le _, Nat.zero_le _⟩) hD hS hA (fun z_56 F_56 A_56 H locs hq_56 hP hD hS => ?_)
          obtain ⟨hf_56, ha_56, hq_56⟩ := hq_56
          rw [hf_56, ha_56] at hP hD
          obtain ⟨t1, t2⟩ := hq_56
          refine x_if_ne (tgt := 72) hx hb zd_C_pace_59 (by decide) (⟨by omega, by omega⟩) (fun h_59 => ?_) (fun h_59 => ?_)
          · refine lv_aload_n hx hb zd_C_pace_72 rfl (lv_at hl 0 rfl) ?_
            refine va_get (D := D) (ci := 0) (v := .ref (q 1)) (C := zR_C) (T := zT_C) (N := 4) hx hb hts zi_C hown hK.1 hP 0 ga_0 rfl 0 (by decide) (hts _ zw_185) (fun _ h9 => h9) rfl zd_C_pace_73 ?_
            refine lv_iload_n hx hb zd_C_pace_76 rfl (lv_at hl 1 rfl) ?_
            refine z_goi (z_runVN (n := 1) (k := 1) (ci := 1) (As := [.int (iI (a))]) (rest := []) S (c_N_countsOfPart l D q c _ F_31 A_31 a (by (simp only [e6, e7, e8, e9, e10, e11, e12, e13, e100, e101]; assumption)) (by (simp only [e6, e7, e8, e9, e10, e11, e12, e13, e100, e101]; assumption)) (by (simp only [e6, e7, e8, e9, e10, e11, e12, e13, e100, e101]; assumption)) (by rw [e100]; exact ha)) zw_465 zw_467 zs_24 zw_2 zw_468 ⟨by decide +kernel, by decide, rfl, rfl⟩ hK hP hD ga_1 rfl rfl rfl hl.1 rfl (Nat.le_of_ble_eq_true rfl) zd_C_pace_77 ⟨Nat.zero_le _, Nat.zero_le _⟩) hD hS hA (fun z_77 F_77 A_77 H locs hq_77 hP hD hS => ?_)
            obtain ⟨hf_77, ha_77, hq_77⟩ := hq_77
            rw [hf_77, ha_77] at hP hD
            refine lv_bipush (v := iI (40)) hx hb zd_C_pace_80 (by decide) ?_
            have sm_ : z_77 = sI (fun b => if A 8 b = A 8 a then A 7 b else 0) (F 100) := by (rw [hq_77, e7, e8, e100])
            have sb_ := pc_sm (A := A) (a := a) hn hact
            refine x_icmp_le (tgt := 95) hx hb zd_C_pace_82 (by decide) (⟨by omega, by omega⟩) (⟨by omega, by omega⟩) (fun h_82 => ?_) (fun h_82 => ?_)
            · have pa_ := hact a (by omega) (by omega)
              have f300 := r3.1 300 (by decide) (by decide)
              have f301 := r3.1 301 (by decide) (by decide)
              have f302 := r3.1 302 (by decide) (by decide)
              have pg_ : pG A_31 (A_31 8 a) (F_31 100) (F_31 101) = (pG A (A 8 a) (F 100) (F 101)) := by (rw [e8, e100, e101]; exact (pG_ag (n := F 100) (m := F 101) ⟨fun b b0 b1 => ⟨by rw [e6], by rw [e7], by rw [e8]⟩, fun k k0 k1 => ⟨by rw [e9], by rw [e10], by rw [e11], by rw [e12], by rw [e13], by rw [e9]; exact (hch k k0 k1).1, by rw [e10]; exact (hch k k0 k1).2.1⟩⟩))
              have gs_ : sI (gS A_31 (A_31 8 a)) (F_31 100) = sI (gS A (A 8 a)) (F 100) := by (have h9 : gS A_31 (A_31 8 a) = gS A (A 8 a) := (by funext b; unfold gS; rw [e7, e8]); rw [h9, e100])
              have gl_ : sI (gS A (A 8 a)) (F 100) ≤ 40 := hle
              refine lv_aload_n hx hb zd_C_pace_95 rfl (lv_at hl 0 rfl) ?_
              refine va_get (D := D) (ci := 0) (v := .ref (q 3)) (C := zR_C) (T := zT_C) (N := 4) hx hb hts zi_C hown hK.1 hP 0 ga_0 rfl 2 (by decide) (hts _ zw_187) (fun _ h9 => h9) rfl zd_C_pace_96 ?_
              refine lv_aload_n hx hb zd_C_pace_99 rfl (lv_at hl 0 rfl) ?_
              refine va_get (D := D) (ci := 0) (v := .ref (q 1)) (C := zR_C) (T := zT_C) (N := 4) hx hb hts zi_C hown hK.1 hP 0 ga_0 rfl 0 (by decide) (hts _ zw_185) (fun _ h9 => h9) rfl zd_C_pace_100 ?_
              refine lv_aload_n hx hb zd_C_pace_103 rfl (lv_at hl 0 rfl) ?_
              refine va_get (D := D) (ci := 0) (v := .ref (q 1)) (C := zR_C) (T := zT_C) (N := 4) hx hb hts zi_C hown hK.1 hP 0 ga_0 rfl 0 (by decide) (hts _ zw_185) (fun _ h9 => h9) rfl zd_C_pace_104 ?_
              refine va_getN (D := D) (ci := 1) (v := .ref (q 8)) (C := zR_N) (T := zT_N) (N := 11) hx hb hts zi_N hown hK.1 hP 1 ga_1 rfl 5 (by decide) (zNW.use hK.2 zw_53) (fun _ h9 => h9) rfl zd_C_pace_107 ?_
              refine lv_iload_n hx hb zd_C_pace_110 rfl (lv_at hl 1 rfl) ?_
              refine x_iald (v := A_31 8 a) hx hb hK.1 hP 8 0 ga_8 rfl (by decide) (by omega) (by omega) (rfl) zd_C_pace_111 ?_
              refine z_gov (z_runVN (n := 2) (k := 3) (ci := 3) (As := [.ref (q 1), .int (iI (A_31 8 a))]) (rest := []) S (c_P_find l D q c _ F_31 A_31 (A_31 8 a) (by (simp only [e6, e7, e8, e9, e10, e11, e12, e13, e100, e101]; assumption)) (by (simp only [e6, e7, e8, e9, e10, e11, e12, e13, e100, e101]; assumption)) (by (simp only [e6, e7, e8, e9, e10, e11, e12, e13, e100, e101]; assumption)) (by (simp only [e6, e7, e8, e9, e10, e11, e12, e13, e100, e101]; assumption)) (by (simp only [e6, e7, e8, e9, e10, e11, e12, e13, e100, e101]; assumption)) (by (simp only [e6, e7, e8, e9, e10, e11, e12, e13, e100, e101]; assumption)) (⟨a, ha.1, by rw [e100]; exact ha.2, rfl⟩) (by rw [e8]; exact pa_.2) (by rw [gs_]; exact gl_) (by rw [f300]; exact bk) (by rw [pg_, gs_]; exact hpe) (by rw [pg_]; exact hlp) (by rw [pg_, f300, f301, f302, e8]; exact hkb)) zw_470 zw_472 zs_25 zw_4 zw_473 ⟨by decide +kernel, by decide, rfl, rfl⟩ hK hP hD ga_3 rfl rfl rfl hl.1 rfl (Nat.le_of_ble_eq_true rfl) zd_C_pace_112 ⟨Nat.zero_le _, Nat.zero_le _⟩) hD hS hA (fun F_112 A_112 H locs hq_112 hP hD hS => ?_)
              obtain ⟨v1, v2, v3, v4⟩ := hq_112
              rw [pg_] at v2
              refine lv_iload_n hx hb zd_C_pace_115 rfl (lv_at hl 2 rfl) ?_
              refine x_if_ne (tgt := 129) hx hb zd_C_pace_116 (by decide) (⟨by omega, by omega⟩) (fun h_116 => ?_) (fun h_116 => ?_)
              · refine lv_aload_n hx hb zd_C_pace_129 rfl (lv_at hl 0 rfl) ?_
                refine va_get (D := D) (ci := 0) (v := .ref (q 3)) (C := zR_C) (T := zT_C) (N := 4) hx hb hts zi_C hown hK.1 hP 0 ga_0 rfl 2 (by decide) (hts _ zw_187) (fun _ h9 => h9) rfl zd_C_pace_130 ?_
                refine va_getN (D := D) (ci := 3) (v := .int (iI (F_112 302))) (C := zR_P) (T := zT_P) (N := 13) hx hb hts zi_P hown hK.1 hP 3 ga_3 rfl 2 (by decide) (zNW.use hK.2 zw_135) (fun _ h9 => h9) rfl zd_C_pace_133 ?_
                exact ret _ _ _ _ _ _ _ zd_C_pace_136 hP hD hS (⟨F_31, A_31, r3.1, r3.2, hr_.1, hr_.2, v3, v4, by rw [v1, e8], v2, fun h => by first | rfl | omega, fun h => by first | rfl | omega⟩)
              · refine lv_aload_n hx hb zd_C_pace_119 rfl (lv_at hl 0 rfl) ?_
                refine va_get (D := D) (ci := 0) (v := .ref (q 3)) (C := zR_C) (T := zT_C) (N := 4) hx hb hts zi_C hown hK.1 hP 0 ga_0 rfl 2 (by decide) (hts _ zw_187) (fun _ h9 => h9) rfl zd_C_pace_120 ?_
                refine va_getN (D := D) (ci := 3) (v := .int (iI (F_112 301))) (C := zR_P) (T := zT_P) (N := 13) hx hb hts zi_P hown hK.1 hP 3 ga_3 rfl 1 (by decide) (zNW.use hK.2 zw_133) (fun _ h9 => h9) rfl zd_C_pace_123 ?_
                refine lv_goto (tgt := 136) hx hb zd_C_pace_126 (by decide) ?_
                exact ret _ _ _ _ _ _ _ zd_C_pace_136 hP hD hS (⟨F_31, A_31, r3.1, r3.2, hr_.1, hr_.2, v3, v4, by rw [v1, e8], v2, fun h => by first | rfl | omega, fun h => by first | rfl | omega⟩)
            · omega
          · exact absurd (t2.mpr ((pc_cl e100 e101 e8 e9 e10).mpr hcl)) (by omega)
    · exact absurd (hq_14.trans (if_pos hw)) (by omega)
