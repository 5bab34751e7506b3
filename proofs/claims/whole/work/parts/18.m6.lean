theorem fr_end {F F1 : Nat → Int} {A A1 : Nat → Int → Int} (h1 : F 102 = -1) (h2 : sI (A 7) (F 100) ≤ 400) (h : (F1 = F ∧ A1 = A ∧ F 200 = 1 ∧ RdOK F A) ∨ (F1 200 = 1 ∧ (∀ j, j ≠ 200 → j ≠ 201 → F1 j = F j) ∧ (∀ k, k ≠ 14 → k ≠ 15 → k ≠ 16 → k ≠ 17 → A1 k = A k) ∧ RdOK F1 A1)) :
    ((1 : Int) = 0 ∨ (1 : Int) = 1) ∧ ((1 : Int) = 1 ↔ F 102 = -1 ∧ sI (A 7) (F 100) ≤ 400) ∧ ((∀ j, j ≠ 200 → j ≠ 201 → F1 j = F j) ∧ (∀ k, k ≠ 14 → k ≠ 15 → k ≠ 16 → k ≠ 17 → A1 k = A k)) ∧ ((1 : Int) = 1 → F1 200 = 1 ∧ RdOK F1 A1) ∧ ((1 : Int) = 0 → F1 = F ∧ A1 = A) := by
  refine ⟨Or.inr rfl, ⟨fun _ => ⟨h1, h2⟩, fun _ => rfl⟩, ?_, ?_, fun h => absurd h (by decide)⟩
  · rcases h with ⟨rfl, rfl, -⟩ | h
    · exact ⟨fun _ _ _ => rfl, fun _ _ _ _ _ => rfl⟩
    · exact ⟨h.2.1, h.2.2.1⟩
  · intro _
    rcases h with ⟨rfl, rfl, h3, h4⟩ | h
    · exact ⟨h3, h4⟩
    · exact ⟨h.1, h.2.2.2⟩
abbrev zr_C_forgetAnswers : Room := ({ frames := 0, cells := 0, slots := 0, locals := 0 } : Room)
set_option maxHeartbeats 4000000 in
set_option maxRecDepth 100000 in
theorem c_C_forgetAnswers (l : Launch) (D : va_G) (q : Nat → Nat) (c : Nat → ClassId) (sz : Nat) (F : Nat → Int) (A : Nat → Int → Int)   : zMV l zy_C_forgetAnswers zc_C_forgetAnswers 1 none zr_C_forgetAnswers D q c sz [.ref (q 0)] F A (fun F1 A1 => F1 = fuP (fuP F 200 0) 300 (-1) ∧ A1 = A) := by
  refine z_ofV (by decide) (Nat.le_of_ble_eq_true rfl) ?_
  intro p e s m args below meth c0 A0 Q C0 ret hP hD hS ls hl
  obtain ⟨S, hK, hA⟩ := C0
  have hx := S.1
  have hb := S.2.1
  have hown := S.2.2.2.1
  have hts : ∀ w ∈ zG, w.before args s = true := fun w h => S.2.2.2.2 w (List.mem_cons_of_mem _ h)
  have hl : lv_has ls 1 [(0, .ref (q 0))] := hl
  refine lv_aload_n hx hb zd_C_forgetAnswers_0 rfl (lv_at hl 0 rfl) ?_
  refine va_get (D := D) (ci := 0) (v := .ref (q 2)) (C := zR_C) (T := zT_C) (N := 4) hx hb hts zi_C hown hK.1 hP 0 ga_0 rfl 1 (by decide) (hts _ zw_186) (fun _ h9 => h9) rfl zd_C_forgetAnswers_1 ?_
  refine lv_iconst (v := iI (0)) hx hb zd_C_forgetAnswers_4 rfl ?_
  refine va_putN (D := D) (ci := 2) (v := .int (iI (0))) (ty := .boolean) (C := zR_U) (T := zT_U) (N := 6) hx hb hts zi_U zk_U zo_U zn_U hown hK.1 hP hD hS 2 ga_2 rfl 0 (by decide) (zNW.use hK.2 zw_101) (fun _ h9 => h9) rfl (by decide +kernel) (rfl) (rfl) (Nat.le_of_ble_eq_true rfl) zd_C_forgetAnswers_5 (fun H locs hP hD hS => ?_)
  rw [gs_2_0] at hP hD
  refine lv_aload_n hx hb zd_C_forgetAnswers_8 rfl (lv_at hl 0 rfl) ?_
  refine va_get (D := D) (ci := 0) (v := .ref (q 3)) (C := zR_C) (T := zT_C) (N := 4) hx hb hts zi_C hown hK.1 hP 0 ga_0 rfl 2 (by decide) (hts _ zw_187) (fun _ h9 => h9) rfl zd_C_forgetAnswers_9 ?_
  refine lv_iconst (v := iI (-1)) hx hb zd_C_forgetAnswers_12 rfl ?_
  refine va_putN (D := D) (ci := 3) (v := .int (iI (-1))) (ty := .int) (C := zR_P) (T := zT_P) (N := 13) hx hb hts zi_P zk_P zo_P zn_P hown hK.1 hP hD hS 3 ga_3 rfl 0 (by decide) (zNW.use hK.2 zw_131) (fun _ h9 => h9) rfl (by decide +kernel) (rfl) (rfl) (Nat.le_of_ble_eq_true rfl) zd_C_forgetAnswers_13 (fun H locs hP hD hS => ?_)
  rw [gs_3_0] at hP hD
  exact ret _ _ _ _ _ _ zd_C_forgetAnswers_16 hP hD hS (⟨rfl, rfl⟩)

abbrev zr_C_findRound : Room := ({ frames := 3, cells := 0, slots := 0, locals := 75 } : Room)
set_option maxHeartbeats 4000000 in
set_option maxRecDepth 100000 in
theorem c_C_findRound (l : Launch) (D : va_G) (q : Nat → Nat) (c : Nat → ClassId) (sz : Nat) (F : Nat → Int) (A : Nat → Int → Int)  (hn : 1 ≤ F 100 ∧ F 100 ≤ 8) (hc : 0 ≤ F 101 ∧ F 101 ≤ 14) (hact : ∀ a, 0 ≤ a → a < 8 → (1 ≤ A 7 a ∧ A 7 a ≤ 4782969) ∧ 0 ≤ A 8 a ∧ A 8 a < 8) (hch : ∀ k, 0 ≤ k → k < F 101 → (0 ≤ A 9 k ∧ A 9 k < F 100) ∧ (0 ≤ A 10 k ∧ A 10 k < F 100) ∧ (1 ≤ A 11 k ∧ A 11 k ≤ 9) ∧ (1 ≤ A 12 k ∧ A 12 k ≤ 9) ∧ 0 ≤ A 13 k ∧ A 13 k ≤ 99) (hkn : (F 200 = 0 ∨ F 200 = 1) ∧ (F 200 = 1 → RdOK F A)) (hu : ib (F 102)) : zMI l zy_C_findRound zc_C_findRound 1 (some .boolean) zr_C_findRound D q c sz [.ref (q 0)] F A (fun z F1 A1 => (z = 0 ∨ z = 1) ∧ (z = 1 ↔ F 102 = -1 ∧ sI (A 7) (F 100) ≤ 400) ∧ ((∀ j, j ≠ 200 → j ≠ 201 → F1 j = F j) ∧ (∀ k, k ≠ 14 → k ≠ 15 → k ≠ 16 → k ≠ 17 → A1 k = A k)) ∧ (z = 1 → F1 200 = 1 ∧ RdOK F1 A1) ∧ (z = 0 → F1 = F ∧ A1 = A)) := by
  refine z_ofB (by decide) (Nat.le_of_ble_eq_true rfl) ?_
  intro p e s m args below meth c0 A0 Q C0 ret hP hD hS ls hl
  obtain ⟨S, hK, hA⟩ := C0
  have hx := S.1
  have hb := S.2.1
  have hown := S.2.2.2.1
  have hts : ∀ w ∈ zG, w.before args s = true := fun w h => S.2.2.2.2 w (List.mem_cons_of_mem _ h)
  have hl : lv_has ls 1 [(0, .ref (q 0))] := hl
  refine lv_aload_n hx hb zd_C_findRound_0 rfl (lv_at hl 0 rfl) ?_
  refine va_get (D := D) (ci := 0) (v := .ref (q 1)) (C := zR_C) (T := zT_C) (N := 4) hx hb hts zi_C hown hK.1 hP 0 ga_0 rfl 0 (by decide) (hts _ zw_185) (fun _ h9 => h9) rfl zd_C_findRound_1 ?_
  refine z_goi (z_runVN (n := 0) (k := 1) (ci := 1) (As := []) (rest := []) S (c_N_isUneven l D q c _ F A (by first | assumption | omega | exact ⟨by omega, by omega⟩)) zw_262 zw_264 zs_8 zw_2 zw_265 ⟨by decide +kernel, by decide, rfl, rfl⟩ hK hP hD ga_1 rfl rfl rfl hl.1 rfl (Nat.le_of_ble_eq_true rfl) zd_C_findRound_4 ⟨Nat.zero_le _, Nat.zero_le _⟩) hD hS hA (fun z_4 F_4 A_4 H locs hq_4 hP hD hS => ?_)
  obtain ⟨hf_4, ha_4, hq_4⟩ := hq_4
  rw [hf_4, ha_4] at hP hD
  have h7_ : z_4 = 0 ∨ z_4 = 1 := by rw [hq_4]; split <;> simp
  refine x_if_ne (tgt := 20) hx hb zd_C_findRound_7 (by decide) (by omega) (fun h_7 => ?_) (fun h_7 => ?_)
  · refine lv_iconst (v := iI (0)) hx hb zd_C_findRound_20 rfl ?_
    exact ret _ _ _ _ _ _ _ zd_C_findRound_21 hP hD hS (by omega) (⟨by omega, ⟨fun h => by omega, fun h => by first | (rw [if_pos h.1] at hq_4; omega) | (rw [if_neg (by omega)] at hq_14; omega)⟩, ⟨fun _ _ _ => rfl, fun _ _ _ _ _ => rfl⟩, fun h => by omega, fun _ => ⟨rfl, rfl⟩⟩)
  · refine lv_aload_n hx hb zd_C_findRound_10 rfl (lv_at hl 0 rfl) ?_
    refine va_get (D := D) (ci := 0) (v := .ref (q 1)) (C := zR_C) (T := zT_C) (N := 4) hx hb hts zi_C hown hK.1 hP 0 ga_0 rfl 0 (by decide) (hts _ zw_185) (fun _ h9 => h9) rfl zd_C_findRound_11 ?_
    refine z_goi (z_runVN (n := 0) (k := 1) (ci := 1) (As := []) (rest := []) S (c_N_isGreat l D q c _ F A (by first | assumption | omega | exact ⟨by omega, by omega⟩) (fun a h0 h1 => (hact a h0 h1).1)) zw_266 zw_268 zs_9 zw_2 zw_269 ⟨by decide +kernel, by decide, rfl, rfl⟩ hK hP hD ga_1 rfl rfl rfl hl.1 rfl (Nat.le_of_ble_eq_true rfl) zd_C_findRound_14 ⟨Nat.zero_le _, Nat.zero_le _⟩) hD hS hA (fun z_14 F_14 A_14 H locs hq_14 hP hD hS => ?_)
    obtain ⟨hf_14, ha_14, hq_14⟩ := hq_14
    rw [hf_14, ha_14] at hP hD
    have h17_ : z_14 = 0 ∨ z_14 = 1 := by rw [hq_14]; split <;> simp
    refine x_if_eq (tgt := 22) hx hb zd_C_findRound_17 (by decide) (by omega) (fun h_17 => ?_) (fun h_17 => ?_)
    · refine lv_aload_n hx hb zd_C_findRound_22 rfl (lv_at hl 0 rfl) ?_
      refine va_get (D := D) (ci := 0) (v := .ref (q 2)) (C := zR_C) (T := zT_C) (N := 4) hx hb hts zi_C hown hK.1 hP 0 ga_0 rfl 1 (by decide) (hts _ zw_186) (fun _ h9 => h9) rfl zd_C_findRound_23 ?_
      refine va_getN (D := D) (ci := 2) (v := .int (iI (F 200))) (C := zR_U) (T := zT_U) (N := 6) hx hb hts zi_U hown hK.1 hP 2 ga_2 rfl 0 (by decide) (zNW.use hK.2 zw_101) (fun _ h9 => h9) rfl zd_C_findRound_26 ?_
      refine x_if_ne (tgt := 43) hx hb zd_C_findRound_29 (by decide) (by omega) (fun h_29 => ?_) (fun h_29 => ?_)
      · refine lv_iconst (v := iI (1)) hx hb zd_C_findRound_43 rfl ?_
        exact ret _ _ _ _ _ _ _ zd_C_findRound_44 hP hD hS (by omega) (fr_end (by rw [hq_4] at h_7; split at h_7 <;> omega) (by rw [hq_14] at h_17; split at h_17 <;> omega) (by first | exact Or.inl ⟨rfl, rfl, by omega, hkn.2 (by omega)⟩ | exact Or.inr hq_40))
      · refine lv_aload_n hx hb zd_C_findRound_32 rfl (lv_at hl 0 rfl) ?_
        refine va_get (D := D) (ci := 0) (v := .ref (q 2)) (C := zR_C) (T := zT_C) (N := 4) hx hb hts zi_C hown hK.1 hP 0 ga_0 rfl 1 (by decide) (hts _ zw_186) (fun _ h9 => h9) rfl zd_C_findRound_33 ?_
        refine lv_aload_n hx hb zd_C_findRound_36 rfl (lv_at hl 0 rfl) ?_
        refine va_get (D := D) (ci := 0) (v := .ref (q 1)) (C := zR_C) (T := zT_C) (N := 4) hx hb hts zi_C hown hK.1 hP 0 ga_0 rfl 0 (by decide) (hts _ zw_185) (fun _ h9 => h9) rfl zd_C_findRound_37 ?_
        refine z_gov (z_runVN (n := 1) (k := 2) (ci := 2) (As := [.ref (q 1)]) (rest := []) S (c_U_play l D q c _ F A (by first | assumption | omega | exact ⟨by omega, by omega⟩) (by first | assumption | omega | exact ⟨by omega, by omega⟩) (by first | assumption | omega | exact ⟨by omega, by omega⟩) (by first | assumption | omega | exact ⟨by omega, by omega⟩)) zw_270 zw_272 zs_10 zw_3 zw_273 ⟨by decide +kernel, by decide, rfl, rfl⟩ hK hP hD ga_2 rfl rfl rfl hl.1 rfl (Nat.le_of_ble_eq_true rfl) zd_C_findRound_40 ⟨Nat.zero_le _, Nat.zero_le _⟩) hD hS hA (fun F_40 A_40 H locs hq_40 hP hD hS => ?_)
        refine lv_iconst (v := iI (1)) hx hb zd_C_findRound_43 rfl ?_
        exact ret _ _ _ _ _ _ _ zd_C_findRound_44 hP hD hS (by omega) (fr_end (by rw [hq_4] at h_7; split at h_7 <;> omega) (by rw [hq_14] at h_17; split at h_17 <;> omega) (by first | exact Or.inl ⟨rfl, rfl, by omega, hkn.2 (by omega)⟩ | exact Or.inr hq_40))
    · refine lv_iconst (v := iI (0)) hx hb zd_C_findRound_20 rfl ?_
      exact ret _ _ _ _ _ _ _ zd_C_findRound_21 hP hD hS (by omega) (⟨by omega, ⟨fun h => by omega, fun h => by first | (rw [if_pos h.1] at hq_4; omega) | (rw [if_neg (by omega)] at hq_14; omega)⟩, ⟨fun _ _ _ => rfl, fun _ _ _ _ _ => rfl⟩, fun h => by omega, fun _ => ⟨rfl, rfl⟩⟩)
