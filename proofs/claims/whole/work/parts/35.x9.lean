theorem KM_b {F : Nat → Int} {A : Nat → Int → Int} (h : KM F A) (hn : 1 ≤ F 501 ∧ F 501 ≤ 8) (hm : 0 ≤ F 502 ∧ F 502 ≤ 14) : (-1 ≤ F 510 ∧ F 510 ≤ 14) ∧ (F 511 = 0 ∨ F 511 = 1) ∧ (0 ≤ F 520 ∧ F 520 ≤ 400) ∧ (0 ≤ F 512 ∧ F 512 ≤ 8) ∧ (F 510 = -1 ∧ F 511 = 0 → RmOK F A) := by
  obtain ⟨h1, h2, h3, h4, h5⟩ := h
  have hp : 0 ≤ F 512 ∧ F 512 ≤ 8 := by
    have := sI_nn (f := fun a => if A 41 a = a then (1 : Int) else 0) (n := F 501) (B := 1) (by omega) (fun a _ _ => by split <;> omega)
    rw [h3]; omega
  have hu : -1 ≤ F 510 ∧ F 510 ≤ 14 := by rcases h1 with h | h <;> omega
  by_cases e : F 510 = -1
  · obtain ⟨a, b, c⟩ := h5 e
    refine ⟨hu, a.1, ?_, hp, fun z => b z.2⟩
    rcases a.1 with q | q
    · exact (b q).1
    · rw [c q]; omega
  · obtain ⟨a, b⟩ := h4 e
    exact ⟨hu, Or.inl b, by rw [a]; omega, hp, fun z => absurd z.1 e⟩
abbrev zr_X_isPlain : Room := ({ frames := 5, cells := 0, slots := 0, locals := 124 } : Room)
set_option maxHeartbeats 4000000 in
set_option maxRecDepth 100000 in
theorem c_X_isPlain (l : Launch) (D : va_G) (q : Nat → Nat) (c : Nat → ClassId) (sz : Nat) (F : Nat → Int) (A : Nat → Int → Int)  (hmn : 1 ≤ F 501 ∧ F 501 ≤ 8) (hmm : 0 ≤ F 502 ∧ F 502 ≤ 14) (hmch : ∀ k, 0 ≤ k → k < F 502 → (0 ≤ A 36 k ∧ A 36 k < F 501) ∧ (0 ≤ A 37 k ∧ A 37 k < F 501) ∧ (1 ≤ A 38 k ∧ A 38 k ≤ 9) ∧ (1 ≤ A 39 k ∧ A 39 k ≤ 9) ∧ 0 ≤ A 40 k ∧ A 40 k ≤ 99) (hmk : (F 509 = 0 ∨ F 509 = 1) ∧ (F 509 = 1 → KM F A)) : zMI l zy_X_isPlain zc_X_isPlain 1 (some .boolean) zr_X_isPlain D q c sz [.ref (q 5)] F A (fun z F1 A1 => (F1 509 = 1 ∧ (∀ j, j ≠ 509 → j ≠ 510 → j ≠ 511 → j ≠ 512 → j ≠ 520 → F1 j = F j) ∧ (∀ k, k ≠ 41 → k ≠ 42 → k ≠ 43 → k ≠ 44 → k ≠ 45 → k ≠ 46 → k ≠ 47 → k ≠ 48 → A1 k = A k) ∧ KM F1 A1) ∧ z = (if F1 510 = -1 ∧ F1 511 = 0 then 1 else 0)) := by
  refine z_ofB (by decide) (Nat.le_of_ble_eq_true rfl) ?_
  intro p e s m args below meth c0 A0 Q C0 ret hP hD hS ls hl
  obtain ⟨S, hK, hA⟩ := C0
  have hx := S.1
  have hb := S.2.1
  have hown := S.2.2.2.1
  have hts : ∀ w ∈ zG, w.before args s = true := fun w h => S.2.2.2.2 w (List.mem_cons_of_mem _ h)
  have hl : lv_has ls 1 [(0, .ref (q 5))] := hl
  refine lv_aload_n hx hb zd_X_isPlain_0 rfl (lv_at hl 0 rfl) ?_
  refine z_gov (z_runV (n := 0) (k := 5) (ci := 5) (As := []) (rest := []) S (c_X_know l D q c _ F A (by first | assumption | omega | exact ⟨by omega, by omega⟩) (by first | assumption | omega | exact ⟨by omega, by omega⟩) (by first | assumption | omega | exact ⟨by omega, by omega⟩) (by first | assumption | omega | exact ⟨by omega, by omega⟩)) zw_661 zw_663 zs_37 zw_6 zw_664 ⟨by decide +kernel, by decide, rfl, rfl⟩ hK hP hD ga_5 rfl rfl rfl hl.1 rfl (Nat.le_of_ble_eq_true rfl) zd_X_isPlain_1 ⟨Nat.zero_le _, Nat.zero_le _⟩) hD hS hA (fun F_1 A_1 H locs hq_1 hP hD hS => ?_)
  have hb_ := KM_b hq_1.2.2.2 (by rw [hq_1.2.1 501 (by decide) (by decide) (by decide) (by decide) (by decide)]; exact hmn) (by rw [hq_1.2.1 502 (by decide) (by decide) (by decide) (by decide) (by decide)]; exact hmm)
  refine lv_aload_n hx hb zd_X_isPlain_4 rfl (lv_at hl 0 rfl) ?_
  refine va_get (D := D) (ci := 5) (v := .int (iI (F_1 510))) (C := zR_X) (T := zT_X) (N := 34) hx hb hts zi_X hown hK.1 hP 5 ga_5 rfl 10 (by decide) (hts _ zw_543) (fun _ h9 => h9) rfl zd_X_isPlain_5 ?_
  refine lv_iconst (v := iI (-1)) hx hb zd_X_isPlain_8 rfl ?_
  refine x_icmp_ne (tgt := 23) hx hb zd_X_isPlain_9 (by decide) (⟨by omega, by omega⟩) (⟨by omega, by omega⟩) (fun h_9 => ?_) (fun h_9 => ?_)
  · refine lv_iconst (v := iI (0)) hx hb zd_X_isPlain_23 rfl ?_
    exact ret _ _ _ _ _ _ _ zd_X_isPlain_24 hP hD hS (by omega) (⟨hq_1, by split <;> omega⟩)
  · refine lv_aload_n hx hb zd_X_isPlain_12 rfl (lv_at hl 0 rfl) ?_
    refine va_get (D := D) (ci := 5) (v := .int (iI (F_1 511))) (C := zR_X) (T := zT_X) (N := 34) hx hb hts zi_X hown hK.1 hP 5 ga_5 rfl 11 (by decide) (hts _ zw_544) (fun _ h9 => h9) rfl zd_X_isPlain_13 ?_
    refine x_if_ne (tgt := 23) hx hb zd_X_isPlain_16 (by decide) (⟨by omega, by omega⟩) (fun h_16 => ?_) (fun h_16 => ?_)
    · refine lv_iconst (v := iI (0)) hx hb zd_X_isPlain_23 rfl ?_
      exact ret _ _ _ _ _ _ _ zd_X_isPlain_24 hP hD hS (by omega) (⟨hq_1, by split <;> omega⟩)
    · refine lv_iconst (v := iI (1)) hx hb zd_X_isPlain_19 rfl ?_
      refine lv_goto (tgt := 24) hx hb zd_X_isPlain_20 (by decide) ?_
      exact ret _ _ _ _ _ _ _ zd_X_isPlain_24 hP hD hS (by omega) (⟨hq_1, by split <;> omega⟩)

abbrev zr_X_uneven : Room := ({ frames := 5, cells := 0, slots := 0, locals := 124 } : Room)
set_option maxHeartbeats 4000000 in
set_option maxRecDepth 100000 in
theorem c_X_uneven (l : Launch) (D : va_G) (q : Nat → Nat) (c : Nat → ClassId) (sz : Nat) (F : Nat → Int) (A : Nat → Int → Int)  (hmn : 1 ≤ F 501 ∧ F 501 ≤ 8) (hmm : 0 ≤ F 502 ∧ F 502 ≤ 14) (hmch : ∀ k, 0 ≤ k → k < F 502 → (0 ≤ A 36 k ∧ A 36 k < F 501) ∧ (0 ≤ A 37 k ∧ A 37 k < F 501) ∧ (1 ≤ A 38 k ∧ A 38 k ≤ 9) ∧ (1 ≤ A 39 k ∧ A 39 k ≤ 9) ∧ 0 ≤ A 40 k ∧ A 40 k ≤ 99) (hmk : (F 509 = 0 ∨ F 509 = 1) ∧ (F 509 = 1 → KM F A)) : zMI l zy_X_uneven zc_X_uneven 1 (some .int) zr_X_uneven D q c sz [.ref (q 5)] F A (fun z F1 A1 => F1 500 = 0 ∧ F1 509 = 1 ∧ ((∀ j, j ≠ 500 → j ≠ 509 → j ≠ 510 → j ≠ 511 → j ≠ 512 → j ≠ 520 → F1 j = F j) ∧ (∀ k, k ≠ 41 → k ≠ 42 → k ≠ 43 → k ≠ 44 → k ≠ 45 → k ≠ 46 → k ≠ 47 → k ≠ 48 → A1 k = A k)) ∧ KM F1 A1 ∧ z = F1 510) := by
  refine z_ofI (by decide) (Nat.le_of_ble_eq_true rfl) ?_
  intro p e s m args below meth c0 A0 Q C0 ret hP hD hS ls hl
  obtain ⟨S, hK, hA⟩ := C0
  have hx := S.1
  have hb := S.2.1
  have hown := S.2.2.2.1
  have hts : ∀ w ∈ zG, w.before args s = true := fun w h => S.2.2.2.2 w (List.mem_cons_of_mem _ h)
  have hl : lv_has ls 1 [(0, .ref (q 5))] := hl
  refine lv_aload_n hx hb zd_X_uneven_0 rfl (lv_at hl 0 rfl) ?_
  refine lv_iconst (v := iI (0)) hx hb zd_X_uneven_1 rfl ?_
  refine va_put (D := D) (ci := 5) (v := .int (iI (0))) (ty := .int) (C := zR_X) (T := zT_X) (N := 34) hx hb hts zi_X zk_X zo_X zn_X hown hK.1 hP hD hS 5 ga_5 rfl 0 (by decide) (hts _ zw_533) (fun _ h9 => h9) rfl (by decide +kernel) (rfl) (rfl) (Nat.le_of_ble_eq_true rfl) zd_X_uneven_2 (fun H locs hP hD hS => ?_)
  rw [gs_5_0] at hP hD
  refine lv_aload_n hx hb zd_X_uneven_5 rfl (lv_at hl 0 rfl) ?_
  refine z_gov (z_runV (n := 0) (k := 5) (ci := 5) (As := []) (rest := []) S (c_X_know l D q c _ (fuP F 500 0) A (hmn) (hmm) (hmch) (hmk)) zw_661 zw_663 zs_37 zw_6 zw_664 ⟨by decide +kernel, by decide, rfl, rfl⟩ hK hP hD ga_5 rfl rfl rfl hl.1 rfl (Nat.le_of_ble_eq_true rfl) zd_X_uneven_6 ⟨Nat.zero_le _, Nat.zero_le _⟩) hD hS hA (fun F_6 A_6 H locs hq_6 hP hD hS => ?_)
  obtain ⟨k1, k2, k3, k4⟩ := hq_6
  have f501 : F_6 501 = F 501 := k2 501 (by decide) (by decide) (by decide) (by decide) (by decide)
  have f502 : F_6 502 = F 502 := k2 502 (by decide) (by decide) (by decide) (by decide) (by decide)
  have hb_ := KM_b k4 (by rw [f501]; exact hmn) (by rw [f502]; exact hmm)
  refine lv_aload_n hx hb zd_X_uneven_9 rfl (lv_at hl 0 rfl) ?_
  refine va_get (D := D) (ci := 5) (v := .int (iI (F_6 510))) (C := zR_X) (T := zT_X) (N := 34) hx hb hts zi_X hown hK.1 hP 5 ga_5 rfl 10 (by decide) (hts _ zw_543) (fun _ h9 => h9) rfl zd_X_uneven_10 ?_
  exact ret _ _ _ _ _ _ _ zd_X_uneven_13 hP hD hS (⟨(k2 500 (by decide) (by decide) (by decide) (by decide) (by decide)), k1, ⟨fun j h0 h1 h2 h3 h4 h5 => (k2 j h1 h2 h3 h4 h5).trans (by simp [fuP, h0]), k3⟩, k4, rfl⟩)

abbrev zr_X_total : Room := ({ frames := 5, cells := 0, slots := 0, locals := 124 } : Room)
set_option maxHeartbeats 4000000 in
set_option maxRecDepth 100000 in
theorem c_X_total (l : Launch) (D : va_G) (q : Nat → Nat) (c : Nat → ClassId) (sz : Nat) (F : Nat → Int) (A : Nat → Int → Int) (w : Int) (bw : ib w) (hmn : 1 ≤ F 501 ∧ F 501 ≤ 8) (hmm : 0 ≤ F 502 ∧ F 502 ≤ 14) (hmch : ∀ k, 0 ≤ k → k < F 502 → (0 ≤ A 36 k ∧ A 36 k < F 501) ∧ (0 ≤ A 37 k ∧ A 37 k < F 501) ∧ (1 ≤ A 38 k ∧ A 38 k ≤ 9) ∧ (1 ≤ A 39 k ∧ A 39 k ≤ 9) ∧ 0 ≤ A 40 k ∧ A 40 k ≤ 99) (hmk : (F 509 = 0 ∨ F 509 = 1) ∧ (F 509 = 1 → KM F A)) : zMI l zy_X_total zc_X_total 2 (some .int) zr_X_total D q c sz [.ref (q 5), .int (iI (w))] F A (fun z F1 A1 => F1 500 = 0 ∧ F1 509 = 1 ∧ ((∀ j, j ≠ 500 → j ≠ 509 → j ≠ 510 → j ≠ 511 → j ≠ 512 → j ≠ 520 → F1 j = F j) ∧ (∀ k, k ≠ 41 → k ≠ 42 → k ≠ 43 → k ≠ 44 → k ≠ 45 → k ≠ 46 → k ≠ 47 → k ≠ 48 → A1 k = A k)) ∧ KM F1 A1 ∧ (w = 0 → z = F 501) ∧ (w = 1 → z = F 502) ∧ (w = 2 → z = F1 512) ∧ (w = 3 → z = F1 520) ∧ (w < 0 ∨ 3 < w → z = -1)) := by
  refine z_ofI (by decide) (Nat.le_of_ble_eq_true rfl) ?_
  intro p e s m args below meth c0 A0 Q C0 ret hP hD hS ls hl
  obtain ⟨S, hK, hA⟩ := C0
  have hx := S.1
  have hb := S.2.1
  have hown := S.2.2.2.1
  have hts : ∀ w ∈ zG, w.before args s = true := fun w h => S.2.2.2.2 w (List.mem_cons_of_mem _ h)
  have hl : lv_has ls 2 [(0, .ref (q 5)), (1, .int (iI (w)))] := hl
  refine lv_aload_n hx hb zd_X_total_0 rfl (lv_at hl 0 rfl) ?_
  refine lv_iconst (v := iI (0)) hx hb zd_X_total_1 rfl ?_
  refine va_put (D := D) (ci := 5) (v := .int (iI (0))) (ty := .int) (C := zR_X) (T := zT_X) (N := 34) hx hb hts zi_X zk_X zo_X zn_X hown hK.1 hP hD hS 5 ga_5 rfl 0 (by decide) (hts _ zw_533) (fun _ h9 => h9) rfl (by decide +kernel) (rfl) (rfl) (Nat.le_of_ble_eq_true rfl) zd_X_total_2 (fun H locs hP hD hS => ?_)
  rw [gs_5_0] at hP hD
  refine lv_aload_n hx hb zd_X_total_5 rfl (lv_at hl 0 rfl) ?_
  refine z_gov (z_runV (n := 0) (k := 5) (ci := 5) (As := []) (rest := []) S (c_X_know l D q c _ (fuP F 500 0) A (hmn) (hmm) (hmch) (hmk)) zw_661 zw_663 zs_37 zw_6 zw_664 ⟨by decide +kernel, by decide, rfl, rfl⟩ hK hP hD ga_5 rfl rfl rfl hl.1 rfl (Nat.le_of_ble_eq_true rfl) zd_X_total_6 ⟨Nat.zero_le _, Nat.zero_le _⟩) hD hS hA (fun F_6 A_6 H locs hq_6 hP hD hS => ?_)
  obtain ⟨k1, k2, k3, k4⟩ := hq_6
  have f501 : F_6 501 = F 501 := k2 501 (by decide) (by decide) (by decide) (by decide) (by decide)
  have f502 : F_6 502 = F 502 := k2 502 (by decide) (by decide) (by decide) (by decide) (by decide)
  have hb_ := KM_b k4 (by rw [f501]; exact hmn) (by rw [f502]; exact hmm)
  refine lv_iload_n hx hb zd_X_total_9 rfl (lv_at hl 1 rfl) ?_
  refine x_if_ne (tgt := 20) hx hb zd_X_total_10 (by decide) (⟨by omega, by omega⟩) (fun h_10 => ?_) (fun h_10 => ?_)
  · refine lv_iload_n hx hb zd_X_total_20 rfl (lv_at hl 1 rfl) ?_
    refine lv_iconst (v := iI (1)) hx hb zd_X_total_21 rfl ?_
    refine x_icmp_ne (tgt := 32) hx hb zd_X_total_22 (by decide) (⟨by omega, by omega⟩) (⟨by omega, by omega⟩) (fun h_22 => ?_) (fun h_22 => ?_)
    · refine lv_iload_n hx hb zd_X_total_32 rfl (lv_at hl 1 rfl) ?_
      refine lv_iconst (v := iI (2)) hx hb zd_X_total_33 rfl ?_
      refine x_icmp_ne (tgt := 44) hx hb zd_X_total_34 (by decide) (⟨by omega, by omega⟩) (⟨by omega, by omega⟩) (fun h_34 => ?_) (fun h_34 => ?_)
      · refine lv_iload_n hx hb zd_X_total_44 rfl (lv_at hl 1 rfl) ?_
        refine lv_iconst (v := iI (3)) hx hb zd_X_total_45 rfl ?_
        refine x_icmp_ne (tgt := 56) hx hb zd_X_total_46 (by decide) (⟨by omega, by omega⟩) (⟨by omega, by omega⟩) (fun h_46 => ?_) (fun h_46 => ?_)
        · refine lv_iconst (v := iI (-1)) hx hb zd_X_total_56 rfl ?_
          exact ret _ _ _ _ _ _ _ zd_X_total_57 hP hD hS (⟨(k2 500 (by decide) (by decide) (by decide) (by decide) (by decide)), k1, ⟨fun j h0 h1 h2 h3 h4 h5 => (k2 j h1 h2 h3 h4 h5).trans (by simp [fuP, h0]), k3⟩, k4, by omega, by omega, by omega, by omega, by omega⟩)
        · refine lv_aload_n hx hb zd_X_total_49 rfl (lv_at hl 0 rfl) ?_
          refine va_get (D := D) (ci := 5) (v := .int (iI (F_6 520))) (C := zR_X) (T := zT_X) (N := 34) hx hb hts zi_X hown hK.1 hP 5 ga_5 rfl 20 (by decide) (hts _ zw_553) (fun _ h9 => h9) rfl zd_X_total_50 ?_
          refine lv_goto (tgt := 57) hx hb zd_X_total_53 (by decide) ?_
          exact ret _ _ _ _ _ _ _ zd_X_total_57 hP hD hS (⟨(k2 500 (by decide) (by decide) (by decide) (by decide) (by decide)), k1, ⟨fun j h0 h1 h2 h3 h4 h5 => (k2 j h1 h2 h3 h4 h5).trans (by simp [fuP, h0]), k3⟩, k4, by omega, by omega, by omega, by omega, by omega⟩)
      · refine lv_aload_n hx hb zd_X_total_37 rfl (lv_at hl 0 rfl) ?_
        refine va_get (D := D) (ci := 5) (v := .int (iI (F_6 512))) (C := zR_X) (T := zT_X) (N := 34) hx hb hts zi_X hown hK.1 hP 5 ga_5 rfl 12 (by decide) (hts _ zw_545) (fun _ h9 => h9) rfl zd_X_total_38 ?_
        refine lv_goto (tgt := 57) hx hb zd_X_total_41 (by decide) ?_
        exact ret _ _ _ _ _ _ _ zd_X_total_57 hP hD hS (⟨(k2 500 (by decide) (by decide) (by decide) (by decide) (by decide)), k1, ⟨fun j h0 h1 h2 h3 h4 h5 => (k2 j h1 h2 h3 h4 h5).trans (by simp [fuP, h0]), k3⟩, k4, by omega, by omega, by omega, by omega, by omega⟩)
    · refine lv_aload_n hx hb zd_X_total_25 rfl (lv_at hl 0 rfl) ?_
      refine va_get (D := D) (ci := 5) (v := .int (iI (F_6 502))) (C := zR_X) (T := zT_X) (N := 34) hx hb hts zi_X hown hK.1 hP 5 ga_5 rfl 2 (by decide) (hts _ zw_535) (fun _ h9 => h9) rfl zd_X_total_26 ?_
      refine lv_goto (tgt := 57) hx hb zd_X_total_29 (by decide) ?_
      exact ret _ _ _ _ _ _ _ zd_X_total_57 hP hD hS (⟨(k2 500 (by decide) (by decide) (by decide) (by decide) (by decide)), k1, ⟨fun j h0 h1 h2 h3 h4 h5 => (k2 j h1 h2 h3 h4 h5).trans (by simp [fuP, h0]), k3⟩, k4, by omega, by omega, by omega, by omega, by omega⟩)
  · refine lv_aload_n hx hb zd_X_total_13 rfl (lv_at hl 0 rfl) ?_
    refine va_get (D := D) (ci := 5) (v := .int (iI (F_6 501))) (C := zR_X) (T := zT_X) (N := 34) hx hb hts zi_X hown hK.1 hP 5 ga_5 rfl 1 (by decide) (hts _ zw_534) (fun _ h9 => h9) rfl zd_X_total_14 ?_
    refine lv_goto (tgt := 57) hx hb zd_X_total_17 (by decide) ?_
    exact ret _ _ _ _ _ _ _ zd_X_total_57 hP hD hS (⟨(k2 500 (by decide) (by decide) (by decide) (by decide) (by decide)), k1, ⟨fun j h0 h1 h2 h3 h4 h5 => (k2 j h1 h2 h3 h4 h5).trans (by simp [fuP, h0]), k3⟩, k4, by omega, by omega, by omega, by omega, by omega⟩)

abbrev zr_X_left : Room := ({ frames := 6, cells := 0, slots := 0, locals := 144 } : Room)
set_option maxHeartbeats 4000000 in
set_option maxRecDepth 100000 in
theorem c_X_left (l : Launch) (D : va_G) (q : Nat → Nat) (c : Nat → ClassId) (sz : Nat) (F : Nat → Int) (A : Nat → Int → Int) (a : Int) (ba : ib a) (hmn : 1 ≤ F 501 ∧ F 501 ≤ 8) (hmm : 0 ≤ F 502 ∧ F 502 ≤ 14) (hmch : ∀ k, 0 ≤ k → k < F 502 → (0 ≤ A 36 k ∧ A 36 k < F 501) ∧ (0 ≤ A 37 k ∧ A 37 k < F 501) ∧ (1 ≤ A 38 k ∧ A 38 k ≤ 9) ∧ (1 ≤ A 39 k ∧ A 39 k ≤ 9) ∧ 0 ≤ A 40 k ∧ A 40 k ≤ 99) (hmk : (F 509 = 0 ∨ F 509 = 1) ∧ (F 509 = 1 → KM F A)) : zMI l zy_X_left zc_X_left 2 (some .int) zr_X_left D q c sz [.ref (q 5), .int (iI (a))] F A (fun z F1 A1 => F1 500 = 0 ∧ ((∀ j, j ≠ 500 → j ≠ 509 → j ≠ 510 → j ≠ 511 → j ≠ 512 → j ≠ 520 → F1 j = F j) ∧ (∀ k, k ≠ 41 → k ≠ 42 → k ≠ 43 → k ≠ 44 → k ≠ 45 → k ≠ 46 → k ≠ 47 → k ≠ 48 → A1 k = A k)) ∧ ((0 ≤ a ∧ a < F 501) → F1 509 = 1 ∧ KM F1 A1 ∧ (F1 510 = -1 ∧ F1 511 = 0 → z = A1 45 a) ∧ (¬ (F1 510 = -1 ∧ F1 511 = 0) → z = -1)) ∧ (¬ (0 ≤ a ∧ a < F 501) → z = -1 ∧ F1 = fuP F 500 0 ∧ A1 = A)) := by
  refine z_ofI (by decide) (Nat.le_of_ble_eq_true rfl) ?_
  intro p e s m args below meth c0 A0 Q C0 ret hP hD hS ls hl
  obtain ⟨S, hK, hA⟩ := C0
  have hx := S.1
  have hb := S.2.1
  have hown := S.2.2.2.1
  have hts : ∀ w ∈ zG, w.before args s = true := fun w h => S.2.2.2.2 w (List.mem_cons_of_mem _ h)
  have hl : lv_has ls 2 [(0, .ref (q 5)), (1, .int (iI (a)))] := hl
  refine lv_aload_n hx hb zd_X_left_0 rfl (lv_at hl 0 rfl) ?_
  refine lv_iconst (v := iI (0)) hx hb zd_X_left_1 rfl ?_
  refine va_put (D := D) (ci := 5) (v := .int (iI (0))) (ty := .int) (C := zR_X) (T := zT_X) (N := 34) hx hb hts zi_X zk_X zo_X zn_X hown hK.1 hP hD hS 5 ga_5 rfl 0 (by decide) (hts _ zw_533) (fun _ h9 => h9) rfl (by decide +kernel) (rfl) (rfl) (Nat.le_of_ble_eq_true rfl) zd_X_left_2 (fun H locs hP hD hS => ?_)
  rw [gs_5_0] at hP hD
  refine lv_iload_n hx hb zd_X_left_5 rfl (lv_at hl 1 rfl) ?_
  refine lv_iconst (v := iI (0)) hx hb zd_X_left_6 rfl ?_
  refine lv_aload_n hx hb zd_X_left_7 rfl (lv_at hl 0 rfl) ?_
  refine va_get (D := D) (ci := 5) (v := .int (iI (F 501))) (C := zR_X) (T := zT_X) (N := 34) hx hb hts zi_X hown hK.1 hP 5 ga_5 rfl 1 (by decide) (hts _ zw_534) (fun _ h9 => h9) rfl zd_X_left_8 ?_
  refine lv_iconst (v := iI (1)) hx hb zd_X_left_11 rfl ?_
  refine x_isub hx hb zd_X_left_12 ?_
  refine z_goi (z_runS (n := 3) (As := [.int (iI (a)), .int (iI (0)), .int (iI ((F 501) - 1))]) (rest := []) S (c_X_in l D q c _ (fuP F 500 0) A a 0 ((F 501) - 1) (by first | assumption | omega | exact ⟨by omega, by omega⟩) (by first | assumption | omega | exact ⟨by omega, by omega⟩) (by first | assumption | omega | exact ⟨by omega, by omega⟩)) zw_646 zw_647 zw_6 zw_648 ⟨by decide +kernel, by decide, rfl, rfl⟩ rfl hK hP hD rfl hl.1 rfl (Nat.le_of_ble_eq_true rfl) zd_X_left_13 ⟨Nat.zero_le _, Nat.zero_le _⟩) hD hS hA (fun z_13 F_13 A_13 H locs hq_13 hP hD hS => ?_)
  obtain ⟨hf_13, ha_13, hq_13⟩ := hq_13
  rw [hf_13, ha_13] at hP hD
  have b13_ : z_13 = 0 ∨ z_13 = 1 := by rw [hq_13]; split <;> simp
  refine x_if_eq (tgt := 35) hx hb zd_X_left_16 (by decide) (⟨by omega, by omega⟩) (fun h_16 => ?_) (fun h_16 => ?_)
  · have ha_ : ¬ (0 ≤ a ∧ a < F 501) := by (rw [hq_13] at h_16; split at h_16 <;> omega)
    refine lv_iconst (v := iI (-1)) hx hb zd_X_left_35 rfl ?_
    exact ret _ _ _ _ _ _ _ zd_X_left_36 hP hD hS (by first | exact ⟨(k2 500 (by decide) (by decide) (by decide) (by decide) (by decide)), ⟨fun j h0 h1 h2 h3 h4 h5 => (k2 j h1 h2 h3 h4 h5).trans (by simp [fuP, h0]), k3⟩, fun _ => ⟨k1, k4, fun h => by first | rfl | (rw [if_pos h] at k5; omega), fun h => by first | rfl | (rw [if_neg h] at k5; omega)⟩, fun h => absurd ha_ h⟩ | exact ⟨rfl, ⟨fun j h0 h1 h2 h3 h4 h5 => by simp [fuP, h0], fun k _ _ _ _ _ _ _ _ => rfl⟩, fun h => absurd h ha_, fun _ => ⟨rfl, rfl, rfl⟩⟩)
  · have ha_ : 0 ≤ a ∧ a < F 501 := by (rw [hq_13] at h_16; split at h_16 <;> omega)
    refine lv_aload_n hx hb zd_X_left_19 rfl (lv_at hl 0 rfl) ?_
    refine z_goi (z_runV (n := 0) (k := 5) (ci := 5) (As := []) (rest := []) S (c_X_isPlain l D q c _ (fuP F 500 0) A (hmn) (hmm) (hmch) (hmk)) zw_709 zw_711 zs_46 zw_6 zw_712 ⟨by decide +kernel, by decide, rfl, rfl⟩ hK hP hD ga_5 rfl rfl rfl hl.1 rfl (Nat.le_of_ble_eq_true rfl) zd_X_left_20 ⟨Nat.zero_le _, Nat.zero_le _⟩) hD hS hA (fun z_20 F_20 A_20 H locs hq_20 hP hD hS => ?_)
    obtain ⟨⟨k1, k2, k3, k4⟩, k5⟩ := hq_20
    have f501 : F_20 501 = F 501 := k2 501 (by decide) (by decide) (by decide) (by decide) (by decide)
    have f502 : F_20 502 = F 502 := k2 502 (by decide) (by decide) (by decide) (by decide) (by decide)
    have hb_ := KM_b k4 (by rw [f501]; exact hmn) (by rw [f502]; exact hmm)
    have b01_ : z_20 = 0 ∨ z_20 = 1 := by rw [k5]; split <;> simp
    refine x_if_eq (tgt := 35) hx hb zd_X_left_23 (by decide) (⟨by omega, by omega⟩) (fun h_23 => ?_) (fun h_23 => ?_)
    · refine lv_iconst (v := iI (-1)) hx hb zd_X_left_35 rfl ?_
      exact ret _ _ _ _ _ _ _ zd_X_left_36 hP hD hS (by first | exact ⟨(k2 500 (by decide) (by decide) (by decide) (by decide) (by decide)), ⟨fun j h0 h1 h2 h3 h4 h5 => (k2 j h1 h2 h3 h4 h5).trans (by simp [fuP, h0]), k3⟩, fun _ => ⟨k1, k4, fun h => by first | rfl | (rw [if_pos h] at k5; omega), fun h => by first | rfl | (rw [if_neg h] at k5; omega)⟩, fun h => absurd ha_ h⟩ | exact ⟨rfl, ⟨fun j h0 h1 h2 h3 h4 h5 => by simp [fuP, h0], fun k _ _ _ _ _ _ _ _ => rfl⟩, fun h => absurd h ha_, fun _ => ⟨rfl, rfl, rfl⟩⟩)
    · refine lv_aload_n hx hb zd_X_left_26 rfl (lv_at hl 0 rfl) ?_
      refine va_get (D := D) (ci := 5) (v := .ref (q 45)) (C := zR_X) (T := zT_X) (N := 34) hx hb hts zi_X hown hK.1 hP 5 ga_5 rfl 17 (by decide) (hts _ zw_550) (fun _ h9 => h9) rfl zd_X_left_27 ?_
      refine lv_iload_n hx hb zd_X_left_30 rfl (lv_at hl 1 rfl) ?_
      refine x_iald (v := A_20 45 a) hx hb hK.1 hP 45 0 ga_45 rfl (by decide) (by omega) (by omega) (rfl) zd_X_left_31 ?_
      refine lv_goto (tgt := 36) hx hb zd_X_left_32 (by decide) ?_
      exact ret _ _ _ _ _ _ _ zd_X_left_36 hP hD hS (by first | exact ⟨(k2 500 (by decide) (by decide) (by decide) (by decide) (by decide)), ⟨fun j h0 h1 h2 h3 h4 h5 => (k2 j h1 h2 h3 h4 h5).trans (by simp [fuP, h0]), k3⟩, fun _ => ⟨k1, k4, fun h => by first | rfl | (rw [if_pos h] at k5; omega), fun h => by first | rfl | (rw [if_neg h] at k5; omega)⟩, fun h => absurd ha_ h⟩ | exact ⟨rfl, ⟨fun j h0 h1 h2 h3 h4 h5 => by simp [fuP, h0], fun k _ _ _ _ _ _ _ _ => rfl⟩, fun h => absurd h ha_, fun _ => ⟨rfl, rfl, rfl⟩⟩)

abbrev zr_X_peak : Room := ({ frames := 6, cells := 0, slots := 0, locals := 144 } : Room)
set_option maxHeartbeats 4000000 in
set_option maxRecDepth 100000 in
theorem c_X_peak (l : Launch) (D : va_G) (q : Nat → Nat) (c : Nat → ClassId) (sz : Nat) (F : Nat → Int) (A : Nat → Int → Int) (a : Int) (ba : ib a) (hmn : 1 ≤ F 501 ∧ F 501 ≤ 8) (hmm : 0 ≤ F 502 ∧ F 502 ≤ 14) (hmch : ∀ k, 0 ≤ k → k < F 502 → (0 ≤ A 36 k ∧ A 36 k < F 501) ∧ (0 ≤ A 37 k ∧ A 37 k < F 501) ∧ (1 ≤ A 38 k ∧ A 38 k ≤ 9) ∧ (1 ≤ A 39 k ∧ A 39 k ≤ 9) ∧ 0 ≤ A 40 k ∧ A 40 k ≤ 99) (hmk : (F 509 = 0 ∨ F 509 = 1) ∧ (F 509 = 1 → KM F A)) : zMI l zy_X_peak zc_X_peak 2 (some .int) zr_X_peak D q c sz [.ref (q 5), .int (iI (a))] F A (fun z F1 A1 => F1 500 = 0 ∧ ((∀ j, j ≠ 500 → j ≠ 509 → j ≠ 510 → j ≠ 511 → j ≠ 512 → j ≠ 520 → F1 j = F j) ∧ (∀ k, k ≠ 41 → k ≠ 42 → k ≠ 43 → k ≠ 44 → k ≠ 45 → k ≠ 46 → k ≠ 47 → k ≠ 48 → A1 k = A k)) ∧ ((0 ≤ a ∧ a < F 502) → F1 509 = 1 ∧ KM F1 A1 ∧ (F1 510 = -1 ∧ F1 511 = 0 → z = A1 47 a) ∧ (¬ (F1 510 = -1 ∧ F1 511 = 0) → z = -1)) ∧ (¬ (0 ≤ a ∧ a < F 502) → z = -1 ∧ F1 = fuP F 500 0 ∧ A1 = A)) := by
  refine z_ofI (by decide) (Nat.le_of_ble_eq_true rfl) ?_
  intro p e s m args below meth c0 A0 Q C0 ret hP hD hS ls hl
  obtain ⟨S, hK, hA⟩ := C0
  have hx := S.1
  have hb := S.2.1
  have hown := S.2.2.2.1
  have hts : ∀ w ∈ zG, w.before args s = true := fun w h => S.2.2.2.2 w (List.mem_cons_of_mem _ h)
  have hl : lv_has ls 2 [(0, .ref (q 5)), (1, .int (iI (a)))] := hl
  refine lv_aload_n hx hb zd_X_peak_0 rfl (lv_at hl 0 rfl) ?_
  refine lv_iconst (v := iI (0)) hx hb zd_X_peak_1 rfl ?_
  refine va_put (D := D) (ci := 5) (v := .int (iI (0))) (ty := .int) (C := zR_X) (T := zT_X) (N := 34) hx hb hts zi_X zk_X zo_X zn_X hown hK.1 hP hD hS 5 ga_5 rfl 0 (by decide) (hts _ zw_533) (fun _ h9 => h9) rfl (by decide +kernel) (rfl) (rfl) (Nat.le_of_ble_eq_true rfl) zd_X_peak_2 (fun H locs hP hD hS => ?_)
  rw [gs_5_0] at hP hD
  refine lv_iload_n hx hb zd_X_peak_5 rfl (lv_at hl 1 rfl) ?_
  refine lv_iconst (v := iI (0)) hx hb zd_X_peak_6 rfl ?_
  refine lv_aload_n hx hb zd_X_peak_7 rfl (lv_at hl 0 rfl) ?_
  refine va_get (D := D) (ci := 5) (v := .int (iI (F 502))) (C := zR_X) (T := zT_X) (N := 34) hx hb hts zi_X hown hK.1 hP 5 ga_5 rfl 2 (by decide) (hts _ zw_535) (fun _ h9 => h9) rfl zd_X_peak_8 ?_
  refine lv_iconst (v := iI (1)) hx hb zd_X_peak_11 rfl ?_
  refine x_isub hx hb zd_X_peak_12 ?_
  refine z_goi (z_runS (n := 3) (As := [.int (iI (a)), .int (iI (0)), .int (iI ((F 502) - 1))]) (rest := []) S (c_X_in l D q c _ (fuP F 500 0) A a 0 ((F 502) - 1) (by first | assumption | omega | exact ⟨by omega, by omega⟩) (by first | assumption | omega | exact ⟨by omega, by omega⟩) (by first | assumption | omega | exact ⟨by omega, by omega⟩)) zw_646 zw_647 zw_6 zw_648 ⟨by decide +kernel, by decide, rfl, rfl⟩ rfl hK hP hD rfl hl.1 rfl (Nat.le_of_ble_eq_true rfl) zd_X_peak_13 ⟨Nat.zero_le _, Nat.zero_le _⟩) hD hS hA (fun z_13 F_13 A_13 H locs hq_13 hP hD hS => ?_)
  obtain ⟨hf_13, ha_13, hq_13⟩ := hq_13
  rw [hf_13, ha_13] at hP hD
  have b13_ : z_13 = 0 ∨ z_13 = 1 := by rw [hq_13]; split <;> simp
  refine x_if_eq (tgt := 35) hx hb zd_X_peak_16 (by decide) (⟨by omega, by omega⟩) (fun h_16 => ?_) (fun h_16 => ?_)
  · have ha_ : ¬ (0 ≤ a ∧ a < F 502) := by (rw [hq_13] at h_16; split at h_16 <;> omega)
    refine lv_iconst (v := iI (-1)) hx hb zd_X_peak_35 rfl ?_
    exact ret _ _ _ _ _ _ _ zd_X_peak_36 hP hD hS (by first | exact ⟨(k2 500 (by decide) (by decide) (by decide) (by decide) (by decide)), ⟨fun j h0 h1 h2 h3 h4 h5 => (k2 j h1 h2 h3 h4 h5).trans (by simp [fuP, h0]), k3⟩, fun _ => ⟨k1, k4, fun h => by first | rfl | (rw [if_pos h] at k5; omega), fun h => by first | rfl | (rw [if_neg h] at k5; omega)⟩, fun h => absurd ha_ h⟩ | exact ⟨rfl, ⟨fun j h0 h1 h2 h3 h4 h5 => by simp [fuP, h0], fun k _ _ _ _ _ _ _ _ => rfl⟩, fun h => absurd h ha_, fun _ => ⟨rfl, rfl, rfl⟩⟩)
  · have ha_ : 0 ≤ a ∧ a < F 502 := by (rw [hq_13] at h_16; split at h_16 <;> omega)
    refine lv_aload_n hx hb zd_X_peak_19 rfl (lv_at hl 0 rfl) ?_
    refine z_goi (z_runV (n := 0) (k := 5) (ci := 5) (As := []) (rest := []) S (c_X_isPlain l D q c _ (fuP F 500 0) A (hmn) (hmm) (hmch) (hmk)) zw_709 zw_711 zs_46 zw_6 zw_712 ⟨by decide +kernel, by decide, rfl, rfl⟩ hK hP hD ga_5 rfl rfl rfl hl.1 rfl (Nat.le_of_ble_eq_true rfl) zd_X_peak_20 ⟨Nat.zero_le _, Nat.zero_le _⟩) hD hS hA (fun z_20 F_20 A_20 H locs hq_20 hP hD hS => ?_)
    obtain ⟨⟨k1, k2, k3, k4⟩, k5⟩ := hq_20
    have f501 : F_20 501 = F 501 := k2 501 (by decide) (by decide) (by decide) (by decide) (by decide)
    have f502 : F_20 502 = F 502 := k2 502 (by decide) (by decide) (by decide) (by decide) (by decide)
    have hb_ := KM_b k4 (by rw [f501]; exact hmn) (by rw [f502]; exact hmm)
    have b01_ : z_20 = 0 ∨ z_20 = 1 := by rw [k5]; split <;> simp
    refine x_if_eq (tgt := 35) hx hb zd_X_peak_23 (by decide) (⟨by omega, by omega⟩) (fun h_23 => ?_) (fun h_23 => ?_)
    · refine lv_iconst (v := iI (-1)) hx hb zd_X_peak_35 rfl ?_
      exact ret _ _ _ _ _ _ _ zd_X_peak_36 hP hD hS (by first | exact ⟨(k2 500 (by decide) (by decide) (by decide) (by decide) (by decide)), ⟨fun j h0 h1 h2 h3 h4 h5 => (k2 j h1 h2 h3 h4 h5).trans (by simp [fuP, h0]), k3⟩, fun _ => ⟨k1, k4, fun h => by first | rfl | (rw [if_pos h] at k5; omega), fun h => by first | rfl | (rw [if_neg h] at k5; omega)⟩, fun h => absurd ha_ h⟩ | exact ⟨rfl, ⟨fun j h0 h1 h2 h3 h4 h5 => by simp [fuP, h0], fun k _ _ _ _ _ _ _ _ => rfl⟩, fun h => absurd h ha_, fun _ => ⟨rfl, rfl, rfl⟩⟩)
    · refine lv_aload_n hx hb zd_X_peak_26 rfl (lv_at hl 0 rfl) ?_
      refine va_get (D := D) (ci := 5) (v := .ref (q 47)) (C := zR_X) (T := zT_X) (N := 34) hx hb hts zi_X hown hK.1 hP 5 ga_5 rfl 19 (by decide) (hts _ zw_552) (fun _ h9 => h9) rfl zd_X_peak_27 ?_
      refine lv_iload_n hx hb zd_X_peak_30 rfl (lv_at hl 1 rfl) ?_
      refine x_iald (v := A_20 47 a) hx hb hK.1 hP 47 0 ga_47 rfl (by decide) (by omega) (by omega) (rfl) zd_X_peak_31 ?_
      refine lv_goto (tgt := 36) hx hb zd_X_peak_32 (by decide) ?_
      exact ret _ _ _ _ _ _ _ zd_X_peak_36 hP hD hS (by first | exact ⟨(k2 500 (by decide) (by decide) (by decide) (by decide) (by decide)), ⟨fun j h0 h1 h2 h3 h4 h5 => (k2 j h1 h2 h3 h4 h5).trans (by simp [fuP, h0]), k3⟩, fun _ => ⟨k1, k4, fun h => by first | rfl | (rw [if_pos h] at k5; omega), fun h => by first | rfl | (rw [if_neg h] at k5; omega)⟩, fun h => absurd ha_ h⟩ | exact ⟨rfl, ⟨fun j h0 h1 h2 h3 h4 h5 => by simp [fuP, h0], fun k _ _ _ _ _ _ _ _ => rfl⟩, fun h => absurd h ha_, fun _ => ⟨rfl, rfl, rfl⟩⟩)

abbrev zr_X_order : Room := ({ frames := 6, cells := 0, slots := 0, locals := 144 } : Room)
set_option maxHeartbeats 4000000 in
set_option maxRecDepth 100000 in
theorem c_X_order (l : Launch) (D : va_G) (q : Nat → Nat) (c : Nat → ClassId) (sz : Nat) (F : Nat → Int) (A : Nat → Int → Int) (a : Int) (ba : ib a) (hmn : 1 ≤ F 501 ∧ F 501 ≤ 8) (hmm : 0 ≤ F 502 ∧ F 502 ≤ 14) (hmch : ∀ k, 0 ≤ k → k < F 502 → (0 ≤ A 36 k ∧ A 36 k < F 501) ∧ (0 ≤ A 37 k ∧ A 37 k < F 501) ∧ (1 ≤ A 38 k ∧ A 38 k ≤ 9) ∧ (1 ≤ A 39 k ∧ A 39 k ≤ 9) ∧ 0 ≤ A 40 k ∧ A 40 k ≤ 99) (hmk : (F 509 = 0 ∨ F 509 = 1) ∧ (F 509 = 1 → KM F A)) : zMI l zy_X_order zc_X_order 2 (some .int) zr_X_order D q c sz [.ref (q 5), .int (iI (a))] F A (fun z F1 A1 => ((∀ j, j ≠ 500 → j ≠ 509 → j ≠ 510 → j ≠ 511 → j ≠ 512 → j ≠ 520 → F1 j = F j) ∧ (∀ k, k ≠ 41 → k ≠ 42 → k ≠ 43 → k ≠ 44 → k ≠ 45 → k ≠ 46 → k ≠ 47 → k ≠ 48 → A1 k = A k)) ∧ F1 509 = 1 ∧ KM F1 A1 ∧ ((F1 510 = -1 ∧ F1 511 = 0) ∧ 0 ≤ a ∧ a < F1 520 → F1 500 = 0 ∧ z = A1 48 a) ∧ (¬ ((F1 510 = -1 ∧ F1 511 = 0) ∧ 0 ≤ a ∧ a < F1 520) → F1 500 = 1)) := by
  refine z_ofI (by decide) (Nat.le_of_ble_eq_true rfl) ?_
  intro p e s m args below meth c0 A0 Q C0 ret hP hD hS ls hl
  obtain ⟨S, hK, hA⟩ := C0
  have hx := S.1
  have hb := S.2.1
  have hown := S.2.2.2.1
  have hts : ∀ w ∈ zG, w.before args s = true := fun w h => S.2.2.2.2 w (List.mem_cons_of_mem _ h)
  have hl : lv_has ls 2 [(0, .ref (q 5)), (1, .int (iI (a)))] := hl
  refine lv_aload_n hx hb zd_X_order_0 rfl (lv_at hl 0 rfl) ?_
  refine lv_aload_n hx hb zd_X_order_1 rfl (lv_at hl 0 rfl) ?_
  refine z_goi (z_runV (n := 0) (k := 5) (ci := 5) (As := []) (rest := [.ref (q 5)]) S (c_X_isPlain l D q c _ F A (by assumption) (by assumption) (by assumption) (by assumption)) zw_709 zw_711 zs_46 zw_6 zw_712 ⟨by decide +kernel, by decide, rfl, rfl⟩ hK hP hD ga_5 rfl rfl rfl hl.1 rfl (Nat.le_of_ble_eq_true rfl) zd_X_order_2 ⟨Nat.zero_le _, Nat.zero_le _⟩) hD hS hA (fun z_2 F_2 A_2 H locs hq_2 hP hD hS => ?_)
  obtain ⟨⟨k1, k2, k3, k4⟩, k5⟩ := hq_2
  have f501 : F_2 501 = F 501 := k2 501 (by decide) (by decide) (by decide) (by decide) (by decide)
  have f502 : F_2 502 = F 502 := k2 502 (by decide) (by decide) (by decide) (by decide) (by decide)
  have hb_ := KM_b k4 (by rw [f501]; exact hmn) (by rw [f502]; exact hmm)
  have b01_ : z_2 = 0 ∨ z_2 = 1 := by rw [k5]; split <;> simp
  refine x_if_eq (tgt := 26) hx hb zd_X_order_5 (by decide) (⟨by omega, by omega⟩) (fun h_5 => ?_) (fun h_5 => ?_)
  · have hpl_ : ¬ (F_2 510 = -1 ∧ F_2 511 = 0) := by (rw [k5] at h_5; split at h_5; (omega); (assumption))
    refine lv_iconst (v := iI (1)) hx hb zd_X_order_26 rfl ?_
    refine va_put (D := D) (ci := 5) (v := .int (iI (1))) (ty := .int) (C := zR_X) (T := zT_X) (N := 34) hx hb hts zi_X zk_X zo_X zn_X hown hK.1 hP hD hS 5 ga_5 rfl 0 (by decide) (hts _ zw_533) (fun _ h9 => h9) rfl (by decide +kernel) (rfl) (rfl) (Nat.le_of_ble_eq_true rfl) zd_X_order_27 (fun H locs hP hD hS => ?_)
    rw [gs_5_0] at hP hD
    refine lv_aload_n hx hb zd_X_order_30 rfl (lv_at hl 0 rfl) ?_
    refine va_get (D := D) (ci := 5) (v := .int (iI (1))) (C := zR_X) (T := zT_X) (N := 34) hx hb hts zi_X hown hK.1 hP 5 ga_5 rfl 0 (by decide) (hts _ zw_533) (fun _ h9 => h9) rfl zd_X_order_31 ?_
    refine x_if_ne (tgt := 46) hx hb zd_X_order_34 (by decide) (⟨by omega, by omega⟩) (fun h_34 => ?_) (fun h_34 => ?_)
    · refine lv_iconst (v := iI (0)) hx hb zd_X_order_46 rfl ?_
      exact ret _ _ _ _ _ _ _ zd_X_order_47 hP hD hS (by first | exact absurd rfl h_34 | exact ⟨⟨fun j h0 h1 h2 h3 h4 h5 => by simp only [fuP, h0, if_false]; exact (k2 j h1 h2 h3 h4 h5).trans (by simp [fuP, h0]), k3⟩, k1, k4, fun _ => ⟨rfl, rfl⟩, fun h => absurd ⟨hpl_, ha_⟩ h⟩ | exact ⟨⟨fun j h0 h1 h2 h3 h4 h5 => by simp only [fuP, h0, if_false]; exact (k2 j h1 h2 h3 h4 h5).trans (by simp [fuP, h0]), k3⟩, k1, k4, fun h => absurd h.2 ha_, fun _ => rfl⟩ | exact ⟨⟨fun j h0 h1 h2 h3 h4 h5 => by simp only [fuP, h0, if_false]; exact (k2 j h1 h2 h3 h4 h5).trans (by simp [fuP, h0]), k3⟩, k1, k4, fun h => absurd h.1 hpl_, fun _ => rfl⟩ | exact absurd h_34 (by decide))
    · refine lv_aload_n hx hb zd_X_order_37 rfl (lv_at hl 0 rfl) ?_
      refine va_get (D := D) (ci := 5) (v := .ref (q 48)) (C := zR_X) (T := zT_X) (N := 34) hx hb hts zi_X hown hK.1 hP 5 ga_5 rfl 21 (by decide) (hts _ zw_554) (fun _ h9 => h9) rfl zd_X_order_38 ?_
      refine lv_iload_n hx hb zd_X_order_41 rfl (lv_at hl 1 rfl) ?_
      refine x_iald (v := A_2 48 a) hx hb hK.1 hP 48 0 ga_48 rfl (by decide) (by omega) (by omega) (rfl) zd_X_order_42 ?_
      refine lv_goto (tgt := 47) hx hb zd_X_order_43 (by decide) ?_
      exact ret _ _ _ _ _ _ _ zd_X_order_47 hP hD hS (by first | exact absurd rfl h_34 | exact ⟨⟨fun j h0 h1 h2 h3 h4 h5 => by simp only [fuP, h0, if_false]; exact (k2 j h1 h2 h3 h4 h5).trans (by simp [fuP, h0]), k3⟩, k1, k4, fun _ => ⟨rfl, rfl⟩, fun h => absurd ⟨hpl_, ha_⟩ h⟩ | exact ⟨⟨fun j h0 h1 h2 h3 h4 h5 => by simp only [fuP, h0, if_false]; exact (k2 j h1 h2 h3 h4 h5).trans (by simp [fuP, h0]), k3⟩, k1, k4, fun h => absurd h.2 ha_, fun _ => rfl⟩ | exact ⟨⟨fun j h0 h1 h2 h3 h4 h5 => by simp only [fuP, h0, if_false]; exact (k2 j h1 h2 h3 h4 h5).trans (by simp [fuP, h0]), k3⟩, k1, k4, fun h => absurd h.1 hpl_, fun _ => rfl⟩ | exact absurd h_34 (by decide))
  · have hpl_ : F_2 510 = -1 ∧ F_2 511 = 0 := by (rw [k5] at h_5; split at h_5; (assumption); (omega))
    refine lv_iload_n hx hb zd_X_order_8 rfl (lv_at hl 1 rfl) ?_
    refine lv_iconst (v := iI (0)) hx hb zd_X_order_9 rfl ?_
    refine lv_aload_n hx hb zd_X_order_10 rfl (lv_at hl 0 rfl) ?_
    refine va_get (D := D) (ci := 5) (v := .int (iI (F_2 520))) (C := zR_X) (T := zT_X) (N := 34) hx hb hts zi_X hown hK.1 hP 5 ga_5 rfl 20 (by decide) (hts _ zw_553) (fun _ h9 => h9) rfl zd_X_order_11 ?_
    refine lv_iconst (v := iI (1)) hx hb zd_X_order_14 rfl ?_
    refine x_isub hx hb zd_X_order_15 ?_
    refine z_goi (z_runS (n := 3) (As := [.int (iI (a)), .int (iI (0)), .int (iI ((F_2 520) - 1))]) (rest := [.ref (q 5)]) S (c_X_in l D q c _ F_2 A_2 a 0 ((F_2 520) - 1) (by first | assumption | omega | exact ⟨by omega, by omega⟩) (by first | assumption | omega | exact ⟨by omega, by omega⟩) (by first | assumption | omega | exact ⟨by omega, by omega⟩)) zw_646 zw_647 zw_6 zw_648 ⟨by decide +kernel, by decide, rfl, rfl⟩ rfl hK hP hD rfl hl.1 rfl (Nat.le_of_ble_eq_true rfl) zd_X_order_16 ⟨Nat.zero_le _, Nat.zero_le _⟩) hD hS hA (fun z_16 F_16 A_16 H locs hq_16 hP hD hS => ?_)
    obtain ⟨hf_16, ha_16, hq_16⟩ := hq_16
    rw [hf_16, ha_16] at hP hD
    have b16_ : z_16 = 0 ∨ z_16 = 1 := by rw [hq_16]; split <;> simp
    refine x_if_eq (tgt := 26) hx hb zd_X_order_19 (by decide) (⟨by omega, by omega⟩) (fun h_19 => ?_) (fun h_19 => ?_)
    · have ha_ : ¬ (0 ≤ a ∧ a < F_2 520) := by (rw [hq_16] at h_19; split at h_19 <;> omega)
      refine lv_iconst (v := iI (1)) hx hb zd_X_order_26 rfl ?_
      refine va_put (D := D) (ci := 5) (v := .int (iI (1))) (ty := .int) (C := zR_X) (T := zT_X) (N := 34) hx hb hts zi_X zk_X zo_X zn_X hown hK.1 hP hD hS 5 ga_5 rfl 0 (by decide) (hts _ zw_533) (fun _ h9 => h9) rfl (by decide +kernel) (rfl) (rfl) (Nat.le_of_ble_eq_true rfl) zd_X_order_27 (fun H locs hP hD hS => ?_)
      rw [gs_5_0] at hP hD
      refine lv_aload_n hx hb zd_X_order_30 rfl (lv_at hl 0 rfl) ?_
      refine va_get (D := D) (ci := 5) (v := .int (iI (1))) (C := zR_X) (T := zT_X) (N := 34) hx hb hts zi_X hown hK.1 hP 5 ga_5 rfl 0 (by decide) (hts _ zw_533) (fun _ h9 => h9) rfl zd_X_order_31 ?_
      refine x_if_ne (tgt := 46) hx hb zd_X_order_34 (by decide) (⟨by omega, by omega⟩) (fun h_34 => ?_) (fun h_34 => ?_)
      · refine lv_iconst (v := iI (0)) hx hb zd_X_order_46 rfl ?_
        exact ret _ _ _ _ _ _ _ zd_X_order_47 hP hD hS (by first | exact absurd rfl h_34 | exact ⟨⟨fun j h0 h1 h2 h3 h4 h5 => by simp only [fuP, h0, if_false]; exact (k2 j h1 h2 h3 h4 h5).trans (by simp [fuP, h0]), k3⟩, k1, k4, fun _ => ⟨rfl, rfl⟩, fun h => absurd ⟨hpl_, ha_⟩ h⟩ | exact ⟨⟨fun j h0 h1 h2 h3 h4 h5 => by simp only [fuP, h0, if_false]; exact (k2 j h1 h2 h3 h4 h5).trans (by simp [fuP, h0]), k3⟩, k1, k4, fun h => absurd h.2 ha_, fun _ => rfl⟩ | exact ⟨⟨fun j h0 h1 h2 h3 h4 h5 => by simp only [fuP, h0, if_false]; exact (k2 j h1 h2 h3 h4 h5).trans (by simp [fuP, h0]), k3⟩, k1, k4, fun h => absurd h.1 hpl_, fun _ => rfl⟩ | exact absurd h_34 (by decide))
      · refine lv_aload_n hx hb zd_X_order_37 rfl (lv_at hl 0 rfl) ?_
        refine va_get (D := D) (ci := 5) (v := .ref (q 48)) (C := zR_X) (T := zT_X) (N := 34) hx hb hts zi_X hown hK.1 hP 5 ga_5 rfl 21 (by decide) (hts _ zw_554) (fun _ h9 => h9) rfl zd_X_order_38 ?_
        refine lv_iload_n hx hb zd_X_order_41 rfl (lv_at hl 1 rfl) ?_
        refine x_iald (v := A_2 48 a) hx hb hK.1 hP 48 0 ga_48 rfl (by decide) (by omega) (by omega) (rfl) zd_X_order_42 ?_
        refine lv_goto (tgt := 47) hx hb zd_X_order_43 (by decide) ?_
        exact ret _ _ _ _ _ _ _ zd_X_order_47 hP hD hS (by first | exact absurd rfl h_34 | exact ⟨⟨fun j h0 h1 h2 h3 h4 h5 => by simp only [fuP, h0, if_false]; exact (k2 j h1 h2 h3 h4 h5).trans (by simp [fuP, h0]), k3⟩, k1, k4, fun _ => ⟨rfl, rfl⟩, fun h => absurd ⟨hpl_, ha_⟩ h⟩ | exact ⟨⟨fun j h0 h1 h2 h3 h4 h5 => by simp only [fuP, h0, if_false]; exact (k2 j h1 h2 h3 h4 h5).trans (by simp [fuP, h0]), k3⟩, k1, k4, fun h => absurd h.2 ha_, fun _ => rfl⟩ | exact ⟨⟨fun j h0 h1 h2 h3 h4 h5 => by simp only [fuP, h0, if_false]; exact (k2 j h1 h2 h3 h4 h5).trans (by simp [fuP, h0]), k3⟩, k1, k4, fun h => absurd h.1 hpl_, fun _ => rfl⟩ | exact absurd h_34 (by decide))
    · have ha_ : 0 ≤ a ∧ a < F_2 520 := by (rw [hq_16] at h_19; split at h_19 <;> omega)
      refine lv_iconst (v := iI (0)) hx hb zd_X_order_22 rfl ?_
      refine lv_goto (tgt := 27) hx hb zd_X_order_23 (by decide) ?_
      refine va_put (D := D) (ci := 5) (v := .int (iI (0))) (ty := .int) (C := zR_X) (T := zT_X) (N := 34) hx hb hts zi_X zk_X zo_X zn_X hown hK.1 hP hD hS 5 ga_5 rfl 0 (by decide) (hts _ zw_533) (fun _ h9 => h9) rfl (by decide +kernel) (rfl) (rfl) (Nat.le_of_ble_eq_true rfl) zd_X_order_27 (fun H locs hP hD hS => ?_)
      rw [gs_5_0] at hP hD
      refine lv_aload_n hx hb zd_X_order_30 rfl (lv_at hl 0 rfl) ?_
      refine va_get (D := D) (ci := 5) (v := .int (iI (0))) (C := zR_X) (T := zT_X) (N := 34) hx hb hts zi_X hown hK.1 hP 5 ga_5 rfl 0 (by decide) (hts _ zw_533) (fun _ h9 => h9) rfl zd_X_order_31 ?_
      refine x_if_ne (tgt := 46) hx hb zd_X_order_34 (by decide) (⟨by omega, by omega⟩) (fun h_34 => ?_) (fun h_34 => ?_)
      · refine lv_iconst (v := iI (0)) hx hb zd_X_order_46 rfl ?_
        exact ret _ _ _ _ _ _ _ zd_X_order_47 hP hD hS (by first | exact absurd rfl h_34 | exact ⟨⟨fun j h0 h1 h2 h3 h4 h5 => by simp only [fuP, h0, if_false]; exact (k2 j h1 h2 h3 h4 h5).trans (by simp [fuP, h0]), k3⟩, k1, k4, fun _ => ⟨rfl, rfl⟩, fun h => absurd ⟨hpl_, ha_⟩ h⟩ | exact ⟨⟨fun j h0 h1 h2 h3 h4 h5 => by simp only [fuP, h0, if_false]; exact (k2 j h1 h2 h3 h4 h5).trans (by simp [fuP, h0]), k3⟩, k1, k4, fun h => absurd h.2 ha_, fun _ => rfl⟩ | exact ⟨⟨fun j h0 h1 h2 h3 h4 h5 => by simp only [fuP, h0, if_false]; exact (k2 j h1 h2 h3 h4 h5).trans (by simp [fuP, h0]), k3⟩, k1, k4, fun h => absurd h.1 hpl_, fun _ => rfl⟩ | exact absurd h_34 (by decide))
      · refine lv_aload_n hx hb zd_X_order_37 rfl (lv_at hl 0 rfl) ?_
        refine va_get (D := D) (ci := 5) (v := .ref (q 48)) (C := zR_X) (T := zT_X) (N := 34) hx hb hts zi_X hown hK.1 hP 5 ga_5 rfl 21 (by decide) (hts _ zw_554) (fun _ h9 => h9) rfl zd_X_order_38 ?_
        refine lv_iload_n hx hb zd_X_order_41 rfl (lv_at hl 1 rfl) ?_
        refine x_iald (v := A_2 48 a) hx hb hK.1 hP 48 0 ga_48 rfl (by decide) (by omega) (by omega) (rfl) zd_X_order_42 ?_
        refine lv_goto (tgt := 47) hx hb zd_X_order_43 (by decide) ?_
        exact ret _ _ _ _ _ _ _ zd_X_order_47 hP hD hS (by first | exact absurd rfl h_34 | exact ⟨⟨fun j h0 h1 h2 h3 h4 h5 => by simp only [fuP, h0, if_false]; exact (k2 j h1 h2 h3 h4 h5).trans (by simp [fuP, h0]), k3⟩, k1, k4, fun _ => ⟨rfl, rfl⟩, fun h => absurd ⟨hpl_, ha_⟩ h⟩ | exact ⟨⟨fun j h0 h1 h2 h3 h4 h5 => by simp only [fuP, h0, if_false]; exact (k2 j h1 h2 h3 h4 h5).trans (by simp [fuP, h0]), k3⟩, k1, k4, fun h => absurd h.2 ha_, fun _ => rfl⟩ | exact ⟨⟨fun j h0 h1 h2 h3 h4 h5 => by simp only [fuP, h0, if_false]; exact (k2 j h1 h2 h3 h4 h5).trans (by simp [fuP, h0]), k3⟩, k1, k4, fun h => absurd h.1 hpl_, fun _ => rfl⟩ | exact absurd h_34 (by decide))

abbrev zr_X_count : Room := ({ frames := 5, cells := 0, slots := 0, locals := 124 } : Room)
set_option maxHeartbeats 4000000 in
set_option maxRecDepth 100000 in
theorem c_X_count (l : Launch) (D : va_G) (q : Nat → Nat) (c : Nat → ClassId) (sz : Nat) (F : Nat → Int) (A : Nat → Int → Int) (a : Int) (ba : ib a) (hmn : 1 ≤ F 501 ∧ F 501 ≤ 8) (hmm : 0 ≤ F 502 ∧ F 502 ≤ 14) (hmch : ∀ k, 0 ≤ k → k < F 502 → (0 ≤ A 36 k ∧ A 36 k < F 501) ∧ (0 ≤ A 37 k ∧ A 37 k < F 501) ∧ (1 ≤ A 38 k ∧ A 38 k ≤ 9) ∧ (1 ≤ A 39 k ∧ A 39 k ≤ 9) ∧ 0 ≤ A 40 k ∧ A 40 k ≤ 99) (hmk : (F 509 = 0 ∨ F 509 = 1) ∧ (F 509 = 1 → KM F A)) : zMI l zy_X_count zc_X_count 2 (some .int) zr_X_count D q c sz [.ref (q 5), .int (iI (a))] F A (fun z F1 A1 => ((∀ j, j ≠ 500 → j ≠ 509 → j ≠ 510 → j ≠ 511 → j ≠ 512 → j ≠ 520 → F1 j = F j) ∧ (∀ k, k ≠ 41 → k ≠ 42 → k ≠ 43 → k ≠ 44 → k ≠ 45 → k ≠ 46 → k ≠ 47 → k ≠ 48 → A1 k = A k)) ∧ ((0 ≤ a ∧ a < F 501) → F1 509 = 1 ∧ KM F1 A1 ∧ (F1 510 ≠ -1 → F1 500 = 1) ∧ (F1 510 = -1 → F1 511 = 1 → F1 500 = 2) ∧ (F1 510 = -1 ∧ F1 511 = 0 → F1 500 = 0 ∧ z = A1 44 a)) ∧ (¬ (0 ≤ a ∧ a < F 501) → z = -1 ∧ F1 = fuP F 500 0 ∧ A1 = A)) := by
  refine z_ofI (by decide) (Nat.le_of_ble_eq_true rfl) ?_
  intro p e s m args below meth c0 A0 Q C0 ret hP hD hS ls hl
  obtain ⟨S, hK, hA⟩ := C0
  have hx := S.1
  have hb := S.2.1
  have hown := S.2.2.2.1
  have hts : ∀ w ∈ zG, w.before args s = true := fun w h => S.2.2.2.2 w (List.mem_cons_of_mem _ h)
  have hl : lv_has ls 2 [(0, .ref (q 5)), (1, .int (iI (a)))] := hl
  refine lv_aload_n hx hb zd_X_count_0 rfl (lv_at hl 0 rfl) ?_
  refine lv_iconst (v := iI (0)) hx hb zd_X_count_1 rfl ?_
  refine va_put (D := D) (ci := 5) (v := .int (iI (0))) (ty := .int) (C := zR_X) (T := zT_X) (N := 34) hx hb hts zi_X zk_X zo_X zn_X hown hK.1 hP hD hS 5 ga_5 rfl 0 (by decide) (hts _ zw_533) (fun _ h9 => h9) rfl (by decide +kernel) (rfl) (rfl) (Nat.le_of_ble_eq_true rfl) zd_X_count_2 (fun H locs hP hD hS => ?_)
  rw [gs_5_0] at hP hD
  refine lv_iload_n hx hb zd_X_count_5 rfl (lv_at hl 1 rfl) ?_
  refine lv_iconst (v := iI (0)) hx hb zd_X_count_6 rfl ?_
  refine lv_aload_n hx hb zd_X_count_7 rfl (lv_at hl 0 rfl) ?_
  refine va_get (D := D) (ci := 5) (v := .int (iI (F 501))) (C := zR_X) (T := zT_X) (N := 34) hx hb hts zi_X hown hK.1 hP 5 ga_5 rfl 1 (by decide) (hts _ zw_534) (fun _ h9 => h9) rfl zd_X_count_8 ?_
  refine lv_iconst (v := iI (1)) hx hb zd_X_count_11 rfl ?_
  refine x_isub hx hb zd_X_count_12 ?_
  refine z_goi (z_runS (n := 3) (As := [.int (iI (a)), .int (iI (0)), .int (iI ((F 501) - 1))]) (rest := []) S (c_X_in l D q c _ (fuP F 500 0) A a 0 ((F 501) - 1) (by first | assumption | omega | exact ⟨by omega, by omega⟩) (by first | assumption | omega | exact ⟨by omega, by omega⟩) (by first | assumption | omega | exact ⟨by omega, by omega⟩)) zw_646 zw_647 zw_6 zw_648 ⟨by decide +kernel, by decide, rfl, rfl⟩ rfl hK hP hD rfl hl.1 rfl (Nat.le_of_ble_eq_true rfl) zd_X_count_13 ⟨Nat.zero_le _, Nat.zero_le _⟩) hD hS hA (fun z_13 F_13 A_13 H locs hq_13 hP hD hS => ?_)
  obtain ⟨hf_13, ha_13, hq_13⟩ := hq_13
  rw [hf_13, ha_13] at hP hD
  have b13_ : z_13 = 0 ∨ z_13 = 1 := by rw [hq_13]; split <;> simp
  refine x_if_ne (tgt := 21) hx hb zd_X_count_16 (by decide) (⟨by omega, by omega⟩) (fun h_16 => ?_) (fun h_16 => ?_)
  · have ha_ : 0 ≤ a ∧ a < F 501 := by (rw [hq_13] at h_16; split at h_16 <;> omega)
    refine lv_aload_n hx hb zd_X_count_21 rfl (lv_at hl 0 rfl) ?_
    refine z_gov (z_runV (n := 0) (k := 5) (ci := 5) (As := []) (rest := []) S (c_X_know l D q c _ (fuP F 500 0) A (hmn) (hmm) (hmch) (hmk)) zw_661 zw_663 zs_37 zw_6 zw_664 ⟨by decide +kernel, by decide, rfl, rfl⟩ hK hP hD ga_5 rfl rfl rfl hl.1 rfl (Nat.le_of_ble_eq_true rfl) zd_X_count_22 ⟨Nat.zero_le _, Nat.zero_le _⟩) hD hS hA (fun F_22 A_22 H locs hq_22 hP hD hS => ?_)
    obtain ⟨k1, k2, k3, k4⟩ := hq_22
    have f501 : F_22 501 = F 501 := k2 501 (by decide) (by decide) (by decide) (by decide) (by decide)
    have f502 : F_22 502 = F 502 := k2 502 (by decide) (by decide) (by decide) (by decide) (by decide)
    have hb_ := KM_b k4 (by rw [f501]; exact hmn) (by rw [f502]; exact hmm)
    refine lv_aload_n hx hb zd_X_count_25 rfl (lv_at hl 0 rfl) ?_
    refine va_get (D := D) (ci := 5) (v := .int (iI (F_22 510))) (C := zR_X) (T := zT_X) (N := 34) hx hb hts zi_X hown hK.1 hP 5 ga_5 rfl 10 (by decide) (hts _ zw_543) (fun _ h9 => h9) rfl zd_X_count_26 ?_
    refine lv_iconst (v := iI (-1)) hx hb zd_X_count_29 rfl ?_
    refine x_icmp_eq (tgt := 39) hx hb zd_X_count_30 (by decide) (⟨by omega, by omega⟩) (⟨by omega, by omega⟩) (fun h_30 => ?_) (fun h_30 => ?_)
    · refine lv_aload_n hx hb zd_X_count_39 rfl (lv_at hl 0 rfl) ?_
      refine va_get (D := D) (ci := 5) (v := .int (iI (F_22 511))) (C := zR_X) (T := zT_X) (N := 34) hx hb hts zi_X hown hK.1 hP 5 ga_5 rfl 11 (by decide) (hts _ zw_544) (fun _ h9 => h9) rfl zd_X_count_40 ?_
      refine x_if_eq (tgt := 54) hx hb zd_X_count_43 (by decide) (⟨by omega, by omega⟩) (fun h_43 => ?_) (fun h_43 => ?_)
      · refine lv_aload_n hx hb zd_X_count_54 rfl (lv_at hl 0 rfl) ?_
        refine va_get (D := D) (ci := 5) (v := .ref (q 44)) (C := zR_X) (T := zT_X) (N := 34) hx hb hts zi_X hown hK.1 hP 5 ga_5 rfl 16 (by decide) (hts _ zw_549) (fun _ h9 => h9) rfl zd_X_count_55 ?_
        refine lv_iload_n hx hb zd_X_count_58 rfl (lv_at hl 1 rfl) ?_
        refine x_iald (v := A_22 44 a) hx hb hK.1 hP 44 0 ga_44 rfl (by decide) (by omega) (by omega) (rfl) zd_X_count_59 ?_
        exact ret _ _ _ _ _ _ _ zd_X_count_60 hP hD hS (by first | exact ⟨⟨fun j h0 h1 h2 h3 h4 h5 => (k2 j h1 h2 h3 h4 h5).trans (by simp [fuP, h0]), k3⟩, fun _ => ⟨k1, k4, fun h => absurd h_30 h, fun _ h => by omega, fun _ => ⟨(k2 500 (by decide) (by decide) (by decide) (by decide) (by decide)), rfl⟩⟩, fun h => absurd ha_ h⟩ | exact ⟨⟨fun j h0 h1 h2 h3 h4 h5 => by rw [y2]; simp only [fuP, h0, if_false]; exact (k2 j h1 h2 h3 h4 h5).trans (by simp [fuP, h0]), by rw [y3]; exact k3⟩, fun _ => ⟨by rw [y2]; exact k1, by rw [y2, y3]; exact k4, fun h => by rw [y2] at h; exact absurd h_30 h, fun _ _ => by rw [y2]; rfl, fun h => by rw [y2] at h; exact absurd h.2 h_43⟩, fun h => absurd ha_ h⟩)
      · refine lv_aload_n hx hb zd_X_count_46 rfl (lv_at hl 0 rfl) ?_
        refine lv_iconst (v := iI (2)) hx hb zd_X_count_47 rfl ?_
        refine z_goi (z_runV (n := 1) (k := 5) (ci := 5) (As := [.int (iI (2))]) (rest := []) S (c_X_raise l D q c _ F_22 A_22 2) zw_701 zw_703 zs_45 zw_6 zw_704 ⟨by decide +kernel, by decide, rfl, rfl⟩ hK hP hD ga_5 rfl rfl rfl hl.1 rfl (Nat.le_of_ble_eq_true rfl) zd_X_count_48 ⟨Nat.zero_le _, Nat.zero_le _⟩) hD hS hA (fun z_48 F_48 A_48 H locs hq_48 hP hD hS => ?_)
        obtain ⟨y1, y2, y3⟩ := hq_48
        refine lv_goto (tgt := 60) hx hb zd_X_count_51 (by decide) ?_
        exact ret _ _ _ _ _ _ _ zd_X_count_60 hP hD hS (by first | exact ⟨⟨fun j h0 h1 h2 h3 h4 h5 => (k2 j h1 h2 h3 h4 h5).trans (by simp [fuP, h0]), k3⟩, fun _ => ⟨k1, k4, fun h => absurd h_30 h, fun _ h => by omega, fun _ => ⟨(k2 500 (by decide) (by decide) (by decide) (by decide) (by decide)), rfl⟩⟩, fun h => absurd ha_ h⟩ | exact ⟨⟨fun j h0 h1 h2 h3 h4 h5 => by rw [y2]; simp only [fuP, h0, if_false]; exact (k2 j h1 h2 h3 h4 h5).trans (by simp [fuP, h0]), by rw [y3]; exact k3⟩, fun _ => ⟨by rw [y2]; exact k1, by rw [y2, y3]; exact k4, fun h => by rw [y2] at h; exact absurd h_30 h, fun _ _ => by rw [y2]; rfl, fun h => by rw [y2] at h; exact absurd h.2 h_43⟩, fun h => absurd ha_ h⟩)
    · refine lv_aload_n hx hb zd_X_count_33 rfl (lv_at hl 0 rfl) ?_
      refine lv_iconst (v := iI (1)) hx hb zd_X_count_34 rfl ?_
      refine z_goi (z_runV (n := 1) (k := 5) (ci := 5) (As := [.int (iI (1))]) (rest := []) S (c_X_raise l D q c _ F_22 A_22 1) zw_701 zw_703 zs_45 zw_6 zw_704 ⟨by decide +kernel, by decide, rfl, rfl⟩ hK hP hD ga_5 rfl rfl rfl hl.1 rfl (Nat.le_of_ble_eq_true rfl) zd_X_count_35 ⟨Nat.zero_le _, Nat.zero_le _⟩) hD hS hA (fun z_35 F_35 A_35 H locs hq_35 hP hD hS => ?_)
      obtain ⟨y1, y2, y3⟩ := hq_35
      exact ret _ _ _ _ _ _ _ zd_X_count_38 hP hD hS (⟨⟨fun j h0 h1 h2 h3 h4 h5 => by rw [y2]; simp only [fuP, h0, if_false]; exact (k2 j h1 h2 h3 h4 h5).trans (by simp [fuP, h0]), by rw [y3]; exact k3⟩, fun _ => ⟨by rw [y2]; exact k1, by rw [y2, y3]; exact k4, fun _ => by rw [y2]; rfl, fun h => by rw [y2] at h; exact absurd h h_30, fun h => by rw [y2] at h; exact absurd h.1 h_30⟩, fun h => absurd ha_ h⟩)
  · have ha_ : ¬ (0 ≤ a ∧ a < F 501) := by (rw [hq_13] at h_16; split at h_16 <;> omega)
    refine lv_iconst (v := iI (-1)) hx hb zd_X_count_19 rfl ?_
    exact ret _ _ _ _ _ _ _ zd_X_count_20 hP hD hS (⟨⟨fun j h0 h1 h2 h3 h4 h5 => by simp [fuP, h0], fun k _ _ _ _ _ _ _ _ => rfl⟩, fun h => absurd h ha_, fun _ => ⟨rfl, rfl, rfl⟩⟩)
