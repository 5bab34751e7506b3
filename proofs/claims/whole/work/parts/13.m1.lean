abbrev zr_C_isWithin : Room := ({ frames := 0, cells := 0, slots := 0, locals := 0 } : Room)
set_option maxHeartbeats 4000000 in
set_option maxRecDepth 100000 in
theorem c_C_isWithin (l : Launch) (D : va_G) (q : Nat → Nat) (c : Nat → ClassId) (sz : Nat) (F : Nat → Int) (A : Nat → Int → Int) (x : Int) (lo : Int) (hi : Int) (bx : ib x) (blo : ib lo) (bhi : ib hi) : zMI l zy_C_isWithin zc_C_isWithin 3 (some .boolean) zr_C_isWithin D q c sz [.int (iI (x)), .int (iI (lo)), .int (iI (hi))] F A (fun z F1 A1 => F1 = F ∧ A1 = A ∧ z = if lo ≤ x ∧ x ≤ hi then 1 else 0) := by
  refine z_ofB (by decide) (Nat.le_of_ble_eq_true rfl) ?_
  intro p e s m args below meth c0 A0 Q C0 ret hP hD hS ls hl
  obtain ⟨S, hK, hA⟩ := C0
  have hx := S.1
  have hb := S.2.1
  have hown := S.2.2.2.1
  have hts : ∀ w ∈ zG, w.before args s = true := fun w h => S.2.2.2.2 w (List.mem_cons_of_mem _ h)
  have hl : lv_has ls 3 [(0, .int (iI (x))), (1, .int (iI (lo))), (2, .int (iI (hi)))] := hl
  refine lv_iload_n hx hb zd_C_isWithin_0 rfl (lv_at hl 0 rfl) ?_
  refine lv_iload_n hx hb zd_C_isWithin_1 rfl (lv_at hl 1 rfl) ?_
  refine x_icmp_lt (tgt := 14) hx hb zd_C_isWithin_2 (by decide) (⟨by omega, by omega⟩) (⟨by omega, by omega⟩) (fun h_2 => ?_) (fun h_2 => ?_)
  · refine lv_iconst (v := iI (0)) hx hb zd_C_isWithin_14 rfl ?_
    exact ret _ _ _ _ _ _ _ zd_C_isWithin_15 hP hD hS (by omega) (by refine ⟨rfl, rfl, ?_⟩; split <;> omega)
  · refine lv_iload_n hx hb zd_C_isWithin_5 rfl (lv_at hl 0 rfl) ?_
    refine lv_iload_n hx hb zd_C_isWithin_6 rfl (lv_at hl 2 rfl) ?_
    refine x_icmp_gt (tgt := 14) hx hb zd_C_isWithin_7 (by decide) (⟨by omega, by omega⟩) (⟨by omega, by omega⟩) (fun h_7 => ?_) (fun h_7 => ?_)
    · refine lv_iconst (v := iI (0)) hx hb zd_C_isWithin_14 rfl ?_
      exact ret _ _ _ _ _ _ _ zd_C_isWithin_15 hP hD hS (by omega) (by refine ⟨rfl, rfl, ?_⟩; split <;> omega)
    · refine lv_iconst (v := iI (1)) hx hb zd_C_isWithin_10 rfl ?_
      refine lv_goto (tgt := 15) hx hb zd_C_isWithin_11 (by decide) ?_
      exact ret _ _ _ _ _ _ _ zd_C_isWithin_15 hP hD hS (by omega) (by refine ⟨rfl, rfl, ?_⟩; split <;> omega)

abbrev zr_X_in : Room := ({ frames := 0, cells := 0, slots := 0, locals := 0 } : Room)
set_option maxHeartbeats 4000000 in
set_option maxRecDepth 100000 in
theorem c_X_in (l : Launch) (D : va_G) (q : Nat → Nat) (c : Nat → ClassId) (sz : Nat) (F : Nat → Int) (A : Nat → Int → Int) (x : Int) (lo : Int) (hi : Int) (bx : ib x) (blo : ib lo) (bhi : ib hi) : zMI l zy_X_in zc_X_in 3 (some .boolean) zr_X_in D q c sz [.int (iI (x)), .int (iI (lo)), .int (iI (hi))] F A (fun z F1 A1 => F1 = F ∧ A1 = A ∧ z = if lo ≤ x ∧ x ≤ hi then 1 else 0) := by
  refine z_ofB (by decide) (Nat.le_of_ble_eq_true rfl) ?_
  intro p e s m args below meth c0 A0 Q C0 ret hP hD hS ls hl
  obtain ⟨S, hK, hA⟩ := C0
  have hx := S.1
  have hb := S.2.1
  have hown := S.2.2.2.1
  have hts : ∀ w ∈ zG, w.before args s = true := fun w h => S.2.2.2.2 w (List.mem_cons_of_mem _ h)
  have hl : lv_has ls 3 [(0, .int (iI (x))), (1, .int (iI (lo))), (2, .int (iI (hi)))] := hl
  refine lv_iload_n hx hb zd_X_in_0 rfl (lv_at hl 0 rfl) ?_
  refine lv_iload_n hx hb zd_X_in_1 rfl (lv_at hl 1 rfl) ?_
  refine x_icmp_lt (tgt := 14) hx hb zd_X_in_2 (by decide) (⟨by omega, by omega⟩) (⟨by omega, by omega⟩) (fun h_2 => ?_) (fun h_2 => ?_)
  · refine lv_iconst (v := iI (0)) hx hb zd_X_in_14 rfl ?_
    exact ret _ _ _ _ _ _ _ zd_X_in_15 hP hD hS (by omega) (by refine ⟨rfl, rfl, ?_⟩; split <;> omega)
  · refine lv_iload_n hx hb zd_X_in_5 rfl (lv_at hl 0 rfl) ?_
    refine lv_iload_n hx hb zd_X_in_6 rfl (lv_at hl 2 rfl) ?_
    refine x_icmp_gt (tgt := 14) hx hb zd_X_in_7 (by decide) (⟨by omega, by omega⟩) (⟨by omega, by omega⟩) (fun h_7 => ?_) (fun h_7 => ?_)
    · refine lv_iconst (v := iI (0)) hx hb zd_X_in_14 rfl ?_
      exact ret _ _ _ _ _ _ _ zd_X_in_15 hP hD hS (by omega) (by refine ⟨rfl, rfl, ?_⟩; split <;> omega)
    · refine lv_iconst (v := iI (1)) hx hb zd_X_in_10 rfl ?_
      refine lv_goto (tgt := 15) hx hb zd_X_in_11 (by decide) ?_
      exact ret _ _ _ _ _ _ _ zd_X_in_15 hP hD hS (by omega) (by refine ⟨rfl, rfl, ?_⟩; split <;> omega)

abbrev zr_N_hasActor : Room := ({ frames := 0, cells := 0, slots := 0, locals := 0 } : Room)
set_option maxHeartbeats 4000000 in
set_option maxRecDepth 100000 in
theorem c_N_hasActor (l : Launch) (D : va_G) (q : Nat → Nat) (c : Nat → ClassId) (sz : Nat) (F : Nat → Int) (A : Nat → Int → Int) (a : Int) (ba : ib a) (hn : 1 ≤ F 100 ∧ F 100 ≤ 8) : zMI l zy_N_hasActor zc_N_hasActor 2 (some .boolean) zr_N_hasActor D q c sz [.ref (q 1), .int (iI (a))] F A (fun z F1 A1 => F1 = F ∧ A1 = A ∧ z = if 0 ≤ a ∧ a < F 100 then 1 else 0) := by
  refine z_ofB (by decide) (Nat.le_of_ble_eq_true rfl) ?_
  intro p e s m args below meth c0 A0 Q C0 ret hP hD hS ls hl
  obtain ⟨S, hK, hA⟩ := C0
  have hx := S.1
  have hb := S.2.1
  have hown := S.2.2.2.1
  have hts : ∀ w ∈ zG, w.before args s = true := fun w h => S.2.2.2.2 w (List.mem_cons_of_mem _ h)
  have hl : lv_has ls 2 [(0, .ref (q 1)), (1, .int (iI (a)))] := hl
  refine lv_iload_n hx hb zd_N_hasActor_0 rfl (lv_at hl 1 rfl) ?_
  refine x_if_lt (tgt := 16) hx hb zd_N_hasActor_1 (by decide) (⟨by omega, by omega⟩) (fun h_1 => ?_) (fun h_1 => ?_)
  · refine lv_iconst (v := iI (0)) hx hb zd_N_hasActor_16 rfl ?_
    exact ret _ _ _ _ _ _ _ zd_N_hasActor_17 hP hD hS (by omega) (by refine ⟨rfl, rfl, ?_⟩; split <;> omega)
  · refine lv_iload_n hx hb zd_N_hasActor_4 rfl (lv_at hl 1 rfl) ?_
    refine lv_aload_n hx hb zd_N_hasActor_5 rfl (lv_at hl 0 rfl) ?_
    refine va_get (D := D) (ci := 1) (v := .int (iI (F 100))) (C := zR_N) (T := zT_N) (N := 11) hx hb hts zi_N hown hK.1 hP 1 ga_1 rfl 0 (by decide) (hts _ zw_33) (fun _ h9 => h9) rfl zd_N_hasActor_6 ?_
    refine x_icmp_ge (tgt := 16) hx hb zd_N_hasActor_9 (by decide) (⟨by omega, by omega⟩) (⟨by omega, by omega⟩) (fun h_9 => ?_) (fun h_9 => ?_)
    · refine lv_iconst (v := iI (0)) hx hb zd_N_hasActor_16 rfl ?_
      exact ret _ _ _ _ _ _ _ zd_N_hasActor_17 hP hD hS (by omega) (by refine ⟨rfl, rfl, ?_⟩; split <;> omega)
    · refine lv_iconst (v := iI (1)) hx hb zd_N_hasActor_12 rfl ?_
      refine lv_goto (tgt := 17) hx hb zd_N_hasActor_13 (by decide) ?_
      exact ret _ _ _ _ _ _ _ zd_N_hasActor_17 hP hD hS (by omega) (by refine ⟨rfl, rfl, ?_⟩; split <;> omega)

abbrev zr_N_hasChannel : Room := ({ frames := 0, cells := 0, slots := 0, locals := 0 } : Room)
set_option maxHeartbeats 4000000 in
set_option maxRecDepth 100000 in
theorem c_N_hasChannel (l : Launch) (D : va_G) (q : Nat → Nat) (c : Nat → ClassId) (sz : Nat) (F : Nat → Int) (A : Nat → Int → Int) (a : Int) (ba : ib a) (hn : 0 ≤ F 101 ∧ F 101 ≤ 14) : zMI l zy_N_hasChannel zc_N_hasChannel 2 (some .boolean) zr_N_hasChannel D q c sz [.ref (q 1), .int (iI (a))] F A (fun z F1 A1 => F1 = F ∧ A1 = A ∧ z = if 0 ≤ a ∧ a < F 101 then 1 else 0) := by
  refine z_ofB (by decide) (Nat.le_of_ble_eq_true rfl) ?_
  intro p e s m args below meth c0 A0 Q C0 ret hP hD hS ls hl
  obtain ⟨S, hK, hA⟩ := C0
  have hx := S.1
  have hb := S.2.1
  have hown := S.2.2.2.1
  have hts : ∀ w ∈ zG, w.before args s = true := fun w h => S.2.2.2.2 w (List.mem_cons_of_mem _ h)
  have hl : lv_has ls 2 [(0, .ref (q 1)), (1, .int (iI (a)))] := hl
  refine lv_iload_n hx hb zd_N_hasChannel_0 rfl (lv_at hl 1 rfl) ?_
  refine x_if_lt (tgt := 16) hx hb zd_N_hasChannel_1 (by decide) (⟨by omega, by omega⟩) (fun h_1 => ?_) (fun h_1 => ?_)
  · refine lv_iconst (v := iI (0)) hx hb zd_N_hasChannel_16 rfl ?_
    exact ret _ _ _ _ _ _ _ zd_N_hasChannel_17 hP hD hS (by omega) (by refine ⟨rfl, rfl, ?_⟩; split <;> omega)
  · refine lv_iload_n hx hb zd_N_hasChannel_4 rfl (lv_at hl 1 rfl) ?_
    refine lv_aload_n hx hb zd_N_hasChannel_5 rfl (lv_at hl 0 rfl) ?_
    refine va_get (D := D) (ci := 1) (v := .int (iI (F 101))) (C := zR_N) (T := zT_N) (N := 11) hx hb hts zi_N hown hK.1 hP 1 ga_1 rfl 1 (by decide) (hts _ zw_37) (fun _ h9 => h9) rfl zd_N_hasChannel_6 ?_
    refine x_icmp_ge (tgt := 16) hx hb zd_N_hasChannel_9 (by decide) (⟨by omega, by omega⟩) (⟨by omega, by omega⟩) (fun h_9 => ?_) (fun h_9 => ?_)
    · refine lv_iconst (v := iI (0)) hx hb zd_N_hasChannel_16 rfl ?_
      exact ret _ _ _ _ _ _ _ zd_N_hasChannel_17 hP hD hS (by omega) (by refine ⟨rfl, rfl, ?_⟩; split <;> omega)
    · refine lv_iconst (v := iI (1)) hx hb zd_N_hasChannel_12 rfl ?_
      refine lv_goto (tgt := 17) hx hb zd_N_hasChannel_13 (by decide) ?_
      exact ret _ _ _ _ _ _ _ zd_N_hasChannel_17 hP hD hS (by omega) (by refine ⟨rfl, rfl, ?_⟩; split <;> omega)

abbrev zr_N_isUneven : Room := ({ frames := 0, cells := 0, slots := 0, locals := 0 } : Room)
set_option maxHeartbeats 4000000 in
set_option maxRecDepth 100000 in
theorem c_N_isUneven (l : Launch) (D : va_G) (q : Nat → Nat) (c : Nat → ClassId) (sz : Nat) (F : Nat → Int) (A : Nat → Int → Int)  (hu : ib (F 102)) : zMI l zy_N_isUneven zc_N_isUneven 1 (some .boolean) zr_N_isUneven D q c sz [.ref (q 1)] F A (fun z F1 A1 => F1 = F ∧ A1 = A ∧ z = if F 102 = -1 then 0 else 1) := by
  refine z_ofB (by decide) (Nat.le_of_ble_eq_true rfl) ?_
  intro p e s m args below meth c0 A0 Q C0 ret hP hD hS ls hl
  obtain ⟨S, hK, hA⟩ := C0
  have hx := S.1
  have hb := S.2.1
  have hown := S.2.2.2.1
  have hts : ∀ w ∈ zG, w.before args s = true := fun w h => S.2.2.2.2 w (List.mem_cons_of_mem _ h)
  have hl : lv_has ls 1 [(0, .ref (q 1))] := hl
  refine lv_aload_n hx hb zd_N_isUneven_0 rfl (lv_at hl 0 rfl) ?_
  refine va_get (D := D) (ci := 1) (v := .int (iI (F 102))) (C := zR_N) (T := zT_N) (N := 11) hx hb hts zi_N hown hK.1 hP 1 ga_1 rfl 2 (by decide) (hts _ zw_41) (fun _ h9 => h9) rfl zd_N_isUneven_1 ?_
  refine lv_iconst (v := iI (-1)) hx hb zd_N_isUneven_4 rfl ?_
  refine x_icmp_eq (tgt := 12) hx hb zd_N_isUneven_5 (by decide) (hu) (⟨by omega, by omega⟩) (fun h_5 => ?_) (fun h_5 => ?_)
  · refine lv_iconst (v := iI (0)) hx hb zd_N_isUneven_12 rfl ?_
    exact ret _ _ _ _ _ _ _ zd_N_isUneven_13 hP hD hS (by omega) (by refine ⟨rfl, rfl, ?_⟩; split <;> omega)
  · refine lv_iconst (v := iI (1)) hx hb zd_N_isUneven_8 rfl ?_
    refine lv_goto (tgt := 13) hx hb zd_N_isUneven_9 (by decide) ?_
    exact ret _ _ _ _ _ _ _ zd_N_isUneven_13 hP hD hS (by omega) (by refine ⟨rfl, rfl, ?_⟩; split <;> omega)

abbrev zr_C_uneven : Room := ({ frames := 0, cells := 0, slots := 0, locals := 0 } : Room)
set_option maxHeartbeats 4000000 in
set_option maxRecDepth 100000 in
theorem c_C_uneven (l : Launch) (D : va_G) (q : Nat → Nat) (c : Nat → ClassId) (sz : Nat) (F : Nat → Int) (A : Nat → Int → Int)   : zMI l zy_C_uneven zc_C_uneven 1 (some .int) zr_C_uneven D q c sz [.ref (q 0)] F A (fun z F1 A1 => F1 = F ∧ A1 = A ∧ z = F 102) := by
  refine z_ofI (by decide) (Nat.le_of_ble_eq_true rfl) ?_
  intro p e s m args below meth c0 A0 Q C0 ret hP hD hS ls hl
  obtain ⟨S, hK, hA⟩ := C0
  have hx := S.1
  have hb := S.2.1
  have hown := S.2.2.2.1
  have hts : ∀ w ∈ zG, w.before args s = true := fun w h => S.2.2.2.2 w (List.mem_cons_of_mem _ h)
  have hl : lv_has ls 1 [(0, .ref (q 0))] := hl
  refine lv_aload_n hx hb zd_C_uneven_0 rfl (lv_at hl 0 rfl) ?_
  refine va_get (D := D) (ci := 0) (v := .ref (q 1)) (C := zR_C) (T := zT_C) (N := 4) hx hb hts zi_C hown hK.1 hP 0 ga_0 rfl 0 (by decide) (hts _ zw_185) (fun _ h9 => h9) rfl zd_C_uneven_1 ?_
  refine va_getN (D := D) (ci := 1) (v := .int (iI (F 102))) (C := zR_N) (T := zT_N) (N := 11) hx hb hts zi_N hown hK.1 hP 1 ga_1 rfl 2 (by decide) (zNW.use hK.2 zw_42) (fun _ h9 => h9) rfl zd_C_uneven_4 ?_
  exact ret _ _ _ _ _ _ _ zd_C_uneven_7 hP hD hS (⟨rfl, rfl, rfl⟩)

abbrev zr_C_divided : Room := ({ frames := 0, cells := 0, slots := 0, locals := 0 } : Room)
set_option maxHeartbeats 4000000 in
set_option maxRecDepth 100000 in
theorem c_C_divided (l : Launch) (D : va_G) (q : Nat → Nat) (c : Nat → ClassId) (sz : Nat) (F : Nat → Int) (A : Nat → Int → Int) (x : Int) (y : Int) (bx : ib x) (by_ : ib y) : zMI l zy_C_divided zc_C_divided 2 (some .int) zr_C_divided D q c sz [.int (iI (x)), .int (iI (y))] F A (fun z F1 A1 => F1 = F ∧ A1 = A ∧ z = if y = 0 then 0 else x.tdiv y) := by
  refine z_ofI (by decide) (Nat.le_of_ble_eq_true rfl) ?_
  intro p e s m args below meth c0 A0 Q C0 ret hP hD hS ls hl
  obtain ⟨S, hK, hA⟩ := C0
  have hx := S.1
  have hb := S.2.1
  have hown := S.2.2.2.1
  have hts : ∀ w ∈ zG, w.before args s = true := fun w h => S.2.2.2.2 w (List.mem_cons_of_mem _ h)
  have hl : lv_has ls 2 [(0, .int (iI (x))), (1, .int (iI (y)))] := hl
  refine lv_iload_n hx hb zd_C_divided_0 rfl (lv_at hl 1 rfl) ?_
  refine x_if_ne (tgt := 8) hx hb zd_C_divided_1 (by decide) (⟨by omega, by omega⟩) (fun h_1 => ?_) (fun h_1 => ?_)
  · refine lv_iload_n hx hb zd_C_divided_8 rfl (lv_at hl 0 rfl) ?_
    refine lv_iload_n hx hb zd_C_divided_9 rfl (lv_at hl 1 rfl) ?_
    refine x_idiv hx hb zd_C_divided_10 (⟨by omega, by omega⟩) (⟨by omega, by omega⟩) (by omega) ?_
    exact ret _ _ _ _ _ _ _ zd_C_divided_11 hP hD hS (by refine ⟨rfl, rfl, ?_⟩; split <;> first | rfl | omega)
  · refine lv_iconst (v := iI (0)) hx hb zd_C_divided_4 rfl ?_
    refine lv_goto (tgt := 11) hx hb zd_C_divided_5 (by decide) ?_
    exact ret _ _ _ _ _ _ _ zd_C_divided_11 hP hD hS (by refine ⟨rfl, rfl, ?_⟩; split <;> first | rfl | omega)

abbrev zr_N_isGreat : Room := ({ frames := 0, cells := 0, slots := 0, locals := 0 } : Room)
set_option maxHeartbeats 4000000 in
set_option maxRecDepth 100000 in
theorem c_N_isGreat (l : Launch) (D : va_G) (q : Nat → Nat) (c : Nat → ClassId) (sz : Nat) (F : Nat → Int) (A : Nat → Int → Int)  (hn : 1 ≤ F 100 ∧ F 100 ≤ 8) (hct : ∀ a, 0 ≤ a → a < 8 → 1 ≤ A 7 a ∧ A 7 a ≤ 4782969) : zMI l zy_N_isGreat zc_N_isGreat 3 (some .boolean) zr_N_isGreat D q c sz [.ref (q 1)] F A (fun z F1 A1 => F1 = F ∧ A1 = A ∧ z = if 400 < sI (A 7) (F 100) then 1 else 0) := by
  refine z_ofB (by decide) (Nat.le_of_ble_eq_true rfl) ?_
  intro p e s m args below meth c0 A0 Q C0 ret hP hD hS ls hl
  obtain ⟨S, hK, hA⟩ := C0
  have hx := S.1
  have hb := S.2.1
  have hown := S.2.2.2.1
  have hts : ∀ w ∈ zG, w.before args s = true := fun w h => S.2.2.2.2 w (List.mem_cons_of_mem _ h)
  have hl : lv_has ls 3 [(0, .ref (q 1))] := hl
  refine lv_iconst (v := iI (0)) hx hb zd_N_isGreat_0 rfl ?_
  refine lv_istore_n (lv' := [(1, .int (iI (0))), (0, .ref (q 1))]) hx hb zd_N_isGreat_1 rfl hl (by decide) rfl (fun ls hl => ?_)
  refine lv_iconst (v := iI (0)) hx hb zd_N_isGreat_2 rfl ?_
  refine lv_istore_n (lv' := [(2, .int (iI (0))), (1, .int (iI (0))), (0, .ref (q 1))]) hx hb zd_N_isGreat_3 rfl hl (by decide) rfl (fun ls hl => ?_)
  have L_4 : ∀ (fu : Nat) (t : Int) (i : Int) , (0 ≤ i ∧ i ≤ F 100) → (t = sI (A 7) i) → (0 ≤ t ∧ t ≤ 4782969 * i) → (F 100 - i < (fu : Int)) → ∀ (H : Heap) (locs : List Loc), va_P D zcl (gw q c F A) H → va_D A0 (gw q c F A) → va_S A0 s.heap H locs → ∀ ls : Array Slot, lv_has ls 3 [(0, .ref (q 1)), (1, .int (iI (t))), (2, .int (iI (i)))] → W p l e zr_N_isGreat s m args below meth c0 H locs 0 0 Q (F0 m 4 ls []) := by
    intro fu
    induction fu with
    | zero => intro t i   hi ht hb_ hm_4; exact absurd hm_4 (by omega)
    | succ fu ih_4 =>
      intro t i   hi ht hb_ hm_4 H locs hP hD hS ls hl
      refine lv_iload_n hx hb zd_N_isGreat_4 rfl (lv_at hl 2 rfl) ?_
      refine lv_aload_n hx hb zd_N_isGreat_5 rfl (lv_at hl 0 rfl) ?_
      refine va_get (D := D) (ci := 1) (v := .int (iI (F 100))) (C := zR_N) (T := zT_N) (N := 11) hx hb hts zi_N hown hK.1 hP 1 ga_1 rfl 0 (by decide) (hts _ zw_33) (fun _ h9 => h9) rfl zd_N_isGreat_6 ?_
      refine x_icmp_ge (tgt := 27) hx hb zd_N_isGreat_9 (by decide) (⟨by omega, by omega⟩) (⟨by omega, by omega⟩) (fun h_9 => ?_) (fun h_9 => ?_)
      · have e_ : i = F 100 := by omega
        subst e_
        refine lv_iload_n hx hb zd_N_isGreat_27 rfl (lv_at hl 1 rfl) ?_
        refine lv_sipush (v := iI (400)) hx hb zd_N_isGreat_28 (by decide) ?_
        refine x_icmp_le (tgt := 38) hx hb zd_N_isGreat_31 (by decide) (⟨by omega, by omega⟩) (⟨by omega, by omega⟩) (fun h_31 => ?_) (fun h_31 => ?_)
        · refine lv_iconst (v := iI (0)) hx hb zd_N_isGreat_38 rfl ?_
          exact ret _ _ _ _ _ _ _ zd_N_isGreat_39 hP hD hS (by omega) (by refine ⟨rfl, rfl, ?_⟩; split <;> omega)
        · refine lv_iconst (v := iI (1)) hx hb zd_N_isGreat_34 rfl ?_
          refine lv_goto (tgt := 39) hx hb zd_N_isGreat_35 (by decide) ?_
          exact ret _ _ _ _ _ _ _ zd_N_isGreat_39 hP hD hS (by omega) (by refine ⟨rfl, rfl, ?_⟩; split <;> omega)
      · have hc_ := hct i (by omega) (by omega)
        refine lv_iload_n hx hb zd_N_isGreat_12 rfl (lv_at hl 1 rfl) ?_
        refine lv_aload_n hx hb zd_N_isGreat_13 rfl (lv_at hl 0 rfl) ?_
        refine va_get (D := D) (ci := 1) (v := .ref (q 7)) (C := zR_N) (T := zT_N) (N := 11) hx hb hts zi_N hown hK.1 hP 1 ga_1 rfl 4 (by decide) (hts _ zw_46) (fun _ h9 => h9) rfl zd_N_isGreat_14 ?_
        refine lv_iload_n hx hb zd_N_isGreat_17 rfl (lv_at hl 2 rfl) ?_
        refine x_iald (v := A 7 i) hx hb hK.1 hP 7 0 ga_7 rfl (by decide) (by omega) (by omega) (rfl) zd_N_isGreat_18 ?_
        refine x_iadd hx hb zd_N_isGreat_19 ?_
        refine lv_istore_n (lv' := [(1, .int (iI (t + (A 7 i)))), (0, .ref (q 1)), (2, .int (iI (i)))]) hx hb zd_N_isGreat_20 rfl hl (by decide) rfl (fun ls hl => ?_)
        refine lv_iinc (v := iI (i + 1)) (lv' := [(2, .int (iI (i + 1))), (1, .int (iI (t + (A 7 i)))), (0, .ref (q 1))]) hx hb zd_N_isGreat_21 hl (k := 2) rfl (iI_add _ _) (by decide) rfl (fun ls hl => ?_)
        refine lv_goto (tgt := 4) hx hb zd_N_isGreat_24 (by decide) ?_
        exact ih_4 (t + (A 7 i)) (i + 1)   (by first | assumption | omega | (simp_all; done)) (by rw [sI_s (by omega), ← ht]) (by first | assumption | omega | (simp_all; done)) (by omega) _ _ hP hD hS ls (lv_sub hl [2, 1, 0] rfl)
  exact L_4 (((F 100 - (0) : Int) + 1).toNat) (0) (0)   (by first | assumption | omega | (simp_all; done)) (sI_0.symm) (by first | assumption | omega | (simp_all; done)) (by omega) _ _ hP hD hS ls (lv_sub hl [2, 1, 0] rfl)
