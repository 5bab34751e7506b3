abbrev zr_N_parts : Room := ({ frames := 0, cells := 0, slots := 0, locals := 0 } : Room)
set_option maxHeartbeats 4000000 in
set_option maxRecDepth 100000 in
theorem c_N_parts (l : Launch) (D : va_G) (q : Nat → Nat) (c : Nat → ClassId) (sz : Nat) (F : Nat → Int) (A : Nat → Int → Int)  (hn : 1 ≤ F 100 ∧ F 100 ≤ 8) (hc : 0 ≤ F 101 ∧ F 101 ≤ 14) (hact : ∀ a, 0 ≤ a → a < 8 → (1 ≤ A 7 a ∧ A 7 a ≤ 4782969) ∧ 0 ≤ A 8 a ∧ A 8 a < 8) : zMI l zy_N_parts zc_N_parts 3 (some .int) zr_N_parts D q c sz [.ref (q 1)] F A (fun z F1 A1 => F1 = F ∧ A1 = A ∧ z = sI (fun a => if A 8 a = a then 1 else 0) (F 100)) := by
  refine z_ofI (by decide) (Nat.le_of_ble_eq_true rfl) ?_
  intro p e s m args below meth c0 A0 Q C0 ret hP hD hS ls hl
  obtain ⟨S, hK, hA⟩ := C0
  have hx := S.1
  have hb := S.2.1
  have hown := S.2.2.2.1
  have hts : ∀ w ∈ zG, w.before args s = true := fun w h => S.2.2.2.2 w (List.mem_cons_of_mem _ h)
  have hl : lv_has ls 3 [(0, .ref (q 1))] := hl
  refine lv_iconst (v := iI (0)) hx hb zd_N_parts_0 rfl ?_
  refine lv_istore_n (lv' := [(1, .int (iI (0))), (0, .ref (q 1))]) hx hb zd_N_parts_1 rfl hl (by decide) rfl (fun ls hl => ?_)
  refine lv_iconst (v := iI (0)) hx hb zd_N_parts_2 rfl ?_
  refine lv_istore_n (lv' := [(2, .int (iI (0))), (1, .int (iI (0))), (0, .ref (q 1))]) hx hb zd_N_parts_3 rfl hl (by decide) rfl (fun ls hl => ?_)
  have L_4 : ∀ (fu : Nat) (t : Int) (i : Int) , (0 ≤ i ∧ i ≤ F 100) → (t = sI (fun a => if A 8 a = a then 1 else 0) i) → (0 ≤ t ∧ t ≤ i) → (F 100 - i < (fu : Int)) → ∀ (H : Heap) (locs : List Loc), va_P D zcl (gw q c F A) H → va_D A0 (gw q c F A) → va_S A0 s.heap H locs → ∀ ls : Array Slot, lv_has ls 3 [(0, .ref (q 1)), (1, .int (iI (t))), (2, .int (iI (i)))] → W p l e zr_N_parts s m args below meth c0 H locs 0 0 Q (F0 m 4 ls []) := by
    intro fu
    induction fu with
    | zero => intro t i   hi ht hb_ hm_4; exact absurd hm_4 (by omega)
    | succ fu ih_4 =>
      intro t i   hi ht hb_ hm_4 H locs hP hD hS ls hl
      refine lv_iload_n hx hb zd_N_parts_4 rfl (lv_at hl 2 rfl) ?_
      refine lv_aload_n hx hb zd_N_parts_5 rfl (lv_at hl 0 rfl) ?_
      refine va_get (D := D) (ci := 1) (v := .int (iI (F 100))) (C := zR_N) (T := zT_N) (N := 11) hx hb hts zi_N hown hK.1 hP 1 ga_1 rfl 0 (by decide) (hts _ zw_33) (fun _ h9 => h9) rfl zd_N_parts_6 ?_
      refine x_icmp_ge (tgt := 31) hx hb zd_N_parts_9 (by decide) (⟨by omega, by omega⟩) (⟨by omega, by omega⟩) (fun h_9 => ?_) (fun h_9 => ?_)
      · have e_ : i = F 100 := by omega
        subst e_
        refine lv_iload_n hx hb zd_N_parts_31 rfl (lv_at hl 1 rfl) ?_
        exact ret _ _ _ _ _ _ _ zd_N_parts_32 hP hD hS (⟨rfl, rfl, by rw [ht]⟩)
      · have hc_ := hact i (by omega) (by omega)
        refine lv_aload_n hx hb zd_N_parts_12 rfl (lv_at hl 0 rfl) ?_
        refine va_get (D := D) (ci := 1) (v := .ref (q 8)) (C := zR_N) (T := zT_N) (N := 11) hx hb hts zi_N hown hK.1 hP 1 ga_1 rfl 5 (by decide) (hts _ zw_51) (fun _ h9 => h9) rfl zd_N_parts_13 ?_
        refine lv_iload_n hx hb zd_N_parts_16 rfl (lv_at hl 2 rfl) ?_
        refine x_iald (v := A 8 i) hx hb hK.1 hP 8 0 ga_8 rfl (by decide) (by omega) (by omega) (rfl) zd_N_parts_17 ?_
        refine lv_iload_n hx hb zd_N_parts_18 rfl (lv_at hl 2 rfl) ?_
        refine x_icmp_ne (tgt := 25) hx hb zd_N_parts_19 (by decide) (⟨by omega, by omega⟩) (⟨by omega, by omega⟩) (fun h_19 => ?_) (fun h_19 => ?_)
        · refine lv_iinc (v := iI (i + 1)) (lv' := [(2, .int (iI (i + 1))), (0, .ref (q 1)), (1, .int (iI (t)))]) hx hb zd_N_parts_25 hl (k := 2) rfl (iI_add _ _) (by decide) rfl (fun ls hl => ?_)
          refine lv_goto (tgt := 4) hx hb zd_N_parts_28 (by decide) ?_
          exact ih_4 (t) (i + 1)   (by first | assumption | omega | (simp_all; done)) (by rw [sI_s (by omega), ← ht]; split <;> omega) (by first | assumption | omega | (simp_all; done)) (by omega) _ _ hP hD hS ls (lv_sub hl [1, 2, 0] rfl)
        · refine lv_iinc (v := iI (t + 1)) (lv' := [(1, .int (iI (t + 1))), (0, .ref (q 1)), (2, .int (iI (i)))]) hx hb zd_N_parts_22 hl (k := 1) rfl (iI_add _ _) (by decide) rfl (fun ls hl => ?_)
          refine lv_iinc (v := iI (i + 1)) (lv' := [(2, .int (iI (i + 1))), (1, .int (iI (t + 1))), (0, .ref (q 1))]) hx hb zd_N_parts_25 hl (k := 2) rfl (iI_add _ _) (by decide) rfl (fun ls hl => ?_)
          refine lv_goto (tgt := 4) hx hb zd_N_parts_28 (by decide) ?_
          exact ih_4 (t + 1) (i + 1)   (by first | assumption | omega | (simp_all; done)) (by rw [sI_s (by omega), ← ht]; split <;> omega) (by first | assumption | omega | (simp_all; done)) (by omega) _ _ hP hD hS ls (lv_sub hl [2, 1, 0] rfl)
  exact L_4 (((F 100 - (0) : Int) + 1).toNat) (0) (0)   (by first | assumption | omega | (simp_all; done)) (sI_0.symm) (by first | assumption | omega | (simp_all; done)) (by omega) _ _ hP hD hS ls (lv_sub hl [2, 1, 0] rfl)

abbrev zr_N_countsOfPart : Room := ({ frames := 0, cells := 0, slots := 0, locals := 0 } : Room)
set_option maxHeartbeats 4000000 in
set_option maxRecDepth 100000 in
theorem c_N_countsOfPart (l : Launch) (D : va_G) (q : Nat → Nat) (c : Nat → ClassId) (sz : Nat) (F : Nat → Int) (A : Nat → Int → Int) (a : Int) (hn : 1 ≤ F 100 ∧ F 100 ≤ 8) (hc : 0 ≤ F 101 ∧ F 101 ≤ 14) (hact : ∀ a, 0 ≤ a → a < 8 → (1 ≤ A 7 a ∧ A 7 a ≤ 4782969) ∧ 0 ≤ A 8 a ∧ A 8 a < 8) (ha : 0 ≤ a ∧ a < F 100) : zMI l zy_N_countsOfPart zc_N_countsOfPart 4 (some .int) zr_N_countsOfPart D q c sz [.ref (q 1), .int (iI (a))] F A (fun z F1 A1 => F1 = F ∧ A1 = A ∧ z = sI (fun b => if A 8 b = A 8 a then A 7 b else 0) (F 100)) := by
  refine z_ofI (by decide) (Nat.le_of_ble_eq_true rfl) ?_
  intro p e s m args below meth c0 A0 Q C0 ret hP hD hS ls hl
  obtain ⟨S, hK, hA⟩ := C0
  have hx := S.1
  have hb := S.2.1
  have hown := S.2.2.2.1
  have hts : ∀ w ∈ zG, w.before args s = true := fun w h => S.2.2.2.2 w (List.mem_cons_of_mem _ h)
  have hl : lv_has ls 4 [(0, .ref (q 1)), (1, .int (iI (a)))] := hl
  refine lv_iconst (v := iI (0)) hx hb zd_N_countsOfPart_0 rfl ?_
  refine lv_istore_n (lv' := [(2, .int (iI (0))), (0, .ref (q 1)), (1, .int (iI (a)))]) hx hb zd_N_countsOfPart_1 rfl hl (by decide) rfl (fun ls hl => ?_)
  refine lv_iconst (v := iI (0)) hx hb zd_N_countsOfPart_2 rfl ?_
  refine lv_istore_n (lv' := [(3, .int (iI (0))), (2, .int (iI (0))), (0, .ref (q 1)), (1, .int (iI (a)))]) hx hb zd_N_countsOfPart_3 rfl hl (by decide) rfl (fun ls hl => ?_)
  have L_4 : ∀ (fu : Nat) (t : Int) (i : Int) , (0 ≤ i ∧ i ≤ F 100) → (t = sI (fun b => if A 8 b = A 8 a then A 7 b else 0) i) → (0 ≤ t ∧ t ≤ 4782969 * i) → (F 100 - i < (fu : Int)) → ∀ (H : Heap) (locs : List Loc), va_P D zcl (gw q c F A) H → va_D A0 (gw q c F A) → va_S A0 s.heap H locs → ∀ ls : Array Slot, lv_has ls 4 [(0, .ref (q 1)), (1, .int (iI (a))), (2, .int (iI (t))), (3, .int (iI (i)))] → W p l e zr_N_countsOfPart s m args below meth c0 H locs 0 0 Q (F0 m 4 ls []) := by
    intro fu
    induction fu with
    | zero => intro t i   hi ht hb_ hm_4; exact absurd hm_4 (by omega)
    | succ fu ih_4 =>
      intro t i   hi ht hb_ hm_4 H locs hP hD hS ls hl
      refine lv_iload_n hx hb zd_N_countsOfPart_4 rfl (lv_at hl 3 rfl) ?_
      refine lv_aload_n hx hb zd_N_countsOfPart_5 rfl (lv_at hl 0 rfl) ?_
      refine va_get (D := D) (ci := 1) (v := .int (iI (F 100))) (C := zR_N) (T := zT_N) (N := 11) hx hb hts zi_N hown hK.1 hP 1 ga_1 rfl 0 (by decide) (hts _ zw_33) (fun _ h9 => h9) rfl zd_N_countsOfPart_6 ?_
      refine x_icmp_ge (tgt := 42) hx hb zd_N_countsOfPart_9 (by decide) (⟨by omega, by omega⟩) (⟨by omega, by omega⟩) (fun h_9 => ?_) (fun h_9 => ?_)
      · have e_ : i = F 100 := by omega
        subst e_
        refine lv_iload_n hx hb zd_N_countsOfPart_42 rfl (lv_at hl 2 rfl) ?_
        exact ret _ _ _ _ _ _ _ zd_N_countsOfPart_43 hP hD hS (⟨rfl, rfl, by rw [ht]⟩)
      · have hc_ := hact i (by omega) (by omega)
        have hd_ := hact a (by omega) (by omega)
        refine lv_aload_n hx hb zd_N_countsOfPart_12 rfl (lv_at hl 0 rfl) ?_
        refine va_get (D := D) (ci := 1) (v := .ref (q 8)) (C := zR_N) (T := zT_N) (N := 11) hx hb hts zi_N hown hK.1 hP 1 ga_1 rfl 5 (by decide) (hts _ zw_51) (fun _ h9 => h9) rfl zd_N_countsOfPart_13 ?_
        refine lv_iload_n hx hb zd_N_countsOfPart_16 rfl (lv_at hl 3 rfl) ?_
        refine x_iald (v := A 8 i) hx hb hK.1 hP 8 0 ga_8 rfl (by decide) (by omega) (by omega) (rfl) zd_N_countsOfPart_17 ?_
        refine lv_aload_n hx hb zd_N_countsOfPart_18 rfl (lv_at hl 0 rfl) ?_
        refine va_get (D := D) (ci := 1) (v := .ref (q 8)) (C := zR_N) (T := zT_N) (N := 11) hx hb hts zi_N hown hK.1 hP 1 ga_1 rfl 5 (by decide) (hts _ zw_51) (fun _ h9 => h9) rfl zd_N_countsOfPart_19 ?_
        refine lv_iload_n hx hb zd_N_countsOfPart_22 rfl (lv_at hl 1 rfl) ?_
        refine x_iald (v := A 8 a) hx hb hK.1 hP 8 0 ga_8 rfl (by decide) (by omega) (by omega) (rfl) zd_N_countsOfPart_23 ?_
        refine x_icmp_ne (tgt := 36) hx hb zd_N_countsOfPart_24 (by decide) (⟨by omega, by omega⟩) (⟨by omega, by omega⟩) (fun h_24 => ?_) (fun h_24 => ?_)
        · refine lv_iinc (v := iI (i + 1)) (lv' := [(3, .int (iI (i + 1))), (0, .ref (q 1)), (1, .int (iI (a))), (2, .int (iI (t)))]) hx hb zd_N_countsOfPart_36 hl (k := 3) rfl (iI_add _ _) (by decide) rfl (fun ls hl => ?_)
          refine lv_goto (tgt := 4) hx hb zd_N_countsOfPart_39 (by decide) ?_
          exact ih_4 (t) (i + 1)   (by first | assumption | omega | (simp_all; done)) (by rw [sI_s (by omega), ← ht]; split <;> omega) (by first | assumption | omega | (simp_all; done)) (by omega) _ _ hP hD hS ls (lv_sub hl [1, 2, 3, 0] rfl)
        · refine lv_iload_n hx hb zd_N_countsOfPart_27 rfl (lv_at hl 2 rfl) ?_
          refine lv_aload_n hx hb zd_N_countsOfPart_28 rfl (lv_at hl 0 rfl) ?_
          refine va_get (D := D) (ci := 1) (v := .ref (q 7)) (C := zR_N) (T := zT_N) (N := 11) hx hb hts zi_N hown hK.1 hP 1 ga_1 rfl 4 (by decide) (hts _ zw_46) (fun _ h9 => h9) rfl zd_N_countsOfPart_29 ?_
          refine lv_iload_n hx hb zd_N_countsOfPart_32 rfl (lv_at hl 3 rfl) ?_
          refine x_iald (v := A 7 i) hx hb hK.1 hP 7 0 ga_7 rfl (by decide) (by omega) (by omega) (rfl) zd_N_countsOfPart_33 ?_
          refine x_iadd hx hb zd_N_countsOfPart_34 ?_
          refine lv_istore_n (lv' := [(2, .int (iI (t + (A 7 i)))), (0, .ref (q 1)), (1, .int (iI (a))), (3, .int (iI (i)))]) hx hb zd_N_countsOfPart_35 rfl hl (by decide) rfl (fun ls hl => ?_)
          refine lv_iinc (v := iI (i + 1)) (lv' := [(3, .int (iI (i + 1))), (2, .int (iI (t + (A 7 i)))), (0, .ref (q 1)), (1, .int (iI (a)))]) hx hb zd_N_countsOfPart_36 hl (k := 3) rfl (iI_add _ _) (by decide) rfl (fun ls hl => ?_)
          refine lv_goto (tgt := 4) hx hb zd_N_countsOfPart_39 (by decide) ?_
          exact ih_4 (t + (A 7 i)) (i + 1)   (by first | assumption | omega | (simp_all; done)) (by rw [sI_s (by omega), ← ht]; split <;> omega) (by first | assumption | omega | (simp_all; done)) (by omega) _ _ hP hD hS ls (lv_sub hl [2, 3, 1, 0] rfl)
  exact L_4 (((F 100 - (0) : Int) + 1).toNat) (0) (0)   (by first | assumption | omega | (simp_all; done)) (sI_0.symm) (by first | assumption | omega | (simp_all; done)) (by omega) _ _ hP hD hS ls (lv_sub hl [2, 3, 1, 0] rfl)

abbrev zr_N_isChain : Room := ({ frames := 0, cells := 0, slots := 0, locals := 0 } : Room)
set_option maxHeartbeats 4000000 in
set_option maxRecDepth 100000 in
theorem c_N_isChain (l : Launch) (D : va_G) (q : Nat → Nat) (c : Nat → ClassId) (sz : Nat) (F : Nat → Int) (A : Nat → Int → Int)  (hn : 1 ≤ F 100 ∧ F 100 ≤ 8) (hc : 0 ≤ F 101 ∧ F 101 ≤ 14) (hch : ∀ k, 0 ≤ k → k < F 101 → (0 ≤ A 9 k ∧ A 9 k < F 100) ∧ (0 ≤ A 10 k ∧ A 10 k < F 100) ∧ (1 ≤ A 11 k ∧ A 11 k ≤ 9) ∧ (1 ≤ A 12 k ∧ A 12 k ≤ 9) ∧ 0 ≤ A 13 k ∧ A 13 k ≤ 99) : zMI l zy_N_isChain zc_N_isChain 2 (some .boolean) zr_N_isChain D q c sz [.ref (q 1)] F A (fun z F1 A1 => F1 = F ∧ A1 = A ∧ (z = 0 ∨ z = 1) ∧ (z = 1 ↔ F 101 = F 100 - 1 ∧ ∀ k, 0 ≤ k → k < F 101 → A 9 k = k ∧ A 10 k = k + 1 ∧ A 13 k = 0)) := by
  refine z_ofB (by decide) (Nat.le_of_ble_eq_true rfl) ?_
  intro p e s m args below meth c0 A0 Q C0 ret hP hD hS ls hl
  obtain ⟨S, hK, hA⟩ := C0
  have hx := S.1
  have hb := S.2.1
  have hown := S.2.2.2.1
  have hts : ∀ w ∈ zG, w.before args s = true := fun w h => S.2.2.2.2 w (List.mem_cons_of_mem _ h)
  have hl : lv_has ls 2 [(0, .ref (q 1))] := hl
  refine lv_aload_n hx hb zd_N_isChain_0 rfl (lv_at hl 0 rfl) ?_
  refine va_get (D := D) (ci := 1) (v := .int (iI (F 101))) (C := zR_N) (T := zT_N) (N := 11) hx hb hts zi_N hown hK.1 hP 1 ga_1 rfl 1 (by decide) (hts _ zw_37) (fun _ h9 => h9) rfl zd_N_isChain_1 ?_
  refine lv_aload_n hx hb zd_N_isChain_4 rfl (lv_at hl 0 rfl) ?_
  refine va_get (D := D) (ci := 1) (v := .int (iI (F 100))) (C := zR_N) (T := zT_N) (N := 11) hx hb hts zi_N hown hK.1 hP 1 ga_1 rfl 0 (by decide) (hts _ zw_33) (fun _ h9 => h9) rfl zd_N_isChain_5 ?_
  refine lv_iconst (v := iI (1)) hx hb zd_N_isChain_8 rfl ?_
  refine x_isub hx hb zd_N_isChain_9 ?_
  refine x_icmp_eq (tgt := 15) hx hb zd_N_isChain_10 (by decide) (⟨by omega, by omega⟩) (⟨by omega, by omega⟩) (fun h_10 => ?_) (fun h_10 => ?_)
  · refine lv_iconst (v := iI (0)) hx hb zd_N_isChain_15 rfl ?_
    refine lv_istore_n (lv' := [(1, .int (iI (0))), (0, .ref (q 1))]) hx hb zd_N_isChain_16 rfl hl (by decide) rfl (fun ls hl => ?_)
    have L_17 : ∀ (fu : Nat) (i : Int) , (0 ≤ i ∧ i ≤ F 101) → (∀ k, 0 ≤ k → k < i → A 9 k = k ∧ A 10 k = k + 1 ∧ A 13 k = 0) → (F 101 - i < (fu : Int)) → ∀ (H : Heap) (locs : List Loc), va_P D zcl (gw q c F A) H → va_D A0 (gw q c F A) → va_S A0 s.heap H locs → ∀ ls : Array Slot, lv_has ls 2 [(0, .ref (q 1)), (1, .int (iI (i)))] → W p l e zr_N_isChain s m args below meth c0 H locs 0 0 Q (F0 m 17 ls []) := by
      intro fu
      induction fu with
      | zero => intro i   hi hs hm_17; exact absurd hm_17 (by omega)
      | succ fu ih_17 =>
        intro i   hi hs hm_17 H locs hP hD hS ls hl
        refine lv_iload_n hx hb zd_N_isChain_17 rfl (lv_at hl 1 rfl) ?_
        refine lv_aload_n hx hb zd_N_isChain_18 rfl (lv_at hl 0 rfl) ?_
        refine va_get (D := D) (ci := 1) (v := .int (iI (F 101))) (C := zR_N) (T := zT_N) (N := 11) hx hb hts zi_N hown hK.1 hP 1 ga_1 rfl 1 (by decide) (hts _ zw_37) (fun _ h9 => h9) rfl zd_N_isChain_19 ?_
        refine x_icmp_ge (tgt := 64) hx hb zd_N_isChain_22 (by decide) (⟨by omega, by omega⟩) (⟨by omega, by omega⟩) (fun h_22 => ?_) (fun h_22 => ?_)
        · refine lv_iconst (v := iI (1)) hx hb zd_N_isChain_64 rfl ?_
          exact ret _ _ _ _ _ _ _ zd_N_isChain_65 hP hD hS (by omega) (⟨rfl, rfl, by omega, ⟨fun _ => ⟨by omega, fun k h0 h1 => hs k h0 (by omega)⟩, fun _ => rfl⟩⟩)
        · have hc_ := hch i (by omega) (by omega)
          refine lv_aload_n hx hb zd_N_isChain_25 rfl (lv_at hl 0 rfl) ?_
          refine va_get (D := D) (ci := 1) (v := .ref (q 9)) (C := zR_N) (T := zT_N) (N := 11) hx hb hts zi_N hown hK.1 hP 1 ga_1 rfl 6 (by decide) (hts _ zw_54) (fun _ h9 => h9) rfl zd_N_isChain_26 ?_
          refine lv_iload_n hx hb zd_N_isChain_29 rfl (lv_at hl 1 rfl) ?_
          refine x_iald (v := A 9 i) hx hb hK.1 hP 9 0 ga_9 rfl (by decide) (by omega) (by omega) (rfl) zd_N_isChain_30 ?_
          refine lv_iload_n hx hb zd_N_isChain_31 rfl (lv_at hl 1 rfl) ?_
          refine x_icmp_ne (tgt := 56) hx hb zd_N_isChain_32 (by decide) (⟨by omega, by omega⟩) (⟨by omega, by omega⟩) (fun h_32 => ?_) (fun h_32 => ?_)
          · refine lv_iconst (v := iI (0)) hx hb zd_N_isChain_56 rfl ?_
            exact ret _ _ _ _ _ _ _ zd_N_isChain_57 hP hD hS (by omega) (⟨rfl, rfl, by omega, ⟨fun h => by omega, fun h => by have := h.2 i (by omega) (by omega); omega⟩⟩)
          · refine lv_aload_n hx hb zd_N_isChain_35 rfl (lv_at hl 0 rfl) ?_
            refine va_get (D := D) (ci := 1) (v := .ref (q 10)) (C := zR_N) (T := zT_N) (N := 11) hx hb hts zi_N hown hK.1 hP 1 ga_1 rfl 7 (by decide) (hts _ zw_57) (fun _ h9 => h9) rfl zd_N_isChain_36 ?_
            refine lv_iload_n hx hb zd_N_isChain_39 rfl (lv_at hl 1 rfl) ?_
            refine x_iald (v := A 10 i) hx hb hK.1 hP 10 0 ga_10 rfl (by decide) (by omega) (by omega) (rfl) zd_N_isChain_40 ?_
            refine lv_iload_n hx hb zd_N_isChain_41 rfl (lv_at hl 1 rfl) ?_
            refine lv_iconst (v := iI (1)) hx hb zd_N_isChain_42 rfl ?_
            refine x_iadd hx hb zd_N_isChain_43 ?_
            refine x_icmp_ne (tgt := 56) hx hb zd_N_isChain_44 (by decide) (⟨by omega, by omega⟩) (⟨by omega, by omega⟩) (fun h_44 => ?_) (fun h_44 => ?_)
            · refine lv_iconst (v := iI (0)) hx hb zd_N_isChain_56 rfl ?_
              exact ret _ _ _ _ _ _ _ zd_N_isChain_57 hP hD hS (by omega) (⟨rfl, rfl, by omega, ⟨fun h => by omega, fun h => by have := h.2 i (by omega) (by omega); omega⟩⟩)
            · refine lv_aload_n hx hb zd_N_isChain_47 rfl (lv_at hl 0 rfl) ?_
              refine va_get (D := D) (ci := 1) (v := .ref (q 13)) (C := zR_N) (T := zT_N) (N := 11) hx hb hts zi_N hown hK.1 hP 1 ga_1 rfl 10 (by decide) (hts _ zw_67) (fun _ h9 => h9) rfl zd_N_isChain_48 ?_
              refine lv_iload_n hx hb zd_N_isChain_51 rfl (lv_at hl 1 rfl) ?_
              refine x_iald (v := A 13 i) hx hb hK.1 hP 13 0 ga_13 rfl (by decide) (by omega) (by omega) (rfl) zd_N_isChain_52 ?_
              refine x_if_eq (tgt := 58) hx hb zd_N_isChain_53 (by decide) (⟨by omega, by omega⟩) (fun h_53 => ?_) (fun h_53 => ?_)
              · refine lv_iinc (v := iI (i + 1)) (lv' := [(1, .int (iI (i + 1))), (0, .ref (q 1))]) hx hb zd_N_isChain_58 hl (k := 1) rfl (iI_add _ _) (by decide) rfl (fun ls hl => ?_)
                refine lv_goto (tgt := 17) hx hb zd_N_isChain_61 (by decide) ?_
                exact ih_17 (i + 1)   (by first | assumption | omega | (simp_all; done)) (fun k h0 h1 => by by_cases e_ : k = i; (subst e_; omega); (exact hs k h0 (by omega))) (by omega) _ _ hP hD hS ls (lv_sub hl [1, 0] rfl)
              · refine lv_iconst (v := iI (0)) hx hb zd_N_isChain_56 rfl ?_
                exact ret _ _ _ _ _ _ _ zd_N_isChain_57 hP hD hS (by omega) (⟨rfl, rfl, by omega, ⟨fun h => by omega, fun h => by have := h.2 i (by omega) (by omega); omega⟩⟩)
    exact L_17 (((F 101 - (0) : Int) + 1).toNat) (0)   (by first | assumption | omega | (simp_all; done)) (fun k h0 h1 => by omega) (by omega) _ _ hP hD hS ls (lv_sub hl [1, 0] rfl)
  · refine lv_iconst (v := iI (0)) hx hb zd_N_isChain_13 rfl ?_
    exact ret _ _ _ _ _ _ _ zd_N_isChain_14 hP hD hS (by omega) (⟨rfl, rfl, by omega, by constructor <;> intro h <;> omega⟩)

abbrev zr_N_begin : Room := ({ frames := 0, cells := 0, slots := 0, locals := 0 } : Room)
set_option maxHeartbeats 4000000 in
set_option maxRecDepth 100000 in
theorem c_N_begin (l : Launch) (D : va_G) (q : Nat → Nat) (c : Nat → ClassId) (sz : Nat) (F : Nat → Int) (A : Nat → Int → Int) (n : Int) (hn : 1 ≤ n ∧ n ≤ 8) : zMV l zy_N_begin zc_N_begin 3 none zr_N_begin D q c sz [.ref (q 1), .int (iI (n))] F A (fun F1 A1 => F1 = fuP (fuP (fuP F 100 n) 101 0) 102 (-1) ∧ (∀ k, k ≠ 6 → k ≠ 7 → k ≠ 8 → A1 k = A k) ∧ ∀ a, 0 ≤ a → a < 8 → A1 6 a = 1 ∧ A1 7 a = 1 ∧ A1 8 a = a) := by
  refine z_ofV (by decide) (Nat.le_of_ble_eq_true rfl) ?_
  intro p e s m args below meth c0 A0 Q C0 ret hP hD hS ls hl
  obtain ⟨S, hK, hA⟩ := C0
  have hx := S.1
  have hb := S.2.1
  have hown := S.2.2.2.1
  have hts : ∀ w ∈ zG, w.before args s = true := fun w h => S.2.2.2.2 w (List.mem_cons_of_mem _ h)
  have hl : lv_has ls 3 [(0, .ref (q 1)), (1, .int (iI (n)))] := hl
  refine lv_aload_n hx hb zd_N_begin_0 rfl (lv_at hl 0 rfl) ?_
  refine lv_iload_n hx hb zd_N_begin_1 rfl (lv_at hl 1 rfl) ?_
  refine va_put (D := D) (ci := 1) (v := .int (iI (n))) (ty := .int) (C := zR_N) (T := zT_N) (N := 11) hx hb hts zi_N zk_N zo_N zn_N hown hK.1 hP hD hS 1 ga_1 rfl 0 (by decide) (hts _ zw_33) (fun _ h9 => h9) rfl (by decide +kernel) (rfl) (rfl) (Nat.le_of_ble_eq_true rfl) zd_N_begin_2 (fun H locs hP hD hS => ?_)
  rw [gs_1_0] at hP hD
  refine lv_aload_n hx hb zd_N_begin_5 rfl (lv_at hl 0 rfl) ?_
  refine lv_iconst (v := iI (0)) hx hb zd_N_begin_6 rfl ?_
  refine va_put (D := D) (ci := 1) (v := .int (iI (0))) (ty := .int) (C := zR_N) (T := zT_N) (N := 11) hx hb hts zi_N zk_N zo_N zn_N hown hK.1 hP hD hS 1 ga_1 rfl 1 (by decide) (hts _ zw_37) (fun _ h9 => h9) rfl (by decide +kernel) (rfl) (rfl) (Nat.le_of_ble_eq_true rfl) zd_N_begin_7 (fun H locs hP hD hS => ?_)
  rw [gs_1_1] at hP hD
  refine lv_aload_n hx hb zd_N_begin_10 rfl (lv_at hl 0 rfl) ?_
  refine lv_iconst (v := iI (-1)) hx hb zd_N_begin_11 rfl ?_
  refine va_put (D := D) (ci := 1) (v := .int (iI (-1))) (ty := .int) (C := zR_N) (T := zT_N) (N := 11) hx hb hts zi_N zk_N zo_N zn_N hown hK.1 hP hD hS 1 ga_1 rfl 2 (by decide) (hts _ zw_41) (fun _ h9 => h9) rfl (by decide +kernel) (rfl) (rfl) (Nat.le_of_ble_eq_true rfl) zd_N_begin_12 (fun H locs hP hD hS => ?_)
  rw [gs_1_2] at hP hD
  refine lv_iconst (v := iI (0)) hx hb zd_N_begin_15 rfl ?_
  refine lv_istore_n (lv' := [(2, .int (iI (0))), (0, .ref (q 1)), (1, .int (iI (n)))]) hx hb zd_N_begin_16 rfl hl (by decide) rfl (fun ls hl => ?_)
  have L_17 : ∀ (fu : Nat) (i : Int)  (A17 : Nat → Int → Int), (0 ≤ i ∧ i ≤ 8) → (∀ k, k ≠ 6 → k ≠ 7 → k ≠ 8 → A17 k = A k) → (∀ a, 0 ≤ a → a < i → A17 6 a = 1 ∧ A17 7 a = 1 ∧ A17 8 a = a) → (8 - i < (fu : Int)) → ∀ (H : Heap) (locs : List Loc), va_P D zcl (gw q c (fuP (fuP (fuP F 100 n) 101 0) 102 (-1)) A17) H → va_D A0 (gw q c (fuP (fuP (fuP F 100 n) 101 0) 102 (-1)) A17) → va_S A0 s.heap H locs → ∀ ls : Array Slot, lv_has ls 3 [(0, .ref (q 1)), (1, .int (iI (n))), (2, .int (iI (i)))] → W p l e zr_N_begin s m args below meth c0 H locs 0 0 Q (F0 m 17 ls []) := by
    intro fu
    induction fu with
    | zero => intro i  A17 hi hk he hm_17; exact absurd hm_17 (by omega)
    | succ fu ih_17 =>
      intro i  A17 hi hk he hm_17 H locs hP hD hS ls hl
      refine lv_iload_n hx hb zd_N_begin_17 rfl (lv_at hl 2 rfl) ?_
      refine lv_bipush (v := iI (8)) hx hb zd_N_begin_18 (by decide) ?_
      refine x_icmp_ge (tgt := 50) hx hb zd_N_begin_20 (by decide) (⟨by omega, by omega⟩) (⟨by omega, by omega⟩) (fun h_20 => ?_) (fun h_20 => ?_)
      · exact ret _ _ _ _ _ _ zd_N_begin_50 hP hD hS (⟨rfl, hk, fun a h0 h1 => he a h0 (by omega)⟩)
      · refine lv_aload_n hx hb zd_N_begin_23 rfl (lv_at hl 0 rfl) ?_
        refine va_get (D := D) (ci := 1) (v := .ref (q 6)) (C := zR_N) (T := zT_N) (N := 11) hx hb hts zi_N hown hK.1 hP 1 ga_1 rfl 3 (by decide) (hts _ zw_43) (fun _ h9 => h9) rfl zd_N_begin_24 ?_
        refine lv_iload_n hx hb zd_N_begin_27 rfl (lv_at hl 2 rfl) ?_
        refine lv_iconst (v := iI (1)) hx hb zd_N_begin_28 rfl ?_
        refine x_iast hx hb hK.1 hP hD hS 6 0 ga_6 rfl (by decide) (by omega) (by omega) zd_N_begin_29 (fun H locs hP hD hS => ?_)
        rw [gs_6] at hP hD
        refine lv_aload_n hx hb zd_N_begin_30 rfl (lv_at hl 0 rfl) ?_
        refine va_get (D := D) (ci := 1) (v := .ref (q 7)) (C := zR_N) (T := zT_N) (N := 11) hx hb hts zi_N hown hK.1 hP 1 ga_1 rfl 4 (by decide) (hts _ zw_46) (fun _ h9 => h9) rfl zd_N_begin_31 ?_
        refine lv_iload_n hx hb zd_N_begin_34 rfl (lv_at hl 2 rfl) ?_
        refine lv_iconst (v := iI (1)) hx hb zd_N_begin_35 rfl ?_
        refine x_iast hx hb hK.1 hP hD hS 7 0 ga_7 rfl (by decide) (by omega) (by omega) zd_N_begin_36 (fun H locs hP hD hS => ?_)
        rw [gs_7] at hP hD
        refine lv_aload_n hx hb zd_N_begin_37 rfl (lv_at hl 0 rfl) ?_
        refine va_get (D := D) (ci := 1) (v := .ref (q 8)) (C := zR_N) (T := zT_N) (N := 11) hx hb hts zi_N hown hK.1 hP 1 ga_1 rfl 5 (by decide) (hts _ zw_51) (fun _ h9 => h9) rfl zd_N_begin_38 ?_
        refine lv_iload_n hx hb zd_N_begin_41 rfl (lv_at hl 2 rfl) ?_
        refine lv_iload_n hx hb zd_N_begin_42 rfl (lv_at hl 2 rfl) ?_
        refine x_iast hx hb hK.1 hP hD hS 8 0 ga_8 rfl (by decide) (by omega) (by omega) zd_N_begin_43 (fun H locs hP hD hS => ?_)
        rw [gs_8] at hP hD
        refine lv_iinc (v := iI (i + 1)) (lv' := [(2, .int (iI (i + 1))), (0, .ref (q 1)), (1, .int (iI (n)))]) hx hb zd_N_begin_44 hl (k := 2) rfl (iI_add _ _) (by decide) rfl (fun ls hl => ?_)
        refine lv_goto (tgt := 17) hx hb zd_N_begin_47 (by decide) ?_
        exact ih_17 (i + 1)  (auP (auP (auP A17 6 i 1) 7 i 1) 8 i i) (by first | assumption | omega | (simp_all; done)) (fun k h6 h7 h8 => by simp [auP, h6, h7, h8, hk k h6 h7 h8]) (fun a h0 h1 => by by_cases e_ : a = i; (subst e_; simp [auP, upI]); (have := he a h0 (by omega); simp [auP, upI, e_, this])) (by omega) _ _ hP hD hS ls (lv_sub hl [1, 2, 0] rfl)
  exact L_17 (((8 - (0) : Int) + 1).toNat) (0)  A (by first | assumption | omega | (simp_all; done)) (fun k _ _ _ => rfl) (fun a h0 h1 => by omega) (by omega) _ _ hP hD hS ls (lv_sub hl [1, 2, 0] rfl)

abbrev zr_N_multiply : Room := ({ frames := 0, cells := 0, slots := 0, locals := 0 } : Room)
set_option maxHeartbeats 4000000 in
set_option maxRecDepth 100000 in
theorem c_N_multiply (l : Launch) (D : va_G) (q : Nat → Nat) (c : Nat → ClassId) (sz : Nat) (F : Nat → Int) (A : Nat → Int → Int) (w : Int) (f : Int) (hn : 1 ≤ F 100 ∧ F 100 ≤ 8) (hw : 0 ≤ w ∧ w < 8) (hp : ∀ a, 0 ≤ a → a < 8 → 0 ≤ A 8 a ∧ A 8 a < 8) : zMV l zy_N_multiply zc_N_multiply 4 none zr_N_multiply D q c sz [.ref (q 1), .int (iI (w)), .int (iI (f))] F A (fun F1 A1 => F1 = F ∧ (∀ k, k ≠ 7 → A1 k = A k) ∧ ∀ a, A1 7 a = if 0 ≤ a ∧ a < F 100 ∧ A 8 a = w then A 7 a * f else A 7 a) := by
  refine z_ofV (by decide) (Nat.le_of_ble_eq_true rfl) ?_
  intro p e s m args below meth c0 A0 Q C0 ret hP hD hS ls hl
  obtain ⟨S, hK, hA⟩ := C0
  have hx := S.1
  have hb := S.2.1
  have hown := S.2.2.2.1
  have hts : ∀ w ∈ zG, w.before args s = true := fun w h => S.2.2.2.2 w (List.mem_cons_of_mem _ h)
  have hl : lv_has ls 4 [(0, .ref (q 1)), (1, .int (iI (w))), (2, .int (iI (f)))] := hl
  refine lv_iconst (v := iI (0)) hx hb zd_N_multiply_0 rfl ?_
  refine lv_istore_n (lv' := [(3, .int (iI (0))), (0, .ref (q 1)), (1, .int (iI (w))), (2, .int (iI (f)))]) hx hb zd_N_multiply_1 rfl hl (by decide) rfl (fun ls hl => ?_)
  have L_2 : ∀ (fu : Nat) (i : Int)  (A2 : Nat → Int → Int), (0 ≤ i ∧ i ≤ F 100) → (∀ k, k ≠ 7 → A2 k = A k) → (∀ a, A2 7 a = if 0 ≤ a ∧ a < i ∧ A 8 a = w then A 7 a * f else A 7 a) → (F 100 - i < (fu : Int)) → ∀ (H : Heap) (locs : List Loc), va_P D zcl (gw q c F A2) H → va_D A0 (gw q c F A2) → va_S A0 s.heap H locs → ∀ ls : Array Slot, lv_has ls 4 [(0, .ref (q 1)), (1, .int (iI (w))), (2, .int (iI (f))), (3, .int (iI (i)))] → W p l e zr_N_multiply s m args below meth c0 H locs 0 0 Q (F0 m 2 ls []) := by
    intro fu
    induction fu with
    | zero => intro i  A2 hi hk he hm_2; exact absurd hm_2 (by omega)
    | succ fu ih_2 =>
      intro i  A2 hi hk he hm_2 H locs hP hD hS ls hl
      have h8 := hk 8 (by decide)
      refine lv_iload_n hx hb zd_N_multiply_2 rfl (lv_at hl 3 rfl) ?_
      refine lv_aload_n hx hb zd_N_multiply_3 rfl (lv_at hl 0 rfl) ?_
      refine va_get (D := D) (ci := 1) (v := .int (iI (F 100))) (C := zR_N) (T := zT_N) (N := 11) hx hb hts zi_N hown hK.1 hP 1 ga_1 rfl 0 (by decide) (hts _ zw_33) (fun _ h9 => h9) rfl zd_N_multiply_4 ?_
      refine x_icmp_ge (tgt := 36) hx hb zd_N_multiply_7 (by decide) (⟨by omega, by omega⟩) (⟨by omega, by omega⟩) (fun h_7 => ?_) (fun h_7 => ?_)
      · have e_ : i = F 100 := by omega
        subst e_
        exact ret _ _ _ _ _ _ zd_N_multiply_36 hP hD hS (⟨rfl, hk, he⟩)
      · have hc_ := hp i (by omega) (by omega)
        refine lv_aload_n hx hb zd_N_multiply_10 rfl (lv_at hl 0 rfl) ?_
        refine va_get (D := D) (ci := 1) (v := .ref (q 8)) (C := zR_N) (T := zT_N) (N := 11) hx hb hts zi_N hown hK.1 hP 1 ga_1 rfl 5 (by decide) (hts _ zw_51) (fun _ h9 => h9) rfl zd_N_multiply_11 ?_
        refine lv_iload_n hx hb zd_N_multiply_14 rfl (lv_at hl 3 rfl) ?_
        refine x_iald (v := A 8 i) hx hb hK.1 hP 8 0 ga_8 rfl (by decide) (by omega) (by omega) (by rw [h8]) zd_N_multiply_15 ?_
        refine lv_iload_n hx hb zd_N_multiply_16 rfl (lv_at hl 1 rfl) ?_
        refine x_icmp_ne (tgt := 30) hx hb zd_N_multiply_17 (by decide) (⟨by omega, by omega⟩) (⟨by omega, by omega⟩) (fun h_17 => ?_) (fun h_17 => ?_)
        · refine lv_iinc (v := iI (i + 1)) (lv' := [(3, .int (iI (i + 1))), (0, .ref (q 1)), (1, .int (iI (w))), (2, .int (iI (f)))]) hx hb zd_N_multiply_30 hl (k := 3) rfl (iI_add _ _) (by decide) rfl (fun ls hl => ?_)
          refine lv_goto (tgt := 2) hx hb zd_N_multiply_33 (by decide) ?_
          exact ih_2 (i + 1)  A2 (by first | assumption | omega | (simp_all; done)) (fun k h7 => by first | exact hk k h7 | simp [auP, h7, hk k h7]) (by first | exact lu_n he h_17 | exact lu_y he (by omega) h_17 (by rw [lu_o he])) (by omega) _ _ hP hD hS ls (lv_sub hl [1, 2, 3, 0] rfl)
        · refine lv_aload_n hx hb zd_N_multiply_20 rfl (lv_at hl 0 rfl) ?_
          refine va_get (D := D) (ci := 1) (v := .ref (q 7)) (C := zR_N) (T := zT_N) (N := 11) hx hb hts zi_N hown hK.1 hP 1 ga_1 rfl 4 (by decide) (hts _ zw_46) (fun _ h9 => h9) rfl zd_N_multiply_21 ?_
          refine lv_iload_n hx hb zd_N_multiply_24 rfl (lv_at hl 3 rfl) ?_
          refine lv_dup2_11 hx hb zd_N_multiply_25 rfl rfl ?_
          refine x_iald (v := A2 7 i) hx hb hK.1 hP 7 0 ga_7 rfl (by decide) (by omega) (by omega) (rfl) zd_N_multiply_26 ?_
          refine lv_iload_n hx hb zd_N_multiply_27 rfl (lv_at hl 2 rfl) ?_
          refine x_imul hx hb zd_N_multiply_28 ?_
          refine x_iast hx hb hK.1 hP hD hS 7 0 ga_7 rfl (by decide) (by omega) (by omega) zd_N_multiply_29 (fun H locs hP hD hS => ?_)
          rw [gs_7] at hP hD
          refine lv_iinc (v := iI (i + 1)) (lv' := [(3, .int (iI (i + 1))), (0, .ref (q 1)), (1, .int (iI (w))), (2, .int (iI (f)))]) hx hb zd_N_multiply_30 hl (k := 3) rfl (iI_add _ _) (by decide) rfl (fun ls hl => ?_)
          refine lv_goto (tgt := 2) hx hb zd_N_multiply_33 (by decide) ?_
          exact ih_2 (i + 1)  (auP A2 7 i ((A2 7 i) * f)) (by first | assumption | omega | (simp_all; done)) (fun k h7 => by first | exact hk k h7 | simp [auP, h7, hk k h7]) (by first | exact lu_n he h_17 | exact lu_y he (by omega) h_17 (by rw [lu_o he])) (by omega) _ _ hP hD hS ls (lv_sub hl [1, 2, 3, 0] rfl)
  exact L_2 (((F 100 - (0) : Int) + 1).toNat) (0)  A (by first | assumption | omega | (simp_all; done)) (fun k _ => rfl) (fun a => by rw [if_neg (by omega)]) (by omega) _ _ hP hD hS ls (lv_sub hl [1, 2, 3, 0] rfl)

abbrev zr_N_join : Room := ({ frames := 1, cells := 0, slots := 0, locals := 29 } : Room)
set_option maxHeartbeats 4000000 in
set_option maxRecDepth 100000 in
theorem c_N_join (l : Launch) (D : va_G) (q : Nat → Nat) (c : Nat → ClassId) (sz : Nat) (F : Nat → Int) (A : Nat → Int → Int) (x : Int) (y : Int) (hn : 1 ≤ F 100 ∧ F 100 ≤ 8) (hw : (0 ≤ x ∧ x < 8) ∧ 0 ≤ y ∧ y < 8) (hp : ∀ a, 0 ≤ a → a < 8 → 0 ≤ A 8 a ∧ A 8 a < 8) : zMV l zy_N_join zc_N_join 6 none zr_N_join D q c sz [.ref (q 1), .int (iI (x)), .int (iI (y))] F A (fun F1 A1 => F1 = F ∧ (∀ k, k ≠ 8 → A1 k = A k) ∧ ∀ a, A1 8 a = if 0 ≤ a ∧ a < F 100 ∧ A 8 a = max x y then min x y else A 8 a) := by
  refine z_ofV (by decide) (Nat.le_of_ble_eq_true rfl) ?_
  intro p e s m args below meth c0 A0 Q C0 ret hP hD hS ls hl
  obtain ⟨S, hK, hA⟩ := C0
  have hx := S.1
  have hb := S.2.1
  have hown := S.2.2.2.1
  have hts : ∀ w ∈ zG, w.before args s = true := fun w h => S.2.2.2.2 w (List.mem_cons_of_mem _ h)
  have hl : lv_has ls 6 [(0, .ref (q 1)), (1, .int (iI (x))), (2, .int (iI (y)))] := hl
  refine lv_iload_n hx hb zd_N_join_0 rfl (lv_at hl 1 rfl) ?_
  refine lv_iload_n hx hb zd_N_join_1 rfl (lv_at hl 2 rfl) ?_
  refine x_mmin hx hb (S.2.2.1.trans hl.1.symm) hown (hts _ zw_244) (hts _ zw_245) (hts _ zw_7) (hts _ zw_246) (by decide) (Nat.le_of_ble_eq_true rfl) (Nat.zero_le _) (Nat.zero_le _) (⟨by omega, by omega⟩) (⟨by omega, by omega⟩) zd_N_join_2 ?_
  refine lv_istore_n (lv' := [(3, .int (iI (min x y))), (0, .ref (q 1)), (1, .int (iI (x))), (2, .int (iI (y)))]) hx hb zd_N_join_5 rfl hl (by decide) rfl (fun ls hl => ?_)
  refine lv_iload_n hx hb zd_N_join_6 rfl (lv_at hl 2 rfl) ?_
  refine lv_iload_n hx hb zd_N_join_7 rfl (lv_at hl 3 rfl) ?_
  refine x_mmax hx hb (S.2.2.1.trans hl.1.symm) hown (hts _ zw_247) (hts _ zw_248) (hts _ zw_7) (hts _ zw_249) (by decide) (Nat.le_of_ble_eq_true rfl) (Nat.zero_le _) (Nat.zero_le _) (⟨by omega, by omega⟩) (⟨by omega, by omega⟩) zd_N_join_8 ?_
  refine lv_istore (lv' := [(4, .int (iI (max x y))), (3, .int (iI (min x y))), (0, .ref (q 1)), (1, .int (iI (x))), (2, .int (iI (y)))]) hx hb zd_N_join_11 hl (by decide) rfl (fun ls hl => ?_)
  refine lv_iconst (v := iI (0)) hx hb zd_N_join_13 rfl ?_
  refine lv_istore (lv' := [(5, .int (iI (0))), (4, .int (iI (max x y))), (3, .int (iI (min x y))), (0, .ref (q 1)), (1, .int (iI (x))), (2, .int (iI (y)))]) hx hb zd_N_join_14 hl (by decide) rfl (fun ls hl => ?_)
  have L_16 : ∀ (fu : Nat) (i : Int)  (A16 : Nat → Int → Int), (0 ≤ i ∧ i ≤ F 100) → (∀ k, k ≠ 8 → A16 k = A k) → (∀ a, A16 8 a = if 0 ≤ a ∧ a < i ∧ A 8 a = max x y then min x y else A 8 a) → (F 100 - i < (fu : Int)) → ∀ (H : Heap) (locs : List Loc), va_P D zcl (gw q c F A16) H → va_D A0 (gw q c F A16) → va_S A0 s.heap H locs → ∀ ls : Array Slot, lv_has ls 6 [(0, .ref (q 1)), (1, .int (iI (x))), (2, .int (iI (y))), (3, .int (iI (min x y))), (4, .int (iI (max x y))), (5, .int (iI (i)))] → W p l e zr_N_join s m args below meth c0 H locs 0 0 Q (F0 m 16 ls []) := by
    intro fu
    induction fu with
    | zero => intro i  A16 hi hk he hm_16; exact absurd hm_16 (by omega)
    | succ fu ih_16 =>
      intro i  A16 hi hk he hm_16 H locs hP hD hS ls hl
      refine lv_iload hx hb zd_N_join_16 (lv_at hl 5 rfl) ?_
      refine lv_aload_n hx hb zd_N_join_18 rfl (lv_at hl 0 rfl) ?_
      refine va_get (D := D) (ci := 1) (v := .int (iI (F 100))) (C := zR_N) (T := zT_N) (N := 11) hx hb hts zi_N hown hK.1 hP 1 ga_1 rfl 0 (by decide) (hts _ zw_33) (fun _ h9 => h9) rfl zd_N_join_19 ?_
      refine x_icmp_ge (tgt := 51) hx hb zd_N_join_22 (by decide) (⟨by omega, by omega⟩) (⟨by omega, by omega⟩) (fun h_22 => ?_) (fun h_22 => ?_)
      · have e_ : i = F 100 := by omega
        subst e_
        exact ret _ _ _ _ _ _ zd_N_join_51 hP hD hS (⟨rfl, hk, he⟩)
      · have hc_ := hp i (by omega) (by omega)
        have h8 : A16 8 i = A 8 i := by rw [he i, if_neg (by omega)]
        refine lv_aload_n hx hb zd_N_join_25 rfl (lv_at hl 0 rfl) ?_
        refine va_get (D := D) (ci := 1) (v := .ref (q 8)) (C := zR_N) (T := zT_N) (N := 11) hx hb hts zi_N hown hK.1 hP 1 ga_1 rfl 5 (by decide) (hts _ zw_51) (fun _ h9 => h9) rfl zd_N_join_26 ?_
        refine lv_iload hx hb zd_N_join_29 (lv_at hl 5 rfl) ?_
        refine x_iald (v := A 8 i) hx hb hK.1 hP 8 0 ga_8 rfl (by decide) (by omega) (by omega) (h8) zd_N_join_31 ?_
        refine lv_iload hx hb zd_N_join_32 (lv_at hl 4 rfl) ?_
        refine x_icmp_ne (tgt := 45) hx hb zd_N_join_34 (by decide) (⟨by omega, by omega⟩) (⟨by omega, by omega⟩) (fun h_34 => ?_) (fun h_34 => ?_)
        · refine lv_iinc (v := iI (i + 1)) (lv' := [(5, .int (iI (i + 1))), (0, .ref (q 1)), (1, .int (iI (x))), (2, .int (iI (y))), (3, .int (iI (min x y))), (4, .int (iI (max x y)))]) hx hb zd_N_join_45 hl (k := 5) rfl (iI_add _ _) (by decide) rfl (fun ls hl => ?_)
          refine lv_goto (tgt := 16) hx hb zd_N_join_48 (by decide) ?_
          exact ih_16 (i + 1)  A16 (by first | assumption | omega | (simp_all; done)) (fun k h7 => by first | exact hk k h7 | simp [auP, h7, hk k h7]) (by first | exact lu_n he h_34 | exact lu_y he (by omega) h_34 rfl) (by omega) _ _ hP hD hS ls (lv_sub hl [1, 2, 3, 4, 5, 0] rfl)
        · refine lv_aload_n hx hb zd_N_join_37 rfl (lv_at hl 0 rfl) ?_
          refine va_get (D := D) (ci := 1) (v := .ref (q 8)) (C := zR_N) (T := zT_N) (N := 11) hx hb hts zi_N hown hK.1 hP 1 ga_1 rfl 5 (by decide) (hts _ zw_51) (fun _ h9 => h9) rfl zd_N_join_38 ?_
          refine lv_iload hx hb zd_N_join_41 (lv_at hl 5 rfl) ?_
          refine lv_iload_n hx hb zd_N_join_43 rfl (lv_at hl 3 rfl) ?_
          refine x_iast hx hb hK.1 hP hD hS 8 0 ga_8 rfl (by decide) (by omega) (by omega) zd_N_join_44 (fun H locs hP hD hS => ?_)
          rw [gs_8] at hP hD
          refine lv_iinc (v := iI (i + 1)) (lv' := [(5, .int (iI (i + 1))), (0, .ref (q 1)), (1, .int (iI (x))), (2, .int (iI (y))), (3, .int (iI (min x y))), (4, .int (iI (max x y)))]) hx hb zd_N_join_45 hl (k := 5) rfl (iI_add _ _) (by decide) rfl (fun ls hl => ?_)
          refine lv_goto (tgt := 16) hx hb zd_N_join_48 (by decide) ?_
          exact ih_16 (i + 1)  (auP A16 8 i (min x y)) (by first | assumption | omega | (simp_all; done)) (fun k h7 => by first | exact hk k h7 | simp [auP, h7, hk k h7]) (by first | exact lu_n he h_34 | exact lu_y he (by omega) h_34 rfl) (by omega) _ _ hP hD hS ls (lv_sub hl [1, 2, 3, 4, 5, 0] rfl)
  exact L_16 (((F 100 - (0) : Int) + 1).toNat) (0)  A (by first | assumption | omega | (simp_all; done)) (fun k _ => rfl) (fun a => by rw [if_neg (by omega)]) (by omega) _ _ hP hD hS ls (lv_sub hl [3, 4, 5, 2, 1, 0] rfl)
