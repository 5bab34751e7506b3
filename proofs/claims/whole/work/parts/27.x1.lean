/-- the round that the reference holds -/
def RmOK (F : Nat → Int) (A : Nat → Int → Int) : Prop := (0 ≤ F 520 ∧ F 520 ≤ 400) ∧ rok (F 501) (F 502) (A 36) (A 37) (A 38) (A 39) (A 44, A 40, A 40) (A 48) (F 520).toNat ∧ rat (F 501) (F 502) (rrun (A 36) (A 37) (A 38) (A 39) (A 44, A 40, A 40) (A 48) (F 520).toNat) (A 45) (A 46) (A 47) ∧ rnon (F 501) (F 502) (A 37) (A 39) (rrun (A 36) (A 37) (A 38) (A 39) (A 44, A 40, A 40) (A 48) (F 520).toNat)
theorem xat_b {F : Nat → Int} {A : Nat → Int → Int} {od l1 l2 l3 : Int → Int} {i : Int} (hi : 0 ≤ i ∧ i ≤ 400) (hmc : ∀ a, 0 ≤ a → a < F 501 → 1 ≤ A 44 a ∧ A 44 a ≤ 400) (hmch : ∀ k, 0 ≤ k → k < F 502 → (0 ≤ A 36 k ∧ A 36 k < F 501) ∧ (0 ≤ A 37 k ∧ A 37 k < F 501) ∧ (1 ≤ A 38 k ∧ A 38 k ≤ 9) ∧ (1 ≤ A 39 k ∧ A 39 k ≤ 9) ∧ 0 ≤ A 40 k ∧ A 40 k ≤ 99)
    (hr : rok (F 501) (F 502) (A 36) (A 37) (A 38) (A 39) (A 44, A 40, A 40) od i.toNat) (hs : rat (F 501) (F 502) (rrun (A 36) (A 37) (A 38) (A 39) (A 44, A 40, A 40) od i.toNat) l1 l2 l3) :
    (∀ k, 0 ≤ k → k < F 502 → (0 ≤ l2 k ∧ l2 k ≤ 99999) ∧ 0 ≤ l3 k ∧ l3 k ≤ 99999) ∧ (∀ a, 0 ≤ a → a < F 501 → 0 ≤ l1 a ∧ l1 a ≤ 400) ∧ (∀ a, 0 ≤ a → a < F 501 → 0 < l1 a → sI (A 44) (F 501) ≤ 400 → i < 400) := by
  have h := rok_bound (fun k h0 h1 => (hmch k h0 h1).2.2.1) (fun k h0 h1 => (hmch k h0 h1).2.2.2.1) ⟨fun a h0 h1 => by have := hmc a h0 h1; show 0 ≤ A 44 a; omega, fun k h0 h1 => by have := hmch k h0 h1; show (0 ≤ A 40 k ∧ A 40 k ≤ 99) ∧ 0 ≤ A 40 k ∧ A 40 k ≤ 99; omega⟩ i.toNat hr
  have hsm := rok_sum i.toNat hr
  refine ⟨fun k h0 h1 => ?_, fun a h0 h1 => ?_, fun a h0 h1 h2 h3 => ?_⟩
  · have := h.2 k h0 h1
    rw [(hs.2 k h0 h1).1, (hs.2 k h0 h1).2]
    omega
  · have := h.1 a h0 h1
    have h2 := hmc a h0 h1
    rw [hs.1 a h0 h1]
    have e : ((A 44, A 40, A 40) : rT).1 a = A 44 a := rfl
    omega
  · rw [hs.1 a h0 h1] at h2
    have h4 := sI_le (f := (rrun (A 36) (A 37) (A 38) (A 39) (A 44, A 40, A 40) od i.toNat).1) (n := F 501) (fun b b0 b1 => (h.1 b b0 b1).1) a h0 h1
    have e : sI ((A 44, A 40, A 40) : rT).1 (F 501) = sI (A 44) (F 501) := rfl
    omega
abbrev zr_X_thrown : Room := ({ frames := 0, cells := 0, slots := 0, locals := 0 } : Room)
set_option maxHeartbeats 4000000 in
set_option maxRecDepth 100000 in
theorem c_X_thrown (l : Launch) (D : va_G) (q : Nat → Nat) (c : Nat → ClassId) (sz : Nat) (F : Nat → Int) (A : Nat → Int → Int)   : zMI l zy_X_thrown zc_X_thrown 1 (some .int) zr_X_thrown D q c sz [.ref (q 5)] F A (fun z F1 A1 => F1 = F ∧ A1 = A ∧ z = F 500) := by
  refine z_ofI (by decide) (Nat.le_of_ble_eq_true rfl) ?_
  intro p e s m args below meth c0 A0 Q C0 ret hP hD hS ls hl
  obtain ⟨S, hK, hA⟩ := C0
  have hx := S.1
  have hb := S.2.1
  have hown := S.2.2.2.1
  have hts : ∀ w ∈ zG, w.before args s = true := fun w h => S.2.2.2.2 w (List.mem_cons_of_mem _ h)
  have hl : lv_has ls 1 [(0, .ref (q 5))] := hl
  refine lv_aload_n hx hb zd_X_thrown_0 rfl (lv_at hl 0 rfl) ?_
  refine va_get (D := D) (ci := 5) (v := .int (iI (F 500))) (C := zR_X) (T := zT_X) (N := 34) hx hb hts zi_X hown hK.1 hP 5 ga_5 rfl 0 (by decide) (hts _ zw_533) (fun _ h9 => h9) rfl zd_X_thrown_1 ?_
  exact ret _ _ _ _ _ _ _ zd_X_thrown_4 hP hD hS (⟨rfl, rfl, rfl⟩)

abbrev zr_X_raise : Room := ({ frames := 0, cells := 0, slots := 0, locals := 0 } : Room)
set_option maxHeartbeats 4000000 in
set_option maxRecDepth 100000 in
theorem c_X_raise (l : Launch) (D : va_G) (q : Nat → Nat) (c : Nat → ClassId) (sz : Nat) (F : Nat → Int) (A : Nat → Int → Int) (x : Int)  : zMI l zy_X_raise zc_X_raise 2 (some .int) zr_X_raise D q c sz [.ref (q 5), .int (iI (x))] F A (fun z F1 A1 => z = 0 ∧ F1 = fuP F 500 x ∧ A1 = A) := by
  refine z_ofI (by decide) (Nat.le_of_ble_eq_true rfl) ?_
  intro p e s m args below meth c0 A0 Q C0 ret hP hD hS ls hl
  obtain ⟨S, hK, hA⟩ := C0
  have hx := S.1
  have hb := S.2.1
  have hown := S.2.2.2.1
  have hts : ∀ w ∈ zG, w.before args s = true := fun w h => S.2.2.2.2 w (List.mem_cons_of_mem _ h)
  have hl : lv_has ls 2 [(0, .ref (q 5)), (1, .int (iI (x)))] := hl
  refine lv_aload_n hx hb zd_X_raise_0 rfl (lv_at hl 0 rfl) ?_
  refine lv_iload_n hx hb zd_X_raise_1 rfl (lv_at hl 1 rfl) ?_
  refine va_put (D := D) (ci := 5) (v := .int (iI (x))) (ty := .int) (C := zR_X) (T := zT_X) (N := 34) hx hb hts zi_X zk_X zo_X zn_X hown hK.1 hP hD hS 5 ga_5 rfl 0 (by decide) (hts _ zw_533) (fun _ h9 => h9) rfl (by decide +kernel) (rfl) (rfl) (Nat.le_of_ble_eq_true rfl) zd_X_raise_2 (fun H locs hP hD hS => ?_)
  rw [gs_5_0] at hP hD
  refine lv_iconst (v := iI (0)) hx hb zd_X_raise_5 rfl ?_
  exact ret _ _ _ _ _ _ _ zd_X_raise_6 hP hD hS (⟨rfl, rfl, rfl⟩)

abbrev zr_X_graph : Room := ({ frames := 1, cells := 0, slots := 0, locals := 22 } : Room)
set_option maxHeartbeats 4000000 in
set_option maxRecDepth 100000 in
theorem c_X_graph (l : Launch) (D : va_G) (q : Nat → Nat) (c : Nat → ClassId) (sz : Nat) (F : Nat → Int) (A : Nat → Int → Int) (n : Int) (bn : ib n) : zMI l zy_X_graph zc_X_graph 3 (some .boolean) zr_X_graph D q c sz [.ref (q 5), .int (iI (n))] F A (fun z F1 A1 => (1 ≤ n ∧ n ≤ 8 → z = 1 ∧ F1 = fuP (fuP (fuP (fuP F 500 0) 501 n) 502 0) 509 0 ∧ (∀ k, k ≠ 35 → A1 k = A k) ∧ ∀ a, 0 ≤ a → a < 8 → A1 35 a = 1) ∧ (¬ (1 ≤ n ∧ n ≤ 8) → z = 0 ∧ F1 = fuP F 500 0 ∧ A1 = A)) := by
  refine z_ofB (by decide) (Nat.le_of_ble_eq_true rfl) ?_
  intro p e s m args below meth c0 A0 Q C0 ret hP hD hS ls hl
  obtain ⟨S, hK, hA⟩ := C0
  have hx := S.1
  have hb := S.2.1
  have hown := S.2.2.2.1
  have hts : ∀ w ∈ zG, w.before args s = true := fun w h => S.2.2.2.2 w (List.mem_cons_of_mem _ h)
  have hl : lv_has ls 3 [(0, .ref (q 5)), (1, .int (iI (n)))] := hl
  refine lv_aload_n hx hb zd_X_graph_0 rfl (lv_at hl 0 rfl) ?_
  refine lv_iconst (v := iI (0)) hx hb zd_X_graph_1 rfl ?_
  refine va_put (D := D) (ci := 5) (v := .int (iI (0))) (ty := .int) (C := zR_X) (T := zT_X) (N := 34) hx hb hts zi_X zk_X zo_X zn_X hown hK.1 hP hD hS 5 ga_5 rfl 0 (by decide) (hts _ zw_533) (fun _ h9 => h9) rfl (by decide +kernel) (rfl) (rfl) (Nat.le_of_ble_eq_true rfl) zd_X_graph_2 (fun H locs hP hD hS => ?_)
  rw [gs_5_0] at hP hD
  refine lv_iload_n hx hb zd_X_graph_5 rfl (lv_at hl 1 rfl) ?_
  refine lv_iconst (v := iI (1)) hx hb zd_X_graph_6 rfl ?_
  refine lv_bipush (v := iI (8)) hx hb zd_X_graph_7 (by decide) ?_
  refine z_goi (z_runS (n := 3) (As := [.int (iI (n)), .int (iI (1)), .int (iI (8))]) (rest := []) S (c_X_in l D q c _ (fuP F 500 0) A n 1 8 (by first | assumption | omega | exact ⟨by omega, by omega⟩) (by first | assumption | omega | exact ⟨by omega, by omega⟩) (by first | assumption | omega | exact ⟨by omega, by omega⟩)) zw_646 zw_647 zw_6 zw_648 ⟨by decide +kernel, by decide, rfl, rfl⟩ rfl hK hP hD rfl hl.1 rfl (Nat.le_of_ble_eq_true rfl) zd_X_graph_9 ⟨Nat.zero_le _, Nat.zero_le _⟩) hD hS hA (fun z_9 F_9 A_9 H locs hq_9 hP hD hS => ?_)
  obtain ⟨hf_9, ha_9, hq_9⟩ := hq_9
  rw [hf_9, ha_9] at hP hD
  have b9_ : z_9 = 0 ∨ z_9 = 1 := by rw [hq_9]; split <;> simp
  refine x_if_ne (tgt := 17) hx hb zd_X_graph_12 (by decide) (⟨by omega, by omega⟩) (fun h_12 => ?_) (fun h_12 => ?_)
  · have hn_ : 1 ≤ n ∧ n ≤ 8 := by (rw [hq_9] at h_12; split at h_12 <;> omega)
    refine lv_aload_n hx hb zd_X_graph_17 rfl (lv_at hl 0 rfl) ?_
    refine lv_iload_n hx hb zd_X_graph_18 rfl (lv_at hl 1 rfl) ?_
    refine va_put (D := D) (ci := 5) (v := .int (iI (n))) (ty := .int) (C := zR_X) (T := zT_X) (N := 34) hx hb hts zi_X zk_X zo_X zn_X hown hK.1 hP hD hS 5 ga_5 rfl 1 (by decide) (hts _ zw_534) (fun _ h9 => h9) rfl (by decide +kernel) (rfl) (rfl) (Nat.le_of_ble_eq_true rfl) zd_X_graph_19 (fun H locs hP hD hS => ?_)
    rw [gs_5_1] at hP hD
    refine lv_aload_n hx hb zd_X_graph_22 rfl (lv_at hl 0 rfl) ?_
    refine lv_iconst (v := iI (0)) hx hb zd_X_graph_23 rfl ?_
    refine va_put (D := D) (ci := 5) (v := .int (iI (0))) (ty := .int) (C := zR_X) (T := zT_X) (N := 34) hx hb hts zi_X zk_X zo_X zn_X hown hK.1 hP hD hS 5 ga_5 rfl 2 (by decide) (hts _ zw_535) (fun _ h9 => h9) rfl (by decide +kernel) (rfl) (rfl) (Nat.le_of_ble_eq_true rfl) zd_X_graph_24 (fun H locs hP hD hS => ?_)
    rw [gs_5_2] at hP hD
    refine lv_iconst (v := iI (0)) hx hb zd_X_graph_27 rfl ?_
    refine lv_istore_n (lv' := [(2, .int (iI (0))), (0, .ref (q 5)), (1, .int (iI (n)))]) hx hb zd_X_graph_28 rfl hl (by decide) rfl (fun ls hl => ?_)
    have L_29 : ∀ (fu : Nat) (i : Int)  (A29 : Nat → Int → Int), (0 ≤ i ∧ i ≤ 8) → (∀ k, k ≠ 35 → A29 k = A k) → (∀ a, 0 ≤ a → a < i → A29 35 a = 1) → (8 - i < (fu : Int)) → ∀ (H : Heap) (locs : List Loc), va_P D zcl (gw q c (fuP (fuP (fuP F 500 0) 501 n) 502 0) A29) H → va_D A0 (gw q c (fuP (fuP (fuP F 500 0) 501 n) 502 0) A29) → va_S A0 s.heap H locs → ∀ ls : Array Slot, lv_has ls 3 [(0, .ref (q 5)), (1, .int (iI (n))), (2, .int (iI (i)))] → W p l e zr_X_graph s m args below meth c0 H locs 0 0 Q (F0 m 29 ls []) := by
      intro fu
      induction fu with
      | zero => intro i  A29 hi hk he hm_29; exact absurd hm_29 (by omega)
      | succ fu ih_29 =>
        intro i  A29 hi hk he hm_29 H locs hP hD hS ls hl
        refine lv_iload_n hx hb zd_X_graph_29 rfl (lv_at hl 2 rfl) ?_
        refine lv_bipush (v := iI (8)) hx hb zd_X_graph_30 (by decide) ?_
        refine x_icmp_ge (tgt := 48) hx hb zd_X_graph_32 (by decide) (⟨by omega, by omega⟩) (⟨by omega, by omega⟩) (fun h_32 => ?_) (fun h_32 => ?_)
        · refine lv_aload_n hx hb zd_X_graph_48 rfl (lv_at hl 0 rfl) ?_
          refine lv_iconst (v := iI (0)) hx hb zd_X_graph_49 rfl ?_
          refine va_put (D := D) (ci := 5) (v := .int (iI (0))) (ty := .boolean) (C := zR_X) (T := zT_X) (N := 34) hx hb hts zi_X zk_X zo_X zn_X hown hK.1 hP hD hS 5 ga_5 rfl 9 (by decide) (hts _ zw_542) (fun _ h9 => h9) rfl (by decide +kernel) (rfl) (rfl) (Nat.le_of_ble_eq_true rfl) zd_X_graph_50 (fun H locs hP hD hS => ?_)
          rw [gs_5_9] at hP hD
          refine lv_iconst (v := iI (1)) hx hb zd_X_graph_53 rfl ?_
          exact ret _ _ _ _ _ _ _ zd_X_graph_54 hP hD hS (by omega) (⟨fun _ => ⟨rfl, rfl, hk, fun a h0 h1 => he a h0 (by omega)⟩, fun h => absurd hn_ h⟩)
        · refine lv_aload_n hx hb zd_X_graph_35 rfl (lv_at hl 0 rfl) ?_
          refine va_get (D := D) (ci := 5) (v := .ref (q 35)) (C := zR_X) (T := zT_X) (N := 34) hx hb hts zi_X hown hK.1 hP 5 ga_5 rfl 3 (by decide) (hts _ zw_536) (fun _ h9 => h9) rfl zd_X_graph_36 ?_
          refine lv_iload_n hx hb zd_X_graph_39 rfl (lv_at hl 2 rfl) ?_
          refine lv_iconst (v := iI (1)) hx hb zd_X_graph_40 rfl ?_
          refine x_iast hx hb hK.1 hP hD hS 35 0 ga_35 rfl (by decide) (by omega) (by omega) zd_X_graph_41 (fun H locs hP hD hS => ?_)
          rw [gs_35] at hP hD
          refine lv_iinc (v := iI (i + 1)) (lv' := [(2, .int (iI (i + 1))), (0, .ref (q 5)), (1, .int (iI (n)))]) hx hb zd_X_graph_42 hl (k := 2) rfl (iI_add _ _) (by decide) rfl (fun ls hl => ?_)
          refine lv_goto (tgt := 29) hx hb zd_X_graph_45 (by decide) ?_
          exact ih_29 (i + 1)  (auP A29 35 i 1) (by first | assumption | omega | (simp_all; done)) (fun k h => by simp [auP, h, hk k h]) (fun a h0 h1 => by by_cases e_ : a = i; (subst e_; simp [auP, upI]); (have := he a h0 (by omega); simp [auP, upI, e_, this])) (by omega) _ _ hP hD hS ls (lv_sub hl [1, 2, 0] rfl)
    exact L_29 (((8 - (0) : Int) + 1).toNat) (0)  A (by first | assumption | omega | (simp_all; done)) (fun k _ => rfl) (fun a h0 h1 => by omega) (by omega) _ _ hP hD hS ls (lv_sub hl [1, 2, 0] rfl)
  · have hn_ : ¬ (1 ≤ n ∧ n ≤ 8) := by (rw [hq_9] at h_12; split at h_12 <;> omega)
    refine lv_iconst (v := iI (0)) hx hb zd_X_graph_15 rfl ?_
    exact ret _ _ _ _ _ _ _ zd_X_graph_16 hP hD hS (by omega) (⟨fun h => absurd h hn_, fun _ => ⟨rfl, rfl, rfl⟩⟩)

abbrev zr_X_time : Room := ({ frames := 1, cells := 0, slots := 0, locals := 22 } : Room)
set_option maxHeartbeats 4000000 in
set_option maxRecDepth 100000 in
theorem c_X_time (l : Launch) (D : va_G) (q : Nat → Nat) (c : Nat → ClassId) (sz : Nat) (F : Nat → Int) (A : Nat → Int → Int) (a : Int) (t : Int) (ba : ib a) (bt : ib t) (hmn : 1 ≤ F 501 ∧ F 501 ≤ 8) : zMI l zy_X_time zc_X_time 3 (some .boolean) zr_X_time D q c sz [.ref (q 5), .int (iI (a)), .int (iI (t))] F A (fun z F1 A1 => F1 = fuP F 500 0 ∧ ((0 ≤ a ∧ a < F 501) ∧ 1 ≤ t ∧ t ≤ 9 → z = 1 ∧ A1 = auP A 35 a t) ∧ (¬ ((0 ≤ a ∧ a < F 501) ∧ 1 ≤ t ∧ t ≤ 9) → z = 0 ∧ A1 = A)) := by
  refine z_ofB (by decide) (Nat.le_of_ble_eq_true rfl) ?_
  intro p e s m args below meth c0 A0 Q C0 ret hP hD hS ls hl
  obtain ⟨S, hK, hA⟩ := C0
  have hx := S.1
  have hb := S.2.1
  have hown := S.2.2.2.1
  have hts : ∀ w ∈ zG, w.before args s = true := fun w h => S.2.2.2.2 w (List.mem_cons_of_mem _ h)
  have hl : lv_has ls 3 [(0, .ref (q 5)), (1, .int (iI (a))), (2, .int (iI (t)))] := hl
  refine lv_aload_n hx hb zd_X_time_0 rfl (lv_at hl 0 rfl) ?_
  refine lv_iconst (v := iI (0)) hx hb zd_X_time_1 rfl ?_
  refine va_put (D := D) (ci := 5) (v := .int (iI (0))) (ty := .int) (C := zR_X) (T := zT_X) (N := 34) hx hb hts zi_X zk_X zo_X zn_X hown hK.1 hP hD hS 5 ga_5 rfl 0 (by decide) (hts _ zw_533) (fun _ h9 => h9) rfl (by decide +kernel) (rfl) (rfl) (Nat.le_of_ble_eq_true rfl) zd_X_time_2 (fun H locs hP hD hS => ?_)
  rw [gs_5_0] at hP hD
  refine lv_iload_n hx hb zd_X_time_5 rfl (lv_at hl 1 rfl) ?_
  refine lv_iconst (v := iI (0)) hx hb zd_X_time_6 rfl ?_
  refine lv_aload_n hx hb zd_X_time_7 rfl (lv_at hl 0 rfl) ?_
  refine va_get (D := D) (ci := 5) (v := .int (iI (F 501))) (C := zR_X) (T := zT_X) (N := 34) hx hb hts zi_X hown hK.1 hP 5 ga_5 rfl 1 (by decide) (hts _ zw_534) (fun _ h9 => h9) rfl zd_X_time_8 ?_
  refine lv_iconst (v := iI (1)) hx hb zd_X_time_11 rfl ?_
  refine x_isub hx hb zd_X_time_12 ?_
  refine z_goi (z_runS (n := 3) (As := [.int (iI (a)), .int (iI (0)), .int (iI ((F 501) - 1))]) (rest := []) S (c_X_in l D q c _ (fuP F 500 0) A a 0 ((F 501) - 1) (by first | assumption | omega | exact ⟨by omega, by omega⟩) (by first | assumption | omega | exact ⟨by omega, by omega⟩) (by first | assumption | omega | exact ⟨by omega, by omega⟩)) zw_646 zw_647 zw_6 zw_648 ⟨by decide +kernel, by decide, rfl, rfl⟩ rfl hK hP hD rfl hl.1 rfl (Nat.le_of_ble_eq_true rfl) zd_X_time_13 ⟨Nat.zero_le _, Nat.zero_le _⟩) hD hS hA (fun z_13 F_13 A_13 H locs hq_13 hP hD hS => ?_)
  obtain ⟨hf_13, ha_13, hq_13⟩ := hq_13
  rw [hf_13, ha_13] at hP hD
  have b13_ : z_13 = 0 ∨ z_13 = 1 := by rw [hq_13]; split <;> simp
  refine x_if_eq (tgt := 29) hx hb zd_X_time_16 (by decide) (⟨by omega, by omega⟩) (fun h_16 => ?_) (fun h_16 => ?_)
  · refine lv_iconst (v := iI (0)) hx hb zd_X_time_29 rfl ?_
    exact ret _ _ _ _ _ _ _ zd_X_time_30 hP hD hS (by omega) (⟨rfl, fun h => by first | (rw [if_pos (by omega)] at hq_13; omega) | (rw [if_pos h.2] at hq_23; omega), fun _ => ⟨rfl, rfl⟩⟩)
  · have ha_ : 0 ≤ a ∧ a < F 501 := by (rw [hq_13] at h_16; split at h_16 <;> omega)
    refine lv_iload_n hx hb zd_X_time_19 rfl (lv_at hl 2 rfl) ?_
    refine lv_iconst (v := iI (1)) hx hb zd_X_time_20 rfl ?_
    refine lv_bipush (v := iI (9)) hx hb zd_X_time_21 (by decide) ?_
    refine z_goi (z_runS (n := 3) (As := [.int (iI (t)), .int (iI (1)), .int (iI (9))]) (rest := []) S (c_X_in l D q c _ (fuP F 500 0) A t 1 9 (by first | assumption | omega | exact ⟨by omega, by omega⟩) (by first | assumption | omega | exact ⟨by omega, by omega⟩) (by first | assumption | omega | exact ⟨by omega, by omega⟩)) zw_646 zw_647 zw_6 zw_648 ⟨by decide +kernel, by decide, rfl, rfl⟩ rfl hK hP hD rfl hl.1 rfl (Nat.le_of_ble_eq_true rfl) zd_X_time_23 ⟨Nat.zero_le _, Nat.zero_le _⟩) hD hS hA (fun z_23 F_23 A_23 H locs hq_23 hP hD hS => ?_)
    obtain ⟨hf_23, ha_23, hq_23⟩ := hq_23
    rw [hf_23, ha_23] at hP hD
    have b23_ : z_23 = 0 ∨ z_23 = 1 := by rw [hq_23]; split <;> simp
    refine x_if_ne (tgt := 31) hx hb zd_X_time_26 (by decide) (⟨by omega, by omega⟩) (fun h_26 => ?_) (fun h_26 => ?_)
    · have ht_ : 1 ≤ t ∧ t ≤ 9 := by (rw [hq_23] at h_26; split at h_26 <;> omega)
      refine lv_aload_n hx hb zd_X_time_31 rfl (lv_at hl 0 rfl) ?_
      refine va_get (D := D) (ci := 5) (v := .ref (q 35)) (C := zR_X) (T := zT_X) (N := 34) hx hb hts zi_X hown hK.1 hP 5 ga_5 rfl 3 (by decide) (hts _ zw_536) (fun _ h9 => h9) rfl zd_X_time_32 ?_
      refine lv_iload_n hx hb zd_X_time_35 rfl (lv_at hl 1 rfl) ?_
      refine lv_iload_n hx hb zd_X_time_36 rfl (lv_at hl 2 rfl) ?_
      refine x_iast hx hb hK.1 hP hD hS 35 0 ga_35 rfl (by decide) (by omega) (by omega) zd_X_time_37 (fun H locs hP hD hS => ?_)
      rw [gs_35] at hP hD
      refine lv_iconst (v := iI (1)) hx hb zd_X_time_38 rfl ?_
      exact ret _ _ _ _ _ _ _ zd_X_time_39 hP hD hS (by omega) (⟨rfl, fun _ => ⟨rfl, rfl⟩, fun h => absurd ⟨ha_, ht_⟩ h⟩)
    · refine lv_iconst (v := iI (0)) hx hb zd_X_time_29 rfl ?_
      exact ret _ _ _ _ _ _ _ zd_X_time_30 hP hD hS (by omega) (⟨rfl, fun h => by first | (rw [if_pos (by omega)] at hq_13; omega) | (rw [if_pos h.2] at hq_23; omega), fun _ => ⟨rfl, rfl⟩⟩)

abbrev zr_X_channel : Room := ({ frames := 1, cells := 0, slots := 0, locals := 22 } : Room)
set_option maxHeartbeats 4000000 in
set_option maxRecDepth 100000 in
theorem c_X_channel (l : Launch) (D : va_G) (q : Nat → Nat) (c : Nat → ClassId) (sz : Nat) (F : Nat → Int) (A : Nat → Int → Int) (a : Int) (b : Int) (x : Int) (y : Int) (t : Int) (ba : ib a) (bb : ib b) (bx : ib x) (by_ : ib y) (bt : ib t) (hmn : 1 ≤ F 501 ∧ F 501 ≤ 8) (hmm : 0 ≤ F 502 ∧ F 502 ≤ 14) : zMI l zy_X_channel zc_X_channel 6 (some .int) zr_X_channel D q c sz [.ref (q 5), .int (iI (a)), .int (iI (b)), .int (iI (x)), .int (iI (y)), .int (iI (t))] F A (fun z F1 A1 => (((0 ≤ a ∧ a < F 501) ∧ (0 ≤ b ∧ b < F 501) ∧ (1 ≤ x ∧ x ≤ 9) ∧ (1 ≤ y ∧ y ≤ 9) ∧ (0 ≤ t ∧ t ≤ 99) ∧ F 502 < 14) → z = F 502 ∧ F1 = fuP (fuP (fuP F 500 0) 502 (F 502 + 1)) 509 0 ∧ A1 = auP (auP (auP (auP (auP A 36 (F 502) a) 37 (F 502) b) 38 (F 502) x) 39 (F 502) y) 40 (F 502) t) ∧ (¬ ((0 ≤ a ∧ a < F 501) ∧ (0 ≤ b ∧ b < F 501) ∧ (1 ≤ x ∧ x ≤ 9) ∧ (1 ≤ y ∧ y ≤ 9) ∧ (0 ≤ t ∧ t ≤ 99) ∧ F 502 < 14) → z = -1 ∧ F1 = fuP F 500 0 ∧ A1 = A)) := by
  refine z_ofI (by decide) (Nat.le_of_ble_eq_true rfl) ?_
  intro p e s m args below meth c0 A0 Q C0 ret hP hD hS ls hl
  obtain ⟨S, hK, hA⟩ := C0
  have hx := S.1
  have hb := S.2.1
  have hown := S.2.2.2.1
  have hts : ∀ w ∈ zG, w.before args s = true := fun w h => S.2.2.2.2 w (List.mem_cons_of_mem _ h)
  have hl : lv_has ls 6 [(0, .ref (q 5)), (1, .int (iI (a))), (2, .int (iI (b))), (3, .int (iI (x))), (4, .int (iI (y))), (5, .int (iI (t)))] := hl
  refine lv_aload_n hx hb zd_X_channel_0 rfl (lv_at hl 0 rfl) ?_
  refine lv_iconst (v := iI (0)) hx hb zd_X_channel_1 rfl ?_
  refine va_put (D := D) (ci := 5) (v := .int (iI (0))) (ty := .int) (C := zR_X) (T := zT_X) (N := 34) hx hb hts zi_X zk_X zo_X zn_X hown hK.1 hP hD hS 5 ga_5 rfl 0 (by decide) (hts _ zw_533) (fun _ h9 => h9) rfl (by decide +kernel) (rfl) (rfl) (Nat.le_of_ble_eq_true rfl) zd_X_channel_2 (fun H locs hP hD hS => ?_)
  rw [gs_5_0] at hP hD
  refine lv_iload_n hx hb zd_X_channel_5 rfl (lv_at hl 1 rfl) ?_
  refine lv_iconst (v := iI (0)) hx hb zd_X_channel_6 rfl ?_
  refine lv_aload_n hx hb zd_X_channel_7 rfl (lv_at hl 0 rfl) ?_
  refine va_get (D := D) (ci := 5) (v := .int (iI (F 501))) (C := zR_X) (T := zT_X) (N := 34) hx hb hts zi_X hown hK.1 hP 5 ga_5 rfl 1 (by decide) (hts _ zw_534) (fun _ h9 => h9) rfl zd_X_channel_8 ?_
  refine lv_iconst (v := iI (1)) hx hb zd_X_channel_11 rfl ?_
  refine x_isub hx hb zd_X_channel_12 ?_
  refine z_goi (z_runS (n := 3) (As := [.int (iI (a)), .int (iI (0)), .int (iI ((F 501) - 1))]) (rest := []) S (c_X_in l D q c _ (fuP F 500 0) A a 0 ((F 501) - 1) (by first | assumption | omega | exact ⟨by omega, by omega⟩) (by first | assumption | omega | exact ⟨by omega, by omega⟩) (by first | assumption | omega | exact ⟨by omega, by omega⟩)) zw_646 zw_647 zw_6 zw_648 ⟨by decide +kernel, by decide, rfl, rfl⟩ rfl hK hP hD rfl hl.1 rfl (Nat.le_of_ble_eq_true rfl) zd_X_channel_13 ⟨Nat.zero_le _, Nat.zero_le _⟩) hD hS hA (fun z_13 F_13 A_13 H locs hq_13 hP hD hS => ?_)
  obtain ⟨hf_13, ha_13, hq_13⟩ := hq_13
  rw [hf_13, ha_13] at hP hD
  have b13_ : z_13 = 0 ∨ z_13 = 1 := by rw [hq_13]; split <;> simp
  refine x_if_eq (tgt := 74) hx hb zd_X_channel_16 (by decide) (⟨by omega, by omega⟩) (fun h_16 => ?_) (fun h_16 => ?_)
  · refine lv_iconst (v := iI (-1)) hx hb zd_X_channel_74 rfl ?_
    exact ret _ _ _ _ _ _ _ zd_X_channel_75 hP hD hS (⟨fun h => by first | omega | (split at hq_13 <;> omega) | (split at hq_27 <;> omega) | (split at hq_37 <;> omega) | (split at hq_48 <;> omega) | (split at hq_59 <;> omega), fun _ => ⟨rfl, rfl, rfl⟩⟩)
  · refine lv_iload_n hx hb zd_X_channel_19 rfl (lv_at hl 2 rfl) ?_
    refine lv_iconst (v := iI (0)) hx hb zd_X_channel_20 rfl ?_
    refine lv_aload_n hx hb zd_X_channel_21 rfl (lv_at hl 0 rfl) ?_
    refine va_get (D := D) (ci := 5) (v := .int (iI (F 501))) (C := zR_X) (T := zT_X) (N := 34) hx hb hts zi_X hown hK.1 hP 5 ga_5 rfl 1 (by decide) (hts _ zw_534) (fun _ h9 => h9) rfl zd_X_channel_22 ?_
    refine lv_iconst (v := iI (1)) hx hb zd_X_channel_25 rfl ?_
    refine x_isub hx hb zd_X_channel_26 ?_
    refine z_goi (z_runS (n := 3) (As := [.int (iI (b)), .int (iI (0)), .int (iI ((F 501) - 1))]) (rest := []) S (c_X_in l D q c _ (fuP F 500 0) A b 0 ((F 501) - 1) (by first | assumption | omega | exact ⟨by omega, by omega⟩) (by first | assumption | omega | exact ⟨by omega, by omega⟩) (by first | assumption | omega | exact ⟨by omega, by omega⟩)) zw_646 zw_647 zw_6 zw_648 ⟨by decide +kernel, by decide, rfl, rfl⟩ rfl hK hP hD rfl hl.1 rfl (Nat.le_of_ble_eq_true rfl) zd_X_channel_27 ⟨Nat.zero_le _, Nat.zero_le _⟩) hD hS hA (fun z_27 F_27 A_27 H locs hq_27 hP hD hS => ?_)
    obtain ⟨hf_27, ha_27, hq_27⟩ := hq_27
    rw [hf_27, ha_27] at hP hD
    have b27_ : z_27 = 0 ∨ z_27 = 1 := by rw [hq_27]; split <;> simp
    refine x_if_eq (tgt := 74) hx hb zd_X_channel_30 (by decide) (⟨by omega, by omega⟩) (fun h_30 => ?_) (fun h_30 => ?_)
    · refine lv_iconst (v := iI (-1)) hx hb zd_X_channel_74 rfl ?_
      exact ret _ _ _ _ _ _ _ zd_X_channel_75 hP hD hS (⟨fun h => by first | omega | (split at hq_13 <;> omega) | (split at hq_27 <;> omega) | (split at hq_37 <;> omega) | (split at hq_48 <;> omega) | (split at hq_59 <;> omega), fun _ => ⟨rfl, rfl, rfl⟩⟩)
    · refine lv_iload_n hx hb zd_X_channel_33 rfl (lv_at hl 3 rfl) ?_
      refine lv_iconst (v := iI (1)) hx hb zd_X_channel_34 rfl ?_
      refine lv_bipush (v := iI (9)) hx hb zd_X_channel_35 (by decide) ?_
      refine z_goi (z_runS (n := 3) (As := [.int (iI (x)), .int (iI (1)), .int (iI (9))]) (rest := []) S (c_X_in l D q c _ (fuP F 500 0) A x 1 9 (by first | assumption | omega | exact ⟨by omega, by omega⟩) (by first | assumption | omega | exact ⟨by omega, by omega⟩) (by first | assumption | omega | exact ⟨by omega, by omega⟩)) zw_646 zw_647 zw_6 zw_648 ⟨by decide +kernel, by decide, rfl, rfl⟩ rfl hK hP hD rfl hl.1 rfl (Nat.le_of_ble_eq_true rfl) zd_X_channel_37 ⟨Nat.zero_le _, Nat.zero_le _⟩) hD hS hA (fun z_37 F_37 A_37 H locs hq_37 hP hD hS => ?_)
      obtain ⟨hf_37, ha_37, hq_37⟩ := hq_37
      rw [hf_37, ha_37] at hP hD
      have b37_ : z_37 = 0 ∨ z_37 = 1 := by rw [hq_37]; split <;> simp
      refine x_if_eq (tgt := 74) hx hb zd_X_channel_40 (by decide) (⟨by omega, by omega⟩) (fun h_40 => ?_) (fun h_40 => ?_)
      · refine lv_iconst (v := iI (-1)) hx hb zd_X_channel_74 rfl ?_
        exact ret _ _ _ _ _ _ _ zd_X_channel_75 hP hD hS (⟨fun h => by first | omega | (split at hq_13 <;> omega) | (split at hq_27 <;> omega) | (split at hq_37 <;> omega) | (split at hq_48 <;> omega) | (split at hq_59 <;> omega), fun _ => ⟨rfl, rfl, rfl⟩⟩)
      · refine lv_iload hx hb zd_X_channel_43 (lv_at hl 4 rfl) ?_
        refine lv_iconst (v := iI (1)) hx hb zd_X_channel_45 rfl ?_
        refine lv_bipush (v := iI (9)) hx hb zd_X_channel_46 (by decide) ?_
        refine z_goi (z_runS (n := 3) (As := [.int (iI (y)), .int (iI (1)), .int (iI (9))]) (rest := []) S (c_X_in l D q c _ (fuP F 500 0) A y 1 9 (by first | assumption | omega | exact ⟨by omega, by omega⟩) (by first | assumption | omega | exact ⟨by omega, by omega⟩) (by first | assumption | omega | exact ⟨by omega, by omega⟩)) zw_646 zw_647 zw_6 zw_648 ⟨by decide +kernel, by decide, rfl, rfl⟩ rfl hK hP hD rfl hl.1 rfl (Nat.le_of_ble_eq_true rfl) zd_X_channel_48 ⟨Nat.zero_le _, Nat.zero_le _⟩) hD hS hA (fun z_48 F_48 A_48 H locs hq_48 hP hD hS => ?_)
        obtain ⟨hf_48, ha_48, hq_48⟩ := hq_48
        rw [hf_48, ha_48] at hP hD
        have b48_ : z_48 = 0 ∨ z_48 = 1 := by rw [hq_48]; split <;> simp
        refine x_if_eq (tgt := 74) hx hb zd_X_channel_51 (by decide) (⟨by omega, by omega⟩) (fun h_51 => ?_) (fun h_51 => ?_)
        · refine lv_iconst (v := iI (-1)) hx hb zd_X_channel_74 rfl ?_
          exact ret _ _ _ _ _ _ _ zd_X_channel_75 hP hD hS (⟨fun h => by first | omega | (split at hq_13 <;> omega) | (split at hq_27 <;> omega) | (split at hq_37 <;> omega) | (split at hq_48 <;> omega) | (split at hq_59 <;> omega), fun _ => ⟨rfl, rfl, rfl⟩⟩)
        · refine lv_iload hx hb zd_X_channel_54 (lv_at hl 5 rfl) ?_
          refine lv_iconst (v := iI (0)) hx hb zd_X_channel_56 rfl ?_
          refine lv_bipush (v := iI (99)) hx hb zd_X_channel_57 (by decide) ?_
          refine z_goi (z_runS (n := 3) (As := [.int (iI (t)), .int (iI (0)), .int (iI (99))]) (rest := []) S (c_X_in l D q c _ (fuP F 500 0) A t 0 99 (by first | assumption | omega | exact ⟨by omega, by omega⟩) (by first | assumption | omega | exact ⟨by omega, by omega⟩) (by first | assumption | omega | exact ⟨by omega, by omega⟩)) zw_646 zw_647 zw_6 zw_648 ⟨by decide +kernel, by decide, rfl, rfl⟩ rfl hK hP hD rfl hl.1 rfl (Nat.le_of_ble_eq_true rfl) zd_X_channel_59 ⟨Nat.zero_le _, Nat.zero_le _⟩) hD hS hA (fun z_59 F_59 A_59 H locs hq_59 hP hD hS => ?_)
          obtain ⟨hf_59, ha_59, hq_59⟩ := hq_59
          rw [hf_59, ha_59] at hP hD
          have b59_ : z_59 = 0 ∨ z_59 = 1 := by rw [hq_59]; split <;> simp
          refine x_if_eq (tgt := 74) hx hb zd_X_channel_62 (by decide) (⟨by omega, by omega⟩) (fun h_62 => ?_) (fun h_62 => ?_)
          · refine lv_iconst (v := iI (-1)) hx hb zd_X_channel_74 rfl ?_
            exact ret _ _ _ _ _ _ _ zd_X_channel_75 hP hD hS (⟨fun h => by first | omega | (split at hq_13 <;> omega) | (split at hq_27 <;> omega) | (split at hq_37 <;> omega) | (split at hq_48 <;> omega) | (split at hq_59 <;> omega), fun _ => ⟨rfl, rfl, rfl⟩⟩)
          · refine lv_aload_n hx hb zd_X_channel_65 rfl (lv_at hl 0 rfl) ?_
            refine va_get (D := D) (ci := 5) (v := .int (iI (F 502))) (C := zR_X) (T := zT_X) (N := 34) hx hb hts zi_X hown hK.1 hP 5 ga_5 rfl 2 (by decide) (hts _ zw_535) (fun _ h9 => h9) rfl zd_X_channel_66 ?_
            refine lv_bipush (v := iI (14)) hx hb zd_X_channel_69 (by decide) ?_
            refine x_icmp_ne (tgt := 76) hx hb zd_X_channel_71 (by decide) (⟨by omega, by omega⟩) (⟨by omega, by omega⟩) (fun h_71 => ?_) (fun h_71 => ?_)
            · have h1_ : 0 ≤ a ∧ a < F 501 := by (rw [hq_13] at h_16; split at h_16 <;> omega)
              have h2_ : 0 ≤ b ∧ b < F 501 := by (rw [hq_27] at h_30; split at h_30 <;> omega)
              have h3_ : 1 ≤ x ∧ x ≤ 9 := by (rw [hq_37] at h_40; split at h_40 <;> omega)
              have h4_ : 1 ≤ y ∧ y ≤ 9 := by (rw [hq_48] at h_51; split at h_51 <;> omega)
              have h5_ : 0 ≤ t ∧ t ≤ 99 := by (rw [hq_59] at h_62; split at h_62 <;> omega)
              refine lv_aload_n hx hb zd_X_channel_76 rfl (lv_at hl 0 rfl) ?_
              refine va_get (D := D) (ci := 5) (v := .ref (q 36)) (C := zR_X) (T := zT_X) (N := 34) hx hb hts zi_X hown hK.1 hP 5 ga_5 rfl 4 (by decide) (hts _ zw_537) (fun _ h9 => h9) rfl zd_X_channel_77 ?_
              refine lv_aload_n hx hb zd_X_channel_80 rfl (lv_at hl 0 rfl) ?_
              refine va_get (D := D) (ci := 5) (v := .int (iI (F 502))) (C := zR_X) (T := zT_X) (N := 34) hx hb hts zi_X hown hK.1 hP 5 ga_5 rfl 2 (by decide) (hts _ zw_535) (fun _ h9 => h9) rfl zd_X_channel_81 ?_
              refine lv_iload_n hx hb zd_X_channel_84 rfl (lv_at hl 1 rfl) ?_
              refine x_iast hx hb hK.1 hP hD hS 36 0 ga_36 rfl (by decide) (by omega) (by omega) zd_X_channel_85 (fun H locs hP hD hS => ?_)
              rw [gs_36] at hP hD
              refine lv_aload_n hx hb zd_X_channel_86 rfl (lv_at hl 0 rfl) ?_
              refine va_get (D := D) (ci := 5) (v := .ref (q 37)) (C := zR_X) (T := zT_X) (N := 34) hx hb hts zi_X hown hK.1 hP 5 ga_5 rfl 5 (by decide) (hts _ zw_538) (fun _ h9 => h9) rfl zd_X_channel_87 ?_
              refine lv_aload_n hx hb zd_X_channel_90 rfl (lv_at hl 0 rfl) ?_
              refine va_get (D := D) (ci := 5) (v := .int (iI (F 502))) (C := zR_X) (T := zT_X) (N := 34) hx hb hts zi_X hown hK.1 hP 5 ga_5 rfl 2 (by decide) (hts _ zw_535) (fun _ h9 => h9) rfl zd_X_channel_91 ?_
              refine lv_iload_n hx hb zd_X_channel_94 rfl (lv_at hl 2 rfl) ?_
              refine x_iast hx hb hK.1 hP hD hS 37 0 ga_37 rfl (by decide) (by omega) (by omega) zd_X_channel_95 (fun H locs hP hD hS => ?_)
              rw [gs_37] at hP hD
              refine lv_aload_n hx hb zd_X_channel_96 rfl (lv_at hl 0 rfl) ?_
              refine va_get (D := D) (ci := 5) (v := .ref (q 38)) (C := zR_X) (T := zT_X) (N := 34) hx hb hts zi_X hown hK.1 hP 5 ga_5 rfl 6 (by decide) (hts _ zw_539) (fun _ h9 => h9) rfl zd_X_channel_97 ?_
              refine lv_aload_n hx hb zd_X_channel_100 rfl (lv_at hl 0 rfl) ?_
              refine va_get (D := D) (ci := 5) (v := .int (iI (F 502))) (C := zR_X) (T := zT_X) (N := 34) hx hb hts zi_X hown hK.1 hP 5 ga_5 rfl 2 (by decide) (hts _ zw_535) (fun _ h9 => h9) rfl zd_X_channel_101 ?_
              refine lv_iload_n hx hb zd_X_channel_104 rfl (lv_at hl 3 rfl) ?_
              refine x_iast hx hb hK.1 hP hD hS 38 0 ga_38 rfl (by decide) (by omega) (by omega) zd_X_channel_105 (fun H locs hP hD hS => ?_)
              rw [gs_38] at hP hD
              refine lv_aload_n hx hb zd_X_channel_106 rfl (lv_at hl 0 rfl) ?_
              refine va_get (D := D) (ci := 5) (v := .ref (q 39)) (C := zR_X) (T := zT_X) (N := 34) hx hb hts zi_X hown hK.1 hP 5 ga_5 rfl 7 (by decide) (hts _ zw_540) (fun _ h9 => h9) rfl zd_X_channel_107 ?_
              refine lv_aload_n hx hb zd_X_channel_110 rfl (lv_at hl 0 rfl) ?_
              refine va_get (D := D) (ci := 5) (v := .int (iI (F 502))) (C := zR_X) (T := zT_X) (N := 34) hx hb hts zi_X hown hK.1 hP 5 ga_5 rfl 2 (by decide) (hts _ zw_535) (fun _ h9 => h9) rfl zd_X_channel_111 ?_
              refine lv_iload hx hb zd_X_channel_114 (lv_at hl 4 rfl) ?_
              refine x_iast hx hb hK.1 hP hD hS 39 0 ga_39 rfl (by decide) (by omega) (by omega) zd_X_channel_116 (fun H locs hP hD hS => ?_)
              rw [gs_39] at hP hD
              refine lv_aload_n hx hb zd_X_channel_117 rfl (lv_at hl 0 rfl) ?_
              refine va_get (D := D) (ci := 5) (v := .ref (q 40)) (C := zR_X) (T := zT_X) (N := 34) hx hb hts zi_X hown hK.1 hP 5 ga_5 rfl 8 (by decide) (hts _ zw_541) (fun _ h9 => h9) rfl zd_X_channel_118 ?_
              refine lv_aload_n hx hb zd_X_channel_121 rfl (lv_at hl 0 rfl) ?_
              refine va_get (D := D) (ci := 5) (v := .int (iI (F 502))) (C := zR_X) (T := zT_X) (N := 34) hx hb hts zi_X hown hK.1 hP 5 ga_5 rfl 2 (by decide) (hts _ zw_535) (fun _ h9 => h9) rfl zd_X_channel_122 ?_
              refine lv_iload hx hb zd_X_channel_125 (lv_at hl 5 rfl) ?_
              refine x_iast hx hb hK.1 hP hD hS 40 0 ga_40 rfl (by decide) (by omega) (by omega) zd_X_channel_127 (fun H locs hP hD hS => ?_)
              rw [gs_40] at hP hD
              refine lv_aload_n hx hb zd_X_channel_128 rfl (lv_at hl 0 rfl) ?_
              refine lv_dup hx hb zd_X_channel_129 rfl ?_
              refine va_get (D := D) (ci := 5) (v := .int (iI (F 502))) (C := zR_X) (T := zT_X) (N := 34) hx hb hts zi_X hown hK.1 hP 5 ga_5 rfl 2 (by decide) (hts _ zw_535) (fun _ h9 => h9) rfl zd_X_channel_130 ?_
              refine lv_iconst (v := iI (1)) hx hb zd_X_channel_133 rfl ?_
              refine x_iadd hx hb zd_X_channel_134 ?_
              refine va_put (D := D) (ci := 5) (v := .int (iI ((F 502) + 1))) (ty := .int) (C := zR_X) (T := zT_X) (N := 34) hx hb hts zi_X zk_X zo_X zn_X hown hK.1 hP hD hS 5 ga_5 rfl 2 (by decide) (hts _ zw_535) (fun _ h9 => h9) rfl (by decide +kernel) (rfl) (rfl) (Nat.le_of_ble_eq_true rfl) zd_X_channel_135 (fun H locs hP hD hS => ?_)
              rw [gs_5_2] at hP hD
              refine lv_aload_n hx hb zd_X_channel_138 rfl (lv_at hl 0 rfl) ?_
              refine lv_iconst (v := iI (0)) hx hb zd_X_channel_139 rfl ?_
              refine va_put (D := D) (ci := 5) (v := .int (iI (0))) (ty := .boolean) (C := zR_X) (T := zT_X) (N := 34) hx hb hts zi_X zk_X zo_X zn_X hown hK.1 hP hD hS 5 ga_5 rfl 9 (by decide) (hts _ zw_542) (fun _ h9 => h9) rfl (by decide +kernel) (rfl) (rfl) (Nat.le_of_ble_eq_true rfl) zd_X_channel_140 (fun H locs hP hD hS => ?_)
              rw [gs_5_9] at hP hD
              refine lv_aload_n hx hb zd_X_channel_143 rfl (lv_at hl 0 rfl) ?_
              refine va_get (D := D) (ci := 5) (v := .int (iI ((F 502) + 1))) (C := zR_X) (T := zT_X) (N := 34) hx hb hts zi_X hown hK.1 hP 5 ga_5 rfl 2 (by decide) (hts _ zw_535) (fun _ h9 => h9) rfl zd_X_channel_144 ?_
              refine lv_iconst (v := iI (1)) hx hb zd_X_channel_147 rfl ?_
              refine x_isub hx hb zd_X_channel_148 ?_
              exact ret _ _ _ _ _ _ _ zd_X_channel_149 hP hD hS (⟨fun _ => ⟨by omega, rfl, rfl⟩, fun h => absurd ⟨h1_, h2_, h3_, h4_, h5_, by omega⟩ h⟩)
            · refine lv_iconst (v := iI (-1)) hx hb zd_X_channel_74 rfl ?_
              exact ret _ _ _ _ _ _ _ zd_X_channel_75 hP hD hS (⟨fun h => by first | omega | (split at hq_13 <;> omega) | (split at hq_27 <;> omega) | (split at hq_37 <;> omega) | (split at hq_48 <;> omega) | (split at hq_59 <;> omega), fun _ => ⟨rfl, rfl, rfl⟩⟩)

abbrev zr_X_edge : Room := ({ frames := 0, cells := 0, slots := 0, locals := 0 } : Room)
set_option maxHeartbeats 4000000 in
set_option maxRecDepth 100000 in
theorem c_X_edge (l : Launch) (D : va_G) (q : Nat → Nat) (c : Nat → ClassId) (sz : Nat) (F : Nat → Int) (A : Nat → Int → Int) (x1 : Int) (y1 : Int) (t1 : Int) (r1 : Int) (hE : 0 ≤ F 525 ∧ F 525 < 700) : zMV l zy_X_edge zc_X_edge 5 none zr_X_edge D q c sz [.ref (q 5), .int (iI (x1)), .int (iI (y1)), .int (iI (t1)), .int (iI (r1))] F A (fun F1 A1 => F1 = fuP F 525 (F 525 + 1) ∧ A1 = auP (auP (auP (auP A 51 (F 525) x1) 52 (F 525) y1) 53 (F 525) t1) 54 (F 525) r1) := by
  refine z_ofV (by decide) (Nat.le_of_ble_eq_true rfl) ?_
  intro p e s m args below meth c0 A0 Q C0 ret hP hD hS ls hl
  obtain ⟨S, hK, hA⟩ := C0
  have hx := S.1
  have hb := S.2.1
  have hown := S.2.2.2.1
  have hts : ∀ w ∈ zG, w.before args s = true := fun w h => S.2.2.2.2 w (List.mem_cons_of_mem _ h)
  have hl : lv_has ls 5 [(0, .ref (q 5)), (1, .int (iI (x1))), (2, .int (iI (y1))), (3, .int (iI (t1))), (4, .int (iI (r1)))] := hl
  refine lv_aload_n hx hb zd_X_edge_0 rfl (lv_at hl 0 rfl) ?_
  refine va_get (D := D) (ci := 5) (v := .ref (q 51)) (C := zR_X) (T := zT_X) (N := 34) hx hb hts zi_X hown hK.1 hP 5 ga_5 rfl 26 (by decide) (hts _ zw_559) (fun _ h9 => h9) rfl zd_X_edge_1 ?_
  refine lv_aload_n hx hb zd_X_edge_4 rfl (lv_at hl 0 rfl) ?_
  refine va_get (D := D) (ci := 5) (v := .int (iI (F 525))) (C := zR_X) (T := zT_X) (N := 34) hx hb hts zi_X hown hK.1 hP 5 ga_5 rfl 25 (by decide) (hts _ zw_558) (fun _ h9 => h9) rfl zd_X_edge_5 ?_
  refine lv_iload_n hx hb zd_X_edge_8 rfl (lv_at hl 1 rfl) ?_
  refine x_iast hx hb hK.1 hP hD hS 51 0 ga_51 rfl (by decide) (by omega) (by omega) zd_X_edge_9 (fun H locs hP hD hS => ?_)
  rw [gs_51] at hP hD
  refine lv_aload_n hx hb zd_X_edge_10 rfl (lv_at hl 0 rfl) ?_
  refine va_get (D := D) (ci := 5) (v := .ref (q 52)) (C := zR_X) (T := zT_X) (N := 34) hx hb hts zi_X hown hK.1 hP 5 ga_5 rfl 27 (by decide) (hts _ zw_560) (fun _ h9 => h9) rfl zd_X_edge_11 ?_
  refine lv_aload_n hx hb zd_X_edge_14 rfl (lv_at hl 0 rfl) ?_
  refine va_get (D := D) (ci := 5) (v := .int (iI (F 525))) (C := zR_X) (T := zT_X) (N := 34) hx hb hts zi_X hown hK.1 hP 5 ga_5 rfl 25 (by decide) (hts _ zw_558) (fun _ h9 => h9) rfl zd_X_edge_15 ?_
  refine lv_iload_n hx hb zd_X_edge_18 rfl (lv_at hl 2 rfl) ?_
  refine x_iast hx hb hK.1 hP hD hS 52 0 ga_52 rfl (by decide) (by omega) (by omega) zd_X_edge_19 (fun H locs hP hD hS => ?_)
  rw [gs_52] at hP hD
  refine lv_aload_n hx hb zd_X_edge_20 rfl (lv_at hl 0 rfl) ?_
  refine va_get (D := D) (ci := 5) (v := .ref (q 53)) (C := zR_X) (T := zT_X) (N := 34) hx hb hts zi_X hown hK.1 hP 5 ga_5 rfl 28 (by decide) (hts _ zw_561) (fun _ h9 => h9) rfl zd_X_edge_21 ?_
  refine lv_aload_n hx hb zd_X_edge_24 rfl (lv_at hl 0 rfl) ?_
  refine va_get (D := D) (ci := 5) (v := .int (iI (F 525))) (C := zR_X) (T := zT_X) (N := 34) hx hb hts zi_X hown hK.1 hP 5 ga_5 rfl 25 (by decide) (hts _ zw_558) (fun _ h9 => h9) rfl zd_X_edge_25 ?_
  refine lv_iload_n hx hb zd_X_edge_28 rfl (lv_at hl 3 rfl) ?_
  refine x_iast hx hb hK.1 hP hD hS 53 0 ga_53 rfl (by decide) (by omega) (by omega) zd_X_edge_29 (fun H locs hP hD hS => ?_)
  rw [gs_53] at hP hD
  refine lv_aload_n hx hb zd_X_edge_30 rfl (lv_at hl 0 rfl) ?_
  refine va_get (D := D) (ci := 5) (v := .ref (q 54)) (C := zR_X) (T := zT_X) (N := 34) hx hb hts zi_X hown hK.1 hP 5 ga_5 rfl 29 (by decide) (hts _ zw_562) (fun _ h9 => h9) rfl zd_X_edge_31 ?_
  refine lv_aload_n hx hb zd_X_edge_34 rfl (lv_at hl 0 rfl) ?_
  refine va_get (D := D) (ci := 5) (v := .int (iI (F 525))) (C := zR_X) (T := zT_X) (N := 34) hx hb hts zi_X hown hK.1 hP 5 ga_5 rfl 25 (by decide) (hts _ zw_558) (fun _ h9 => h9) rfl zd_X_edge_35 ?_
  refine lv_iload hx hb zd_X_edge_38 (lv_at hl 4 rfl) ?_
  refine x_iast hx hb hK.1 hP hD hS 54 0 ga_54 rfl (by decide) (by omega) (by omega) zd_X_edge_40 (fun H locs hP hD hS => ?_)
  rw [gs_54] at hP hD
  refine lv_aload_n hx hb zd_X_edge_41 rfl (lv_at hl 0 rfl) ?_
  refine lv_dup hx hb zd_X_edge_42 rfl ?_
  refine va_get (D := D) (ci := 5) (v := .int (iI (F 525))) (C := zR_X) (T := zT_X) (N := 34) hx hb hts zi_X hown hK.1 hP 5 ga_5 rfl 25 (by decide) (hts _ zw_558) (fun _ h9 => h9) rfl zd_X_edge_43 ?_
  refine lv_iconst (v := iI (1)) hx hb zd_X_edge_46 rfl ?_
  refine x_iadd hx hb zd_X_edge_47 ?_
  refine va_put (D := D) (ci := 5) (v := .int (iI ((F 525) + 1))) (ty := .int) (C := zR_X) (T := zT_X) (N := 34) hx hb hts zi_X zk_X zo_X zn_X hown hK.1 hP hD hS 5 ga_5 rfl 25 (by decide) (hts _ zw_558) (fun _ h9 => h9) rfl (by decide +kernel) (rfl) (rfl) (Nat.le_of_ble_eq_true rfl) zd_X_edge_48 (fun H locs hP hD hS => ?_)
  rw [gs_5_25] at hP hD
  exact ret _ _ _ _ _ _ zd_X_edge_51 hP hD hS (⟨rfl, rfl⟩)

abbrev zr_X_isChain : Room := ({ frames := 0, cells := 0, slots := 0, locals := 0 } : Room)
set_option maxHeartbeats 4000000 in
set_option maxRecDepth 100000 in
theorem c_X_isChain (l : Launch) (D : va_G) (q : Nat → Nat) (c : Nat → ClassId) (sz : Nat) (F : Nat → Int) (A : Nat → Int → Int)  (hmn : 1 ≤ F 501 ∧ F 501 ≤ 8) (hmm : 0 ≤ F 502 ∧ F 502 ≤ 14) (hmch : ∀ k, 0 ≤ k → k < F 502 → (0 ≤ A 36 k ∧ A 36 k < F 501) ∧ (0 ≤ A 37 k ∧ A 37 k < F 501) ∧ (1 ≤ A 38 k ∧ A 38 k ≤ 9) ∧ (1 ≤ A 39 k ∧ A 39 k ≤ 9) ∧ 0 ≤ A 40 k ∧ A 40 k ≤ 99) : zMI l zy_X_isChain zc_X_isChain 2 (some .boolean) zr_X_isChain D q c sz [.ref (q 5)] F A (fun z F1 A1 => F1 = F ∧ A1 = A ∧ (z = 0 ∨ z = 1) ∧ (z = 1 ↔ F 502 = F 501 - 1 ∧ ∀ k, 0 ≤ k → k < F 502 → A 36 k = k ∧ A 37 k = k + 1 ∧ A 40 k = 0)) := by
  refine z_ofB (by decide) (Nat.le_of_ble_eq_true rfl) ?_
  intro p e s m args below meth c0 A0 Q C0 ret hP hD hS ls hl
  obtain ⟨S, hK, hA⟩ := C0
  have hx := S.1
  have hb := S.2.1
  have hown := S.2.2.2.1
  have hts : ∀ w ∈ zG, w.before args s = true := fun w h => S.2.2.2.2 w (List.mem_cons_of_mem _ h)
  have hl : lv_has ls 2 [(0, .ref (q 5))] := hl
  refine lv_aload_n hx hb zd_X_isChain_0 rfl (lv_at hl 0 rfl) ?_
  refine va_get (D := D) (ci := 5) (v := .int (iI (F 502))) (C := zR_X) (T := zT_X) (N := 34) hx hb hts zi_X hown hK.1 hP 5 ga_5 rfl 2 (by decide) (hts _ zw_535) (fun _ h9 => h9) rfl zd_X_isChain_1 ?_
  refine lv_aload_n hx hb zd_X_isChain_4 rfl (lv_at hl 0 rfl) ?_
  refine va_get (D := D) (ci := 5) (v := .int (iI (F 501))) (C := zR_X) (T := zT_X) (N := 34) hx hb hts zi_X hown hK.1 hP 5 ga_5 rfl 1 (by decide) (hts _ zw_534) (fun _ h9 => h9) rfl zd_X_isChain_5 ?_
  refine lv_iconst (v := iI (1)) hx hb zd_X_isChain_8 rfl ?_
  refine x_isub hx hb zd_X_isChain_9 ?_
  refine x_icmp_eq (tgt := 15) hx hb zd_X_isChain_10 (by decide) (⟨by omega, by omega⟩) (⟨by omega, by omega⟩) (fun h_10 => ?_) (fun h_10 => ?_)
  · refine lv_iconst (v := iI (0)) hx hb zd_X_isChain_15 rfl ?_
    refine lv_istore_n (lv' := [(1, .int (iI (0))), (0, .ref (q 5))]) hx hb zd_X_isChain_16 rfl hl (by decide) rfl (fun ls hl => ?_)
    have L_17 : ∀ (fu : Nat) (i : Int) , (0 ≤ i ∧ i ≤ F 502) → (∀ k, 0 ≤ k → k < i → A 36 k = k ∧ A 37 k = k + 1 ∧ A 40 k = 0) → (F 502 - i < (fu : Int)) → ∀ (H : Heap) (locs : List Loc), va_P D zcl (gw q c F A) H → va_D A0 (gw q c F A) → va_S A0 s.heap H locs → ∀ ls : Array Slot, lv_has ls 2 [(0, .ref (q 5)), (1, .int (iI (i)))] → W p l e zr_X_isChain s m args below meth c0 H locs 0 0 Q (F0 m 17 ls []) := by
      intro fu
      induction fu with
      | zero => intro i   hi hs hm_17; exact absurd hm_17 (by omega)
      | succ fu ih_17 =>
        intro i   hi hs hm_17 H locs hP hD hS ls hl
        refine lv_iload_n hx hb zd_X_isChain_17 rfl (lv_at hl 1 rfl) ?_
        refine lv_aload_n hx hb zd_X_isChain_18 rfl (lv_at hl 0 rfl) ?_
        refine va_get (D := D) (ci := 5) (v := .int (iI (F 502))) (C := zR_X) (T := zT_X) (N := 34) hx hb hts zi_X hown hK.1 hP 5 ga_5 rfl 2 (by decide) (hts _ zw_535) (fun _ h9 => h9) rfl zd_X_isChain_19 ?_
        refine x_icmp_ge (tgt := 64) hx hb zd_X_isChain_22 (by decide) (⟨by omega, by omega⟩) (⟨by omega, by omega⟩) (fun h_22 => ?_) (fun h_22 => ?_)
        · refine lv_iconst (v := iI (1)) hx hb zd_X_isChain_64 rfl ?_
          exact ret _ _ _ _ _ _ _ zd_X_isChain_65 hP hD hS (by omega) (⟨rfl, rfl, by omega, ⟨fun _ => ⟨by omega, fun k h0 h1 => hs k h0 (by omega)⟩, fun _ => rfl⟩⟩)
        · have hc_ := hmch i (by omega) (by omega)
          refine lv_aload_n hx hb zd_X_isChain_25 rfl (lv_at hl 0 rfl) ?_
          refine va_get (D := D) (ci := 5) (v := .ref (q 36)) (C := zR_X) (T := zT_X) (N := 34) hx hb hts zi_X hown hK.1 hP 5 ga_5 rfl 4 (by decide) (hts _ zw_537) (fun _ h9 => h9) rfl zd_X_isChain_26 ?_
          refine lv_iload_n hx hb zd_X_isChain_29 rfl (lv_at hl 1 rfl) ?_
          refine x_iald (v := A 36 i) hx hb hK.1 hP 36 0 ga_36 rfl (by decide) (by omega) (by omega) (rfl) zd_X_isChain_30 ?_
          refine lv_iload_n hx hb zd_X_isChain_31 rfl (lv_at hl 1 rfl) ?_
          refine x_icmp_ne (tgt := 56) hx hb zd_X_isChain_32 (by decide) (⟨by omega, by omega⟩) (⟨by omega, by omega⟩) (fun h_32 => ?_) (fun h_32 => ?_)
          · refine lv_iconst (v := iI (0)) hx hb zd_X_isChain_56 rfl ?_
            exact ret _ _ _ _ _ _ _ zd_X_isChain_57 hP hD hS (by omega) (⟨rfl, rfl, by omega, ⟨fun h => by omega, fun h => by have := h.2 i (by omega) (by omega); omega⟩⟩)
          · refine lv_aload_n hx hb zd_X_isChain_35 rfl (lv_at hl 0 rfl) ?_
            refine va_get (D := D) (ci := 5) (v := .ref (q 37)) (C := zR_X) (T := zT_X) (N := 34) hx hb hts zi_X hown hK.1 hP 5 ga_5 rfl 5 (by decide) (hts _ zw_538) (fun _ h9 => h9) rfl zd_X_isChain_36 ?_
            refine lv_iload_n hx hb zd_X_isChain_39 rfl (lv_at hl 1 rfl) ?_
            refine x_iald (v := A 37 i) hx hb hK.1 hP 37 0 ga_37 rfl (by decide) (by omega) (by omega) (rfl) zd_X_isChain_40 ?_
            refine lv_iload_n hx hb zd_X_isChain_41 rfl (lv_at hl 1 rfl) ?_
            refine lv_iconst (v := iI (1)) hx hb zd_X_isChain_42 rfl ?_
            refine x_iadd hx hb zd_X_isChain_43 ?_
            refine x_icmp_ne (tgt := 56) hx hb zd_X_isChain_44 (by decide) (⟨by omega, by omega⟩) (⟨by omega, by omega⟩) (fun h_44 => ?_) (fun h_44 => ?_)
            · refine lv_iconst (v := iI (0)) hx hb zd_X_isChain_56 rfl ?_
              exact ret _ _ _ _ _ _ _ zd_X_isChain_57 hP hD hS (by omega) (⟨rfl, rfl, by omega, ⟨fun h => by omega, fun h => by have := h.2 i (by omega) (by omega); omega⟩⟩)
            · refine lv_aload_n hx hb zd_X_isChain_47 rfl (lv_at hl 0 rfl) ?_
              refine va_get (D := D) (ci := 5) (v := .ref (q 40)) (C := zR_X) (T := zT_X) (N := 34) hx hb hts zi_X hown hK.1 hP 5 ga_5 rfl 8 (by decide) (hts _ zw_541) (fun _ h9 => h9) rfl zd_X_isChain_48 ?_
              refine lv_iload_n hx hb zd_X_isChain_51 rfl (lv_at hl 1 rfl) ?_
              refine x_iald (v := A 40 i) hx hb hK.1 hP 40 0 ga_40 rfl (by decide) (by omega) (by omega) (rfl) zd_X_isChain_52 ?_
              refine x_if_eq (tgt := 58) hx hb zd_X_isChain_53 (by decide) (⟨by omega, by omega⟩) (fun h_53 => ?_) (fun h_53 => ?_)
              · refine lv_iinc (v := iI (i + 1)) (lv' := [(1, .int (iI (i + 1))), (0, .ref (q 5))]) hx hb zd_X_isChain_58 hl (k := 1) rfl (iI_add _ _) (by decide) rfl (fun ls hl => ?_)
                refine lv_goto (tgt := 17) hx hb zd_X_isChain_61 (by decide) ?_
                exact ih_17 (i + 1)   (by first | assumption | omega | (simp_all; done)) (fun k h0 h1 => by by_cases e_ : k = i; (subst e_; omega); (exact hs k h0 (by omega))) (by omega) _ _ hP hD hS ls (lv_sub hl [1, 0] rfl)
              · refine lv_iconst (v := iI (0)) hx hb zd_X_isChain_56 rfl ?_
                exact ret _ _ _ _ _ _ _ zd_X_isChain_57 hP hD hS (by omega) (⟨rfl, rfl, by omega, ⟨fun h => by omega, fun h => by have := h.2 i (by omega) (by omega); omega⟩⟩)
    exact L_17 (((F 502 - (0) : Int) + 1).toNat) (0)   (by first | assumption | omega | (simp_all; done)) (fun k h0 h1 => by omega) (by omega) _ _ hP hD hS ls (lv_sub hl [1, 0] rfl)
  · refine lv_iconst (v := iI (0)) hx hb zd_X_isChain_13 rfl ?_
    exact ret _ _ _ _ _ _ _ zd_X_isChain_14 hP hD hS (by omega) (⟨rfl, rfl, by omega, by constructor <;> intro h <;> omega⟩)

abbrev zr_X_canBeDone : Room := ({ frames := 0, cells := 0, slots := 0, locals := 0 } : Room)
set_option maxHeartbeats 4000000 in
set_option maxRecDepth 100000 in
theorem c_X_canBeDone (l : Launch) (D : va_G) (q : Nat → Nat) (c : Nat → ClassId) (sz : Nat) (F : Nat → Int) (A : Nat → Int → Int) (a : Int) (hmn : 1 ≤ F 501 ∧ F 501 ≤ 8) (hmm : 0 ≤ F 502 ∧ F 502 ≤ 14) (hmch : ∀ k, 0 ≤ k → k < F 502 → (0 ≤ A 36 k ∧ A 36 k < F 501) ∧ (0 ≤ A 37 k ∧ A 37 k < F 501) ∧ (1 ≤ A 38 k ∧ A 38 k ≤ 9) ∧ (1 ≤ A 39 k ∧ A 39 k ≤ 9) ∧ 0 ≤ A 40 k ∧ A 40 k ≤ 99) (hmly : ∀ k, 0 ≤ k → k < F 502 → (0 ≤ A 46 k ∧ A 46 k ≤ 99999) ∧ 0 ≤ A 47 k ∧ A 47 k ≤ 99999) (hmlf : ∀ a, 0 ≤ a → a < F 501 → 0 ≤ A 45 a ∧ A 45 a ≤ 400) (ha : 0 ≤ a ∧ a < F 501) : zMI l zy_X_canBeDone zc_X_canBeDone 3 (some .boolean) zr_X_canBeDone D q c sz [.ref (q 5), .int (iI (a))] F A (fun z F1 A1 => F1 = F ∧ A1 = A ∧ (z = 0 ∨ z = 1) ∧ (z = 1 ↔ (0 < A 45 a ∧ ∀ k, 0 ≤ k → k < F 502 → A 37 k = a → A 39 k ≤ A 46 k))) := by
  refine z_ofB (by decide) (Nat.le_of_ble_eq_true rfl) ?_
  intro p e s m args below meth c0 A0 Q C0 ret hP hD hS ls hl
  obtain ⟨S, hK, hA⟩ := C0
  have hx := S.1
  have hb := S.2.1
  have hown := S.2.2.2.1
  have hts : ∀ w ∈ zG, w.before args s = true := fun w h => S.2.2.2.2 w (List.mem_cons_of_mem _ h)
  have hl : lv_has ls 3 [(0, .ref (q 5)), (1, .int (iI (a)))] := hl
  have hl_ := hmlf a ha.1 ha.2
  refine lv_aload_n hx hb zd_X_canBeDone_0 rfl (lv_at hl 0 rfl) ?_
  refine va_get (D := D) (ci := 5) (v := .ref (q 45)) (C := zR_X) (T := zT_X) (N := 34) hx hb hts zi_X hown hK.1 hP 5 ga_5 rfl 17 (by decide) (hts _ zw_550) (fun _ h9 => h9) rfl zd_X_canBeDone_1 ?_
  refine lv_iload_n hx hb zd_X_canBeDone_4 rfl (lv_at hl 1 rfl) ?_
  refine x_iald (v := A 45 a) hx hb hK.1 hP 45 0 ga_45 rfl (by decide) (by omega) (by omega) (rfl) zd_X_canBeDone_5 ?_
  refine x_if_ne (tgt := 11) hx hb zd_X_canBeDone_6 (by decide) (⟨by omega, by omega⟩) (fun h_6 => ?_) (fun h_6 => ?_)
  · refine lv_iconst (v := iI (0)) hx hb zd_X_canBeDone_11 rfl ?_
    refine lv_istore_n (lv' := [(2, .int (iI (0))), (0, .ref (q 5)), (1, .int (iI (a)))]) hx hb zd_X_canBeDone_12 rfl hl (by decide) rfl (fun ls hl => ?_)
    have L_13 : ∀ (fu : Nat) (i : Int) , (0 ≤ i ∧ i ≤ F 502) → (∀ k, 0 ≤ k → k < i → A 37 k = a → A 39 k ≤ A 46 k) → (F 502 - i < (fu : Int)) → ∀ (H : Heap) (locs : List Loc), va_P D zcl (gw q c F A) H → va_D A0 (gw q c F A) → va_S A0 s.heap H locs → ∀ ls : Array Slot, lv_has ls 3 [(0, .ref (q 5)), (1, .int (iI (a))), (2, .int (iI (i)))] → W p l e zr_X_canBeDone s m args below meth c0 H locs 0 0 Q (F0 m 13 ls []) := by
      intro fu
      induction fu with
      | zero => intro i   hi hs hm_13; exact absurd hm_13 (by omega)
      | succ fu ih_13 =>
        intro i   hi hs hm_13 H locs hP hD hS ls hl
        refine lv_iload_n hx hb zd_X_canBeDone_13 rfl (lv_at hl 2 rfl) ?_
        refine lv_aload_n hx hb zd_X_canBeDone_14 rfl (lv_at hl 0 rfl) ?_
        refine va_get (D := D) (ci := 5) (v := .int (iI (F 502))) (C := zR_X) (T := zT_X) (N := 34) hx hb hts zi_X hown hK.1 hP 5 ga_5 rfl 2 (by decide) (hts _ zw_535) (fun _ h9 => h9) rfl zd_X_canBeDone_15 ?_
        refine x_icmp_ge (tgt := 54) hx hb zd_X_canBeDone_18 (by decide) (⟨by omega, by omega⟩) (⟨by omega, by omega⟩) (fun h_18 => ?_) (fun h_18 => ?_)
        · refine lv_iconst (v := iI (1)) hx hb zd_X_canBeDone_54 rfl ?_
          exact ret _ _ _ _ _ _ _ zd_X_canBeDone_55 hP hD hS (by omega) (⟨rfl, rfl, by omega, ⟨fun _ => ⟨by omega, fun k h0 h1 h2 => hs k h0 (by omega) h2⟩, fun _ => rfl⟩⟩)
        · have hc_ := hmch i (by omega) (by omega)
          have hy_ := hmly i (by omega) (by omega)
          refine lv_aload_n hx hb zd_X_canBeDone_21 rfl (lv_at hl 0 rfl) ?_
          refine va_get (D := D) (ci := 5) (v := .ref (q 37)) (C := zR_X) (T := zT_X) (N := 34) hx hb hts zi_X hown hK.1 hP 5 ga_5 rfl 5 (by decide) (hts _ zw_538) (fun _ h9 => h9) rfl zd_X_canBeDone_22 ?_
          refine lv_iload_n hx hb zd_X_canBeDone_25 rfl (lv_at hl 2 rfl) ?_
          refine x_iald (v := A 37 i) hx hb hK.1 hP 37 0 ga_37 rfl (by decide) (by omega) (by omega) (rfl) zd_X_canBeDone_26 ?_
          refine lv_iload_n hx hb zd_X_canBeDone_27 rfl (lv_at hl 1 rfl) ?_
          refine x_icmp_ne (tgt := 48) hx hb zd_X_canBeDone_28 (by decide) (⟨by omega, by omega⟩) (⟨by omega, by omega⟩) (fun h_28 => ?_) (fun h_28 => ?_)
          · refine lv_iinc (v := iI (i + 1)) (lv' := [(2, .int (iI (i + 1))), (0, .ref (q 5)), (1, .int (iI (a)))]) hx hb zd_X_canBeDone_48 hl (k := 2) rfl (iI_add _ _) (by decide) rfl (fun ls hl => ?_)
            refine lv_goto (tgt := 13) hx hb zd_X_canBeDone_51 (by decide) ?_
            exact ih_13 (i + 1)   (by first | assumption | omega | (simp_all; done)) (fun k h0 h1 h2 => by by_cases e_ : k = i; (subst e_; omega); (exact hs k h0 (by omega) h2)) (by omega) _ _ hP hD hS ls (lv_sub hl [1, 2, 0] rfl)
          · refine lv_aload_n hx hb zd_X_canBeDone_31 rfl (lv_at hl 0 rfl) ?_
            refine va_get (D := D) (ci := 5) (v := .ref (q 46)) (C := zR_X) (T := zT_X) (N := 34) hx hb hts zi_X hown hK.1 hP 5 ga_5 rfl 18 (by decide) (hts _ zw_551) (fun _ h9 => h9) rfl zd_X_canBeDone_32 ?_
            refine lv_iload_n hx hb zd_X_canBeDone_35 rfl (lv_at hl 2 rfl) ?_
            refine x_iald (v := A 46 i) hx hb hK.1 hP 46 0 ga_46 rfl (by decide) (by omega) (by omega) (rfl) zd_X_canBeDone_36 ?_
            refine lv_aload_n hx hb zd_X_canBeDone_37 rfl (lv_at hl 0 rfl) ?_
            refine va_get (D := D) (ci := 5) (v := .ref (q 39)) (C := zR_X) (T := zT_X) (N := 34) hx hb hts zi_X hown hK.1 hP 5 ga_5 rfl 7 (by decide) (hts _ zw_540) (fun _ h9 => h9) rfl zd_X_canBeDone_38 ?_
            refine lv_iload_n hx hb zd_X_canBeDone_41 rfl (lv_at hl 2 rfl) ?_
            refine x_iald (v := A 39 i) hx hb hK.1 hP 39 0 ga_39 rfl (by decide) (by omega) (by omega) (rfl) zd_X_canBeDone_42 ?_
            refine x_icmp_ge (tgt := 48) hx hb zd_X_canBeDone_43 (by decide) (⟨by omega, by omega⟩) (⟨by omega, by omega⟩) (fun h_43 => ?_) (fun h_43 => ?_)
            · refine lv_iinc (v := iI (i + 1)) (lv' := [(2, .int (iI (i + 1))), (0, .ref (q 5)), (1, .int (iI (a)))]) hx hb zd_X_canBeDone_48 hl (k := 2) rfl (iI_add _ _) (by decide) rfl (fun ls hl => ?_)
              refine lv_goto (tgt := 13) hx hb zd_X_canBeDone_51 (by decide) ?_
              exact ih_13 (i + 1)   (by first | assumption | omega | (simp_all; done)) (fun k h0 h1 h2 => by by_cases e_ : k = i; (subst e_; omega); (exact hs k h0 (by omega) h2)) (by omega) _ _ hP hD hS ls (lv_sub hl [1, 2, 0] rfl)
            · refine lv_iconst (v := iI (0)) hx hb zd_X_canBeDone_46 rfl ?_
              exact ret _ _ _ _ _ _ _ zd_X_canBeDone_47 hP hD hS (by omega) (⟨rfl, rfl, by omega, ⟨fun h => by omega, fun h => by have := h.2 i (by omega) (by omega) (by omega); omega⟩⟩)
    exact L_13 (((F 502 - (0) : Int) + 1).toNat) (0)   (by first | assumption | omega | (simp_all; done)) (fun k h0 h1 => by omega) (by omega) _ _ hP hD hS ls (lv_sub hl [1, 2, 0] rfl)
  · refine lv_iconst (v := iI (0)) hx hb zd_X_canBeDone_9 rfl ?_
    exact ret _ _ _ _ _ _ _ zd_X_canBeDone_10 hP hD hS (by omega) (⟨rfl, rfl, by omega, ⟨fun h => by omega, fun h => by have := h.1; omega⟩⟩)
