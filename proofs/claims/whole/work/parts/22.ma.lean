section AFO
variable {P b c : Prop} {u v w N i : Int}
theorem afo_s (h : P ↔ b ∨ c ∨ ∃ x, 1 ≤ x ∧ x < i ∧ u = N + x - 1 ∧ v = N + x ∧ w = 0) (hi : 1 ≤ i) : (P ∨ (u = N + i - 1 ∧ v = N + i ∧ w = 0)) ↔ b ∨ c ∨ ∃ x, 1 ≤ x ∧ x < i + 1 ∧ u = N + x - 1 ∧ v = N + x ∧ w = 0 := by
  rw [h]
  constructor
  · rintro ((h | h | ⟨x, h1, h2, h3⟩) | h)
    · exact Or.inl h
    · exact Or.inr (Or.inl h)
    · exact Or.inr (Or.inr ⟨x, h1, by omega, h3⟩)
    · exact Or.inr (Or.inr ⟨i, hi, by omega, h⟩)
  · rintro (h | h | ⟨x, h1, h2, h3⟩)
    · exact Or.inl (Or.inl h)
    · exact Or.inl (Or.inr (Or.inl h))
    · by_cases e : x = i
      · subst e; exact Or.inr h3
      · exact Or.inl (Or.inr (Or.inr ⟨x, h1, by omega, h3⟩))
theorem afo_z {j : Int} (h : P ↔ b ∨ c) (hj : j ≤ 1) : P ↔ b ∨ c ∨ ∃ x, 1 ≤ x ∧ x < j ∧ u = N + x - 1 ∧ v = N + x ∧ w = 0 := by
  rw [h]
  constructor
  · rintro (h | h)
    · exact Or.inl h
    · exact Or.inr (Or.inl h)
  · rintro (h | h | ⟨x, h1, h2, h3⟩)
    · exact Or.inl h
    · exact Or.inr h
    · omega
theorem afo_z2 {j k : Int} (h : P ↔ b ∨ c ∨ ∃ x, 1 ≤ x ∧ x < k ∧ u = N + x - 1 ∧ v = N + x ∧ w = 0) (hk : k ≤ 1) (hj : j ≤ 1) : P ↔ b ∨ c ∨ ∃ x, 1 ≤ x ∧ x < j ∧ u = N + x - 1 ∧ v = N + x ∧ w = 0 := by
  refine afo_z (h.trans ?_) hj
  constructor
  · rintro (h | h | ⟨x, h1, h2, h3⟩)
    · exact Or.inl h
    · exact Or.inr h
    · omega
  · rintro (h | h)
    · exact Or.inl h
    · exact Or.inr (Or.inl h)
end AFO
/-- a stretch of an array was set to t: one place more -/
theorem st_s {g h : Int → Int} {N i t : Int} (hi : 0 ≤ i) (hs : ∀ x, g x = if N ≤ x ∧ x < N + i then t else h x) : ∀ x, upI g (N + i) t x = if N ≤ x ∧ x < N + (i + 1) then t else h x := by
  intro x
  by_cases e : x = N + i
  · subst e
    rw [upI_s, if_pos (by omega)]
  · rw [upI_n e, hs x]
    by_cases c : N ≤ x ∧ x < N + i
    · rw [if_pos c, if_pos (by omega)]
    · rw [if_neg c, if_neg (by omega)]
section BS
variable {A : Nat → Int → Int} {i n m root : Int}
theorem bs_n (h : m = 0 ∨ ∃ a, 0 ≤ a ∧ a < i ∧ A 8 a = root ∧ m = A 7 a * A 6 a) : m = 0 ∨ ∃ a, 0 ≤ a ∧ a < i + 1 ∧ A 8 a = root ∧ m = A 7 a * A 6 a := by
  rcases h with h | ⟨a, h0, h1, h2⟩
  · exact Or.inl h
  · exact Or.inr ⟨a, h0, by omega, h2⟩
theorem bs_y (h : m = 0 ∨ ∃ a, 0 ≤ a ∧ a < i ∧ A 8 a = root ∧ m = A 7 a * A 6 a) (hi : 0 ≤ i) (hr : A 8 i = root) : max m (A 7 i * A 6 i) = 0 ∨ ∃ a, 0 ≤ a ∧ a < i + 1 ∧ A 8 a = root ∧ max m (A 7 i * A 6 i) = A 7 a * A 6 a := by
  by_cases c : m ≤ A 7 i * A 6 i
  · exact Or.inr ⟨i, hi, by omega, hr, by omega⟩
  · rw [show max m (A 7 i * A 6 i) = m by omega]
    exact bs_n h
theorem bs_e (h : m = 0 ∨ ∃ a, 0 ≤ a ∧ a < i ∧ A 8 a = root ∧ m = A 7 a * A 6 a) (hi : i ≤ n) : m = 0 ∨ ∃ a, 0 ≤ a ∧ a < n ∧ A 8 a = root ∧ m = A 7 a * A 6 a := by
  rcases h with h | ⟨a, h0, h1, h2⟩
  · exact Or.inl h
  · exact Or.inr ⟨a, h0, by omega, h2⟩
end BS
abbrev zr_P_addFiringsOf : Room := ({ frames := 1, cells := 0, slots := 0, locals := 23 } : Room)
set_option maxHeartbeats 4000000 in
set_option maxRecDepth 100000 in
theorem c_P_addFiringsOf (l : Launch) (D : va_G) (q : Nat → Nat) (c : Nat → ClassId) (sz : Nat) (F : Nat → Int) (A : Nat → Int → Int) (a : Int) (cnt : Int) (t : Int) (hN : 0 ≤ F 303) (hct : 1 ≤ cnt ∧ F 303 + cnt ≤ 40) (ha : 0 ≤ a ∧ a < 8) (hE : 0 ≤ F 304 ∧ F 304 + cnt ≤ 600) : zMV l zy_P_addFiringsOf zc_P_addFiringsOf 5 none zr_P_addFiringsOf D q c sz [.ref (q 3), .int (iI (a)), .int (iI (cnt)), .int (iI (t))] F A (fun F1 A1 => (∀ j, j ≠ 303 → j ≠ 304 → F1 j = F j) ∧ F1 303 = F 303 + cnt ∧ F1 304 = F 304 + cnt ∧ (∀ k, k ≠ 18 → k ≠ 19 → k ≠ 20 → k ≠ 21 → k ≠ 22 → A1 k = A k) ∧ A1 18 = upI (A 18) a (F 303) ∧ (∀ x, A1 19 x = if F 303 ≤ x ∧ x < F 303 + cnt then t else A 19 x) ∧ (∀ u v w, EIn (F1 304) (A1 20) (A1 21) (A1 22) u v w ↔ EIn (F 304) (A 20) (A 21) (A 22) u v w ∨ (u = F 303 + cnt - 1 ∧ v = F 303 ∧ w = 1) ∨ ∃ x, 1 ≤ x ∧ x < cnt ∧ u = F 303 + x - 1 ∧ v = F 303 + x ∧ w = 0)) := by
  refine z_ofV (by decide) (Nat.le_of_ble_eq_true rfl) ?_
  intro p e s m args below meth c0 A0 Q C0 ret hP hD hS ls hl
  obtain ⟨S, hK, hA⟩ := C0
  have hx := S.1
  have hb := S.2.1
  have hown := S.2.2.2.1
  have hts : ∀ w ∈ zG, w.before args s = true := fun w h => S.2.2.2.2 w (List.mem_cons_of_mem _ h)
  have hl : lv_has ls 5 [(0, .ref (q 3)), (1, .int (iI (a))), (2, .int (iI (cnt))), (3, .int (iI (t)))] := hl
  refine lv_aload_n hx hb zd_P_addFiringsOf_0 rfl (lv_at hl 0 rfl) ?_
  refine va_get (D := D) (ci := 3) (v := .int (iI (F 303))) (C := zR_P) (T := zT_P) (N := 13) hx hb hts zi_P hown hK.1 hP 3 ga_3 rfl 3 (by decide) (hts _ zw_136) (fun _ h9 => h9) rfl zd_P_addFiringsOf_1 ?_
  refine lv_iload_n hx hb zd_P_addFiringsOf_4 rfl (lv_at hl 2 rfl) ?_
  refine x_iadd hx hb zd_P_addFiringsOf_5 ?_
  refine lv_bipush (v := iI (40)) hx hb zd_P_addFiringsOf_6 (by decide) ?_
  refine x_icmp_le (tgt := 12) hx hb zd_P_addFiringsOf_8 (by decide) (⟨by omega, by omega⟩) (⟨by omega, by omega⟩) (fun h_8 => ?_) (fun h_8 => ?_)
  · refine lv_aload_n hx hb zd_P_addFiringsOf_12 rfl (lv_at hl 0 rfl) ?_
    refine va_get (D := D) (ci := 3) (v := .ref (q 18)) (C := zR_P) (T := zT_P) (N := 13) hx hb hts zi_P hown hK.1 hP 3 ga_3 rfl 5 (by decide) (hts _ zw_138) (fun _ h9 => h9) rfl zd_P_addFiringsOf_13 ?_
    refine lv_iload_n hx hb zd_P_addFiringsOf_16 rfl (lv_at hl 1 rfl) ?_
    refine lv_aload_n hx hb zd_P_addFiringsOf_17 rfl (lv_at hl 0 rfl) ?_
    refine va_get (D := D) (ci := 3) (v := .int (iI (F 303))) (C := zR_P) (T := zT_P) (N := 13) hx hb hts zi_P hown hK.1 hP 3 ga_3 rfl 3 (by decide) (hts _ zw_136) (fun _ h9 => h9) rfl zd_P_addFiringsOf_18 ?_
    refine x_iast hx hb hK.1 hP hD hS 18 0 ga_18 rfl (by decide) (by omega) (by omega) zd_P_addFiringsOf_21 (fun H locs hP hD hS => ?_)
    rw [gs_18] at hP hD
    refine lv_aload_n hx hb zd_P_addFiringsOf_22 rfl (lv_at hl 0 rfl) ?_
    refine lv_aload_n hx hb zd_P_addFiringsOf_23 rfl (lv_at hl 0 rfl) ?_
    refine va_get (D := D) (ci := 3) (v := .int (iI (F 303))) (C := zR_P) (T := zT_P) (N := 13) hx hb hts zi_P hown hK.1 hP 3 ga_3 rfl 3 (by decide) (hts _ zw_136) (fun _ h9 => h9) rfl zd_P_addFiringsOf_24 ?_
    refine lv_iload_n hx hb zd_P_addFiringsOf_27 rfl (lv_at hl 2 rfl) ?_
    refine x_iadd hx hb zd_P_addFiringsOf_28 ?_
    refine lv_iconst (v := iI (1)) hx hb zd_P_addFiringsOf_29 rfl ?_
    refine x_isub hx hb zd_P_addFiringsOf_30 ?_
    refine lv_aload_n hx hb zd_P_addFiringsOf_31 rfl (lv_at hl 0 rfl) ?_
    refine va_get (D := D) (ci := 3) (v := .int (iI (F 303))) (C := zR_P) (T := zT_P) (N := 13) hx hb hts zi_P hown hK.1 hP 3 ga_3 rfl 3 (by decide) (hts _ zw_136) (fun _ h9 => h9) rfl zd_P_addFiringsOf_32 ?_
    refine lv_iconst (v := iI (1)) hx hb zd_P_addFiringsOf_35 rfl ?_
    refine z_gov (z_runV (n := 3) (k := 3) (ci := 3) (As := [.int (iI (((F 303) + cnt) - 1)), .int (iI (F 303)), .int (iI (1))]) (rest := []) S (c_P_addEdge l D q c _ F (auP A 18 a (F 303)) (((F 303) + cnt) - 1) (F 303) 1 (by first | assumption | omega | exact ⟨by omega, by omega⟩) (by first | assumption | omega | exact ⟨by omega, by omega⟩) (by first | assumption | omega | exact ⟨by omega, by omega⟩)) zw_482 zw_484 zs_28 zw_4 zw_485 ⟨by decide +kernel, by decide, rfl, rfl⟩ hK hP hD ga_3 rfl rfl rfl hl.1 rfl (Nat.le_of_ble_eq_true rfl) zd_P_addFiringsOf_36 ⟨Nat.zero_le _, Nat.zero_le _⟩) hD hS hA (fun F_36 A_36 H locs hq_36 hP hD hS => ?_)
    obtain ⟨hf_36, ha_36⟩ := hq_36
    rw [hf_36, ha_36] at hP hD
    refine lv_iconst (v := iI (0)) hx hb zd_P_addFiringsOf_39 rfl ?_
    refine lv_istore (lv' := [(4, .int (iI (0))), (0, .ref (q 3)), (1, .int (iI (a))), (2, .int (iI (cnt))), (3, .int (iI (t)))]) hx hb zd_P_addFiringsOf_40 hl (by decide) rfl (fun ls hl => ?_)
    have L_42 : ∀ (fu : Nat) (i : Int)  (F42 : Nat → Int) (A42 : Nat → Int → Int), (0 ≤ i ∧ i ≤ cnt) → (∀ j, j ≠ 303 → j ≠ 304 → F42 j = F j) → (F42 303 = F 303 + i) → (F42 304 = F 304 + max 1 i) → (∀ k, k ≠ 18 → k ≠ 19 → k ≠ 20 → k ≠ 21 → k ≠ 22 → A42 k = A k) → (A42 18 = upI (A 18) a (F 303)) → (∀ x, A42 19 x = if F 303 ≤ x ∧ x < F 303 + i then t else A 19 x) → ((∀ u v w, EIn (F42 304) (A42 20) (A42 21) (A42 22) u v w ↔ EIn (F 304) (A 20) (A 21) (A 22) u v w ∨ (u = F 303 + cnt - 1 ∧ v = F 303 ∧ w = 1) ∨ ∃ x, 1 ≤ x ∧ x < i ∧ u = F 303 + x - 1 ∧ v = F 303 + x ∧ w = 0)) → (cnt - i < (fu : Int)) → ∀ (H : Heap) (locs : List Loc), va_P D zcl (gw q c F42 A42) H → va_D A0 (gw q c F42 A42) → va_S A0 s.heap H locs → ∀ ls : Array Slot, lv_has ls 5 [(0, .ref (q 3)), (1, .int (iI (a))), (2, .int (iI (cnt))), (3, .int (iI (t))), (4, .int (iI (i)))] → W p l e zr_P_addFiringsOf s m args below meth c0 H locs 0 0 Q (F0 m 42 ls []) := by
      intro fu
      induction fu with
      | zero => intro i  F42 A42 hi hF hN2 hE2 hk h18 h19 hed hm_42; exact absurd hm_42 (by omega)
      | succ fu ih_42 =>
        intro i  F42 A42 hi hF hN2 hE2 hk h18 h19 hed hm_42 H locs hP hD hS ls hl
        refine lv_iload hx hb zd_P_addFiringsOf_42 (lv_at hl 4 rfl) ?_
        refine lv_iload_n hx hb zd_P_addFiringsOf_44 rfl (lv_at hl 2 rfl) ?_
        refine x_icmp_ge (tgt := 94) hx hb zd_P_addFiringsOf_45 (by decide) (⟨by omega, by omega⟩) (⟨by omega, by omega⟩) (fun h_45 => ?_) (fun h_45 => ?_)
        · have e_ : i = cnt := by omega
          rw [e_] at hN2 hE2 h19 hed
          exact ret _ _ _ _ _ _ zd_P_addFiringsOf_94 hP hD hS (⟨hF, hN2, by omega, hk, h18, h19, hed⟩)
        · refine lv_aload_n hx hb zd_P_addFiringsOf_48 rfl (lv_at hl 0 rfl) ?_
          refine va_get (D := D) (ci := 3) (v := .ref (q 19)) (C := zR_P) (T := zT_P) (N := 13) hx hb hts zi_P hown hK.1 hP 3 ga_3 rfl 6 (by decide) (hts _ zw_139) (fun _ h9 => h9) rfl zd_P_addFiringsOf_49 ?_
          refine lv_aload_n hx hb zd_P_addFiringsOf_52 rfl (lv_at hl 0 rfl) ?_
          refine va_get (D := D) (ci := 3) (v := .int (iI (F42 303))) (C := zR_P) (T := zT_P) (N := 13) hx hb hts zi_P hown hK.1 hP 3 ga_3 rfl 3 (by decide) (hts _ zw_136) (fun _ h9 => h9) rfl zd_P_addFiringsOf_53 ?_
          refine lv_iload_n hx hb zd_P_addFiringsOf_56 rfl (lv_at hl 3 rfl) ?_
          refine x_iast hx hb hK.1 hP hD hS 19 0 ga_19 rfl (by decide) (by omega) (by omega) zd_P_addFiringsOf_57 (fun H locs hP hD hS => ?_)
          rw [gs_19] at hP hD
          refine lv_iload hx hb zd_P_addFiringsOf_58 (lv_at hl 4 rfl) ?_
          refine x_if_le (tgt := 78) hx hb zd_P_addFiringsOf_60 (by decide) (⟨by omega, by omega⟩) (fun h_60 => ?_) (fun h_60 => ?_)
          · refine lv_aload_n hx hb zd_P_addFiringsOf_78 rfl (lv_at hl 0 rfl) ?_
            refine lv_dup hx hb zd_P_addFiringsOf_79 rfl ?_
            refine va_get (D := D) (ci := 3) (v := .int (iI (F42 303))) (C := zR_P) (T := zT_P) (N := 13) hx hb hts zi_P hown hK.1 hP 3 ga_3 rfl 3 (by decide) (hts _ zw_136) (fun _ h9 => h9) rfl zd_P_addFiringsOf_80 ?_
            refine lv_iconst (v := iI (1)) hx hb zd_P_addFiringsOf_83 rfl ?_
            refine x_iadd hx hb zd_P_addFiringsOf_84 ?_
            refine va_put (D := D) (ci := 3) (v := .int (iI ((F42 303) + 1))) (ty := .int) (C := zR_P) (T := zT_P) (N := 13) hx hb hts zi_P zk_P zo_P zn_P hown hK.1 hP hD hS 3 ga_3 rfl 3 (by decide) (hts _ zw_136) (fun _ h9 => h9) rfl (by decide +kernel) (rfl) (rfl) (Nat.le_of_ble_eq_true rfl) zd_P_addFiringsOf_85 (fun H locs hP hD hS => ?_)
            rw [gs_3_3] at hP hD
            refine lv_iinc (v := iI (i + 1)) (lv' := [(4, .int (iI (i + 1))), (0, .ref (q 3)), (1, .int (iI (a))), (2, .int (iI (cnt))), (3, .int (iI (t)))]) hx hb zd_P_addFiringsOf_88 hl (k := 4) rfl (iI_add _ _) (by decide) rfl (fun ls hl => ?_)
            refine lv_goto (tgt := 42) hx hb zd_P_addFiringsOf_91 (by decide) ?_
            exact ih_42 (i + 1)  (fuP F42 303 ((F42 303) + 1)) (auP A42 19 (F42 303) t) (by first | assumption | omega | (simp_all; done)) (fun j h1 h2 => by simp [fuP, h1, h2, hF j h1 h2]) (by simp [fuP]; omega) (by simp [fuP]; omega) (fun k h1 h2 h3 h4 h5 => by simp [auP, h2, h3, h4, h5, hk k h1 h2 h3 h4 h5]) (by first | exact h18 | simpa [auP] using h18) (by have := st_s hi.1 h19; rw [← hN2] at this; exact this) (fun u v w => by first | exact afo_z2 (hed u v w) (by omega) (by omega) | (have h9 := afo_s (hed u v w) (i := i) (by omega); rw [← hN2] at h9; rw [← h9]; exact EIn_add (by omega) u v w)) (by omega) _ _ hP hD hS ls (lv_sub hl [1, 2, 3, 4, 0] rfl)
          · refine lv_aload_n hx hb zd_P_addFiringsOf_63 rfl (lv_at hl 0 rfl) ?_
            refine lv_aload_n hx hb zd_P_addFiringsOf_64 rfl (lv_at hl 0 rfl) ?_
            refine va_get (D := D) (ci := 3) (v := .int (iI (F42 303))) (C := zR_P) (T := zT_P) (N := 13) hx hb hts zi_P hown hK.1 hP 3 ga_3 rfl 3 (by decide) (hts _ zw_136) (fun _ h9 => h9) rfl zd_P_addFiringsOf_65 ?_
            refine lv_iconst (v := iI (1)) hx hb zd_P_addFiringsOf_68 rfl ?_
            refine x_isub hx hb zd_P_addFiringsOf_69 ?_
            refine lv_aload_n hx hb zd_P_addFiringsOf_70 rfl (lv_at hl 0 rfl) ?_
            refine va_get (D := D) (ci := 3) (v := .int (iI (F42 303))) (C := zR_P) (T := zT_P) (N := 13) hx hb hts zi_P hown hK.1 hP 3 ga_3 rfl 3 (by decide) (hts _ zw_136) (fun _ h9 => h9) rfl zd_P_addFiringsOf_71 ?_
            refine lv_iconst (v := iI (0)) hx hb zd_P_addFiringsOf_74 rfl ?_
            refine z_gov (z_runV (n := 3) (k := 3) (ci := 3) (As := [.int (iI ((F42 303) - 1)), .int (iI (F42 303)), .int (iI (0))]) (rest := []) S (c_P_addEdge l D q c _ F42 (auP A42 19 (F42 303) t) ((F42 303) - 1) (F42 303) 0 (by first | assumption | omega | exact ⟨by omega, by omega⟩) (by first | assumption | omega | exact ⟨by omega, by omega⟩) (by first | assumption | omega | exact ⟨by omega, by omega⟩)) zw_482 zw_484 zs_28 zw_4 zw_485 ⟨by decide +kernel, by decide, rfl, rfl⟩ hK hP hD ga_3 rfl rfl rfl hl.1 rfl (Nat.le_of_ble_eq_true rfl) zd_P_addFiringsOf_75 ⟨Nat.zero_le _, Nat.zero_le _⟩) hD hS hA (fun F_75 A_75 H locs hq_75 hP hD hS => ?_)
            obtain ⟨hf_75, ha_75⟩ := hq_75
            rw [hf_75, ha_75] at hP hD
            refine lv_aload_n hx hb zd_P_addFiringsOf_78 rfl (lv_at hl 0 rfl) ?_
            refine lv_dup hx hb zd_P_addFiringsOf_79 rfl ?_
            refine va_get (D := D) (ci := 3) (v := .int (iI (F42 303))) (C := zR_P) (T := zT_P) (N := 13) hx hb hts zi_P hown hK.1 hP 3 ga_3 rfl 3 (by decide) (hts _ zw_136) (fun _ h9 => h9) rfl zd_P_addFiringsOf_80 ?_
            refine lv_iconst (v := iI (1)) hx hb zd_P_addFiringsOf_83 rfl ?_
            refine x_iadd hx hb zd_P_addFiringsOf_84 ?_
            refine va_put (D := D) (ci := 3) (v := .int (iI ((F42 303) + 1))) (ty := .int) (C := zR_P) (T := zT_P) (N := 13) hx hb hts zi_P zk_P zo_P zn_P hown hK.1 hP hD hS 3 ga_3 rfl 3 (by decide) (hts _ zw_136) (fun _ h9 => h9) rfl (by decide +kernel) (rfl) (rfl) (Nat.le_of_ble_eq_true rfl) zd_P_addFiringsOf_85 (fun H locs hP hD hS => ?_)
            rw [gs_3_3] at hP hD
            refine lv_iinc (v := iI (i + 1)) (lv' := [(4, .int (iI (i + 1))), (0, .ref (q 3)), (1, .int (iI (a))), (2, .int (iI (cnt))), (3, .int (iI (t)))]) hx hb zd_P_addFiringsOf_88 hl (k := 4) rfl (iI_add _ _) (by decide) rfl (fun ls hl => ?_)
            refine lv_goto (tgt := 42) hx hb zd_P_addFiringsOf_91 (by decide) ?_
            exact ih_42 (i + 1)  (fuP (fuP F42 304 ((F42 304) + 1)) 303 ((F42 303) + 1)) (auP (auP (auP (auP A42 19 (F42 303) t) 20 (F42 304) ((F42 303) - 1)) 21 (F42 304) (F42 303)) 22 (F42 304) 0) (by first | assumption | omega | (simp_all; done)) (fun j h1 h2 => by simp [fuP, h1, h2, hF j h1 h2]) (by simp [fuP]; omega) (by simp [fuP]; omega) (fun k h1 h2 h3 h4 h5 => by simp [auP, h2, h3, h4, h5, hk k h1 h2 h3 h4 h5]) (by first | exact h18 | simpa [auP] using h18) (by have := st_s hi.1 h19; rw [← hN2] at this; exact this) (fun u v w => by first | exact afo_z2 (hed u v w) (by omega) (by omega) | (have h9 := afo_s (hed u v w) (i := i) (by omega); rw [← hN2] at h9; rw [← h9]; exact EIn_add (by omega) u v w)) (by omega) _ _ hP hD hS ls (lv_sub hl [1, 2, 3, 4, 0] rfl)
    exact L_42 (((cnt - (0) : Int) + 1).toNat) (0)  (fuP F 304 ((F 304) + 1)) (auP (auP (auP (auP A 18 a (F 303)) 20 (F 304) (((F 303) + cnt) - 1)) 21 (F 304) (F 303)) 22 (F 304) 1) (by first | assumption | omega | (simp_all; done)) (fun j h1 h2 => by simp [fuP, h2]) (by simp [fuP]) (by show F 304 + 1 = F 304 + max 1 0; omega) (fun k h1 h2 h3 h4 h5 => by simp [auP, h1, h3, h4, h5]) (rfl) (fun x => by rw [if_neg (by omega)]; rfl) (fun u v w => afo_z (EIn_add (by omega) u v w) (by omega)) (by omega) _ _ hP hD hS ls (lv_sub hl [1, 2, 3, 4, 0] rfl)
  · omega

abbrev zr_P_beginWithSlowestActor : Room := ({ frames := 1, cells := 0, slots := 0, locals := 29 } : Room)
set_option maxHeartbeats 4000000 in
set_option maxRecDepth 100000 in
theorem c_P_beginWithSlowestActor (l : Launch) (D : va_G) (q : Nat → Nat) (c : Nat → ClassId) (sz : Nat) (F : Nat → Int) (A : Nat → Int → Int) (root : Int) (hn : 1 ≤ F 100 ∧ F 100 ≤ 8) (hc : 0 ≤ F 101 ∧ F 101 ≤ 14) (hact : ∀ a, 0 ≤ a → a < 8 → (1 ≤ A 7 a ∧ A 7 a ≤ 4782969) ∧ 0 ≤ A 8 a ∧ A 8 a < 8) (htm : ∀ a, 0 ≤ a → a < 8 → 1 ≤ A 6 a ∧ A 6 a ≤ 9) (hrt : 0 ≤ root ∧ root < 8) : zMV l zy_P_beginWithSlowestActor zc_P_beginWithSlowestActor 4 none zr_P_beginWithSlowestActor D q c sz [.ref (q 3), .ref (q 1), .int (iI (root))] F A (fun F1 A1 => A1 = A ∧ (∀ j, j ≠ 301 → j ≠ 302 → F1 j = F j) ∧ F1 302 = 1 ∧ (∀ a, 0 ≤ a → a < F 100 → A 8 a = root → A 7 a * A 6 a ≤ F1 301) ∧ (F1 301 = 0 ∨ ∃ a, 0 ≤ a ∧ a < F 100 ∧ A 8 a = root ∧ F1 301 = A 7 a * A 6 a)) := by
  refine z_ofV (by decide) (Nat.le_of_ble_eq_true rfl) ?_
  intro p e s m args below meth c0 A0 Q C0 ret hP hD hS ls hl
  obtain ⟨S, hK, hA⟩ := C0
  have hx := S.1
  have hb := S.2.1
  have hown := S.2.2.2.1
  have hts : ∀ w ∈ zG, w.before args s = true := fun w h => S.2.2.2.2 w (List.mem_cons_of_mem _ h)
  have hl : lv_has ls 4 [(0, .ref (q 3)), (1, .ref (q 1)), (2, .int (iI (root)))] := hl
  refine lv_aload_n hx hb zd_P_beginWithSlowestActor_0 rfl (lv_at hl 0 rfl) ?_
  refine lv_iconst (v := iI (0)) hx hb zd_P_beginWithSlowestActor_1 rfl ?_
  refine va_put (D := D) (ci := 3) (v := .int (iI (0))) (ty := .int) (C := zR_P) (T := zT_P) (N := 13) hx hb hts zi_P zk_P zo_P zn_P hown hK.1 hP hD hS 3 ga_3 rfl 1 (by decide) (hts _ zw_132) (fun _ h9 => h9) rfl (by decide +kernel) (rfl) (rfl) (Nat.le_of_ble_eq_true rfl) zd_P_beginWithSlowestActor_2 (fun H locs hP hD hS => ?_)
  rw [gs_3_1] at hP hD
  refine lv_aload_n hx hb zd_P_beginWithSlowestActor_5 rfl (lv_at hl 0 rfl) ?_
  refine lv_iconst (v := iI (1)) hx hb zd_P_beginWithSlowestActor_6 rfl ?_
  refine va_put (D := D) (ci := 3) (v := .int (iI (1))) (ty := .int) (C := zR_P) (T := zT_P) (N := 13) hx hb hts zi_P zk_P zo_P zn_P hown hK.1 hP hD hS 3 ga_3 rfl 2 (by decide) (hts _ zw_134) (fun _ h9 => h9) rfl (by decide +kernel) (rfl) (rfl) (Nat.le_of_ble_eq_true rfl) zd_P_beginWithSlowestActor_7 (fun H locs hP hD hS => ?_)
  rw [gs_3_2] at hP hD
  refine lv_iconst (v := iI (0)) hx hb zd_P_beginWithSlowestActor_10 rfl ?_
  refine lv_istore_n (lv' := [(3, .int (iI (0))), (0, .ref (q 3)), (1, .ref (q 1)), (2, .int (iI (root)))]) hx hb zd_P_beginWithSlowestActor_11 rfl hl (by decide) rfl (fun ls hl => ?_)
  have L_12 : ∀ (fu : Nat) (i : Int)  (F12 : Nat → Int), (0 ≤ i ∧ i ≤ F 100) → (∀ j, j ≠ 301 → j ≠ 302 → F12 j = F j) → (F12 302 = 1) → (∀ a, 0 ≤ a → a < i → A 8 a = root → A 7 a * A 6 a ≤ F12 301) → (F12 301 = 0 ∨ ∃ a, 0 ≤ a ∧ a < i ∧ A 8 a = root ∧ F12 301 = A 7 a * A 6 a) → (0 ≤ F12 301 ∧ F12 301 ≤ 4782969 * 9) → (F 100 - i < (fu : Int)) → ∀ (H : Heap) (locs : List Loc), va_P D zcl (gw q c F12 A) H → va_D A0 (gw q c F12 A) → va_S A0 s.heap H locs → ∀ ls : Array Slot, lv_has ls 4 [(0, .ref (q 3)), (1, .ref (q 1)), (2, .int (iI (root))), (3, .int (iI (i)))] → W p l e zr_P_beginWithSlowestActor s m args below meth c0 H locs 0 0 Q (F0 m 12 ls []) := by
    intro fu
    induction fu with
    | zero => intro i  F12 hi hF h2 hle hex hb_ hm_12; exact absurd hm_12 (by omega)
    | succ fu ih_12 =>
      intro i  F12 hi hF h2 hle hex hb_ hm_12 H locs hP hD hS ls hl
      have e100 := hF 100 (by decide) (by decide)
      refine lv_iload_n hx hb zd_P_beginWithSlowestActor_12 rfl (lv_at hl 3 rfl) ?_
      refine lv_aload_n hx hb zd_P_beginWithSlowestActor_13 rfl (lv_at hl 1 rfl) ?_
      refine va_getN (D := D) (ci := 1) (v := .int (iI (F12 100))) (C := zR_N) (T := zT_N) (N := 11) hx hb hts zi_N hown hK.1 hP 1 ga_1 rfl 0 (by decide) (zNW.use hK.2 zw_35) (fun _ h9 => h9) rfl zd_P_beginWithSlowestActor_14 ?_
      refine x_icmp_ge (tgt := 60) hx hb zd_P_beginWithSlowestActor_17 (by decide) (⟨by omega, by omega⟩) (⟨by omega, by omega⟩) (fun h_17 => ?_) (fun h_17 => ?_)
      · exact ret _ _ _ _ _ _ zd_P_beginWithSlowestActor_60 hP hD hS (⟨rfl, hF, h2, fun a h0 h1 h3 => hle a h0 (by omega) h3, bs_e hex (by omega)⟩)
      · have hc_ := hact i (by omega) (by omega)
        have ht_ := htm i (by omega) (by omega)
        have hm_ := mulb hc_.1 ht_
        refine lv_aload_n hx hb zd_P_beginWithSlowestActor_20 rfl (lv_at hl 1 rfl) ?_
        refine va_getN (D := D) (ci := 1) (v := .ref (q 8)) (C := zR_N) (T := zT_N) (N := 11) hx hb hts zi_N hown hK.1 hP 1 ga_1 rfl 5 (by decide) (zNW.use hK.2 zw_52) (fun _ h9 => h9) rfl zd_P_beginWithSlowestActor_21 ?_
        refine lv_iload_n hx hb zd_P_beginWithSlowestActor_24 rfl (lv_at hl 3 rfl) ?_
        refine x_iald (v := A 8 i) hx hb hK.1 hP 8 0 ga_8 rfl (by decide) (by omega) (by omega) (rfl) zd_P_beginWithSlowestActor_25 ?_
        refine lv_iload_n hx hb zd_P_beginWithSlowestActor_26 rfl (lv_at hl 2 rfl) ?_
        refine x_icmp_ne (tgt := 54) hx hb zd_P_beginWithSlowestActor_27 (by decide) (⟨by omega, by omega⟩) (⟨by omega, by omega⟩) (fun h_27 => ?_) (fun h_27 => ?_)
        · refine lv_iinc (v := iI (i + 1)) (lv' := [(3, .int (iI (i + 1))), (0, .ref (q 3)), (1, .ref (q 1)), (2, .int (iI (root)))]) hx hb zd_P_beginWithSlowestActor_54 hl (k := 3) rfl (iI_add _ _) (by decide) rfl (fun ls hl => ?_)
          refine lv_goto (tgt := 12) hx hb zd_P_beginWithSlowestActor_57 (by decide) ?_
          exact ih_12 (i + 1)  F12 (by first | assumption | omega | (simp_all; done)) (fun j h1 h2 => by first | exact hF j h1 h2 | simp [fuP, h1, hF j h1 h2]) (by first | exact h2 | simpa [fuP] using h2) (fun a h0 h1 h2 => by by_cases e_ : a = i; (subst e_; first | omega | (simp [fuP]; omega)); (have := hle a h0 (by omega) h2; first | exact this | (simp [fuP]; omega))) (by first | exact bs_n hex | exact bs_y hex hi.1 h_27) (by first | exact hb_ | (simp [fuP]; omega)) (by omega) _ _ hP hD hS ls (lv_sub hl [1, 2, 3, 0] rfl)
        · refine lv_aload_n hx hb zd_P_beginWithSlowestActor_30 rfl (lv_at hl 0 rfl) ?_
          refine lv_aload_n hx hb zd_P_beginWithSlowestActor_31 rfl (lv_at hl 0 rfl) ?_
          refine va_get (D := D) (ci := 3) (v := .int (iI (F12 301))) (C := zR_P) (T := zT_P) (N := 13) hx hb hts zi_P hown hK.1 hP 3 ga_3 rfl 1 (by decide) (hts _ zw_132) (fun _ h9 => h9) rfl zd_P_beginWithSlowestActor_32 ?_
          refine lv_aload_n hx hb zd_P_beginWithSlowestActor_35 rfl (lv_at hl 1 rfl) ?_
          refine va_getN (D := D) (ci := 1) (v := .ref (q 7)) (C := zR_N) (T := zT_N) (N := 11) hx hb hts zi_N hown hK.1 hP 1 ga_1 rfl 4 (by decide) (zNW.use hK.2 zw_49) (fun _ h9 => h9) rfl zd_P_beginWithSlowestActor_36 ?_
          refine lv_iload_n hx hb zd_P_beginWithSlowestActor_39 rfl (lv_at hl 3 rfl) ?_
          refine x_iald (v := A 7 i) hx hb hK.1 hP 7 0 ga_7 rfl (by decide) (by omega) (by omega) (rfl) zd_P_beginWithSlowestActor_40 ?_
          refine lv_aload_n hx hb zd_P_beginWithSlowestActor_41 rfl (lv_at hl 1 rfl) ?_
          refine va_getN (D := D) (ci := 1) (v := .ref (q 6)) (C := zR_N) (T := zT_N) (N := 11) hx hb hts zi_N hown hK.1 hP 1 ga_1 rfl 3 (by decide) (zNW.use hK.2 zw_45) (fun _ h9 => h9) rfl zd_P_beginWithSlowestActor_42 ?_
          refine lv_iload_n hx hb zd_P_beginWithSlowestActor_45 rfl (lv_at hl 3 rfl) ?_
          refine x_iald (v := A 6 i) hx hb hK.1 hP 6 0 ga_6 rfl (by decide) (by omega) (by omega) (rfl) zd_P_beginWithSlowestActor_46 ?_
          refine x_imul hx hb zd_P_beginWithSlowestActor_47 ?_
          refine x_mmax hx hb (S.2.2.1.trans hl.1.symm) hown (hts _ zw_504) (hts _ zw_248) (hts _ zw_7) (hts _ zw_249) (by decide) (Nat.le_of_ble_eq_true rfl) (Nat.zero_le _) (Nat.zero_le _) (⟨by omega, by omega⟩) (⟨by omega, by omega⟩) zd_P_beginWithSlowestActor_48 ?_
          refine va_put (D := D) (ci := 3) (v := .int (iI (max (F12 301) ((A 7 i) * (A 6 i))))) (ty := .int) (C := zR_P) (T := zT_P) (N := 13) hx hb hts zi_P zk_P zo_P zn_P hown hK.1 hP hD hS 3 ga_3 rfl 1 (by decide) (hts _ zw_132) (fun _ h9 => h9) rfl (by decide +kernel) (rfl) (rfl) (Nat.le_of_ble_eq_true rfl) zd_P_beginWithSlowestActor_51 (fun H locs hP hD hS => ?_)
          rw [gs_3_1] at hP hD
          refine lv_iinc (v := iI (i + 1)) (lv' := [(3, .int (iI (i + 1))), (0, .ref (q 3)), (1, .ref (q 1)), (2, .int (iI (root)))]) hx hb zd_P_beginWithSlowestActor_54 hl (k := 3) rfl (iI_add _ _) (by decide) rfl (fun ls hl => ?_)
          refine lv_goto (tgt := 12) hx hb zd_P_beginWithSlowestActor_57 (by decide) ?_
          exact ih_12 (i + 1)  (fuP F12 301 (max (F12 301) ((A 7 i) * (A 6 i)))) (by first | assumption | omega | (simp_all; done)) (fun j h1 h2 => by first | exact hF j h1 h2 | simp [fuP, h1, hF j h1 h2]) (by first | exact h2 | simpa [fuP] using h2) (fun a h0 h1 h2 => by by_cases e_ : a = i; (subst e_; first | omega | (simp [fuP]; omega)); (have := hle a h0 (by omega) h2; first | exact this | (simp [fuP]; omega))) (by first | exact bs_n hex | exact bs_y hex hi.1 h_27) (by first | exact hb_ | (simp [fuP]; omega)) (by omega) _ _ hP hD hS ls (lv_sub hl [1, 2, 3, 0] rfl)
  exact L_12 (((F 100 - (0) : Int) + 1).toNat) (0)  (fuP (fuP F 301 0) 302 1) (by first | assumption | omega | (simp_all; done)) (fun j h1 h2 => by simp [fuP, h1, h2]) (rfl) (fun a h0 h1 => by omega) (Or.inl rfl) (by simp [fuP]) (by omega) _ _ hP hD hS ls (lv_sub hl [1, 2, 3, 0] rfl)
