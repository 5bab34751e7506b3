/-- the results of the roots, as the reference holds them -/
def FCX (F : Nat → Int) (A : Nat → Int → Int) : Prop := (F 511 = 0 ∨ F 511 = 1) ∧ ∃ rr : Int → Int, (∀ x, 0 ≤ x → x < F 501 → A 41 x = x → lRes (F 501) (A 41) (A 42) (A 43) x (rr x)) ∧ (F 511 = 1 ↔ (∃ x, 0 ≤ x ∧ x < F 501 ∧ A 41 x = x ∧ rr x = 0) ∨ 400 < sI (cnR (A 41) (A 42) (A 43) rr) (F 501)) ∧ ∀ a, 0 ≤ a → a < F 501 → rr (A 41 a) ≠ 0 → A 44 a = (if 400 < cnR (A 41) (A 42) (A 43) rr a then 400 else cnR (A 41) (A 42) (A 43) rr a)
abbrev FOm (F : Nat → Int) (A : Nat → Int → Int) : Prop := FO (F 501) (F 502) (F 501) (A 36) (A 37) (A 38) (A 39) (A 41) (A 42) (A 43)
/-- what the reference knows -/
def KM (F : Nat → Int) (A : Nat → Int → Int) : Prop := UN (F 501) (F 502) (F 510) (A 36) (A 37) (A 38) (A 39) ∧ FOm F A ∧ F 512 = sI (fun a => if A 41 a = a then 1 else 0) (F 501) ∧ (F 510 ≠ -1 → F 520 = 0 ∧ F 511 = 0) ∧ (F 510 = -1 → FCX F A ∧ (F 511 = 0 → RmOK F A) ∧ (F 511 = 1 → F 520 = 0))
theorem FO_use {n m : Int} {fr to pu tk p ov un : Int → Int} (hn : 0 ≤ n ∧ n ≤ 8) (h : FO n m n fr to pu tk p ov un) : (∀ x, 0 ≤ x → x < n → (1 ≤ ov x ∧ ov x ≤ 43046721) ∧ 1 ≤ un x ∧ un x ≤ 43046721) ∧ (∀ x, 0 ≤ x → x < n → 0 ≤ p x ∧ p x < 8) ∧ ∀ x, 0 ≤ x → x < n → p x < n ∧ p (p x) = p x := by
  have hbd := bd_b (p := p) hn
  have hN : ∀ x, 0 ≤ x → x < n → fN n m fr to pu tk p ov un x := fun x x0 x1 => ((h.1 x x0 x1).resolve_left (h.2.1 x x0 x1 x1)).2
  refine ⟨fun x x0 x1 => ?_, fun x x0 x1 => ?_, fun x x0 x1 => ?_⟩
  · obtain ⟨-, -, h3, h4, -⟩ := hN x x0 x1; omega
  · have := (hN x x0 x1).1; omega
  · have := (hN x x0 x1).1; exact ⟨by omega, (hN x x0 x1).2.2.2.2.2.1⟩
theorem kn_mct {F : Nat → Int} {A : Nat → Int → Int} (hn : 1 ≤ F 501 ∧ F 501 ≤ 8) (hF : FOm F A) (hX : FCX F A) (hg : F 511 = 0) : (∀ a, 0 ≤ a → a < F 501 → 1 ≤ A 44 a ∧ A 44 a ≤ 400) ∧ sI (A 44) (F 501) ≤ 400 ∧ ∃ rr : Int → Int, (∀ x, 0 ≤ x → x < F 501 → A 41 x = x → lRes (F 501) (A 41) (A 42) (A 43) x (rr x) ∧ rr x ≠ 0) ∧ ∀ a, 0 ≤ a → a < F 501 → A 44 a * A 43 a = rr (A 41 a) * A 42 a := by
  obtain ⟨-, rr, h1, h2, h3⟩ := hX
  obtain ⟨u1, u2, u3⟩ := FO_use (by omega) hF
  have hno : ¬ ((∃ x, 0 ≤ x ∧ x < F 501 ∧ A 41 x = x ∧ rr x = 0) ∨ 400 < sI (cnR (A 41) (A 42) (A 43) rr) (F 501)) := fun c => by have := h2.mpr c; omega
  have hr0 : ∀ x, 0 ≤ x → x < F 501 → A 41 x = x → rr x ≠ 0 := fun x x0 x1 x2 c => hno (Or.inl ⟨x, x0, x1, x2, c⟩)
  have hs : sI (cnR (A 41) (A 42) (A 43) rr) (F 501) ≤ 400 := Int.le_of_not_gt (fun c => hno (Or.inr c))
  have key : ∀ a, 0 ≤ a → a < F 501 → rr (A 41 a) ≠ 0 ∧ cnR (A 41) (A 42) (A 43) rr a * A 43 a = rr (A 41 a) * A 42 a ∧ 1 ≤ cnR (A 41) (A 42) (A 43) rr a := by
    intro a a0 a1
    have p0 := (u2 a a0 a1).1
    obtain ⟨p1, p2⟩ := u3 a a0 a1
    have r0 := hr0 (A 41 a) p0 p1 p2
    have hl := (h1 (A 41 a) p0 p1 p2).resolve_left (fun c => r0 c.1)
    have hw := hl.2.1 a a0 a1 rfl
    obtain ⟨o1, o2⟩ := u1 a a0 a1
    have e : cnR (A 41) (A 42) (A 43) rr a * A 43 a = rr (A 41 a) * A 42 a := by
      unfold cnR; rw [if_neg r0, Int.mul_comm]
      exact Int.mul_tdiv_cancel' (Int.dvd_of_tmod_eq_zero hw)
    refine ⟨r0, e, ?_⟩
    have m1 := (mulb (X := 400) (Y := 43046721) hl.1 o1).1
    refine Int.le_of_not_gt (fun c => ?_)
    have : cnR (A 41) (A 42) (A 43) rr a * A 43 a ≤ 0 * A 43 a := Int.mul_le_mul_of_nonneg_right (by omega) (by omega)
    omega
  have hle : ∀ a, 0 ≤ a → a < F 501 → cnR (A 41) (A 42) (A 43) rr a ≤ 400 := fun a a0 a1 => by
    have := sI_le (f := cnR (A 41) (A 42) (A 43) rr) (n := F 501) (fun b b0 b1 => by have := (key b b0 b1).2.2; omega) a a0 a1
    omega
  have he : ∀ a, 0 ≤ a → a < F 501 → A 44 a = cnR (A 41) (A 42) (A 43) rr a := fun a a0 a1 => by
    rw [h3 a a0 a1 (key a a0 a1).1, if_neg (by have := hle a a0 a1; omega)]
  refine ⟨fun a a0 a1 => ?_, by rw [sI_cong he]; exact hs, rr, fun x x0 x1 x2 => ⟨h1 x x0 x1 x2, hr0 x x0 x1 x2⟩, fun a a0 a1 => by rw [he a a0 a1]; exact (key a a0 a1).2.1⟩
  rw [he a a0 a1]
  have := (key a a0 a1).2.2
  have := hle a a0 a1
  omega
section UNS
variable {n m i u : Int} {fr to pu tk : Int → Int}
theorem un_y (hs : Solv n i fr to pu tk) (hu : u = -1) (h : (u = -1 ∧ ∀ j, 1 ≤ j → j < i → Solv n j fr to pu tk) ∨ ((u = i - 2 ∧ 2 ≤ i) ∧ (∀ j, 1 ≤ j → j < i - 1 → Solv n j fr to pu tk) ∧ ¬ Solv n (i - 1) fr to pu tk)) : (u = -1 ∧ ∀ j, 1 ≤ j → j < i + 1 → Solv n j fr to pu tk) ∨ ((u = i + 1 - 2 ∧ 2 ≤ i + 1) ∧ (∀ j, 1 ≤ j → j < i + 1 - 1 → Solv n j fr to pu tk) ∧ ¬ Solv n (i + 1 - 1) fr to pu tk) := by
  rcases h with ⟨h1, h2⟩ | ⟨⟨h1, h3⟩, _⟩
  · refine Or.inl ⟨h1, fun j j0 j1 => ?_⟩
    by_cases e : j = i
    · subst e; exact hs
    · exact h2 j j0 (by omega)
  · omega
theorem un_n (hs : ¬ Solv n i fr to pu tk) (hu : u = -1) (h : (u = -1 ∧ ∀ j, 1 ≤ j → j < i → Solv n j fr to pu tk) ∨ ((u = i - 2 ∧ 2 ≤ i) ∧ (∀ j, 1 ≤ j → j < i - 1 → Solv n j fr to pu tk) ∧ ¬ Solv n (i - 1) fr to pu tk)) (hi : 1 ≤ i) : (i - 1 = -1 ∧ ∀ j, 1 ≤ j → j < i + 1 → Solv n j fr to pu tk) ∨ ((i - 1 = i + 1 - 2 ∧ 2 ≤ i + 1) ∧ (∀ j, 1 ≤ j → j < i + 1 - 1 → Solv n j fr to pu tk) ∧ ¬ Solv n (i + 1 - 1) fr to pu tk) := by
  rcases h with ⟨h1, h2⟩ | ⟨⟨h1, h3⟩, _⟩
  · exact Or.inr ⟨⟨by omega, by omega⟩, fun j j0 j1 => h2 j j0 (by omega), by rw [show i + 1 - 1 = i by omega]; exact hs⟩
  · omega
theorem un_end (h : (u = -1 ∧ ∀ j, 1 ≤ j → j < i → Solv n j fr to pu tk) ∨ ((u = i - 2 ∧ 2 ≤ i) ∧ (∀ j, 1 ≤ j → j < i - 1 → Solv n j fr to pu tk) ∧ ¬ Solv n (i - 1) fr to pu tk)) (he : m < i ∨ ¬ u = -1) (hi : i ≤ m + 1) : UN n m u fr to pu tk := by
  rcases h with ⟨h1, h2⟩ | ⟨⟨h1, h3⟩, h4, h5⟩
  · rcases he with he | he
    · exact Or.inl ⟨h1, fun j j0 j1 => h2 j j0 (by omega)⟩
    · exact absurd h1 he
  · exact Or.inr ⟨⟨by omega, by omega⟩, fun j j0 j1 => h4 j j0 (by omega), by rw [show u + 1 = i - 1 by omega]; exact h5⟩
end UNS
section KNS
variable {F F1 : Nat → Int} {A A1 A62 : Nat → Int → Int} {u : Int}
theorem kn_KM (e501 : F1 501 = F 501) (e502 : F1 502 = F 502) (e510 : F1 510 = u) (hk : ∀ k, k ≠ 41 → k ≠ 42 → k ≠ 43 → k ≠ 44 → k ≠ 45 → k ≠ 46 → k ≠ 47 → k ≠ 48 → A1 k = A k) (e41 : A1 41 = A62 41) (e42 : A1 42 = A62 42) (e43 : A1 43 = A62 43) (hU : UN (F 501) (F 502) u (A 36) (A 37) (A 38) (A 39)) (g2 : FO (F 501) (F 502) (F 501) (A 36) (A 37) (A 38) (A 39) (A62 41) (A62 42) (A62 43)) (h512 : F1 512 = sI (fun a => if A62 41 a = a then 1 else 0) (F 501))
    (h1 : u ≠ -1 → F1 520 = 0 ∧ F1 511 = 0) (h2 : u = -1 → FCX F1 A1 ∧ (F1 511 = 0 → RmOK F1 A1) ∧ (F1 511 = 1 → F1 520 = 0)) : KM F1 A1 := by
  unfold KM FOm
  rw [e501, e502, e510, hk 36 (by decide) (by decide) (by decide) (by decide) (by decide) (by decide) (by decide) (by decide), hk 37 (by decide) (by decide) (by decide) (by decide) (by decide) (by decide) (by decide) (by decide), hk 38 (by decide) (by decide) (by decide) (by decide) (by decide) (by decide) (by decide) (by decide), hk 39 (by decide) (by decide) (by decide) (by decide) (by decide) (by decide) (by decide) (by decide), e41, e42, e43]
  exact ⟨hU, g2, h512, h1, h2⟩
end KNS
abbrev zr_X_know : Room := ({ frames := 4, cells := 0, slots := 0, locals := 103 } : Room)
set_option maxHeartbeats 4000000 in
set_option maxRecDepth 100000 in
theorem c_X_know (l : Launch) (D : va_G) (q : Nat → Nat) (c : Nat → ClassId) (sz : Nat) (F : Nat → Int) (A : Nat → Int → Int)  (hmn : 1 ≤ F 501 ∧ F 501 ≤ 8) (hmm : 0 ≤ F 502 ∧ F 502 ≤ 14) (hmch : ∀ k, 0 ≤ k → k < F 502 → (0 ≤ A 36 k ∧ A 36 k < F 501) ∧ (0 ≤ A 37 k ∧ A 37 k < F 501) ∧ (1 ≤ A 38 k ∧ A 38 k ≤ 9) ∧ (1 ≤ A 39 k ∧ A 39 k ≤ 9) ∧ 0 ≤ A 40 k ∧ A 40 k ≤ 99) (hmk : (F 509 = 0 ∨ F 509 = 1) ∧ (F 509 = 1 → KM F A)) : zMV l zy_X_know zc_X_know 2 none zr_X_know D q c sz [.ref (q 5)] F A (fun F1 A1 => F1 509 = 1 ∧ (∀ j, j ≠ 509 → j ≠ 510 → j ≠ 511 → j ≠ 512 → j ≠ 520 → F1 j = F j) ∧ (∀ k, k ≠ 41 → k ≠ 42 → k ≠ 43 → k ≠ 44 → k ≠ 45 → k ≠ 46 → k ≠ 47 → k ≠ 48 → A1 k = A k) ∧ KM F1 A1) := by
  refine z_ofV (by decide) (Nat.le_of_ble_eq_true rfl) ?_
  intro p e s m args below meth c0 A0 Q C0 ret hP hD hS ls hl
  obtain ⟨S, hK, hA⟩ := C0
  have hx := S.1
  have hb := S.2.1
  have hown := S.2.2.2.1
  have hts : ∀ w ∈ zG, w.before args s = true := fun w h => S.2.2.2.2 w (List.mem_cons_of_mem _ h)
  have hl : lv_has ls 2 [(0, .ref (q 5))] := hl
  refine lv_aload_n hx hb zd_X_know_0 rfl (lv_at hl 0 rfl) ?_
  refine va_get (D := D) (ci := 5) (v := .int (iI (F 509))) (C := zR_X) (T := zT_X) (N := 34) hx hb hts zi_X hown hK.1 hP 5 ga_5 rfl 9 (by decide) (hts _ zw_542) (fun _ h9 => h9) rfl zd_X_know_1 ?_
  refine x_if_eq (tgt := 8) hx hb zd_X_know_4 (by decide) (⟨by omega, by omega⟩) (fun h_4 => ?_) (fun h_4 => ?_)
  · refine lv_aload_n hx hb zd_X_know_8 rfl (lv_at hl 0 rfl) ?_
    refine lv_iconst (v := iI (1)) hx hb zd_X_know_9 rfl ?_
    refine va_put (D := D) (ci := 5) (v := .int (iI (1))) (ty := .boolean) (C := zR_X) (T := zT_X) (N := 34) hx hb hts zi_X zk_X zo_X zn_X hown hK.1 hP hD hS 5 ga_5 rfl 9 (by decide) (hts _ zw_542) (fun _ h9 => h9) rfl (by decide +kernel) (rfl) (rfl) (Nat.le_of_ble_eq_true rfl) zd_X_know_10 (fun H locs hP hD hS => ?_)
    rw [gs_5_9] at hP hD
    refine lv_aload_n hx hb zd_X_know_13 rfl (lv_at hl 0 rfl) ?_
    refine lv_iconst (v := iI (-1)) hx hb zd_X_know_14 rfl ?_
    refine va_put (D := D) (ci := 5) (v := .int (iI (-1))) (ty := .int) (C := zR_X) (T := zT_X) (N := 34) hx hb hts zi_X zk_X zo_X zn_X hown hK.1 hP hD hS 5 ga_5 rfl 10 (by decide) (hts _ zw_543) (fun _ h9 => h9) rfl (by decide +kernel) (rfl) (rfl) (Nat.le_of_ble_eq_true rfl) zd_X_know_15 (fun H locs hP hD hS => ?_)
    rw [gs_5_10] at hP hD
    refine lv_iconst (v := iI (1)) hx hb zd_X_know_18 rfl ?_
    refine lv_istore_n (lv' := [(1, .int (iI (1))), (0, .ref (q 5))]) hx hb zd_X_know_19 rfl hl (by decide) rfl (fun ls hl => ?_)
    have L_20 : ∀ (fu : Nat) (i : Int)  (F20 : Nat → Int) (A20 : Nat → Int → Int), (1 ≤ i ∧ i ≤ F 502 + 1) → (∀ j, j ≠ 509 → j ≠ 510 → F20 j = F j) → (F20 509 = 1) → (∀ k, k ≠ 41 → k ≠ 42 → k ≠ 43 → A20 k = A k) → ((F20 510 = -1 ∧ ∀ j, 1 ≤ j → j < i → Solv (F 501) j (A 36) (A 37) (A 38) (A 39)) ∨ ((F20 510 = i - 2 ∧ 2 ≤ i) ∧ (∀ j, 1 ≤ j → j < i - 1 → Solv (F 501) j (A 36) (A 37) (A 38) (A 39)) ∧ ¬ Solv (F 501) (i - 1) (A 36) (A 37) (A 38) (A 39))) → (F 502 + 1 - i < (fu : Int)) → ∀ (H : Heap) (locs : List Loc), va_P D zcl (gw q c F20 A20) H → va_D A0 (gw q c F20 A20) → va_S A0 s.heap H locs → ∀ ls : Array Slot, lv_has ls 2 [(0, .ref (q 5)), (1, .int (iI (i)))] → W p l e zr_X_know s m args below meth c0 H locs 0 0 Q (F0 m 20 ls []) := by
      intro fu
      induction fu with
      | zero => intro i  F20 A20 hi hF2 h509 hk2 hun hm_20; exact absurd hm_20 (by omega)
      | succ fu ih_20 =>
        intro i  F20 A20 hi hF2 h509 hk2 hun hm_20 H locs hP hD hS ls hl
        have f501 := hF2 501 (by decide) (by decide)
        have f502 := hF2 502 (by decide) (by decide)
        have hub_ : -1 ≤ F20 510 ∧ F20 510 ≤ 14 := by (rcases hun with h | h <;> omega)
        have e36 := hk2 36 (by decide) (by decide) (by decide)
        have e37 := hk2 37 (by decide) (by decide) (by decide)
        have e38 := hk2 38 (by decide) (by decide) (by decide)
        have e39 := hk2 39 (by decide) (by decide) (by decide)
        have e40 := hk2 40 (by decide) (by decide) (by decide)
        refine lv_iload_n hx hb zd_X_know_20 rfl (lv_at hl 1 rfl) ?_
        refine lv_aload_n hx hb zd_X_know_21 rfl (lv_at hl 0 rfl) ?_
        refine va_get (D := D) (ci := 5) (v := .int (iI (F20 502))) (C := zR_X) (T := zT_X) (N := 34) hx hb hts zi_X hown hK.1 hP 5 ga_5 rfl 2 (by decide) (hts _ zw_535) (fun _ h9 => h9) rfl zd_X_know_22 ?_
        refine x_icmp_gt (tgt := 57) hx hb zd_X_know_25 (by decide) (⟨by omega, by omega⟩) (⟨by omega, by omega⟩) (fun h_25 => ?_) (fun h_25 => ?_)
        · have hUN_ : UN (F 501) (F 502) (F20 510) (A 36) (A 37) (A 38) (A 39) := by first | exact un_end hun (Or.inr h_33) hi.2 | exact un_end hun (Or.inl (by omega)) hi.2
          refine lv_aload_n hx hb zd_X_know_57 rfl (lv_at hl 0 rfl) ?_
          refine lv_aload_n hx hb zd_X_know_58 rfl (lv_at hl 0 rfl) ?_
          refine va_get (D := D) (ci := 5) (v := .int (iI (F20 502))) (C := zR_X) (T := zT_X) (N := 34) hx hb hts zi_X hown hK.1 hP 5 ga_5 rfl 2 (by decide) (hts _ zw_535) (fun _ h9 => h9) rfl zd_X_know_59 ?_
          refine z_goi (z_runV (n := 1) (k := 5) (ci := 5) (As := [.int (iI (F20 502))]) (rest := []) S (c_X_fits l D q c _ F20 A20 (F20 502) (by first | omega | (rw [f501, f502]; omega) | (simp only [e36, e37, e38, e39, e40, f501, f502]; assumption)) (by first | omega | (rw [f501, f502]; omega) | (simp only [e36, e37, e38, e39, e40, f501, f502]; assumption)) (by first | omega | (rw [f501, f502]; omega) | (simp only [e36, e37, e38, e39, e40, f501, f502]; assumption)) (by first | omega | (rw [f501, f502]; omega) | (simp only [e36, e37, e38, e39, e40, f501, f502]; assumption))) zw_665 zw_667 zs_38 zw_6 zw_668 ⟨by decide +kernel, by decide, rfl, rfl⟩ hK hP hD ga_5 rfl rfl rfl hl.1 rfl (Nat.le_of_ble_eq_true rfl) zd_X_know_62 ⟨Nat.zero_le _, Nat.zero_le _⟩) hD hS hA (fun z_62 F_62 A_62 H locs hq_62 hP hD hS => ?_)
          obtain ⟨hf_62, hq_62⟩ := hq_62
          rw [hf_62] at hP hD
          obtain ⟨g1, g2, g3, g4⟩ := hq_62
          rw [f501, f502, e36, e37, e38, e39] at g2
          have hmF_ : ∀ k, k ≠ 41 → k ≠ 42 → k ≠ 43 → k ≠ 44 → k ≠ 45 → k ≠ 46 → k ≠ 47 → k ≠ 48 → A_62 k = A k := fun k h1 h2 h3 h4 h5 h6 h7 h8 => (g1 k h1 h2 h3).trans (hk2 k h1 h2 h3)
          obtain ⟨u1_, u2_, u3_⟩ := FO_use (by omega) g2
          refine lv_pop hx hb zd_X_know_65 rfl ?_
          refine lv_aload_n hx hb zd_X_know_66 rfl (lv_at hl 0 rfl) ?_
          refine lv_iconst (v := iI (0)) hx hb zd_X_know_67 rfl ?_
          refine va_put (D := D) (ci := 5) (v := .int (iI (0))) (ty := .int) (C := zR_X) (T := zT_X) (N := 34) hx hb hts zi_X zk_X zo_X zn_X hown hK.1 hP hD hS 5 ga_5 rfl 12 (by decide) (hts _ zw_545) (fun _ h9 => h9) rfl (by decide +kernel) (rfl) (rfl) (Nat.le_of_ble_eq_true rfl) zd_X_know_68 (fun H locs hP hD hS => ?_)
          rw [gs_5_12] at hP hD
          refine lv_iconst (v := iI (0)) hx hb zd_X_know_71 rfl ?_
          refine lv_istore_n (lv' := [(1, .int (iI (0))), (0, .ref (q 5))]) hx hb zd_X_know_72 rfl hl (by decide) rfl (fun ls hl => ?_)
          have L_73 : ∀ (fu : Nat) (i7 : Int)  (F73 : Nat → Int), (0 ≤ i7 ∧ i7 ≤ F 501) → (∀ j, j ≠ 512 → F73 j = F20 j) → (F73 512 = sI (fun a => if A_62 41 a = a then 1 else 0) i7) → (0 ≤ F73 512 ∧ F73 512 ≤ i7) → (F 501 - i7 < (fu : Int)) → ∀ (H : Heap) (locs : List Loc), va_P D zcl (gw q c F73 A_62) H → va_D A0 (gw q c F73 A_62) → va_S A0 s.heap H locs → ∀ ls : Array Slot, lv_has ls 2 [(0, .ref (q 5)), (1, .int (iI (i7)))] → W p l e zr_X_know s m args below meth c0 H locs 0 0 Q (F0 m 73 ls []) := by
            intro fu
            induction fu with
            | zero => intro i7  F73 hi7 hF7 h512 h5b hm_73; exact absurd hm_73 (by omega)
            | succ fu ih_73 =>
              intro i7  F73 hi7 hF7 h512 h5b hm_73 H locs hP hD hS ls hl
              have y501 := (hF7 501 (by decide)).trans f501
              refine lv_iload_n hx hb zd_X_know_73 rfl (lv_at hl 1 rfl) ?_
              refine lv_aload_n hx hb zd_X_know_74 rfl (lv_at hl 0 rfl) ?_
              refine va_get (D := D) (ci := 5) (v := .int (iI (F73 501))) (C := zR_X) (T := zT_X) (N := 34) hx hb hts zi_X hown hK.1 hP 5 ga_5 rfl 1 (by decide) (hts _ zw_534) (fun _ h9 => h9) rfl zd_X_know_75 ?_
              refine x_icmp_ge (tgt := 111) hx hb zd_X_know_78 (by decide) (⟨by omega, by omega⟩) (⟨by omega, by omega⟩) (fun h_78 => ?_) (fun h_78 => ?_)
              · have e7_ : i7 = F 501 := by omega
                rw [e7_] at h512
                have f7 : ∀ j, j ≠ 509 → j ≠ 510 → j ≠ 512 → F73 j = F j := fun j h1 h2 h3 => (hF7 j h3).trans (hF2 j h1 h2)
                have u510 : F73 510 = F20 510 := hF7 510 (by decide)
                have v501 := f7 501 (by decide) (by decide) (by decide)
                have v502 := f7 502 (by decide) (by decide) (by decide)
                refine lv_aload_n hx hb zd_X_know_111 rfl (lv_at hl 0 rfl) ?_
                refine lv_iconst (v := iI (0)) hx hb zd_X_know_112 rfl ?_
                refine va_put (D := D) (ci := 5) (v := .int (iI (0))) (ty := .boolean) (C := zR_X) (T := zT_X) (N := 34) hx hb hts zi_X zk_X zo_X zn_X hown hK.1 hP hD hS 5 ga_5 rfl 11 (by decide) (hts _ zw_544) (fun _ h9 => h9) rfl (by decide +kernel) (rfl) (rfl) (Nat.le_of_ble_eq_true rfl) zd_X_know_113 (fun H locs hP hD hS => ?_)
                rw [gs_5_11] at hP hD
                refine lv_aload_n hx hb zd_X_know_116 rfl (lv_at hl 0 rfl) ?_
                refine lv_iconst (v := iI (0)) hx hb zd_X_know_117 rfl ?_
                refine va_put (D := D) (ci := 5) (v := .int (iI (0))) (ty := .int) (C := zR_X) (T := zT_X) (N := 34) hx hb hts zi_X zk_X zo_X zn_X hown hK.1 hP hD hS 5 ga_5 rfl 20 (by decide) (hts _ zw_553) (fun _ h9 => h9) rfl (by decide +kernel) (rfl) (rfl) (Nat.le_of_ble_eq_true rfl) zd_X_know_118 (fun H locs hP hD hS => ?_)
                rw [gs_5_20] at hP hD
                refine lv_aload_n hx hb zd_X_know_121 rfl (lv_at hl 0 rfl) ?_
                refine va_get (D := D) (ci := 5) (v := .int (iI (F73 510))) (C := zR_X) (T := zT_X) (N := 34) hx hb hts zi_X hown hK.1 hP 5 ga_5 rfl 10 (by decide) (hts _ zw_543) (fun _ h9 => h9) rfl zd_X_know_122 ?_
                refine lv_iconst (v := iI (-1)) hx hb zd_X_know_125 rfl ?_
                refine x_icmp_eq (tgt := 130) hx hb zd_X_know_126 (by decide) (⟨by omega, by omega⟩) (⟨by omega, by omega⟩) (fun h_126 => ?_) (fun h_126 => ?_)
                · refine lv_aload_n hx hb zd_X_know_130 rfl (lv_at hl 0 rfl) ?_
                  refine z_gov (z_runV (n := 0) (k := 5) (ci := 5) (As := []) (rest := []) S (c_X_findCounts l D q c _ (fuP (fuP F73 511 0) 520 0) A_62 (by first | (show 1 ≤ F73 501 ∧ F73 501 ≤ 8; omega) | (show 0 ≤ F73 502 ∧ F73 502 ≤ 14; omega) | (show ∀ x, 0 ≤ x → x < F73 501 → _; rw [v501]; assumption)) (by first | (show 1 ≤ F73 501 ∧ F73 501 ≤ 8; omega) | (show 0 ≤ F73 502 ∧ F73 502 ≤ 14; omega) | (show ∀ x, 0 ≤ x → x < F73 501 → _; rw [v501]; assumption)) (by first | (show 1 ≤ F73 501 ∧ F73 501 ≤ 8; omega) | (show 0 ≤ F73 502 ∧ F73 502 ≤ 14; omega) | (show ∀ x, 0 ≤ x → x < F73 501 → _; rw [v501]; assumption)) (by first | (show 1 ≤ F73 501 ∧ F73 501 ≤ 8; omega) | (show 0 ≤ F73 502 ∧ F73 502 ≤ 14; omega) | (show ∀ x, 0 ≤ x → x < F73 501 → _; rw [v501]; assumption)) (by show ∀ x, 0 ≤ x → x < F73 501 → A_62 41 x < F73 501 ∧ A_62 41 (A_62 41 x) = A_62 41 x; rw [v501]; exact u3_)) zw_680 zw_682 zs_41 zw_6 zw_683 ⟨by decide +kernel, by decide, rfl, rfl⟩ hK hP hD ga_5 rfl rfl rfl hl.1 rfl (Nat.le_of_ble_eq_true rfl) zd_X_know_131 ⟨Nat.zero_le _, Nat.zero_le _⟩) hD hS hA (fun F_131 A_131 H locs hq_131 hP hD hS => ?_)
                  obtain ⟨c1, c2, c3, c4, c5⟩ := hq_131
                  have w501 : F_131 501 = F 501 := (c1 501 (by decide) (by decide)).trans v501
                  have w502 : F_131 502 = F 502 := (c1 502 (by decide) (by decide)).trans v502
                  have w41 := c2 41 (by decide)
                  have w42 := c2 42 (by decide)
                  have w43 := c2 43 (by decide)
                  have hX_ : FCX F_131 A_131 := by (unfold FCX; rw [w501, w41, w42, w43]; have z501 : (fuP (fuP F73 511 0) 520 0) 501 = F 501 := v501; rw [z501] at c5; exact ⟨c4, c5⟩)
                  have hg511_ : F_131 511 = 0 ∨ F_131 511 = 1 := c4
                  have wF_ : ∀ j, j ≠ 509 → j ≠ 510 → j ≠ 511 → j ≠ 512 → j ≠ 520 → F_131 j = F j := fun j h1 h2 h3 h4 h5 => (c1 j h3 h4).trans (by simp [fuP, h3, h5]; exact f7 j h1 h2 h4)
                  have wA_ : ∀ k, k ≠ 41 → k ≠ 42 → k ≠ 43 → k ≠ 44 → k ≠ 45 → k ≠ 46 → k ≠ 47 → k ≠ 48 → A_131 k = A k := fun k h1 h2 h3 h4 h5 h6 h7 h8 => (c2 k h4).trans (hmF_ k h1 h2 h3 h4 h5 h6 h7 h8)
                  have w510 : F_131 510 = F20 510 := (c1 510 (by decide) (by decide)).trans u510
                  have w512 : F_131 512 = sI (fun a => if A_62 41 a = a then 1 else 0) (F 501) := by (have z501 : (fuP (fuP F73 511 0) 520 0) 501 = F 501 := v501; rw [c3, z501])
                  have wFO_ : FOm F_131 A_131 := by (unfold FOm; rw [w501, w502, w41, w42, w43, wA_ 36 (by decide) (by decide) (by decide) (by decide) (by decide) (by decide) (by decide) (by decide), wA_ 37 (by decide) (by decide) (by decide) (by decide) (by decide) (by decide) (by decide) (by decide), wA_ 38 (by decide) (by decide) (by decide) (by decide) (by decide) (by decide) (by decide) (by decide), wA_ 39 (by decide) (by decide) (by decide) (by decide) (by decide) (by decide) (by decide) (by decide)]; exact g2)
                  refine lv_aload_n hx hb zd_X_know_134 rfl (lv_at hl 0 rfl) ?_
                  refine va_get (D := D) (ci := 5) (v := .int (iI (F_131 511))) (C := zR_X) (T := zT_X) (N := 34) hx hb hts zi_X hown hK.1 hP 5 ga_5 rfl 11 (by decide) (hts _ zw_544) (fun _ h9 => h9) rfl zd_X_know_135 ?_
                  refine x_if_ne (tgt := 145) hx hb zd_X_know_138 (by decide) (⟨by omega, by omega⟩) (fun h_138 => ?_) (fun h_138 => ?_)
                  · exact ret _ _ _ _ _ _ zd_X_know_145 hP hD hS (by first | exact ⟨((d1 509 (by decide)).trans (c1 509 (by decide) (by decide))).trans ((hF7 509 (by decide)).trans h509), fun j h1 h2 h3 h4 h5 => (d1 j h5).trans (wF_ j h1 h2 h3 h4 h5), fun k h1 h2 h3 h4 h5 h6 h7 h8 => (d2 k h5 h6 h7 h8).trans (wA_ k h1 h2 h3 h4 h5 h6 h7 h8), kn_KM (u := F20 510) ((d1 501 (by decide)).trans w501) ((d1 502 (by decide)).trans w502) ((d1 510 (by decide)).trans w510) (fun k h1 h2 h3 h4 h5 h6 h7 h8 => (d2 k h5 h6 h7 h8).trans (wA_ k h1 h2 h3 h4 h5 h6 h7 h8)) ((d2 41 (by decide) (by decide) (by decide) (by decide)).trans w41) ((d2 42 (by decide) (by decide) (by decide) (by decide)).trans w42) ((d2 43 (by decide) (by decide) (by decide) (by decide)).trans w43) hUN_ g2 ((d1 512 (by decide)).trans w512) (fun h => absurd (u510.symm.trans h_126) h) (fun _ => ⟨by (unfold FCX at hX_ ⊢; rw [d1 511 (by decide), d1 501 (by decide), d2 41 (by decide) (by decide) (by decide) (by decide), d2 42 (by decide) (by decide) (by decide) (by decide), d2 43 (by decide) (by decide) (by decide) (by decide), d2 44 (by decide) (by decide) (by decide) (by decide)]; exact hX_), fun _ => d3, fun h => absurd (h_138.symm.trans ((d1 511 (by decide)).symm.trans h)) (by decide)⟩)⟩ | exact ⟨(c1 509 (by decide) (by decide)).trans ((hF7 509 (by decide)).trans h509), wF_, wA_, kn_KM (u := F20 510) w501 w502 w510 wA_ w41 w42 w43 hUN_ g2 w512 (fun h => absurd (u510.symm.trans h_126) h) (fun _ => ⟨hX_, fun h => absurd h h_138, fun _ => c1 520 (by decide) (by decide)⟩)⟩)
                  · obtain ⟨k1_, k2_, _⟩ := kn_mct (by omega) wFO_ hX_ h_138
                    refine lv_aload_n hx hb zd_X_know_141 rfl (lv_at hl 0 rfl) ?_
                    refine z_gov (z_runV (n := 0) (k := 5) (ci := 5) (As := []) (rest := []) S (c_X_round l D q c _ F_131 A_131 (by first | omega | assumption | (rw [w501]; assumption) | (rw [w501, w502, wA_ 36 (by decide) (by decide) (by decide) (by decide) (by decide) (by decide) (by decide) (by decide), wA_ 37 (by decide) (by decide) (by decide) (by decide) (by decide) (by decide) (by decide) (by decide), wA_ 38 (by decide) (by decide) (by decide) (by decide) (by decide) (by decide) (by decide) (by decide), wA_ 39 (by decide) (by decide) (by decide) (by decide) (by decide) (by decide) (by decide) (by decide), wA_ 40 (by decide) (by decide) (by decide) (by decide) (by decide) (by decide) (by decide) (by decide)]; assumption)) (by first | omega | assumption | (rw [w501]; assumption) | (rw [w501, w502, wA_ 36 (by decide) (by decide) (by decide) (by decide) (by decide) (by decide) (by decide) (by decide), wA_ 37 (by decide) (by decide) (by decide) (by decide) (by decide) (by decide) (by decide) (by decide), wA_ 38 (by decide) (by decide) (by decide) (by decide) (by decide) (by decide) (by decide) (by decide), wA_ 39 (by decide) (by decide) (by decide) (by decide) (by decide) (by decide) (by decide) (by decide), wA_ 40 (by decide) (by decide) (by decide) (by decide) (by decide) (by decide) (by decide) (by decide)]; assumption)) (by first | omega | assumption | (rw [w501]; assumption) | (rw [w501, w502, wA_ 36 (by decide) (by decide) (by decide) (by decide) (by decide) (by decide) (by decide) (by decide), wA_ 37 (by decide) (by decide) (by decide) (by decide) (by decide) (by decide) (by decide) (by decide), wA_ 38 (by decide) (by decide) (by decide) (by decide) (by decide) (by decide) (by decide) (by decide), wA_ 39 (by decide) (by decide) (by decide) (by decide) (by decide) (by decide) (by decide) (by decide), wA_ 40 (by decide) (by decide) (by decide) (by decide) (by decide) (by decide) (by decide) (by decide)]; assumption)) (by first | omega | assumption | (rw [w501]; assumption) | (rw [w501, w502, wA_ 36 (by decide) (by decide) (by decide) (by decide) (by decide) (by decide) (by decide) (by decide), wA_ 37 (by decide) (by decide) (by decide) (by decide) (by decide) (by decide) (by decide) (by decide), wA_ 38 (by decide) (by decide) (by decide) (by decide) (by decide) (by decide) (by decide) (by decide), wA_ 39 (by decide) (by decide) (by decide) (by decide) (by decide) (by decide) (by decide) (by decide), wA_ 40 (by decide) (by decide) (by decide) (by decide) (by decide) (by decide) (by decide) (by decide)]; assumption)) (by first | omega | assumption | (rw [w501]; assumption) | (rw [w501, w502, wA_ 36 (by decide) (by decide) (by decide) (by decide) (by decide) (by decide) (by decide) (by decide), wA_ 37 (by decide) (by decide) (by decide) (by decide) (by decide) (by decide) (by decide) (by decide), wA_ 38 (by decide) (by decide) (by decide) (by decide) (by decide) (by decide) (by decide) (by decide), wA_ 39 (by decide) (by decide) (by decide) (by decide) (by decide) (by decide) (by decide) (by decide), wA_ 40 (by decide) (by decide) (by decide) (by decide) (by decide) (by decide) (by decide) (by decide)]; assumption))) zw_689 zw_691 zs_43 zw_6 zw_692 ⟨by decide +kernel, by decide, rfl, rfl⟩ hK hP hD ga_5 rfl rfl rfl hl.1 rfl (Nat.le_of_ble_eq_true rfl) zd_X_know_142 ⟨Nat.zero_le _, Nat.zero_le _⟩) hD hS hA (fun F_142 A_142 H locs hq_142 hP hD hS => ?_)
                    obtain ⟨d1, d2, d3⟩ := hq_142
                    exact ret _ _ _ _ _ _ zd_X_know_145 hP hD hS (by first | exact ⟨((d1 509 (by decide)).trans (c1 509 (by decide) (by decide))).trans ((hF7 509 (by decide)).trans h509), fun j h1 h2 h3 h4 h5 => (d1 j h5).trans (wF_ j h1 h2 h3 h4 h5), fun k h1 h2 h3 h4 h5 h6 h7 h8 => (d2 k h5 h6 h7 h8).trans (wA_ k h1 h2 h3 h4 h5 h6 h7 h8), kn_KM (u := F20 510) ((d1 501 (by decide)).trans w501) ((d1 502 (by decide)).trans w502) ((d1 510 (by decide)).trans w510) (fun k h1 h2 h3 h4 h5 h6 h7 h8 => (d2 k h5 h6 h7 h8).trans (wA_ k h1 h2 h3 h4 h5 h6 h7 h8)) ((d2 41 (by decide) (by decide) (by decide) (by decide)).trans w41) ((d2 42 (by decide) (by decide) (by decide) (by decide)).trans w42) ((d2 43 (by decide) (by decide) (by decide) (by decide)).trans w43) hUN_ g2 ((d1 512 (by decide)).trans w512) (fun h => absurd (u510.symm.trans h_126) h) (fun _ => ⟨by (unfold FCX at hX_ ⊢; rw [d1 511 (by decide), d1 501 (by decide), d2 41 (by decide) (by decide) (by decide) (by decide), d2 42 (by decide) (by decide) (by decide) (by decide), d2 43 (by decide) (by decide) (by decide) (by decide), d2 44 (by decide) (by decide) (by decide) (by decide)]; exact hX_), fun _ => d3, fun h => absurd (h_138.symm.trans ((d1 511 (by decide)).symm.trans h)) (by decide)⟩)⟩ | exact ⟨(c1 509 (by decide) (by decide)).trans ((hF7 509 (by decide)).trans h509), wF_, wA_, kn_KM (u := F20 510) w501 w502 w510 wA_ w41 w42 w43 hUN_ g2 w512 (fun h => absurd (u510.symm.trans h_126) h) (fun _ => ⟨hX_, fun h => absurd h h_138, fun _ => c1 520 (by decide) (by decide)⟩)⟩)
                · exact ret _ _ _ _ _ _ zd_X_know_129 hP hD hS (⟨(hF7 509 (by decide)).trans h509, fun j h1 h2 h3 h4 h5 => by simp [fuP, h3, h5]; exact f7 j h1 h2 h4, hmF_, kn_KM (u := F20 510) v501 v502 u510 hmF_ rfl rfl rfl hUN_ g2 h512 (fun _ => ⟨rfl, rfl⟩) (fun h => absurd (u510.trans h) h_126)⟩)
              · have hp_ := u2_ i7 (by omega) (by omega)
                refine lv_aload_n hx hb zd_X_know_81 rfl (lv_at hl 0 rfl) ?_
                refine lv_dup hx hb zd_X_know_82 rfl ?_
                refine va_get (D := D) (ci := 5) (v := .int (iI (F73 512))) (C := zR_X) (T := zT_X) (N := 34) hx hb hts zi_X hown hK.1 hP 5 ga_5 rfl 12 (by decide) (hts _ zw_545) (fun _ h9 => h9) rfl zd_X_know_83 ?_
                refine lv_aload_n hx hb zd_X_know_86 rfl (lv_at hl 0 rfl) ?_
                refine va_get (D := D) (ci := 5) (v := .ref (q 41)) (C := zR_X) (T := zT_X) (N := 34) hx hb hts zi_X hown hK.1 hP 5 ga_5 rfl 13 (by decide) (hts _ zw_546) (fun _ h9 => h9) rfl zd_X_know_87 ?_
                refine lv_iload_n hx hb zd_X_know_90 rfl (lv_at hl 1 rfl) ?_
                refine x_iald (v := A_62 41 i7) hx hb hK.1 hP 41 0 ga_41 rfl (by decide) (by omega) (by omega) (rfl) zd_X_know_91 ?_
                refine lv_iload_n hx hb zd_X_know_92 rfl (lv_at hl 1 rfl) ?_
                refine x_icmp_ne (tgt := 100) hx hb zd_X_know_93 (by decide) (⟨by omega, by omega⟩) (⟨by omega, by omega⟩) (fun h_93 => ?_) (fun h_93 => ?_)
                · refine lv_iconst (v := iI (0)) hx hb zd_X_know_100 rfl ?_
                  refine x_iadd hx hb zd_X_know_101 ?_
                  refine va_put (D := D) (ci := 5) (v := .int (iI ((F73 512) + 0))) (ty := .int) (C := zR_X) (T := zT_X) (N := 34) hx hb hts zi_X zk_X zo_X zn_X hown hK.1 hP hD hS 5 ga_5 rfl 12 (by decide) (hts _ zw_545) (fun _ h9 => h9) rfl (by decide +kernel) (rfl) (rfl) (Nat.le_of_ble_eq_true rfl) zd_X_know_102 (fun H locs hP hD hS => ?_)
                  rw [gs_5_12] at hP hD
                  refine lv_iinc (v := iI (i7 + 1)) (lv' := [(1, .int (iI (i7 + 1))), (0, .ref (q 5))]) hx hb zd_X_know_105 hl (k := 1) rfl (iI_add _ _) (by decide) rfl (fun ls hl => ?_)
                  refine lv_goto (tgt := 73) hx hb zd_X_know_108 (by decide) ?_
                  exact ih_73 (i7 + 1)  (fuP F73 512 ((F73 512) + 0)) (by first | assumption | omega | (simp_all; done)) (fun j h => by simp [fuP, h, hF7 j h]) (by rw [sI_s hi7.1, ← h512]; first | (rw [if_pos h_93]; rfl) | (rw [if_neg h_93]; rfl)) (by simp [fuP]; omega) (by omega) _ _ hP hD hS ls (lv_sub hl [1, 0] rfl)
                · refine lv_iconst (v := iI (1)) hx hb zd_X_know_96 rfl ?_
                  refine lv_goto (tgt := 101) hx hb zd_X_know_97 (by decide) ?_
                  refine x_iadd hx hb zd_X_know_101 ?_
                  refine va_put (D := D) (ci := 5) (v := .int (iI ((F73 512) + 1))) (ty := .int) (C := zR_X) (T := zT_X) (N := 34) hx hb hts zi_X zk_X zo_X zn_X hown hK.1 hP hD hS 5 ga_5 rfl 12 (by decide) (hts _ zw_545) (fun _ h9 => h9) rfl (by decide +kernel) (rfl) (rfl) (Nat.le_of_ble_eq_true rfl) zd_X_know_102 (fun H locs hP hD hS => ?_)
                  rw [gs_5_12] at hP hD
                  refine lv_iinc (v := iI (i7 + 1)) (lv' := [(1, .int (iI (i7 + 1))), (0, .ref (q 5))]) hx hb zd_X_know_105 hl (k := 1) rfl (iI_add _ _) (by decide) rfl (fun ls hl => ?_)
                  refine lv_goto (tgt := 73) hx hb zd_X_know_108 (by decide) ?_
                  exact ih_73 (i7 + 1)  (fuP F73 512 ((F73 512) + 1)) (by first | assumption | omega | (simp_all; done)) (fun j h => by simp [fuP, h, hF7 j h]) (by rw [sI_s hi7.1, ← h512]; first | (rw [if_pos h_93]; rfl) | (rw [if_neg h_93]; rfl)) (by simp [fuP]; omega) (by omega) _ _ hP hD hS ls (lv_sub hl [1, 0] rfl)
          exact L_73 (((F 501 - (0) : Int) + 1).toNat) (0)  (fuP F20 512 0) (by first | assumption | omega | (simp_all; done)) (fun j h => by simp [fuP, h]) (rfl) (by simp [fuP]) (by omega) _ _ hP hD hS ls (lv_sub hl [1, 0] rfl)
        · refine lv_aload_n hx hb zd_X_know_28 rfl (lv_at hl 0 rfl) ?_
          refine va_get (D := D) (ci := 5) (v := .int (iI (F20 510))) (C := zR_X) (T := zT_X) (N := 34) hx hb hts zi_X hown hK.1 hP 5 ga_5 rfl 10 (by decide) (hts _ zw_543) (fun _ h9 => h9) rfl zd_X_know_29 ?_
          refine lv_iconst (v := iI (-1)) hx hb zd_X_know_32 rfl ?_
          refine x_icmp_ne (tgt := 57) hx hb zd_X_know_33 (by decide) (⟨by omega, by omega⟩) (⟨by omega, by omega⟩) (fun h_33 => ?_) (fun h_33 => ?_)
          · have hUN_ : UN (F 501) (F 502) (F20 510) (A 36) (A 37) (A 38) (A 39) := by first | exact un_end hun (Or.inr h_33) hi.2 | exact un_end hun (Or.inl (by omega)) hi.2
            refine lv_aload_n hx hb zd_X_know_57 rfl (lv_at hl 0 rfl) ?_
            refine lv_aload_n hx hb zd_X_know_58 rfl (lv_at hl 0 rfl) ?_
            refine va_get (D := D) (ci := 5) (v := .int (iI (F20 502))) (C := zR_X) (T := zT_X) (N := 34) hx hb hts zi_X hown hK.1 hP 5 ga_5 rfl 2 (by decide) (hts _ zw_535) (fun _ h9 => h9) rfl zd_X_know_59 ?_
            refine z_goi (z_runV (n := 1) (k := 5) (ci := 5) (As := [.int (iI (F20 502))]) (rest := []) S (c_X_fits l D q c _ F20 A20 (F20 502) (by first | omega | (rw [f501, f502]; omega) | (simp only [e36, e37, e38, e39, e40, f501, f502]; assumption)) (by first | omega | (rw [f501, f502]; omega) | (simp only [e36, e37, e38, e39, e40, f501, f502]; assumption)) (by first | omega | (rw [f501, f502]; omega) | (simp only [e36, e37, e38, e39, e40, f501, f502]; assumption)) (by first | omega | (rw [f501, f502]; omega) | (simp only [e36, e37, e38, e39, e40, f501, f502]; assumption))) zw_665 zw_667 zs_38 zw_6 zw_668 ⟨by decide +kernel, by decide, rfl, rfl⟩ hK hP hD ga_5 rfl rfl rfl hl.1 rfl (Nat.le_of_ble_eq_true rfl) zd_X_know_62 ⟨Nat.zero_le _, Nat.zero_le _⟩) hD hS hA (fun z_62 F_62 A_62 H locs hq_62 hP hD hS => ?_)
            obtain ⟨hf_62, hq_62⟩ := hq_62
            rw [hf_62] at hP hD
            obtain ⟨g1, g2, g3, g4⟩ := hq_62
            rw [f501, f502, e36, e37, e38, e39] at g2
            have hmF_ : ∀ k, k ≠ 41 → k ≠ 42 → k ≠ 43 → k ≠ 44 → k ≠ 45 → k ≠ 46 → k ≠ 47 → k ≠ 48 → A_62 k = A k := fun k h1 h2 h3 h4 h5 h6 h7 h8 => (g1 k h1 h2 h3).trans (hk2 k h1 h2 h3)
            obtain ⟨u1_, u2_, u3_⟩ := FO_use (by omega) g2
            refine lv_pop hx hb zd_X_know_65 rfl ?_
            refine lv_aload_n hx hb zd_X_know_66 rfl (lv_at hl 0 rfl) ?_
            refine lv_iconst (v := iI (0)) hx hb zd_X_know_67 rfl ?_
            refine va_put (D := D) (ci := 5) (v := .int (iI (0))) (ty := .int) (C := zR_X) (T := zT_X) (N := 34) hx hb hts zi_X zk_X zo_X zn_X hown hK.1 hP hD hS 5 ga_5 rfl 12 (by decide) (hts _ zw_545) (fun _ h9 => h9) rfl (by decide +kernel) (rfl) (rfl) (Nat.le_of_ble_eq_true rfl) zd_X_know_68 (fun H locs hP hD hS => ?_)
            rw [gs_5_12] at hP hD
            refine lv_iconst (v := iI (0)) hx hb zd_X_know_71 rfl ?_
            refine lv_istore_n (lv' := [(1, .int (iI (0))), (0, .ref (q 5))]) hx hb zd_X_know_72 rfl hl (by decide) rfl (fun ls hl => ?_)
            have L_73 : ∀ (fu : Nat) (i7 : Int)  (F73 : Nat → Int), (0 ≤ i7 ∧ i7 ≤ F 501) → (∀ j, j ≠ 512 → F73 j = F20 j) → (F73 512 = sI (fun a => if A_62 41 a = a then 1 else 0) i7) → (0 ≤ F73 512 ∧ F73 512 ≤ i7) → (F 501 - i7 < (fu : Int)) → ∀ (H : Heap) (locs : List Loc), va_P D zcl (gw q c F73 A_62) H → va_D A0 (gw q c F73 A_62) → va_S A0 s.heap H locs → ∀ ls : Array Slot, lv_has ls 2 [(0, .ref (q 5)), (1, .int (iI (i7)))] → W p l e zr_X_know s m args below meth c0 H locs 0 0 Q (F0 m 73 ls []) := by
              intro fu
              induction fu with
              | zero => intro i7  F73 hi7 hF7 h512 h5b hm_73; exact absurd hm_73 (by omega)
              | succ fu ih_73 =>
                intro i7  F73 hi7 hF7 h512 h5b hm_73 H locs hP hD hS ls hl
                have y501 := (hF7 501 (by decide)).trans f501
                refine lv_iload_n hx hb zd_X_know_73 rfl (lv_at hl 1 rfl) ?_
                refine lv_aload_n hx hb zd_X_know_74 rfl (lv_at hl 0 rfl) ?_
                refine va_get (D := D) (ci := 5) (v := .int (iI (F73 501))) (C := zR_X) (T := zT_X) (N := 34) hx hb hts zi_X hown hK.1 hP 5 ga_5 rfl 1 (by decide) (hts _ zw_534) (fun _ h9 => h9) rfl zd_X_know_75 ?_
                refine x_icmp_ge (tgt := 111) hx hb zd_X_know_78 (by decide) (⟨by omega, by omega⟩) (⟨by omega, by omega⟩) (fun h_78 => ?_) (fun h_78 => ?_)
                · have e7_ : i7 = F 501 := by omega
                  rw [e7_] at h512
                  have f7 : ∀ j, j ≠ 509 → j ≠ 510 → j ≠ 512 → F73 j = F j := fun j h1 h2 h3 => (hF7 j h3).trans (hF2 j h1 h2)
                  have u510 : F73 510 = F20 510 := hF7 510 (by decide)
                  have v501 := f7 501 (by decide) (by decide) (by decide)
                  have v502 := f7 502 (by decide) (by decide) (by decide)
                  refine lv_aload_n hx hb zd_X_know_111 rfl (lv_at hl 0 rfl) ?_
                  refine lv_iconst (v := iI (0)) hx hb zd_X_know_112 rfl ?_
                  refine va_put (D := D) (ci := 5) (v := .int (iI (0))) (ty := .boolean) (C := zR_X) (T := zT_X) (N := 34) hx hb hts zi_X zk_X zo_X zn_X hown hK.1 hP hD hS 5 ga_5 rfl 11 (by decide) (hts _ zw_544) (fun _ h9 => h9) rfl (by decide +kernel) (rfl) (rfl) (Nat.le_of_ble_eq_true rfl) zd_X_know_113 (fun H locs hP hD hS => ?_)
                  rw [gs_5_11] at hP hD
                  refine lv_aload_n hx hb zd_X_know_116 rfl (lv_at hl 0 rfl) ?_
                  refine lv_iconst (v := iI (0)) hx hb zd_X_know_117 rfl ?_
                  refine va_put (D := D) (ci := 5) (v := .int (iI (0))) (ty := .int) (C := zR_X) (T := zT_X) (N := 34) hx hb hts zi_X zk_X zo_X zn_X hown hK.1 hP hD hS 5 ga_5 rfl 20 (by decide) (hts _ zw_553) (fun _ h9 => h9) rfl (by decide +kernel) (rfl) (rfl) (Nat.le_of_ble_eq_true rfl) zd_X_know_118 (fun H locs hP hD hS => ?_)
                  rw [gs_5_20] at hP hD
                  refine lv_aload_n hx hb zd_X_know_121 rfl (lv_at hl 0 rfl) ?_
                  refine va_get (D := D) (ci := 5) (v := .int (iI (F73 510))) (C := zR_X) (T := zT_X) (N := 34) hx hb hts zi_X hown hK.1 hP 5 ga_5 rfl 10 (by decide) (hts _ zw_543) (fun _ h9 => h9) rfl zd_X_know_122 ?_
                  refine lv_iconst (v := iI (-1)) hx hb zd_X_know_125 rfl ?_
                  refine x_icmp_eq (tgt := 130) hx hb zd_X_know_126 (by decide) (⟨by omega, by omega⟩) (⟨by omega, by omega⟩) (fun h_126 => ?_) (fun h_126 => ?_)
                  · refine lv_aload_n hx hb zd_X_know_130 rfl (lv_at hl 0 rfl) ?_
                    refine z_gov (z_runV (n := 0) (k := 5) (ci := 5) (As := []) (rest := []) S (c_X_findCounts l D q c _ (fuP (fuP F73 511 0) 520 0) A_62 (by first | (show 1 ≤ F73 501 ∧ F73 501 ≤ 8; omega) | (show 0 ≤ F73 502 ∧ F73 502 ≤ 14; omega) | (show ∀ x, 0 ≤ x → x < F73 501 → _; rw [v501]; assumption)) (by first | (show 1 ≤ F73 501 ∧ F73 501 ≤ 8; omega) | (show 0 ≤ F73 502 ∧ F73 502 ≤ 14; omega) | (show ∀ x, 0 ≤ x → x < F73 501 → _; rw [v501]; assumption)) (by first | (show 1 ≤ F73 501 ∧ F73 501 ≤ 8; omega) | (show 0 ≤ F73 502 ∧ F73 502 ≤ 14; omega) | (show ∀ x, 0 ≤ x → x < F73 501 → _; rw [v501]; assumption)) (by first | (show 1 ≤ F73 501 ∧ F73 501 ≤ 8; omega) | (show 0 ≤ F73 502 ∧ F73 502 ≤ 14; omega) | (show ∀ x, 0 ≤ x → x < F73 501 → _; rw [v501]; assumption)) (by show ∀ x, 0 ≤ x → x < F73 501 → A_62 41 x < F73 501 ∧ A_62 41 (A_62 41 x) = A_62 41 x; rw [v501]; exact u3_)) zw_680 zw_682 zs_41 zw_6 zw_683 ⟨by decide +kernel, by decide, rfl, rfl⟩ hK hP hD ga_5 rfl rfl rfl hl.1 rfl (Nat.le_of_ble_eq_true rfl) zd_X_know_131 ⟨Nat.zero_le _, Nat.zero_le _⟩) hD hS hA (fun F_131 A_131 H locs hq_131 hP hD hS => ?_)
                    obtain ⟨c1, c2, c3, c4, c5⟩ := hq_131
                    have w501 : F_131 501 = F 501 := (c1 501 (by decide) (by decide)).trans v501
                    have w502 : F_131 502 = F 502 := (c1 502 (by decide) (by decide)).trans v502
                    have w41 := c2 41 (by decide)
                    have w42 := c2 42 (by decide)
                    have w43 := c2 43 (by decide)
                    have hX_ : FCX F_131 A_131 := by (unfold FCX; rw [w501, w41, w42, w43]; have z501 : (fuP (fuP F73 511 0) 520 0) 501 = F 501 := v501; rw [z501] at c5; exact ⟨c4, c5⟩)
                    have hg511_ : F_131 511 = 0 ∨ F_131 511 = 1 := c4
                    have wF_ : ∀ j, j ≠ 509 → j ≠ 510 → j ≠ 511 → j ≠ 512 → j ≠ 520 → F_131 j = F j := fun j h1 h2 h3 h4 h5 => (c1 j h3 h4).trans (by simp [fuP, h3, h5]; exact f7 j h1 h2 h4)
                    have wA_ : ∀ k, k ≠ 41 → k ≠ 42 → k ≠ 43 → k ≠ 44 → k ≠ 45 → k ≠ 46 → k ≠ 47 → k ≠ 48 → A_131 k = A k := fun k h1 h2 h3 h4 h5 h6 h7 h8 => (c2 k h4).trans (hmF_ k h1 h2 h3 h4 h5 h6 h7 h8)
                    have w510 : F_131 510 = F20 510 := (c1 510 (by decide) (by decide)).trans u510
                    have w512 : F_131 512 = sI (fun a => if A_62 41 a = a then 1 else 0) (F 501) := by (have z501 : (fuP (fuP F73 511 0) 520 0) 501 = F 501 := v501; rw [c3, z501])
                    have wFO_ : FOm F_131 A_131 := by (unfold FOm; rw [w501, w502, w41, w42, w43, wA_ 36 (by decide) (by decide) (by decide) (by decide) (by decide) (by decide) (by decide) (by decide), wA_ 37 (by decide) (by decide) (by decide) (by decide) (by decide) (by decide) (by decide) (by decide), wA_ 38 (by decide) (by decide) (by decide) (by decide) (by decide) (by decide) (by decide) (by decide), wA_ 39 (by decide) (by decide) (by decide) (by decide) (by decide) (by decide) (by decide) (by decide)]; exact g2)
                    refine lv_aload_n hx hb zd_X_know_134 rfl (lv_at hl 0 rfl) ?_
                    refine va_get (D := D) (ci := 5) (v := .int (iI (F_131 511))) (C := zR_X) (T := zT_X) (N := 34) hx hb hts zi_X hown hK.1 hP 5 ga_5 rfl 11 (by decide) (hts _ zw_544) (fun _ h9 => h9) rfl zd_X_know_135 ?_
                    refine x_if_ne (tgt := 145) hx hb zd_X_know_138 (by decide) (⟨by omega, by omega⟩) (fun h_138 => ?_) (fun h_138 => ?_)
                    · exact ret _ _ _ _ _ _ zd_X_know_145 hP hD hS (by first | exact ⟨((d1 509 (by decide)).trans (c1 509 (by decide) (by decide))).trans ((hF7 509 (by decide)).trans h509), fun j h1 h2 h3 h4 h5 => (d1 j h5).trans (wF_ j h1 h2 h3 h4 h5), fun k h1 h2 h3 h4 h5 h6 h7 h8 => (d2 k h5 h6 h7 h8).trans (wA_ k h1 h2 h3 h4 h5 h6 h7 h8), kn_KM (u := F20 510) ((d1 501 (by decide)).trans w501) ((d1 502 (by decide)).trans w502) ((d1 510 (by decide)).trans w510) (fun k h1 h2 h3 h4 h5 h6 h7 h8 => (d2 k h5 h6 h7 h8).trans (wA_ k h1 h2 h3 h4 h5 h6 h7 h8)) ((d2 41 (by decide) (by decide) (by decide) (by decide)).trans w41) ((d2 42 (by decide) (by decide) (by decide) (by decide)).trans w42) ((d2 43 (by decide) (by decide) (by decide) (by decide)).trans w43) hUN_ g2 ((d1 512 (by decide)).trans w512) (fun h => absurd (u510.symm.trans h_126) h) (fun _ => ⟨by (unfold FCX at hX_ ⊢; rw [d1 511 (by decide), d1 501 (by decide), d2 41 (by decide) (by decide) (by decide) (by decide), d2 42 (by decide) (by decide) (by decide) (by decide), d2 43 (by decide) (by decide) (by decide) (by decide), d2 44 (by decide) (by decide) (by decide) (by decide)]; exact hX_), fun _ => d3, fun h => absurd (h_138.symm.trans ((d1 511 (by decide)).symm.trans h)) (by decide)⟩)⟩ | exact ⟨(c1 509 (by decide) (by decide)).trans ((hF7 509 (by decide)).trans h509), wF_, wA_, kn_KM (u := F20 510) w501 w502 w510 wA_ w41 w42 w43 hUN_ g2 w512 (fun h => absurd (u510.symm.trans h_126) h) (fun _ => ⟨hX_, fun h => absurd h h_138, fun _ => c1 520 (by decide) (by decide)⟩)⟩)
                    · obtain ⟨k1_, k2_, _⟩ := kn_mct (by omega) wFO_ hX_ h_138
                      refine lv_aload_n hx hb zd_X_know_141 rfl (lv_at hl 0 rfl) ?_
                      refine z_gov (z_runV (n := 0) (k := 5) (ci := 5) (As := []) (rest := []) S (c_X_round l D q c _ F_131 A_131 (by first | omega | assumption | (rw [w501]; assumption) | (rw [w501, w502, wA_ 36 (by decide) (by decide) (by decide) (by decide) (by decide) (by decide) (by decide) (by decide), wA_ 37 (by decide) (by decide) (by decide) (by decide) (by decide) (by decide) (by decide) (by decide), wA_ 38 (by decide) (by decide) (by decide) (by decide) (by decide) (by decide) (by decide) (by decide), wA_ 39 (by decide) (by decide) (by decide) (by decide) (by decide) (by decide) (by decide) (by decide), wA_ 40 (by decide) (by decide) (by decide) (by decide) (by decide) (by decide) (by decide) (by decide)]; assumption)) (by first | omega | assumption | (rw [w501]; assumption) | (rw [w501, w502, wA_ 36 (by decide) (by decide) (by decide) (by decide) (by decide) (by decide) (by decide) (by decide), wA_ 37 (by decide) (by decide) (by decide) (by decide) (by decide) (by decide) (by decide) (by decide), wA_ 38 (by decide) (by decide) (by decide) (by decide) (by decide) (by decide) (by decide) (by decide), wA_ 39 (by decide) (by decide) (by decide) (by decide) (by decide) (by decide) (by decide) (by decide), wA_ 40 (by decide) (by decide) (by decide) (by decide) (by decide) (by decide) (by decide) (by decide)]; assumption)) (by first | omega | assumption | (rw [w501]; assumption) | (rw [w501, w502, wA_ 36 (by decide) (by decide) (by decide) (by decide) (by decide) (by decide) (by decide) (by decide), wA_ 37 (by decide) (by decide) (by decide) (by decide) (by decide) (by decide) (by decide) (by decide), wA_ 38 (by decide) (by decide) (by decide) (by decide) (by decide) (by decide) (by decide) (by decide), wA_ 39 (by decide) (by decide) (by decide) (by decide) (by decide) (by decide) (by decide) (by decide), wA_ 40 (by decide) (by decide) (by decide) (by decide) (by decide) (by decide) (by decide) (by decide)]; assumption)) (by first | omega | assumption | (rw [w501]; assumption) | (rw [w501, w502, wA_ 36 (by decide) (by decide) (by decide) (by decide) (by decide) (by decide) (by decide) (by decide), wA_ 37 (by decide) (by decide) (by decide) (by decide) (by decide) (by decide) (by decide) (by decide), wA_ 38 (by decide) (by decide) (by decide) (by decide) (by decide) (by decide) (by decide) (by decide), wA_ 39 (by decide) (by decide) (by decide) (by decide) (by decide) (by decide) (by decide) (by decide), wA_ 40 (by decide) (by decide) (by decide) (by decide) (by decide) (by decide) (by decide) (by decide)]; assumption)) (by first | omega | assumption | (rw [w501]; assumption) | (rw [w501, w502, wA_ 36 (by decide) (by decide) (by decide) (by decide) (by decide) (by decide) (by decide) (by decide), wA_ 37 (by decide) (by decide) (by decide) (by decide) (by decide) (by decide) (by decide) (by decide), wA_ 38 (by decide) (by decide) (by decide) (by decide) (by decide) (by decide) (by decide) (by decide), wA_ 39 (by decide) (by decide) (by decide) (by decide) (by decide) (by decide) (by decide) (by decide), wA_ 40 (by decide) (by decide) (by decide) (by decide) (by decide) (by decide) (by decide) (by decide)]; assumption))) zw_689 zw_691 zs_43 zw_6 zw_692 ⟨by decide +kernel, by decide, rfl, rfl⟩ hK hP hD ga_5 rfl rfl rfl hl.1 rfl (Nat.le_of_ble_eq_true rfl) zd_X_know_142 ⟨Nat.zero_le _, Nat.zero_le _⟩) hD hS hA (fun F_142 A_142 H locs hq_142 hP hD hS => ?_)
                      obtain ⟨d1, d2, d3⟩ := hq_142
                      exact ret _ _ _ _ _ _ zd_X_know_145 hP hD hS (by first | exact ⟨((d1 509 (by decide)).trans (c1 509 (by decide) (by decide))).trans ((hF7 509 (by decide)).trans h509), fun j h1 h2 h3 h4 h5 => (d1 j h5).trans (wF_ j h1 h2 h3 h4 h5), fun k h1 h2 h3 h4 h5 h6 h7 h8 => (d2 k h5 h6 h7 h8).trans (wA_ k h1 h2 h3 h4 h5 h6 h7 h8), kn_KM (u := F20 510) ((d1 501 (by decide)).trans w501) ((d1 502 (by decide)).trans w502) ((d1 510 (by decide)).trans w510) (fun k h1 h2 h3 h4 h5 h6 h7 h8 => (d2 k h5 h6 h7 h8).trans (wA_ k h1 h2 h3 h4 h5 h6 h7 h8)) ((d2 41 (by decide) (by decide) (by decide) (by decide)).trans w41) ((d2 42 (by decide) (by decide) (by decide) (by decide)).trans w42) ((d2 43 (by decide) (by decide) (by decide) (by decide)).trans w43) hUN_ g2 ((d1 512 (by decide)).trans w512) (fun h => absurd (u510.symm.trans h_126) h) (fun _ => ⟨by (unfold FCX at hX_ ⊢; rw [d1 511 (by decide), d1 501 (by decide), d2 41 (by decide) (by decide) (by decide) (by decide), d2 42 (by decide) (by decide) (by decide) (by decide), d2 43 (by decide) (by decide) (by decide) (by decide), d2 44 (by decide) (by decide) (by decide) (by decide)]; exact hX_), fun _ => d3, fun h => absurd (h_138.symm.trans ((d1 511 (by decide)).symm.trans h)) (by decide)⟩)⟩ | exact ⟨(c1 509 (by decide) (by decide)).trans ((hF7 509 (by decide)).trans h509), wF_, wA_, kn_KM (u := F20 510) w501 w502 w510 wA_ w41 w42 w43 hUN_ g2 w512 (fun h => absurd (u510.symm.trans h_126) h) (fun _ => ⟨hX_, fun h => absurd h h_138, fun _ => c1 520 (by decide) (by decide)⟩)⟩)
                  · exact ret _ _ _ _ _ _ zd_X_know_129 hP hD hS (⟨(hF7 509 (by decide)).trans h509, fun j h1 h2 h3 h4 h5 => by simp [fuP, h3, h5]; exact f7 j h1 h2 h4, hmF_, kn_KM (u := F20 510) v501 v502 u510 hmF_ rfl rfl rfl hUN_ g2 h512 (fun _ => ⟨rfl, rfl⟩) (fun h => absurd (u510.trans h) h_126)⟩)
                · have hp_ := u2_ i7 (by omega) (by omega)
                  refine lv_aload_n hx hb zd_X_know_81 rfl (lv_at hl 0 rfl) ?_
                  refine lv_dup hx hb zd_X_know_82 rfl ?_
                  refine va_get (D := D) (ci := 5) (v := .int (iI (F73 512))) (C := zR_X) (T := zT_X) (N := 34) hx hb hts zi_X hown hK.1 hP 5 ga_5 rfl 12 (by decide) (hts _ zw_545) (fun _ h9 => h9) rfl zd_X_know_83 ?_
                  refine lv_aload_n hx hb zd_X_know_86 rfl (lv_at hl 0 rfl) ?_
                  refine va_get (D := D) (ci := 5) (v := .ref (q 41)) (C := zR_X) (T := zT_X) (N := 34) hx hb hts zi_X hown hK.1 hP 5 ga_5 rfl 13 (by decide) (hts _ zw_546) (fun _ h9 => h9) rfl zd_X_know_87 ?_
                  refine lv_iload_n hx hb zd_X_know_90 rfl (lv_at hl 1 rfl) ?_
                  refine x_iald (v := A_62 41 i7) hx hb hK.1 hP 41 0 ga_41 rfl (by decide) (by omega) (by omega) (rfl) zd_X_know_91 ?_
                  refine lv_iload_n hx hb zd_X_know_92 rfl (lv_at hl 1 rfl) ?_
                  refine x_icmp_ne (tgt := 100) hx hb zd_X_know_93 (by decide) (⟨by omega, by omega⟩) (⟨by omega, by omega⟩) (fun h_93 => ?_) (fun h_93 => ?_)
                  · refine lv_iconst (v := iI (0)) hx hb zd_X_know_100 rfl ?_
                    refine x_iadd hx hb zd_X_know_101 ?_
                    refine va_put (D := D) (ci := 5) (v := .int (iI ((F73 512) + 0))) (ty := .int) (C := zR_X) (T := zT_X) (N := 34) hx hb hts zi_X zk_X zo_X zn_X hown hK.1 hP hD hS 5 ga_5 rfl 12 (by decide) (hts _ zw_545) (fun _ h9 => h9) rfl (by decide +kernel) (rfl) (rfl) (Nat.le_of_ble_eq_true rfl) zd_X_know_102 (fun H locs hP hD hS => ?_)
                    rw [gs_5_12] at hP hD
                    refine lv_iinc (v := iI (i7 + 1)) (lv' := [(1, .int (iI (i7 + 1))), (0, .ref (q 5))]) hx hb zd_X_know_105 hl (k := 1) rfl (iI_add _ _) (by decide) rfl (fun ls hl => ?_)
                    refine lv_goto (tgt := 73) hx hb zd_X_know_108 (by decide) ?_
                    exact ih_73 (i7 + 1)  (fuP F73 512 ((F73 512) + 0)) (by first | assumption | omega | (simp_all; done)) (fun j h => by simp [fuP, h, hF7 j h]) (by rw [sI_s hi7.1, ← h512]; first | (rw [if_pos h_93]; rfl) | (rw [if_neg h_93]; rfl)) (by simp [fuP]; omega) (by omega) _ _ hP hD hS ls (lv_sub hl [1, 0] rfl)
                  · refine lv_iconst (v := iI (1)) hx hb zd_X_know_96 rfl ?_
                    refine lv_goto (tgt := 101) hx hb zd_X_know_97 (by decide) ?_
                    refine x_iadd hx hb zd_X_know_101 ?_
                    refine va_put (D := D) (ci := 5) (v := .int (iI ((F73 512) + 1))) (ty := .int) (C := zR_X) (T := zT_X) (N := 34) hx hb hts zi_X zk_X zo_X zn_X hown hK.1 hP hD hS 5 ga_5 rfl 12 (by decide) (hts _ zw_545) (fun _ h9 => h9) rfl (by decide +kernel) (rfl) (rfl) (Nat.le_of_ble_eq_true rfl) zd_X_know_102 (fun H locs hP hD hS => ?_)
                    rw [gs_5_12] at hP hD
                    refine lv_iinc (v := iI (i7 + 1)) (lv' := [(1, .int (iI (i7 + 1))), (0, .ref (q 5))]) hx hb zd_X_know_105 hl (k := 1) rfl (iI_add _ _) (by decide) rfl (fun ls hl => ?_)
                    refine lv_goto (tgt := 73) hx hb zd_X_know_108 (by decide) ?_
                    exact ih_73 (i7 + 1)  (fuP F73 512 ((F73 512) + 1)) (by first | assumption | omega | (simp_all; done)) (fun j h => by simp [fuP, h, hF7 j h]) (by rw [sI_s hi7.1, ← h512]; first | (rw [if_pos h_93]; rfl) | (rw [if_neg h_93]; rfl)) (by simp [fuP]; omega) (by omega) _ _ hP hD hS ls (lv_sub hl [1, 0] rfl)
            exact L_73 (((F 501 - (0) : Int) + 1).toNat) (0)  (fuP F20 512 0) (by first | assumption | omega | (simp_all; done)) (fun j h => by simp [fuP, h]) (rfl) (by simp [fuP]) (by omega) _ _ hP hD hS ls (lv_sub hl [1, 0] rfl)
          · refine lv_aload_n hx hb zd_X_know_36 rfl (lv_at hl 0 rfl) ?_
            refine lv_iload_n hx hb zd_X_know_37 rfl (lv_at hl 1 rfl) ?_
            refine z_goi (z_runV (n := 1) (k := 5) (ci := 5) (As := [.int (iI (i))]) (rest := []) S (c_X_fits l D q c _ F20 A20 i (by first | omega | (rw [f501, f502]; omega) | (simp only [e36, e37, e38, e39, e40, f501, f502]; assumption)) (by first | omega | (rw [f501, f502]; omega) | (simp only [e36, e37, e38, e39, e40, f501, f502]; assumption)) (by first | omega | (rw [f501, f502]; omega) | (simp only [e36, e37, e38, e39, e40, f501, f502]; assumption)) (by first | omega | (rw [f501, f502]; omega) | (simp only [e36, e37, e38, e39, e40, f501, f502]; assumption))) zw_665 zw_667 zs_38 zw_6 zw_668 ⟨by decide +kernel, by decide, rfl, rfl⟩ hK hP hD ga_5 rfl rfl rfl hl.1 rfl (Nat.le_of_ble_eq_true rfl) zd_X_know_38 ⟨Nat.zero_le _, Nat.zero_le _⟩) hD hS hA (fun z_38 F_38 A_38 H locs hq_38 hP hD hS => ?_)
            obtain ⟨hf_38, hq_38⟩ := hq_38
            rw [hf_38] at hP hD
            obtain ⟨g1, g2, g3, g4⟩ := hq_38
            rw [f501, e36, e37, e38, e39] at g2
            rw [e36, e37, e38, e39] at g4
            have hsv_ : z_38 = 1 ↔ Solv (F 501) i (A 36) (A 37) (A 38) (A 39) := g4.trans (fit_iff (by omega) g2 (fun k h0 h1 => by have := hmch k h0 (by omega); exact ⟨this.1, this.2.1⟩))
            have hz01_ := g3
            refine x_if_ne (tgt := 51) hx hb zd_X_know_41 (by decide) (⟨by omega, by omega⟩) (fun h_41 => ?_) (fun h_41 => ?_)
            · refine lv_iinc (v := iI (i + 1)) (lv' := [(1, .int (iI (i + 1))), (0, .ref (q 5))]) hx hb zd_X_know_51 hl (k := 1) rfl (iI_add _ _) (by decide) rfl (fun ls hl => ?_)
              refine lv_goto (tgt := 20) hx hb zd_X_know_54 (by decide) ?_
              exact ih_20 (i + 1)  F20 A_38 (by first | assumption | omega | (simp_all; done)) (fun j h1 h2 => by first | exact hF2 j h1 h2 | simp [fuP, h2, hF2 j h1 h2]) (by first | exact h509 | simpa [fuP] using h509) (fun k h1 h2 h3 => (g1 k h1 h2 h3).trans (hk2 k h1 h2 h3)) (by first | exact un_y (hsv_.mp (by omega)) h_33 hun | exact un_n (fun c => by have := hsv_.mpr c; omega) h_33 hun hi.1) (by omega) _ _ hP hD hS ls (lv_sub hl [1, 0] rfl)
            · refine lv_aload_n hx hb zd_X_know_44 rfl (lv_at hl 0 rfl) ?_
              refine lv_iload_n hx hb zd_X_know_45 rfl (lv_at hl 1 rfl) ?_
              refine lv_iconst (v := iI (1)) hx hb zd_X_know_46 rfl ?_
              refine x_isub hx hb zd_X_know_47 ?_
              refine va_put (D := D) (ci := 5) (v := .int (iI (i - 1))) (ty := .int) (C := zR_X) (T := zT_X) (N := 34) hx hb hts zi_X zk_X zo_X zn_X hown hK.1 hP hD hS 5 ga_5 rfl 10 (by decide) (hts _ zw_543) (fun _ h9 => h9) rfl (by decide +kernel) (rfl) (rfl) (Nat.le_of_ble_eq_true rfl) zd_X_know_48 (fun H locs hP hD hS => ?_)
              rw [gs_5_10] at hP hD
              refine lv_iinc (v := iI (i + 1)) (lv' := [(1, .int (iI (i + 1))), (0, .ref (q 5))]) hx hb zd_X_know_51 hl (k := 1) rfl (iI_add _ _) (by decide) rfl (fun ls hl => ?_)
              refine lv_goto (tgt := 20) hx hb zd_X_know_54 (by decide) ?_
              exact ih_20 (i + 1)  (fuP F20 510 (i - 1)) A_38 (by first | assumption | omega | (simp_all; done)) (fun j h1 h2 => by first | exact hF2 j h1 h2 | simp [fuP, h2, hF2 j h1 h2]) (by first | exact h509 | simpa [fuP] using h509) (fun k h1 h2 h3 => (g1 k h1 h2 h3).trans (hk2 k h1 h2 h3)) (by first | exact un_y (hsv_.mp (by omega)) h_33 hun | exact un_n (fun c => by have := hsv_.mpr c; omega) h_33 hun hi.1) (by omega) _ _ hP hD hS ls (lv_sub hl [1, 0] rfl)
    exact L_20 (((F 502 + 1 - (1) : Int) + 1).toNat) (1)  (fuP (fuP F 509 1) 510 (-1)) A (by first | assumption | omega | (simp_all; done)) (fun j h1 h2 => by simp [fuP, h1, h2]) (rfl) (fun k _ _ _ => rfl) (Or.inl ⟨rfl, fun j h0 h1 => by omega⟩) (by omega) _ _ hP hD hS ls (lv_sub hl [1, 0] rfl)
  · exact ret _ _ _ _ _ _ zd_X_know_7 hP hD hS (⟨by omega, fun _ _ _ _ _ _ => rfl, fun _ _ _ _ _ _ _ _ _ => rfl, hmk.2 (by omega)⟩)
