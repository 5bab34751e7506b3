theorem lp_mono {E E' : Int → Int → Int → Int → Prop} (h : ∀ u v s r, E u v s r → E' u v s r) {T R : Int} (hl : lpE E T R) : lpE E' T R := by
  obtain ⟨k, nd, tt, ww, h1, h2, h3, h4⟩ := hl
  exact ⟨k, nd, tt, ww, h1, h2, fun i hi => h _ _ _ _ (h3 i hi), h4⟩
theorem lp_nn {E : Int → Int → Int → Int → Prop} (h : ∀ u v s r, E u v s r → 0 ≤ r) {T R : Int} (hl : lpE E T R) : 0 ≤ R := by
  obtain ⟨k, nd, tt, ww, h1, h2, h3, h4, h5⟩ := hl
  rw [h5]
  have key : ∀ j, j ≤ k → 0 ≤ snN ww j := by
    intro j
    induction j with
    | zero => intro _; simp [snN]
    | succ j ih =>
      intro hj
      have := ih (by omega)
      have := h _ _ _ _ (h3 j (by omega))
      show 0 ≤ snN ww j + ww j
      omega
  exact key k (Nat.le_refl _)
/-- the edges of a part, by its numbers -/
def pE (n m : Int) (A : Nat → Int → Int) (root u v s w : Int) : Prop := fT (mA A) root n u v s w ∨ wT (mB A root) root m u v s w
/-- p over q is the greatest ratio of a loop, in lowest terms -/
def bestR (E : Int → Int → Int → Int → Prop) (P Q : Int) : Prop := (1 ≤ Q ∧ Q ≤ 8) ∧ (1 ≤ P ∧ P ≤ 360) ∧ (∀ p q, 1 ≤ q → p * Q = P * q → Q ≤ q) ∧ (∀ T R, lpE E T R → T * Q ≤ P * R) ∧ ∃ T R, lpE E T R ∧ T * Q = P * R ∧ 1 ≤ R
section FP
variable {T R P Q x lo hi u : Int}
theorem fp_1 (hle : T * Q ≤ P * R) (hR : 0 ≤ R) (hQ : 1 ≤ Q) (h : 0 < T * 16777216 - x * R) : x * Q < P * 16777216 := by
  refine Int.lt_of_not_ge (fun hc => ?_)
  have h1 : P * 16777216 * R ≤ x * Q * R := Int.mul_le_mul_of_nonneg_right hc hR
  have h2 : x * R * Q < T * 16777216 * Q := Int.mul_lt_mul_of_pos_right (by omega) (by omega)
  rw [Int.mul_right_comm] at h1
  rw [Int.mul_right_comm T, Int.mul_right_comm x] at h2
  omega
theorem fp_0 (hat : T * Q = P * R) (hR : 1 ≤ R) (hQ : 1 ≤ Q) (h : T * 16777216 ≤ x * R) : P * 16777216 ≤ x * Q := by
  refine Int.le_of_not_gt (fun hc => ?_)
  have h1 : x * Q * R < P * 16777216 * R := Int.mul_lt_mul_of_pos_right hc (by omega)
  have h2 : T * 16777216 * Q ≤ x * R * Q := Int.mul_le_mul_of_nonneg_right h (by omega)
  rw [Int.mul_right_comm P] at h1
  rw [Int.mul_right_comm T, Int.mul_right_comm x] at h2
  omega
theorem fp_go (hlo : lo * Q < P * 16777216) (hhi : P * 16777216 ≤ hi * Q) (hu : u = Q) (h : hi * u / 16777216 * 16777216 ≤ lo * u) : False := by
  subst hu
  have : P ≤ hi * u / 16777216 := Int.le_ediv_of_mul_le (by decide) hhi
  omega
theorem fp_end (he : hi = lo + 1) (hu : 1 ≤ u ∧ u ≤ Q) (hQ : 1 ≤ Q ∧ Q ≤ 8) (hlo : lo * Q < P * 16777216) (hhi : P * 16777216 ≤ hi * Q) (hm : ∀ p q, 1 ≤ q → p * Q = P * q → Q ≤ q) (h : lo * u < hi * u / 16777216 * 16777216) : u = Q ∧ hi * u / 16777216 = P := by
  have h2 : hi * u / 16777216 * 16777216 ≤ hi * u := by have := Int.emod_nonneg (hi * u) (show (16777216 : Int) ≠ 0 by decide); have := Int.emod_add_mul_ediv (hi * u) 16777216; omega
  generalize hi * u / 16777216 = p at h h2 ⊢
  have a1 : lo * u * Q < p * 16777216 * Q := Int.mul_lt_mul_of_pos_right h (by omega)
  have a2 : p * 16777216 * Q ≤ hi * u * Q := Int.mul_le_mul_of_nonneg_right h2 (by omega)
  have a3 : lo * Q * u < P * 16777216 * u := Int.mul_lt_mul_of_pos_right hlo (by omega)
  have a4 : P * 16777216 * u ≤ hi * Q * u := Int.mul_le_mul_of_nonneg_right hhi (by omega)
  have w := bnd0 (x := u) (y := Q) (X := 8) (Y := 8) (by omega) (by omega)
  subst he
  rw [Int.mul_right_comm p] at a1 a2
  rw [Int.mul_right_comm P] at a3 a4
  rw [Int.mul_right_comm lo Q u] at a3
  rw [Int.mul_right_comm (lo + 1) Q u] at a4
  rw [Int.mul_assoc (lo + 1), Int.add_mul] at a2 a4
  rw [Int.mul_assoc lo] at a1 a3
  have e : p * Q = P * u := by omega
  have e1 : u = Q := by have := hm p u hu.1 e; omega
  refine ⟨e1, ?_⟩
  rw [e1] at e
  exact Int.eq_of_mul_eq_mul_right (by omega) e
end FP
abbrev zr_X_findPace : Room := ({ frames := 2, cells := 0, slots := 0, locals := 50 } : Room)
set_option maxHeartbeats 4000000 in
set_option maxRecDepth 100000 in
theorem c_X_findPace (l : Launch) (D : va_G) (q : Nat → Nat) (c : Nat → ClassId) (sz : Nat) (F : Nat → Int) (A : Nat → Int → Int) (root : Int) (P : Int) (Q1 : Int) (hmn : 1 ≤ F 501 ∧ F 501 ≤ 8) (hmm : 0 ≤ F 502 ∧ F 502 ≤ 14) (hmch : ∀ k, 0 ≤ k → k < F 502 → (0 ≤ A 36 k ∧ A 36 k < F 501) ∧ (0 ≤ A 37 k ∧ A 37 k < F 501) ∧ (1 ≤ A 38 k ∧ A 38 k ≤ 9) ∧ (1 ≤ A 39 k ∧ A 39 k ≤ 9) ∧ 0 ≤ A 40 k ∧ A 40 k ≤ 99) (hmc : ∀ a, 0 ≤ a → a < F 501 → 1 ≤ A 44 a ∧ A 44 a ≤ 400) (hmp : ∀ a, 0 ≤ a → a < F 501 → 0 ≤ A 41 a ∧ A 41 a < 8) (brt : 0 ≤ root ∧ root < 8) (hsame : ∀ k, 0 ≤ k → k < F 502 → A 41 (A 36 k) = A 41 (A 37 k)) (hsum : 1 ≤ sI (gS (mA A) root) (F 501) ∧ sI (gS (mA A) root) (F 501) ≤ 40) (hpe : ∀ u v s w, (pE (F 501) (F 502) A root) u v s w → (0 ≤ u ∧ u < sI (gS (mA A) root) (F 501)) ∧ (0 ≤ v ∧ v < sI (gS (mA A) root) (F 501)) ∧ (1 ≤ s ∧ s ≤ 9) ∧ 0 ≤ w ∧ w ≤ 100) (hbest : bestR (pE (F 501) (F 502) A root) P Q1) : zMV l zy_X_findPace zc_X_findPace 8 none zr_X_findPace D q c sz [.ref (q 5), .int (iI (root))] F A (fun F1 A1 => (∀ j, j ≠ 523 → j ≠ 525 → j ≠ 531 → j ≠ 532 → F1 j = F j) ∧ (∀ k, k ≠ 50 → k ≠ 51 → k ≠ 52 → k ≠ 53 → k ≠ 54 → k ≠ 55 → A1 k = A k) ∧ F1 531 = P ∧ F1 532 = Q1) := by
  refine z_ofV (by decide) (Nat.le_of_ble_eq_true rfl) ?_
  intro p e s m args below meth c0 A0 Q C0 ret hP hD hS ls hl
  obtain ⟨S, hK, hA⟩ := C0
  have hx := S.1
  have hb := S.2.1
  have hown := S.2.2.2.1
  have hts : ∀ w ∈ zG, w.before args s = true := fun w h => S.2.2.2.2 w (List.mem_cons_of_mem _ h)
  have hl : lv_has ls 8 [(0, .ref (q 5)), (1, .int (iI (root)))] := hl
  obtain ⟨bq, bp, bl, bm, T0, R0, bt1, bt2, bt3⟩ := hbest
  refine lv_aload_n hx hb zd_X_findPace_0 rfl (lv_at hl 0 rfl) ?_
  refine lv_iload_n hx hb zd_X_findPace_1 rfl (lv_at hl 1 rfl) ?_
  refine z_gov (z_runV (n := 1) (k := 5) (ci := 5) (As := [.int (iI (root))]) (rest := []) S (c_X_build l D q c _ F A root (by first | assumption | omega | exact ⟨by omega, by omega⟩) (by first | assumption | omega | exact ⟨by omega, by omega⟩) (by first | assumption | omega | exact ⟨by omega, by omega⟩) (by first | assumption | omega | exact ⟨by omega, by omega⟩) (by first | assumption | omega | exact ⟨by omega, by omega⟩) (by first | assumption | omega | exact ⟨by omega, by omega⟩) (by first | assumption | omega | exact ⟨by omega, by omega⟩) (hsum.2)) zw_733 zw_735 zs_49 zw_6 zw_736 ⟨by decide +kernel, by decide, rfl, rfl⟩ hK hP hD ga_5 rfl rfl rfl hl.1 rfl (Nat.le_of_ble_eq_true rfl) zd_X_findPace_2 ⟨Nat.zero_le _, Nat.zero_le _⟩) hD hS hA (fun F_2 A_2 H locs hq_2 hP hD hS => ?_)
  obtain ⟨b1, b2, b3, b4, b5⟩ := hq_2
  have hed_ : ∀ e, 0 ≤ e → e < F_2 525 → (0 ≤ A_2 51 e ∧ A_2 51 e < F_2 523) ∧ (0 ≤ A_2 52 e ∧ A_2 52 e < F_2 523) ∧ (1 ≤ A_2 53 e ∧ A_2 53 e ≤ 9) ∧ 0 ≤ A_2 54 e ∧ A_2 54 e ≤ 100 := fun e h0 h1 => by (rw [b3]; exact hpe _ _ _ _ ((b5 _ _ _ _).mp ⟨e, h0, h1, rfl, rfl, rfl, rfl⟩))
  refine lv_lconst (v := lI (0)) hx hb zd_X_findPace_5 (by decide) ?_
  refine lv_lstore_n (lv' := [(2, .long (lI (0))), (0, .ref (q 5)), (1, .int (iI (root)))]) hx hb zd_X_findPace_6 rfl hl (by decide) rfl (fun ls hl => ?_)
  refine lv_ldc2 (v := lI (6710886400)) hx hb hown (hts _ zw_744) zd_X_findPace_7 ?_
  refine lv_lstore (lv' := [(4, .long (lI (6710886400))), (2, .long (lI (0))), (0, .ref (q 5)), (1, .int (iI (root)))]) hx hb zd_X_findPace_10 hl (by decide) rfl (fun ls hl => ?_)
  have L_12 : ∀ (fu : Nat) (lo : Int) (hi_ : Int)  (A12 : Nat → Int → Int), (0 ≤ lo ∧ lo < hi_ ∧ hi_ ≤ 6710886400) → (lo * Q1 < P * 16777216) → (P * 16777216 ≤ hi_ * Q1) → (∀ k, k ≠ 55 → A12 k = A_2 k) → (hi_ - lo < (fu : Int)) → ∀ (H : Heap) (locs : List Loc), va_P D zcl (gw q c F_2 A12) H → va_D A0 (gw q c F_2 A12) → va_S A0 s.heap H locs → ∀ ls : Array Slot, lv_has ls 8 [(0, .ref (q 5)), (2, .long (lI (lo))), (4, .long (lI (hi_)))] → W p l e zr_X_findPace s m args below meth c0 H locs 0 0 Q (F0 m 12 ls []) := by
    intro fu
    induction fu with
    | zero => intro lo hi_  A12 hlh hlo hhi hk hm_12; exact absurd hm_12 (by omega)
    | succ fu ih_12 =>
      intro lo hi_  A12 hlh hlo hhi hk hm_12 H locs hP hD hS ls hl
      have e51 := hk 51 (by decide)
      have e52 := hk 52 (by decide)
      have e53 := hk 53 (by decide)
      have e54 := hk 54 (by decide)
      have hee_ : ∀ u v s w, eX F_2 A12 u v s w ↔ (pE (F 501) (F 502) A root) u v s w := fun u v s w => by (unfold eX; rw [e51, e52, e53, e54]; exact b5 u v s w)
      refine lv_lload hx hb zd_X_findPace_12 (lv_at hl 2 rfl) ?_
      refine lv_lload_n hx hb zd_X_findPace_14 rfl (lv_at hl 1 rfl) ?_
      refine x_lsub hx hb zd_X_findPace_15 ?_
      refine lv_lconst (v := lI (1)) hx hb zd_X_findPace_16 (by decide) ?_
      refine x_lcmp hx hb zd_X_findPace_17 (⟨by omega, by omega⟩) (⟨by omega, by omega⟩) ?_
      have hc_17 := cmpI_spec (hi_ - lo) 1
      refine x_if_le (tgt := 51) hx hb zd_X_findPace_18 (by decide) (⟨by omega, by omega⟩) (fun h_18 => ?_) (fun h_18 => ?_)
      · refine lv_aload_n hx hb zd_X_findPace_51 rfl (lv_at hl 0 rfl) ?_
        refine lv_iconst (v := iI (1)) hx hb zd_X_findPace_52 rfl ?_
        refine va_put (D := D) (ci := 5) (v := .int (iI (1))) (ty := .int) (C := zR_X) (T := zT_X) (N := 34) hx hb hts zi_X zk_X zo_X zn_X hown hK.1 hP hD hS 5 ga_5 rfl 32 (by decide) (hts _ zw_565) (fun _ h9 => h9) rfl (by decide +kernel) (rfl) (rfl) (Nat.le_of_ble_eq_true rfl) zd_X_findPace_53 (fun H locs hP hD hS => ?_)
        rw [gs_5_32] at hP hD
        have L_56 : ∀ (fu : Nat)   (F56 : Nat → Int), (1 ≤ F56 532 ∧ F56 532 ≤ Q1) → (∀ j, j ≠ 532 → F56 j = F_2 j) → (Q1 + 1 - F56 532 < (fu : Int)) → ∀ (H : Heap) (locs : List Loc), va_P D zcl (gw q c F56 A12) H → va_D A0 (gw q c F56 A12) → va_S A0 s.heap H locs → ∀ ls : Array Slot, lv_has ls 8 [(0, .ref (q 5)), (2, .long (lI (lo))), (4, .long (lI (hi_)))] → W p l e zr_X_findPace s m args below meth c0 H locs 0 0 Q (F0 m 56 ls []) := by
          intro fu
          induction fu with
          | zero => intro   F56 hu hF hm_56; exact absurd hm_56 (by omega)
          | succ fu ih_56 =>
            intro   F56 hu hF hm_56 H locs hP hD hS ls hl
            have hm1_ := bnd0 (x := hi_) (y := F56 532) (X := 6710886400) (Y := 8) (by omega) (by omega)
            have hm2_ := bnd0 (x := lo) (y := F56 532) (X := 6710886400) (Y := 8) (by omega) (by omega)
            have he_ : hi_ = lo + 1 := by omega
            refine lv_lload hx hb zd_X_findPace_56 (lv_at hl 2 rfl) ?_
            refine lv_aload_n hx hb zd_X_findPace_58 rfl (lv_at hl 0 rfl) ?_
            refine va_get (D := D) (ci := 5) (v := .int (iI (F56 532))) (C := zR_X) (T := zT_X) (N := 34) hx hb hts zi_X hown hK.1 hP 5 ga_5 rfl 32 (by decide) (hts _ zw_565) (fun _ h9 => h9) rfl zd_X_findPace_59 ?_
            refine x_i2l hx hb zd_X_findPace_62 (⟨by omega, by omega⟩) ?_
            refine x_lmul hx hb zd_X_findPace_63 ?_
            refine lv_bipush (v := iI (24)) hx hb zd_X_findPace_64 (by decide) ?_
            refine x_lshr24 hx hb zd_X_findPace_66 (⟨by omega, by omega⟩) ?_
            refine lv_bipush (v := iI (24)) hx hb zd_X_findPace_67 (by decide) ?_
            refine x_lshl24 hx hb zd_X_findPace_69 (by omega) ?_
            refine lv_lload_n hx hb zd_X_findPace_70 rfl (lv_at hl 1 rfl) ?_
            refine lv_aload_n hx hb zd_X_findPace_71 rfl (lv_at hl 0 rfl) ?_
            refine va_get (D := D) (ci := 5) (v := .int (iI (F56 532))) (C := zR_X) (T := zT_X) (N := 34) hx hb hts zi_X hown hK.1 hP 5 ga_5 rfl 32 (by decide) (hts _ zw_565) (fun _ h9 => h9) rfl zd_X_findPace_72 ?_
            refine x_i2l hx hb zd_X_findPace_75 (⟨by omega, by omega⟩) ?_
            refine x_lmul hx hb zd_X_findPace_76 ?_
            refine x_lcmp hx hb zd_X_findPace_77 (⟨by omega, by omega⟩) (⟨by omega, by omega⟩) ?_
            have hc_77 := cmpI_spec (((hi_ * (F56 532)) / 16777216) * 16777216) (lo * (F56 532))
            refine x_if_gt (tgt := 104) hx hb zd_X_findPace_78 (by decide) (⟨by omega, by omega⟩) (fun h_78 => ?_) (fun h_78 => ?_)
            · have hfe_ := fp_end he_ hu bq hlo hhi bl (by omega)
              refine lv_aload_n hx hb zd_X_findPace_104 rfl (lv_at hl 0 rfl) ?_
              refine lv_lload hx hb zd_X_findPace_105 (lv_at hl 2 rfl) ?_
              refine lv_aload_n hx hb zd_X_findPace_107 rfl (lv_at hl 0 rfl) ?_
              refine va_get (D := D) (ci := 5) (v := .int (iI (F56 532))) (C := zR_X) (T := zT_X) (N := 34) hx hb hts zi_X hown hK.1 hP 5 ga_5 rfl 32 (by decide) (hts _ zw_565) (fun _ h9 => h9) rfl zd_X_findPace_108 ?_
              refine x_i2l hx hb zd_X_findPace_111 (⟨by omega, by omega⟩) ?_
              refine x_lmul hx hb zd_X_findPace_112 ?_
              refine lv_bipush (v := iI (24)) hx hb zd_X_findPace_113 (by decide) ?_
              refine x_lshr24 hx hb zd_X_findPace_115 (⟨by omega, by omega⟩) ?_
              refine x_l2i hx hb zd_X_findPace_116 ?_
              refine va_put (D := D) (ci := 5) (v := .int (iI ((hi_ * (F56 532)) / 16777216))) (ty := .int) (C := zR_X) (T := zT_X) (N := 34) hx hb hts zi_X zk_X zo_X zn_X hown hK.1 hP hD hS 5 ga_5 rfl 31 (by decide) (hts _ zw_564) (fun _ h9 => h9) rfl (by decide +kernel) (rfl) (rfl) (Nat.le_of_ble_eq_true rfl) zd_X_findPace_117 (fun H locs hP hD hS => ?_)
              rw [gs_5_31] at hP hD
              exact ret _ _ _ _ _ _ zd_X_findPace_120 hP hD hS (⟨fun j h1 h2 h3 h4 => by simp only [fuP, h3, if_false]; rw [hF j h4, b1 j h1 h2], fun k h1 h2 h3 h4 h5 h6 => by rw [hk k h6, b2 k h1 h2 h3 h4 h5], by show hi_ * F56 532 / 16777216 = P; exact hfe_.2, by show F56 532 = Q1; exact hfe_.1⟩)
            · have hne_ : F56 532 ≠ Q1 := fun h => fp_go hlo hhi h (by omega)
              refine lv_aload_n hx hb zd_X_findPace_81 rfl (lv_at hl 0 rfl) ?_
              refine va_get (D := D) (ci := 5) (v := .int (iI (F56 532))) (C := zR_X) (T := zT_X) (N := 34) hx hb hts zi_X hown hK.1 hP 5 ga_5 rfl 32 (by decide) (hts _ zw_565) (fun _ h9 => h9) rfl zd_X_findPace_82 ?_
              refine lv_sipush (v := iI (2100)) hx hb zd_X_findPace_85 (by decide) ?_
              refine x_icmp_ge (tgt := 104) hx hb zd_X_findPace_88 (by decide) (⟨by omega, by omega⟩) (⟨by omega, by omega⟩) (fun h_88 => ?_) (fun h_88 => ?_)
              · omega
              · refine lv_aload_n hx hb zd_X_findPace_91 rfl (lv_at hl 0 rfl) ?_
                refine lv_dup hx hb zd_X_findPace_92 rfl ?_
                refine va_get (D := D) (ci := 5) (v := .int (iI (F56 532))) (C := zR_X) (T := zT_X) (N := 34) hx hb hts zi_X hown hK.1 hP 5 ga_5 rfl 32 (by decide) (hts _ zw_565) (fun _ h9 => h9) rfl zd_X_findPace_93 ?_
                refine lv_iconst (v := iI (1)) hx hb zd_X_findPace_96 rfl ?_
                refine x_iadd hx hb zd_X_findPace_97 ?_
                refine va_put (D := D) (ci := 5) (v := .int (iI ((F56 532) + 1))) (ty := .int) (C := zR_X) (T := zT_X) (N := 34) hx hb hts zi_X zk_X zo_X zn_X hown hK.1 hP hD hS 5 ga_5 rfl 32 (by decide) (hts _ zw_565) (fun _ h9 => h9) rfl (by decide +kernel) (rfl) (rfl) (Nat.le_of_ble_eq_true rfl) zd_X_findPace_98 (fun H locs hP hD hS => ?_)
                rw [gs_5_32] at hP hD
                refine lv_goto (tgt := 56) hx hb zd_X_findPace_101 (by decide) ?_
                exact ih_56   (fuP F56 532 ((F56 532) + 1)) (by show 1 ≤ F56 532 + 1 ∧ F56 532 + 1 ≤ Q1; omega) (fun j h => by simp only [fuP, h, if_false]; exact hF j h) (by show Q1 + 1 - (F56 532 + 1) < _; omega) _ _ hP hD hS ls (lv_sub hl [0, 1, 2] rfl)
        exact L_56 (((Q1 + 1 - (fuP F_2 532 1) 532 : Int) + 1).toNat)   (fuP F_2 532 1) (by show 1 ≤ (1 : Int) ∧ (1 : Int) ≤ Q1; omega) (fun j h => by simp [fuP, h]) (by omega) _ _ hP hD hS ls (lv_sub hl [0, 1, 2] rfl)
      · refine lv_lload_n hx hb zd_X_findPace_21 rfl (lv_at hl 1 rfl) ?_
        refine lv_lload hx hb zd_X_findPace_22 (lv_at hl 2 rfl) ?_
        refine x_ladd hx hb zd_X_findPace_24 ?_
        refine lv_iconst (v := iI (1)) hx hb zd_X_findPace_25 rfl ?_
        refine x_lshr1 hx hb zd_X_findPace_26 (⟨by omega, by omega⟩) ?_
        refine lv_lstore (lv' := [(6, .long (lI ((lo + hi_) / 2))), (0, .ref (q 5)), (2, .long (lI (lo))), (4, .long (lI (hi_)))]) hx hb zd_X_findPace_27 hl (by decide) rfl (fun ls hl => ?_)
        refine lv_aload_n hx hb zd_X_findPace_29 rfl (lv_at hl 1 rfl) ?_
        refine lv_lload hx hb zd_X_findPace_30 (lv_at hl 0 rfl) ?_
        refine z_goi (z_runV (n := 1) (k := 5) (ci := 5) (As := [.long (lI ((lo + hi_) / 2))]) (rest := []) S (c_X_isSlower l D q c _ F_2 A12 ((lo + hi_) / 2) (by first | omega | (rw [e51, e52, e53, e54]; exact hed_)) (by first | omega | (rw [e51, e52, e53, e54]; exact hed_)) (by first | omega | (rw [e51, e52, e53, e54]; exact hed_)) (by first | omega | (rw [e51, e52, e53, e54]; exact hed_))) zw_745 zw_747 zs_51 zw_6 zw_748 ⟨by decide +kernel, by decide, rfl, rfl⟩ hK hP hD ga_5 rfl rfl rfl hl.1 rfl (Nat.le_of_ble_eq_true rfl) zd_X_findPace_32 ⟨Nat.zero_le _, Nat.zero_le _⟩) hD hS hA (fun z_32 F_32 A_32 H locs hq_32 hP hD hS => ?_)
        obtain ⟨hf_32, hq_32⟩ := hq_32
        rw [hf_32] at hP hD
        obtain ⟨c1, c2, c3, c4⟩ := hq_32
        refine x_if_eq (tgt := 44) hx hb zd_X_findPace_35 (by decide) (⟨by omega, by omega⟩) (fun h_35 => ?_) (fun h_35 => ?_)
        · obtain ⟨p9, hp9⟩ := c3 h_35
          have hh9 := fp_0 (T := T0) (R := R0) (P := P) (Q := Q1) (x := (lo + hi_) / 2) bt2 bt3 bq.1 (lp_le (fun u v s w h => hp9 u v s w ((hee_ u v s w).mpr h)) bt1)
          clear c3 c4
          refine lv_lload hx hb zd_X_findPace_44 (lv_at hl 0 rfl) ?_
          refine lv_lstore (lv' := [(4, .long (lI ((lo + hi_) / 2))), (6, .long (lI ((lo + hi_) / 2))), (0, .ref (q 5)), (2, .long (lI (lo)))]) hx hb zd_X_findPace_46 hl (by decide) rfl (fun ls hl => ?_)
          refine lv_goto (tgt := 12) hx hb zd_X_findPace_48 (by decide) ?_
          exact ih_12 (lo) ((lo + hi_) / 2)  A_32 (by first | assumption | omega | (simp_all; done)) (by first | exact hh9 | exact hlo) (by first | exact hh9 | exact hhi) (fun k h => (c1 k h).trans (hk k h)) (by omega) _ _ hP hD hS ls (lv_sub hl [2, 3, 0] rfl)
        · obtain ⟨T9, R9, t1, t2⟩ := c4 (c2.resolve_left h_35)
          have t3 := lp_mono (fun u v s w h => (hee_ u v s w).mp h) t1
          have hh9 := fp_1 (bm T9 R9 t3) (lp_nn (fun u v s w h => (hpe u v s w h).2.2.2.1) t3) bq.1 t2
          clear c3 c4
          refine lv_lload hx hb zd_X_findPace_38 (lv_at hl 0 rfl) ?_
          refine lv_lstore_n (lv' := [(2, .long (lI ((lo + hi_) / 2))), (6, .long (lI ((lo + hi_) / 2))), (0, .ref (q 5)), (4, .long (lI (hi_)))]) hx hb zd_X_findPace_40 rfl hl (by decide) rfl (fun ls hl => ?_)
          refine lv_goto (tgt := 48) hx hb zd_X_findPace_41 (by decide) ?_
          refine lv_goto (tgt := 12) hx hb zd_X_findPace_48 (by decide) ?_
          exact ih_12 ((lo + hi_) / 2) (hi_)  A_32 (by first | assumption | omega | (simp_all; done)) (by first | exact hh9 | exact hlo) (by first | exact hh9 | exact hhi) (fun k h => (c1 k h).trans (hk k h)) (by omega) _ _ hP hD hS ls (lv_sub hl [2, 0, 3] rfl)
  exact L_12 ((((6710886400) - (0) : Int) + 1).toNat) (0) (6710886400)  A_2 (by first | assumption | omega | (simp_all; done)) (by omega) (by omega) (fun k _ => rfl) (by omega) _ _ hP hD hS ls (lv_sub hl [2, 1, 0] rfl)
