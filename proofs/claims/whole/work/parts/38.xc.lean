/-- the same, with the first nodes by their sums -/
def mB (A : Nat → Int → Int) (root : Int) (k : Nat) : Int → Int := if k = 18 then sI (gS (mA A) root) else mA A k
theorem gN_in {A : Nat → Int → Int} {root b n : Int} (hact : ∀ a, 0 ≤ a → a < n → 1 ≤ A 7 a) (h0 : 0 ≤ b) (h1 : b < n) (hr : A 8 b = root) {i : Int} (hi : b < i) (hi2 : i ≤ n) : 0 ≤ sI (gS A root) b ∧ sI (gS A root) b + A 7 b ≤ sI (gS A root) i := by
  have nn : ∀ a, 0 ≤ a → a < n → 0 ≤ gS A root a := by
    intro a h0 h1
    have := hact a h0 h1
    unfold gS
    split <;> omega
  have m1 := sI_mon nn 0 (by omega) b h0 (by omega)
  have m2 := sI_mon nn (b + 1) (by omega) i (by omega) hi2
  rw [sI_s h0] at m2
  have e : gS A root b = A 7 b := by unfold gS; rw [if_pos hr]
  rw [sI_0] at m1
  omega
theorem bw_k {A : Nat → Int → Int} {root k j n : Int} (hp : 1 ≤ A 38 k) (hn : n = A 44 (A 36 k)) {z y : Int} (hz : z = (A 40 k - A 39 k * (j + 1)) / A 38 k) (hy : y = (-z - 1) / n) : -z - 1 + -y * n = wf (mB A root) k j % n ∧ -y = -(wf (mB A root) k j / n) := by
  have e : wf (mB A root) k j = -z - 1 := by
    show ((j + 1) * A 39 k - A 40 k - 1) / A 38 k = _
    rw [hz, dn_up (by omega), Int.mul_comm (A 39 k)]
    congr 1
    omega
  rw [e, hy]
  have := Int.emod_add_mul_ediv (-z - 1) n
  rw [Int.neg_mul, Int.mul_comm]
  omega
abbrev zr_X_build : Room := ({ frames := 1, cells := 0, slots := 0, locals := 24 } : Room)
set_option maxHeartbeats 4000000 in
set_option maxRecDepth 100000 in
theorem c_X_build (l : Launch) (D : va_G) (q : Nat → Nat) (c : Nat → ClassId) (sz : Nat) (F : Nat → Int) (A : Nat → Int → Int) (root : Int) (hmn : 1 ≤ F 501 ∧ F 501 ≤ 8) (hmm : 0 ≤ F 502 ∧ F 502 ≤ 14) (hmch : ∀ k, 0 ≤ k → k < F 502 → (0 ≤ A 36 k ∧ A 36 k < F 501) ∧ (0 ≤ A 37 k ∧ A 37 k < F 501) ∧ (1 ≤ A 38 k ∧ A 38 k ≤ 9) ∧ (1 ≤ A 39 k ∧ A 39 k ≤ 9) ∧ 0 ≤ A 40 k ∧ A 40 k ≤ 99) (hmc : ∀ a, 0 ≤ a → a < F 501 → 1 ≤ A 44 a ∧ A 44 a ≤ 400) (hmp : ∀ a, 0 ≤ a → a < F 501 → 0 ≤ A 41 a ∧ A 41 a < 8) (brt : 0 ≤ root ∧ root < 8) (hsame : ∀ k, 0 ≤ k → k < F 502 → A 41 (A 36 k) = A 41 (A 37 k)) (hsum : sI (gS (mA A) root) (F 501) ≤ 40) : zMV l zy_X_build zc_X_build 7 none zr_X_build D q c sz [.ref (q 5), .int (iI (root))] F A (fun F1 A1 => (∀ j, j ≠ 523 → j ≠ 525 → F1 j = F j) ∧ (∀ k, k ≠ 50 → k ≠ 51 → k ≠ 52 → k ≠ 53 → k ≠ 54 → A1 k = A k) ∧ F1 523 = sI (gS (mA A) root) (F 501) ∧ (0 ≤ F1 525 ∧ F1 525 ≤ 600) ∧ ∀ u v s w, E4 (F1 525) (A1 51) (A1 52) (A1 53) (A1 54) u v s w ↔ fT (mA A) root (F 501) u v s w ∨ wT (mB A root) root (F 502) u v s w) := by
  refine z_ofV (by decide) (Nat.le_of_ble_eq_true rfl) ?_
  intro p e s m args below meth c0 A0 Q C0 ret hP hD hS ls hl
  obtain ⟨S, hK, hA⟩ := C0
  have hx := S.1
  have hb := S.2.1
  have hown := S.2.2.2.1
  have hts : ∀ w ∈ zG, w.before args s = true := fun w h => S.2.2.2.2 w (List.mem_cons_of_mem _ h)
  have hl : lv_has ls 7 [(0, .ref (q 5)), (1, .int (iI (root)))] := hl
  have hct_ : ∀ a, 0 ≤ a → a < F 501 → 1 ≤ mA A 7 a := fun a h0 h1 => (hmc a h0 h1).1
  have hin_ : ∀ b, 0 ≤ b → b < F 501 → A 41 b = root → 0 ≤ sI (gS (mA A) root) b ∧ sI (gS (mA A) root) b + A 44 b ≤ sI (gS (mA A) root) (F 501) := fun b h0 h1 h2 => gN_in hct_ h0 h1 h2 h1 (Int.le_refl _)
  refine lv_aload_n hx hb zd_X_build_0 rfl (lv_at hl 0 rfl) ?_
  refine lv_iconst (v := iI (0)) hx hb zd_X_build_1 rfl ?_
  refine va_put (D := D) (ci := 5) (v := .int (iI (0))) (ty := .int) (C := zR_X) (T := zT_X) (N := 34) hx hb hts zi_X zk_X zo_X zn_X hown hK.1 hP hD hS 5 ga_5 rfl 23 (by decide) (hts _ zw_556) (fun _ h9 => h9) rfl (by decide +kernel) (rfl) (rfl) (Nat.le_of_ble_eq_true rfl) zd_X_build_2 (fun H locs hP hD hS => ?_)
  rw [gs_5_23] at hP hD
  refine lv_aload_n hx hb zd_X_build_5 rfl (lv_at hl 0 rfl) ?_
  refine lv_iconst (v := iI (0)) hx hb zd_X_build_6 rfl ?_
  refine va_put (D := D) (ci := 5) (v := .int (iI (0))) (ty := .int) (C := zR_X) (T := zT_X) (N := 34) hx hb hts zi_X zk_X zo_X zn_X hown hK.1 hP hD hS 5 ga_5 rfl 25 (by decide) (hts _ zw_558) (fun _ h9 => h9) rfl (by decide +kernel) (rfl) (rfl) (Nat.le_of_ble_eq_true rfl) zd_X_build_7 (fun H locs hP hD hS => ?_)
  rw [gs_5_25] at hP hD
  refine lv_iconst (v := iI (0)) hx hb zd_X_build_10 rfl ?_
  refine lv_istore_n (lv' := [(2, .int (iI (0))), (0, .ref (q 5)), (1, .int (iI (root)))]) hx hb zd_X_build_11 rfl hl (by decide) rfl (fun ls hl => ?_)
  have L_12 : ∀ (fu : Nat) (i : Int)  (F12 : Nat → Int) (A12 : Nat → Int → Int), (0 ≤ i ∧ i ≤ F 501) → (∀ j, j ≠ 523 → j ≠ 525 → F12 j = F j) → (∀ k, k ≠ 50 → k ≠ 51 → k ≠ 52 → k ≠ 53 → k ≠ 54 → A12 k = A k) → (F12 523 = sI (gS (mA A) root) i) → (F12 525 = sI (gS (mA A) root) i) → (∀ b, 0 ≤ b → b < i → A 41 b = root → A12 50 b = sI (gS (mA A) root) b) → (∀ u v s w, E4 (F12 525) (A12 51) (A12 52) (A12 53) (A12 54) u v s w ↔ fT (mA A) root i u v s w) → (F 501 - i < (fu : Int)) → ∀ (H : Heap) (locs : List Loc), va_P D zcl (gw q c F12 A12) H → va_D A0 (gw q c F12 A12) → va_S A0 s.heap H locs → ∀ ls : Array Slot, lv_has ls 7 [(0, .ref (q 5)), (1, .int (iI (root))), (2, .int (iI (i)))] → W p l e zr_X_build s m args below meth c0 H locs 0 0 Q (F0 m 12 ls []) := by
    intro fu
    induction fu with
    | zero => intro i  F12 A12 hi hF hk h523 h525 h18 hed hm_12; exact absurd hm_12 (by omega)
    | succ fu ih_12 =>
      intro i  F12 A12 hi hF hk h523 h525 h18 hed hm_12 H locs hP hD hS ls hl
      have e35 := hk 35 (by decide) (by decide) (by decide) (by decide) (by decide)
      have e36 := hk 36 (by decide) (by decide) (by decide) (by decide) (by decide)
      have e37 := hk 37 (by decide) (by decide) (by decide) (by decide) (by decide)
      have e38 := hk 38 (by decide) (by decide) (by decide) (by decide) (by decide)
      have e39 := hk 39 (by decide) (by decide) (by decide) (by decide) (by decide)
      have e40 := hk 40 (by decide) (by decide) (by decide) (by decide) (by decide)
      have e41 := hk 41 (by decide) (by decide) (by decide) (by decide) (by decide)
      have e44 := hk 44 (by decide) (by decide) (by decide) (by decide) (by decide)
      have f501 := hF 501 (by decide) (by decide)
      have f502 := hF 502 (by decide) (by decide)
      refine lv_iload_n hx hb zd_X_build_12 rfl (lv_at hl 2 rfl) ?_
      refine lv_aload_n hx hb zd_X_build_13 rfl (lv_at hl 0 rfl) ?_
      refine va_get (D := D) (ci := 5) (v := .int (iI (F12 501))) (C := zR_X) (T := zT_X) (N := 34) hx hb hts zi_X hown hK.1 hP 5 ga_5 rfl 1 (by decide) (hts _ zw_534) (fun _ h9 => h9) rfl zd_X_build_14 ?_
      refine x_icmp_ge (tgt := 134) hx hb zd_X_build_17 (by decide) (⟨by omega, by omega⟩) (⟨by omega, by omega⟩) (fun h_17 => ?_) (fun h_17 => ?_)
      · have e_ : i = F 501 := by omega
        rw [e_] at h523 h525 h18 hed
        refine lv_iconst (v := iI (0)) hx hb zd_X_build_134 rfl ?_
        refine lv_istore_n (lv' := [(2, .int (iI (0))), (0, .ref (q 5)), (1, .int (iI (root)))]) hx hb zd_X_build_135 rfl hl (by decide) rfl (fun ls hl => ?_)
        have L_136 : ∀ (fu : Nat) (i : Int)  (F136 : Nat → Int) (A136 : Nat → Int → Int), (0 ≤ i ∧ i ≤ F 502) → (∀ j, j ≠ 523 → j ≠ 525 → F136 j = F j) → (∀ k, k ≠ 50 → k ≠ 51 → k ≠ 52 → k ≠ 53 → k ≠ 54 → A136 k = A k) → (F136 523 = sI (gS (mA A) root) (F 501)) → (0 ≤ F136 525 ∧ F136 525 ≤ 40 + 40 * i) → (∀ b, 0 ≤ b → b < F 501 → A 41 b = root → A136 50 b = sI (gS (mA A) root) b) → (∀ u v s w, E4 (F136 525) (A136 51) (A136 52) (A136 53) (A136 54) u v s w ↔ fT (mA A) root (F 501) u v s w ∨ wT (mB A root) root i u v s w) → (F 502 - i < (fu : Int)) → ∀ (H : Heap) (locs : List Loc), va_P D zcl (gw q c F136 A136) H → va_D A0 (gw q c F136 A136) → va_S A0 s.heap H locs → ∀ ls : Array Slot, lv_has ls 7 [(0, .ref (q 5)), (1, .int (iI (root))), (2, .int (iI (i)))] → W p l e zr_X_build s m args below meth c0 H locs 0 0 Q (F0 m 136 ls []) := by
          intro fu
          induction fu with
          | zero => intro i  F136 A136 hi hF hk h523 h525 h18 hed hm_136; exact absurd hm_136 (by omega)
          | succ fu ih_136 =>
            intro i  F136 A136 hi hF hk h523 h525 h18 hed hm_136 H locs hP hD hS ls hl
            have e35 := hk 35 (by decide) (by decide) (by decide) (by decide) (by decide)
            have e36 := hk 36 (by decide) (by decide) (by decide) (by decide) (by decide)
            have e37 := hk 37 (by decide) (by decide) (by decide) (by decide) (by decide)
            have e38 := hk 38 (by decide) (by decide) (by decide) (by decide) (by decide)
            have e39 := hk 39 (by decide) (by decide) (by decide) (by decide) (by decide)
            have e40 := hk 40 (by decide) (by decide) (by decide) (by decide) (by decide)
            have e41 := hk 41 (by decide) (by decide) (by decide) (by decide) (by decide)
            have e44 := hk 44 (by decide) (by decide) (by decide) (by decide) (by decide)
            have f501 := hF 501 (by decide) (by decide)
            have f502 := hF 502 (by decide) (by decide)
            refine lv_iload_n hx hb zd_X_build_136 rfl (lv_at hl 2 rfl) ?_
            refine lv_aload_n hx hb zd_X_build_137 rfl (lv_at hl 0 rfl) ?_
            refine va_get (D := D) (ci := 5) (v := .int (iI (F136 502))) (C := zR_X) (T := zT_X) (N := 34) hx hb hts zi_X hown hK.1 hP 5 ga_5 rfl 2 (by decide) (hts _ zw_535) (fun _ h9 => h9) rfl zd_X_build_138 ?_
            refine x_icmp_ge (tgt := 296) hx hb zd_X_build_141 (by decide) (⟨by omega, by omega⟩) (⟨by omega, by omega⟩) (fun h_141 => ?_) (fun h_141 => ?_)
            · have e_ : i = F 502 := by omega
              rw [e_] at hed
              exact ret _ _ _ _ _ _ zd_X_build_296 hP hD hS (⟨hF, hk, h523, by omega, hed⟩)
            · have hc_ := hmch i (by omega) (by omega)
              have hp_ := hmp (A 36 i) (by omega) (by omega)
              have hc1_ := hmc (A 36 i) (by omega) (by omega)
              have hc2_ := hmc (A 37 i) (by omega) (by omega)
              refine lv_aload_n hx hb zd_X_build_144 rfl (lv_at hl 0 rfl) ?_
              refine va_get (D := D) (ci := 5) (v := .ref (q 41)) (C := zR_X) (T := zT_X) (N := 34) hx hb hts zi_X hown hK.1 hP 5 ga_5 rfl 13 (by decide) (hts _ zw_546) (fun _ h9 => h9) rfl zd_X_build_145 ?_
              refine lv_aload_n hx hb zd_X_build_148 rfl (lv_at hl 0 rfl) ?_
              refine va_get (D := D) (ci := 5) (v := .ref (q 36)) (C := zR_X) (T := zT_X) (N := 34) hx hb hts zi_X hown hK.1 hP 5 ga_5 rfl 4 (by decide) (hts _ zw_537) (fun _ h9 => h9) rfl zd_X_build_149 ?_
              refine lv_iload_n hx hb zd_X_build_152 rfl (lv_at hl 2 rfl) ?_
              refine x_iald (v := A 36 i) hx hb hK.1 hP 36 0 ga_36 rfl (by decide) (by omega) (by omega) (by rw [e36]) zd_X_build_153 ?_
              refine x_iald (v := A 41 (A 36 i)) hx hb hK.1 hP 41 0 ga_41 rfl (by decide) (by omega) (by omega) (by rw [e41]) zd_X_build_154 ?_
              refine lv_iload_n hx hb zd_X_build_155 rfl (lv_at hl 1 rfl) ?_
              refine x_icmp_eq (tgt := 162) hx hb zd_X_build_156 (by decide) (⟨by omega, by omega⟩) (⟨by omega, by omega⟩) (fun h_156 => ?_) (fun h_156 => ?_)
              · have g1_ := hin_ (A 36 i) (by omega) (by omega) h_156
                have g2_ := hin_ (A 37 i) (by omega) (by omega) (by rw [← hsame i (by omega) (by omega)]; exact h_156)
                refine lv_aload_n hx hb zd_X_build_162 rfl (lv_at hl 0 rfl) ?_
                refine va_get (D := D) (ci := 5) (v := .ref (q 44)) (C := zR_X) (T := zT_X) (N := 34) hx hb hts zi_X hown hK.1 hP 5 ga_5 rfl 16 (by decide) (hts _ zw_549) (fun _ h9 => h9) rfl zd_X_build_163 ?_
                refine lv_aload_n hx hb zd_X_build_166 rfl (lv_at hl 0 rfl) ?_
                refine va_get (D := D) (ci := 5) (v := .ref (q 36)) (C := zR_X) (T := zT_X) (N := 34) hx hb hts zi_X hown hK.1 hP 5 ga_5 rfl 4 (by decide) (hts _ zw_537) (fun _ h9 => h9) rfl zd_X_build_167 ?_
                refine lv_iload_n hx hb zd_X_build_170 rfl (lv_at hl 2 rfl) ?_
                refine x_iald (v := A 36 i) hx hb hK.1 hP 36 0 ga_36 rfl (by decide) (by omega) (by omega) (by rw [e36]) zd_X_build_171 ?_
                refine x_iald (v := A 44 (A 36 i)) hx hb hK.1 hP 44 0 ga_44 rfl (by decide) (by omega) (by omega) (by rw [e44]) zd_X_build_172 ?_
                refine lv_istore_n (lv' := [(3, .int (iI (A 44 (A 36 i)))), (0, .ref (q 5)), (1, .int (iI (root))), (2, .int (iI (i)))]) hx hb zd_X_build_173 rfl hl (by decide) rfl (fun ls hl => ?_)
                refine lv_iconst (v := iI (0)) hx hb zd_X_build_174 rfl ?_
                refine lv_istore (lv' := [(4, .int (iI (0))), (3, .int (iI (A 44 (A 36 i)))), (0, .ref (q 5)), (1, .int (iI (root))), (2, .int (iI (i)))]) hx hb zd_X_build_175 hl (by decide) rfl (fun ls hl => ?_)
                have L_177 : ∀ (fu : Nat) (j : Int)  (F177 : Nat → Int) (A177 : Nat → Int → Int), (0 ≤ j ∧ j ≤ A 44 (A 37 i)) → (∀ j, j ≠ 523 → j ≠ 525 → F177 j = F j) → (∀ k, k ≠ 50 → k ≠ 51 → k ≠ 52 → k ≠ 53 → k ≠ 54 → A177 k = A k) → (F177 523 = sI (gS (mA A) root) (F 501)) → (0 ≤ F177 525 ∧ F177 525 ≤ 40 + 40 * i + j) → (∀ b, 0 ≤ b → b < F 501 → A 41 b = root → A177 50 b = sI (gS (mA A) root) b) → (∀ u v s w, E4 (F177 525) (A177 51) (A177 52) (A177 53) (A177 54) u v s w ↔ (fT (mA A) root (F 501) u v s w ∨ wT (mB A root) root i u v s w) ∨ (s = A 35 (A 36 i) ∧ wE (mB A root) i j u v w)) → (A 44 (A 37 i) - j < (fu : Int)) → ∀ (H : Heap) (locs : List Loc), va_P D zcl (gw q c F177 A177) H → va_D A0 (gw q c F177 A177) → va_S A0 s.heap H locs → ∀ ls : Array Slot, lv_has ls 7 [(0, .ref (q 5)), (1, .int (iI (root))), (2, .int (iI (i))), (3, .int (iI (A 44 (A 36 i)))), (4, .int (iI (j)))] → W p l e zr_X_build s m args below meth c0 H locs 0 0 Q (F0 m 177 ls []) := by
                  intro fu
                  induction fu with
                  | zero => intro j  F177 A177 hj hF hk h523 h525 h18 hed hm_177; exact absurd hm_177 (by omega)
                  | succ fu ih_177 =>
                    intro j  F177 A177 hj hF hk h523 h525 h18 hed hm_177 H locs hP hD hS ls hl
                    have e35 := hk 35 (by decide) (by decide) (by decide) (by decide) (by decide)
                    have e36 := hk 36 (by decide) (by decide) (by decide) (by decide) (by decide)
                    have e37 := hk 37 (by decide) (by decide) (by decide) (by decide) (by decide)
                    have e38 := hk 38 (by decide) (by decide) (by decide) (by decide) (by decide)
                    have e39 := hk 39 (by decide) (by decide) (by decide) (by decide) (by decide)
                    have e40 := hk 40 (by decide) (by decide) (by decide) (by decide) (by decide)
                    have e41 := hk 41 (by decide) (by decide) (by decide) (by decide) (by decide)
                    have e44 := hk 44 (by decide) (by decide) (by decide) (by decide) (by decide)
                    have f501 := hF 501 (by decide) (by decide)
                    have f502 := hF 502 (by decide) (by decide)
                    have i18 := h18 (A 36 i) (by omega) (by omega) h_156
                    have o18 := h18 (A 37 i) (by omega) (by omega) (by rw [← hsame i (by omega) (by omega)]; exact h_156)
                    refine lv_iload hx hb zd_X_build_177 (lv_at hl 4 rfl) ?_
                    refine lv_aload_n hx hb zd_X_build_179 rfl (lv_at hl 0 rfl) ?_
                    refine va_get (D := D) (ci := 5) (v := .ref (q 44)) (C := zR_X) (T := zT_X) (N := 34) hx hb hts zi_X hown hK.1 hP 5 ga_5 rfl 16 (by decide) (hts _ zw_549) (fun _ h9 => h9) rfl zd_X_build_180 ?_
                    refine lv_aload_n hx hb zd_X_build_183 rfl (lv_at hl 0 rfl) ?_
                    refine va_get (D := D) (ci := 5) (v := .ref (q 37)) (C := zR_X) (T := zT_X) (N := 34) hx hb hts zi_X hown hK.1 hP 5 ga_5 rfl 5 (by decide) (hts _ zw_538) (fun _ h9 => h9) rfl zd_X_build_184 ?_
                    refine lv_iload_n hx hb zd_X_build_187 rfl (lv_at hl 2 rfl) ?_
                    refine x_iald (v := A 37 i) hx hb hK.1 hP 37 0 ga_37 rfl (by decide) (by omega) (by omega) (by rw [e37]) zd_X_build_188 ?_
                    refine x_iald (v := A 44 (A 37 i)) hx hb hK.1 hP 44 0 ga_44 rfl (by decide) (by omega) (by omega) (by rw [e44]) zd_X_build_189 ?_
                    refine x_icmp_ge (tgt := 290) hx hb zd_X_build_190 (by decide) (⟨by omega, by omega⟩) (⟨by omega, by omega⟩) (fun h_190 => ?_) (fun h_190 => ?_)
                    · have e_ : j = A 44 (A 37 i) := by omega
                      refine lv_iinc (v := iI (i + 1)) (lv' := [(2, .int (iI (i + 1))), (0, .ref (q 5)), (1, .int (iI (root))), (3, .int (iI (A 44 (A 36 i)))), (4, .int (iI (j)))]) hx hb zd_X_build_290 hl (k := 2) rfl (iI_add _ _) (by decide) rfl (fun ls hl => ?_)
                      refine lv_goto (tgt := 136) hx hb zd_X_build_293 (by decide) ?_
                      exact ih_136 (i + 1)  F177 A177 (by first | assumption | omega | (simp_all; done)) (hF) (hk) (h523) (by omega) (h18) (fun u v s w => by first | exact wT_n (hed u v s w) h_156 | (have h9 := hed u v s w; rw [e_] at h9; exact wT_y h9 hi.1 h_156)) (by omega) _ _ hP hD hS ls (lv_sub hl [1, 2, 0] rfl)
                    · have hm_ := bnd0 (x := j + 1) (y := A 39 i) (X := 41) (Y := 9) (by omega) (by omega)
                      rw [Int.mul_comm] at hm_
                      refine lv_aload_n hx hb zd_X_build_193 rfl (lv_at hl 0 rfl) ?_
                      refine va_get (D := D) (ci := 5) (v := .ref (q 40)) (C := zR_X) (T := zT_X) (N := 34) hx hb hts zi_X hown hK.1 hP 5 ga_5 rfl 8 (by decide) (hts _ zw_541) (fun _ h9 => h9) rfl zd_X_build_194 ?_
                      refine lv_iload_n hx hb zd_X_build_197 rfl (lv_at hl 2 rfl) ?_
                      refine x_iald (v := A 40 i) hx hb hK.1 hP 40 0 ga_40 rfl (by decide) (by omega) (by omega) (by rw [e40]) zd_X_build_198 ?_
                      refine lv_aload_n hx hb zd_X_build_199 rfl (lv_at hl 0 rfl) ?_
                      refine va_get (D := D) (ci := 5) (v := .ref (q 39)) (C := zR_X) (T := zT_X) (N := 34) hx hb hts zi_X hown hK.1 hP 5 ga_5 rfl 7 (by decide) (hts _ zw_540) (fun _ h9 => h9) rfl zd_X_build_200 ?_
                      refine lv_iload_n hx hb zd_X_build_203 rfl (lv_at hl 2 rfl) ?_
                      refine x_iald (v := A 39 i) hx hb hK.1 hP 39 0 ga_39 rfl (by decide) (by omega) (by omega) (by rw [e39]) zd_X_build_204 ?_
                      refine lv_iload hx hb zd_X_build_205 (lv_at hl 4 rfl) ?_
                      refine lv_iconst (v := iI (1)) hx hb zd_X_build_207 rfl ?_
                      refine x_iadd hx hb zd_X_build_208 ?_
                      refine x_imul hx hb zd_X_build_209 ?_
                      refine x_isub hx hb zd_X_build_210 ?_
                      refine lv_aload_n hx hb zd_X_build_211 rfl (lv_at hl 0 rfl) ?_
                      refine va_get (D := D) (ci := 5) (v := .ref (q 38)) (C := zR_X) (T := zT_X) (N := 34) hx hb hts zi_X hown hK.1 hP 5 ga_5 rfl 6 (by decide) (hts _ zw_539) (fun _ h9 => h9) rfl zd_X_build_212 ?_
                      refine lv_iload_n hx hb zd_X_build_215 rfl (lv_at hl 2 rfl) ?_
                      refine x_iald (v := A 38 i) hx hb hK.1 hP 38 0 ga_38 rfl (by decide) (by omega) (by omega) (by rw [e38]) zd_X_build_216 ?_
                      refine z_goi (z_runS (n := 2) (As := [.int (iI ((A 40 i) - ((A 39 i) * (j + 1)))), .int (iI (A 38 i))]) (rest := []) S (c_X_down l D q c _ F177 A177 ((A 40 i) - ((A 39 i) * (j + 1))) (A 38 i) (by first | assumption | omega | exact ⟨by omega, by omega⟩) (by first | assumption | omega | exact ⟨by omega, by omega⟩)) zw_741 zw_742 zw_6 zw_743 ⟨by decide +kernel, by decide, rfl, rfl⟩ rfl hK hP hD rfl hl.1 rfl (Nat.le_of_ble_eq_true rfl) zd_X_build_217 ⟨Nat.zero_le _, Nat.zero_le _⟩) hD hS hA (fun z_217 F_217 A_217 H locs hq_217 hP hD hS => ?_)
                      obtain ⟨hf_217, ha_217, hq_217⟩ := hq_217
                      rw [hf_217, ha_217] at hP hD
                      have hwb_ : -400 ≤ z_217 ∧ z_217 ≤ 1000 := by (rw [hq_217]; exact ⟨Int.le_ediv_of_mul_le (by omega) (by omega), Int.ediv_le_of_le_mul (by omega) (by omega)⟩)
                      refine x_ineg hx hb zd_X_build_220 ?_
                      refine lv_iconst (v := iI (1)) hx hb zd_X_build_221 rfl ?_
                      refine x_isub hx hb zd_X_build_222 ?_
                      refine lv_istore (lv' := [(5, .int (iI ((-z_217) - 1))), (0, .ref (q 5)), (1, .int (iI (root))), (2, .int (iI (i))), (3, .int (iI (A 44 (A 36 i)))), (4, .int (iI (j)))]) hx hb zd_X_build_223 hl (by decide) rfl (fun ls hl => ?_)
                      refine lv_iload hx hb zd_X_build_225 (lv_at hl 0 rfl) ?_
                      refine lv_iload_n hx hb zd_X_build_227 rfl (lv_at hl 4 rfl) ?_
                      refine z_goi (z_runS (n := 2) (As := [.int (iI ((-z_217) - 1)), .int (iI (A 44 (A 36 i)))]) (rest := []) S (c_X_down l D q c _ F177 A177 ((-z_217) - 1) (A 44 (A 36 i)) (by first | assumption | omega | exact ⟨by omega, by omega⟩) (by first | assumption | omega | exact ⟨by omega, by omega⟩)) zw_741 zw_742 zw_6 zw_743 ⟨by decide +kernel, by decide, rfl, rfl⟩ rfl hK hP hD rfl hl.1 rfl (Nat.le_of_ble_eq_true rfl) zd_X_build_228 ⟨Nat.zero_le _, Nat.zero_le _⟩) hD hS hA (fun z_228 F_228 A_228 H locs hq_228 hP hD hS => ?_)
                      obtain ⟨hf_228, ha_228, hq_228⟩ := hq_228
                      rw [hf_228, ha_228] at hP hD
                      refine x_ineg hx hb zd_X_build_231 ?_
                      refine lv_istore (lv' := [(6, .int (iI (-z_228))), (5, .int (iI ((-z_217) - 1))), (0, .ref (q 5)), (1, .int (iI (root))), (2, .int (iI (i))), (3, .int (iI (A 44 (A 36 i)))), (4, .int (iI (j)))]) hx hb zd_X_build_232 hl (by decide) rfl (fun ls hl => ?_)
                      have hbk_ := bw_k (root := root) (k := i) (j := j) (by omega) rfl hq_217 hq_228
                      refine lv_aload_n hx hb zd_X_build_234 rfl (lv_at hl 2 rfl) ?_
                      refine lv_aload_n hx hb zd_X_build_235 rfl (lv_at hl 2 rfl) ?_
                      refine va_get (D := D) (ci := 5) (v := .ref (q 50)) (C := zR_X) (T := zT_X) (N := 34) hx hb hts zi_X hown hK.1 hP 5 ga_5 rfl 24 (by decide) (hts _ zw_557) (fun _ h9 => h9) rfl zd_X_build_236 ?_
                      refine lv_aload_n hx hb zd_X_build_239 rfl (lv_at hl 2 rfl) ?_
                      refine va_get (D := D) (ci := 5) (v := .ref (q 36)) (C := zR_X) (T := zT_X) (N := 34) hx hb hts zi_X hown hK.1 hP 5 ga_5 rfl 4 (by decide) (hts _ zw_537) (fun _ h9 => h9) rfl zd_X_build_240 ?_
                      refine lv_iload_n hx hb zd_X_build_243 rfl (lv_at hl 4 rfl) ?_
                      refine x_iald (v := A 36 i) hx hb hK.1 hP 36 0 ga_36 rfl (by decide) (by omega) (by omega) (by rw [e36]) zd_X_build_244 ?_
                      refine x_iald (v := sI (gS (mA A) root) (A 36 i)) hx hb hK.1 hP 50 0 ga_50 rfl (by decide) (by omega) (by omega) (i18) zd_X_build_245 ?_
                      refine lv_iload hx hb zd_X_build_246 (lv_at hl 1 rfl) ?_
                      refine x_iadd hx hb zd_X_build_248 ?_
                      refine lv_iload hx hb zd_X_build_249 (lv_at hl 0 rfl) ?_
                      refine lv_iload_n hx hb zd_X_build_251 rfl (lv_at hl 5 rfl) ?_
                      refine x_imul hx hb zd_X_build_252 ?_
                      refine x_iadd hx hb zd_X_build_253 ?_
                      refine lv_aload_n hx hb zd_X_build_254 rfl (lv_at hl 2 rfl) ?_
                      refine va_get (D := D) (ci := 5) (v := .ref (q 50)) (C := zR_X) (T := zT_X) (N := 34) hx hb hts zi_X hown hK.1 hP 5 ga_5 rfl 24 (by decide) (hts _ zw_557) (fun _ h9 => h9) rfl zd_X_build_255 ?_
                      refine lv_aload_n hx hb zd_X_build_258 rfl (lv_at hl 2 rfl) ?_
                      refine va_get (D := D) (ci := 5) (v := .ref (q 37)) (C := zR_X) (T := zT_X) (N := 34) hx hb hts zi_X hown hK.1 hP 5 ga_5 rfl 5 (by decide) (hts _ zw_538) (fun _ h9 => h9) rfl zd_X_build_259 ?_
                      refine lv_iload_n hx hb zd_X_build_262 rfl (lv_at hl 4 rfl) ?_
                      refine x_iald (v := A 37 i) hx hb hK.1 hP 37 0 ga_37 rfl (by decide) (by omega) (by omega) (by rw [e37]) zd_X_build_263 ?_
                      refine x_iald (v := sI (gS (mA A) root) (A 37 i)) hx hb hK.1 hP 50 0 ga_50 rfl (by decide) (by omega) (by omega) (o18) zd_X_build_264 ?_
                      refine lv_iload hx hb zd_X_build_265 (lv_at hl 6 rfl) ?_
                      refine x_iadd hx hb zd_X_build_267 ?_
                      refine lv_aload_n hx hb zd_X_build_268 rfl (lv_at hl 2 rfl) ?_
                      refine va_get (D := D) (ci := 5) (v := .ref (q 35)) (C := zR_X) (T := zT_X) (N := 34) hx hb hts zi_X hown hK.1 hP 5 ga_5 rfl 3 (by decide) (hts _ zw_536) (fun _ h9 => h9) rfl zd_X_build_269 ?_
                      refine lv_aload_n hx hb zd_X_build_272 rfl (lv_at hl 2 rfl) ?_
                      refine va_get (D := D) (ci := 5) (v := .ref (q 36)) (C := zR_X) (T := zT_X) (N := 34) hx hb hts zi_X hown hK.1 hP 5 ga_5 rfl 4 (by decide) (hts _ zw_537) (fun _ h9 => h9) rfl zd_X_build_273 ?_
                      refine lv_iload_n hx hb zd_X_build_276 rfl (lv_at hl 4 rfl) ?_
                      refine x_iald (v := A 36 i) hx hb hK.1 hP 36 0 ga_36 rfl (by decide) (by omega) (by omega) (by rw [e36]) zd_X_build_277 ?_
                      refine x_iald (v := A 35 (A 36 i)) hx hb hK.1 hP 35 0 ga_35 rfl (by decide) (by omega) (by omega) (by rw [e35]) zd_X_build_278 ?_
                      refine lv_iload hx hb zd_X_build_279 (lv_at hl 0 rfl) ?_
                      refine z_gov (z_runV (n := 4) (k := 5) (ci := 5) (As := [.int (iI (((sI (gS (mA A) root) (A 36 i)) + ((-z_217) - 1)) + ((-z_228) * (A 44 (A 36 i))))), .int (iI ((sI (gS (mA A) root) (A 37 i)) + j)), .int (iI (A 35 (A 36 i))), .int (iI (-z_228))]) (rest := []) S (c_X_edge l D q c _ F177 A177 (((sI (gS (mA A) root) (A 36 i)) + ((-z_217) - 1)) + ((-z_228) * (A 44 (A 36 i)))) ((sI (gS (mA A) root) (A 37 i)) + j) (A 35 (A 36 i)) (-z_228) (by first | assumption | omega | exact ⟨by omega, by omega⟩)) zw_737 zw_739 zs_50 zw_6 zw_740 ⟨by decide +kernel, by decide, rfl, rfl⟩ hK hP hD ga_5 rfl rfl rfl hl.1 rfl (Nat.le_of_ble_eq_true rfl) zd_X_build_281 ⟨Nat.zero_le _, Nat.zero_le _⟩) hD hS hA (fun F_281 A_281 H locs hq_281 hP hD hS => ?_)
                      obtain ⟨hf_281, ha_281⟩ := hq_281
                      rw [hf_281, ha_281] at hP hD
                      refine lv_iinc (v := iI (j + 1)) (lv' := [(4, .int (iI (j + 1))), (6, .int (iI (-z_228))), (5, .int (iI ((-z_217) - 1))), (0, .ref (q 5)), (1, .int (iI (root))), (2, .int (iI (i))), (3, .int (iI (A 44 (A 36 i))))]) hx hb zd_X_build_284 hl (k := 6) rfl (iI_add _ _) (by decide) rfl (fun ls hl => ?_)
                      refine lv_goto (tgt := 177) hx hb zd_X_build_287 (by decide) ?_
                      exact ih_177 (j + 1)  (fuP F177 525 ((F177 525) + 1)) (auP (auP (auP (auP A177 51 (F177 525) (((sI (gS (mA A) root) (A 36 i)) + ((-z_217) - 1)) + ((-z_228) * (A 44 (A 36 i))))) 52 (F177 525) ((sI (gS (mA A) root) (A 37 i)) + j)) 53 (F177 525) (A 35 (A 36 i))) 54 (F177 525) (-z_228)) (by first | assumption | omega | (simp_all; done)) (fun j h1 h2 => by simp only [fuP, h2, if_false]; exact hF j h1 h2) (fun k h1 h2 h3 h4 h5 => by simp only [auP, h2, h3, h4, h5, if_false]; exact hk k h1 h2 h3 h4 h5) (h523) (by show 0 ≤ F177 525 + 1 ∧ F177 525 + 1 ≤ _; omega) (h18) (fun u v s w => by have h9 := wE_s4 (hed u v s w) hj.1; rw [← h9]; have h8 := E4_add (E := F177 525) (x := A177 51) (y := A177 52) (t := A177 53) (z := A177 54) (a := (sI (gS (mA A) root) (A 36 i) + (-z_217 - 1)) + -z_228 * A 44 (A 36 i)) (b := sI (gS (mA A) root) (A 37 i) + j) (c := A 35 (A 36 i)) (d := -z_228) (by omega) u v s w; rw [Int.add_assoc (sI (gS (mA A) root) (A 36 i)), hbk_.1, hbk_.2] at h8; rw [Int.add_assoc (sI (gS (mA A) root) (A 36 i)), hbk_.1, hbk_.2]; exact h8) (by omega) _ _ hP hD hS ls (lv_sub hl [3, 4, 5, 6, 0] rfl)
                exact L_177 (((A 44 (A 37 i) - (0) : Int) + 1).toNat) (0)  F136 A136 (by first | assumption | omega | (simp_all; done)) (hF) (hk) (h523) (by omega) (h18) (fun u v s w => ⟨fun h => Or.inl ((hed u v s w).mp h), fun h => h.elim (hed u v s w).mpr (fun h => by obtain ⟨_, x, h0, h1, _⟩ := h; omega)⟩) (by omega) _ _ hP hD hS ls (lv_sub hl [2, 3, 4, 1, 0] rfl)
              · refine lv_goto (tgt := 290) hx hb zd_X_build_159 (by decide) ?_
                refine lv_iinc (v := iI (i + 1)) (lv' := [(2, .int (iI (i + 1))), (0, .ref (q 5)), (1, .int (iI (root)))]) hx hb zd_X_build_290 hl (k := 2) rfl (iI_add _ _) (by decide) rfl (fun ls hl => ?_)
                refine lv_goto (tgt := 136) hx hb zd_X_build_293 (by decide) ?_
                exact ih_136 (i + 1)  F136 A136 (by first | assumption | omega | (simp_all; done)) (hF) (hk) (h523) (by omega) (h18) (fun u v s w => by first | exact wT_n (hed u v s w) h_156 | (have h9 := hed u v s w; rw [e_] at h9; exact wT_y h9 hi.1 h_156)) (by omega) _ _ hP hD hS ls (lv_sub hl [1, 2, 0] rfl)
        exact L_136 (((F 502 - (0) : Int) + 1).toNat) (0)  F12 A12 (by first | assumption | omega | (simp_all; done)) (hF) (hk) (h523) (by have := sI_mon (n := F 501) (f := gS (mA A) root) (fun a h0 h1 => by have := hct_ a h0 h1; unfold gS; split <;> omega) 0 (by omega) (F 501) (by omega) (by omega); rw [sI_0] at this; omega) (h18) (fun u v s w => ⟨fun h => Or.inl ((hed u v s w).mp h), fun h => h.elim (hed u v s w).mpr (fun ⟨j, h0, h1, _⟩ => by omega)⟩) (by omega) _ _ hP hD hS ls (lv_sub hl [1, 2, 0] rfl)
      · have hc_ := hmc i (by omega) (by omega)
        have hp_ := hmp i (by omega) (by omega)
        refine lv_aload_n hx hb zd_X_build_20 rfl (lv_at hl 0 rfl) ?_
        refine va_get (D := D) (ci := 5) (v := .ref (q 41)) (C := zR_X) (T := zT_X) (N := 34) hx hb hts zi_X hown hK.1 hP 5 ga_5 rfl 13 (by decide) (hts _ zw_546) (fun _ h9 => h9) rfl zd_X_build_21 ?_
        refine lv_iload_n hx hb zd_X_build_24 rfl (lv_at hl 2 rfl) ?_
        refine x_iald (v := A 41 i) hx hb hK.1 hP 41 0 ga_41 rfl (by decide) (by omega) (by omega) (by rw [e41]) zd_X_build_25 ?_
        refine lv_iload_n hx hb zd_X_build_26 rfl (lv_at hl 1 rfl) ?_
        refine x_icmp_eq (tgt := 33) hx hb zd_X_build_27 (by decide) (⟨by omega, by omega⟩) (⟨by omega, by omega⟩) (fun h_27 => ?_) (fun h_27 => ?_)
        · have g_ := hin_ i (by omega) (by omega) h_27
          refine lv_aload_n hx hb zd_X_build_33 rfl (lv_at hl 0 rfl) ?_
          refine va_get (D := D) (ci := 5) (v := .ref (q 50)) (C := zR_X) (T := zT_X) (N := 34) hx hb hts zi_X hown hK.1 hP 5 ga_5 rfl 24 (by decide) (hts _ zw_557) (fun _ h9 => h9) rfl zd_X_build_34 ?_
          refine lv_iload_n hx hb zd_X_build_37 rfl (lv_at hl 2 rfl) ?_
          refine lv_aload_n hx hb zd_X_build_38 rfl (lv_at hl 0 rfl) ?_
          refine va_get (D := D) (ci := 5) (v := .int (iI (F12 523))) (C := zR_X) (T := zT_X) (N := 34) hx hb hts zi_X hown hK.1 hP 5 ga_5 rfl 23 (by decide) (hts _ zw_556) (fun _ h9 => h9) rfl zd_X_build_39 ?_
          refine x_iast hx hb hK.1 hP hD hS 50 0 ga_50 rfl (by decide) (by omega) (by omega) zd_X_build_42 (fun H locs hP hD hS => ?_)
          rw [gs_50] at hP hD
          refine lv_aload_n hx hb zd_X_build_43 rfl (lv_at hl 0 rfl) ?_
          refine lv_dup hx hb zd_X_build_44 rfl ?_
          refine va_get (D := D) (ci := 5) (v := .int (iI (F12 523))) (C := zR_X) (T := zT_X) (N := 34) hx hb hts zi_X hown hK.1 hP 5 ga_5 rfl 23 (by decide) (hts _ zw_556) (fun _ h9 => h9) rfl zd_X_build_45 ?_
          refine lv_aload_n hx hb zd_X_build_48 rfl (lv_at hl 0 rfl) ?_
          refine va_get (D := D) (ci := 5) (v := .ref (q 44)) (C := zR_X) (T := zT_X) (N := 34) hx hb hts zi_X hown hK.1 hP 5 ga_5 rfl 16 (by decide) (hts _ zw_549) (fun _ h9 => h9) rfl zd_X_build_49 ?_
          refine lv_iload_n hx hb zd_X_build_52 rfl (lv_at hl 2 rfl) ?_
          refine x_iald (v := A 44 i) hx hb hK.1 hP 44 0 ga_44 rfl (by decide) (by omega) (by omega) (by show A12 44 i = _; rw [e44]) zd_X_build_53 ?_
          refine x_iadd hx hb zd_X_build_54 ?_
          refine va_put (D := D) (ci := 5) (v := .int (iI ((F12 523) + (A 44 i)))) (ty := .int) (C := zR_X) (T := zT_X) (N := 34) hx hb hts zi_X zk_X zo_X zn_X hown hK.1 hP hD hS 5 ga_5 rfl 23 (by decide) (hts _ zw_556) (fun _ h9 => h9) rfl (by decide +kernel) (rfl) (rfl) (Nat.le_of_ble_eq_true rfl) zd_X_build_55 (fun H locs hP hD hS => ?_)
          rw [gs_5_23] at hP hD
          refine lv_iconst (v := iI (0)) hx hb zd_X_build_58 rfl ?_
          refine lv_istore_n (lv' := [(3, .int (iI (0))), (0, .ref (q 5)), (1, .int (iI (root))), (2, .int (iI (i)))]) hx hb zd_X_build_59 rfl hl (by decide) rfl (fun ls hl => ?_)
          have L_60 : ∀ (fu : Nat) (j : Int)  (F60 : Nat → Int) (A60 : Nat → Int → Int), (0 ≤ j ∧ j ≤ A 44 i) → (∀ j, j ≠ 523 → j ≠ 525 → F60 j = F j) → (∀ k, k ≠ 50 → k ≠ 51 → k ≠ 52 → k ≠ 53 → k ≠ 54 → A60 k = A k) → (F60 523 = sI (gS (mA A) root) i + A 44 i) → (F60 525 = sI (gS (mA A) root) i + j) → (∀ b, 0 ≤ b → b < i + 1 → A 41 b = root → A60 50 b = sI (gS (mA A) root) b) → (∀ u v s w, E4 (F60 525) (A60 51) (A60 52) (A60 53) (A60 54) u v s w ↔ fT (mA A) root i u v s w ∨ (s = A 35 i ∧ fX (mA A) root i j u v w)) → (A 44 i - j < (fu : Int)) → ∀ (H : Heap) (locs : List Loc), va_P D zcl (gw q c F60 A60) H → va_D A0 (gw q c F60 A60) → va_S A0 s.heap H locs → ∀ ls : Array Slot, lv_has ls 7 [(0, .ref (q 5)), (1, .int (iI (root))), (2, .int (iI (i))), (3, .int (iI (j)))] → W p l e zr_X_build s m args below meth c0 H locs 0 0 Q (F0 m 60 ls []) := by
            intro fu
            induction fu with
            | zero => intro j  F60 A60 hj hF hk h523 h525 h18 hed hm_60; exact absurd hm_60 (by omega)
            | succ fu ih_60 =>
              intro j  F60 A60 hj hF hk h523 h525 h18 hed hm_60 H locs hP hD hS ls hl
              have e35 := hk 35 (by decide) (by decide) (by decide) (by decide) (by decide)
              have e36 := hk 36 (by decide) (by decide) (by decide) (by decide) (by decide)
              have e37 := hk 37 (by decide) (by decide) (by decide) (by decide) (by decide)
              have e38 := hk 38 (by decide) (by decide) (by decide) (by decide) (by decide)
              have e39 := hk 39 (by decide) (by decide) (by decide) (by decide) (by decide)
              have e40 := hk 40 (by decide) (by decide) (by decide) (by decide) (by decide)
              have e41 := hk 41 (by decide) (by decide) (by decide) (by decide) (by decide)
              have e44 := hk 44 (by decide) (by decide) (by decide) (by decide) (by decide)
              have f501 := hF 501 (by decide) (by decide)
              have f502 := hF 502 (by decide) (by decide)
              have i18 := h18 i (by omega) (by omega) h_27
              refine lv_iload_n hx hb zd_X_build_60 rfl (lv_at hl 3 rfl) ?_
              refine lv_aload_n hx hb zd_X_build_61 rfl (lv_at hl 0 rfl) ?_
              refine va_get (D := D) (ci := 5) (v := .ref (q 44)) (C := zR_X) (T := zT_X) (N := 34) hx hb hts zi_X hown hK.1 hP 5 ga_5 rfl 16 (by decide) (hts _ zw_549) (fun _ h9 => h9) rfl zd_X_build_62 ?_
              refine lv_iload_n hx hb zd_X_build_65 rfl (lv_at hl 2 rfl) ?_
              refine x_iald (v := A 44 i) hx hb hK.1 hP 44 0 ga_44 rfl (by decide) (by omega) (by omega) (by rw [e44]) zd_X_build_66 ?_
              refine x_icmp_ge (tgt := 128) hx hb zd_X_build_67 (by decide) (⟨by omega, by omega⟩) (⟨by omega, by omega⟩) (fun h_67 => ?_) (fun h_67 => ?_)
              · have e_ : j = A 44 i := by omega
                have hs_ : sI (gS (mA A) root) (i + 1) = sI (gS (mA A) root) i + A 44 i := by rw [sI_s hi.1]; unfold gS; rw [if_pos (show mA A 8 i = root from h_27)]; rfl
                refine lv_iinc (v := iI (i + 1)) (lv' := [(2, .int (iI (i + 1))), (0, .ref (q 5)), (1, .int (iI (root))), (3, .int (iI (j)))]) hx hb zd_X_build_128 hl (k := 2) rfl (iI_add _ _) (by decide) rfl (fun ls hl => ?_)
                refine lv_goto (tgt := 12) hx hb zd_X_build_131 (by decide) ?_
                exact ih_12 (i + 1)  F60 A60 (by first | assumption | omega | (simp_all; done)) (hF) (hk) (by omega) (by omega) (fun b h0 h1 h2 => by first | exact h18 b h0 h1 h2 | (have e_ : b ≠ i := (fun e => h_27 (e ▸ h2)); exact h18 b h0 (by omega) h2)) (fun u v s w => by first | exact fT_n (hed u v s w) h_27 | (have h9 := hed u v s w; rw [e_] at h9; exact fT_y h9 hi.1 h_27)) (by omega) _ _ hP hD hS ls (lv_sub hl [1, 2, 0] rfl)
              · refine lv_aload_n hx hb zd_X_build_70 rfl (lv_at hl 0 rfl) ?_
                refine lv_aload_n hx hb zd_X_build_71 rfl (lv_at hl 0 rfl) ?_
                refine va_get (D := D) (ci := 5) (v := .ref (q 50)) (C := zR_X) (T := zT_X) (N := 34) hx hb hts zi_X hown hK.1 hP 5 ga_5 rfl 24 (by decide) (hts _ zw_557) (fun _ h9 => h9) rfl zd_X_build_72 ?_
                refine lv_iload_n hx hb zd_X_build_75 rfl (lv_at hl 2 rfl) ?_
                refine x_iald (v := sI (gS (mA A) root) i) hx hb hK.1 hP 50 0 ga_50 rfl (by decide) (by omega) (by omega) (i18) zd_X_build_76 ?_
                refine lv_iload_n hx hb zd_X_build_77 rfl (lv_at hl 3 rfl) ?_
                refine x_if_ne (tgt := 92) hx hb zd_X_build_78 (by decide) (⟨by omega, by omega⟩) (fun h_78 => ?_) (fun h_78 => ?_)
                · refine lv_iload_n hx hb zd_X_build_92 rfl (lv_at hl 3 rfl) ?_
                  refine lv_iconst (v := iI (1)) hx hb zd_X_build_93 rfl ?_
                  refine x_isub hx hb zd_X_build_94 ?_
                  refine x_iadd hx hb zd_X_build_95 ?_
                  refine lv_aload_n hx hb zd_X_build_96 rfl (lv_at hl 0 rfl) ?_
                  refine va_get (D := D) (ci := 5) (v := .ref (q 50)) (C := zR_X) (T := zT_X) (N := 34) hx hb hts zi_X hown hK.1 hP 5 ga_5 rfl 24 (by decide) (hts _ zw_557) (fun _ h9 => h9) rfl zd_X_build_97 ?_
                  refine lv_iload_n hx hb zd_X_build_100 rfl (lv_at hl 2 rfl) ?_
                  refine x_iald (v := sI (gS (mA A) root) i) hx hb hK.1 hP 50 0 ga_50 rfl (by decide) (by omega) (by omega) (i18) zd_X_build_101 ?_
                  refine lv_iload_n hx hb zd_X_build_102 rfl (lv_at hl 3 rfl) ?_
                  refine x_iadd hx hb zd_X_build_103 ?_
                  refine lv_aload_n hx hb zd_X_build_104 rfl (lv_at hl 0 rfl) ?_
                  refine va_get (D := D) (ci := 5) (v := .ref (q 35)) (C := zR_X) (T := zT_X) (N := 34) hx hb hts zi_X hown hK.1 hP 5 ga_5 rfl 3 (by decide) (hts _ zw_536) (fun _ h9 => h9) rfl zd_X_build_105 ?_
                  refine lv_iload_n hx hb zd_X_build_108 rfl (lv_at hl 2 rfl) ?_
                  refine x_iald (v := A 35 i) hx hb hK.1 hP 35 0 ga_35 rfl (by decide) (by omega) (by omega) (by rw [e35]) zd_X_build_109 ?_
                  refine lv_iload_n hx hb zd_X_build_110 rfl (lv_at hl 3 rfl) ?_
                  refine x_if_ne (tgt := 118) hx hb zd_X_build_111 (by decide) (⟨by omega, by omega⟩) (fun h_111 => ?_) (fun h_111 => ?_)
                  · refine lv_iconst (v := iI (0)) hx hb zd_X_build_118 rfl ?_
                    refine z_gov (z_runV (n := 4) (k := 5) (ci := 5) (As := [.int (iI ((sI (gS (mA A) root) i) + (j - 1))), .int (iI ((sI (gS (mA A) root) i) + j)), .int (iI (A 35 i)), .int (iI (0))]) (rest := []) S (c_X_edge l D q c _ F60 A60 ((sI (gS (mA A) root) i) + (j - 1)) ((sI (gS (mA A) root) i) + j) (A 35 i) 0 (by first | assumption | omega | exact ⟨by omega, by omega⟩)) zw_737 zw_739 zs_50 zw_6 zw_740 ⟨by decide +kernel, by decide, rfl, rfl⟩ hK hP hD ga_5 rfl rfl rfl hl.1 rfl (Nat.le_of_ble_eq_true rfl) zd_X_build_119 ⟨Nat.zero_le _, Nat.zero_le _⟩) hD hS hA (fun F_119 A_119 H locs hq_119 hP hD hS => ?_)
                    obtain ⟨hf_119, ha_119⟩ := hq_119
                    rw [hf_119, ha_119] at hP hD
                    refine lv_iinc (v := iI (j + 1)) (lv' := [(3, .int (iI (j + 1))), (0, .ref (q 5)), (1, .int (iI (root))), (2, .int (iI (i)))]) hx hb zd_X_build_122 hl (k := 3) rfl (iI_add _ _) (by decide) rfl (fun ls hl => ?_)
                    refine lv_goto (tgt := 60) hx hb zd_X_build_125 (by decide) ?_
                    exact ih_60 (j + 1)  (fuP F60 525 ((F60 525) + 1)) (auP (auP (auP (auP A60 51 (F60 525) ((sI (gS (mA A) root) i) + (j - 1))) 52 (F60 525) ((sI (gS (mA A) root) i) + j)) 53 (F60 525) (A 35 i)) 54 (F60 525) 0) (by first | assumption | omega | (simp_all; done)) (fun j h1 h2 => by simp only [fuP, h2, if_false]; exact hF j h1 h2) (fun k h1 h2 h3 h4 h5 => by simp only [auP, h2, h3, h4, h5, if_false]; exact hk k h1 h2 h3 h4 h5) (h523) (by show F60 525 + 1 = _; omega) (h18) (fun u v s w => by first | (exfalso; omega) | (have h9 := fX_s (hed u v s w) hj.1; rw [← h9]; have h8 := E4_add (E := F60 525) (x := A60 51) (y := A60 52) (t := A60 53) (z := A60 54) (a := sI (gS (mA A) root) i + (if j = 0 then A 44 i - 1 else j - 1)) (b := sI (gS (mA A) root) i + j) (c := A 35 i) (d := if j = 0 then 1 else 0) (by omega) u v s w; first | (rw [if_pos h_78, if_pos h_78] at h8 ⊢; exact h8) | (rw [if_neg h_78, if_neg h_78] at h8 ⊢; exact h8))) (by omega) _ _ hP hD hS ls (lv_sub hl [1, 2, 3, 0] rfl)
                  · refine lv_iconst (v := iI (1)) hx hb zd_X_build_114 rfl ?_
                    refine lv_goto (tgt := 119) hx hb zd_X_build_115 (by decide) ?_
                    refine z_gov (z_runV (n := 4) (k := 5) (ci := 5) (As := [.int (iI ((sI (gS (mA A) root) i) + (j - 1))), .int (iI ((sI (gS (mA A) root) i) + j)), .int (iI (A 35 i)), .int (iI (1))]) (rest := []) S (c_X_edge l D q c _ F60 A60 ((sI (gS (mA A) root) i) + (j - 1)) ((sI (gS (mA A) root) i) + j) (A 35 i) 1 (by first | assumption | omega | exact ⟨by omega, by omega⟩)) zw_737 zw_739 zs_50 zw_6 zw_740 ⟨by decide +kernel, by decide, rfl, rfl⟩ hK hP hD ga_5 rfl rfl rfl hl.1 rfl (Nat.le_of_ble_eq_true rfl) zd_X_build_119 ⟨Nat.zero_le _, Nat.zero_le _⟩) hD hS hA (fun F_119 A_119 H locs hq_119 hP hD hS => ?_)
                    obtain ⟨hf_119, ha_119⟩ := hq_119
                    rw [hf_119, ha_119] at hP hD
                    refine lv_iinc (v := iI (j + 1)) (lv' := [(3, .int (iI (j + 1))), (0, .ref (q 5)), (1, .int (iI (root))), (2, .int (iI (i)))]) hx hb zd_X_build_122 hl (k := 3) rfl (iI_add _ _) (by decide) rfl (fun ls hl => ?_)
                    refine lv_goto (tgt := 60) hx hb zd_X_build_125 (by decide) ?_
                    exact ih_60 (j + 1)  (fuP F60 525 ((F60 525) + 1)) (auP (auP (auP (auP A60 51 (F60 525) ((sI (gS (mA A) root) i) + (j - 1))) 52 (F60 525) ((sI (gS (mA A) root) i) + j)) 53 (F60 525) (A 35 i)) 54 (F60 525) 1) (by first | assumption | omega | (simp_all; done)) (fun j h1 h2 => by simp only [fuP, h2, if_false]; exact hF j h1 h2) (fun k h1 h2 h3 h4 h5 => by simp only [auP, h2, h3, h4, h5, if_false]; exact hk k h1 h2 h3 h4 h5) (h523) (by show F60 525 + 1 = _; omega) (h18) (fun u v s w => by first | (exfalso; omega) | (have h9 := fX_s (hed u v s w) hj.1; rw [← h9]; have h8 := E4_add (E := F60 525) (x := A60 51) (y := A60 52) (t := A60 53) (z := A60 54) (a := sI (gS (mA A) root) i + (if j = 0 then A 44 i - 1 else j - 1)) (b := sI (gS (mA A) root) i + j) (c := A 35 i) (d := if j = 0 then 1 else 0) (by omega) u v s w; first | (rw [if_pos h_78, if_pos h_78] at h8 ⊢; exact h8) | (rw [if_neg h_78, if_neg h_78] at h8 ⊢; exact h8))) (by omega) _ _ hP hD hS ls (lv_sub hl [1, 2, 3, 0] rfl)
                · refine lv_aload_n hx hb zd_X_build_81 rfl (lv_at hl 0 rfl) ?_
                  refine va_get (D := D) (ci := 5) (v := .ref (q 44)) (C := zR_X) (T := zT_X) (N := 34) hx hb hts zi_X hown hK.1 hP 5 ga_5 rfl 16 (by decide) (hts _ zw_549) (fun _ h9 => h9) rfl zd_X_build_82 ?_
                  refine lv_iload_n hx hb zd_X_build_85 rfl (lv_at hl 2 rfl) ?_
                  refine x_iald (v := A 44 i) hx hb hK.1 hP 44 0 ga_44 rfl (by decide) (by omega) (by omega) (by rw [e44]) zd_X_build_86 ?_
                  refine lv_iconst (v := iI (1)) hx hb zd_X_build_87 rfl ?_
                  refine x_isub hx hb zd_X_build_88 ?_
                  refine lv_goto (tgt := 95) hx hb zd_X_build_89 (by decide) ?_
                  refine x_iadd hx hb zd_X_build_95 ?_
                  refine lv_aload_n hx hb zd_X_build_96 rfl (lv_at hl 0 rfl) ?_
                  refine va_get (D := D) (ci := 5) (v := .ref (q 50)) (C := zR_X) (T := zT_X) (N := 34) hx hb hts zi_X hown hK.1 hP 5 ga_5 rfl 24 (by decide) (hts _ zw_557) (fun _ h9 => h9) rfl zd_X_build_97 ?_
                  refine lv_iload_n hx hb zd_X_build_100 rfl (lv_at hl 2 rfl) ?_
                  refine x_iald (v := sI (gS (mA A) root) i) hx hb hK.1 hP 50 0 ga_50 rfl (by decide) (by omega) (by omega) (i18) zd_X_build_101 ?_
                  refine lv_iload_n hx hb zd_X_build_102 rfl (lv_at hl 3 rfl) ?_
                  refine x_iadd hx hb zd_X_build_103 ?_
                  refine lv_aload_n hx hb zd_X_build_104 rfl (lv_at hl 0 rfl) ?_
                  refine va_get (D := D) (ci := 5) (v := .ref (q 35)) (C := zR_X) (T := zT_X) (N := 34) hx hb hts zi_X hown hK.1 hP 5 ga_5 rfl 3 (by decide) (hts _ zw_536) (fun _ h9 => h9) rfl zd_X_build_105 ?_
                  refine lv_iload_n hx hb zd_X_build_108 rfl (lv_at hl 2 rfl) ?_
                  refine x_iald (v := A 35 i) hx hb hK.1 hP 35 0 ga_35 rfl (by decide) (by omega) (by omega) (by rw [e35]) zd_X_build_109 ?_
                  refine lv_iload_n hx hb zd_X_build_110 rfl (lv_at hl 3 rfl) ?_
                  refine x_if_ne (tgt := 118) hx hb zd_X_build_111 (by decide) (⟨by omega, by omega⟩) (fun h_111 => ?_) (fun h_111 => ?_)
                  · refine lv_iconst (v := iI (0)) hx hb zd_X_build_118 rfl ?_
                    refine z_gov (z_runV (n := 4) (k := 5) (ci := 5) (As := [.int (iI ((sI (gS (mA A) root) i) + ((A 44 i) - 1))), .int (iI ((sI (gS (mA A) root) i) + j)), .int (iI (A 35 i)), .int (iI (0))]) (rest := []) S (c_X_edge l D q c _ F60 A60 ((sI (gS (mA A) root) i) + ((A 44 i) - 1)) ((sI (gS (mA A) root) i) + j) (A 35 i) 0 (by first | assumption | omega | exact ⟨by omega, by omega⟩)) zw_737 zw_739 zs_50 zw_6 zw_740 ⟨by decide +kernel, by decide, rfl, rfl⟩ hK hP hD ga_5 rfl rfl rfl hl.1 rfl (Nat.le_of_ble_eq_true rfl) zd_X_build_119 ⟨Nat.zero_le _, Nat.zero_le _⟩) hD hS hA (fun F_119 A_119 H locs hq_119 hP hD hS => ?_)
                    obtain ⟨hf_119, ha_119⟩ := hq_119
                    rw [hf_119, ha_119] at hP hD
                    refine lv_iinc (v := iI (j + 1)) (lv' := [(3, .int (iI (j + 1))), (0, .ref (q 5)), (1, .int (iI (root))), (2, .int (iI (i)))]) hx hb zd_X_build_122 hl (k := 3) rfl (iI_add _ _) (by decide) rfl (fun ls hl => ?_)
                    refine lv_goto (tgt := 60) hx hb zd_X_build_125 (by decide) ?_
                    exact ih_60 (j + 1)  (fuP F60 525 ((F60 525) + 1)) (auP (auP (auP (auP A60 51 (F60 525) ((sI (gS (mA A) root) i) + ((A 44 i) - 1))) 52 (F60 525) ((sI (gS (mA A) root) i) + j)) 53 (F60 525) (A 35 i)) 54 (F60 525) 0) (by first | assumption | omega | (simp_all; done)) (fun j h1 h2 => by simp only [fuP, h2, if_false]; exact hF j h1 h2) (fun k h1 h2 h3 h4 h5 => by simp only [auP, h2, h3, h4, h5, if_false]; exact hk k h1 h2 h3 h4 h5) (h523) (by show F60 525 + 1 = _; omega) (h18) (fun u v s w => by first | (exfalso; omega) | (have h9 := fX_s (hed u v s w) hj.1; rw [← h9]; have h8 := E4_add (E := F60 525) (x := A60 51) (y := A60 52) (t := A60 53) (z := A60 54) (a := sI (gS (mA A) root) i + (if j = 0 then A 44 i - 1 else j - 1)) (b := sI (gS (mA A) root) i + j) (c := A 35 i) (d := if j = 0 then 1 else 0) (by omega) u v s w; first | (rw [if_pos h_78, if_pos h_78] at h8 ⊢; exact h8) | (rw [if_neg h_78, if_neg h_78] at h8 ⊢; exact h8))) (by omega) _ _ hP hD hS ls (lv_sub hl [1, 2, 3, 0] rfl)
                  · refine lv_iconst (v := iI (1)) hx hb zd_X_build_114 rfl ?_
                    refine lv_goto (tgt := 119) hx hb zd_X_build_115 (by decide) ?_
                    refine z_gov (z_runV (n := 4) (k := 5) (ci := 5) (As := [.int (iI ((sI (gS (mA A) root) i) + ((A 44 i) - 1))), .int (iI ((sI (gS (mA A) root) i) + j)), .int (iI (A 35 i)), .int (iI (1))]) (rest := []) S (c_X_edge l D q c _ F60 A60 ((sI (gS (mA A) root) i) + ((A 44 i) - 1)) ((sI (gS (mA A) root) i) + j) (A 35 i) 1 (by first | assumption | omega | exact ⟨by omega, by omega⟩)) zw_737 zw_739 zs_50 zw_6 zw_740 ⟨by decide +kernel, by decide, rfl, rfl⟩ hK hP hD ga_5 rfl rfl rfl hl.1 rfl (Nat.le_of_ble_eq_true rfl) zd_X_build_119 ⟨Nat.zero_le _, Nat.zero_le _⟩) hD hS hA (fun F_119 A_119 H locs hq_119 hP hD hS => ?_)
                    obtain ⟨hf_119, ha_119⟩ := hq_119
                    rw [hf_119, ha_119] at hP hD
                    refine lv_iinc (v := iI (j + 1)) (lv' := [(3, .int (iI (j + 1))), (0, .ref (q 5)), (1, .int (iI (root))), (2, .int (iI (i)))]) hx hb zd_X_build_122 hl (k := 3) rfl (iI_add _ _) (by decide) rfl (fun ls hl => ?_)
                    refine lv_goto (tgt := 60) hx hb zd_X_build_125 (by decide) ?_
                    exact ih_60 (j + 1)  (fuP F60 525 ((F60 525) + 1)) (auP (auP (auP (auP A60 51 (F60 525) ((sI (gS (mA A) root) i) + ((A 44 i) - 1))) 52 (F60 525) ((sI (gS (mA A) root) i) + j)) 53 (F60 525) (A 35 i)) 54 (F60 525) 1) (by first | assumption | omega | (simp_all; done)) (fun j h1 h2 => by simp only [fuP, h2, if_false]; exact hF j h1 h2) (fun k h1 h2 h3 h4 h5 => by simp only [auP, h2, h3, h4, h5, if_false]; exact hk k h1 h2 h3 h4 h5) (h523) (by show F60 525 + 1 = _; omega) (h18) (fun u v s w => by first | (exfalso; omega) | (have h9 := fX_s (hed u v s w) hj.1; rw [← h9]; have h8 := E4_add (E := F60 525) (x := A60 51) (y := A60 52) (t := A60 53) (z := A60 54) (a := sI (gS (mA A) root) i + (if j = 0 then A 44 i - 1 else j - 1)) (b := sI (gS (mA A) root) i + j) (c := A 35 i) (d := if j = 0 then 1 else 0) (by omega) u v s w; first | (rw [if_pos h_78, if_pos h_78] at h8 ⊢; exact h8) | (rw [if_neg h_78, if_neg h_78] at h8 ⊢; exact h8))) (by omega) _ _ hP hD hS ls (lv_sub hl [1, 2, 3, 0] rfl)
          exact L_60 (((A 44 i - (0) : Int) + 1).toNat) (0)  (fuP F12 523 ((F12 523) + (A 44 i))) (auP A12 50 i (F12 523)) (by first | assumption | omega | (simp_all; done)) (fun j h1 h2 => by simp only [fuP, h1, if_false]; exact hF j h1 h2) (fun k h1 h2 h3 h4 h5 => by simp only [auP, h1, if_false]; exact hk k h1 h2 h3 h4 h5) (by show F12 523 + A 44 i = _; rw [h523]) (by show F12 525 = _; rw [h525]; omega) (fun b h0 h1 h2 => by show upI (A12 50) i (F12 523) b = _; by_cases e_ : b = i; (rw [e_, upI_s, h523]); (rw [upI_n e_]; exact h18 b h0 (by omega) h2)) (fun u v s w => ⟨fun h => Or.inl ((hed u v s w).mp h), fun h => h.elim (hed u v s w).mpr (fun h => by obtain ⟨_, x, h0, h1, _⟩ := h; omega)⟩) (by omega) _ _ hP hD hS ls (lv_sub hl [1, 2, 3, 0] rfl)
        · have hs_ : sI (gS (mA A) root) (i + 1) = sI (gS (mA A) root) i := by rw [sI_s hi.1]; unfold gS; rw [if_neg (show ¬ mA A 8 i = root from h_27)]; omega
          refine lv_goto (tgt := 128) hx hb zd_X_build_30 (by decide) ?_
          refine lv_iinc (v := iI (i + 1)) (lv' := [(2, .int (iI (i + 1))), (0, .ref (q 5)), (1, .int (iI (root)))]) hx hb zd_X_build_128 hl (k := 2) rfl (iI_add _ _) (by decide) rfl (fun ls hl => ?_)
          refine lv_goto (tgt := 12) hx hb zd_X_build_131 (by decide) ?_
          exact ih_12 (i + 1)  F12 A12 (by first | assumption | omega | (simp_all; done)) (hF) (hk) (by omega) (by omega) (fun b h0 h1 h2 => by first | exact h18 b h0 h1 h2 | (have e_ : b ≠ i := (fun e => h_27 (e ▸ h2)); exact h18 b h0 (by omega) h2)) (fun u v s w => by first | exact fT_n (hed u v s w) h_27 | (have h9 := hed u v s w; rw [e_] at h9; exact fT_y h9 hi.1 h_27)) (by omega) _ _ hP hD hS ls (lv_sub hl [1, 2, 0] rfl)
  exact L_12 (((F 501 - (0) : Int) + 1).toNat) (0)  (fuP (fuP F 523 0) 525 0) A (by first | assumption | omega | (simp_all; done)) (fun j h1 h2 => by simp [fuP, h1, h2]) (fun k _ _ _ _ _ => rfl) (rfl) (rfl) (fun b h0 h1 => by omega) (fun u v s w => ⟨fun ⟨e, h0, h1, _⟩ => by simp [fuP] at h1; omega, fun ⟨b, h0, h1, _⟩ => by omega⟩) (by omega) _ _ hP hD hS ls (lv_sub hl [1, 2, 0] rfl)
