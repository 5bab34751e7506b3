abbrev zr_X_round : Room := ({ frames := 1, cells := 0, slots := 0, locals := 22 } : Room)
set_option maxHeartbeats 4000000 in
set_option maxRecDepth 100000 in
theorem c_X_round (l : Launch) (D : va_G) (q : Nat → Nat) (c : Nat → ClassId) (sz : Nat) (F : Nat → Int) (A : Nat → Int → Int)  (hmn : 1 ≤ F 501 ∧ F 501 ≤ 8) (hmm : 0 ≤ F 502 ∧ F 502 ≤ 14) (hmch : ∀ k, 0 ≤ k → k < F 502 → (0 ≤ A 36 k ∧ A 36 k < F 501) ∧ (0 ≤ A 37 k ∧ A 37 k < F 501) ∧ (1 ≤ A 38 k ∧ A 38 k ≤ 9) ∧ (1 ≤ A 39 k ∧ A 39 k ≤ 9) ∧ 0 ≤ A 40 k ∧ A 40 k ≤ 99) (hmc : ∀ a, 0 ≤ a → a < F 501 → 1 ≤ A 44 a ∧ A 44 a ≤ 400) (hmsum : sI (A 44) (F 501) ≤ 400) : zMV l zy_X_round zc_X_round 3 none zr_X_round D q c sz [.ref (q 5)] F A (fun F1 A1 => (∀ j, j ≠ 520 → F1 j = F j) ∧ (∀ k, k ≠ 45 → k ≠ 46 → k ≠ 47 → k ≠ 48 → A1 k = A k) ∧ RmOK F1 A1) := by
  refine z_ofV (by decide) (Nat.le_of_ble_eq_true rfl) ?_
  intro p e s m args below meth c0 A0 Q C0 ret hP hD hS ls hl
  obtain ⟨S, hK, hA⟩ := C0
  have hx := S.1
  have hb := S.2.1
  have hown := S.2.2.2.1
  have hts : ∀ w ∈ zG, w.before args s = true := fun w h => S.2.2.2.2 w (List.mem_cons_of_mem _ h)
  have hl : lv_has ls 3 [(0, .ref (q 5))] := hl
  refine lv_aload_n hx hb zd_X_round_0 rfl (lv_at hl 0 rfl) ?_
  refine lv_iconst (v := iI (0)) hx hb zd_X_round_1 rfl ?_
  refine va_put (D := D) (ci := 5) (v := .int (iI (0))) (ty := .int) (C := zR_X) (T := zT_X) (N := 34) hx hb hts zi_X zk_X zo_X zn_X hown hK.1 hP hD hS 5 ga_5 rfl 20 (by decide) (hts _ zw_553) (fun _ h9 => h9) rfl (by decide +kernel) (rfl) (rfl) (Nat.le_of_ble_eq_true rfl) zd_X_round_2 (fun H locs hP hD hS => ?_)
  rw [gs_5_20] at hP hD
  refine lv_iconst (v := iI (0)) hx hb zd_X_round_5 rfl ?_
  refine lv_istore_n (lv' := [(1, .int (iI (0))), (0, .ref (q 5))]) hx hb zd_X_round_6 rfl hl (by decide) rfl (fun ls hl => ?_)
  have L_7 : ∀ (fu : Nat) (i : Int)  (A7 : Nat → Int → Int), (0 ≤ i ∧ i ≤ F 502) → (∀ k, k ≠ 46 → k ≠ 47 → A7 k = A k) → (∀ k, 0 ≤ k → k < i → A7 46 k = A 40 k ∧ A7 47 k = A 40 k) → (F 502 - i < (fu : Int)) → ∀ (H : Heap) (locs : List Loc), va_P D zcl (gw q c (fuP F 520 0) A7) H → va_D A0 (gw q c (fuP F 520 0) A7) → va_S A0 s.heap H locs → ∀ ls : Array Slot, lv_has ls 3 [(0, .ref (q 5)), (1, .int (iI (i)))] → W p l e zr_X_round s m args below meth c0 H locs 0 0 Q (F0 m 7 ls []) := by
    intro fu
    induction fu with
    | zero => intro i  A7 hi hk7 hs7 hm_7; exact absurd hm_7 (by omega)
    | succ fu ih_7 =>
      intro i  A7 hi hk7 hs7 hm_7 H locs hP hD hS ls hl
      refine lv_iload_n hx hb zd_X_round_7 rfl (lv_at hl 1 rfl) ?_
      refine lv_aload_n hx hb zd_X_round_8 rfl (lv_at hl 0 rfl) ?_
      refine va_get (D := D) (ci := 5) (v := .int (iI (F 502))) (C := zR_X) (T := zT_X) (N := 34) hx hb hts zi_X hown hK.1 hP 5 ga_5 rfl 2 (by decide) (hts _ zw_535) (fun _ h9 => h9) rfl zd_X_round_9 ?_
      refine x_icmp_ge (tgt := 45) hx hb zd_X_round_12 (by decide) (⟨by omega, by omega⟩) (⟨by omega, by omega⟩) (fun h_12 => ?_) (fun h_12 => ?_)
      · refine lv_iconst (v := iI (0)) hx hb zd_X_round_45 rfl ?_
        refine lv_istore_n (lv' := [(1, .int (iI (0))), (0, .ref (q 5))]) hx hb zd_X_round_46 rfl hl (by decide) rfl (fun ls hl => ?_)
        have L_47 : ∀ (fu : Nat) (i4 : Int)  (A47 : Nat → Int → Int), (0 ≤ i4 ∧ i4 ≤ F 501) → (∀ k, k ≠ 45 → k ≠ 46 → k ≠ 47 → A47 k = A k) → (∀ k, 0 ≤ k → k < F 502 → A47 46 k = A 40 k ∧ A47 47 k = A 40 k) → (∀ a, 0 ≤ a → a < i4 → A47 45 a = A 44 a) → (F 501 - i4 < (fu : Int)) → ∀ (H : Heap) (locs : List Loc), va_P D zcl (gw q c (fuP F 520 0) A47) H → va_D A0 (gw q c (fuP F 520 0) A47) → va_S A0 s.heap H locs → ∀ ls : Array Slot, lv_has ls 3 [(0, .ref (q 5)), (1, .int (iI (i4)))] → W p l e zr_X_round s m args below meth c0 H locs 0 0 Q (F0 m 47 ls []) := by
          intro fu
          induction fu with
          | zero => intro i4  A47 hi4 hk4 hs4 hl4 hm_47; exact absurd hm_47 (by omega)
          | succ fu ih_47 =>
            intro i4  A47 hi4 hk4 hs4 hl4 hm_47 H locs hP hD hS ls hl
            refine lv_iload_n hx hb zd_X_round_47 rfl (lv_at hl 1 rfl) ?_
            refine lv_aload_n hx hb zd_X_round_48 rfl (lv_at hl 0 rfl) ?_
            refine va_get (D := D) (ci := 5) (v := .int (iI (F 501))) (C := zR_X) (T := zT_X) (N := 34) hx hb hts zi_X hown hK.1 hP 5 ga_5 rfl 1 (by decide) (hts _ zw_534) (fun _ h9 => h9) rfl zd_X_round_49 ?_
            refine x_icmp_ge (tgt := 73) hx hb zd_X_round_52 (by decide) (⟨by omega, by omega⟩) (⟨by omega, by omega⟩) (fun h_52 => ?_) (fun h_52 => ?_)
            · refine lv_iconst (v := iI (0)) hx hb zd_X_round_73 rfl ?_
              refine lv_istore_n (lv' := [(1, .int (iI (0))), (0, .ref (q 5))]) hx hb zd_X_round_74 rfl hl (by decide) rfl (fun ls hl => ?_)
              have L_75 : ∀ (fu : Nat) (a1 : Int)  (F75 : Nat → Int) (A75 : Nat → Int → Int), (0 ≤ a1 ∧ a1 ≤ F 501) → (∀ j, j ≠ 520 → F75 j = F j) → (0 ≤ F75 520 ∧ F75 520 ≤ 400) → (∀ k, k ≠ 45 → k ≠ 46 → k ≠ 47 → k ≠ 48 → A75 k = A k) → (rok (F 501) (F 502) (A 36) (A 37) (A 38) (A 39) (A 44, A 40, A 40) (A75 48) (F75 520).toNat) → (rat (F 501) (F 502) (rrun (A 36) (A 37) (A 38) (A 39) (A 44, A 40, A 40) (A75 48) (F75 520).toNat) (A75 45) (A75 46) (A75 47)) → (∀ b, 0 ≤ b → b < a1 → ¬ (0 < A75 45 b ∧ ∀ k, 0 ≤ k → k < F 502 → A 37 k = b → A 39 k ≤ A75 46 k)) → ((400 - F75 520) * 9 + (F 501 - a1) < (fu : Int)) → ∀ (H : Heap) (locs : List Loc), va_P D zcl (gw q c F75 A75) H → va_D A0 (gw q c F75 A75) → va_S A0 s.heap H locs → ∀ ls : Array Slot, lv_has ls 3 [(0, .ref (q 5)), (1, .int (iI (a1)))] → W p l e zr_X_round s m args below meth c0 H locs 0 0 Q (F0 m 75 ls []) := by
                intro fu
                induction fu with
                | zero => intro a1  F75 A75 ha1 hF75 hd75 hk75 hr75 hs75 hn75 hm_75; exact absurd hm_75 (by omega)
                | succ fu ih_75 =>
                  intro a1  F75 A75 ha1 hF75 hd75 hk75 hr75 hs75 hn75 hm_75 H locs hP hD hS ls hl
                  have e36 := hk75 36 (by decide) (by decide) (by decide) (by decide)
                  have e37 := hk75 37 (by decide) (by decide) (by decide) (by decide)
                  have e38 := hk75 38 (by decide) (by decide) (by decide) (by decide)
                  have e39 := hk75 39 (by decide) (by decide) (by decide) (by decide)
                  have e40 := hk75 40 (by decide) (by decide) (by decide) (by decide)
                  have e44 := hk75 44 (by decide) (by decide) (by decide) (by decide)
                  have f501 := hF75 501 (by decide)
                  have f502 := hF75 502 (by decide)
                  obtain ⟨xb1, xb2, xb3⟩ := xat_b hd75 hmc hmch hr75 hs75
                  refine lv_iload_n hx hb zd_X_round_75 rfl (lv_at hl 1 rfl) ?_
                  refine lv_aload_n hx hb zd_X_round_76 rfl (lv_at hl 0 rfl) ?_
                  refine va_get (D := D) (ci := 5) (v := .int (iI (F75 501))) (C := zR_X) (T := zT_X) (N := 34) hx hb hts zi_X hown hK.1 hP 5 ga_5 rfl 1 (by decide) (hts _ zw_534) (fun _ h9 => h9) rfl zd_X_round_77 ?_
                  refine x_icmp_ge (tgt := 250) hx hb zd_X_round_80 (by decide) (⟨by omega, by omega⟩) (⟨by omega, by omega⟩) (fun h_80 => ?_) (fun h_80 => ?_)
                  · exact ret _ _ _ _ _ _ zd_X_round_250 hP hD hS (⟨hF75, hk75, by unfold RmOK; rw [f501, f502, e36, e37, e38, e39, e40, e44]; exact ⟨hd75, hr75, hs75, fun b h0 h1 hc => hn75 b h0 (by omega) ((rat_rdy hs75 h0 h1).mp hc)⟩⟩)
                  · refine lv_aload_n hx hb zd_X_round_83 rfl (lv_at hl 0 rfl) ?_
                    refine lv_iload_n hx hb zd_X_round_84 rfl (lv_at hl 1 rfl) ?_
                    refine z_goi (z_runV (n := 1) (k := 5) (ci := 5) (As := [.int (iI (a1))]) (rest := []) S (c_X_canBeDone l D q c _ F75 A75 a1 (by simp only [e36, e37, e38, e39, e40, f501, f502]; first | assumption | omega) (by simp only [e36, e37, e38, e39, e40, f501, f502]; first | assumption | omega) (by simp only [e36, e37, e38, e39, e40, f501, f502]; first | assumption | omega) (by simp only [e36, e37, e38, e39, e40, f501, f502]; first | assumption | omega) (by simp only [e36, e37, e38, e39, e40, f501, f502]; first | assumption | omega) (by simp only [e36, e37, e38, e39, e40, f501, f502]; first | assumption | omega)) zw_693 zw_695 zs_44 zw_6 zw_696 ⟨by decide +kernel, by decide, rfl, rfl⟩ hK hP hD ga_5 rfl rfl rfl hl.1 rfl (Nat.le_of_ble_eq_true rfl) zd_X_round_85 ⟨Nat.zero_le _, Nat.zero_le _⟩) hD hS hA (fun z_85 F_85 A_85 H locs hq_85 hP hD hS => ?_)
                    obtain ⟨hf_85, ha_85, hq_85⟩ := hq_85
                    rw [hf_85, ha_85] at hP hD
                    obtain ⟨hz1, hz2⟩ := hq_85
                    simp only [e36, e37, e38, e39, f501, f502] at hz2
                    refine x_if_ne (tgt := 97) hx hb zd_X_round_88 (by decide) (⟨by omega, by omega⟩) (fun h_88 => ?_) (fun h_88 => ?_)
                    · have hrd_ : 0 < A75 45 a1 ∧ ∀ k, 0 ≤ k → k < F 502 → A 37 k = a1 → A 39 k ≤ A75 46 k := hz2.mp (by omega)
                      have hd4_ := xb3 a1 (by omega) (by omega) hrd_.1 hmsum
                      refine lv_iconst (v := iI (0)) hx hb zd_X_round_97 rfl ?_
                      refine lv_istore_n (lv' := [(2, .int (iI (0))), (0, .ref (q 5)), (1, .int (iI (a1)))]) hx hb zd_X_round_98 rfl hl (by decide) rfl (fun ls hl => ?_)
                      have L_99 : ∀ (fu : Nat) (j : Int)  (A99 : Nat → Int → Int), (0 ≤ j ∧ j ≤ F 502) → (∀ k, k ≠ 46 → A99 k = A75 k) → (∀ k, A99 46 k = if 0 ≤ k ∧ k < j ∧ True then (A75 46 k + ((if A 36 k = a1 then A 38 k else 0) - (if A 37 k = a1 then A 39 k else 0))) else A75 46 k) → (F 502 - j < (fu : Int)) → ∀ (H : Heap) (locs : List Loc), va_P D zcl (gw q c F75 A99) H → va_D A0 (gw q c F75 A99) → va_S A0 s.heap H locs → ∀ ls : Array Slot, lv_has ls 3 [(0, .ref (q 5)), (1, .int (iI (a1))), (2, .int (iI (j)))] → W p l e zr_X_round s m args below meth c0 H locs 0 0 Q (F0 m 99 ls []) := by
                        intro fu
                        induction fu with
                        | zero => intro j  A99 hj hk9 hs9 hm_99; exact absurd hm_99 (by omega)
                        | succ fu ih_99 =>
                          intro j  A99 hj hk9 hs9 hm_99 H locs hP hD hS ls hl
                          refine lv_iload_n hx hb zd_X_round_99 rfl (lv_at hl 2 rfl) ?_
                          refine lv_aload_n hx hb zd_X_round_100 rfl (lv_at hl 0 rfl) ?_
                          refine va_get (D := D) (ci := 5) (v := .int (iI (F75 502))) (C := zR_X) (T := zT_X) (N := 34) hx hb hts zi_X hown hK.1 hP 5 ga_5 rfl 2 (by decide) (hts _ zw_535) (fun _ h9 => h9) rfl zd_X_round_101 ?_
                          refine x_icmp_ge (tgt := 163) hx hb zd_X_round_104 (by decide) (⟨by omega, by omega⟩) (⟨by omega, by omega⟩) (fun h_104 => ?_) (fun h_104 => ?_)
                          · refine lv_iconst (v := iI (0)) hx hb zd_X_round_163 rfl ?_
                            refine lv_istore_n (lv' := [(2, .int (iI (0))), (0, .ref (q 5)), (1, .int (iI (a1)))]) hx hb zd_X_round_164 rfl hl (by decide) rfl (fun ls hl => ?_)
                            have L_165 : ∀ (fu : Nat) (j6 : Int)  (A165 : Nat → Int → Int), (0 ≤ j6 ∧ j6 ≤ F 502) → (∀ k, k ≠ 47 → A165 k = A99 k) → (∀ k, A165 47 k = if 0 ≤ k ∧ k < j6 ∧ True then max (A75 47 k) (A99 46 k) else A75 47 k) → (F 502 - j6 < (fu : Int)) → ∀ (H : Heap) (locs : List Loc), va_P D zcl (gw q c F75 A165) H → va_D A0 (gw q c F75 A165) → va_S A0 s.heap H locs → ∀ ls : Array Slot, lv_has ls 3 [(0, .ref (q 5)), (1, .int (iI (a1))), (2, .int (iI (j6)))] → W p l e zr_X_round s m args below meth c0 H locs 0 0 Q (F0 m 165 ls []) := by
                              intro fu
                              induction fu with
                              | zero => intro j6  A165 hj6 hk6 hs6 hm_165; exact absurd hm_165 (by omega)
                              | succ fu ih_165 =>
                                intro j6  A165 hj6 hk6 hs6 hm_165 H locs hP hD hS ls hl
                                refine lv_iload_n hx hb zd_X_round_165 rfl (lv_at hl 2 rfl) ?_
                                refine lv_aload_n hx hb zd_X_round_166 rfl (lv_at hl 0 rfl) ?_
                                refine va_get (D := D) (ci := 5) (v := .int (iI (F75 502))) (C := zR_X) (T := zT_X) (N := 34) hx hb hts zi_X hown hK.1 hP 5 ga_5 rfl 2 (by decide) (hts _ zw_535) (fun _ h9 => h9) rfl zd_X_round_167 ?_
                                refine x_icmp_ge (tgt := 215) hx hb zd_X_round_170 (by decide) (⟨by omega, by omega⟩) (⟨by omega, by omega⟩) (fun h_170 => ?_) (fun h_170 => ?_)
                                · have hl1_ := xb2 a1 (by omega) (by omega)
                                  have q45 : A165 45 = A75 45 := (hk6 45 (by decide)).trans (hk9 45 (by decide))
                                  have q48 : A165 48 = A75 48 := (hk6 48 (by decide)).trans (hk9 48 (by decide))
                                  have hst_ := play_step (od := A75 48) (l1 := A75 45) (l2 := A75 46) (l3 := A75 47) (m1 := upI (A75 45) a1 (A75 45 a1 - 1)) (m2 := A165 46) (m3 := A165 47) (i := F75 520) (z := a1) hd75.1 hr75 hs75 ⟨⟨by omega, by omega⟩, hrd_, hn75⟩ (fun _ _ _ => rfl) (fun k h0 h1 => by rw [hk6 46 (by decide), hs9 k, if_pos ⟨h0, by omega, trivial⟩]; omega) (fun k h0 h1 => by rw [hs6 k, if_pos ⟨h0, by omega, trivial⟩, hs9 k, if_pos ⟨h0, by omega, trivial⟩]; congr 1; omega)
                                  refine lv_aload_n hx hb zd_X_round_215 rfl (lv_at hl 0 rfl) ?_
                                  refine va_get (D := D) (ci := 5) (v := .ref (q 45)) (C := zR_X) (T := zT_X) (N := 34) hx hb hts zi_X hown hK.1 hP 5 ga_5 rfl 17 (by decide) (hts _ zw_550) (fun _ h9 => h9) rfl zd_X_round_216 ?_
                                  refine lv_iload_n hx hb zd_X_round_219 rfl (lv_at hl 1 rfl) ?_
                                  refine lv_dup2_11 hx hb zd_X_round_220 rfl rfl ?_
                                  refine x_iald (v := A75 45 a1) hx hb hK.1 hP 45 0 ga_45 rfl (by decide) (by omega) (by omega) (by rw [q45]) zd_X_round_221 ?_
                                  refine lv_iconst (v := iI (1)) hx hb zd_X_round_222 rfl ?_
                                  refine x_isub hx hb zd_X_round_223 ?_
                                  refine x_iast hx hb hK.1 hP hD hS 45 0 ga_45 rfl (by decide) (by omega) (by omega) zd_X_round_224 (fun H locs hP hD hS => ?_)
                                  rw [gs_45] at hP hD
                                  refine lv_aload_n hx hb zd_X_round_225 rfl (lv_at hl 0 rfl) ?_
                                  refine va_get (D := D) (ci := 5) (v := .ref (q 48)) (C := zR_X) (T := zT_X) (N := 34) hx hb hts zi_X hown hK.1 hP 5 ga_5 rfl 21 (by decide) (hts _ zw_554) (fun _ h9 => h9) rfl zd_X_round_226 ?_
                                  refine lv_aload_n hx hb zd_X_round_229 rfl (lv_at hl 0 rfl) ?_
                                  refine va_get (D := D) (ci := 5) (v := .int (iI (F75 520))) (C := zR_X) (T := zT_X) (N := 34) hx hb hts zi_X hown hK.1 hP 5 ga_5 rfl 20 (by decide) (hts _ zw_553) (fun _ h9 => h9) rfl zd_X_round_230 ?_
                                  refine lv_iload_n hx hb zd_X_round_233 rfl (lv_at hl 1 rfl) ?_
                                  refine x_iast hx hb hK.1 hP hD hS 48 0 ga_48 rfl (by decide) (by omega) (by omega) zd_X_round_234 (fun H locs hP hD hS => ?_)
                                  rw [gs_48] at hP hD
                                  refine lv_aload_n hx hb zd_X_round_235 rfl (lv_at hl 0 rfl) ?_
                                  refine lv_dup hx hb zd_X_round_236 rfl ?_
                                  refine va_get (D := D) (ci := 5) (v := .int (iI (F75 520))) (C := zR_X) (T := zT_X) (N := 34) hx hb hts zi_X hown hK.1 hP 5 ga_5 rfl 20 (by decide) (hts _ zw_553) (fun _ h9 => h9) rfl zd_X_round_237 ?_
                                  refine lv_iconst (v := iI (1)) hx hb zd_X_round_240 rfl ?_
                                  refine x_iadd hx hb zd_X_round_241 ?_
                                  refine va_put (D := D) (ci := 5) (v := .int (iI ((F75 520) + 1))) (ty := .int) (C := zR_X) (T := zT_X) (N := 34) hx hb hts zi_X zk_X zo_X zn_X hown hK.1 hP hD hS 5 ga_5 rfl 20 (by decide) (hts _ zw_553) (fun _ h9 => h9) rfl (by decide +kernel) (rfl) (rfl) (Nat.le_of_ble_eq_true rfl) zd_X_round_242 (fun H locs hP hD hS => ?_)
                                  rw [gs_5_20] at hP hD
                                  refine lv_iconst (v := iI (0)) hx hb zd_X_round_245 rfl ?_
                                  refine lv_istore_n (lv' := [(1, .int (iI (0))), (0, .ref (q 5)), (2, .int (iI (j6)))]) hx hb zd_X_round_246 rfl hl (by decide) rfl (fun ls hl => ?_)
                                  refine lv_goto (tgt := 75) hx hb zd_X_round_247 (by decide) ?_
                                  exact ih_75 (0)  (fuP F75 520 ((F75 520) + 1)) (auP (auP A165 45 a1 ((A75 45 a1) - 1)) 48 (F75 520) a1) (by first | assumption | omega | (simp_all; done)) (by first | exact hF75 | exact fun j h => by simp [fuP, h, hF75 j h]) (by first | exact hd75 | (simp [fuP]; omega)) (by first | exact hk75 | exact fun k h1 h2 h3 h4 => by simp [auP, h1, h4]; rw [hk6 k h3, hk9 k h2, hk75 k h1 h2 h3 h4]) (by first | exact hr75 | (have h9 := hst_.1; rw [← q48] at h9; exact h9)) (by first | exact hs75 | (have h9 := hst_.2; rw [← q48] at h9; have e9 : upI (A75 45) a1 (A75 45 a1 - 1) = upI (A165 45) a1 (A75 45 a1 - 1) := (by rw [q45]); rw [e9] at h9; exact h9)) (by first | exact fun b h0 h1 => (by omega) | exact fun b h0 h1 => (by by_cases e_ : b = a1; (subst e_; intro hc; have := hz2.mpr hc; omega); (exact hn75 b h0 (by omega)))) (by first | omega | (simp only [fuP]; simp; omega)) _ _ hP hD hS ls (lv_sub hl [1, 0] rfl)
                                · have hc_ := hmch j6 (by omega) (by omega)
                                  have hy_ := xb1 j6 (by omega) (by omega)
                                  have q46 := congrFun (hk6 46 (by decide)) j6
                                  have o47 := lu_o hs6
                                  have hv_ : A99 46 j6 = A75 46 j6 + ((if A 36 j6 = a1 then A 38 j6 else 0) - (if A 37 j6 = a1 then A 39 j6 else 0)) := by (rw [hs9 j6, if_pos ⟨by omega, by omega, trivial⟩])
                                  have hvb_ : -9 ≤ A99 46 j6 ∧ A99 46 j6 ≤ 100008 := by (rw [hv_]; split <;> split <;> omega)
                                  refine lv_aload_n hx hb zd_X_round_173 rfl (lv_at hl 0 rfl) ?_
                                  refine va_get (D := D) (ci := 5) (v := .ref (q 47)) (C := zR_X) (T := zT_X) (N := 34) hx hb hts zi_X hown hK.1 hP 5 ga_5 rfl 19 (by decide) (hts _ zw_552) (fun _ h9 => h9) rfl zd_X_round_174 ?_
                                  refine lv_iload_n hx hb zd_X_round_177 rfl (lv_at hl 2 rfl) ?_
                                  refine lv_aload_n hx hb zd_X_round_178 rfl (lv_at hl 0 rfl) ?_
                                  refine va_get (D := D) (ci := 5) (v := .ref (q 46)) (C := zR_X) (T := zT_X) (N := 34) hx hb hts zi_X hown hK.1 hP 5 ga_5 rfl 18 (by decide) (hts _ zw_551) (fun _ h9 => h9) rfl zd_X_round_179 ?_
                                  refine lv_iload_n hx hb zd_X_round_182 rfl (lv_at hl 2 rfl) ?_
                                  refine x_iald (v := A99 46 j6) hx hb hK.1 hP 46 0 ga_46 rfl (by decide) (by omega) (by omega) (q46) zd_X_round_183 ?_
                                  refine lv_aload_n hx hb zd_X_round_184 rfl (lv_at hl 0 rfl) ?_
                                  refine va_get (D := D) (ci := 5) (v := .ref (q 47)) (C := zR_X) (T := zT_X) (N := 34) hx hb hts zi_X hown hK.1 hP 5 ga_5 rfl 19 (by decide) (hts _ zw_552) (fun _ h9 => h9) rfl zd_X_round_185 ?_
                                  refine lv_iload_n hx hb zd_X_round_188 rfl (lv_at hl 2 rfl) ?_
                                  refine x_iald (v := A165 47 j6) hx hb hK.1 hP 47 0 ga_47 rfl (by decide) (by omega) (by omega) (rfl) zd_X_round_189 ?_
                                  refine x_icmp_le (tgt := 202) hx hb zd_X_round_190 (by decide) (⟨by omega, by omega⟩) (⟨by omega, by omega⟩) (fun h_190 => ?_) (fun h_190 => ?_)
                                  · refine lv_aload_n hx hb zd_X_round_202 rfl (lv_at hl 0 rfl) ?_
                                    refine va_get (D := D) (ci := 5) (v := .ref (q 47)) (C := zR_X) (T := zT_X) (N := 34) hx hb hts zi_X hown hK.1 hP 5 ga_5 rfl 19 (by decide) (hts _ zw_552) (fun _ h9 => h9) rfl zd_X_round_203 ?_
                                    refine lv_iload_n hx hb zd_X_round_206 rfl (lv_at hl 2 rfl) ?_
                                    refine x_iald (v := A165 47 j6) hx hb hK.1 hP 47 0 ga_47 rfl (by decide) (by omega) (by omega) (rfl) zd_X_round_207 ?_
                                    refine x_iast hx hb hK.1 hP hD hS 47 0 ga_47 rfl (by decide) (by omega) (by omega) zd_X_round_208 (fun H locs hP hD hS => ?_)
                                    rw [gs_47] at hP hD
                                    refine lv_iinc (v := iI (j6 + 1)) (lv' := [(2, .int (iI (j6 + 1))), (0, .ref (q 5)), (1, .int (iI (a1)))]) hx hb zd_X_round_209 hl (k := 2) rfl (iI_add _ _) (by decide) rfl (fun ls hl => ?_)
                                    refine lv_goto (tgt := 165) hx hb zd_X_round_212 (by decide) ?_
                                    exact ih_165 (j6 + 1)  (auP A165 47 j6 (A165 47 j6)) (by first | assumption | omega | (simp_all; done)) (fun k h => by simp [auP, h, hk6 k h]) (by refine lu_y hs6 hj6.1 trivial ?_; show _ = max (A75 47 j6) (A99 46 j6); omega) (by omega) _ _ hP hD hS ls (lv_sub hl [1, 2, 0] rfl)
                                  · refine lv_aload_n hx hb zd_X_round_193 rfl (lv_at hl 0 rfl) ?_
                                    refine va_get (D := D) (ci := 5) (v := .ref (q 46)) (C := zR_X) (T := zT_X) (N := 34) hx hb hts zi_X hown hK.1 hP 5 ga_5 rfl 18 (by decide) (hts _ zw_551) (fun _ h9 => h9) rfl zd_X_round_194 ?_
                                    refine lv_iload_n hx hb zd_X_round_197 rfl (lv_at hl 2 rfl) ?_
                                    refine x_iald (v := A99 46 j6) hx hb hK.1 hP 46 0 ga_46 rfl (by decide) (by omega) (by omega) (q46) zd_X_round_198 ?_
                                    refine lv_goto (tgt := 208) hx hb zd_X_round_199 (by decide) ?_
                                    refine x_iast hx hb hK.1 hP hD hS 47 0 ga_47 rfl (by decide) (by omega) (by omega) zd_X_round_208 (fun H locs hP hD hS => ?_)
                                    rw [gs_47] at hP hD
                                    refine lv_iinc (v := iI (j6 + 1)) (lv' := [(2, .int (iI (j6 + 1))), (0, .ref (q 5)), (1, .int (iI (a1)))]) hx hb zd_X_round_209 hl (k := 2) rfl (iI_add _ _) (by decide) rfl (fun ls hl => ?_)
                                    refine lv_goto (tgt := 165) hx hb zd_X_round_212 (by decide) ?_
                                    exact ih_165 (j6 + 1)  (auP A165 47 j6 (A99 46 j6)) (by first | assumption | omega | (simp_all; done)) (fun k h => by simp [auP, h, hk6 k h]) (by refine lu_y hs6 hj6.1 trivial ?_; show _ = max (A75 47 j6) (A99 46 j6); omega) (by omega) _ _ hP hD hS ls (lv_sub hl [1, 2, 0] rfl)
                            exact L_165 (((F 502 - (0) : Int) + 1).toNat) (0)  A99 (by first | assumption | omega | (simp_all; done)) (fun k _ => rfl) (fun k => by rw [if_neg (by omega), hk9 47 (by decide)]) (by omega) _ _ hP hD hS ls (lv_sub hl [1, 2, 0] rfl)
                          · have hc_ := hmch j (by omega) (by omega)
                            have hy_ := xb1 j (by omega) (by omega)
                            have q36 := (hk9 36 (by decide)).trans e36
                            have q37 := (hk9 37 (by decide)).trans e37
                            have q38 := (hk9 38 (by decide)).trans e38
                            have q39 := (hk9 39 (by decide)).trans e39
                            have o46 := lu_o hs9
                            refine lv_aload_n hx hb zd_X_round_107 rfl (lv_at hl 0 rfl) ?_
                            refine va_get (D := D) (ci := 5) (v := .ref (q 46)) (C := zR_X) (T := zT_X) (N := 34) hx hb hts zi_X hown hK.1 hP 5 ga_5 rfl 18 (by decide) (hts _ zw_551) (fun _ h9 => h9) rfl zd_X_round_108 ?_
                            refine lv_iload_n hx hb zd_X_round_111 rfl (lv_at hl 2 rfl) ?_
                            refine lv_dup2_11 hx hb zd_X_round_112 rfl rfl ?_
                            refine x_iald (v := A99 46 j) hx hb hK.1 hP 46 0 ga_46 rfl (by decide) (by omega) (by omega) (rfl) zd_X_round_113 ?_
                            refine lv_aload_n hx hb zd_X_round_114 rfl (lv_at hl 0 rfl) ?_
                            refine va_get (D := D) (ci := 5) (v := .ref (q 36)) (C := zR_X) (T := zT_X) (N := 34) hx hb hts zi_X hown hK.1 hP 5 ga_5 rfl 4 (by decide) (hts _ zw_537) (fun _ h9 => h9) rfl zd_X_round_115 ?_
                            refine lv_iload_n hx hb zd_X_round_118 rfl (lv_at hl 2 rfl) ?_
                            refine x_iald (v := A 36 j) hx hb hK.1 hP 36 0 ga_36 rfl (by decide) (by omega) (by omega) (by rw [q36]) zd_X_round_119 ?_
                            refine lv_iload_n hx hb zd_X_round_120 rfl (lv_at hl 1 rfl) ?_
                            refine x_icmp_ne (tgt := 133) hx hb zd_X_round_121 (by decide) (⟨by omega, by omega⟩) (⟨by omega, by omega⟩) (fun h_121 => ?_) (fun h_121 => ?_)
                            · refine lv_iconst (v := iI (0)) hx hb zd_X_round_133 rfl ?_
                              refine lv_aload_n hx hb zd_X_round_134 rfl (lv_at hl 0 rfl) ?_
                              refine va_get (D := D) (ci := 5) (v := .ref (q 37)) (C := zR_X) (T := zT_X) (N := 34) hx hb hts zi_X hown hK.1 hP 5 ga_5 rfl 5 (by decide) (hts _ zw_538) (fun _ h9 => h9) rfl zd_X_round_135 ?_
                              refine lv_iload_n hx hb zd_X_round_138 rfl (lv_at hl 2 rfl) ?_
                              refine x_iald (v := A 37 j) hx hb hK.1 hP 37 0 ga_37 rfl (by decide) (by omega) (by omega) (by rw [q37]) zd_X_round_139 ?_
                              refine lv_iload_n hx hb zd_X_round_140 rfl (lv_at hl 1 rfl) ?_
                              refine x_icmp_ne (tgt := 153) hx hb zd_X_round_141 (by decide) (⟨by omega, by omega⟩) (⟨by omega, by omega⟩) (fun h_141 => ?_) (fun h_141 => ?_)
                              · refine lv_iconst (v := iI (0)) hx hb zd_X_round_153 rfl ?_
                                refine x_isub hx hb zd_X_round_154 ?_
                                refine x_iadd hx hb zd_X_round_155 ?_
                                refine x_iast hx hb hK.1 hP hD hS 46 0 ga_46 rfl (by decide) (by omega) (by omega) zd_X_round_156 (fun H locs hP hD hS => ?_)
                                rw [gs_46] at hP hD
                                refine lv_iinc (v := iI (j + 1)) (lv' := [(2, .int (iI (j + 1))), (0, .ref (q 5)), (1, .int (iI (a1)))]) hx hb zd_X_round_157 hl (k := 2) rfl (iI_add _ _) (by decide) rfl (fun ls hl => ?_)
                                refine lv_goto (tgt := 99) hx hb zd_X_round_160 (by decide) ?_
                                exact ih_99 (j + 1)  (auP A99 46 j ((A99 46 j) + (0 - 0))) (by first | assumption | omega | (simp_all; done)) (fun k h => by simp [auP, h, hk9 k h]) (by refine lu_y hs9 hj.1 trivial ?_; simp [h_121, h_141, o46]) (by omega) _ _ hP hD hS ls (lv_sub hl [1, 2, 0] rfl)
                              · refine lv_aload_n hx hb zd_X_round_144 rfl (lv_at hl 0 rfl) ?_
                                refine va_get (D := D) (ci := 5) (v := .ref (q 39)) (C := zR_X) (T := zT_X) (N := 34) hx hb hts zi_X hown hK.1 hP 5 ga_5 rfl 7 (by decide) (hts _ zw_540) (fun _ h9 => h9) rfl zd_X_round_145 ?_
                                refine lv_iload_n hx hb zd_X_round_148 rfl (lv_at hl 2 rfl) ?_
                                refine x_iald (v := A 39 j) hx hb hK.1 hP 39 0 ga_39 rfl (by decide) (by omega) (by omega) (by rw [q39]) zd_X_round_149 ?_
                                refine lv_goto (tgt := 154) hx hb zd_X_round_150 (by decide) ?_
                                refine x_isub hx hb zd_X_round_154 ?_
                                refine x_iadd hx hb zd_X_round_155 ?_
                                refine x_iast hx hb hK.1 hP hD hS 46 0 ga_46 rfl (by decide) (by omega) (by omega) zd_X_round_156 (fun H locs hP hD hS => ?_)
                                rw [gs_46] at hP hD
                                refine lv_iinc (v := iI (j + 1)) (lv' := [(2, .int (iI (j + 1))), (0, .ref (q 5)), (1, .int (iI (a1)))]) hx hb zd_X_round_157 hl (k := 2) rfl (iI_add _ _) (by decide) rfl (fun ls hl => ?_)
                                refine lv_goto (tgt := 99) hx hb zd_X_round_160 (by decide) ?_
                                exact ih_99 (j + 1)  (auP A99 46 j ((A99 46 j) + (0 - (A 39 j)))) (by first | assumption | omega | (simp_all; done)) (fun k h => by simp [auP, h, hk9 k h]) (by refine lu_y hs9 hj.1 trivial ?_; simp [h_121, h_141, o46]) (by omega) _ _ hP hD hS ls (lv_sub hl [1, 2, 0] rfl)
                            · refine lv_aload_n hx hb zd_X_round_124 rfl (lv_at hl 0 rfl) ?_
                              refine va_get (D := D) (ci := 5) (v := .ref (q 38)) (C := zR_X) (T := zT_X) (N := 34) hx hb hts zi_X hown hK.1 hP 5 ga_5 rfl 6 (by decide) (hts _ zw_539) (fun _ h9 => h9) rfl zd_X_round_125 ?_
                              refine lv_iload_n hx hb zd_X_round_128 rfl (lv_at hl 2 rfl) ?_
                              refine x_iald (v := A 38 j) hx hb hK.1 hP 38 0 ga_38 rfl (by decide) (by omega) (by omega) (by rw [q38]) zd_X_round_129 ?_
                              refine lv_goto (tgt := 134) hx hb zd_X_round_130 (by decide) ?_
                              refine lv_aload_n hx hb zd_X_round_134 rfl (lv_at hl 0 rfl) ?_
                              refine va_get (D := D) (ci := 5) (v := .ref (q 37)) (C := zR_X) (T := zT_X) (N := 34) hx hb hts zi_X hown hK.1 hP 5 ga_5 rfl 5 (by decide) (hts _ zw_538) (fun _ h9 => h9) rfl zd_X_round_135 ?_
                              refine lv_iload_n hx hb zd_X_round_138 rfl (lv_at hl 2 rfl) ?_
                              refine x_iald (v := A 37 j) hx hb hK.1 hP 37 0 ga_37 rfl (by decide) (by omega) (by omega) (by rw [q37]) zd_X_round_139 ?_
                              refine lv_iload_n hx hb zd_X_round_140 rfl (lv_at hl 1 rfl) ?_
                              refine x_icmp_ne (tgt := 153) hx hb zd_X_round_141 (by decide) (⟨by omega, by omega⟩) (⟨by omega, by omega⟩) (fun h_141 => ?_) (fun h_141 => ?_)
                              · refine lv_iconst (v := iI (0)) hx hb zd_X_round_153 rfl ?_
                                refine x_isub hx hb zd_X_round_154 ?_
                                refine x_iadd hx hb zd_X_round_155 ?_
                                refine x_iast hx hb hK.1 hP hD hS 46 0 ga_46 rfl (by decide) (by omega) (by omega) zd_X_round_156 (fun H locs hP hD hS => ?_)
                                rw [gs_46] at hP hD
                                refine lv_iinc (v := iI (j + 1)) (lv' := [(2, .int (iI (j + 1))), (0, .ref (q 5)), (1, .int (iI (a1)))]) hx hb zd_X_round_157 hl (k := 2) rfl (iI_add _ _) (by decide) rfl (fun ls hl => ?_)
                                refine lv_goto (tgt := 99) hx hb zd_X_round_160 (by decide) ?_
                                exact ih_99 (j + 1)  (auP A99 46 j ((A99 46 j) + ((A 38 j) - 0))) (by first | assumption | omega | (simp_all; done)) (fun k h => by simp [auP, h, hk9 k h]) (by refine lu_y hs9 hj.1 trivial ?_; simp [h_121, h_141, o46]) (by omega) _ _ hP hD hS ls (lv_sub hl [1, 2, 0] rfl)
                              · refine lv_aload_n hx hb zd_X_round_144 rfl (lv_at hl 0 rfl) ?_
                                refine va_get (D := D) (ci := 5) (v := .ref (q 39)) (C := zR_X) (T := zT_X) (N := 34) hx hb hts zi_X hown hK.1 hP 5 ga_5 rfl 7 (by decide) (hts _ zw_540) (fun _ h9 => h9) rfl zd_X_round_145 ?_
                                refine lv_iload_n hx hb zd_X_round_148 rfl (lv_at hl 2 rfl) ?_
                                refine x_iald (v := A 39 j) hx hb hK.1 hP 39 0 ga_39 rfl (by decide) (by omega) (by omega) (by rw [q39]) zd_X_round_149 ?_
                                refine lv_goto (tgt := 154) hx hb zd_X_round_150 (by decide) ?_
                                refine x_isub hx hb zd_X_round_154 ?_
                                refine x_iadd hx hb zd_X_round_155 ?_
                                refine x_iast hx hb hK.1 hP hD hS 46 0 ga_46 rfl (by decide) (by omega) (by omega) zd_X_round_156 (fun H locs hP hD hS => ?_)
                                rw [gs_46] at hP hD
                                refine lv_iinc (v := iI (j + 1)) (lv' := [(2, .int (iI (j + 1))), (0, .ref (q 5)), (1, .int (iI (a1)))]) hx hb zd_X_round_157 hl (k := 2) rfl (iI_add _ _) (by decide) rfl (fun ls hl => ?_)
                                refine lv_goto (tgt := 99) hx hb zd_X_round_160 (by decide) ?_
                                exact ih_99 (j + 1)  (auP A99 46 j ((A99 46 j) + ((A 38 j) - (A 39 j)))) (by first | assumption | omega | (simp_all; done)) (fun k h => by simp [auP, h, hk9 k h]) (by refine lu_y hs9 hj.1 trivial ?_; simp [h_121, h_141, o46]) (by omega) _ _ hP hD hS ls (lv_sub hl [1, 2, 0] rfl)
                      exact L_99 (((F 502 - (0) : Int) + 1).toNat) (0)  A75 (by first | assumption | omega | (simp_all; done)) (fun k _ => rfl) (fun k => by rw [if_neg (by omega)]) (by omega) _ _ hP hD hS ls (lv_sub hl [1, 2, 0] rfl)
                    · refine lv_iinc (v := iI (a1 + 1)) (lv' := [(1, .int (iI (a1 + 1))), (0, .ref (q 5))]) hx hb zd_X_round_91 hl (k := 1) rfl (iI_add _ _) (by decide) rfl (fun ls hl => ?_)
                      refine lv_goto (tgt := 75) hx hb zd_X_round_94 (by decide) ?_
                      exact ih_75 (a1 + 1)  F75 A75 (by first | assumption | omega | (simp_all; done)) (by first | exact hF75 | exact fun j h => by simp [fuP, h, hF75 j h]) (by first | exact hd75 | (simp [fuP]; omega)) (by first | exact hk75 | exact fun k h1 h2 h3 h4 => by simp [auP, h1, h4]; rw [hk6 k h3, hk9 k h2, hk75 k h1 h2 h3 h4]) (by first | exact hr75 | (have h9 := hst_.1; rw [← q48] at h9; exact h9)) (by first | exact hs75 | (have h9 := hst_.2; rw [← q48] at h9; have e9 : upI (A75 45) a1 (A75 45 a1 - 1) = upI (A165 45) a1 (A75 45 a1 - 1) := (by rw [q45]); rw [e9] at h9; exact h9)) (by first | exact fun b h0 h1 => (by omega) | exact fun b h0 h1 => (by by_cases e_ : b = a1; (subst e_; intro hc; have := hz2.mpr hc; omega); (exact hn75 b h0 (by omega)))) (by first | omega | (simp only [fuP]; simp; omega)) _ _ hP hD hS ls (lv_sub hl [1, 0] rfl)
              exact L_75 ((((400 - (fuP F 520 0) 520) * 9 + (F 501 - (0)) : Int) + 1).toNat) (0)  (fuP F 520 0) A47 (by first | assumption | omega | (simp_all; done)) (fun j h => by simp [fuP, h]) (by simp [fuP]) (fun k h1 h2 h3 _ => hk4 k h1 h2 h3) (fun k hk => by simp [fuP] at hk) (⟨fun a h0 h1 => hl4 a h0 (by omega), fun k h0 h1 => hs4 k h0 h1⟩) (fun b h0 h1 => by omega) (by have h9 : fuP F 520 0 520 = 0 := rfl; omega) _ _ hP hD hS ls (lv_sub hl [1, 0] rfl)
            · have q44 := hk4 44 (by decide) (by decide) (by decide)
              refine lv_aload_n hx hb zd_X_round_55 rfl (lv_at hl 0 rfl) ?_
              refine va_get (D := D) (ci := 5) (v := .ref (q 45)) (C := zR_X) (T := zT_X) (N := 34) hx hb hts zi_X hown hK.1 hP 5 ga_5 rfl 17 (by decide) (hts _ zw_550) (fun _ h9 => h9) rfl zd_X_round_56 ?_
              refine lv_iload_n hx hb zd_X_round_59 rfl (lv_at hl 1 rfl) ?_
              refine lv_aload_n hx hb zd_X_round_60 rfl (lv_at hl 0 rfl) ?_
              refine va_get (D := D) (ci := 5) (v := .ref (q 44)) (C := zR_X) (T := zT_X) (N := 34) hx hb hts zi_X hown hK.1 hP 5 ga_5 rfl 16 (by decide) (hts _ zw_549) (fun _ h9 => h9) rfl zd_X_round_61 ?_
              refine lv_iload_n hx hb zd_X_round_64 rfl (lv_at hl 1 rfl) ?_
              refine x_iald (v := A 44 i4) hx hb hK.1 hP 44 0 ga_44 rfl (by decide) (by omega) (by omega) (by rw [q44]) zd_X_round_65 ?_
              refine x_iast hx hb hK.1 hP hD hS 45 0 ga_45 rfl (by decide) (by omega) (by omega) zd_X_round_66 (fun H locs hP hD hS => ?_)
              rw [gs_45] at hP hD
              refine lv_iinc (v := iI (i4 + 1)) (lv' := [(1, .int (iI (i4 + 1))), (0, .ref (q 5))]) hx hb zd_X_round_67 hl (k := 1) rfl (iI_add _ _) (by decide) rfl (fun ls hl => ?_)
              refine lv_goto (tgt := 47) hx hb zd_X_round_70 (by decide) ?_
              exact ih_47 (i4 + 1)  (auP A47 45 i4 (A 44 i4)) (by first | assumption | omega | (simp_all; done)) (fun k h1 h2 h3 => by simp [auP, h1, hk4 k h1 h2 h3]) (fun k h0 h1 => by simp [auP, hs4 k h0 h1]) (fun a h0 h1 => by by_cases e_ : a = i4; (subst e_; simp [auP, upI]); (have := hl4 a h0 (by omega); simp [auP, upI, e_, this])) (by omega) _ _ hP hD hS ls (lv_sub hl [1, 0] rfl)
        exact L_47 (((F 501 - (0) : Int) + 1).toNat) (0)  A7 (by first | assumption | omega | (simp_all; done)) (fun k _ h2 h3 => hk7 k h2 h3) (fun k h0 h1 => hs7 k h0 (by omega)) (fun a h0 h1 => by omega) (by omega) _ _ hP hD hS ls (lv_sub hl [1, 0] rfl)
      · have q40 := hk7 40 (by decide) (by decide)
        refine lv_aload_n hx hb zd_X_round_15 rfl (lv_at hl 0 rfl) ?_
        refine va_get (D := D) (ci := 5) (v := .ref (q 46)) (C := zR_X) (T := zT_X) (N := 34) hx hb hts zi_X hown hK.1 hP 5 ga_5 rfl 18 (by decide) (hts _ zw_551) (fun _ h9 => h9) rfl zd_X_round_16 ?_
        refine lv_iload_n hx hb zd_X_round_19 rfl (lv_at hl 1 rfl) ?_
        refine lv_aload_n hx hb zd_X_round_20 rfl (lv_at hl 0 rfl) ?_
        refine va_get (D := D) (ci := 5) (v := .ref (q 40)) (C := zR_X) (T := zT_X) (N := 34) hx hb hts zi_X hown hK.1 hP 5 ga_5 rfl 8 (by decide) (hts _ zw_541) (fun _ h9 => h9) rfl zd_X_round_21 ?_
        refine lv_iload_n hx hb zd_X_round_24 rfl (lv_at hl 1 rfl) ?_
        refine x_iald (v := A 40 i) hx hb hK.1 hP 40 0 ga_40 rfl (by decide) (by omega) (by omega) (by rw [q40]) zd_X_round_25 ?_
        refine x_iast hx hb hK.1 hP hD hS 46 0 ga_46 rfl (by decide) (by omega) (by omega) zd_X_round_26 (fun H locs hP hD hS => ?_)
        rw [gs_46] at hP hD
        refine lv_aload_n hx hb zd_X_round_27 rfl (lv_at hl 0 rfl) ?_
        refine va_get (D := D) (ci := 5) (v := .ref (q 47)) (C := zR_X) (T := zT_X) (N := 34) hx hb hts zi_X hown hK.1 hP 5 ga_5 rfl 19 (by decide) (hts _ zw_552) (fun _ h9 => h9) rfl zd_X_round_28 ?_
        refine lv_iload_n hx hb zd_X_round_31 rfl (lv_at hl 1 rfl) ?_
        refine lv_aload_n hx hb zd_X_round_32 rfl (lv_at hl 0 rfl) ?_
        refine va_get (D := D) (ci := 5) (v := .ref (q 40)) (C := zR_X) (T := zT_X) (N := 34) hx hb hts zi_X hown hK.1 hP 5 ga_5 rfl 8 (by decide) (hts _ zw_541) (fun _ h9 => h9) rfl zd_X_round_33 ?_
        refine lv_iload_n hx hb zd_X_round_36 rfl (lv_at hl 1 rfl) ?_
        refine x_iald (v := A 40 i) hx hb hK.1 hP 40 0 ga_40 rfl (by decide) (by omega) (by omega) (by show A7 40 i = A 40 i; rw [q40]) zd_X_round_37 ?_
        refine x_iast hx hb hK.1 hP hD hS 47 0 ga_47 rfl (by decide) (by omega) (by omega) zd_X_round_38 (fun H locs hP hD hS => ?_)
        rw [gs_47] at hP hD
        refine lv_iinc (v := iI (i + 1)) (lv' := [(1, .int (iI (i + 1))), (0, .ref (q 5))]) hx hb zd_X_round_39 hl (k := 1) rfl (iI_add _ _) (by decide) rfl (fun ls hl => ?_)
        refine lv_goto (tgt := 7) hx hb zd_X_round_42 (by decide) ?_
        exact ih_7 (i + 1)  (auP (auP A7 46 i (A 40 i)) 47 i (A 40 i)) (by first | assumption | omega | (simp_all; done)) (fun k h1 h2 => by simp [auP, h1, h2, hk7 k h1 h2]) (fun k h0 h1 => by by_cases e_ : k = i; (subst e_; simp [auP, upI]); (have := hs7 k h0 (by omega); simp [auP, upI, e_, this])) (by omega) _ _ hP hD hS ls (lv_sub hl [1, 0] rfl)
  exact L_7 (((F 502 - (0) : Int) + 1).toNat) (0)  A (by first | assumption | omega | (simp_all; done)) (fun k _ _ => rfl) (fun k h0 h1 => by omega) (by omega) _ _ hP hD hS ls (lv_sub hl [1, 0] rfl)
