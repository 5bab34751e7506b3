section GR
variable {q : Nat → Nat} {c : Nat → ClassId} {F : Nat → Int} {A : Nat → Int → Int}
theorem ga_row : ∀ {r : Nat}, r < 8 → (gw q c F A)[27 + r]? = some (q (27 + r), .inl (c 0, 8, .inl (aI (A (27 + r)))))
  | 0, _ => rfl
  | 1, _ => rfl
  | 2, _ => rfl
  | 3, _ => rfl
  | 4, _ => rfl
  | 5, _ => rfl
  | 6, _ => rfl
  | 7, _ => rfl
  | n + 8, h => by omega
theorem gs_row {i x : Int} : ∀ {r : Nat}, r < 8 → (gw q c F A).set (27 + r) (q (27 + r), .inl (c 0, 8, .inl (aI (upI (A (27 + r)) i x)))) = gw q c F (auP A (27 + r) i x)
  | 0, _ => gs_27
  | 1, _ => gs_28
  | 2, _ => gs_29
  | 3, _ => gs_30
  | 4, _ => gs_31
  | 5, _ => gs_32
  | 6, _ => gs_33
  | 7, _ => gs_34
  | n + 8, h => by omega
theorem auP_row {i j v x y : Int} (hi : 0 ≤ i) (hx : 0 ≤ x) : auP A (27 + i.toNat) j v (27 + x.toNat) y = if x = i ∧ y = j then v else A (27 + x.toNat) y := by
  unfold auP upI
  by_cases e : x = i
  · subst e
    rw [if_pos rfl]
    by_cases e2 : y = j
    · rw [if_pos e2, if_pos ⟨rfl, e2⟩]
    · rw [if_neg e2, if_neg (fun h => e2 h.2)]
  · rw [if_neg (by omega), if_neg (fun h => e h.1)]
theorem auP_off {i j v : Int} {k : Nat} (hi : 0 ≤ i ∧ i < 8) (hk : k < 27 ∨ 34 < k) : auP A (27 + i.toNat) j v k = A k := by
  unfold auP
  rw [if_neg (by omega)]
end GR
section XG
variable {p : Program} {l : Launch} {e : Env} {R : Room} {s : State} {m : MethodId} {args : Array Value} {below : List Frame} {meth : Method} {c0 : Code} {H : Heap} {locs : List Loc} {cells slots : Nat} {Q : State → Prop}
variable {cc : ByteArray} {pc : Nat} {ls : Array Slot} {rest : List Value} {D : va_G} {q : Nat → Nat} {c : Nat → ClassId} {F : Nat → Int} {A : Nat → Int → Int}
theorem x_aald (hexec : p.tables.exec = Jvm.exec) (hb : c0.code = cc) (hK : va_K D zcl (zty c) s) (hP : va_P D zcl (gw q c F A) H) {i : Int} (h0 : 0 ≤ i) (h1 : i < 8) (hdg : decode cc pc = .ok (.aaload, 1))
    (kk : W p l e R s m args below meth c0 H locs cells slots Q (F0 m (pc + 1) ls (.ref (q (27 + i.toNat)) :: rest))) : W p l e R s m args below meth c0 H locs cells slots Q (F0 m pc ls (.int (iI i) :: .ref (q 26) :: rest)) := by
  have hin : vp_in (iI i) 8 := iI_in h0 h1 (by decide)
  have hlt : (iI i).toNatClampNeg < 8 := Nat.not_le.mp fun q => hin (Or.inr q)
  have hf : (if (iI i).toNatClampNeg < 8 then some (q (27 + (iI i).toNatClampNeg)) else none) = some (q (27 + i.toNat)) := by
    rw [if_pos hlt, iI_clamp h0 (by omega)]
  refine W.aald (v := va_rf ((fun i => if i < 8 then some (q (27 + i)) else none) (iI i).toNatClampNeg)) (ty := .array .int) hexec hb (hP 26 _ ga_26) ((hK.2 3 _ rfl).1 8 (fun j => va_rf ((fun i => if i < 8 then some (q (27 + i)) else none) j))) rfl (fun q => by cases q) (by show ¬ (iI i < 0 ∨ (arrV _ _ _).slots.size ≤ _); rw [arrV_size]; exact hin) (by show (arrV _ _ _).slots[_]? = _; rw [arrV_read _ _ hlt]) rfl rfl hdg ?_
  show W p l e R s m args below meth c0 H locs cells slots Q (F0 m (pc + 1) ls (va_rf (if (iI i).toNatClampNeg < 8 then some (q (27 + (iI i).toNatClampNeg)) else none) :: rest))
  rw [hf]
  exact kk
end XG
abbrev zr_M_ofBestCut : Room := ({ frames := 1, cells := 0, slots := 0, locals := 29 } : Room)
set_option maxHeartbeats 4000000 in
set_option maxRecDepth 100000 in
theorem c_M_ofBestCut (l : Launch) (D : va_G) (q : Nat → Nat) (c : Nat → ClassId) (sz : Nat) (F : Nat → Int) (A : Nat → Int → Int) (i : Int) (j : Int) (cm : Int) (hn : 1 ≤ F 100 ∧ F 100 ≤ 8) (hc4 : ∀ a, 0 ≤ a → a < F 100 → 1 ≤ A 7 a ∧ A 7 a ≤ 400) (hp9 : ∀ a, 0 ≤ a → a < F 100 - 1 → 1 ≤ A 11 a ∧ A 11 a ≤ 9) (hij : 0 ≤ i ∧ i < j ∧ j < F 100) (hcm : cm = dvN (A 7) i (j - i).toNat) (hcb : 1 ≤ cm ∧ cm ≤ 400) (ht : ∀ x y, i ≤ x → x ≤ y → y ≤ j → y - x < j - i → A (27 + x.toNat) y = RM (A 7) (A 11) x (y - x).toNat) : zMI l zy_M_ofBestCut zc_M_ofBestCut 8 (some .int) zr_M_ofBestCut D q c sz [.ref (q 4), .ref (q 1), .int (iI (i)), .int (iI (j)), .int (iI (cm))] F A (fun z F1 A1 => F1 = F ∧ A1 = A ∧ z = RM (A 7) (A 11) i (j - i).toNat) := by
  refine z_ofI (by decide) (Nat.le_of_ble_eq_true rfl) ?_
  intro p e s m args below meth c0 A0 Q C0 ret hP hD hS ls hl
  obtain ⟨S, hK, hA⟩ := C0
  have hx := S.1
  have hb := S.2.1
  have hown := S.2.2.2.1
  have hts : ∀ w ∈ zG, w.before args s = true := fun w h => S.2.2.2.2 w (List.mem_cons_of_mem _ h)
  have hl : lv_has ls 8 [(0, .ref (q 4)), (1, .ref (q 1)), (2, .int (iI (i))), (3, .int (iI (j))), (4, .int (iI (cm)))] := hl
  refine lv_ldc (v := iI (2147483647)) hx hb hown (hts _ zw_316) zd_M_ofBestCut_0 ?_
  refine lv_istore (lv' := [(5, .int (iI (2147483647))), (0, .ref (q 4)), (1, .ref (q 1)), (2, .int (iI (i))), (3, .int (iI (j))), (4, .int (iI (cm)))]) hx hb zd_M_ofBestCut_2 hl (by decide) rfl (fun ls hl => ?_)
  refine lv_iload_n hx hb zd_M_ofBestCut_4 rfl (lv_at hl 3 rfl) ?_
  refine lv_istore (lv' := [(6, .int (iI (i))), (5, .int (iI (2147483647))), (0, .ref (q 4)), (1, .ref (q 1)), (2, .int (iI (i))), (3, .int (iI (j))), (4, .int (iI (cm)))]) hx hb zd_M_ofBestCut_5 hl (by decide) rfl (fun ls hl => ?_)
  have L_7 : ∀ (fu : Nat) (be : Int) (k1 : Int) , (i ≤ k1 ∧ k1 ≤ j) → ((k1 = i ∧ be = 2147483647) ∨ (i < k1 ∧ be = rmB (A 7) (A 11) i j k1)) → (0 ≤ be ∧ be ≤ 2147483647) → (j - k1 < (fu : Int)) → ∀ (H : Heap) (locs : List Loc), va_P D zcl (gw q c F A) H → va_D A0 (gw q c F A) → va_S A0 s.heap H locs → ∀ ls : Array Slot, lv_has ls 8 [(0, .ref (q 4)), (1, .ref (q 1)), (2, .int (iI (i))), (3, .int (iI (j))), (4, .int (iI (cm))), (5, .int (iI (be))), (6, .int (iI (k1)))] → W p l e zr_M_ofBestCut s m args below meth c0 H locs 0 0 Q (F0 m 7 ls []) := by
    intro fu
    induction fu with
    | zero => intro be k1   hk1 hbe hbb hm_7; exact absurd hm_7 (by omega)
    | succ fu ih_7 =>
      intro be k1   hk1 hbe hbb hm_7 H locs hP hD hS ls hl
      refine lv_iload hx hb zd_M_ofBestCut_7 (lv_at hl 6 rfl) ?_
      refine lv_iload_n hx hb zd_M_ofBestCut_9 rfl (lv_at hl 3 rfl) ?_
      refine x_icmp_ge (tgt := 72) hx hb zd_M_ofBestCut_10 (by decide) (⟨by omega, by omega⟩) (⟨by omega, by omega⟩) (fun h_10 => ?_) (fun h_10 => ?_)
      · have r_ : be = RM (A 7) (A 11) i (j - i).toNat := by (rcases hbe with ⟨h1, h2⟩ | ⟨h1, h2⟩; (exfalso; omega); (rw [h2, show k1 = j by omega]; exact rmB_e (by omega)))
        refine lv_iload hx hb zd_M_ofBestCut_72 (lv_at hl 5 rfl) ?_
        exact ret _ _ _ _ _ _ _ zd_M_ofBestCut_74 hP hD hS (⟨rfl, rfl, r_⟩)
      · have c1_ := hc4 k1 (by omega) (by omega)
        have c2_ := hp9 k1 (by omega) (by omega)
        have c3_ := mulb c1_ c2_
        refine lv_aload_n hx hb zd_M_ofBestCut_13 rfl (lv_at hl 1 rfl) ?_
        refine va_getN (D := D) (ci := 1) (v := .ref (q 7)) (C := zR_N) (T := zT_N) (N := 11) hx hb hts zi_N hown hK.1 hP 1 ga_1 rfl 4 (by decide) (zNW.use hK.2 zw_47) (fun _ h9 => h9) rfl zd_M_ofBestCut_14 ?_
        refine lv_iload hx hb zd_M_ofBestCut_17 (lv_at hl 6 rfl) ?_
        refine x_iald (v := A 7 k1) hx hb hK.1 hP 7 0 ga_7 rfl (by decide) (by omega) (by omega) (rfl) zd_M_ofBestCut_19 ?_
        refine lv_aload_n hx hb zd_M_ofBestCut_20 rfl (lv_at hl 1 rfl) ?_
        refine va_getN (D := D) (ci := 1) (v := .ref (q 11)) (C := zR_N) (T := zT_N) (N := 11) hx hb hts zi_N hown hK.1 hP 1 ga_1 rfl 8 (by decide) (zNW.use hK.2 zw_61) (fun _ h9 => h9) rfl zd_M_ofBestCut_21 ?_
        refine lv_iload hx hb zd_M_ofBestCut_24 (lv_at hl 6 rfl) ?_
        refine x_iald (v := A 11 k1) hx hb hK.1 hP 11 0 ga_11 rfl (by decide) (by omega) (by omega) (rfl) zd_M_ofBestCut_26 ?_
        refine x_imul hx hb zd_M_ofBestCut_27 ?_
        refine lv_iload hx hb zd_M_ofBestCut_28 (lv_at hl 4 rfl) ?_
        refine z_goi (z_runSN (n := 2) (As := [.int (iI ((A 7 k1) * (A 11 k1))), .int (iI (cm))]) (rest := []) S (c_C_divided l D q c _ F A ((A 7 k1) * (A 11 k1)) cm (by first | assumption | omega | exact ⟨by omega, by omega⟩) (by first | assumption | omega | exact ⟨by omega, by omega⟩)) zw_317 zw_234 zw_1 zw_235 ⟨by decide +kernel, by decide, rfl, rfl⟩ hK hP hD rfl hl.1 rfl (Nat.le_of_ble_eq_true rfl) zd_M_ofBestCut_30 ⟨Nat.zero_le _, Nat.zero_le _⟩) hD hS hA (fun z_30 F_30 A_30 H locs hq_30 hP hD hS => ?_)
        obtain ⟨hf_30, ha_30, hq_30⟩ := hq_30
        rw [hf_30, ha_30] at hP hD
        rw [if_neg (by omega)] at hq_30
        have t1_ := ht i k1 (by omega) (by omega) (by omega) (by omega)
        have t2_ := ht (k1 + 1) j (by omega) (by omega) (by omega) (by omega)
        have b1_ := RM_b hc4 hp9 (k1 - i).toNat i (by omega) (by omega)
        have b2_ := RM_b hc4 hp9 (j - (k1 + 1)).toNat (k1 + 1) (by omega) (by omega)
        have q_ := tdv_b (a := A 7 k1 * A 11 k1) (b := cm) (B := 3600) (by omega) (by omega)
        rw [← hq_30] at q_
        have v_ := rmV_e (cn := A 7) (pu := A 11) (i := i) (j := j) (k := k1) (by omega) (by omega)
        rw [← hcm, ← hq_30] at v_
        refine lv_istore (lv' := [(7, .int (iI (z_30))), (0, .ref (q 4)), (1, .ref (q 1)), (2, .int (iI (i))), (3, .int (iI (j))), (4, .int (iI (cm))), (5, .int (iI (be))), (6, .int (iI (k1)))]) hx hb zd_M_ofBestCut_33 hl (by decide) rfl (fun ls hl => ?_)
        refine lv_iload hx hb zd_M_ofBestCut_35 (lv_at hl 6 rfl) ?_
        refine lv_aload_n hx hb zd_M_ofBestCut_37 rfl (lv_at hl 1 rfl) ?_
        refine va_get (D := D) (ci := 4) (v := .ref (q 26)) (C := zR_M) (T := zT_M) (N := 1) hx hb hts zi_M hown hK.1 hP 4 ga_4 rfl 0 (by decide) (hts _ zw_181) (fun _ h9 => h9) rfl zd_M_ofBestCut_38 ?_
        refine lv_iload_n hx hb zd_M_ofBestCut_41 rfl (lv_at hl 3 rfl) ?_
        refine x_aald hx hb hK.1 hP (i := i) (by omega) (by omega) zd_M_ofBestCut_42 ?_
        refine lv_iload hx hb zd_M_ofBestCut_43 (lv_at hl 7 rfl) ?_
        refine x_iald (v := RM (A 7) (A 11) i (k1 - i).toNat) hx hb hK.1 hP (27 + (i : Int).toNat) 0 (ga_row (by omega)) rfl (by decide) (by omega) (by omega) (t1_) zd_M_ofBestCut_45 ?_
        refine lv_aload_n hx hb zd_M_ofBestCut_46 rfl (lv_at hl 1 rfl) ?_
        refine va_get (D := D) (ci := 4) (v := .ref (q 26)) (C := zR_M) (T := zT_M) (N := 1) hx hb hts zi_M hown hK.1 hP 4 ga_4 rfl 0 (by decide) (hts _ zw_181) (fun _ h9 => h9) rfl zd_M_ofBestCut_47 ?_
        refine lv_iload hx hb zd_M_ofBestCut_50 (lv_at hl 7 rfl) ?_
        refine lv_iconst (v := iI (1)) hx hb zd_M_ofBestCut_52 rfl ?_
        refine x_iadd hx hb zd_M_ofBestCut_53 ?_
        refine x_aald hx hb hK.1 hP (i := k1 + 1) (by omega) (by omega) zd_M_ofBestCut_54 ?_
        refine lv_iload_n hx hb zd_M_ofBestCut_55 rfl (lv_at hl 4 rfl) ?_
        refine x_iald (v := RM (A 7) (A 11) (k1 + 1) (j - (k1 + 1)).toNat) hx hb hK.1 hP (27 + (k1 + 1 : Int).toNat) 0 (ga_row (by omega)) rfl (by decide) (by omega) (by omega) (t2_) zd_M_ofBestCut_56 ?_
        refine x_iadd hx hb zd_M_ofBestCut_57 ?_
        refine lv_iload hx hb zd_M_ofBestCut_58 (lv_at hl 0 rfl) ?_
        refine x_iadd hx hb zd_M_ofBestCut_60 ?_
        refine x_mmin hx hb (S.2.2.1.trans hl.1.symm) hown (hts _ zw_318) (hts _ zw_245) (hts _ zw_7) (hts _ zw_246) (by decide) (Nat.le_of_ble_eq_true rfl) (Nat.zero_le _) (Nat.zero_le _) (⟨by omega, by omega⟩) (⟨by omega, by omega⟩) zd_M_ofBestCut_61 ?_
        refine lv_istore (lv' := [(5, .int (iI (min be (((RM (A 7) (A 11) i (k1 - i).toNat) + (RM (A 7) (A 11) (k1 + 1) (j - (k1 + 1)).toNat)) + z_30)))), (7, .int (iI (z_30))), (0, .ref (q 4)), (1, .ref (q 1)), (2, .int (iI (i))), (3, .int (iI (j))), (4, .int (iI (cm))), (6, .int (iI (k1)))]) hx hb zd_M_ofBestCut_64 hl (by decide) rfl (fun ls hl => ?_)
        refine lv_iinc (v := iI (k1 + 1)) (lv' := [(6, .int (iI (k1 + 1))), (5, .int (iI (min be (((RM (A 7) (A 11) i (k1 - i).toNat) + (RM (A 7) (A 11) (k1 + 1) (j - (k1 + 1)).toNat)) + z_30)))), (7, .int (iI (z_30))), (0, .ref (q 4)), (1, .ref (q 1)), (2, .int (iI (i))), (3, .int (iI (j))), (4, .int (iI (cm)))]) hx hb zd_M_ofBestCut_66 hl (k := 7) rfl (iI_add _ _) (by decide) rfl (fun ls hl => ?_)
        refine lv_goto (tgt := 7) hx hb zd_M_ofBestCut_69 (by decide) ?_
        exact ih_7 (min be (((RM (A 7) (A 11) i (k1 - i).toNat) + (RM (A 7) (A 11) (k1 + 1) (j - (k1 + 1)).toNat)) + z_30)) (k1 + 1)   (by first | assumption | omega | (simp_all; done)) (Or.inr ⟨by omega, by (rcases hbe with ⟨h1, h2⟩ | ⟨h1, h2⟩; (rw [h1, rmB_0]; rw [h1, show (i - i).toNat = 0 by omega] at v_; rw [v_, h2]; rw [h1] at b1_ b2_; rw [show (i - i).toNat = 0 by omega] at b1_ ⊢; omega); (rw [rmB_s h1, ← h2, v_]))⟩) (by first | assumption | omega | (simp_all; done)) (by omega) _ _ hP hD hS ls (lv_sub hl [3, 4, 5, 6, 7, 1, 0] rfl)
  exact L_7 (((j - (i) : Int) + 1).toNat) (2147483647) (i)   (by first | assumption | omega | (simp_all; done)) (Or.inl ⟨rfl, rfl⟩) (by first | assumption | omega | (simp_all; done)) (by omega) _ _ hP hD hS ls (lv_sub hl [2, 3, 4, 5, 6, 1, 0] rfl)

abbrev zr_M_ofAll : Room := ({ frames := 2, cells := 0, slots := 0, locals := 56 } : Room)
set_option maxHeartbeats 4000000 in
set_option maxRecDepth 100000 in
theorem c_M_ofAll (l : Launch) (D : va_G) (q : Nat → Nat) (c : Nat → ClassId) (sz : Nat) (F : Nat → Int) (A : Nat → Int → Int)  (hn : 1 ≤ F 100 ∧ F 100 ≤ 8) (hc4 : ∀ a, 0 ≤ a → a < F 100 → 1 ≤ A 7 a ∧ A 7 a ≤ 400) (hp9 : ∀ a, 0 ≤ a → a < F 100 - 1 → 1 ≤ A 11 a ∧ A 11 a ≤ 9) : zMI l zy_M_ofAll zc_M_ofAll 5 (some .int) zr_M_ofAll D q c sz [.ref (q 4), .ref (q 1)] F A (fun z F1 A1 => F1 = F ∧ (∀ k, k < 27 ∨ 34 < k → A1 k = A k) ∧ z = RM (A 7) (A 11) 0 (F 100 - 1).toNat) := by
  refine z_ofI (by decide) (Nat.le_of_ble_eq_true rfl) ?_
  intro p e s m args below meth c0 A0 Q C0 ret hP hD hS ls hl
  obtain ⟨S, hK, hA⟩ := C0
  have hx := S.1
  have hb := S.2.1
  have hown := S.2.2.2.1
  have hts : ∀ w ∈ zG, w.before args s = true := fun w h => S.2.2.2.2 w (List.mem_cons_of_mem _ h)
  have hl : lv_has ls 5 [(0, .ref (q 4)), (1, .ref (q 1))] := hl
  refine lv_aload_n hx hb zd_M_ofAll_0 rfl (lv_at hl 1 rfl) ?_
  refine va_getN (D := D) (ci := 1) (v := .int (iI (F 100))) (C := zR_N) (T := zT_N) (N := 11) hx hb hts zi_N hown hK.1 hP 1 ga_1 rfl 0 (by decide) (zNW.use hK.2 zw_32) (fun _ h9 => h9) rfl zd_M_ofAll_1 ?_
  refine lv_iconst (v := iI (1)) hx hb zd_M_ofAll_4 rfl ?_
  refine x_isub hx hb zd_M_ofAll_5 ?_
  refine lv_istore_n (lv' := [(2, .int (iI ((F 100) - 1))), (0, .ref (q 4)), (1, .ref (q 1))]) hx hb zd_M_ofAll_6 rfl hl (by decide) rfl (fun ls hl => ?_)
  have L_7 : ∀ (fu : Nat) (i : Int)  (A7 : Nat → Int → Int), (-1 ≤ i ∧ i < F 100) → (∀ k, k < 27 ∨ 34 < k → A7 k = A k) → (∀ x y, 0 ≤ x → i < x → x ≤ y → y < F 100 → A7 (27 + x.toNat) y = RM (A 7) (A 11) x (y - x).toNat) → (i + 1 < (fu : Int)) → ∀ (H : Heap) (locs : List Loc), va_P D zcl (gw q c F A7) H → va_D A0 (gw q c F A7) → va_S A0 s.heap H locs → ∀ ls : Array Slot, lv_has ls 5 [(0, .ref (q 4)), (1, .ref (q 1)), (2, .int (iI (i)))] → W p l e zr_M_ofAll s m args below meth c0 H locs 0 0 Q (F0 m 7 ls []) := by
    intro fu
    induction fu with
    | zero => intro i  A7 hi hk ht hm_7; exact absurd hm_7 (by omega)
    | succ fu ih_7 =>
      intro i  A7 hi hk ht hm_7 H locs hP hD hS ls hl
      have e7 := hk 7 (by decide)
      refine lv_iload_n hx hb zd_M_ofAll_7 rfl (lv_at hl 2 rfl) ?_
      refine x_if_lt (tgt := 83) hx hb zd_M_ofAll_8 (by decide) (⟨by omega, by omega⟩) (fun h_8 => ?_) (fun h_8 => ?_)
      · have e_ : i = -1 := by omega
        refine lv_aload_n hx hb zd_M_ofAll_83 rfl (lv_at hl 0 rfl) ?_
        refine va_get (D := D) (ci := 4) (v := .ref (q 26)) (C := zR_M) (T := zT_M) (N := 1) hx hb hts zi_M hown hK.1 hP 4 ga_4 rfl 0 (by decide) (hts _ zw_181) (fun _ h9 => h9) rfl zd_M_ofAll_84 ?_
        refine lv_iconst (v := iI (0)) hx hb zd_M_ofAll_87 rfl ?_
        refine x_aald hx hb hK.1 hP (i := 0) (by omega) (by omega) zd_M_ofAll_88 ?_
        refine lv_aload_n hx hb zd_M_ofAll_89 rfl (lv_at hl 1 rfl) ?_
        refine va_getN (D := D) (ci := 1) (v := .int (iI (F 100))) (C := zR_N) (T := zT_N) (N := 11) hx hb hts zi_N hown hK.1 hP 1 ga_1 rfl 0 (by decide) (zNW.use hK.2 zw_32) (fun _ h9 => h9) rfl zd_M_ofAll_90 ?_
        refine lv_iconst (v := iI (1)) hx hb zd_M_ofAll_93 rfl ?_
        refine x_isub hx hb zd_M_ofAll_94 ?_
        refine x_iald (v := RM (A 7) (A 11) 0 (F 100 - 1).toNat) hx hb hK.1 hP (27 + (0 : Int).toNat) 0 (ga_row (by omega)) rfl (by decide) (by omega) (by omega) (by have h9 := ht 0 (F 100 - 1) (by omega) (by omega) (by omega) (by omega); rw [show F 100 - 1 - 0 = F 100 - 1 by omega] at h9; exact h9) zd_M_ofAll_95 ?_
        exact ret _ _ _ _ _ _ _ zd_M_ofAll_96 hP hD hS (⟨rfl, hk, rfl⟩)
      · have c_ := hc4 i (by omega) (by omega)
        refine lv_aload_n hx hb zd_M_ofAll_11 rfl (lv_at hl 0 rfl) ?_
        refine va_get (D := D) (ci := 4) (v := .ref (q 26)) (C := zR_M) (T := zT_M) (N := 1) hx hb hts zi_M hown hK.1 hP 4 ga_4 rfl 0 (by decide) (hts _ zw_181) (fun _ h9 => h9) rfl zd_M_ofAll_12 ?_
        refine lv_iload_n hx hb zd_M_ofAll_15 rfl (lv_at hl 2 rfl) ?_
        refine x_aald hx hb hK.1 hP (i := i) (by omega) (by omega) zd_M_ofAll_16 ?_
        refine lv_iload_n hx hb zd_M_ofAll_17 rfl (lv_at hl 2 rfl) ?_
        refine lv_iconst (v := iI (0)) hx hb zd_M_ofAll_18 rfl ?_
        refine x_iast hx hb hK.1 hP hD hS (27 + (i : Int).toNat) 0 (ga_row (by omega)) rfl (by decide) (by omega) (by omega) zd_M_ofAll_19 (fun H locs hP hD hS => ?_)
        rw [gs_row (by omega)] at hP hD
        refine lv_aload_n hx hb zd_M_ofAll_20 rfl (lv_at hl 1 rfl) ?_
        refine va_getN (D := D) (ci := 1) (v := .ref (q 7)) (C := zR_N) (T := zT_N) (N := 11) hx hb hts zi_N hown hK.1 hP 1 ga_1 rfl 4 (by decide) (zNW.use hK.2 zw_47) (fun _ h9 => h9) rfl zd_M_ofAll_21 ?_
        refine lv_iload_n hx hb zd_M_ofAll_24 rfl (lv_at hl 2 rfl) ?_
        refine x_iald (v := A 7 i) hx hb hK.1 hP 7 0 ga_7 rfl (by decide) (by omega) (by omega) (by rw [auP_off (by omega) (by omega), e7]) zd_M_ofAll_25 ?_
        refine lv_istore_n (lv' := [(3, .int (iI (A 7 i))), (0, .ref (q 4)), (1, .ref (q 1)), (2, .int (iI (i)))]) hx hb zd_M_ofAll_26 rfl hl (by decide) rfl (fun ls hl => ?_)
        refine lv_iload_n hx hb zd_M_ofAll_27 rfl (lv_at hl 3 rfl) ?_
        refine lv_iconst (v := iI (1)) hx hb zd_M_ofAll_28 rfl ?_
        refine x_iadd hx hb zd_M_ofAll_29 ?_
        refine lv_istore (lv' := [(4, .int (iI (i + 1))), (3, .int (iI (A 7 i))), (0, .ref (q 4)), (1, .ref (q 1)), (2, .int (iI (i)))]) hx hb zd_M_ofAll_30 hl (by decide) rfl (fun ls hl => ?_)
        have L_32 : ∀ (fu : Nat) (cm : Int) (j : Int)  (A32 : Nat → Int → Int), (i + 1 ≤ j ∧ j ≤ F 100) → (∀ k, k < 27 ∨ 34 < k → A32 k = A k) → (cm = dvN (A 7) i (j - 1 - i).toNat) → (1 ≤ cm ∧ cm ≤ 400) → (∀ x y, 0 ≤ x → (i < x ∨ (x = i ∧ y < j)) → x ≤ y → y < F 100 → A32 (27 + x.toNat) y = RM (A 7) (A 11) x (y - x).toNat) → (F 100 - j < (fu : Int)) → ∀ (H : Heap) (locs : List Loc), va_P D zcl (gw q c F A32) H → va_D A0 (gw q c F A32) → va_S A0 s.heap H locs → ∀ ls : Array Slot, lv_has ls 5 [(0, .ref (q 4)), (1, .ref (q 1)), (2, .int (iI (i))), (3, .int (iI (cm))), (4, .int (iI (j)))] → W p l e zr_M_ofAll s m args below meth c0 H locs 0 0 Q (F0 m 32 ls []) := by
          intro fu
          induction fu with
          | zero => intro cm j  A32 hj hk hcm hcb ht hm_32; exact absurd hm_32 (by omega)
          | succ fu ih_32 =>
            intro cm j  A32 hj hk hcm hcb ht hm_32 H locs hP hD hS ls hl
            have e7 := hk 7 (by decide)
            have e11 := hk 11 (by decide)
            refine lv_iload hx hb zd_M_ofAll_32 (lv_at hl 4 rfl) ?_
            refine lv_aload_n hx hb zd_M_ofAll_34 rfl (lv_at hl 1 rfl) ?_
            refine va_getN (D := D) (ci := 1) (v := .int (iI (F 100))) (C := zR_N) (T := zT_N) (N := 11) hx hb hts zi_N hown hK.1 hP 1 ga_1 rfl 0 (by decide) (zNW.use hK.2 zw_32) (fun _ h9 => h9) rfl zd_M_ofAll_35 ?_
            refine x_icmp_ge (tgt := 77) hx hb zd_M_ofAll_38 (by decide) (⟨by omega, by omega⟩) (⟨by omega, by omega⟩) (fun h_38 => ?_) (fun h_38 => ?_)
            · refine lv_iinc (v := iI (i + (-1))) (lv' := [(2, .int (iI (i + (-1)))), (0, .ref (q 4)), (1, .ref (q 1)), (3, .int (iI (cm))), (4, .int (iI (j)))]) hx hb zd_M_ofAll_77 hl (k := 2) rfl (iI_add _ _) (by decide) rfl (fun ls hl => ?_)
              refine lv_goto (tgt := 7) hx hb zd_M_ofAll_80 (by decide) ?_
              exact ih_7 (i + (-1))  A32 (by first | assumption | omega | (simp_all; done)) (hk) (fun x y h0 h1 h2 h3 => ht x y h0 (by omega) h2 h3) (by omega) _ _ hP hD hS ls (lv_sub hl [1, 2, 0] rfl)
            · have c_ := hc4 j (by omega) (by omega)
              have ci_ := hc4 i (by omega) (by omega)
              refine lv_iload_n hx hb zd_M_ofAll_41 rfl (lv_at hl 3 rfl) ?_
              refine lv_aload_n hx hb zd_M_ofAll_42 rfl (lv_at hl 1 rfl) ?_
              refine va_getN (D := D) (ci := 1) (v := .ref (q 7)) (C := zR_N) (T := zT_N) (N := 11) hx hb hts zi_N hown hK.1 hP 1 ga_1 rfl 4 (by decide) (zNW.use hK.2 zw_47) (fun _ h9 => h9) rfl zd_M_ofAll_43 ?_
              refine lv_iload hx hb zd_M_ofAll_46 (lv_at hl 4 rfl) ?_
              refine x_iald (v := A 7 j) hx hb hK.1 hP 7 0 ga_7 rfl (by decide) (by omega) (by omega) (by rw [e7]) zd_M_ofAll_48 ?_
              refine z_goi (z_runSN (n := 2) (As := [.int (iI (cm)), .int (iI (A 7 j))]) (rest := []) S (c_C_commonDivisor l D q c _ F A32 cm (A 7 j) (by first | assumption | omega | exact ⟨by omega, by omega⟩) (by first | assumption | omega | exact ⟨by omega, by omega⟩)) zw_311 zw_231 zw_1 zw_232 ⟨by decide +kernel, by decide, rfl, rfl⟩ hK hP hD rfl hl.1 rfl (Nat.le_of_ble_eq_true rfl) zd_M_ofAll_49 ⟨Nat.zero_le _, Nat.zero_le _⟩) hD hS hA (fun z_49 F_49 A_49 H locs hq_49 hP hD hS => ?_)
              obtain ⟨hf_49, ha_49, hq_49⟩ := hq_49
              rw [hf_49, ha_49] at hP hD
              have g1_ := gI_pos (a := cm) (b := A 7 j) (by omega)
              have g2_ := gI_le (a := cm) (b := A 7 j) (by omega)
              rw [← hq_49] at g1_ g2_
              have hcm2_ : z_49 = dvN (A 7) i (j - i).toNat := by (rw [hq_49, show (j - i).toNat = (j - 1 - i).toNat + 1 by omega]; show gI cm (A 7 j) = gI (dvN (A 7) i (j - 1 - i).toNat) (A 7 (i + ((j - 1 - i).toNat : Int) + 1)); rw [← hcm, show i + ((j - 1 - i).toNat : Int) + 1 = j by omega])
              refine lv_istore_n (lv' := [(3, .int (iI (z_49))), (0, .ref (q 4)), (1, .ref (q 1)), (2, .int (iI (i))), (4, .int (iI (j)))]) hx hb zd_M_ofAll_52 rfl hl (by decide) rfl (fun ls hl => ?_)
              refine lv_aload_n hx hb zd_M_ofAll_53 rfl (lv_at hl 1 rfl) ?_
              refine va_get (D := D) (ci := 4) (v := .ref (q 26)) (C := zR_M) (T := zT_M) (N := 1) hx hb hts zi_M hown hK.1 hP 4 ga_4 rfl 0 (by decide) (hts _ zw_181) (fun _ h9 => h9) rfl zd_M_ofAll_54 ?_
              refine lv_iload_n hx hb zd_M_ofAll_57 rfl (lv_at hl 3 rfl) ?_
              refine x_aald hx hb hK.1 hP (i := i) (by omega) (by omega) zd_M_ofAll_58 ?_
              refine lv_iload hx hb zd_M_ofAll_59 (lv_at hl 4 rfl) ?_
              refine lv_aload_n hx hb zd_M_ofAll_61 rfl (lv_at hl 1 rfl) ?_
              refine lv_aload_n hx hb zd_M_ofAll_62 rfl (lv_at hl 2 rfl) ?_
              refine lv_iload_n hx hb zd_M_ofAll_63 rfl (lv_at hl 3 rfl) ?_
              refine lv_iload hx hb zd_M_ofAll_64 (lv_at hl 4 rfl) ?_
              refine lv_iload_n hx hb zd_M_ofAll_66 rfl (lv_at hl 0 rfl) ?_
              refine z_goi (z_runV (n := 4) (k := 4) (ci := 4) (As := [.ref (q 1), .int (iI (i)), .int (iI (j)), .int (iI (z_49))]) (rest := [.int (iI (j)), .ref (q (27 + (i : Int).toNat))]) S (c_M_ofBestCut l D q c _ F A32 i j z_49 (by first | omega | (rw [e7, e11]; first | assumption | exact fun x y h0 h1 h2 h3 => ht x y (by omega) (by omega) h1 (by omega)) | (rw [e7]; assumption) | (rw [e11]; assumption)) (by first | omega | (rw [e7, e11]; first | assumption | exact fun x y h0 h1 h2 h3 => ht x y (by omega) (by omega) h1 (by omega)) | (rw [e7]; assumption) | (rw [e11]; assumption)) (by first | omega | (rw [e7, e11]; first | assumption | exact fun x y h0 h1 h2 h3 => ht x y (by omega) (by omega) h1 (by omega)) | (rw [e7]; assumption) | (rw [e11]; assumption)) (by first | omega | (rw [e7, e11]; first | assumption | exact fun x y h0 h1 h2 h3 => ht x y (by omega) (by omega) h1 (by omega)) | (rw [e7]; assumption) | (rw [e11]; assumption)) (by first | omega | (rw [e7, e11]; first | assumption | exact fun x y h0 h1 h2 h3 => ht x y (by omega) (by omega) h1 (by omega)) | (rw [e7]; assumption) | (rw [e11]; assumption)) (by first | omega | (rw [e7, e11]; first | assumption | exact fun x y h0 h1 h2 h3 => ht x y (by omega) (by omega) h1 (by omega)) | (rw [e7]; assumption) | (rw [e11]; assumption)) (by first | omega | (rw [e7, e11]; first | assumption | exact fun x y h0 h1 h2 h3 => ht x y (by omega) (by omega) h1 (by omega)) | (rw [e7]; assumption) | (rw [e11]; assumption))) zw_312 zw_314 zs_18 zw_5 zw_315 ⟨by decide +kernel, by decide, rfl, rfl⟩ hK hP hD ga_4 rfl rfl rfl hl.1 rfl (Nat.le_of_ble_eq_true rfl) zd_M_ofAll_67 ⟨Nat.zero_le _, Nat.zero_le _⟩) hD hS hA (fun z_67 F_67 A_67 H locs hq_67 hP hD hS => ?_)
              obtain ⟨hf_67, ha_67, hq_67⟩ := hq_67
              rw [hf_67, ha_67] at hP hD
              refine x_iast hx hb hK.1 hP hD hS (27 + (i : Int).toNat) 0 (ga_row (by omega)) rfl (by decide) (by omega) (by omega) zd_M_ofAll_70 (fun H locs hP hD hS => ?_)
              rw [gs_row (by omega)] at hP hD
              refine lv_iinc (v := iI (j + 1)) (lv' := [(4, .int (iI (j + 1))), (3, .int (iI (z_49))), (0, .ref (q 4)), (1, .ref (q 1)), (2, .int (iI (i)))]) hx hb zd_M_ofAll_71 hl (k := 4) rfl (iI_add _ _) (by decide) rfl (fun ls hl => ?_)
              refine lv_goto (tgt := 32) hx hb zd_M_ofAll_74 (by decide) ?_
              exact ih_32 (z_49) (j + 1)  (auP A32 (27 + (i : Int).toNat) j z_67) (by first | assumption | omega | (simp_all; done)) (fun k h => by rw [auP_off (by omega) h]; exact hk k h) (by rw [show j + 1 - 1 - i = j - i by omega]; exact hcm2_) (by first | assumption | omega | (simp_all; done)) (fun x y h0 h1 h2 h3 => by rw [auP_row (by omega) h0]; by_cases e_ : x = i ∧ y = j; (rw [if_pos e_, e_.1, e_.2, hq_67, e7, e11]); (rw [if_neg e_]; exact ht x y h0 (by omega) h2 h3)) (by omega) _ _ hP hD hS ls (lv_sub hl [2, 3, 4, 1, 0] rfl)
        exact L_32 (((F 100 - (i + 1) : Int) + 1).toNat) (A 7 i) (i + 1)  (auP A7 (27 + (i : Int).toNat) i 0) (by first | assumption | omega | (simp_all; done)) (fun k h => by rw [auP_off (by omega) h]; exact hk k h) (by rw [show i + 1 - 1 - i = 0 by omega]; rfl) (by first | assumption | omega | (simp_all; done)) (fun x y h0 h1 h2 h3 => by rw [auP_row (by omega) h0]; by_cases e_ : x = i ∧ y = i; (rw [if_pos e_, e_.1, e_.2, show i - i = 0 by omega]; rfl); (rw [if_neg e_]; exact ht x y h0 (by omega) h2 h3)) (by omega) _ _ hP hD hS ls (lv_sub hl [2, 3, 4, 1, 0] rfl)
  exact L_7 (((((F 100) - 1) + 1 : Int) + 1).toNat) ((F 100) - 1)  A (by first | assumption | omega | (simp_all; done)) (fun k _ => rfl) (fun x y h0 h1 h2 h3 => by omega) (by omega) _ _ hP hD hS ls (lv_sub hl [1, 2, 0] rfl)

abbrev zr_C_room : Room := ({ frames := 3, cells := 0, slots := 0, locals := 80 } : Room)
set_option maxHeartbeats 4000000 in
set_option maxRecDepth 100000 in
theorem c_C_room (l : Launch) (D : va_G) (q : Nat → Nat) (c : Nat → ClassId) (sz : Nat) (F : Nat → Int) (A : Nat → Int → Int)  (hn : 1 ≤ F 100 ∧ F 100 ≤ 8) (hc : 0 ≤ F 101 ∧ F 101 ≤ 14) (hact : ∀ a, 0 ≤ a → a < 8 → (1 ≤ A 7 a ∧ A 7 a ≤ 4782969) ∧ 0 ≤ A 8 a ∧ A 8 a < 8) (hch : ∀ k, 0 ≤ k → k < F 101 → (0 ≤ A 9 k ∧ A 9 k < F 100) ∧ (0 ≤ A 10 k ∧ A 10 k < F 100) ∧ (1 ≤ A 11 k ∧ A 11 k ≤ 9) ∧ (1 ≤ A 12 k ∧ A 12 k ≤ 9) ∧ 0 ≤ A 13 k ∧ A 13 k ≤ 99) : zMI l zy_C_room zc_C_room 1 (some .int) zr_C_room D q c sz [.ref (q 0)] F A (fun z F1 A1 => F1 = F ∧ (∀ k, k < 27 ∨ 34 < k → A1 k = A k) ∧ ((F 101 = F 100 - 1 ∧ ∀ k, 0 ≤ k → k < F 101 → A 9 k = k ∧ A 10 k = k + 1 ∧ A 13 k = 0) ∧ sI (A 7) (F 100) ≤ 400 → z = RM (A 7) (A 11) 0 (F 100 - 1).toNat) ∧ (¬ ((F 101 = F 100 - 1 ∧ ∀ k, 0 ≤ k → k < F 101 → A 9 k = k ∧ A 10 k = k + 1 ∧ A 13 k = 0) ∧ sI (A 7) (F 100) ≤ 400) → z = -1)) := by
  refine z_ofI (by decide) (Nat.le_of_ble_eq_true rfl) ?_
  intro p e s m args below meth c0 A0 Q C0 ret hP hD hS ls hl
  obtain ⟨S, hK, hA⟩ := C0
  have hx := S.1
  have hb := S.2.1
  have hown := S.2.2.2.1
  have hts : ∀ w ∈ zG, w.before args s = true := fun w h => S.2.2.2.2 w (List.mem_cons_of_mem _ h)
  have hl : lv_has ls 1 [(0, .ref (q 0))] := hl
  refine lv_aload_n hx hb zd_C_room_0 rfl (lv_at hl 0 rfl) ?_
  refine va_get (D := D) (ci := 0) (v := .ref (q 1)) (C := zR_C) (T := zT_C) (N := 4) hx hb hts zi_C hown hK.1 hP 0 ga_0 rfl 0 (by decide) (hts _ zw_185) (fun _ h9 => h9) rfl zd_C_room_1 ?_
  refine z_goi (z_runVN (n := 0) (k := 1) (ci := 1) (As := []) (rest := []) S (c_N_isChain l D q c _ F A (by first | assumption | omega | exact ⟨by omega, by omega⟩) (by first | assumption | omega | exact ⟨by omega, by omega⟩) (by first | assumption | omega | exact ⟨by omega, by omega⟩)) zw_303 zw_305 zs_16 zw_2 zw_306 ⟨by decide +kernel, by decide, rfl, rfl⟩ hK hP hD ga_1 rfl rfl rfl hl.1 rfl (Nat.le_of_ble_eq_true rfl) zd_C_room_4 ⟨Nat.zero_le _, Nat.zero_le _⟩) hD hS hA (fun z_4 F_4 A_4 H locs hq_4 hP hD hS => ?_)
  obtain ⟨hf_4, ha_4, hq_4⟩ := hq_4
  rw [hf_4, ha_4] at hP hD
  have b4_ : z_4 = 0 ∨ z_4 = 1 := hq_4.1
  refine x_if_eq (tgt := 34) hx hb zd_C_room_7 (by decide) (⟨by omega, by omega⟩) (fun h_7 => ?_) (fun h_7 => ?_)
  · refine lv_iconst (v := iI (-1)) hx hb zd_C_room_34 rfl ?_
    exact ret _ _ _ _ _ _ _ zd_C_room_35 hP hD hS (by first | exact ⟨rfl, s1, fun _ => s2, fun h => absurd ⟨hch_, hs_⟩ h⟩ | exact ⟨rfl, fun _ _ => rfl, fun h => by (have := hq_4.2.mpr h.1; omega), fun _ => rfl⟩ | exact ⟨rfl, fun _ _ => rfl, fun h => by (rw [if_neg (by omega)] at hq_14; omega), fun _ => rfl⟩)
  · have hch_ := hq_4.2.mp (by omega)
    have hcn_ : F 101 = F 100 - 1 := hch_.1
    refine lv_aload_n hx hb zd_C_room_10 rfl (lv_at hl 0 rfl) ?_
    refine va_get (D := D) (ci := 0) (v := .ref (q 1)) (C := zR_C) (T := zT_C) (N := 4) hx hb hts zi_C hown hK.1 hP 0 ga_0 rfl 0 (by decide) (hts _ zw_185) (fun _ h9 => h9) rfl zd_C_room_11 ?_
    refine z_goi (z_runVN (n := 0) (k := 1) (ci := 1) (As := []) (rest := []) S (c_N_isGreat l D q c _ F A (by first | assumption | omega | exact ⟨by omega, by omega⟩) (fun a h0 h1 => (hact a h0 h1).1)) zw_266 zw_268 zs_9 zw_2 zw_269 ⟨by decide +kernel, by decide, rfl, rfl⟩ hK hP hD ga_1 rfl rfl rfl hl.1 rfl (Nat.le_of_ble_eq_true rfl) zd_C_room_14 ⟨Nat.zero_le _, Nat.zero_le _⟩) hD hS hA (fun z_14 F_14 A_14 H locs hq_14 hP hD hS => ?_)
    obtain ⟨hf_14, ha_14, hq_14⟩ := hq_14
    rw [hf_14, ha_14] at hP hD
    have b14_ : z_14 = 0 ∨ z_14 = 1 := by rw [hq_14]; split <;> simp
    refine x_if_ne (tgt := 34) hx hb zd_C_room_17 (by decide) (⟨by omega, by omega⟩) (fun h_17 => ?_) (fun h_17 => ?_)
    · refine lv_iconst (v := iI (-1)) hx hb zd_C_room_34 rfl ?_
      exact ret _ _ _ _ _ _ _ zd_C_room_35 hP hD hS (by first | exact ⟨rfl, s1, fun _ => s2, fun h => absurd ⟨hch_, hs_⟩ h⟩ | exact ⟨rfl, fun _ _ => rfl, fun h => by (have := hq_4.2.mpr h.1; omega), fun _ => rfl⟩ | exact ⟨rfl, fun _ _ => rfl, fun h => by (rw [if_neg (by omega)] at hq_14; omega), fun _ => rfl⟩)
    · have hs_ : sI (A 7) (F 100) ≤ 400 := by (rw [hq_14] at h_17; split at h_17; omega; omega)
      have hc4_ : ∀ a, 0 ≤ a → a < F 100 → 1 ≤ A 7 a ∧ A 7 a ≤ 400 := fun a h0 h1 => by (have h8 := sI_le (f := A 7) (n := F 100) (fun b b0 b1 => by have := hact b b0 (by omega); omega) a h0 h1; have := hact a h0 (by omega); omega)
      refine lv_aload_n hx hb zd_C_room_20 rfl (lv_at hl 0 rfl) ?_
      refine va_get (D := D) (ci := 0) (v := .ref (q 4)) (C := zR_C) (T := zT_C) (N := 4) hx hb hts zi_C hown hK.1 hP 0 ga_0 rfl 3 (by decide) (hts _ zw_188) (fun _ h9 => h9) rfl zd_C_room_21 ?_
      refine lv_aload_n hx hb zd_C_room_24 rfl (lv_at hl 0 rfl) ?_
      refine va_get (D := D) (ci := 0) (v := .ref (q 1)) (C := zR_C) (T := zT_C) (N := 4) hx hb hts zi_C hown hK.1 hP 0 ga_0 rfl 0 (by decide) (hts _ zw_185) (fun _ h9 => h9) rfl zd_C_room_25 ?_
      refine z_goi (z_runVN (n := 1) (k := 4) (ci := 4) (As := [.ref (q 1)]) (rest := []) S (c_M_ofAll l D q c _ F A (by first | assumption | omega | exact ⟨by omega, by omega⟩) (hc4_) (fun a h0 h1 => (hch a h0 (by omega)).2.2.1)) zw_307 zw_309 zs_17 zw_5 zw_310 ⟨by decide +kernel, by decide, rfl, rfl⟩ hK hP hD ga_4 rfl rfl rfl hl.1 rfl (Nat.le_of_ble_eq_true rfl) zd_C_room_28 ⟨Nat.zero_le _, Nat.zero_le _⟩) hD hS hA (fun z_28 F_28 A_28 H locs hq_28 hP hD hS => ?_)
      obtain ⟨hf_28, hq_28⟩ := hq_28
      rw [hf_28] at hP hD
      obtain ⟨s1, s2⟩ := hq_28
      refine lv_goto (tgt := 35) hx hb zd_C_room_31 (by decide) ?_
      exact ret _ _ _ _ _ _ _ zd_C_room_35 hP hD hS (by first | exact ⟨rfl, s1, fun _ => s2, fun h => absurd ⟨hch_, hs_⟩ h⟩ | exact ⟨rfl, fun _ _ => rfl, fun h => by (have := hq_4.2.mpr h.1; omega), fun _ => rfl⟩ | exact ⟨rfl, fun _ _ => rfl, fun h => by (rw [if_neg (by omega)] at hq_14; omega), fun _ => rfl⟩)
