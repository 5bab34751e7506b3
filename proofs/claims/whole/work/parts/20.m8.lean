/-! Edges as a set -/
def EIn (E : Int) (x y z : Int → Int) (u v w : Int) : Prop := ∃ e, 0 ≤ e ∧ e < E ∧ x e = u ∧ y e = v ∧ z e = w
theorem EIn_add {E : Int} {x y z : Int → Int} {s t r : Int} (hE : 0 ≤ E) (u v w : Int) : EIn (E + 1) (upI x E s) (upI y E t) (upI z E r) u v w ↔ EIn E x y z u v w ∨ (u = s ∧ v = t ∧ w = r) := by
  constructor
  · rintro ⟨e, h0, h1, h2, h3, h4⟩
    by_cases he : e = E
    · subst he
      rw [upI_s] at h2 h3 h4
      exact Or.inr ⟨h2.symm, h3.symm, h4.symm⟩
    · rw [upI_n he] at h2 h3 h4
      exact Or.inl ⟨e, h0, by omega, h2, h3, h4⟩
  · rintro (⟨e, h0, h1, h2, h3, h4⟩ | ⟨h1, h2, h3⟩)
    · have he : e ≠ E := by omega
      exact ⟨e, h0, by omega, by rw [upI_n he]; exact h2, by rw [upI_n he]; exact h3, by rw [upI_n he]; exact h4⟩
    · exact ⟨E, hE, by omega, by rw [upI_s]; exact h1.symm, by rw [upI_s]; exact h2.symm, by rw [upI_s]; exact h3.symm⟩
/-- the weight of an edge of the class -/
def cw (F : Nat → Int) (A : Nat → Int → Int) (e : Int) : Int := A 19 (A 20 e) * F 302 - A 22 e * F 301
theorem bnd0 {x y X Y : Int} (hx : 0 ≤ x ∧ x ≤ X) (hy : 0 ≤ y ∧ y ≤ Y) : 0 ≤ x * y ∧ x * y ≤ X * Y := ⟨Int.mul_nonneg hx.1 hy.1, Int.mul_le_mul hx.2 hy.2 hy.1 (by omega)⟩
section RA
variable {ef et w : Int → Int} {S T : (Int → Int) × (Int → Int)} {i r : Int}
theorem ra_toNat (h : 0 ≤ i) : (i + 1).toNat = i.toNat + 1 := by omega
theorem px_pass_s (h : 0 ≤ i) : px_pass ef et w S (i + 1).toNat = px_step ef et w (px_pass ef et w S i.toNat) i := by
  rw [ra_toNat h]
  show px_step ef et w (px_pass ef et w S i.toNat) (i.toNat : Int) = _
  rw [show ((i.toNat : Nat) : Int) = i by omega]
theorem px_rai_s (h : 0 ≤ i) : px_rai ef et w S (i + 1).toNat = (px_rai ef et w S i.toNat || decide ((px_pass ef et w S i.toNat).1 (et i) < (px_pass ef et w S i.toNat).1 (ef i) + w i)) := by
  rw [ra_toNat h]
  show (px_rai ef et w S i.toNat || decide ((px_pass ef et w S i.toNat).1 (et (i.toNat : Int)) < (px_pass ef et w S i.toNat).1 (ef (i.toNat : Int)) + w (i.toNat : Int))) = _
  rw [show ((i.toNat : Nat) : Int) = i by omega]
end RA
section RB
variable {F : Nat → Int} {A A4 : Nat → Int → Int} {i r : Int}
theorem ra_y (hp : (A4 23, A4 24) = px_pass (A 20) (A 21) (cw F A) (A 23, A 24) i.toNat) (hi : 0 ≤ i) (h : ¬ A4 23 (A 20 i) + A 19 (A 20 i) * F 302 - A 22 i * F 301 ≤ A4 23 (A 21 i)) :
    (upI (A4 23) (A 21 i) (A4 23 (A 20 i) + A 19 (A 20 i) * F 302 - A 22 i * F 301), upI (A4 24) (A 21 i) i) = px_pass (A 20) (A 21) (cw F A) (A 23, A 24) (i + 1).toNat := by
  rw [px_pass_s hi, ← hp]
  unfold px_step cw
  rw [if_pos (by show A4 23 (A 21 i) < A4 23 (A 20 i) + _; omega)]
  show _ = (upI (A4 23) (A 21 i) (A4 23 (A 20 i) + (A 19 (A 20 i) * F 302 - A 22 i * F 301)), upI (A4 24) (A 21 i) i)
  rw [show A4 23 (A 20 i) + (A 19 (A 20 i) * F 302 - A 22 i * F 301) = A4 23 (A 20 i) + A 19 (A 20 i) * F 302 - A 22 i * F 301 by omega]
theorem ra_n (hp : (A4 23, A4 24) = px_pass (A 20) (A 21) (cw F A) (A 23, A 24) i.toNat) (hi : 0 ≤ i) (h : A4 23 (A 20 i) + A 19 (A 20 i) * F 302 - A 22 i * F 301 ≤ A4 23 (A 21 i)) :
    (A4 23, A4 24) = px_pass (A 20) (A 21) (cw F A) (A 23, A 24) (i + 1).toNat := by
  rw [px_pass_s hi, ← hp]
  unfold px_step cw
  rw [if_neg (by show ¬ A4 23 (A 21 i) < A4 23 (A 20 i) + _; omega)]
theorem rr_y (hp : (A4 23, A4 24) = px_pass (A 20) (A 21) (cw F A) (A 23, A 24) i.toNat) (hi : 0 ≤ i) (h : ¬ A4 23 (A 20 i) + A 19 (A 20 i) * F 302 - A 22 i * F 301 ≤ A4 23 (A 21 i)) :
    (1 : Int) = if px_rai (A 20) (A 21) (cw F A) (A 23, A 24) (i + 1).toNat = true then 1 else 0 := by
  rw [px_rai_s hi, ← hp, if_pos]
  simp only [Bool.or_eq_true, decide_eq_true_eq]
  right
  show A4 23 (A 21 i) < A4 23 (A 20 i) + cw F A i
  unfold cw
  omega
theorem rr_n (hp : (A4 23, A4 24) = px_pass (A 20) (A 21) (cw F A) (A 23, A 24) i.toNat) (hr : r = if px_rai (A 20) (A 21) (cw F A) (A 23, A 24) i.toNat = true then 1 else 0) (hi : 0 ≤ i) (h : A4 23 (A 20 i) + A 19 (A 20 i) * F 302 - A 22 i * F 301 ≤ A4 23 (A 21 i)) :
    r = if px_rai (A 20) (A 21) (cw F A) (A 23, A 24) (i + 1).toNat = true then 1 else 0 := by
  rw [px_rai_s hi, ← hp, hr]
  have e : decide (A4 23 (A 21 i) < A4 23 (A 20 i) + cw F A i) = false := by
    rw [decide_eq_false_iff_not]; unfold cw; omega
  show _ = if (px_rai (A 20) (A 21) (cw F A) (A 23, A 24) i.toNat || decide (A4 23 (A 21 i) < A4 23 (A 20 i) + cw F A i)) = true then 1 else 0
  rw [e, Bool.or_false]
end RB
abbrev zr_P_addEdge : Room := ({ frames := 0, cells := 0, slots := 0, locals := 0 } : Room)
set_option maxHeartbeats 4000000 in
set_option maxRecDepth 100000 in
theorem c_P_addEdge (l : Launch) (D : va_G) (q : Nat → Nat) (c : Nat → ClassId) (sz : Nat) (F : Nat → Int) (A : Nat → Int → Int) (s1 : Int) (t1 : Int) (r1 : Int) (hE : 0 ≤ F 304 ∧ F 304 < 600) (hs1 : 0 ≤ s1 ∧ s1 < 40) (ht1 : 0 ≤ t1 ∧ t1 < 40) : zMV l zy_P_addEdge zc_P_addEdge 4 none zr_P_addEdge D q c sz [.ref (q 3), .int (iI (s1)), .int (iI (t1)), .int (iI (r1))] F A (fun F1 A1 => F1 = fuP F 304 (F 304 + 1) ∧ A1 = auP (auP (auP A 20 (F 304) s1) 21 (F 304) t1) 22 (F 304) r1) := by
  refine z_ofV (by decide) (Nat.le_of_ble_eq_true rfl) ?_
  intro p e s m args below meth c0 A0 Q C0 ret hP hD hS ls hl
  obtain ⟨S, hK, hA⟩ := C0
  have hx := S.1
  have hb := S.2.1
  have hown := S.2.2.2.1
  have hts : ∀ w ∈ zG, w.before args s = true := fun w h => S.2.2.2.2 w (List.mem_cons_of_mem _ h)
  have hl : lv_has ls 4 [(0, .ref (q 3)), (1, .int (iI (s1))), (2, .int (iI (t1))), (3, .int (iI (r1)))] := hl
  refine lv_aload_n hx hb zd_P_addEdge_0 rfl (lv_at hl 0 rfl) ?_
  refine va_get (D := D) (ci := 3) (v := .int (iI (F 304))) (C := zR_P) (T := zT_P) (N := 13) hx hb hts zi_P hown hK.1 hP 3 ga_3 rfl 4 (by decide) (hts _ zw_137) (fun _ h9 => h9) rfl zd_P_addEdge_1 ?_
  refine lv_sipush (v := iI (600)) hx hb zd_P_addEdge_4 (by decide) ?_
  refine x_icmp_ge (tgt := 62) hx hb zd_P_addEdge_7 (by decide) (⟨by omega, by omega⟩) (⟨by omega, by omega⟩) (fun h_7 => ?_) (fun h_7 => ?_)
  · omega
  · refine lv_iload_n hx hb zd_P_addEdge_10 rfl (lv_at hl 1 rfl) ?_
    refine lv_bipush (v := iI (40)) hx hb zd_P_addEdge_11 (by decide) ?_
    refine x_icmp_ge (tgt := 62) hx hb zd_P_addEdge_13 (by decide) (⟨by omega, by omega⟩) (⟨by omega, by omega⟩) (fun h_13 => ?_) (fun h_13 => ?_)
    · omega
    · refine lv_iload_n hx hb zd_P_addEdge_16 rfl (lv_at hl 2 rfl) ?_
      refine lv_bipush (v := iI (40)) hx hb zd_P_addEdge_17 (by decide) ?_
      refine x_icmp_ge (tgt := 62) hx hb zd_P_addEdge_19 (by decide) (⟨by omega, by omega⟩) (⟨by omega, by omega⟩) (fun h_19 => ?_) (fun h_19 => ?_)
      · omega
      · refine lv_aload_n hx hb zd_P_addEdge_22 rfl (lv_at hl 0 rfl) ?_
        refine va_get (D := D) (ci := 3) (v := .ref (q 20)) (C := zR_P) (T := zT_P) (N := 13) hx hb hts zi_P hown hK.1 hP 3 ga_3 rfl 7 (by decide) (hts _ zw_140) (fun _ h9 => h9) rfl zd_P_addEdge_23 ?_
        refine lv_aload_n hx hb zd_P_addEdge_26 rfl (lv_at hl 0 rfl) ?_
        refine va_get (D := D) (ci := 3) (v := .int (iI (F 304))) (C := zR_P) (T := zT_P) (N := 13) hx hb hts zi_P hown hK.1 hP 3 ga_3 rfl 4 (by decide) (hts _ zw_137) (fun _ h9 => h9) rfl zd_P_addEdge_27 ?_
        refine lv_iload_n hx hb zd_P_addEdge_30 rfl (lv_at hl 1 rfl) ?_
        refine x_iast hx hb hK.1 hP hD hS 20 0 ga_20 rfl (by decide) (by omega) (by omega) zd_P_addEdge_31 (fun H locs hP hD hS => ?_)
        rw [gs_20] at hP hD
        refine lv_aload_n hx hb zd_P_addEdge_32 rfl (lv_at hl 0 rfl) ?_
        refine va_get (D := D) (ci := 3) (v := .ref (q 21)) (C := zR_P) (T := zT_P) (N := 13) hx hb hts zi_P hown hK.1 hP 3 ga_3 rfl 8 (by decide) (hts _ zw_141) (fun _ h9 => h9) rfl zd_P_addEdge_33 ?_
        refine lv_aload_n hx hb zd_P_addEdge_36 rfl (lv_at hl 0 rfl) ?_
        refine va_get (D := D) (ci := 3) (v := .int (iI (F 304))) (C := zR_P) (T := zT_P) (N := 13) hx hb hts zi_P hown hK.1 hP 3 ga_3 rfl 4 (by decide) (hts _ zw_137) (fun _ h9 => h9) rfl zd_P_addEdge_37 ?_
        refine lv_iload_n hx hb zd_P_addEdge_40 rfl (lv_at hl 2 rfl) ?_
        refine x_iast hx hb hK.1 hP hD hS 21 0 ga_21 rfl (by decide) (by omega) (by omega) zd_P_addEdge_41 (fun H locs hP hD hS => ?_)
        rw [gs_21] at hP hD
        refine lv_aload_n hx hb zd_P_addEdge_42 rfl (lv_at hl 0 rfl) ?_
        refine va_get (D := D) (ci := 3) (v := .ref (q 22)) (C := zR_P) (T := zT_P) (N := 13) hx hb hts zi_P hown hK.1 hP 3 ga_3 rfl 9 (by decide) (hts _ zw_142) (fun _ h9 => h9) rfl zd_P_addEdge_43 ?_
        refine lv_aload_n hx hb zd_P_addEdge_46 rfl (lv_at hl 0 rfl) ?_
        refine va_get (D := D) (ci := 3) (v := .int (iI (F 304))) (C := zR_P) (T := zT_P) (N := 13) hx hb hts zi_P hown hK.1 hP 3 ga_3 rfl 4 (by decide) (hts _ zw_137) (fun _ h9 => h9) rfl zd_P_addEdge_47 ?_
        refine lv_iload_n hx hb zd_P_addEdge_50 rfl (lv_at hl 3 rfl) ?_
        refine x_iast hx hb hK.1 hP hD hS 22 0 ga_22 rfl (by decide) (by omega) (by omega) zd_P_addEdge_51 (fun H locs hP hD hS => ?_)
        rw [gs_22] at hP hD
        refine lv_aload_n hx hb zd_P_addEdge_52 rfl (lv_at hl 0 rfl) ?_
        refine lv_dup hx hb zd_P_addEdge_53 rfl ?_
        refine va_get (D := D) (ci := 3) (v := .int (iI (F 304))) (C := zR_P) (T := zT_P) (N := 13) hx hb hts zi_P hown hK.1 hP 3 ga_3 rfl 4 (by decide) (hts _ zw_137) (fun _ h9 => h9) rfl zd_P_addEdge_54 ?_
        refine lv_iconst (v := iI (1)) hx hb zd_P_addEdge_57 rfl ?_
        refine x_iadd hx hb zd_P_addEdge_58 ?_
        refine va_put (D := D) (ci := 3) (v := .int (iI ((F 304) + 1))) (ty := .int) (C := zR_P) (T := zT_P) (N := 13) hx hb hts zi_P zk_P zo_P zn_P hown hK.1 hP hD hS 3 ga_3 rfl 4 (by decide) (hts _ zw_137) (fun _ h9 => h9) rfl (by decide +kernel) (rfl) (rfl) (Nat.le_of_ble_eq_true rfl) zd_P_addEdge_59 (fun H locs hP hD hS => ?_)
        rw [gs_3_4] at hP hD
        exact ret _ _ _ _ _ _ zd_P_addEdge_62 hP hD hS (⟨rfl, rfl⟩)

abbrev zr_P_nodeAhead : Room := ({ frames := 0, cells := 0, slots := 0, locals := 0 } : Room)
set_option maxHeartbeats 4000000 in
set_option maxRecDepth 100000 in
theorem c_P_nodeAhead (l : Launch) (D : va_G) (q : Nat → Nat) (c : Nat → ClassId) (sz : Nat) (F : Nat → Int) (A : Nat → Int → Int) (v : Int) (hN : 0 ≤ F 303 ∧ F 303 ≤ 40) (hE : 0 ≤ F 304 ∧ F 304 ≤ 600) (hed : ∀ e, 0 ≤ e → e < F 304 → (0 ≤ A 20 e ∧ A 20 e < F 303) ∧ (0 ≤ A 21 e ∧ A 21 e < F 303) ∧ 0 ≤ A 22 e ∧ A 22 e ≤ 100) (hnt : ∀ v, 0 ≤ v → v < F 303 → 1 ≤ A 19 v ∧ A 19 v ≤ 9) (hpq : (0 ≤ F 301 ∧ F 301 ≤ 360) ∧ 1 ≤ F 302 ∧ F 302 ≤ 7) (hvia : ∀ v, 0 ≤ v → v < F 303 → -1 ≤ A 24 v ∧ A 24 v < F 304) (hv : 0 ≤ v ∧ v < F 303) : zMI l zy_P_nodeAhead zc_P_nodeAhead 3 (some .int) zr_P_nodeAhead D q c sz [.ref (q 3), .int (iI (v))] F A (fun z F1 A1 => F1 = F ∧ A1 = A ∧ z = if A 24 v = -1 then -1 else A 20 (A 24 v)) := by
  refine z_ofI (by decide) (Nat.le_of_ble_eq_true rfl) ?_
  intro p e s m args below meth c0 A0 Q C0 ret hP hD hS ls hl
  obtain ⟨S, hK, hA⟩ := C0
  have hx := S.1
  have hb := S.2.1
  have hown := S.2.2.2.1
  have hts : ∀ w ∈ zG, w.before args s = true := fun w h => S.2.2.2.2 w (List.mem_cons_of_mem _ h)
  have hl : lv_has ls 3 [(0, .ref (q 3)), (1, .int (iI (v)))] := hl
  have hv_ := hvia v hv.1 hv.2
  refine lv_aload_n hx hb zd_P_nodeAhead_0 rfl (lv_at hl 0 rfl) ?_
  refine va_get (D := D) (ci := 3) (v := .ref (q 24)) (C := zR_P) (T := zT_P) (N := 13) hx hb hts zi_P hown hK.1 hP 3 ga_3 rfl 11 (by decide) (hts _ zw_144) (fun _ h9 => h9) rfl zd_P_nodeAhead_1 ?_
  refine lv_iload_n hx hb zd_P_nodeAhead_4 rfl (lv_at hl 1 rfl) ?_
  refine x_iald (v := A 24 v) hx hb hK.1 hP 24 0 ga_24 rfl (by decide) (by omega) (by omega) (rfl) zd_P_nodeAhead_5 ?_
  refine lv_istore_n (lv' := [(2, .int (iI (A 24 v))), (0, .ref (q 3)), (1, .int (iI (v)))]) hx hb zd_P_nodeAhead_6 rfl hl (by decide) rfl (fun ls hl => ?_)
  refine lv_iload_n hx hb zd_P_nodeAhead_7 rfl (lv_at hl 0 rfl) ?_
  refine lv_iconst (v := iI (-1)) hx hb zd_P_nodeAhead_8 rfl ?_
  refine x_icmp_ne (tgt := 16) hx hb zd_P_nodeAhead_9 (by decide) (⟨by omega, by omega⟩) (⟨by omega, by omega⟩) (fun h_9 => ?_) (fun h_9 => ?_)
  · refine lv_aload_n hx hb zd_P_nodeAhead_16 rfl (lv_at hl 1 rfl) ?_
    refine va_get (D := D) (ci := 3) (v := .ref (q 20)) (C := zR_P) (T := zT_P) (N := 13) hx hb hts zi_P hown hK.1 hP 3 ga_3 rfl 7 (by decide) (hts _ zw_140) (fun _ h9 => h9) rfl zd_P_nodeAhead_17 ?_
    refine lv_iload_n hx hb zd_P_nodeAhead_20 rfl (lv_at hl 0 rfl) ?_
    refine x_iald (v := A 20 (A 24 v)) hx hb hK.1 hP 20 0 ga_20 rfl (by decide) (by omega) (by omega) (rfl) zd_P_nodeAhead_21 ?_
    exact ret _ _ _ _ _ _ _ zd_P_nodeAhead_22 hP hD hS (⟨rfl, rfl, by split <;> first | rfl | omega⟩)
  · refine lv_iconst (v := iI (-1)) hx hb zd_P_nodeAhead_12 rfl ?_
    refine lv_goto (tgt := 22) hx hb zd_P_nodeAhead_13 (by decide) ?_
    exact ret _ _ _ _ _ _ _ zd_P_nodeAhead_22 hP hD hS (⟨rfl, rfl, by split <;> first | rfl | omega⟩)

abbrev zr_P_raiseAll : Room := ({ frames := 0, cells := 0, slots := 0, locals := 0 } : Room)
set_option maxHeartbeats 4000000 in
set_option maxRecDepth 100000 in
theorem c_P_raiseAll (l : Launch) (D : va_G) (q : Nat → Nat) (c : Nat → ClassId) (sz : Nat) (F : Nat → Int) (A : Nat → Int → Int) (bb : Int) (hN : 0 ≤ F 303 ∧ F 303 ≤ 40) (hE : 0 ≤ F 304 ∧ F 304 ≤ 600) (hed : ∀ e, 0 ≤ e → e < F 304 → (0 ≤ A 20 e ∧ A 20 e < F 303) ∧ (0 ≤ A 21 e ∧ A 21 e < F 303) ∧ 0 ≤ A 22 e ∧ A 22 e ≤ 100) (hnt : ∀ v, 0 ≤ v → v < F 303 → 1 ≤ A 19 v ∧ A 19 v ≤ 9) (hpq : (0 ≤ F 301 ∧ F 301 ≤ 360) ∧ 1 ≤ F 302 ∧ F 302 ≤ 7) (hbb : 0 ≤ bb ∧ bb ≤ 1000000000) (hxx : ∀ v, 0 ≤ v → v < F 303 → 0 ≤ A 23 v ∧ A 23 v ≤ bb) : zMI l zy_P_raiseAll zc_P_raiseAll 6 (some .boolean) zr_P_raiseAll D q c sz [.ref (q 3)] F A (fun z F1 A1 => F1 = F ∧ (∀ k, k ≠ 23 → k ≠ 24 → A1 k = A k) ∧ (A1 23, A1 24) = px_pass (A 20) (A 21) (cw F A) (A 23, A 24) (F 304).toNat ∧ z = (if px_rai (A 20) (A 21) (cw F A) (A 23, A 24) (F 304).toNat = true then 1 else 0) ∧ ∀ v, 0 ≤ v → v < F 303 → 0 ≤ A1 23 v ∧ A1 23 v ≤ bb + 63 * F 304) := by
  refine z_ofB (by decide) (Nat.le_of_ble_eq_true rfl) ?_
  intro p e s m args below meth c0 A0 Q C0 ret hP hD hS ls hl
  obtain ⟨S, hK, hA⟩ := C0
  have hx := S.1
  have hb := S.2.1
  have hown := S.2.2.2.1
  have hts : ∀ w ∈ zG, w.before args s = true := fun w h => S.2.2.2.2 w (List.mem_cons_of_mem _ h)
  have hl : lv_has ls 6 [(0, .ref (q 3))] := hl
  refine lv_iconst (v := iI (0)) hx hb zd_P_raiseAll_0 rfl ?_
  refine lv_istore_n (lv' := [(1, .int (iI (0))), (0, .ref (q 3))]) hx hb zd_P_raiseAll_1 rfl hl (by decide) rfl (fun ls hl => ?_)
  refine lv_iconst (v := iI (0)) hx hb zd_P_raiseAll_2 rfl ?_
  refine lv_istore_n (lv' := [(2, .int (iI (0))), (1, .int (iI (0))), (0, .ref (q 3))]) hx hb zd_P_raiseAll_3 rfl hl (by decide) rfl (fun ls hl => ?_)
  have L_4 : ∀ (fu : Nat) (r : Int) (i : Int)  (A4 : Nat → Int → Int), (0 ≤ i ∧ i ≤ F 304) → (∀ k, k ≠ 23 → k ≠ 24 → A4 k = A k) → ((A4 23, A4 24) = (px_pass (A 20) (A 21) (cw F A) (A 23, A 24) i.toNat)) → (r = if (px_rai (A 20) (A 21) (cw F A) (A 23, A 24) i.toNat) = true then 1 else 0) → (∀ v, 0 ≤ v → v < F 303 → 0 ≤ A4 23 v ∧ A4 23 v ≤ bb + 63 * i) → (F 304 - i < (fu : Int)) → ∀ (H : Heap) (locs : List Loc), va_P D zcl (gw q c F A4) H → va_D A0 (gw q c F A4) → va_S A0 s.heap H locs → ∀ ls : Array Slot, lv_has ls 6 [(0, .ref (q 3)), (1, .int (iI (r))), (2, .int (iI (i)))] → W p l e zr_P_raiseAll s m args below meth c0 H locs 0 0 Q (F0 m 4 ls []) := by
    intro fu
    induction fu with
    | zero => intro r i  A4 hi hk hp hr hx4 hm_4; exact absurd hm_4 (by omega)
    | succ fu ih_4 =>
      intro r i  A4 hi hk hp hr hx4 hm_4 H locs hP hD hS ls hl
      refine lv_iload_n hx hb zd_P_raiseAll_4 rfl (lv_at hl 2 rfl) ?_
      refine lv_aload_n hx hb zd_P_raiseAll_5 rfl (lv_at hl 0 rfl) ?_
      refine va_get (D := D) (ci := 3) (v := .int (iI (F 304))) (C := zR_P) (T := zT_P) (N := 13) hx hb hts zi_P hown hK.1 hP 3 ga_3 rfl 4 (by decide) (hts _ zw_137) (fun _ h9 => h9) rfl zd_P_raiseAll_6 ?_
      refine x_icmp_ge (tgt := 96) hx hb zd_P_raiseAll_9 (by decide) (⟨by omega, by omega⟩) (⟨by omega, by omega⟩) (fun h_9 => ?_) (fun h_9 => ?_)
      · have e_ : i = F 304 := by omega
        subst e_
        refine lv_iload_n hx hb zd_P_raiseAll_96 rfl (lv_at hl 1 rfl) ?_
        exact ret _ _ _ _ _ _ _ zd_P_raiseAll_97 hP hD hS (by rw [hr]; split <;> simp) (⟨rfl, hk, hp, hr, hx4⟩)
      · have he_ := hed i (by omega) (by omega)
        have e19 := hk 19 (by decide) (by decide)
        have e20 := hk 20 (by decide) (by decide)
        have e21 := hk 21 (by decide) (by decide)
        have e22 := hk 22 (by decide) (by decide)
        have hns_ := hnt (A 20 i) (by omega) (by omega)
        have hxs_ := hx4 (A 20 i) (by omega) (by omega)
        have hxt_ := hx4 (A 21 i) (by omega) (by omega)
        have hm1_ := bnd0 (x := A 19 (A 20 i)) (y := F 302) (X := 9) (Y := 7) (by omega) (by omega)
        have hm2_ := bnd0 (x := A 22 i) (y := F 301) (X := 100) (Y := 360) (by omega) (by omega)
        have hp1_ : (px_pass (A 20) (A 21) (cw F A) (A 23, A 24) i.toNat).1 = A4 23 := by rw [← hp]
        have hp2_ : (px_pass (A 20) (A 21) (cw F A) (A 23, A 24) i.toNat).2 = A4 24 := by rw [← hp]
        have hr01_ : r = 0 ∨ r = 1 := by rw [hr]; split <;> simp
        refine lv_aload_n hx hb zd_P_raiseAll_12 rfl (lv_at hl 0 rfl) ?_
        refine va_get (D := D) (ci := 3) (v := .ref (q 20)) (C := zR_P) (T := zT_P) (N := 13) hx hb hts zi_P hown hK.1 hP 3 ga_3 rfl 7 (by decide) (hts _ zw_140) (fun _ h9 => h9) rfl zd_P_raiseAll_13 ?_
        refine lv_iload_n hx hb zd_P_raiseAll_16 rfl (lv_at hl 2 rfl) ?_
        refine x_iald (v := A 20 i) hx hb hK.1 hP 20 0 ga_20 rfl (by decide) (by omega) (by omega) (by rw [e20]) zd_P_raiseAll_17 ?_
        refine lv_istore_n (lv' := [(3, .int (iI (A 20 i))), (0, .ref (q 3)), (1, .int (iI (r))), (2, .int (iI (i)))]) hx hb zd_P_raiseAll_18 rfl hl (by decide) rfl (fun ls hl => ?_)
        refine lv_aload_n hx hb zd_P_raiseAll_19 rfl (lv_at hl 1 rfl) ?_
        refine va_get (D := D) (ci := 3) (v := .ref (q 21)) (C := zR_P) (T := zT_P) (N := 13) hx hb hts zi_P hown hK.1 hP 3 ga_3 rfl 8 (by decide) (hts _ zw_141) (fun _ h9 => h9) rfl zd_P_raiseAll_20 ?_
        refine lv_iload_n hx hb zd_P_raiseAll_23 rfl (lv_at hl 3 rfl) ?_
        refine x_iald (v := A 21 i) hx hb hK.1 hP 21 0 ga_21 rfl (by decide) (by omega) (by omega) (by rw [e21]) zd_P_raiseAll_24 ?_
        refine lv_istore (lv' := [(4, .int (iI (A 21 i))), (3, .int (iI (A 20 i))), (0, .ref (q 3)), (1, .int (iI (r))), (2, .int (iI (i)))]) hx hb zd_P_raiseAll_25 hl (by decide) rfl (fun ls hl => ?_)
        refine lv_aload_n hx hb zd_P_raiseAll_27 rfl (lv_at hl 2 rfl) ?_
        refine va_get (D := D) (ci := 3) (v := .ref (q 23)) (C := zR_P) (T := zT_P) (N := 13) hx hb hts zi_P hown hK.1 hP 3 ga_3 rfl 10 (by decide) (hts _ zw_143) (fun _ h9 => h9) rfl zd_P_raiseAll_28 ?_
        refine lv_iload_n hx hb zd_P_raiseAll_31 rfl (lv_at hl 1 rfl) ?_
        refine x_iald (v := A4 23 (A 20 i)) hx hb hK.1 hP 23 0 ga_23 rfl (by decide) (by omega) (by omega) (rfl) zd_P_raiseAll_32 ?_
        refine lv_aload_n hx hb zd_P_raiseAll_33 rfl (lv_at hl 2 rfl) ?_
        refine va_get (D := D) (ci := 3) (v := .ref (q 19)) (C := zR_P) (T := zT_P) (N := 13) hx hb hts zi_P hown hK.1 hP 3 ga_3 rfl 6 (by decide) (hts _ zw_139) (fun _ h9 => h9) rfl zd_P_raiseAll_34 ?_
        refine lv_iload_n hx hb zd_P_raiseAll_37 rfl (lv_at hl 1 rfl) ?_
        refine x_iald (v := A 19 (A 20 i)) hx hb hK.1 hP 19 0 ga_19 rfl (by decide) (by omega) (by omega) (by rw [e19]) zd_P_raiseAll_38 ?_
        refine lv_aload_n hx hb zd_P_raiseAll_39 rfl (lv_at hl 2 rfl) ?_
        refine va_get (D := D) (ci := 3) (v := .int (iI (F 302))) (C := zR_P) (T := zT_P) (N := 13) hx hb hts zi_P hown hK.1 hP 3 ga_3 rfl 2 (by decide) (hts _ zw_134) (fun _ h9 => h9) rfl zd_P_raiseAll_40 ?_
        refine x_imul hx hb zd_P_raiseAll_43 ?_
        refine x_iadd hx hb zd_P_raiseAll_44 ?_
        refine lv_aload_n hx hb zd_P_raiseAll_45 rfl (lv_at hl 2 rfl) ?_
        refine va_get (D := D) (ci := 3) (v := .ref (q 22)) (C := zR_P) (T := zT_P) (N := 13) hx hb hts zi_P hown hK.1 hP 3 ga_3 rfl 9 (by decide) (hts _ zw_142) (fun _ h9 => h9) rfl zd_P_raiseAll_46 ?_
        refine lv_iload_n hx hb zd_P_raiseAll_49 rfl (lv_at hl 4 rfl) ?_
        refine x_iald (v := A 22 i) hx hb hK.1 hP 22 0 ga_22 rfl (by decide) (by omega) (by omega) (by rw [e22]) zd_P_raiseAll_50 ?_
        refine lv_aload_n hx hb zd_P_raiseAll_51 rfl (lv_at hl 2 rfl) ?_
        refine va_get (D := D) (ci := 3) (v := .int (iI (F 301))) (C := zR_P) (T := zT_P) (N := 13) hx hb hts zi_P hown hK.1 hP 3 ga_3 rfl 1 (by decide) (hts _ zw_132) (fun _ h9 => h9) rfl zd_P_raiseAll_52 ?_
        refine x_imul hx hb zd_P_raiseAll_55 ?_
        refine x_isub hx hb zd_P_raiseAll_56 ?_
        refine lv_istore (lv' := [(5, .int (iI (((A4 23 (A 20 i)) + ((A 19 (A 20 i)) * (F 302))) - ((A 22 i) * (F 301))))), (4, .int (iI (A 21 i))), (3, .int (iI (A 20 i))), (0, .ref (q 3)), (1, .int (iI (r))), (2, .int (iI (i)))]) hx hb zd_P_raiseAll_57 hl (by decide) rfl (fun ls hl => ?_)
        refine lv_iload hx hb zd_P_raiseAll_59 (lv_at hl 0 rfl) ?_
        refine lv_aload_n hx hb zd_P_raiseAll_61 rfl (lv_at hl 3 rfl) ?_
        refine va_get (D := D) (ci := 3) (v := .ref (q 23)) (C := zR_P) (T := zT_P) (N := 13) hx hb hts zi_P hown hK.1 hP 3 ga_3 rfl 10 (by decide) (hts _ zw_143) (fun _ h9 => h9) rfl zd_P_raiseAll_62 ?_
        refine lv_iload hx hb zd_P_raiseAll_65 (lv_at hl 1 rfl) ?_
        refine x_iald (v := A4 23 (A 21 i)) hx hb hK.1 hP 23 0 ga_23 rfl (by decide) (by omega) (by omega) (rfl) zd_P_raiseAll_67 ?_
        refine x_icmp_le (tgt := 90) hx hb zd_P_raiseAll_68 (by decide) (⟨by omega, by omega⟩) (⟨by omega, by omega⟩) (fun h_68 => ?_) (fun h_68 => ?_)
        · refine lv_iinc (v := iI (i + 1)) (lv' := [(2, .int (iI (i + 1))), (5, .int (iI (((A4 23 (A 20 i)) + ((A 19 (A 20 i)) * (F 302))) - ((A 22 i) * (F 301))))), (4, .int (iI (A 21 i))), (3, .int (iI (A 20 i))), (0, .ref (q 3)), (1, .int (iI (r)))]) hx hb zd_P_raiseAll_90 hl (k := 5) rfl (iI_add _ _) (by decide) rfl (fun ls hl => ?_)
          refine lv_goto (tgt := 4) hx hb zd_P_raiseAll_93 (by decide) ?_
          exact ih_4 (r) (i + 1)  A4 (by first | assumption | omega | (simp_all; done)) (fun k h1 h2 => by first | exact hk k h1 h2 | simp [auP, h1, h2, hk k h1 h2]) (by first | exact ra_y hp (by omega) h_68 | exact ra_n hp (by omega) h_68) (by first | exact rr_y hp (by omega) h_68 | exact rr_n hp hr (by omega) h_68) (fun v h0 h1 => by first | (have := hx4 v h0 h1; omega) | (have := hx4 v h0 h1; show 0 ≤ upI (A4 23) (A 21 i) _ v ∧ upI (A4 23) (A 21 i) _ v ≤ _; by_cases e_ : v = A 21 i; (rw [e_, upI_s]; omega); (rw [upI_n e_]; omega))) (by omega) _ _ hP hD hS ls (lv_sub hl [4, 5, 0] rfl)
        · refine lv_aload_n hx hb zd_P_raiseAll_71 rfl (lv_at hl 3 rfl) ?_
          refine va_get (D := D) (ci := 3) (v := .ref (q 23)) (C := zR_P) (T := zT_P) (N := 13) hx hb hts zi_P hown hK.1 hP 3 ga_3 rfl 10 (by decide) (hts _ zw_143) (fun _ h9 => h9) rfl zd_P_raiseAll_72 ?_
          refine lv_iload hx hb zd_P_raiseAll_75 (lv_at hl 1 rfl) ?_
          refine lv_iload hx hb zd_P_raiseAll_77 (lv_at hl 0 rfl) ?_
          refine x_iast hx hb hK.1 hP hD hS 23 0 ga_23 rfl (by decide) (by omega) (by omega) zd_P_raiseAll_79 (fun H locs hP hD hS => ?_)
          rw [gs_23] at hP hD
          refine lv_aload_n hx hb zd_P_raiseAll_80 rfl (lv_at hl 3 rfl) ?_
          refine va_get (D := D) (ci := 3) (v := .ref (q 24)) (C := zR_P) (T := zT_P) (N := 13) hx hb hts zi_P hown hK.1 hP 3 ga_3 rfl 11 (by decide) (hts _ zw_144) (fun _ h9 => h9) rfl zd_P_raiseAll_81 ?_
          refine lv_iload hx hb zd_P_raiseAll_84 (lv_at hl 1 rfl) ?_
          refine lv_iload_n hx hb zd_P_raiseAll_86 rfl (lv_at hl 5 rfl) ?_
          refine x_iast hx hb hK.1 hP hD hS 24 0 ga_24 rfl (by decide) (by omega) (by omega) zd_P_raiseAll_87 (fun H locs hP hD hS => ?_)
          rw [gs_24] at hP hD
          refine lv_iconst (v := iI (1)) hx hb zd_P_raiseAll_88 rfl ?_
          refine lv_istore_n (lv' := [(1, .int (iI (1))), (5, .int (iI (((A4 23 (A 20 i)) + ((A 19 (A 20 i)) * (F 302))) - ((A 22 i) * (F 301))))), (4, .int (iI (A 21 i))), (3, .int (iI (A 20 i))), (0, .ref (q 3)), (2, .int (iI (i)))]) hx hb zd_P_raiseAll_89 rfl hl (by decide) rfl (fun ls hl => ?_)
          refine lv_iinc (v := iI (i + 1)) (lv' := [(2, .int (iI (i + 1))), (1, .int (iI (1))), (5, .int (iI (((A4 23 (A 20 i)) + ((A 19 (A 20 i)) * (F 302))) - ((A 22 i) * (F 301))))), (4, .int (iI (A 21 i))), (3, .int (iI (A 20 i))), (0, .ref (q 3))]) hx hb zd_P_raiseAll_90 hl (k := 5) rfl (iI_add _ _) (by decide) rfl (fun ls hl => ?_)
          refine lv_goto (tgt := 4) hx hb zd_P_raiseAll_93 (by decide) ?_
          exact ih_4 (1) (i + 1)  (auP (auP A4 23 (A 21 i) (((A4 23 (A 20 i)) + ((A 19 (A 20 i)) * (F 302))) - ((A 22 i) * (F 301)))) 24 (A 21 i) i) (by first | assumption | omega | (simp_all; done)) (fun k h1 h2 => by first | exact hk k h1 h2 | simp [auP, h1, h2, hk k h1 h2]) (by first | exact ra_y hp (by omega) h_68 | exact ra_n hp (by omega) h_68) (by first | exact rr_y hp (by omega) h_68 | exact rr_n hp hr (by omega) h_68) (fun v h0 h1 => by first | (have := hx4 v h0 h1; omega) | (have := hx4 v h0 h1; show 0 ≤ upI (A4 23) (A 21 i) _ v ∧ upI (A4 23) (A 21 i) _ v ≤ _; by_cases e_ : v = A 21 i; (rw [e_, upI_s]; omega); (rw [upI_n e_]; omega))) (by omega) _ _ hP hD hS ls (lv_sub hl [5, 1, 0] rfl)
  exact L_4 (((F 304 - (0) : Int) + 1).toNat) (0) (0)  A (by first | assumption | omega | (simp_all; done)) (fun k _ _ => rfl) (rfl) (rfl) (fun v h0 h1 => by have := hxx v h0 h1; omega) (by omega) _ _ hP hD hS ls (lv_sub hl [2, 1, 0] rfl)
