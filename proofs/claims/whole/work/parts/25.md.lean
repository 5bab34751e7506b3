section PJ
variable {n m : Nat} {ef et w : Int → Int} {S : (Int → Int) × (Int → Int)}
theorem px_init_I (h : ∀ v, px_N n v → S.2 v = -1) : px_I n m ef et w S :=
  ⟨⟨fun y hy hh => absurd (h y hy) hh, fun y hy k hk hp _ => absurd (h y hy) (hp 0 (by omega))⟩, fun v hv hh => absurd (h v hv) hh⟩
theorem px_init_J (h : ∀ v, px_N n v → S.2 v = -1) : px_J n m ef et w S (fun _ => 0) 1 0 :=
  ⟨fun v hv => ⟨Nat.zero_le _, fun hh => absurd (h v hv) hh, fun _ => rfl⟩, fun e he => ⟨fun h1 => by have := he.1; omega, fun _ h2 => by have h3 : 0 + 1 < 1 := h2; omega⟩⟩
theorem px_J_next {c : Int → Nat} {k : Nat} (h : px_J n m ef et w S c k m) : px_J n m ef et w S c (k + 1) 0 :=
  ⟨fun v hv => by obtain ⟨a, b, d⟩ := h.1 v hv; exact ⟨by omega, b, d⟩, fun e he => ⟨fun h1 => by have := he.1; omega, fun _ h2 => (h.2 e he).1 he.2 (by omega)⟩⟩
end PJ
/-- one pass more: what it leaves, and that there was a loop if the passes are as many as the nodes -/
theorem sl_pass {F : Nat → Int} {A B1 B2 : Nat → Int → Int} {p : Int} (hp : 0 ≤ p) (hN : 0 ≤ F 303 ∧ F 303 ≤ 40) (hE : 0 ≤ F 304 ∧ F 304 ≤ 600) (hed : ∀ e, 0 ≤ e → e < F 304 → (0 ≤ A 20 e ∧ A 20 e < F 303) ∧ (0 ≤ A 21 e ∧ A 21 e < F 303) ∧ 0 ≤ A 22 e ∧ A 22 e ≤ 100)
    (hI : px_I (F 303).toNat (F 304).toNat (A 20) (A 21) (cw F A) (B1 23, B1 24)) (hJ : ∃ c, px_J (F 303).toNat (F 304).toNat (A 20) (A 21) (cw F A) (B1 23, B1 24) c (p.toNat + 1) 0)
    (hB : (B2 23, B2 24) = px_pass (A 20) (A 21) (cw F A) (B1 23, B1 24) (F 304).toNat) (hr : px_rai (A 20) (A 21) (cw F A) (B1 23, B1 24) (F 304).toNat = true) :
    px_I (F 303).toNat (F 304).toNat (A 20) (A 21) (cw F A) (B2 23, B2 24) ∧ (∃ c, px_J (F 303).toNat (F 304).toNat (A 20) (A 21) (cw F A) (B2 23, B2 24) c ((p + 1).toNat + 1) 0) ∧
    ((∀ y, 0 ≤ y → y < F 303 → ∀ i : Nat, 1 ≤ i → (∀ j : Nat, j < i → B2 24 (rx_it (px_f (A 20) (B2 23, B2 24)) j y) ≠ -1) → rx_it (px_f (A 20) (B2 23, B2 24)) i y ≠ y) → p + 1 < F 303) := by
  obtain ⟨c, hJ⟩ := hJ
  have hE2 : ∀ e, px_N (F 304).toNat e → px_N (F 303).toNat (A 20 e) ∧ px_N (F 303).toNat (A 21 e) := fun e he => by
    have := hed e he.1 (by have := he.2; omega)
    exact ⟨⟨by omega, by omega⟩, ⟨by omega, by omega⟩⟩
  obtain ⟨h1, c2, h2, h3⟩ := px_pass_ok (k := p.toNat + 1) (by omega) hE2 hI hJ (F 304).toNat (Nat.le_refl _)
  rw [← hB] at h1 h2
  refine ⟨h1, ⟨c2, by rw [show (p + 1).toNat = p.toNat + 1 by omega]; exact px_J_next h2⟩, fun hno => ?_⟩
  refine Int.lt_of_not_ge (fun hc => ?_)
  obtain ⟨y, hy, i, hi, hp1, hp2⟩ := px_loop h1 (fun v hv => (h2.1 v hv).2) (h3 hr) (by omega)
  exact hno y hy.1 (by have := hy.2; omega) i hi hp1 hp2
theorem sl_end {F : Nat → Int} {A B1 : Nat → Int → Int} (hE : 0 ≤ F 304 ∧ F 304 ≤ 600) (hr : px_rai (A 20) (A 21) (cw F A) (B1 23, B1 24) (F 304).toNat = false) : ∀ e, 0 ≤ e → e < F 304 → B1 23 (A 20 e) + cw F A e ≤ B1 23 (A 21 e) := by
  intro e h0 h1
  have := (px_still _ hr).2 e.toNat (by omega)
  rw [show ((e.toNat : Nat) : Int) = e by omega] at this
  exact this
theorem sl_via {F : Nat → Int} {A B2 : Nat → Int → Int} (hN : 0 ≤ F 303 ∧ F 303 ≤ 40) (hE : 0 ≤ F 304 ∧ F 304 ≤ 600) (h : px_I (F 303).toNat (F 304).toNat (A 20) (A 21) (cw F A) (B2 23, B2 24)) : ∀ v, 0 ≤ v → v < F 303 → -1 ≤ B2 24 v ∧ B2 24 v < F 304 := by
  intro v h0 h1
  by_cases e : B2 24 v = -1
  · rw [e]; omega
  · have := (h.2 v ⟨h0, by omega⟩ e).1
    have h2 := this.1
    have h3 := this.2
    dsimp only at h2 h3
    omega
abbrev zr_P_nodeOnSlowerLoop : Room := ({ frames := 2, cells := 0, slots := 0, locals := 45 } : Room)
set_option maxHeartbeats 4000000 in
set_option maxRecDepth 100000 in
theorem c_P_nodeOnSlowerLoop (l : Launch) (D : va_G) (q : Nat → Nat) (c : Nat → ClassId) (sz : Nat) (F : Nat → Int) (A : Nat → Int → Int)  (hN : 0 ≤ F 303 ∧ F 303 ≤ 40) (hE : 0 ≤ F 304 ∧ F 304 ≤ 600) (hed : ∀ e, 0 ≤ e → e < F 304 → (0 ≤ A 20 e ∧ A 20 e < F 303) ∧ (0 ≤ A 21 e ∧ A 21 e < F 303) ∧ 0 ≤ A 22 e ∧ A 22 e ≤ 100) (hnt : ∀ v, 0 ≤ v → v < F 303 → 1 ≤ A 19 v ∧ A 19 v ≤ 9) (hpq : (0 ≤ F 301 ∧ F 301 ≤ 360) ∧ 1 ≤ F 302 ∧ F 302 ≤ 7) : zMI l zy_P_nodeOnSlowerLoop zc_P_nodeOnSlowerLoop 3 (some .int) zr_P_nodeOnSlowerLoop D q c sz [.ref (q 3)] F A (fun z F1 A1 => F1 = F ∧ (∀ k, k ≠ 23 → k ≠ 24 → k ≠ 25 → A1 k = A k) ∧ (-1 ≤ z ∧ z < 40) ∧ (z = -1 → ∃ x : Int → Int, ∀ e, 0 ≤ e → e < F 304 → x (A 20 e) + cw F A e ≤ x (A 21 e)) ∧ (z ≠ -1 → (0 ≤ z ∧ z < F 303) ∧ px_I (F 303).toNat (F 304).toNat (A 20) (A 21) (cw F A) (A1 23, A1 24) ∧ ∃ i : Nat, 1 ≤ i ∧ (∀ j : Nat, j < i → A1 24 (rx_it (px_f (A 20) (A1 23, A1 24)) j z) ≠ -1) ∧ rx_it (px_f (A 20) (A1 23, A1 24)) i z = z)) := by
  refine z_ofI (by decide) (Nat.le_of_ble_eq_true rfl) ?_
  intro p e s m args below meth c0 A0 Q C0 ret hP hD hS ls hl
  obtain ⟨S, hK, hA⟩ := C0
  have hx := S.1
  have hb := S.2.1
  have hown := S.2.2.2.1
  have hts : ∀ w ∈ zG, w.before args s = true := fun w h => S.2.2.2.2 w (List.mem_cons_of_mem _ h)
  have hl : lv_has ls 3 [(0, .ref (q 3))] := hl
  refine lv_iconst (v := iI (0)) hx hb zd_P_nodeOnSlowerLoop_0 rfl ?_
  refine lv_istore_n (lv' := [(1, .int (iI (0))), (0, .ref (q 3))]) hx hb zd_P_nodeOnSlowerLoop_1 rfl hl (by decide) rfl (fun ls hl => ?_)
  have L_2 : ∀ (fu : Nat) (i : Int)  (A2 : Nat → Int → Int), (0 ≤ i ∧ i ≤ F 303) → (∀ k, k ≠ 23 → k ≠ 24 → A2 k = A k) → (∀ x, 0 ≤ x → x < i → A2 23 x = 0 ∧ A2 24 x = -1) → (F 303 - i < (fu : Int)) → ∀ (H : Heap) (locs : List Loc), va_P D zcl (gw q c F A2) H → va_D A0 (gw q c F A2) → va_S A0 s.heap H locs → ∀ ls : Array Slot, lv_has ls 3 [(0, .ref (q 3)), (1, .int (iI (i)))] → W p l e zr_P_nodeOnSlowerLoop s m args below meth c0 H locs 0 0 Q (F0 m 2 ls []) := by
    intro fu
    induction fu with
    | zero => intro i  A2 hi hk hs hm_2; exact absurd hm_2 (by omega)
    | succ fu ih_2 =>
      intro i  A2 hi hk hs hm_2 H locs hP hD hS ls hl
      refine lv_iload_n hx hb zd_P_nodeOnSlowerLoop_2 rfl (lv_at hl 1 rfl) ?_
      refine lv_aload_n hx hb zd_P_nodeOnSlowerLoop_3 rfl (lv_at hl 0 rfl) ?_
      refine va_get (D := D) (ci := 3) (v := .int (iI (F 303))) (C := zR_P) (T := zT_P) (N := 13) hx hb hts zi_P hown hK.1 hP 3 ga_3 rfl 3 (by decide) (hts _ zw_136) (fun _ h9 => h9) rfl zd_P_nodeOnSlowerLoop_4 ?_
      refine x_icmp_ge (tgt := 30) hx hb zd_P_nodeOnSlowerLoop_7 (by decide) (⟨by omega, by omega⟩) (⟨by omega, by omega⟩) (fun h_7 => ?_) (fun h_7 => ?_)
      · refine lv_iconst (v := iI (0)) hx hb zd_P_nodeOnSlowerLoop_30 rfl ?_
        refine lv_istore_n (lv' := [(1, .int (iI (0))), (0, .ref (q 3))]) hx hb zd_P_nodeOnSlowerLoop_31 rfl hl (by decide) rfl (fun ls hl => ?_)
        have L_32 : ∀ (fu : Nat) (p1 : Int)  (A32 : Nat → Int → Int), (0 ≤ p1 ∧ p1 ≤ F 303) → (∀ k, k ≠ 23 → k ≠ 24 → k ≠ 25 → A32 k = A k) → (px_I (F 303).toNat (F 304).toNat (A 20) (A 21) (cw F A) (A32 23, A32 24)) → (∃ c, px_J (F 303).toNat (F 304).toNat (A 20) (A 21) (cw F A) (A32 23, A32 24) c (p1.toNat + 1) 0) → (∀ v, 0 ≤ v → v < F 303 → 0 ≤ A32 23 v ∧ A32 23 v ≤ 37800 * p1) → (F 303 - p1 < (fu : Int)) → ∀ (H : Heap) (locs : List Loc), va_P D zcl (gw q c F A32) H → va_D A0 (gw q c F A32) → va_S A0 s.heap H locs → ∀ ls : Array Slot, lv_has ls 3 [(0, .ref (q 3)), (1, .int (iI (p1)))] → W p l e zr_P_nodeOnSlowerLoop s m args below meth c0 H locs 0 0 Q (F0 m 32 ls []) := by
          intro fu
          induction fu with
          | zero => intro p1  A32 hp hk5 hI hJ hx3 hm_32; exact absurd hm_32 (by omega)
          | succ fu ih_32 =>
            intro p1  A32 hp hk5 hI hJ hx3 hm_32 H locs hP hD hS ls hl
            have e19 := hk5 19 (by decide) (by decide) (by decide)
            have e20 := hk5 20 (by decide) (by decide) (by decide)
            have e21 := hk5 21 (by decide) (by decide) (by decide)
            have e22 := hk5 22 (by decide) (by decide) (by decide)
            have ecw : cw F A32 = cw F A := by (funext e; unfold cw; rw [e19, e20, e22])
            refine lv_iload_n hx hb zd_P_nodeOnSlowerLoop_32 rfl (lv_at hl 1 rfl) ?_
            refine lv_sipush (v := iI (1000)) hx hb zd_P_nodeOnSlowerLoop_33 (by decide) ?_
            refine x_icmp_ge (tgt := 66) hx hb zd_P_nodeOnSlowerLoop_36 (by decide) (⟨by omega, by omega⟩) (⟨by omega, by omega⟩) (fun h_36 => ?_) (fun h_36 => ?_)
            · omega
            · refine lv_aload_n hx hb zd_P_nodeOnSlowerLoop_39 rfl (lv_at hl 0 rfl) ?_
              refine z_goi (z_runV (n := 0) (k := 3) (ci := 3) (As := []) (rest := []) S (c_P_raiseAll l D q c _ F A32 (37800 * p1) (by first | assumption | omega | (simp only [e19, e20, e21, e22]; assumption)) (by first | assumption | omega | (simp only [e19, e20, e21, e22]; assumption)) (by first | assumption | omega | (simp only [e19, e20, e21, e22]; assumption)) (by first | assumption | omega | (simp only [e19, e20, e21, e22]; assumption)) (by first | assumption | omega | (simp only [e19, e20, e21, e22]; assumption)) (by first | assumption | omega | (simp only [e19, e20, e21, e22]; assumption)) (by first | assumption | omega | (simp only [e19, e20, e21, e22]; assumption))) zw_509 zw_511 zs_33 zw_4 zw_512 ⟨by decide +kernel, by decide, rfl, rfl⟩ hK hP hD ga_3 rfl rfl rfl hl.1 rfl (Nat.le_of_ble_eq_true rfl) zd_P_nodeOnSlowerLoop_40 ⟨Nat.zero_le _, Nat.zero_le _⟩) hD hS hA (fun z_40 F_40 A_40 H locs hq_40 hP hD hS => ?_)
              obtain ⟨hf_40, hq_40⟩ := hq_40
              rw [hf_40] at hP hD
              obtain ⟨r1, r2, r3, r4⟩ := hq_40
              rw [e20, e21, ecw] at r2 r3
              have b40_ : z_40 = 0 ∨ z_40 = 1 := by rw [r3]; split <;> simp
              refine x_if_ne (tgt := 48) hx hb zd_P_nodeOnSlowerLoop_43 (by decide) (⟨by omega, by omega⟩) (fun h_43 => ?_) (fun h_43 => ?_)
              · have hra_ : px_rai (A 20) (A 21) (cw F A) (A32 23, A32 24) (F 304).toNat = true := by (by_cases e_ : px_rai (A 20) (A 21) (cw F A) (A32 23, A32 24) (F 304).toNat = true; (exact e_); (rw [if_neg e_] at r3; omega))
                obtain ⟨t1, t2, t3⟩ := sl_pass hp.1 hN hE hed hI hJ r2 hra_
                have hvia_ := sl_via hN hE t1
                refine lv_aload_n hx hb zd_P_nodeOnSlowerLoop_48 rfl (lv_at hl 0 rfl) ?_
                refine z_goi (z_runV (n := 0) (k := 3) (ci := 3) (As := []) (rest := []) S (c_P_nodeOnLoopOfRaises l D q c _ F A_40 (by first | assumption | omega | (simp only [r1 19 (by decide) (by decide), r1 20 (by decide) (by decide), r1 21 (by decide) (by decide), r1 22 (by decide) (by decide), e19, e20, e21, e22]; assumption)) (by first | assumption | omega | (simp only [r1 19 (by decide) (by decide), r1 20 (by decide) (by decide), r1 21 (by decide) (by decide), r1 22 (by decide) (by decide), e19, e20, e21, e22]; assumption)) (by first | assumption | omega | (simp only [r1 19 (by decide) (by decide), r1 20 (by decide) (by decide), r1 21 (by decide) (by decide), r1 22 (by decide) (by decide), e19, e20, e21, e22]; assumption)) (by first | assumption | omega | (simp only [r1 19 (by decide) (by decide), r1 20 (by decide) (by decide), r1 21 (by decide) (by decide), r1 22 (by decide) (by decide), e19, e20, e21, e22]; assumption)) (by first | assumption | omega | (simp only [r1 19 (by decide) (by decide), r1 20 (by decide) (by decide), r1 21 (by decide) (by decide), r1 22 (by decide) (by decide), e19, e20, e21, e22]; assumption)) (by first | assumption | omega | (simp only [r1 19 (by decide) (by decide), r1 20 (by decide) (by decide), r1 21 (by decide) (by decide), r1 22 (by decide) (by decide), e19, e20, e21, e22]; assumption))) zw_513 zw_515 zs_34 zw_4 zw_516 ⟨by decide +kernel, by decide, rfl, rfl⟩ hK hP hD ga_3 rfl rfl rfl hl.1 rfl (Nat.le_of_ble_eq_true rfl) zd_P_nodeOnSlowerLoop_49 ⟨Nat.zero_le _, Nat.zero_le _⟩) hD hS hA (fun z_49 F_49 A_49 H locs hq_49 hP hD hS => ?_)
                obtain ⟨hf_49, hq_49⟩ := hq_49
                rw [hf_49] at hP hD
                obtain ⟨s1, s2, s3, s4⟩ := hq_49
                have q20 := (r1 20 (by decide) (by decide)).trans e20
                rw [q20] at s3 s4
                refine lv_istore_n (lv' := [(2, .int (iI (z_49))), (0, .ref (q 3)), (1, .int (iI (p1)))]) hx hb zd_P_nodeOnSlowerLoop_52 rfl hl (by decide) rfl (fun ls hl => ?_)
                refine lv_iload_n hx hb zd_P_nodeOnSlowerLoop_53 rfl (lv_at hl 0 rfl) ?_
                refine lv_iconst (v := iI (-1)) hx hb zd_P_nodeOnSlowerLoop_54 rfl ?_
                refine x_icmp_eq (tgt := 60) hx hb zd_P_nodeOnSlowerLoop_55 (by decide) (⟨by omega, by omega⟩) (⟨by omega, by omega⟩) (fun h_55 => ?_) (fun h_55 => ?_)
                · have hlt_ := t3 (s3 h_55)
                  refine lv_iinc (v := iI (p1 + 1)) (lv' := [(1, .int (iI (p1 + 1))), (2, .int (iI (z_49))), (0, .ref (q 3))]) hx hb zd_P_nodeOnSlowerLoop_60 hl (k := 2) rfl (iI_add _ _) (by decide) rfl (fun ls hl => ?_)
                  refine lv_goto (tgt := 32) hx hb zd_P_nodeOnSlowerLoop_63 (by decide) ?_
                  exact ih_32 (p1 + 1)  A_49 (by first | assumption | omega | (simp_all; done)) (fun k h1 h2 h3 => by rw [s1 k h3, r1 k h1 h2, hk5 k h1 h2 h3]) (by rw [s1 23 (by decide), s1 24 (by decide)]; exact t1) (by rw [s1 23 (by decide), s1 24 (by decide)]; exact t2) (fun v h0 h1 => by rw [s1 23 (by decide)]; have := r4 v h0 h1; omega) (by omega) _ _ hP hD hS ls (lv_sub hl [2, 0] rfl)
                · refine lv_iload_n hx hb zd_P_nodeOnSlowerLoop_58 rfl (lv_at hl 0 rfl) ?_
                  exact ret _ _ _ _ _ _ _ zd_P_nodeOnSlowerLoop_59 hP hD hS (⟨rfl, fun k h1 h2 h3 => by rw [s1 k h3, r1 k h1 h2, hk5 k h1 h2 h3], s2, fun h => absurd h h_55, fun _ => ⟨(s4 h_55).1, by rw [s1 23 (by decide), s1 24 (by decide)]; exact t1, by rw [s1 23 (by decide), s1 24 (by decide)]; exact (s4 h_55).2⟩⟩)
              · refine lv_iconst (v := iI (-1)) hx hb zd_P_nodeOnSlowerLoop_46 rfl ?_
                exact ret _ _ _ _ _ _ _ zd_P_nodeOnSlowerLoop_47 hP hD hS (⟨rfl, fun k h1 h2 h3 => by rw [r1 k h1 h2, hk5 k h1 h2 h3], by omega, fun _ => ⟨A32 23, sl_end hE (by (by_cases e_ : px_rai (A 20) (A 21) (cw F A) (A32 23, A32 24) (F 304).toNat = true; (rw [if_pos e_] at r3; omega); (simpa using e_)))⟩, fun h => absurd rfl h⟩)
        exact L_32 (((F 303 - (0) : Int) + 1).toNat) (0)  A2 (by first | assumption | omega | (simp_all; done)) (fun k h1 h2 _ => hk k h1 h2) (px_init_I (fun v hv => (hs v hv.1 (by have := hv.2; omega)).2)) (⟨_, px_init_J (fun v hv => (hs v hv.1 (by have := hv.2; omega)).2)⟩) (fun v h0 h1 => by rw [(hs v h0 (by omega)).1]; omega) (by omega) _ _ hP hD hS ls (lv_sub hl [1, 0] rfl)
      · refine lv_aload_n hx hb zd_P_nodeOnSlowerLoop_10 rfl (lv_at hl 0 rfl) ?_
        refine va_get (D := D) (ci := 3) (v := .ref (q 23)) (C := zR_P) (T := zT_P) (N := 13) hx hb hts zi_P hown hK.1 hP 3 ga_3 rfl 10 (by decide) (hts _ zw_143) (fun _ h9 => h9) rfl zd_P_nodeOnSlowerLoop_11 ?_
        refine lv_iload_n hx hb zd_P_nodeOnSlowerLoop_14 rfl (lv_at hl 1 rfl) ?_
        refine lv_iconst (v := iI (0)) hx hb zd_P_nodeOnSlowerLoop_15 rfl ?_
        refine x_iast hx hb hK.1 hP hD hS 23 0 ga_23 rfl (by decide) (by omega) (by omega) zd_P_nodeOnSlowerLoop_16 (fun H locs hP hD hS => ?_)
        rw [gs_23] at hP hD
        refine lv_aload_n hx hb zd_P_nodeOnSlowerLoop_17 rfl (lv_at hl 0 rfl) ?_
        refine va_get (D := D) (ci := 3) (v := .ref (q 24)) (C := zR_P) (T := zT_P) (N := 13) hx hb hts zi_P hown hK.1 hP 3 ga_3 rfl 11 (by decide) (hts _ zw_144) (fun _ h9 => h9) rfl zd_P_nodeOnSlowerLoop_18 ?_
        refine lv_iload_n hx hb zd_P_nodeOnSlowerLoop_21 rfl (lv_at hl 1 rfl) ?_
        refine lv_iconst (v := iI (-1)) hx hb zd_P_nodeOnSlowerLoop_22 rfl ?_
        refine x_iast hx hb hK.1 hP hD hS 24 0 ga_24 rfl (by decide) (by omega) (by omega) zd_P_nodeOnSlowerLoop_23 (fun H locs hP hD hS => ?_)
        rw [gs_24] at hP hD
        refine lv_iinc (v := iI (i + 1)) (lv' := [(1, .int (iI (i + 1))), (0, .ref (q 3))]) hx hb zd_P_nodeOnSlowerLoop_24 hl (k := 1) rfl (iI_add _ _) (by decide) rfl (fun ls hl => ?_)
        refine lv_goto (tgt := 2) hx hb zd_P_nodeOnSlowerLoop_27 (by decide) ?_
        exact ih_2 (i + 1)  (auP (auP A2 23 i 0) 24 i (-1)) (by first | assumption | omega | (simp_all; done)) (fun k h1 h2 => by simp [auP, h1, h2, hk k h1 h2]) (fun x h0 h1 => by by_cases e_ : x = i; (subst e_; simp [auP, upI]); (have := hs x h0 (by omega); simp [auP, upI, e_, this])) (by omega) _ _ hP hD hS ls (lv_sub hl [1, 0] rfl)
  exact L_2 (((F 303 - (0) : Int) + 1).toNat) (0)  A (by first | assumption | omega | (simp_all; done)) (fun k _ _ => rfl) (fun x h0 h1 => by omega) (by omega) _ _ hP hD hS ls (lv_sub hl [1, 0] rfl)
