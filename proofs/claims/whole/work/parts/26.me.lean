theorem rx_pw_succ (f g : Int → Int) (k : Nat) (v : Int) : rx_pw f g (k + 1) v = rx_pw f g k v + g (rx_it f k v) := by
  rw [rx_pw_add]; show rx_pw f g k v + (g (rx_it f k v) + 0) = _; omega
/-- sums along the loop of parents through z, by Int steps -/
abbrev tkT (A : Nat → Int → Int) (z : Int) (s : Int) : Int := rx_pw (px_f (A 20) (A 23, A 24)) (fun v => A 19 (A 20 (A 24 v))) s.toNat z
abbrev tkR (A : Nat → Int → Int) (z : Int) (s : Int) : Int := rx_pw (px_f (A 20) (A 23, A 24)) (fun v => A 22 (A 24 v)) s.toNat z
abbrev tkV (A : Nat → Int → Int) (z : Int) (s : Int) : Int := rx_it (px_f (A 20) (A 23, A 24)) s.toNat z
theorem tkT_s {A : Nat → Int → Int} {z s : Int} (h : 0 ≤ s) : tkT A z (s + 1) = tkT A z s + A 19 (A 20 (A 24 (tkV A z s))) := by
  unfold tkT tkV; rw [show (s + 1).toNat = s.toNat + 1 by omega, rx_pw_succ]
theorem tkR_s {A : Nat → Int → Int} {z s : Int} (h : 0 ≤ s) : tkR A z (s + 1) = tkR A z s + A 22 (A 24 (tkV A z s)) := by
  unfold tkR tkV; rw [show (s + 1).toNat = s.toNat + 1 by omega, rx_pw_succ]
theorem tkV_s {A : Nat → Int → Int} {z s : Int} (h : 0 ≤ s) : tkV A z (s + 1) = A 20 (A 24 (tkV A z s)) := by
  unfold tkV; rw [show (s + 1).toNat = s.toNat + 1 by omega, rx_it_succ]; rfl
abbrev zr_P_takeRatioOf : Room := ({ frames := 1, cells := 0, slots := 0, locals := 25 } : Room)
set_option maxHeartbeats 4000000 in
set_option maxRecDepth 100000 in
theorem c_P_takeRatioOf (l : Launch) (D : va_G) (q : Nat → Nat) (c : Nat → ClassId) (sz : Nat) (F : Nat → Int) (A : Nat → Int → Int) (z : Int) (L : Int) (hN : 0 ≤ F 303 ∧ F 303 ≤ 40) (hE : 0 ≤ F 304 ∧ F 304 ≤ 600) (hed : ∀ e, 0 ≤ e → e < F 304 → (0 ≤ A 20 e ∧ A 20 e < F 303) ∧ (0 ≤ A 21 e ∧ A 21 e < F 303) ∧ 0 ≤ A 22 e ∧ A 22 e ≤ 100) (hnt : ∀ v, 0 ≤ v → v < F 303 → 1 ≤ A 19 v ∧ A 19 v ≤ 9) (hpq : (0 ≤ F 301 ∧ F 301 ≤ 360) ∧ 1 ≤ F 302 ∧ F 302 ≤ 7) (hvia : ∀ v, 0 ≤ v → v < F 303 → -1 ≤ A 24 v ∧ A 24 v < F 304) (hz : 0 ≤ z ∧ z < F 303) (hL : 1 ≤ L ∧ L ≤ F 303) (hlv : ∀ s, 0 ≤ s → s < L → (0 ≤ tkV A z s ∧ tkV A z s < F 303) ∧ A 24 (tkV A z s) ≠ -1) (hlc : tkV A z L = z) (hlm : ∀ s, 1 ≤ s → s < L → tkV A z s ≠ z) : zMV l zy_P_takeRatioOf zc_P_takeRatioOf 6 none zr_P_takeRatioOf D q c sz [.ref (q 3), .int (iI (z))] F A (fun F1 A1 => A1 = A ∧ (∀ j, j ≠ 301 → j ≠ 302 → F1 j = F j) ∧ (0 < tkR A z L → F1 301 = (tkT A z L).tdiv (gI (tkT A z L) (tkR A z L)) ∧ F1 302 = (tkR A z L).tdiv (gI (tkT A z L) (tkR A z L))) ∧ (¬ 0 < tkR A z L → F1 = F)) := by
  refine z_ofV (by decide) (Nat.le_of_ble_eq_true rfl) ?_
  intro p e s m args below meth c0 A0 Q C0 ret hP hD hS ls hl
  obtain ⟨S, hK, hA⟩ := C0
  have hx := S.1
  have hb := S.2.1
  have hown := S.2.2.2.1
  have hts : ∀ w ∈ zG, w.before args s = true := fun w h => S.2.2.2.2 w (List.mem_cons_of_mem _ h)
  have hl : lv_has ls 6 [(0, .ref (q 3)), (1, .int (iI (z)))] := hl
  refine lv_iconst (v := iI (0)) hx hb zd_P_takeRatioOf_0 rfl ?_
  refine lv_istore_n (lv' := [(2, .int (iI (0))), (0, .ref (q 3)), (1, .int (iI (z)))]) hx hb zd_P_takeRatioOf_1 rfl hl (by decide) rfl (fun ls hl => ?_)
  refine lv_iconst (v := iI (0)) hx hb zd_P_takeRatioOf_2 rfl ?_
  refine lv_istore_n (lv' := [(3, .int (iI (0))), (2, .int (iI (0))), (0, .ref (q 3)), (1, .int (iI (z)))]) hx hb zd_P_takeRatioOf_3 rfl hl (by decide) rfl (fun ls hl => ?_)
  refine lv_iload_n hx hb zd_P_takeRatioOf_4 rfl (lv_at hl 3 rfl) ?_
  refine lv_istore (lv' := [(4, .int (iI (z))), (3, .int (iI (0))), (2, .int (iI (0))), (0, .ref (q 3)), (1, .int (iI (z)))]) hx hb zd_P_takeRatioOf_5 hl (by decide) rfl (fun ls hl => ?_)
  refine lv_iconst (v := iI (0)) hx hb zd_P_takeRatioOf_7 rfl ?_
  refine lv_istore (lv' := [(5, .int (iI (0))), (4, .int (iI (z))), (3, .int (iI (0))), (2, .int (iI (0))), (0, .ref (q 3)), (1, .int (iI (z)))]) hx hb zd_P_takeRatioOf_8 hl (by decide) rfl (fun ls hl => ?_)
  have L_10 : ∀ (fu : Nat) (t : Int) (r : Int) (v : Int) (s5 : Int) , (0 ≤ s5 ∧ s5 < L) → (v = tkV A z s5) → (t = tkT A z s5) → (r = tkR A z s5) → (0 ≤ t ∧ t ≤ 9 * s5) → (0 ≤ r ∧ r ≤ 100 * s5) → (L - s5 < (fu : Int)) → ∀ (H : Heap) (locs : List Loc), va_P D zcl (gw q c F A) H → va_D A0 (gw q c F A) → va_S A0 s.heap H locs → ∀ ls : Array Slot, lv_has ls 6 [(0, .ref (q 3)), (1, .int (iI (z))), (2, .int (iI (t))), (3, .int (iI (r))), (4, .int (iI (v))), (5, .int (iI (s5)))] → W p l e zr_P_takeRatioOf s m args below meth c0 H locs 0 0 Q (F0 m 10 ls []) := by
    intro fu
    induction fu with
    | zero => intro t r v s5   hs hv_ ht hr hb1 hb2 hm_10; exact absurd hm_10 (by omega)
    | succ fu ih_10 =>
      intro t r v s5   hs hv_ ht hr hb1 hb2 hm_10 H locs hP hD hS ls hl
      have hl_ := hlv s5 hs.1 hs.2
      rw [← hv_] at hl_
      have hvv_ := hvia v hl_.1.1 hl_.1.2
      have he_ := hed (A 24 v) (by omega) (by omega)
      have hn_ := hnt (A 20 (A 24 v)) (by omega) (by omega)
      have s1_ := tkT_s (A := A) (z := z) hs.1
      have s2_ := tkR_s (A := A) (z := z) hs.1
      have s3_ := tkV_s (A := A) (z := z) hs.1
      rw [← hv_] at s1_ s2_ s3_
      refine lv_iload hx hb zd_P_takeRatioOf_10 (lv_at hl 5 rfl) ?_
      refine lv_aload_n hx hb zd_P_takeRatioOf_12 rfl (lv_at hl 0 rfl) ?_
      refine va_get (D := D) (ci := 3) (v := .int (iI (F 303))) (C := zR_P) (T := zT_P) (N := 13) hx hb hts zi_P hown hK.1 hP 3 ga_3 rfl 3 (by decide) (hts _ zw_136) (fun _ h9 => h9) rfl zd_P_takeRatioOf_13 ?_
      refine x_icmp_ge (tgt := 90) hx hb zd_P_takeRatioOf_16 (by decide) (⟨by omega, by omega⟩) (⟨by omega, by omega⟩) (fun h_16 => ?_) (fun h_16 => ?_)
      · omega
      · refine lv_iload hx hb zd_P_takeRatioOf_19 (lv_at hl 4 rfl) ?_
        refine lv_iconst (v := iI (-1)) hx hb zd_P_takeRatioOf_21 rfl ?_
        refine x_icmp_eq (tgt := 90) hx hb zd_P_takeRatioOf_22 (by decide) (⟨by omega, by omega⟩) (⟨by omega, by omega⟩) (fun h_22 => ?_) (fun h_22 => ?_)
        · omega
        · refine lv_aload_n hx hb zd_P_takeRatioOf_25 rfl (lv_at hl 0 rfl) ?_
          refine va_get (D := D) (ci := 3) (v := .ref (q 24)) (C := zR_P) (T := zT_P) (N := 13) hx hb hts zi_P hown hK.1 hP 3 ga_3 rfl 11 (by decide) (hts _ zw_144) (fun _ h9 => h9) rfl zd_P_takeRatioOf_26 ?_
          refine lv_iload hx hb zd_P_takeRatioOf_29 (lv_at hl 4 rfl) ?_
          refine x_iald (v := A 24 v) hx hb hK.1 hP 24 0 ga_24 rfl (by decide) (by omega) (by omega) (rfl) zd_P_takeRatioOf_31 ?_
          refine lv_iconst (v := iI (-1)) hx hb zd_P_takeRatioOf_32 rfl ?_
          refine x_icmp_eq (tgt := 90) hx hb zd_P_takeRatioOf_33 (by decide) (⟨by omega, by omega⟩) (⟨by omega, by omega⟩) (fun h_33 => ?_) (fun h_33 => ?_)
          · exact absurd h_33 hl_.2
          · refine lv_iload_n hx hb zd_P_takeRatioOf_36 rfl (lv_at hl 3 rfl) ?_
            refine lv_aload_n hx hb zd_P_takeRatioOf_37 rfl (lv_at hl 0 rfl) ?_
            refine va_get (D := D) (ci := 3) (v := .ref (q 22)) (C := zR_P) (T := zT_P) (N := 13) hx hb hts zi_P hown hK.1 hP 3 ga_3 rfl 9 (by decide) (hts _ zw_142) (fun _ h9 => h9) rfl zd_P_takeRatioOf_38 ?_
            refine lv_aload_n hx hb zd_P_takeRatioOf_41 rfl (lv_at hl 0 rfl) ?_
            refine va_get (D := D) (ci := 3) (v := .ref (q 24)) (C := zR_P) (T := zT_P) (N := 13) hx hb hts zi_P hown hK.1 hP 3 ga_3 rfl 11 (by decide) (hts _ zw_144) (fun _ h9 => h9) rfl zd_P_takeRatioOf_42 ?_
            refine lv_iload hx hb zd_P_takeRatioOf_45 (lv_at hl 4 rfl) ?_
            refine x_iald (v := A 24 v) hx hb hK.1 hP 24 0 ga_24 rfl (by decide) (by omega) (by omega) (rfl) zd_P_takeRatioOf_47 ?_
            refine x_iald (v := A 22 (A 24 v)) hx hb hK.1 hP 22 0 ga_22 rfl (by decide) (by omega) (by omega) (rfl) zd_P_takeRatioOf_48 ?_
            refine x_iadd hx hb zd_P_takeRatioOf_49 ?_
            refine lv_istore_n (lv' := [(3, .int (iI (r + (A 22 (A 24 v))))), (0, .ref (q 3)), (1, .int (iI (z))), (2, .int (iI (t))), (4, .int (iI (v))), (5, .int (iI (s5)))]) hx hb zd_P_takeRatioOf_50 rfl hl (by decide) rfl (fun ls hl => ?_)
            refine lv_aload_n hx hb zd_P_takeRatioOf_51 rfl (lv_at hl 1 rfl) ?_
            refine va_get (D := D) (ci := 3) (v := .ref (q 20)) (C := zR_P) (T := zT_P) (N := 13) hx hb hts zi_P hown hK.1 hP 3 ga_3 rfl 7 (by decide) (hts _ zw_140) (fun _ h9 => h9) rfl zd_P_takeRatioOf_52 ?_
            refine lv_aload_n hx hb zd_P_takeRatioOf_55 rfl (lv_at hl 1 rfl) ?_
            refine va_get (D := D) (ci := 3) (v := .ref (q 24)) (C := zR_P) (T := zT_P) (N := 13) hx hb hts zi_P hown hK.1 hP 3 ga_3 rfl 11 (by decide) (hts _ zw_144) (fun _ h9 => h9) rfl zd_P_takeRatioOf_56 ?_
            refine lv_iload hx hb zd_P_takeRatioOf_59 (lv_at hl 4 rfl) ?_
            refine x_iald (v := A 24 v) hx hb hK.1 hP 24 0 ga_24 rfl (by decide) (by omega) (by omega) (rfl) zd_P_takeRatioOf_61 ?_
            refine x_iald (v := A 20 (A 24 v)) hx hb hK.1 hP 20 0 ga_20 rfl (by decide) (by omega) (by omega) (rfl) zd_P_takeRatioOf_62 ?_
            refine lv_istore (lv' := [(4, .int (iI (A 20 (A 24 v)))), (3, .int (iI (r + (A 22 (A 24 v))))), (0, .ref (q 3)), (1, .int (iI (z))), (2, .int (iI (t))), (5, .int (iI (s5)))]) hx hb zd_P_takeRatioOf_63 hl (by decide) rfl (fun ls hl => ?_)
            refine lv_iload_n hx hb zd_P_takeRatioOf_65 rfl (lv_at hl 4 rfl) ?_
            refine lv_aload_n hx hb zd_P_takeRatioOf_66 rfl (lv_at hl 2 rfl) ?_
            refine va_get (D := D) (ci := 3) (v := .ref (q 19)) (C := zR_P) (T := zT_P) (N := 13) hx hb hts zi_P hown hK.1 hP 3 ga_3 rfl 6 (by decide) (hts _ zw_139) (fun _ h9 => h9) rfl zd_P_takeRatioOf_67 ?_
            refine lv_iload hx hb zd_P_takeRatioOf_70 (lv_at hl 0 rfl) ?_
            refine x_iald (v := A 19 (A 20 (A 24 v))) hx hb hK.1 hP 19 0 ga_19 rfl (by decide) (by omega) (by omega) (rfl) zd_P_takeRatioOf_72 ?_
            refine x_iadd hx hb zd_P_takeRatioOf_73 ?_
            refine lv_istore_n (lv' := [(2, .int (iI (t + (A 19 (A 20 (A 24 v)))))), (4, .int (iI (A 20 (A 24 v)))), (3, .int (iI (r + (A 22 (A 24 v))))), (0, .ref (q 3)), (1, .int (iI (z))), (5, .int (iI (s5)))]) hx hb zd_P_takeRatioOf_74 rfl hl (by decide) rfl (fun ls hl => ?_)
            refine lv_iload hx hb zd_P_takeRatioOf_75 (lv_at hl 1 rfl) ?_
            refine lv_iload_n hx hb zd_P_takeRatioOf_77 rfl (lv_at hl 4 rfl) ?_
            refine x_icmp_ne (tgt := 84) hx hb zd_P_takeRatioOf_78 (by decide) (⟨by omega, by omega⟩) (⟨by omega, by omega⟩) (fun h_78 => ?_) (fun h_78 => ?_)
            · refine lv_iinc (v := iI (s5 + 1)) (lv' := [(5, .int (iI (s5 + 1))), (2, .int (iI (t + (A 19 (A 20 (A 24 v)))))), (4, .int (iI (A 20 (A 24 v)))), (3, .int (iI (r + (A 22 (A 24 v))))), (0, .ref (q 3)), (1, .int (iI (z)))]) hx hb zd_P_takeRatioOf_84 hl (k := 5) rfl (iI_add _ _) (by decide) rfl (fun ls hl => ?_)
              refine lv_goto (tgt := 10) hx hb zd_P_takeRatioOf_87 (by decide) ?_
              exact ih_10 (t + (A 19 (A 20 (A 24 v)))) (r + (A 22 (A 24 v))) (A 20 (A 24 v)) (s5 + 1)   (⟨by omega, by (rcases Int.lt_or_eq_of_le (show s5 + 1 ≤ L by omega) with c_ | c_; (exact c_); (rw [c_, hlc] at s3_; exact absurd s3_.symm h_78))⟩) (s3_.symm) (by rw [s1_, ht]) (by rw [s2_, hr]) (by first | assumption | omega | (simp_all; done)) (by first | assumption | omega | (simp_all; done)) (by omega) _ _ hP hD hS ls (lv_sub hl [4, 5, 1, 3, 2, 0] rfl)
            · refine lv_goto (tgt := 90) hx hb zd_P_takeRatioOf_81 (by decide) ?_
              have e_ : s5 + 1 = L := by (rcases Int.lt_or_eq_of_le (show s5 + 1 ≤ L by omega) with c_ | c_; (exact absurd (s3_.trans h_78) (hlm (s5 + 1) (by omega) c_)); (exact c_))
              rw [e_, ← ht] at s1_
              rw [e_, ← hr] at s2_
              have hg0_ : 1 ≤ A 19 (A 20 (A 24 v)) + t := by omega
              refine lv_iload_n hx hb zd_P_takeRatioOf_90 rfl (lv_at hl 0 rfl) ?_
              refine lv_iload_n hx hb zd_P_takeRatioOf_91 rfl (lv_at hl 2 rfl) ?_
              refine z_goi (z_runSN (n := 2) (As := [.int (iI (t + (A 19 (A 20 (A 24 v))))), .int (iI (r + (A 22 (A 24 v))))]) (rest := []) S (c_C_commonDivisor l D q c _ F A (t + (A 19 (A 20 (A 24 v)))) (r + (A 22 (A 24 v))) (by first | assumption | omega | exact ⟨by omega, by omega⟩) (by first | assumption | omega | exact ⟨by omega, by omega⟩)) zw_525 zw_231 zw_1 zw_232 ⟨by decide +kernel, by decide, rfl, rfl⟩ hK hP hD rfl hl.1 rfl (Nat.le_of_ble_eq_true rfl) zd_P_takeRatioOf_92 ⟨Nat.zero_le _, Nat.zero_le _⟩) hD hS hA (fun z_92 F_92 A_92 H locs hq_92 hP hD hS => ?_)
              obtain ⟨hf_92, ha_92, hq_92⟩ := hq_92
              rw [hf_92, ha_92] at hP hD
              refine lv_istore (lv' := [(5, .int (iI (z_92))), (2, .int (iI (t + (A 19 (A 20 (A 24 v)))))), (4, .int (iI (A 20 (A 24 v)))), (3, .int (iI (r + (A 22 (A 24 v))))), (0, .ref (q 3)), (1, .int (iI (z)))]) hx hb zd_P_takeRatioOf_95 hl (by decide) rfl (fun ls hl => ?_)
              refine lv_iload_n hx hb zd_P_takeRatioOf_97 rfl (lv_at hl 3 rfl) ?_
              refine x_if_le (tgt := 121) hx hb zd_P_takeRatioOf_98 (by decide) (⟨by omega, by omega⟩) (fun h_98 => ?_) (fun h_98 => ?_)
              · exact ret _ _ _ _ _ _ zd_P_takeRatioOf_121 hP hD hS (by first | exact ⟨rfl, fun _ _ _ => rfl, fun h => absurd h (by omega), fun _ => rfl⟩ | exact ⟨rfl, fun j h1 h2 => by simp [fuP, h1, h2], fun _ => ⟨by rw [s1_, s2_]; show z_105 = _; rw [hq_105, hq_92, if_neg (by omega)], by rw [s1_, s2_]; show z_115 = _; rw [hq_115, hq_92, if_neg (by omega)]⟩, fun h => absurd (show 0 < tkR A z L by omega) h⟩)
              · have hgp_ := gI_pos (a := t + A 19 (A 20 (A 24 v))) (b := r + A 22 (A 24 v)) (by omega)
                have hgl_ := gI_le (a := t + A 19 (A 20 (A 24 v))) (b := r + A 22 (A 24 v)) (by omega)
                refine lv_aload_n hx hb zd_P_takeRatioOf_101 rfl (lv_at hl 4 rfl) ?_
                refine lv_iload_n hx hb zd_P_takeRatioOf_102 rfl (lv_at hl 1 rfl) ?_
                refine lv_iload hx hb zd_P_takeRatioOf_103 (lv_at hl 0 rfl) ?_
                refine z_goi (z_runSN (n := 2) (As := [.int (iI (t + (A 19 (A 20 (A 24 v))))), .int (iI (z_92))]) (rest := [.ref (q 3)]) S (c_C_divided l D q c _ F A (t + (A 19 (A 20 (A 24 v)))) z_92 (by first | assumption | omega | exact ⟨by omega, by omega⟩) (by first | assumption | omega | exact ⟨by omega, by omega⟩)) zw_526 zw_234 zw_1 zw_235 ⟨by decide +kernel, by decide, rfl, rfl⟩ hK hP hD rfl hl.1 rfl (Nat.le_of_ble_eq_true rfl) zd_P_takeRatioOf_105 ⟨Nat.zero_le _, Nat.zero_le _⟩) hD hS hA (fun z_105 F_105 A_105 H locs hq_105 hP hD hS => ?_)
                obtain ⟨hf_105, ha_105, hq_105⟩ := hq_105
                rw [hf_105, ha_105] at hP hD
                refine va_put (D := D) (ci := 3) (v := .int (iI (z_105))) (ty := .int) (C := zR_P) (T := zT_P) (N := 13) hx hb hts zi_P zk_P zo_P zn_P hown hK.1 hP hD hS 3 ga_3 rfl 1 (by decide) (hts _ zw_132) (fun _ h9 => h9) rfl (by decide +kernel) (rfl) (rfl) (Nat.le_of_ble_eq_true rfl) zd_P_takeRatioOf_108 (fun H locs hP hD hS => ?_)
                rw [gs_3_1] at hP hD
                refine lv_aload_n hx hb zd_P_takeRatioOf_111 rfl (lv_at hl 4 rfl) ?_
                refine lv_iload_n hx hb zd_P_takeRatioOf_112 rfl (lv_at hl 3 rfl) ?_
                refine lv_iload hx hb zd_P_takeRatioOf_113 (lv_at hl 0 rfl) ?_
                refine z_goi (z_runSN (n := 2) (As := [.int (iI (r + (A 22 (A 24 v)))), .int (iI (z_92))]) (rest := [.ref (q 3)]) S (c_C_divided l D q c _ (fuP F 301 z_105) A (r + (A 22 (A 24 v))) z_92 (by first | assumption | omega | exact ⟨by omega, by omega⟩) (by first | assumption | omega | exact ⟨by omega, by omega⟩)) zw_526 zw_234 zw_1 zw_235 ⟨by decide +kernel, by decide, rfl, rfl⟩ hK hP hD rfl hl.1 rfl (Nat.le_of_ble_eq_true rfl) zd_P_takeRatioOf_115 ⟨Nat.zero_le _, Nat.zero_le _⟩) hD hS hA (fun z_115 F_115 A_115 H locs hq_115 hP hD hS => ?_)
                obtain ⟨hf_115, ha_115, hq_115⟩ := hq_115
                rw [hf_115, ha_115] at hP hD
                refine va_put (D := D) (ci := 3) (v := .int (iI (z_115))) (ty := .int) (C := zR_P) (T := zT_P) (N := 13) hx hb hts zi_P zk_P zo_P zn_P hown hK.1 hP hD hS 3 ga_3 rfl 2 (by decide) (hts _ zw_134) (fun _ h9 => h9) rfl (by decide +kernel) (rfl) (rfl) (Nat.le_of_ble_eq_true rfl) zd_P_takeRatioOf_118 (fun H locs hP hD hS => ?_)
                rw [gs_3_2] at hP hD
                exact ret _ _ _ _ _ _ zd_P_takeRatioOf_121 hP hD hS (by first | exact ⟨rfl, fun _ _ _ => rfl, fun h => absurd h (by omega), fun _ => rfl⟩ | exact ⟨rfl, fun j h1 h2 => by simp [fuP, h1, h2], fun _ => ⟨by rw [s1_, s2_]; show z_105 = _; rw [hq_105, hq_92, if_neg (by omega)], by rw [s1_, s2_]; show z_115 = _; rw [hq_115, hq_92, if_neg (by omega)]⟩, fun h => absurd (show 0 < tkR A z L by omega) h⟩)
  exact L_10 (((L - (0) : Int) + 1).toNat) (0) (0) (z) (0)   (by first | assumption | omega | (simp_all; done)) (rfl) (rfl) (rfl) (by first | assumption | omega | (simp_all; done)) (by first | assumption | omega | (simp_all; done)) (by omega) _ _ hP hD hS ls (lv_sub hl [4, 5, 3, 2, 1, 0] rfl)
