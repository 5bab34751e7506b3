theorem FI_ob {n m r : Int} {fr to pu tk p ov un : Int → Int} (hn : 0 ≤ n ∧ n ≤ 8) (h : FI n m r fr to pu tk p ov un) : (∀ x, 0 ≤ x → x < n → p x ≠ -1 → (1 ≤ ov x ∧ ov x ≤ 43046721) ∧ 1 ≤ un x ∧ un x ≤ 43046721) ∧ ∀ x, 0 ≤ x → x < n → -1 ≤ p x ∧ p x < 8 := by
  have hbd := bd_b (p := p) hn
  refine ⟨fun x x0 x1 hx => ?_, fun x x0 x1 => ?_⟩
  · obtain ⟨-, -, -, h3, h4, -⟩ := (h.1 x x0 x1).resolve_left hx
    omega
  · rcases h.1 x x0 x1 with hh | ⟨-, h1, -⟩ <;> omega
theorem reach_FI {n m r k : Int} {A A1 : Nat → Int → Int} (hn : 0 ≤ n ∧ n ≤ 8) (hr : 0 ≤ r) (hk : 0 ≤ k ∧ k < m) (hc : (0 ≤ A 36 k ∧ A 36 k < n) ∧ (0 ≤ A 37 k ∧ A 37 k < n) ∧ (1 ≤ A 38 k ∧ A 38 k ≤ 9) ∧ (1 ≤ A 39 k ∧ A 39 k ≤ 9)) (h : FI n m r (A 36) (A 37) (A 38) (A 39) (A 41) (A 42) (A 43)) (hp : (A 41 (A 36 k) ≠ -1 ∧ A 41 (A 37 k) = -1 ∧ A1 = auP (auP (auP A 42 (A 37 k) ((A 42 (A 36 k) * A 38 k).tdiv (gI (A 42 (A 36 k) * A 38 k) (A 43 (A 36 k) * A 39 k)))) 43 (A 37 k) ((A 43 (A 36 k) * A 39 k).tdiv (gI (A 42 (A 36 k) * A 38 k) (A 43 (A 36 k) * A 39 k)))) 41 (A 37 k) (A 41 (A 36 k))) ∨ (A 41 (A 36 k) = -1 ∧ A 41 (A 37 k) ≠ -1 ∧ A1 = auP (auP (auP A 42 (A 36 k) ((A 42 (A 37 k) * A 39 k).tdiv (gI (A 42 (A 37 k) * A 39 k) (A 43 (A 37 k) * A 38 k)))) 43 (A 36 k) ((A 43 (A 37 k) * A 38 k).tdiv (gI (A 42 (A 37 k) * A 39 k) (A 43 (A 37 k) * A 38 k)))) 41 (A 36 k) (A 41 (A 37 k)))) :
    FI n m r (A 36) (A 37) (A 38) (A 39) (A1 41) (A1 42) (A1 43) ∧ asg (A1 41) n = asg (A 41) n + 1 ∧ ∀ j, j ≠ 41 → j ≠ 42 → j ≠ 43 → A1 j = A j := by
  obtain ⟨c1, c2, c3⟩ := h.2.2 k hk.1 hk.2
  rcases hp with ⟨h1, h2, rfl⟩ | ⟨h1, h2, rfl⟩
  · refine ⟨FI_step hn h hr hc.1 hc.2.1 h1 h2 (c3 h2 h1) (conn_edge hk.1 hk.2).2 hc.2.2.1 hc.2.2.2 (fun K hK => (hK k hk.1 hk.2).symm) rfl, asg_up hc.2.1.1 hc.2.1.2 h2 h1, fun j j1 j2 j3 => by simp [auP, j1, j2, j3]⟩
  · refine ⟨FI_step hn h hr hc.2.1 hc.1 h2 h1 (c2 h1 h2) (conn_edge hk.1 hk.2).1 hc.2.2.2 hc.2.2.1 (fun K hK => hK k hk.1 hk.2) rfl, asg_up hc.1.1 hc.1.2 h1 h2, fun j j1 j2 j3 => by simp [auP, j1, j2, j3]⟩
section FT
variable {n many r j z : Int} {A A7 A1 : Nat → Int → Int}
theorem ft_f (e36 : A7 36 = A 36) (e37 : A7 37 = A 37) (e38 : A7 38 = A 38) (e39 : A7 39 = A 39) (hn : 0 ≤ n ∧ n ≤ 8) (hr : 0 ≤ r) (hj : 0 ≤ j ∧ j < many) (hc : (0 ≤ A7 36 j ∧ A7 36 j < n) ∧ (0 ≤ A7 37 j ∧ A7 37 j < n) ∧ (1 ≤ A7 38 j ∧ A7 38 j ≤ 9) ∧ (1 ≤ A7 39 j ∧ A7 39 j ≤ 9)) (h : FI n many r (A 36) (A 37) (A 38) (A 39) (A7 41) (A7 42) (A7 43)) (g1 : z = 0 ∨ z = 1) (g2 : z = 0 → A1 = A7 ∧ (A7 41 (A7 36 j) = -1 ↔ A7 41 (A7 37 j) = -1)) (g3 : z = 1 → (A7 41 (A7 36 j) ≠ -1 ∧ A7 41 (A7 37 j) = -1 ∧ A1 = auP (auP (auP A7 42 (A7 37 j) ((A7 42 (A7 36 j) * A7 38 j).tdiv (gI (A7 42 (A7 36 j) * A7 38 j) (A7 43 (A7 36 j) * A7 39 j)))) 43 (A7 37 j) ((A7 43 (A7 36 j) * A7 39 j).tdiv (gI (A7 42 (A7 36 j) * A7 38 j) (A7 43 (A7 36 j) * A7 39 j)))) 41 (A7 37 j) (A7 41 (A7 36 j))) ∨ (A7 41 (A7 36 j) = -1 ∧ A7 41 (A7 37 j) ≠ -1 ∧ A1 = auP (auP (auP A7 42 (A7 36 j) ((A7 42 (A7 37 j) * A7 39 j).tdiv (gI (A7 42 (A7 37 j) * A7 39 j) (A7 43 (A7 37 j) * A7 38 j)))) 43 (A7 36 j) ((A7 43 (A7 37 j) * A7 38 j).tdiv (gI (A7 42 (A7 37 j) * A7 39 j) (A7 43 (A7 37 j) * A7 38 j)))) 41 (A7 36 j) (A7 41 (A7 37 j)))) : FI n many r (A 36) (A 37) (A 38) (A 39) (A1 41) (A1 42) (A1 43) := by
  rcases g1 with g | g
  · rw [(g2 g).1]; exact h
  · rw [← e36, ← e37, ← e38, ← e39] at h ⊢
    exact (reach_FI hn hr hj hc h (g3 g)).1
theorem ft_a (e36 : A7 36 = A 36) (e37 : A7 37 = A 37) (e38 : A7 38 = A 38) (e39 : A7 39 = A 39) (hn : 0 ≤ n ∧ n ≤ 8) (hr : 0 ≤ r) (hj : 0 ≤ j ∧ j < many) (hc : (0 ≤ A7 36 j ∧ A7 36 j < n) ∧ (0 ≤ A7 37 j ∧ A7 37 j < n) ∧ (1 ≤ A7 38 j ∧ A7 38 j ≤ 9) ∧ (1 ≤ A7 39 j ∧ A7 39 j ≤ 9)) (h : FI n many r (A 36) (A 37) (A 38) (A 39) (A7 41) (A7 42) (A7 43)) (g1 : z = 0 ∨ z = 1) (g2 : z = 0 → A1 = A7 ∧ (A7 41 (A7 36 j) = -1 ↔ A7 41 (A7 37 j) = -1)) (g3 : z = 1 → (A7 41 (A7 36 j) ≠ -1 ∧ A7 41 (A7 37 j) = -1 ∧ A1 = auP (auP (auP A7 42 (A7 37 j) ((A7 42 (A7 36 j) * A7 38 j).tdiv (gI (A7 42 (A7 36 j) * A7 38 j) (A7 43 (A7 36 j) * A7 39 j)))) 43 (A7 37 j) ((A7 43 (A7 36 j) * A7 39 j).tdiv (gI (A7 42 (A7 36 j) * A7 38 j) (A7 43 (A7 36 j) * A7 39 j)))) 41 (A7 37 j) (A7 41 (A7 36 j))) ∨ (A7 41 (A7 36 j) = -1 ∧ A7 41 (A7 37 j) ≠ -1 ∧ A1 = auP (auP (auP A7 42 (A7 36 j) ((A7 42 (A7 37 j) * A7 39 j).tdiv (gI (A7 42 (A7 37 j) * A7 39 j) (A7 43 (A7 37 j) * A7 38 j)))) 43 (A7 36 j) ((A7 43 (A7 37 j) * A7 38 j).tdiv (gI (A7 42 (A7 37 j) * A7 39 j) (A7 43 (A7 37 j) * A7 38 j)))) 41 (A7 36 j) (A7 41 (A7 37 j)))) : asg (A1 41) n = asg (A7 41) n + z := by
  rcases g1 with g | g
  · rw [(g2 g).1]; omega
  · rw [← e36, ← e37, ← e38, ← e39] at h
    rw [g]; exact (reach_FI hn hr hj hc h (g3 g)).2.1
theorem ft_k (hk : ∀ k, k ≠ 41 → k ≠ 42 → k ≠ 43 → A7 k = A k) (hn : 0 ≤ n ∧ n ≤ 8) (hr : 0 ≤ r) (hj : 0 ≤ j ∧ j < many) (hc : (0 ≤ A7 36 j ∧ A7 36 j < n) ∧ (0 ≤ A7 37 j ∧ A7 37 j < n) ∧ (1 ≤ A7 38 j ∧ A7 38 j ≤ 9) ∧ (1 ≤ A7 39 j ∧ A7 39 j ≤ 9)) (h : FI n many r (A 36) (A 37) (A 38) (A 39) (A7 41) (A7 42) (A7 43)) (g1 : z = 0 ∨ z = 1) (g2 : z = 0 → A1 = A7 ∧ (A7 41 (A7 36 j) = -1 ↔ A7 41 (A7 37 j) = -1)) (g3 : z = 1 → (A7 41 (A7 36 j) ≠ -1 ∧ A7 41 (A7 37 j) = -1 ∧ A1 = auP (auP (auP A7 42 (A7 37 j) ((A7 42 (A7 36 j) * A7 38 j).tdiv (gI (A7 42 (A7 36 j) * A7 38 j) (A7 43 (A7 36 j) * A7 39 j)))) 43 (A7 37 j) ((A7 43 (A7 36 j) * A7 39 j).tdiv (gI (A7 42 (A7 36 j) * A7 38 j) (A7 43 (A7 36 j) * A7 39 j)))) 41 (A7 37 j) (A7 41 (A7 36 j))) ∨ (A7 41 (A7 36 j) = -1 ∧ A7 41 (A7 37 j) ≠ -1 ∧ A1 = auP (auP (auP A7 42 (A7 36 j) ((A7 42 (A7 37 j) * A7 39 j).tdiv (gI (A7 42 (A7 37 j) * A7 39 j) (A7 43 (A7 37 j) * A7 38 j)))) 43 (A7 36 j) ((A7 43 (A7 37 j) * A7 38 j).tdiv (gI (A7 42 (A7 37 j) * A7 39 j) (A7 43 (A7 37 j) * A7 38 j)))) 41 (A7 36 j) (A7 41 (A7 37 j)))) : ∀ k, k ≠ 41 → k ≠ 42 → k ≠ 43 → A1 k = A k := by
  intro k h1 h2 h3
  rcases g1 with g | g
  · rw [(g2 g).1]; exact hk k h1 h2 h3
  · rw [← hk 36 (by decide) (by decide) (by decide), ← hk 37 (by decide) (by decide) (by decide), ← hk 38 (by decide) (by decide) (by decide), ← hk 39 (by decide) (by decide) (by decide)] at h
    rw [(reach_FI hn hr hj hc h (g3 g)).2.2 k h1 h2 h3]; exact hk k h1 h2 h3
theorem ft_c {m7 : Int} (e36 : A7 36 = A 36) (e37 : A7 37 = A 37) (hcl : m7 = 0 → ∀ k, 0 ≤ k → k < j → (A7 41 (A 36 k) = -1 ↔ A7 41 (A 37 k) = -1)) (hm : m7 = 0) (hz : z = 0) (g2 : z = 0 → A1 = A7 ∧ (A7 41 (A7 36 j) = -1 ↔ A7 41 (A7 37 j) = -1)) : ∀ k, 0 ≤ k → k < j + 1 → (A1 41 (A 36 k) = -1 ↔ A1 41 (A 37 k) = -1) := by
  intro k h0 h1
  obtain ⟨rfl, g⟩ := g2 hz
  by_cases e : k = j
  · subst e; rw [← e36, ← e37]; exact g
  · exact hcl hm k h0 (by omega)
end FT
abbrev zr_X_fits : Room := ({ frames := 3, cells := 0, slots := 0, locals := 79 } : Room)
set_option maxHeartbeats 4000000 in
set_option maxRecDepth 100000 in
theorem c_X_fits (l : Launch) (D : va_G) (q : Nat → Nat) (c : Nat → ClassId) (sz : Nat) (F : Nat → Int) (A : Nat → Int → Int) (many : Int) (hmn : 1 ≤ F 501 ∧ F 501 ≤ 8) (hmm : 0 ≤ F 502 ∧ F 502 ≤ 14) (hmch : ∀ k, 0 ≤ k → k < F 502 → (0 ≤ A 36 k ∧ A 36 k < F 501) ∧ (0 ≤ A 37 k ∧ A 37 k < F 501) ∧ (1 ≤ A 38 k ∧ A 38 k ≤ 9) ∧ (1 ≤ A 39 k ∧ A 39 k ≤ 9) ∧ 0 ≤ A 40 k ∧ A 40 k ≤ 99) (hmy : 0 ≤ many ∧ many ≤ F 502) : zMI l zy_X_fits zc_X_fits 5 (some .boolean) zr_X_fits D q c sz [.ref (q 5), .int (iI (many))] F A (fun z F1 A1 => F1 = F ∧ (∀ k, k ≠ 41 → k ≠ 42 → k ≠ 43 → A1 k = A k) ∧ FO (F 501) many (F 501) (A 36) (A 37) (A 38) (A 39) (A1 41) (A1 42) (A1 43) ∧ (z = 0 ∨ z = 1) ∧ (z = 1 ↔ ∀ k, 0 ≤ k → k < many → A1 42 (A 36 k) * A 38 k * A1 43 (A 37 k) = A1 42 (A 37 k) * A 39 k * A1 43 (A 36 k))) := by
  refine z_ofB (by decide) (Nat.le_of_ble_eq_true rfl) ?_
  intro p e s m args below meth c0 A0 Q C0 ret hP hD hS ls hl
  obtain ⟨S, hK, hA⟩ := C0
  have hx := S.1
  have hb := S.2.1
  have hown := S.2.2.2.1
  have hts : ∀ w ∈ zG, w.before args s = true := fun w h => S.2.2.2.2 w (List.mem_cons_of_mem _ h)
  have hl : lv_has ls 5 [(0, .ref (q 5)), (1, .int (iI (many)))] := hl
  refine lv_iconst (v := iI (0)) hx hb zd_X_fits_0 rfl ?_
  refine lv_istore_n (lv' := [(2, .int (iI (0))), (0, .ref (q 5)), (1, .int (iI (many)))]) hx hb zd_X_fits_1 rfl hl (by decide) rfl (fun ls hl => ?_)
  have L_2 : ∀ (fu : Nat) (i : Int)  (A2 : Nat → Int → Int), (0 ≤ i ∧ i ≤ F 501) → (∀ k, k ≠ 41 → A2 k = A k) → (∀ x, 0 ≤ x → x < i → A2 41 x = -1) → (F 501 - i < (fu : Int)) → ∀ (H : Heap) (locs : List Loc), va_P D zcl (gw q c F A2) H → va_D A0 (gw q c F A2) → va_S A0 s.heap H locs → ∀ ls : Array Slot, lv_has ls 5 [(0, .ref (q 5)), (1, .int (iI (many))), (2, .int (iI (i)))] → W p l e zr_X_fits s m args below meth c0 H locs 0 0 Q (F0 m 2 ls []) := by
    intro fu
    induction fu with
    | zero => intro i  A2 hi hk2 hs2 hm_2; exact absurd hm_2 (by omega)
    | succ fu ih_2 =>
      intro i  A2 hi hk2 hs2 hm_2 H locs hP hD hS ls hl
      refine lv_iload_n hx hb zd_X_fits_2 rfl (lv_at hl 2 rfl) ?_
      refine lv_aload_n hx hb zd_X_fits_3 rfl (lv_at hl 0 rfl) ?_
      refine va_get (D := D) (ci := 5) (v := .int (iI (F 501))) (C := zR_X) (T := zT_X) (N := 34) hx hb hts zi_X hown hK.1 hP 5 ga_5 rfl 1 (by decide) (hts _ zw_534) (fun _ h9 => h9) rfl zd_X_fits_4 ?_
      refine x_icmp_ge (tgt := 23) hx hb zd_X_fits_7 (by decide) (⟨by omega, by omega⟩) (⟨by omega, by omega⟩) (fun h_7 => ?_) (fun h_7 => ?_)
      · refine lv_iconst (v := iI (0)) hx hb zd_X_fits_23 rfl ?_
        refine lv_istore_n (lv' := [(2, .int (iI (0))), (0, .ref (q 5)), (1, .int (iI (many)))]) hx hb zd_X_fits_24 rfl hl (by decide) rfl (fun ls hl => ?_)
        have L_25 : ∀ (fu : Nat) (r : Int)  (A25 : Nat → Int → Int), (0 ≤ r ∧ r ≤ F 501) → (∀ k, k ≠ 41 → k ≠ 42 → k ≠ 43 → A25 k = A k) → (FO (F 501) many r (A 36) (A 37) (A 38) (A 39) (A25 41) (A25 42) (A25 43)) → (F 501 - r < (fu : Int)) → ∀ (H : Heap) (locs : List Loc), va_P D zcl (gw q c F A25) H → va_D A0 (gw q c F A25) → va_S A0 s.heap H locs → ∀ ls : Array Slot, lv_has ls 5 [(0, .ref (q 5)), (1, .int (iI (many))), (2, .int (iI (r)))] → W p l e zr_X_fits s m args below meth c0 H locs 0 0 Q (F0 m 25 ls []) := by
          intro fu
          induction fu with
          | zero => intro r  A25 hr hk5 hFO hm_25; exact absurd hm_25 (by omega)
          | succ fu ih_25 =>
            intro r  A25 hr hk5 hFO hm_25 H locs hP hD hS ls hl
            refine lv_iload_n hx hb zd_X_fits_25 rfl (lv_at hl 2 rfl) ?_
            refine lv_aload_n hx hb zd_X_fits_26 rfl (lv_at hl 0 rfl) ?_
            refine va_get (D := D) (ci := 5) (v := .int (iI (F 501))) (C := zR_X) (T := zT_X) (N := 34) hx hb hts zi_X hown hK.1 hP 5 ga_5 rfl 1 (by decide) (hts _ zw_534) (fun _ h9 => h9) rfl zd_X_fits_27 ?_
            refine x_icmp_ge (tgt := 111) hx hb zd_X_fits_30 (by decide) (⟨by omega, by omega⟩) (⟨by omega, by omega⟩) (fun h_30 => ?_) (fun h_30 => ?_)
            · have er_ : r = F 501 := by omega
              rw [er_] at hFO
              have e36 := hk5 36 (by decide) (by decide) (by decide)
              have e37 := hk5 37 (by decide) (by decide) (by decide)
              have e38 := hk5 38 (by decide) (by decide) (by decide)
              have e39 := hk5 39 (by decide) (by decide) (by decide)
              have e40 := hk5 40 (by decide) (by decide) (by decide)
              have hbd_ := bd_b (p := A25 41) (n := F 501) (by omega)
              have hfn_ : ∀ x, 0 ≤ x → x < F 501 → (1 ≤ A25 42 x ∧ A25 42 x ≤ 43046721) ∧ 1 ≤ A25 43 x ∧ A25 43 x ≤ 43046721 := fun x h0 h1 => by (obtain ⟨_, _, _, h3, h4, _⟩ := (hFO.1 x h0 h1).resolve_left (hFO.2.1 x h0 h1 h1); omega)
              refine lv_iconst (v := iI (0)) hx hb zd_X_fits_111 rfl ?_
              refine lv_istore_n (lv' := [(2, .int (iI (0))), (0, .ref (q 5)), (1, .int (iI (many)))]) hx hb zd_X_fits_112 rfl hl (by decide) rfl (fun ls hl => ?_)
              have L_113 : ∀ (fu : Nat) (i3 : Int) , (0 ≤ i3 ∧ i3 ≤ many) → (∀ k, 0 ≤ k → k < i3 → A25 42 (A 36 k) * A 38 k * A25 43 (A 37 k) = A25 42 (A 37 k) * A 39 k * A25 43 (A 36 k)) → (many - i3 < (fu : Int)) → ∀ (H : Heap) (locs : List Loc), va_P D zcl (gw q c F A25) H → va_D A0 (gw q c F A25) → va_S A0 s.heap H locs → ∀ ls : Array Slot, lv_has ls 5 [(0, .ref (q 5)), (1, .int (iI (many))), (2, .int (iI (i3)))] → W p l e zr_X_fits s m args below meth c0 H locs 0 0 Q (F0 m 113 ls []) := by
                intro fu
                induction fu with
                | zero => intro i3   hi3 hs3 hm_113; exact absurd hm_113 (by omega)
                | succ fu ih_113 =>
                  intro i3   hi3 hs3 hm_113 H locs hP hD hS ls hl
                  refine lv_iload_n hx hb zd_X_fits_113 rfl (lv_at hl 2 rfl) ?_
                  refine lv_iload_n hx hb zd_X_fits_114 rfl (lv_at hl 1 rfl) ?_
                  refine x_icmp_ge (tgt := 192) hx hb zd_X_fits_115 (by decide) (⟨by omega, by omega⟩) (⟨by omega, by omega⟩) (fun h_115 => ?_) (fun h_115 => ?_)
                  · refine lv_iconst (v := iI (1)) hx hb zd_X_fits_192 rfl ?_
                    exact ret _ _ _ _ _ _ _ zd_X_fits_193 hP hD hS (by omega) (⟨rfl, hk5, hFO, by omega, ⟨fun _ k h0 h1 => hs3 k h0 (by omega), fun _ => rfl⟩⟩)
                  · have hc_ := hmch i3 (by omega) (by omega)
                    have ha_ := hfn_ (A 36 i3) (by omega) (by omega)
                    have hb_ := hfn_ (A 37 i3) (by omega) (by omega)
                    have w1_ := mulb (mulb ha_.1 hc_.2.2.1) hb_.2
                    have w2_ := mulb (mulb hb_.1 hc_.2.2.2.1) ha_.2
                    refine lv_aload_n hx hb zd_X_fits_118 rfl (lv_at hl 0 rfl) ?_
                    refine va_get (D := D) (ci := 5) (v := .ref (q 42)) (C := zR_X) (T := zT_X) (N := 34) hx hb hts zi_X hown hK.1 hP 5 ga_5 rfl 14 (by decide) (hts _ zw_547) (fun _ h9 => h9) rfl zd_X_fits_119 ?_
                    refine lv_aload_n hx hb zd_X_fits_122 rfl (lv_at hl 0 rfl) ?_
                    refine va_get (D := D) (ci := 5) (v := .ref (q 36)) (C := zR_X) (T := zT_X) (N := 34) hx hb hts zi_X hown hK.1 hP 5 ga_5 rfl 4 (by decide) (hts _ zw_537) (fun _ h9 => h9) rfl zd_X_fits_123 ?_
                    refine lv_iload_n hx hb zd_X_fits_126 rfl (lv_at hl 2 rfl) ?_
                    refine x_iald (v := A 36 i3) hx hb hK.1 hP 36 0 ga_36 rfl (by decide) (by omega) (by omega) (by rw [e36]) zd_X_fits_127 ?_
                    refine x_lald (v := A25 42 (A 36 i3)) hx hb hK.1 hP 42 1 ga_42 rfl (by decide) (by omega) (by omega) (rfl) zd_X_fits_128 ?_
                    refine lv_aload_n hx hb zd_X_fits_129 rfl (lv_at hl 0 rfl) ?_
                    refine va_get (D := D) (ci := 5) (v := .ref (q 38)) (C := zR_X) (T := zT_X) (N := 34) hx hb hts zi_X hown hK.1 hP 5 ga_5 rfl 6 (by decide) (hts _ zw_539) (fun _ h9 => h9) rfl zd_X_fits_130 ?_
                    refine lv_iload_n hx hb zd_X_fits_133 rfl (lv_at hl 2 rfl) ?_
                    refine x_iald (v := A 38 i3) hx hb hK.1 hP 38 0 ga_38 rfl (by decide) (by omega) (by omega) (by rw [e38]) zd_X_fits_134 ?_
                    refine x_i2l hx hb zd_X_fits_135 (⟨by omega, by omega⟩) ?_
                    refine x_lmul hx hb zd_X_fits_136 ?_
                    refine lv_aload_n hx hb zd_X_fits_137 rfl (lv_at hl 0 rfl) ?_
                    refine va_get (D := D) (ci := 5) (v := .ref (q 43)) (C := zR_X) (T := zT_X) (N := 34) hx hb hts zi_X hown hK.1 hP 5 ga_5 rfl 15 (by decide) (hts _ zw_548) (fun _ h9 => h9) rfl zd_X_fits_138 ?_
                    refine lv_aload_n hx hb zd_X_fits_141 rfl (lv_at hl 0 rfl) ?_
                    refine va_get (D := D) (ci := 5) (v := .ref (q 37)) (C := zR_X) (T := zT_X) (N := 34) hx hb hts zi_X hown hK.1 hP 5 ga_5 rfl 5 (by decide) (hts _ zw_538) (fun _ h9 => h9) rfl zd_X_fits_142 ?_
                    refine lv_iload_n hx hb zd_X_fits_145 rfl (lv_at hl 2 rfl) ?_
                    refine x_iald (v := A 37 i3) hx hb hK.1 hP 37 0 ga_37 rfl (by decide) (by omega) (by omega) (by rw [e37]) zd_X_fits_146 ?_
                    refine x_lald (v := A25 43 (A 37 i3)) hx hb hK.1 hP 43 1 ga_43 rfl (by decide) (by omega) (by omega) (rfl) zd_X_fits_147 ?_
                    refine x_lmul hx hb zd_X_fits_148 ?_
                    refine lv_aload_n hx hb zd_X_fits_149 rfl (lv_at hl 0 rfl) ?_
                    refine va_get (D := D) (ci := 5) (v := .ref (q 42)) (C := zR_X) (T := zT_X) (N := 34) hx hb hts zi_X hown hK.1 hP 5 ga_5 rfl 14 (by decide) (hts _ zw_547) (fun _ h9 => h9) rfl zd_X_fits_150 ?_
                    refine lv_aload_n hx hb zd_X_fits_153 rfl (lv_at hl 0 rfl) ?_
                    refine va_get (D := D) (ci := 5) (v := .ref (q 37)) (C := zR_X) (T := zT_X) (N := 34) hx hb hts zi_X hown hK.1 hP 5 ga_5 rfl 5 (by decide) (hts _ zw_538) (fun _ h9 => h9) rfl zd_X_fits_154 ?_
                    refine lv_iload_n hx hb zd_X_fits_157 rfl (lv_at hl 2 rfl) ?_
                    refine x_iald (v := A 37 i3) hx hb hK.1 hP 37 0 ga_37 rfl (by decide) (by omega) (by omega) (by rw [e37]) zd_X_fits_158 ?_
                    refine x_lald (v := A25 42 (A 37 i3)) hx hb hK.1 hP 42 1 ga_42 rfl (by decide) (by omega) (by omega) (rfl) zd_X_fits_159 ?_
                    refine lv_aload_n hx hb zd_X_fits_160 rfl (lv_at hl 0 rfl) ?_
                    refine va_get (D := D) (ci := 5) (v := .ref (q 39)) (C := zR_X) (T := zT_X) (N := 34) hx hb hts zi_X hown hK.1 hP 5 ga_5 rfl 7 (by decide) (hts _ zw_540) (fun _ h9 => h9) rfl zd_X_fits_161 ?_
                    refine lv_iload_n hx hb zd_X_fits_164 rfl (lv_at hl 2 rfl) ?_
                    refine x_iald (v := A 39 i3) hx hb hK.1 hP 39 0 ga_39 rfl (by decide) (by omega) (by omega) (by rw [e39]) zd_X_fits_165 ?_
                    refine x_i2l hx hb zd_X_fits_166 (⟨by omega, by omega⟩) ?_
                    refine x_lmul hx hb zd_X_fits_167 ?_
                    refine lv_aload_n hx hb zd_X_fits_168 rfl (lv_at hl 0 rfl) ?_
                    refine va_get (D := D) (ci := 5) (v := .ref (q 43)) (C := zR_X) (T := zT_X) (N := 34) hx hb hts zi_X hown hK.1 hP 5 ga_5 rfl 15 (by decide) (hts _ zw_548) (fun _ h9 => h9) rfl zd_X_fits_169 ?_
                    refine lv_aload_n hx hb zd_X_fits_172 rfl (lv_at hl 0 rfl) ?_
                    refine va_get (D := D) (ci := 5) (v := .ref (q 36)) (C := zR_X) (T := zT_X) (N := 34) hx hb hts zi_X hown hK.1 hP 5 ga_5 rfl 4 (by decide) (hts _ zw_537) (fun _ h9 => h9) rfl zd_X_fits_173 ?_
                    refine lv_iload_n hx hb zd_X_fits_176 rfl (lv_at hl 2 rfl) ?_
                    refine x_iald (v := A 36 i3) hx hb hK.1 hP 36 0 ga_36 rfl (by decide) (by omega) (by omega) (by rw [e36]) zd_X_fits_177 ?_
                    refine x_lald (v := A25 43 (A 36 i3)) hx hb hK.1 hP 43 1 ga_43 rfl (by decide) (by omega) (by omega) (rfl) zd_X_fits_178 ?_
                    refine x_lmul hx hb zd_X_fits_179 ?_
                    refine x_lcmp hx hb zd_X_fits_180 (⟨by omega, by omega⟩) (⟨by omega, by omega⟩) ?_
                    have hc_180 := cmpI_spec (((A25 42 (A 36 i3)) * (A 38 i3)) * (A25 43 (A 37 i3))) (((A25 42 (A 37 i3)) * (A 39 i3)) * (A25 43 (A 36 i3)))
                    refine x_if_eq (tgt := 186) hx hb zd_X_fits_181 (by decide) (⟨by omega, by omega⟩) (fun h_181 => ?_) (fun h_181 => ?_)
                    · refine lv_iinc (v := iI (i3 + 1)) (lv' := [(2, .int (iI (i3 + 1))), (0, .ref (q 5)), (1, .int (iI (many)))]) hx hb zd_X_fits_186 hl (k := 2) rfl (iI_add _ _) (by decide) rfl (fun ls hl => ?_)
                      refine lv_goto (tgt := 113) hx hb zd_X_fits_189 (by decide) ?_
                      exact ih_113 (i3 + 1)   (by first | assumption | omega | (simp_all; done)) (fun k h0 h1 => by by_cases e_ : k = i3; (subst e_; omega); (exact hs3 k h0 (by omega))) (by omega) _ _ hP hD hS ls (lv_sub hl [1, 2, 0] rfl)
                    · refine lv_iconst (v := iI (0)) hx hb zd_X_fits_184 rfl ?_
                      exact ret _ _ _ _ _ _ _ zd_X_fits_185 hP hD hS (by omega) (⟨rfl, hk5, hFO, by omega, ⟨fun h => by omega, fun h => by have := h i3 (by omega) (by omega); omega⟩⟩)
              exact L_113 (((many - (0) : Int) + 1).toNat) (0)   (by first | assumption | omega | (simp_all; done)) (fun k h0 h1 => by omega) (by omega) _ _ hP hD hS ls (lv_sub hl [1, 2, 0] rfl)
            · have hp5_ := hFO.1 r (by omega) (by omega)
              have hp6_ : -1 ≤ A25 41 r ∧ A25 41 r < 8 := by (rcases hp5_ with h | ⟨_, h, _⟩ <;> omega)
              refine lv_aload_n hx hb zd_X_fits_33 rfl (lv_at hl 0 rfl) ?_
              refine va_get (D := D) (ci := 5) (v := .ref (q 41)) (C := zR_X) (T := zT_X) (N := 34) hx hb hts zi_X hown hK.1 hP 5 ga_5 rfl 13 (by decide) (hts _ zw_546) (fun _ h9 => h9) rfl zd_X_fits_34 ?_
              refine lv_iload_n hx hb zd_X_fits_37 rfl (lv_at hl 2 rfl) ?_
              refine x_iald (v := A25 41 r) hx hb hK.1 hP 41 0 ga_41 rfl (by decide) (by omega) (by omega) (rfl) zd_X_fits_38 ?_
              refine lv_iconst (v := iI (-1)) hx hb zd_X_fits_39 rfl ?_
              refine x_icmp_eq (tgt := 46) hx hb zd_X_fits_40 (by decide) (⟨by omega, by omega⟩) (⟨by omega, by omega⟩) (fun h_40 => ?_) (fun h_40 => ?_)
              · refine lv_aload_n hx hb zd_X_fits_46 rfl (lv_at hl 0 rfl) ?_
                refine va_get (D := D) (ci := 5) (v := .ref (q 41)) (C := zR_X) (T := zT_X) (N := 34) hx hb hts zi_X hown hK.1 hP 5 ga_5 rfl 13 (by decide) (hts _ zw_546) (fun _ h9 => h9) rfl zd_X_fits_47 ?_
                refine lv_iload_n hx hb zd_X_fits_50 rfl (lv_at hl 2 rfl) ?_
                refine lv_iload_n hx hb zd_X_fits_51 rfl (lv_at hl 2 rfl) ?_
                refine x_iast hx hb hK.1 hP hD hS 41 0 ga_41 rfl (by decide) (by omega) (by omega) zd_X_fits_52 (fun H locs hP hD hS => ?_)
                rw [gs_41] at hP hD
                refine lv_aload_n hx hb zd_X_fits_53 rfl (lv_at hl 0 rfl) ?_
                refine lv_iload_n hx hb zd_X_fits_54 rfl (lv_at hl 2 rfl) ?_
                refine lv_lconst (v := lI (1)) hx hb zd_X_fits_55 (by decide) ?_
                refine lv_lconst (v := lI (1)) hx hb zd_X_fits_56 (by decide) ?_
                refine z_gov (z_runV (n := 3) (k := 5) (ci := 5) (As := [.int (iI (r)), .long (lI (1)), .long (lI (1))]) (rest := []) S (c_X_set l D q c _ F (auP A25 41 r r) r 1 1 (by first | assumption | omega | exact ⟨by omega, by omega⟩) (by decide) (by decide)) zw_669 zw_671 zs_39 zw_6 zw_672 ⟨by decide +kernel, by decide, rfl, rfl⟩ hK hP hD ga_5 rfl rfl rfl hl.1 rfl (Nat.le_of_ble_eq_true rfl) zd_X_fits_57 ⟨Nat.zero_le _, Nat.zero_le _⟩) hD hS hA (fun F_57 A_57 H locs hq_57 hP hD hS => ?_)
                obtain ⟨hf_57, ha_57⟩ := hq_57
                rw [hf_57, ha_57] at hP hD
                refine lv_iconst (v := iI (1)) hx hb zd_X_fits_60 rfl ?_
                refine lv_istore_n (lv' := [(3, .int (iI (1))), (0, .ref (q 5)), (1, .int (iI (many))), (2, .int (iI (r)))]) hx hb zd_X_fits_61 rfl hl (by decide) rfl (fun ls hl => ?_)
                have L_62 : ∀ (fu : Nat) (mo : Int)  (A62 : Nat → Int → Int), (mo = 0 ∨ mo = 1) → (∀ k, k ≠ 41 → k ≠ 42 → k ≠ 43 → A62 k = A k) → (FI (F 501) many r (A 36) (A 37) (A 38) (A 39) (A62 41) (A62 42) (A62 43)) → (mo = 0 → ∀ k, 0 ≤ k → k < many → (A62 41 (A 36 k) = -1 ↔ A62 41 (A 37 k) = -1)) → (2 * (F 501 - asg (A62 41) (F 501)) + mo < (fu : Int)) → ∀ (H : Heap) (locs : List Loc), va_P D zcl (gw q c F A62) H → va_D A0 (gw q c F A62) → va_S A0 s.heap H locs → ∀ ls : Array Slot, lv_has ls 5 [(0, .ref (q 5)), (1, .int (iI (many))), (2, .int (iI (r))), (3, .int (iI (mo)))] → W p l e zr_X_fits s m args below meth c0 H locs 0 0 Q (F0 m 62 ls []) := by
                  intro fu
                  induction fu with
                  | zero => intro mo  A62 hmo hk6 hFI6 hcl6 hm_62; exact absurd hm_62 (by have hab_ := asg_b (p := A62 41) (n := F 501) (by omega); omega)
                  | succ fu ih_62 =>
                    intro mo  A62 hmo hk6 hFI6 hcl6 hm_62 H locs hP hD hS ls hl
                    have hab_ := asg_b (p := A62 41) (n := F 501) (by omega)
                    refine lv_iload_n hx hb zd_X_fits_62 rfl (lv_at hl 3 rfl) ?_
                    refine x_if_eq (tgt := 105) hx hb zd_X_fits_63 (by decide) (⟨by omega, by omega⟩) (fun h_63 => ?_) (fun h_63 => ?_)
                    · refine lv_iinc (v := iI (r + 1)) (lv' := [(2, .int (iI (r + 1))), (0, .ref (q 5)), (1, .int (iI (many))), (3, .int (iI (mo)))]) hx hb zd_X_fits_105 hl (k := 2) rfl (iI_add _ _) (by decide) rfl (fun ls hl => ?_)
                      refine lv_goto (tgt := 25) hx hb zd_X_fits_108 (by decide) ?_
                      exact ih_25 (r + 1)  A62 (by first | assumption | omega | (simp_all; done)) (by first | exact hk6 | exact hk5) (by first | exact FI_out hFI6 (hcl6 h_63) | exact FO_next hFO h_40) (by omega) _ _ hP hD hS ls (lv_sub hl [1, 2, 0] rfl)
                    · refine lv_iconst (v := iI (0)) hx hb zd_X_fits_66 rfl ?_
                      refine lv_istore_n (lv' := [(3, .int (iI (0))), (0, .ref (q 5)), (1, .int (iI (many))), (2, .int (iI (r)))]) hx hb zd_X_fits_67 rfl hl (by decide) rfl (fun ls hl => ?_)
                      refine lv_iconst (v := iI (0)) hx hb zd_X_fits_68 rfl ?_
                      refine lv_istore (lv' := [(4, .int (iI (0))), (3, .int (iI (0))), (0, .ref (q 5)), (1, .int (iI (many))), (2, .int (iI (r)))]) hx hb zd_X_fits_69 hl (by decide) rfl (fun ls hl => ?_)
                      have L_71 : ∀ (fu : Nat) (m7 : Int) (j : Int)  (A71 : Nat → Int → Int), (m7 = 0 ∨ m7 = 1) → (0 ≤ j ∧ j ≤ many) → (∀ k, k ≠ 41 → k ≠ 42 → k ≠ 43 → A71 k = A k) → (FI (F 501) many r (A 36) (A 37) (A 38) (A 39) (A71 41) (A71 42) (A71 43)) → (m7 = 0 → ∀ k, 0 ≤ k → k < j → (A71 41 (A 36 k) = -1 ↔ A71 41 (A 37 k) = -1)) → (asg (A62 41) (F 501) + m7 ≤ asg (A71 41) (F 501)) → (many - j < (fu : Int)) → ∀ (H : Heap) (locs : List Loc), va_P D zcl (gw q c F A71) H → va_D A0 (gw q c F A71) → va_S A0 s.heap H locs → ∀ ls : Array Slot, lv_has ls 5 [(0, .ref (q 5)), (1, .int (iI (many))), (2, .int (iI (r))), (3, .int (iI (m7))), (4, .int (iI (j)))] → W p l e zr_X_fits s m args below meth c0 H locs 0 0 Q (F0 m 71 ls []) := by
                        intro fu
                        induction fu with
                        | zero => intro m7 j  A71 hm7 hj hk7 hFI7 hcl7 has7 hm_71; exact absurd hm_71 (by omega)
                        | succ fu ih_71 =>
                          intro m7 j  A71 hm7 hj hk7 hFI7 hcl7 has7 hm_71 H locs hP hD hS ls hl
                          have e36 := hk7 36 (by decide) (by decide) (by decide)
                          have e37 := hk7 37 (by decide) (by decide) (by decide)
                          have e38 := hk7 38 (by decide) (by decide) (by decide)
                          have e39 := hk7 39 (by decide) (by decide) (by decide)
                          have e40 := hk7 40 (by decide) (by decide) (by decide)
                          obtain ⟨hob_, hpb_⟩ := FI_ob (by omega) hFI7
                          refine lv_iload hx hb zd_X_fits_71 (lv_at hl 4 rfl) ?_
                          refine lv_iload_n hx hb zd_X_fits_73 rfl (lv_at hl 1 rfl) ?_
                          refine x_icmp_ge (tgt := 102) hx hb zd_X_fits_74 (by decide) (⟨by omega, by omega⟩) (⟨by omega, by omega⟩) (fun h_74 => ?_) (fun h_74 => ?_)
                          · refine lv_goto (tgt := 62) hx hb zd_X_fits_102 (by decide) ?_
                            exact ih_62 (m7)  A71 (hm7) (hk7) (hFI7) (fun h k h0 h1 => hcl7 h k h0 (by omega)) (by have hab2_ := asg_b (p := A71 41) (n := F 501) (by omega); omega) _ _ hP hD hS ls (lv_sub hl [0, 1, 2, 3] rfl)
                          · have hcj_ := hmch j (by omega) (by omega)
                            refine lv_aload_n hx hb zd_X_fits_77 rfl (lv_at hl 0 rfl) ?_
                            refine lv_iload hx hb zd_X_fits_78 (lv_at hl 4 rfl) ?_
                            refine z_goi (z_runV (n := 1) (k := 5) (ci := 5) (As := [.int (iI (j))]) (rest := []) S (c_X_reach l D q c _ F A71 j (by first | assumption | omega | (simp only [e36, e37, e38, e39, e40]; assumption)) (by first | assumption | omega | (simp only [e36, e37, e38, e39, e40]; assumption)) (by first | assumption | omega | (simp only [e36, e37, e38, e39, e40]; assumption)) (by first | assumption | omega | (simp only [e36, e37, e38, e39, e40]; assumption)) (by first | assumption | omega | (simp only [e36, e37, e38, e39, e40]; assumption)) (by first | assumption | omega | (simp only [e36, e37, e38, e39, e40]; assumption))) zw_676 zw_678 zs_40 zw_6 zw_679 ⟨by decide +kernel, by decide, rfl, rfl⟩ hK hP hD ga_5 rfl rfl rfl hl.1 rfl (Nat.le_of_ble_eq_true rfl) zd_X_fits_80 ⟨Nat.zero_le _, Nat.zero_le _⟩) hD hS hA (fun z_80 F_80 A_80 H locs hq_80 hP hD hS => ?_)
                            obtain ⟨hf_80, hq_80⟩ := hq_80
                            rw [hf_80] at hP hD
                            obtain ⟨g1, g2, g3⟩ := hq_80
                            have hn8_ : 0 ≤ F 501 ∧ F 501 ≤ 8 := by omega
                            have hcx_ : (0 ≤ A71 36 j ∧ A71 36 j < F 501) ∧ (0 ≤ A71 37 j ∧ A71 37 j < F 501) ∧ (1 ≤ A71 38 j ∧ A71 38 j ≤ 9) ∧ (1 ≤ A71 39 j ∧ A71 39 j ≤ 9) := by (rw [e36, e37, e38, e39]; exact ⟨hcj_.1, hcj_.2.1, hcj_.2.2.1, hcj_.2.2.2.1⟩)
                            refine x_if_ne (tgt := 90) hx hb zd_X_fits_83 (by decide) (⟨by omega, by omega⟩) (fun h_83 => ?_) (fun h_83 => ?_)
                            · refine lv_iconst (v := iI (1)) hx hb zd_X_fits_90 rfl ?_
                              refine lv_goto (tgt := 95) hx hb zd_X_fits_91 (by decide) ?_
                              refine lv_istore_n (lv' := [(3, .int (iI (1))), (0, .ref (q 5)), (1, .int (iI (many))), (2, .int (iI (r))), (4, .int (iI (j)))]) hx hb zd_X_fits_95 rfl hl (by decide) rfl (fun ls hl => ?_)
                              refine lv_iinc (v := iI (j + 1)) (lv' := [(4, .int (iI (j + 1))), (3, .int (iI (1))), (0, .ref (q 5)), (1, .int (iI (many))), (2, .int (iI (r)))]) hx hb zd_X_fits_96 hl (k := 4) rfl (iI_add _ _) (by decide) rfl (fun ls hl => ?_)
                              refine lv_goto (tgt := 71) hx hb zd_X_fits_99 (by decide) ?_
                              exact ih_71 (1) (j + 1)  A_80 (by first | exact Or.inl rfl | exact Or.inr rfl) (by first | assumption | omega | (simp_all; done)) (ft_k hk7 hn8_ hr.1 (by omega) hcx_ hFI7 g1 g2 g3) (ft_f e36 e37 e38 e39 hn8_ hr.1 (by omega) hcx_ hFI7 g1 g2 g3) (by first | exact fun h => absurd h (by omega) | exact fun _ => ft_c e36 e37 hcl7 (by omega) (by omega) g2) (by have h9 := ft_a e36 e37 e38 e39 hn8_ hr.1 (show 0 ≤ j ∧ j < many by omega) hcx_ hFI7 g1 g2 g3; omega) (by omega) _ _ hP hD hS ls (lv_sub hl [2, 3, 4, 1, 0] rfl)
                            · refine lv_iload_n hx hb zd_X_fits_86 rfl (lv_at hl 3 rfl) ?_
                              refine x_if_eq (tgt := 94) hx hb zd_X_fits_87 (by decide) (⟨by omega, by omega⟩) (fun h_87 => ?_) (fun h_87 => ?_)
                              · refine lv_iconst (v := iI (0)) hx hb zd_X_fits_94 rfl ?_
                                refine lv_istore_n (lv' := [(3, .int (iI (0))), (0, .ref (q 5)), (1, .int (iI (many))), (2, .int (iI (r))), (4, .int (iI (j)))]) hx hb zd_X_fits_95 rfl hl (by decide) rfl (fun ls hl => ?_)
                                refine lv_iinc (v := iI (j + 1)) (lv' := [(4, .int (iI (j + 1))), (3, .int (iI (0))), (0, .ref (q 5)), (1, .int (iI (many))), (2, .int (iI (r)))]) hx hb zd_X_fits_96 hl (k := 4) rfl (iI_add _ _) (by decide) rfl (fun ls hl => ?_)
                                refine lv_goto (tgt := 71) hx hb zd_X_fits_99 (by decide) ?_
                                exact ih_71 (0) (j + 1)  A_80 (by first | exact Or.inl rfl | exact Or.inr rfl) (by first | assumption | omega | (simp_all; done)) (ft_k hk7 hn8_ hr.1 (by omega) hcx_ hFI7 g1 g2 g3) (ft_f e36 e37 e38 e39 hn8_ hr.1 (by omega) hcx_ hFI7 g1 g2 g3) (by first | exact fun h => absurd h (by omega) | exact fun _ => ft_c e36 e37 hcl7 (by omega) (by omega) g2) (by have h9 := ft_a e36 e37 e38 e39 hn8_ hr.1 (show 0 ≤ j ∧ j < many by omega) hcx_ hFI7 g1 g2 g3; omega) (by omega) _ _ hP hD hS ls (lv_sub hl [2, 3, 4, 1, 0] rfl)
                              · refine lv_iconst (v := iI (1)) hx hb zd_X_fits_90 rfl ?_
                                refine lv_goto (tgt := 95) hx hb zd_X_fits_91 (by decide) ?_
                                refine lv_istore_n (lv' := [(3, .int (iI (1))), (0, .ref (q 5)), (1, .int (iI (many))), (2, .int (iI (r))), (4, .int (iI (j)))]) hx hb zd_X_fits_95 rfl hl (by decide) rfl (fun ls hl => ?_)
                                refine lv_iinc (v := iI (j + 1)) (lv' := [(4, .int (iI (j + 1))), (3, .int (iI (1))), (0, .ref (q 5)), (1, .int (iI (many))), (2, .int (iI (r)))]) hx hb zd_X_fits_96 hl (k := 4) rfl (iI_add _ _) (by decide) rfl (fun ls hl => ?_)
                                refine lv_goto (tgt := 71) hx hb zd_X_fits_99 (by decide) ?_
                                exact ih_71 (1) (j + 1)  A_80 (by first | exact Or.inl rfl | exact Or.inr rfl) (by first | assumption | omega | (simp_all; done)) (ft_k hk7 hn8_ hr.1 (by omega) hcx_ hFI7 g1 g2 g3) (ft_f e36 e37 e38 e39 hn8_ hr.1 (by omega) hcx_ hFI7 g1 g2 g3) (by first | exact fun h => absurd h (by omega) | exact fun _ => ft_c e36 e37 hcl7 (by omega) (by omega) g2) (by have h9 := ft_a e36 e37 e38 e39 hn8_ hr.1 (show 0 ≤ j ∧ j < many by omega) hcx_ hFI7 g1 g2 g3; omega) (by omega) _ _ hP hD hS ls (lv_sub hl [2, 3, 4, 1, 0] rfl)
                      exact L_71 (((many - (0) : Int) + 1).toNat) (0) (0)  A62 (Or.inl rfl) (by first | assumption | omega | (simp_all; done)) (hk6) (hFI6) (fun _ k h0 h1 => by omega) (by omega) (by omega) _ _ hP hD hS ls (lv_sub hl [2, 3, 4, 1, 0] rfl)
                exact L_62 (((2 * (F 501 - asg ((auP (auP (auP A25 41 r r) 42 r ((1 : Int).tdiv (gI 1 1))) 43 r ((1 : Int).tdiv (gI 1 1))) 41) (F 501)) + (1) : Int) + 1).toNat) (1)  (auP (auP (auP A25 41 r r) 42 r ((1 : Int).tdiv (gI 1 1))) 43 r ((1 : Int).tdiv (gI 1 1))) (Or.inr rfl) (fun k h1 h2 h3 => by simp [auP, h1, h2, h3, hk5 k h1 h2 h3]) (FO_root (by omega) hFO (by omega) h_40) (fun h => by omega) (by have h9 := asg_b (p := auP (auP (auP A25 41 r r) 42 r ((1 : Int).tdiv (gI 1 1))) 43 r ((1 : Int).tdiv (gI 1 1)) 41) (n := F 501) (by omega); omega) _ _ hP hD hS ls (lv_sub hl [1, 2, 3, 0] rfl)
              · refine lv_goto (tgt := 105) hx hb zd_X_fits_43 (by decide) ?_
                refine lv_iinc (v := iI (r + 1)) (lv' := [(2, .int (iI (r + 1))), (0, .ref (q 5)), (1, .int (iI (many)))]) hx hb zd_X_fits_105 hl (k := 2) rfl (iI_add _ _) (by decide) rfl (fun ls hl => ?_)
                refine lv_goto (tgt := 25) hx hb zd_X_fits_108 (by decide) ?_
                exact ih_25 (r + 1)  A25 (by first | assumption | omega | (simp_all; done)) (by first | exact hk6 | exact hk5) (by first | exact FI_out hFI6 (hcl6 h_63) | exact FO_next hFO h_40) (by omega) _ _ hP hD hS ls (lv_sub hl [1, 2, 0] rfl)
        exact L_25 (((F 501 - (0) : Int) + 1).toNat) (0)  A2 (by first | assumption | omega | (simp_all; done)) (fun k h _ _ => hk2 k h) (⟨fun x h0 h1 => Or.inl (hs2 x h0 (by omega)), fun x h0 h1 => by omega, fun k h0 h1 => by have := hmch k h0 (by omega); rw [hs2 _ (by omega) (by omega), hs2 _ (by omega) (by omega)]⟩) (by omega) _ _ hP hD hS ls (lv_sub hl [1, 2, 0] rfl)
      · refine lv_aload_n hx hb zd_X_fits_10 rfl (lv_at hl 0 rfl) ?_
        refine va_get (D := D) (ci := 5) (v := .ref (q 41)) (C := zR_X) (T := zT_X) (N := 34) hx hb hts zi_X hown hK.1 hP 5 ga_5 rfl 13 (by decide) (hts _ zw_546) (fun _ h9 => h9) rfl zd_X_fits_11 ?_
        refine lv_iload_n hx hb zd_X_fits_14 rfl (lv_at hl 2 rfl) ?_
        refine lv_iconst (v := iI (-1)) hx hb zd_X_fits_15 rfl ?_
        refine x_iast hx hb hK.1 hP hD hS 41 0 ga_41 rfl (by decide) (by omega) (by omega) zd_X_fits_16 (fun H locs hP hD hS => ?_)
        rw [gs_41] at hP hD
        refine lv_iinc (v := iI (i + 1)) (lv' := [(2, .int (iI (i + 1))), (0, .ref (q 5)), (1, .int (iI (many)))]) hx hb zd_X_fits_17 hl (k := 2) rfl (iI_add _ _) (by decide) rfl (fun ls hl => ?_)
        refine lv_goto (tgt := 2) hx hb zd_X_fits_20 (by decide) ?_
        exact ih_2 (i + 1)  (auP A2 41 i (-1)) (by first | assumption | omega | (simp_all; done)) (fun k h => by simp [auP, h, hk2 k h]) (fun x h0 h1 => by by_cases e_ : x = i; (subst e_; simp [auP, upI]); (have := hs2 x h0 (by omega); simp [auP, upI, e_, this])) (by omega) _ _ hP hD hS ls (lv_sub hl [1, 2, 0] rfl)
  exact L_2 (((F 501 - (0) : Int) + 1).toNat) (0)  A (by first | assumption | omega | (simp_all; done)) (fun k _ => rfl) (fun x h0 h1 => by omega) (by omega) _ _ hP hD hS ls (lv_sub hl [1, 2, 0] rfl)
