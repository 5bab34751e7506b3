section BAL
variable {F : Nat → Int} {A : Nat → Int → Int} {k : Int}
theorem bal_y {A1 A2 A3 : Nat → Int → Int} {g x y : Int} (h : ¬ A 8 (A 9 k) = A 8 (A 10 k)) (hg : g = gI (A 7 (A 9 k) * A 11 k) (A 7 (A 10 k) * A 12 k)) (hx : x = if g = 0 then 0 else (A 7 (A 10 k) * A 12 k).tdiv g) (hy : y = if g = 0 then 0 else (A 7 (A 9 k) * A 11 k).tdiv g) (h0 : 1 ≤ g)
    (m1 : ∀ j, j ≠ 7 → A1 j = A j) (m2 : ∀ a, A1 7 a = if 0 ≤ a ∧ a < F 100 ∧ A 8 a = A 8 (A 9 k) then A 7 a * x else A 7 a)
    (m3 : ∀ j, j ≠ 7 → A2 j = A1 j) (m4 : ∀ a, A2 7 a = if 0 ≤ a ∧ a < F 100 ∧ A1 8 a = A 8 (A 10 k) then A1 7 a * y else A1 7 a)
    (m5 : ∀ j, j ≠ 8 → A3 j = A2 j) (m6 : ∀ a, A3 8 a = if 0 ≤ a ∧ a < F 100 ∧ A2 8 a = max (A 8 (A 9 k)) (A 8 (A 10 k)) then min (A 8 (A 9 k)) (A 8 (A 10 k)) else A2 8 a) :
    (A 8 (A 9 k) ≠ A 8 (A 10 k) → F = F ∧ (∀ j, j ≠ 7 → j ≠ 8 → A3 j = A j) ∧
  (∀ a, A3 7 a = if 0 ≤ a ∧ a < F 100 ∧ A 8 a = A 8 (A 10 k) then A 7 a * (A 7 (A 9 k) * A 11 k).tdiv (gI (A 7 (A 9 k) * A 11 k) (A 7 (A 10 k) * A 12 k)) else if 0 ≤ a ∧ a < F 100 ∧ A 8 a = A 8 (A 9 k) then A 7 a * (A 7 (A 10 k) * A 12 k).tdiv (gI (A 7 (A 9 k) * A 11 k) (A 7 (A 10 k) * A 12 k)) else A 7 a) ∧
  (∀ a, A3 8 a = if 0 ≤ a ∧ a < F 100 ∧ A 8 a = max (A 8 (A 9 k)) (A 8 (A 10 k)) then min (A 8 (A 9 k)) (A 8 (A 10 k)) else A 8 a)) ∧
  (A 8 (A 9 k) = A 8 (A 10 k) → A3 = A ∧ F = if A 7 (A 9 k) * A 11 k ≠ A 7 (A 10 k) * A 12 k ∧ F 102 = -1 then fuP F 102 k else F) := by
  refine ⟨fun _ => ⟨rfl, fun j h7 h8 => by rw [m5 j h8, m3 j h7, m1 j h7], fun a => ?_, fun a => ?_⟩, fun e => absurd e h⟩
  · have e1 : A1 8 = A 8 := m1 8 (by decide)
    rw [if_neg (by omega)] at hx hy
    rw [m5 7 (by decide), m4 a, e1, m2 a, ← hg, ← hx, ← hy]
    by_cases c1 : 0 ≤ a ∧ a < F 100 ∧ A 8 a = A 8 (A 10 k)
    · rw [if_pos c1, if_pos c1, if_neg (fun z => h (z.2.2.symm.trans c1.2.2))]
    · rw [if_neg c1, if_neg c1]
  · rw [m6 a, m3 8 (by decide), m1 8 (by decide)]
theorem bal_n {F1 : Nat → Int} (h : A 8 (A 9 k) = A 8 (A 10 k)) (h1 : F1 = if A 7 (A 9 k) * A 11 k ≠ A 7 (A 10 k) * A 12 k ∧ F 102 = -1 then fuP F 102 k else F) :
    (A 8 (A 9 k) ≠ A 8 (A 10 k) → F1 = F ∧ (∀ j, j ≠ 7 → j ≠ 8 → A j = A j) ∧
  (∀ a, A 7 a = if 0 ≤ a ∧ a < F 100 ∧ A 8 a = A 8 (A 10 k) then A 7 a * (A 7 (A 9 k) * A 11 k).tdiv (gI (A 7 (A 9 k) * A 11 k) (A 7 (A 10 k) * A 12 k)) else if 0 ≤ a ∧ a < F 100 ∧ A 8 a = A 8 (A 9 k) then A 7 a * (A 7 (A 10 k) * A 12 k).tdiv (gI (A 7 (A 9 k) * A 11 k) (A 7 (A 10 k) * A 12 k)) else A 7 a) ∧
  (∀ a, A 8 a = if 0 ≤ a ∧ a < F 100 ∧ A 8 a = max (A 8 (A 9 k)) (A 8 (A 10 k)) then min (A 8 (A 9 k)) (A 8 (A 10 k)) else A 8 a)) ∧
  (A 8 (A 9 k) = A 8 (A 10 k) → A = A ∧ F1 = if A 7 (A 9 k) * A 11 k ≠ A 7 (A 10 k) * A 12 k ∧ F 102 = -1 then fuP F 102 k else F) := ⟨fun e => absurd h e, fun _ => ⟨rfl, h1⟩⟩
end BAL
/-- a channel written at the end -/
abbrev addW (F : Nat → Int) (A : Nat → Int → Int) (a b x y t : Int) : Nat → Int → Int := auP (auP (auP (auP (auP A 9 (F 101) a) 10 (F 101) b) 11 (F 101) x) 12 (F 101) y) 13 (F 101) t
abbrev balP (F : Nat → Int) (A : Nat → Int → Int) (k : Int) (F1 : Nat → Int) (A1 : Nat → Int → Int) : Prop := (A 8 (A 9 k) ≠ A 8 (A 10 k) → F1 = F ∧ (∀ j, j ≠ 7 → j ≠ 8 → A1 j = A j) ∧
  (∀ a, A1 7 a = if 0 ≤ a ∧ a < F 100 ∧ A 8 a = A 8 (A 10 k) then A 7 a * (A 7 (A 9 k) * A 11 k).tdiv (gI (A 7 (A 9 k) * A 11 k) (A 7 (A 10 k) * A 12 k)) else if 0 ≤ a ∧ a < F 100 ∧ A 8 a = A 8 (A 9 k) then A 7 a * (A 7 (A 10 k) * A 12 k).tdiv (gI (A 7 (A 9 k) * A 11 k) (A 7 (A 10 k) * A 12 k)) else A 7 a) ∧
  (∀ a, A1 8 a = if 0 ≤ a ∧ a < F 100 ∧ A 8 a = max (A 8 (A 9 k)) (A 8 (A 10 k)) then min (A 8 (A 9 k)) (A 8 (A 10 k)) else A 8 a)) ∧
  (A 8 (A 9 k) = A 8 (A 10 k) → A1 = A ∧ F1 = if A 7 (A 9 k) * A 11 k ≠ A 7 (A 10 k) * A 12 k ∧ F 102 = -1 then fuP F 102 k else F)
abbrev addP (F : Nat → Int) (A : Nat → Int → Int) (a b x y t : Int) (F1 : Nat → Int) (A1 : Nat → Int → Int) : Prop := balP (fuP F 101 (F 101 + 1)) (addW F A a b x y t) (F 101) F1 A1
theorem add_ch {F : Nat → Int} {A : Nat → Int → Int} {a b x y t : Int} (hn : 1 ≤ F 100 ∧ F 100 ≤ 8) (hch : ∀ k, 0 ≤ k → k < F 101 → (0 ≤ A 9 k ∧ A 9 k < F 100) ∧ (0 ≤ A 10 k ∧ A 10 k < F 100) ∧ (1 ≤ A 11 k ∧ A 11 k ≤ 9) ∧ (1 ≤ A 12 k ∧ A 12 k ≤ 9) ∧ 0 ≤ A 13 k ∧ A 13 k ≤ 99) (hab : (0 ≤ a ∧ a < F 100) ∧ 0 ≤ b ∧ b < F 100) (hxy : (1 ≤ x ∧ x ≤ 9) ∧ (1 ≤ y ∧ y ≤ 9) ∧ 0 ≤ t ∧ t ≤ 99) :
    ∀ k, 0 ≤ k → k < fuP F 101 (F 101 + 1) 101 → (0 ≤ addW F A a b x y t 9 k ∧ addW F A a b x y t 9 k < fuP F 101 (F 101 + 1) 100) ∧ (0 ≤ addW F A a b x y t 10 k ∧ addW F A a b x y t 10 k < fuP F 101 (F 101 + 1) 100) ∧ (1 ≤ addW F A a b x y t 11 k ∧ addW F A a b x y t 11 k ≤ 9) ∧ (1 ≤ addW F A a b x y t 12 k ∧ addW F A a b x y t 12 k ≤ 9) ∧ 0 ≤ addW F A a b x y t 13 k ∧ addW F A a b x y t 13 k ≤ 99 := by
  intro k h0 h1
  have h1 : k < F 101 + 1 := h1
  by_cases e : k = F 101
  · subst e
    simp [addW, auP, upI, fuP]
    omega
  · have := hch k h0 (by omega)
    simp [addW, auP, upI, fuP, e]
    omega
abbrev zr_C_commonDivisor : Room := ({ frames := 0, cells := 0, slots := 0, locals := 0 } : Room)
set_option maxHeartbeats 4000000 in
set_option maxRecDepth 100000 in
theorem c_C_commonDivisor (l : Launch) (D : va_G) (q : Nat → Nat) (c : Nat → ClassId) (sz : Nat) (F : Nat → Int) (A : Nat → Int → Int) (a : Int) (b : Int) (ha : 0 ≤ a ∧ a ≤ 2147483647) (hb_ : 0 ≤ b ∧ b ≤ 2147483647) : zMI l zy_C_commonDivisor zc_C_commonDivisor 6 (some .int) zr_C_commonDivisor D q c sz [.int (iI (a)), .int (iI (b))] F A (fun z F1 A1 => F1 = F ∧ A1 = A ∧ z = gI a b) := by
  refine z_ofI (by decide) (Nat.le_of_ble_eq_true rfl) ?_
  intro p e s m args below meth c0 A0 Q C0 ret hP hD hS ls hl
  obtain ⟨S, hK, hA⟩ := C0
  have hx := S.1
  have hb := S.2.1
  have hown := S.2.2.2.1
  have hts : ∀ w ∈ zG, w.before args s = true := fun w h => S.2.2.2.2 w (List.mem_cons_of_mem _ h)
  have hl : lv_has ls 6 [(0, .int (iI (a))), (1, .int (iI (b)))] := hl
  refine lv_iload_n hx hb zd_C_commonDivisor_0 rfl (lv_at hl 0 rfl) ?_
  refine lv_istore_n (lv' := [(2, .int (iI (a))), (0, .int (iI (a))), (1, .int (iI (b)))]) hx hb zd_C_commonDivisor_1 rfl hl (by decide) rfl (fun ls hl => ?_)
  refine lv_iload_n hx hb zd_C_commonDivisor_2 rfl (lv_at hl 2 rfl) ?_
  refine lv_istore_n (lv' := [(3, .int (iI (b))), (2, .int (iI (a))), (0, .int (iI (a))), (1, .int (iI (b)))]) hx hb zd_C_commonDivisor_3 rfl hl (by decide) rfl (fun ls hl => ?_)
  refine lv_iconst (v := iI (0)) hx hb zd_C_commonDivisor_4 rfl ?_
  refine lv_istore (lv' := [(4, .int (iI (0))), (3, .int (iI (b))), (2, .int (iI (a))), (0, .int (iI (a))), (1, .int (iI (b)))]) hx hb zd_C_commonDivisor_5 hl (by decide) rfl (fun ls hl => ?_)
  have L_7 : ∀ (fu : Nat) (x : Int) (y : Int) (i : Int) , (0 ≤ i ∧ i ≤ 100) → ((0 ≤ x ∧ x ≤ 2147483647) ∧ 0 ≤ y ∧ y ≤ 2147483647) → (gI x y = gI a b) → (eu_ok x y i) → (100 - i < (fu : Int)) → ∀ (H : Heap) (locs : List Loc), va_P D zcl (gw q c F A) H → va_D A0 (gw q c F A) → va_S A0 s.heap H locs → ∀ ls : Array Slot, lv_has ls 6 [(0, .int (iI (a))), (1, .int (iI (b))), (2, .int (iI (x))), (3, .int (iI (y))), (4, .int (iI (i)))] → W p l e zr_C_commonDivisor s m args below meth c0 H locs 0 0 Q (F0 m 7 ls []) := by
    intro fu
    induction fu with
    | zero => intro x y i   hi hxy hg he hm_7; exact absurd hm_7 (by omega)
    | succ fu ih_7 =>
      intro x y i   hi hxy hg he hm_7 H locs hP hD hS ls hl
      refine lv_iload hx hb zd_C_commonDivisor_7 (lv_at hl 4 rfl) ?_
      refine lv_bipush (v := iI (100)) hx hb zd_C_commonDivisor_9 (by decide) ?_
      refine x_icmp_ge (tgt := 34) hx hb zd_C_commonDivisor_11 (by decide) (⟨by omega, by omega⟩) (⟨by omega, by omega⟩) (fun h_11 => ?_) (fun h_11 => ?_)
      · have hy0 := eu_end he (by omega) (by omega) (by omega)
        refine lv_iload_n hx hb zd_C_commonDivisor_34 rfl (lv_at hl 2 rfl) ?_
        exact ret _ _ _ _ _ _ _ zd_C_commonDivisor_35 hP hD hS (⟨rfl, rfl, by first | (rw [hy0] at hg; rw [← hg, gI_0 (by omega)]) | (rw [h_15] at hg; rw [← hg, gI_0 (by omega)])⟩)
      · refine lv_iload_n hx hb zd_C_commonDivisor_14 rfl (lv_at hl 3 rfl) ?_
        refine x_if_eq (tgt := 34) hx hb zd_C_commonDivisor_15 (by decide) (⟨by omega, by omega⟩) (fun h_15 => ?_) (fun h_15 => ?_)
        · refine lv_iload_n hx hb zd_C_commonDivisor_34 rfl (lv_at hl 2 rfl) ?_
          exact ret _ _ _ _ _ _ _ zd_C_commonDivisor_35 hP hD hS (⟨rfl, rfl, by first | (rw [hy0] at hg; rw [← hg, gI_0 (by omega)]) | (rw [h_15] at hg; rw [← hg, gI_0 (by omega)])⟩)
        · have ht_ := tm_lt (x := x) (y := y) (by omega) (by omega)
          refine lv_iload_n hx hb zd_C_commonDivisor_18 rfl (lv_at hl 2 rfl) ?_
          refine lv_iload_n hx hb zd_C_commonDivisor_19 rfl (lv_at hl 3 rfl) ?_
          refine x_irem hx hb zd_C_commonDivisor_20 (⟨by omega, by omega⟩) (⟨by omega, by omega⟩) (by omega) ?_
          refine lv_istore (lv' := [(5, .int (iI (x.tmod y))), (0, .int (iI (a))), (1, .int (iI (b))), (2, .int (iI (x))), (3, .int (iI (y))), (4, .int (iI (i)))]) hx hb zd_C_commonDivisor_21 hl (by decide) rfl (fun ls hl => ?_)
          refine lv_iload_n hx hb zd_C_commonDivisor_23 rfl (lv_at hl 4 rfl) ?_
          refine lv_istore_n (lv' := [(2, .int (iI (y))), (5, .int (iI (x.tmod y))), (0, .int (iI (a))), (1, .int (iI (b))), (3, .int (iI (y))), (4, .int (iI (i)))]) hx hb zd_C_commonDivisor_24 rfl hl (by decide) rfl (fun ls hl => ?_)
          refine lv_iload hx hb zd_C_commonDivisor_25 (lv_at hl 1 rfl) ?_
          refine lv_istore_n (lv' := [(3, .int (iI (x.tmod y))), (2, .int (iI (y))), (5, .int (iI (x.tmod y))), (0, .int (iI (a))), (1, .int (iI (b))), (4, .int (iI (i)))]) hx hb zd_C_commonDivisor_27 rfl hl (by decide) rfl (fun ls hl => ?_)
          refine lv_iinc (v := iI (i + 1)) (lv' := [(4, .int (iI (i + 1))), (3, .int (iI (x.tmod y))), (2, .int (iI (y))), (5, .int (iI (x.tmod y))), (0, .int (iI (a))), (1, .int (iI (b)))]) hx hb zd_C_commonDivisor_28 hl (k := 5) rfl (iI_add _ _) (by decide) rfl (fun ls hl => ?_)
          refine lv_goto (tgt := 7) hx hb zd_C_commonDivisor_31 (by decide) ?_
          exact ih_7 (y) (x.tmod y) (i + 1)   (by first | assumption | omega | (simp_all; done)) (by first | assumption | omega | (simp_all; done)) (by rw [gI_step (by omega) (by omega)]; exact hg) (eu_next he (by omega) (by omega) (by omega)) (by omega) _ _ hP hD hS ls (lv_sub hl [4, 5, 2, 1, 0] rfl)
  exact L_7 (((100 - (0) : Int) + 1).toNat) (a) (b) (0)   (by first | assumption | omega | (simp_all; done)) (by first | assumption | omega | (simp_all; done)) (rfl) (Or.inl rfl) (by omega) _ _ hP hD hS ls (lv_sub hl [3, 4, 2, 1, 0] rfl)

abbrev zr_N_balance : Room := ({ frames := 2, cells := 0, slots := 0, locals := 54 } : Room)
set_option maxHeartbeats 4000000 in
set_option maxRecDepth 100000 in
theorem c_N_balance (l : Launch) (D : va_G) (q : Nat → Nat) (c : Nat → ClassId) (sz : Nat) (F : Nat → Int) (A : Nat → Int → Int) (k : Int) (hn : 1 ≤ F 100 ∧ F 100 ≤ 8) (hc : 0 ≤ F 101 ∧ F 101 ≤ 14) (hact : ∀ a, 0 ≤ a → a < 8 → (1 ≤ A 7 a ∧ A 7 a ≤ 4782969) ∧ 0 ≤ A 8 a ∧ A 8 a < 8) (hch : ∀ k, 0 ≤ k → k < F 101 → (0 ≤ A 9 k ∧ A 9 k < F 100) ∧ (0 ≤ A 10 k ∧ A 10 k < F 100) ∧ (1 ≤ A 11 k ∧ A 11 k ≤ 9) ∧ (1 ≤ A 12 k ∧ A 12 k ≤ 9) ∧ 0 ≤ A 13 k ∧ A 13 k ≤ 99) (hk : 0 ≤ k ∧ k < F 101) (hu : ib (F 102)) : zMV l zy_N_balance zc_N_balance 7 none zr_N_balance D q c sz [.ref (q 1), .int (iI (k))] F A (fun F1 A1 => balP F A k F1 A1) := by
  refine z_ofV (by decide) (Nat.le_of_ble_eq_true rfl) ?_
  intro p e s m args below meth c0 A0 Q C0 ret hP hD hS ls hl
  obtain ⟨S, hK, hA⟩ := C0
  have hx := S.1
  have hb := S.2.1
  have hown := S.2.2.2.1
  have hts : ∀ w ∈ zG, w.before args s = true := fun w h => S.2.2.2.2 w (List.mem_cons_of_mem _ h)
  have hl : lv_has ls 7 [(0, .ref (q 1)), (1, .int (iI (k)))] := hl
  have hc_ := hch k (by omega) (by omega)
  have hf_ := hact (A 9 k) (by omega) (by omega)
  have ht_ := hact (A 10 k) (by omega) (by omega)
  have hg_ : 1 ≤ A 7 (A 9 k) * A 11 k ∧ A 7 (A 9 k) * A 11 k ≤ 4782969 * 9 := mulb hf_.1 hc_.2.2.1
  have hk_ : 1 ≤ A 7 (A 10 k) * A 12 k ∧ A 7 (A 10 k) * A 12 k ≤ 4782969 * 9 := mulb ht_.1 hc_.2.2.2.1
  refine lv_aload_n hx hb zd_N_balance_0 rfl (lv_at hl 0 rfl) ?_
  refine va_get (D := D) (ci := 1) (v := .ref (q 7)) (C := zR_N) (T := zT_N) (N := 11) hx hb hts zi_N hown hK.1 hP 1 ga_1 rfl 4 (by decide) (hts _ zw_46) (fun _ h9 => h9) rfl zd_N_balance_1 ?_
  refine lv_aload_n hx hb zd_N_balance_4 rfl (lv_at hl 0 rfl) ?_
  refine va_get (D := D) (ci := 1) (v := .ref (q 9)) (C := zR_N) (T := zT_N) (N := 11) hx hb hts zi_N hown hK.1 hP 1 ga_1 rfl 6 (by decide) (hts _ zw_54) (fun _ h9 => h9) rfl zd_N_balance_5 ?_
  refine lv_iload_n hx hb zd_N_balance_8 rfl (lv_at hl 1 rfl) ?_
  refine x_iald (v := A 9 k) hx hb hK.1 hP 9 0 ga_9 rfl (by decide) (by omega) (by omega) (rfl) zd_N_balance_9 ?_
  refine x_iald (v := A 7 (A 9 k)) hx hb hK.1 hP 7 0 ga_7 rfl (by decide) (by omega) (by omega) (rfl) zd_N_balance_10 ?_
  refine lv_aload_n hx hb zd_N_balance_11 rfl (lv_at hl 0 rfl) ?_
  refine va_get (D := D) (ci := 1) (v := .ref (q 11)) (C := zR_N) (T := zT_N) (N := 11) hx hb hts zi_N hown hK.1 hP 1 ga_1 rfl 8 (by decide) (hts _ zw_60) (fun _ h9 => h9) rfl zd_N_balance_12 ?_
  refine lv_iload_n hx hb zd_N_balance_15 rfl (lv_at hl 1 rfl) ?_
  refine x_iald (v := A 11 k) hx hb hK.1 hP 11 0 ga_11 rfl (by decide) (by omega) (by omega) (rfl) zd_N_balance_16 ?_
  refine x_imul hx hb zd_N_balance_17 ?_
  refine lv_istore_n (lv' := [(2, .int (iI ((A 7 (A 9 k)) * (A 11 k)))), (0, .ref (q 1)), (1, .int (iI (k)))]) hx hb zd_N_balance_18 rfl hl (by decide) rfl (fun ls hl => ?_)
  refine lv_aload_n hx hb zd_N_balance_19 rfl (lv_at hl 1 rfl) ?_
  refine va_get (D := D) (ci := 1) (v := .ref (q 7)) (C := zR_N) (T := zT_N) (N := 11) hx hb hts zi_N hown hK.1 hP 1 ga_1 rfl 4 (by decide) (hts _ zw_46) (fun _ h9 => h9) rfl zd_N_balance_20 ?_
  refine lv_aload_n hx hb zd_N_balance_23 rfl (lv_at hl 1 rfl) ?_
  refine va_get (D := D) (ci := 1) (v := .ref (q 10)) (C := zR_N) (T := zT_N) (N := 11) hx hb hts zi_N hown hK.1 hP 1 ga_1 rfl 7 (by decide) (hts _ zw_57) (fun _ h9 => h9) rfl zd_N_balance_24 ?_
  refine lv_iload_n hx hb zd_N_balance_27 rfl (lv_at hl 2 rfl) ?_
  refine x_iald (v := A 10 k) hx hb hK.1 hP 10 0 ga_10 rfl (by decide) (by omega) (by omega) (rfl) zd_N_balance_28 ?_
  refine x_iald (v := A 7 (A 10 k)) hx hb hK.1 hP 7 0 ga_7 rfl (by decide) (by omega) (by omega) (rfl) zd_N_balance_29 ?_
  refine lv_aload_n hx hb zd_N_balance_30 rfl (lv_at hl 1 rfl) ?_
  refine va_get (D := D) (ci := 1) (v := .ref (q 12)) (C := zR_N) (T := zT_N) (N := 11) hx hb hts zi_N hown hK.1 hP 1 ga_1 rfl 9 (by decide) (hts _ zw_64) (fun _ h9 => h9) rfl zd_N_balance_31 ?_
  refine lv_iload_n hx hb zd_N_balance_34 rfl (lv_at hl 2 rfl) ?_
  refine x_iald (v := A 12 k) hx hb hK.1 hP 12 0 ga_12 rfl (by decide) (by omega) (by omega) (rfl) zd_N_balance_35 ?_
  refine x_imul hx hb zd_N_balance_36 ?_
  refine lv_istore_n (lv' := [(3, .int (iI ((A 7 (A 10 k)) * (A 12 k)))), (2, .int (iI ((A 7 (A 9 k)) * (A 11 k)))), (0, .ref (q 1)), (1, .int (iI (k)))]) hx hb zd_N_balance_37 rfl hl (by decide) rfl (fun ls hl => ?_)
  refine lv_aload_n hx hb zd_N_balance_38 rfl (lv_at hl 2 rfl) ?_
  refine va_get (D := D) (ci := 1) (v := .ref (q 8)) (C := zR_N) (T := zT_N) (N := 11) hx hb hts zi_N hown hK.1 hP 1 ga_1 rfl 5 (by decide) (hts _ zw_51) (fun _ h9 => h9) rfl zd_N_balance_39 ?_
  refine lv_aload_n hx hb zd_N_balance_42 rfl (lv_at hl 2 rfl) ?_
  refine va_get (D := D) (ci := 1) (v := .ref (q 9)) (C := zR_N) (T := zT_N) (N := 11) hx hb hts zi_N hown hK.1 hP 1 ga_1 rfl 6 (by decide) (hts _ zw_54) (fun _ h9 => h9) rfl zd_N_balance_43 ?_
  refine lv_iload_n hx hb zd_N_balance_46 rfl (lv_at hl 3 rfl) ?_
  refine x_iald (v := A 9 k) hx hb hK.1 hP 9 0 ga_9 rfl (by decide) (by omega) (by omega) (rfl) zd_N_balance_47 ?_
  refine x_iald (v := A 8 (A 9 k)) hx hb hK.1 hP 8 0 ga_8 rfl (by decide) (by omega) (by omega) (rfl) zd_N_balance_48 ?_
  refine lv_istore (lv' := [(4, .int (iI (A 8 (A 9 k)))), (3, .int (iI ((A 7 (A 10 k)) * (A 12 k)))), (2, .int (iI ((A 7 (A 9 k)) * (A 11 k)))), (0, .ref (q 1)), (1, .int (iI (k)))]) hx hb zd_N_balance_49 hl (by decide) rfl (fun ls hl => ?_)
  refine lv_aload_n hx hb zd_N_balance_51 rfl (lv_at hl 3 rfl) ?_
  refine va_get (D := D) (ci := 1) (v := .ref (q 8)) (C := zR_N) (T := zT_N) (N := 11) hx hb hts zi_N hown hK.1 hP 1 ga_1 rfl 5 (by decide) (hts _ zw_51) (fun _ h9 => h9) rfl zd_N_balance_52 ?_
  refine lv_aload_n hx hb zd_N_balance_55 rfl (lv_at hl 3 rfl) ?_
  refine va_get (D := D) (ci := 1) (v := .ref (q 10)) (C := zR_N) (T := zT_N) (N := 11) hx hb hts zi_N hown hK.1 hP 1 ga_1 rfl 7 (by decide) (hts _ zw_57) (fun _ h9 => h9) rfl zd_N_balance_56 ?_
  refine lv_iload_n hx hb zd_N_balance_59 rfl (lv_at hl 4 rfl) ?_
  refine x_iald (v := A 10 k) hx hb hK.1 hP 10 0 ga_10 rfl (by decide) (by omega) (by omega) (rfl) zd_N_balance_60 ?_
  refine x_iald (v := A 8 (A 10 k)) hx hb hK.1 hP 8 0 ga_8 rfl (by decide) (by omega) (by omega) (rfl) zd_N_balance_61 ?_
  refine lv_istore (lv' := [(5, .int (iI (A 8 (A 10 k)))), (4, .int (iI (A 8 (A 9 k)))), (3, .int (iI ((A 7 (A 10 k)) * (A 12 k)))), (2, .int (iI ((A 7 (A 9 k)) * (A 11 k)))), (0, .ref (q 1)), (1, .int (iI (k)))]) hx hb zd_N_balance_62 hl (by decide) rfl (fun ls hl => ?_)
  refine lv_iload hx hb zd_N_balance_64 (lv_at hl 1 rfl) ?_
  refine lv_iload hx hb zd_N_balance_66 (lv_at hl 0 rfl) ?_
  refine x_icmp_eq (tgt := 113) hx hb zd_N_balance_68 (by decide) (⟨by omega, by omega⟩) (⟨by omega, by omega⟩) (fun h_68 => ?_) (fun h_68 => ?_)
  · refine lv_iload_n hx hb zd_N_balance_113 rfl (lv_at hl 3 rfl) ?_
    refine lv_iload_n hx hb zd_N_balance_114 rfl (lv_at hl 2 rfl) ?_
    refine x_icmp_eq (tgt := 131) hx hb zd_N_balance_115 (by decide) (⟨by omega, by omega⟩) (⟨by omega, by omega⟩) (fun h_115 => ?_) (fun h_115 => ?_)
    · exact ret _ _ _ _ _ _ zd_N_balance_131 hP hD hS (by first | exact bal_y h_68 hq_73 hq_84 hq_96 (by omega) hm1 hm2 hm3 hm4 hm5 hm6 | (refine bal_n h_68 ?_; split <;> first | rfl | omega))
    · refine lv_aload_n hx hb zd_N_balance_118 rfl (lv_at hl 4 rfl) ?_
      refine va_get (D := D) (ci := 1) (v := .int (iI (F 102))) (C := zR_N) (T := zT_N) (N := 11) hx hb hts zi_N hown hK.1 hP 1 ga_1 rfl 2 (by decide) (hts _ zw_41) (fun _ h9 => h9) rfl zd_N_balance_119 ?_
      refine lv_iconst (v := iI (-1)) hx hb zd_N_balance_122 rfl ?_
      refine x_icmp_ne (tgt := 131) hx hb zd_N_balance_123 (by decide) (⟨by omega, by omega⟩) (⟨by omega, by omega⟩) (fun h_123 => ?_) (fun h_123 => ?_)
      · exact ret _ _ _ _ _ _ zd_N_balance_131 hP hD hS (by first | exact bal_y h_68 hq_73 hq_84 hq_96 (by omega) hm1 hm2 hm3 hm4 hm5 hm6 | (refine bal_n h_68 ?_; split <;> first | rfl | omega))
      · refine lv_aload_n hx hb zd_N_balance_126 rfl (lv_at hl 4 rfl) ?_
        refine lv_iload_n hx hb zd_N_balance_127 rfl (lv_at hl 5 rfl) ?_
        refine va_put (D := D) (ci := 1) (v := .int (iI (k))) (ty := .int) (C := zR_N) (T := zT_N) (N := 11) hx hb hts zi_N zk_N zo_N zn_N hown hK.1 hP hD hS 1 ga_1 rfl 2 (by decide) (hts _ zw_41) (fun _ h9 => h9) rfl (by decide +kernel) (rfl) (rfl) (Nat.le_of_ble_eq_true rfl) zd_N_balance_128 (fun H locs hP hD hS => ?_)
        rw [gs_1_2] at hP hD
        exact ret _ _ _ _ _ _ zd_N_balance_131 hP hD hS (by first | exact bal_y h_68 hq_73 hq_84 hq_96 (by omega) hm1 hm2 hm3 hm4 hm5 hm6 | (refine bal_n h_68 ?_; split <;> first | rfl | omega))
  · refine lv_iload_n hx hb zd_N_balance_71 rfl (lv_at hl 3 rfl) ?_
    refine lv_iload_n hx hb zd_N_balance_72 rfl (lv_at hl 2 rfl) ?_
    refine z_goi (z_runSN (n := 2) (As := [.int (iI ((A 7 (A 9 k)) * (A 11 k))), .int (iI ((A 7 (A 10 k)) * (A 12 k)))]) (rest := []) S (c_C_commonDivisor l D q c _ F A ((A 7 (A 9 k)) * (A 11 k)) ((A 7 (A 10 k)) * (A 12 k)) (by first | assumption | omega | exact ⟨by omega, by omega⟩) (by first | assumption | omega | exact ⟨by omega, by omega⟩)) zw_230 zw_231 zw_1 zw_232 ⟨by decide +kernel, by decide, rfl, rfl⟩ hK hP hD rfl hl.1 rfl (Nat.le_of_ble_eq_true rfl) zd_N_balance_73 ⟨Nat.zero_le _, Nat.zero_le _⟩) hD hS hA (fun z_73 F_73 A_73 H locs hq_73 hP hD hS => ?_)
    obtain ⟨hf_73, ha_73, hq_73⟩ := hq_73
    rw [hf_73, ha_73] at hP hD
    have hd1_ := gI_pos (a := A 7 (A 9 k) * A 11 k) (b := A 7 (A 10 k) * A 12 k) (by omega)
    have hd2_ := gI_le (a := A 7 (A 9 k) * A 11 k) (b := A 7 (A 10 k) * A 12 k) (by omega)
    refine lv_istore (lv' := [(6, .int (iI (z_73))), (5, .int (iI (A 8 (A 10 k)))), (4, .int (iI (A 8 (A 9 k)))), (3, .int (iI ((A 7 (A 10 k)) * (A 12 k)))), (2, .int (iI ((A 7 (A 9 k)) * (A 11 k)))), (0, .ref (q 1)), (1, .int (iI (k)))]) hx hb zd_N_balance_76 hl (by decide) rfl (fun ls hl => ?_)
    refine lv_aload_n hx hb zd_N_balance_78 rfl (lv_at hl 5 rfl) ?_
    refine lv_iload hx hb zd_N_balance_79 (lv_at hl 2 rfl) ?_
    refine lv_iload_n hx hb zd_N_balance_81 rfl (lv_at hl 3 rfl) ?_
    refine lv_iload hx hb zd_N_balance_82 (lv_at hl 0 rfl) ?_
    refine z_goi (z_runSN (n := 2) (As := [.int (iI ((A 7 (A 10 k)) * (A 12 k))), .int (iI (z_73))]) (rest := [.int (iI (A 8 (A 9 k))), .ref (q 1)]) S (c_C_divided l D q c _ F A ((A 7 (A 10 k)) * (A 12 k)) z_73 (by first | assumption | omega | exact ⟨by omega, by omega⟩) (by first | assumption | omega | exact ⟨by omega, by omega⟩)) zw_233 zw_234 zw_1 zw_235 ⟨by decide +kernel, by decide, rfl, rfl⟩ hK hP hD rfl hl.1 rfl (Nat.le_of_ble_eq_true rfl) zd_N_balance_84 ⟨Nat.zero_le _, Nat.zero_le _⟩) hD hS hA (fun z_84 F_84 A_84 H locs hq_84 hP hD hS => ?_)
    obtain ⟨hf_84, ha_84, hq_84⟩ := hq_84
    rw [hf_84, ha_84] at hP hD
    refine z_gov (z_runV (n := 2) (k := 1) (ci := 1) (As := [.int (iI (A 8 (A 9 k))), .int (iI (z_84))]) (rest := []) S (c_N_multiply l D q c _ F A (A 8 (A 9 k)) z_84 (by first | assumption | omega | exact ⟨by omega, by omega⟩) (by first | assumption | omega | exact ⟨by omega, by omega⟩) (fun a h0 h1 => (hact a h0 h1).2)) zw_236 zw_238 zs_5 zw_2 zw_239 ⟨by decide +kernel, by decide, rfl, rfl⟩ hK hP hD ga_1 rfl rfl rfl hl.1 rfl (Nat.le_of_ble_eq_true rfl) zd_N_balance_87 ⟨Nat.zero_le _, Nat.zero_le _⟩) hD hS hA (fun F_87 A_87 H locs hq_87 hP hD hS => ?_)
    obtain ⟨hf_87, hq_87⟩ := hq_87
    rw [hf_87] at hP hD
    obtain ⟨hm1, hm2⟩ := hq_87
    have h8_ := hm1 8 (by decide)
    refine lv_aload_n hx hb zd_N_balance_90 rfl (lv_at hl 5 rfl) ?_
    refine lv_iload hx hb zd_N_balance_91 (lv_at hl 1 rfl) ?_
    refine lv_iload_n hx hb zd_N_balance_93 rfl (lv_at hl 4 rfl) ?_
    refine lv_iload hx hb zd_N_balance_94 (lv_at hl 0 rfl) ?_
    refine z_goi (z_runSN (n := 2) (As := [.int (iI ((A 7 (A 9 k)) * (A 11 k))), .int (iI (z_73))]) (rest := [.int (iI (A 8 (A 10 k))), .ref (q 1)]) S (c_C_divided l D q c _ F A_87 ((A 7 (A 9 k)) * (A 11 k)) z_73 (by first | assumption | omega | exact ⟨by omega, by omega⟩) (by first | assumption | omega | exact ⟨by omega, by omega⟩)) zw_233 zw_234 zw_1 zw_235 ⟨by decide +kernel, by decide, rfl, rfl⟩ hK hP hD rfl hl.1 rfl (Nat.le_of_ble_eq_true rfl) zd_N_balance_96 ⟨Nat.zero_le _, Nat.zero_le _⟩) hD hS hA (fun z_96 F_96 A_96 H locs hq_96 hP hD hS => ?_)
    obtain ⟨hf_96, ha_96, hq_96⟩ := hq_96
    rw [hf_96, ha_96] at hP hD
    refine z_gov (z_runV (n := 2) (k := 1) (ci := 1) (As := [.int (iI (A 8 (A 10 k))), .int (iI (z_96))]) (rest := []) S (c_N_multiply l D q c _ F A_87 (A 8 (A 10 k)) z_96 (by first | assumption | omega | exact ⟨by omega, by omega⟩) (by first | assumption | omega | exact ⟨by omega, by omega⟩) (by rw [h8_]; exact fun a h0 h1 => (hact a h0 h1).2)) zw_236 zw_238 zs_5 zw_2 zw_239 ⟨by decide +kernel, by decide, rfl, rfl⟩ hK hP hD ga_1 rfl rfl rfl hl.1 rfl (Nat.le_of_ble_eq_true rfl) zd_N_balance_99 ⟨Nat.zero_le _, Nat.zero_le _⟩) hD hS hA (fun F_99 A_99 H locs hq_99 hP hD hS => ?_)
    obtain ⟨hf_99, hq_99⟩ := hq_99
    rw [hf_99] at hP hD
    obtain ⟨hm3, hm4⟩ := hq_99
    have h8b_ := (hm3 8 (by decide)).trans h8_
    refine lv_aload_n hx hb zd_N_balance_102 rfl (lv_at hl 5 rfl) ?_
    refine lv_iload hx hb zd_N_balance_103 (lv_at hl 2 rfl) ?_
    refine lv_iload hx hb zd_N_balance_105 (lv_at hl 1 rfl) ?_
    refine z_gov (z_runV (n := 2) (k := 1) (ci := 1) (As := [.int (iI (A 8 (A 9 k))), .int (iI (A 8 (A 10 k)))]) (rest := []) S (c_N_join l D q c _ F A_99 (A 8 (A 9 k)) (A 8 (A 10 k)) (by first | assumption | omega | exact ⟨by omega, by omega⟩) (by first | assumption | omega | exact ⟨by omega, by omega⟩) (by rw [h8b_]; exact fun a h0 h1 => (hact a h0 h1).2)) zw_240 zw_242 zs_6 zw_2 zw_243 ⟨by decide +kernel, by decide, rfl, rfl⟩ hK hP hD ga_1 rfl rfl rfl hl.1 rfl (Nat.le_of_ble_eq_true rfl) zd_N_balance_107 ⟨Nat.zero_le _, Nat.zero_le _⟩) hD hS hA (fun F_107 A_107 H locs hq_107 hP hD hS => ?_)
    obtain ⟨hf_107, hq_107⟩ := hq_107
    rw [hf_107] at hP hD
    obtain ⟨hm5, hm6⟩ := hq_107
    refine lv_goto (tgt := 131) hx hb zd_N_balance_110 (by decide) ?_
    exact ret _ _ _ _ _ _ zd_N_balance_131 hP hD hS (by first | exact bal_y h_68 hq_73 hq_84 hq_96 (by omega) hm1 hm2 hm3 hm4 hm5 hm6 | (refine bal_n h_68 ?_; split <;> first | rfl | omega))

abbrev zr_N_add : Room := ({ frames := 3, cells := 0, slots := 0, locals := 80 } : Room)
set_option maxHeartbeats 4000000 in
set_option maxRecDepth 100000 in
theorem c_N_add (l : Launch) (D : va_G) (q : Nat → Nat) (c : Nat → ClassId) (sz : Nat) (F : Nat → Int) (A : Nat → Int → Int) (a : Int) (b : Int) (x : Int) (y : Int) (t : Int) (hn : 1 ≤ F 100 ∧ F 100 ≤ 8) (hc : 0 ≤ F 101 ∧ F 101 ≤ 14) (hact : ∀ a, 0 ≤ a → a < 8 → (1 ≤ A 7 a ∧ A 7 a ≤ 4782969) ∧ 0 ≤ A 8 a ∧ A 8 a < 8) (hch : ∀ k, 0 ≤ k → k < F 101 → (0 ≤ A 9 k ∧ A 9 k < F 100) ∧ (0 ≤ A 10 k ∧ A 10 k < F 100) ∧ (1 ≤ A 11 k ∧ A 11 k ≤ 9) ∧ (1 ≤ A 12 k ∧ A 12 k ≤ 9) ∧ 0 ≤ A 13 k ∧ A 13 k ≤ 99) (hk : F 101 < 14) (hu : ib (F 102)) (hab : (0 ≤ a ∧ a < F 100) ∧ 0 ≤ b ∧ b < F 100) (hxy : (1 ≤ x ∧ x ≤ 9) ∧ (1 ≤ y ∧ y ≤ 9) ∧ 0 ≤ t ∧ t ≤ 99) : zMI l zy_N_add zc_N_add 7 (some .int) zr_N_add D q c sz [.ref (q 1), .int (iI (a)), .int (iI (b)), .int (iI (x)), .int (iI (y)), .int (iI (t))] F A (fun z F1 A1 => z = F 101 ∧ addP F A a b x y t F1 A1) := by
  refine z_ofI (by decide) (Nat.le_of_ble_eq_true rfl) ?_
  intro p e s m args below meth c0 A0 Q C0 ret hP hD hS ls hl
  obtain ⟨S, hK, hA⟩ := C0
  have hx := S.1
  have hb := S.2.1
  have hown := S.2.2.2.1
  have hts : ∀ w ∈ zG, w.before args s = true := fun w h => S.2.2.2.2 w (List.mem_cons_of_mem _ h)
  have hl : lv_has ls 7 [(0, .ref (q 1)), (1, .int (iI (a))), (2, .int (iI (b))), (3, .int (iI (x))), (4, .int (iI (y))), (5, .int (iI (t)))] := hl
  refine lv_aload_n hx hb zd_N_add_0 rfl (lv_at hl 0 rfl) ?_
  refine va_get (D := D) (ci := 1) (v := .int (iI (F 101))) (C := zR_N) (T := zT_N) (N := 11) hx hb hts zi_N hown hK.1 hP 1 ga_1 rfl 1 (by decide) (hts _ zw_37) (fun _ h9 => h9) rfl zd_N_add_1 ?_
  refine lv_istore (lv' := [(6, .int (iI (F 101))), (0, .ref (q 1)), (1, .int (iI (a))), (2, .int (iI (b))), (3, .int (iI (x))), (4, .int (iI (y))), (5, .int (iI (t)))]) hx hb zd_N_add_4 hl (by decide) rfl (fun ls hl => ?_)
  refine lv_iload hx hb zd_N_add_6 (lv_at hl 0 rfl) ?_
  refine lv_bipush (v := iI (14)) hx hb zd_N_add_8 (by decide) ?_
  refine x_icmp_lt (tgt := 15) hx hb zd_N_add_10 (by decide) (⟨by omega, by omega⟩) (⟨by omega, by omega⟩) (fun h_10 => ?_) (fun h_10 => ?_)
  · refine lv_aload_n hx hb zd_N_add_15 rfl (lv_at hl 1 rfl) ?_
    refine va_get (D := D) (ci := 1) (v := .ref (q 9)) (C := zR_N) (T := zT_N) (N := 11) hx hb hts zi_N hown hK.1 hP 1 ga_1 rfl 6 (by decide) (hts _ zw_54) (fun _ h9 => h9) rfl zd_N_add_16 ?_
    refine lv_iload hx hb zd_N_add_19 (lv_at hl 0 rfl) ?_
    refine lv_iload_n hx hb zd_N_add_21 rfl (lv_at hl 2 rfl) ?_
    refine x_iast hx hb hK.1 hP hD hS 9 0 ga_9 rfl (by decide) (by omega) (by omega) zd_N_add_22 (fun H locs hP hD hS => ?_)
    rw [gs_9] at hP hD
    refine lv_aload_n hx hb zd_N_add_23 rfl (lv_at hl 1 rfl) ?_
    refine va_get (D := D) (ci := 1) (v := .ref (q 10)) (C := zR_N) (T := zT_N) (N := 11) hx hb hts zi_N hown hK.1 hP 1 ga_1 rfl 7 (by decide) (hts _ zw_57) (fun _ h9 => h9) rfl zd_N_add_24 ?_
    refine lv_iload hx hb zd_N_add_27 (lv_at hl 0 rfl) ?_
    refine lv_iload_n hx hb zd_N_add_29 rfl (lv_at hl 3 rfl) ?_
    refine x_iast hx hb hK.1 hP hD hS 10 0 ga_10 rfl (by decide) (by omega) (by omega) zd_N_add_30 (fun H locs hP hD hS => ?_)
    rw [gs_10] at hP hD
    refine lv_aload_n hx hb zd_N_add_31 rfl (lv_at hl 1 rfl) ?_
    refine va_get (D := D) (ci := 1) (v := .ref (q 11)) (C := zR_N) (T := zT_N) (N := 11) hx hb hts zi_N hown hK.1 hP 1 ga_1 rfl 8 (by decide) (hts _ zw_60) (fun _ h9 => h9) rfl zd_N_add_32 ?_
    refine lv_iload hx hb zd_N_add_35 (lv_at hl 0 rfl) ?_
    refine lv_iload_n hx hb zd_N_add_37 rfl (lv_at hl 4 rfl) ?_
    refine x_iast hx hb hK.1 hP hD hS 11 0 ga_11 rfl (by decide) (by omega) (by omega) zd_N_add_38 (fun H locs hP hD hS => ?_)
    rw [gs_11] at hP hD
    refine lv_aload_n hx hb zd_N_add_39 rfl (lv_at hl 1 rfl) ?_
    refine va_get (D := D) (ci := 1) (v := .ref (q 12)) (C := zR_N) (T := zT_N) (N := 11) hx hb hts zi_N hown hK.1 hP 1 ga_1 rfl 9 (by decide) (hts _ zw_64) (fun _ h9 => h9) rfl zd_N_add_40 ?_
    refine lv_iload hx hb zd_N_add_43 (lv_at hl 0 rfl) ?_
    refine lv_iload hx hb zd_N_add_45 (lv_at hl 5 rfl) ?_
    refine x_iast hx hb hK.1 hP hD hS 12 0 ga_12 rfl (by decide) (by omega) (by omega) zd_N_add_47 (fun H locs hP hD hS => ?_)
    rw [gs_12] at hP hD
    refine lv_aload_n hx hb zd_N_add_48 rfl (lv_at hl 1 rfl) ?_
    refine va_get (D := D) (ci := 1) (v := .ref (q 13)) (C := zR_N) (T := zT_N) (N := 11) hx hb hts zi_N hown hK.1 hP 1 ga_1 rfl 10 (by decide) (hts _ zw_67) (fun _ h9 => h9) rfl zd_N_add_49 ?_
    refine lv_iload hx hb zd_N_add_52 (lv_at hl 0 rfl) ?_
    refine lv_iload hx hb zd_N_add_54 (lv_at hl 6 rfl) ?_
    refine x_iast hx hb hK.1 hP hD hS 13 0 ga_13 rfl (by decide) (by omega) (by omega) zd_N_add_56 (fun H locs hP hD hS => ?_)
    rw [gs_13] at hP hD
    refine lv_aload_n hx hb zd_N_add_57 rfl (lv_at hl 1 rfl) ?_
    refine lv_iload hx hb zd_N_add_58 (lv_at hl 0 rfl) ?_
    refine lv_iconst (v := iI (1)) hx hb zd_N_add_60 rfl ?_
    refine x_iadd hx hb zd_N_add_61 ?_
    refine va_put (D := D) (ci := 1) (v := .int (iI ((F 101) + 1))) (ty := .int) (C := zR_N) (T := zT_N) (N := 11) hx hb hts zi_N zk_N zo_N zn_N hown hK.1 hP hD hS 1 ga_1 rfl 1 (by decide) (hts _ zw_37) (fun _ h9 => h9) rfl (by decide +kernel) (rfl) (rfl) (Nat.le_of_ble_eq_true rfl) zd_N_add_62 (fun H locs hP hD hS => ?_)
    rw [gs_1_1] at hP hD
    refine lv_aload_n hx hb zd_N_add_65 rfl (lv_at hl 1 rfl) ?_
    refine lv_iload hx hb zd_N_add_66 (lv_at hl 0 rfl) ?_
    refine z_gov (z_runV (n := 1) (k := 1) (ci := 1) (As := [.int (iI (F 101))]) (rest := []) S (c_N_balance l D q c _ (fuP F 101 ((F 101) + 1)) (auP (auP (auP (auP (auP A 9 (F 101) a) 10 (F 101) b) 11 (F 101) x) 12 (F 101) y) 13 (F 101) t) (F 101) (by simp only [fuP]; omega) (by simp [fuP]; omega) (fun a h0 h1 => by simp [auP]; exact hact a h0 h1) (add_ch hn hch hab hxy) (by simp [fuP]; omega) (by simp [fuP]; exact hu)) zw_226 zw_228 zs_4 zw_2 zw_229 ⟨by decide +kernel, by decide, rfl, rfl⟩ hK hP hD ga_1 rfl rfl rfl hl.1 rfl (Nat.le_of_ble_eq_true rfl) zd_N_add_68 ⟨Nat.zero_le _, Nat.zero_le _⟩) hD hS hA (fun F_68 A_68 H locs hq_68 hP hD hS => ?_)
    refine lv_iload hx hb zd_N_add_71 (lv_at hl 0 rfl) ?_
    exact ret _ _ _ _ _ _ _ zd_N_add_73 hP hD hS (⟨rfl, hq_68⟩)
  · omega
