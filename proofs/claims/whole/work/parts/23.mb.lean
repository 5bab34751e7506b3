/-- how many firings of a part lie ahead of an actor's -/
def gS (A : Nat → Int → Int) (root : Int) (b : Int) : Int := if A 8 b = root then A 7 b else 0
theorem sI_mon {f : Int → Int} {n : Int} (hf : ∀ a, 0 ≤ a → a < n → 0 ≤ f a) : ∀ i, 0 ≤ i → ∀ j, i ≤ j → j ≤ n → sI f i ≤ sI f j := by
  intro i hi
  have key : ∀ d : Nat, i + d ≤ n → sI f i ≤ sI f (i + d) := by
    intro d
    induction d with
    | zero => intro _; simp
    | succ d ih =>
      intro h
      have h1 := ih (by omega)
      have h2 := sI_s (f := f) (i := i + d) (by omega)
      have h3 := hf (i + d) (by omega) (by omega)
      rw [show i + ((d + 1 : Nat) : Int) = i + d + 1 by omega]
      omega
  intro j h1 h2
  have := key (j - i).toNat (by omega)
  rwa [show i + ((j - i).toNat : Int) = j by omega] at this
theorem gS_nn {A : Nat → Int → Int} {root : Int} (hact : ∀ a, 0 ≤ a → a < 8 → (1 ≤ A 7 a ∧ A 7 a ≤ 4782969) ∧ 0 ≤ A 8 a ∧ A 8 a < 8) {n : Int} (hn : n ≤ 8) : ∀ a, 0 ≤ a → a < n → 0 ≤ gS A root a := by
  intro a h0 h1
  have := hact a h0 (by omega)
  unfold gS
  split <;> omega
theorem gS_in {A : Nat → Int → Int} {root b : Int} (hact : ∀ a, 0 ≤ a → a < 8 → (1 ≤ A 7 a ∧ A 7 a ≤ 4782969) ∧ 0 ≤ A 8 a ∧ A 8 a < 8) {n : Int} (hn : n ≤ 8) (h0 : 0 ≤ b) (h1 : b < n) (hr : A 8 b = root) {i : Int} (hi : b < i) (hi2 : i ≤ n) : 0 ≤ sI (gS A root) b ∧ sI (gS A root) b + A 7 b ≤ sI (gS A root) i := by
  have m1 := sI_mon (gS_nn (root := root) hact hn) 0 (by omega) b h0 (by omega)
  have m2 := sI_mon (gS_nn (root := root) hact hn) (b + 1) (by omega) i (by omega) hi2
  rw [sI_s h0] at m2
  have e : gS A root b = A 7 b := by unfold gS; rw [if_pos hr]
  rw [sI_0] at m1
  omega
/-- the edges of the firings of the actors below i -/
def fE (A : Nat → Int → Int) (root i u v w : Int) : Prop := ∃ b, 0 ≤ b ∧ b < i ∧ A 8 b = root ∧ ((u = sI (gS A root) b + A 7 b - 1 ∧ v = sI (gS A root) b ∧ w = 1) ∨ ∃ x, 1 ≤ x ∧ x < A 7 b ∧ u = sI (gS A root) b + x - 1 ∧ v = sI (gS A root) b + x ∧ w = 0)
theorem fE_n {A : Nat → Int → Int} {root i u v w : Int} (h : ¬ A 8 i = root) : fE A root (i + 1) u v w ↔ fE A root i u v w := by
  constructor
  · rintro ⟨b, h0, h1, h2, h3⟩
    by_cases e : b = i
    · subst e; exact absurd h2 h
    · exact ⟨b, h0, by omega, h2, h3⟩
  · rintro ⟨b, h0, h1, h2, h3⟩
    exact ⟨b, h0, by omega, h2, h3⟩
theorem fE_y {A : Nat → Int → Int} {root i u v w : Int} (hi : 0 ≤ i) (h : A 8 i = root) : fE A root (i + 1) u v w ↔ fE A root i u v w ∨ (u = sI (gS A root) i + A 7 i - 1 ∧ v = sI (gS A root) i ∧ w = 1) ∨ ∃ x, 1 ≤ x ∧ x < A 7 i ∧ u = sI (gS A root) i + x - 1 ∧ v = sI (gS A root) i + x ∧ w = 0 := by
  constructor
  · rintro ⟨b, h0, h1, h2, h3⟩
    by_cases e : b = i
    · subst e; exact Or.inr h3
    · exact Or.inl ⟨b, h0, by omega, h2, h3⟩
  · rintro (⟨b, h0, h1, h2, h3⟩ | h3)
    · exact ⟨b, h0, by omega, h2, h3⟩
    · exact ⟨i, hi, by omega, h, h3⟩
theorem gS_s {A : Nat → Int → Int} {root i : Int} (hi : 0 ≤ i) : sI (gS A root) (i + 1) = sI (gS A root) i + if A 8 i = root then A 7 i else 0 := sI_s hi
/-- which firing puts the last token that firing j takes -/
def wf (A : Nat → Int → Int) (k j : Int) : Int := ((j + 1) * A 12 k - A 13 k - 1) / A 11 k
def wE (A : Nat → Int → Int) (k i u v w : Int) : Prop := ∃ j, 0 ≤ j ∧ j < i ∧ u = A 18 (A 9 k) + wf A k j % A 7 (A 9 k) ∧ v = A 18 (A 10 k) + j ∧ w = -(wf A k j / A 7 (A 9 k))
theorem wE_s {A : Nat → Int → Int} {P b : Prop} {k i u v w : Int} (h : P ↔ b ∨ wE A k i u v w) (hi : 0 ≤ i) : (P ∨ (u = A 18 (A 9 k) + wf A k i % A 7 (A 9 k) ∧ v = A 18 (A 10 k) + i ∧ w = -(wf A k i / A 7 (A 9 k)))) ↔ b ∨ wE A k (i + 1) u v w := by
  rw [h]
  constructor
  · rintro ((h | ⟨j, h0, h1, h2⟩) | h)
    · exact Or.inl h
    · exact Or.inr ⟨j, h0, by omega, h2⟩
    · exact Or.inr ⟨i, hi, by omega, h⟩
  · rintro (h | ⟨j, h0, h1, h2⟩)
    · exact Or.inl (Or.inl h)
    · by_cases e : j = i
      · subst e; exact Or.inr h2
      · exact Or.inl (Or.inr ⟨j, h0, by omega, h2⟩)
/-- the waits of the channels below i of a part -/
def wA (A : Nat → Int → Int) (root i u v w : Int) : Prop := ∃ k, 0 ≤ k ∧ k < i ∧ A 8 (A 9 k) = root ∧ wE A k (A 7 (A 10 k)) u v w
theorem wA_n {A : Nat → Int → Int} {P b : Prop} {root i u v w : Int} (h : P ↔ b ∨ wA A root i u v w) (hr : ¬ A 8 (A 9 i) = root) : P ↔ b ∨ wA A root (i + 1) u v w := by
  rw [h]
  constructor
  · rintro (h | ⟨k, h0, h1, h2⟩)
    · exact Or.inl h
    · exact Or.inr ⟨k, h0, by omega, h2⟩
  · rintro (h | ⟨k, h0, h1, h2, h3⟩)
    · exact Or.inl h
    · by_cases e : k = i
      · subst e; exact absurd h2 hr
      · exact Or.inr ⟨k, h0, by omega, h2, h3⟩
theorem wA_y {A : Nat → Int → Int} {P b : Prop} {root i u v w : Int} (h : P ↔ b ∨ wA A root i u v w) (hi : 0 ≤ i) (hr : A 8 (A 9 i) = root) : (P ∨ wE A i (A 7 (A 10 i)) u v w) ↔ b ∨ wA A root (i + 1) u v w := by
  rw [h]
  constructor
  · rintro ((h | ⟨k, h0, h1, h2⟩) | h)
    · exact Or.inl h
    · exact Or.inr ⟨k, h0, by omega, h2⟩
    · exact Or.inr ⟨i, hi, by omega, hr, h⟩
  · rintro (h | ⟨k, h0, h1, h2, h3⟩)
    · exact Or.inl (Or.inl h)
    · by_cases e : k = i
      · subst e; exact Or.inr h3
      · exact Or.inl (Or.inr ⟨k, h0, by omega, h2, h3⟩)
abbrev zr_P_addFirings : Room := ({ frames := 2, cells := 0, slots := 0, locals := 47 } : Room)
set_option maxHeartbeats 4000000 in
set_option maxRecDepth 100000 in
theorem c_P_addFirings (l : Launch) (D : va_G) (q : Nat → Nat) (c : Nat → ClassId) (sz : Nat) (F : Nat → Int) (A : Nat → Int → Int) (root : Int) (hn : 1 ≤ F 100 ∧ F 100 ≤ 8) (hc : 0 ≤ F 101 ∧ F 101 ≤ 14) (hact : ∀ a, 0 ≤ a → a < 8 → (1 ≤ A 7 a ∧ A 7 a ≤ 4782969) ∧ 0 ≤ A 8 a ∧ A 8 a < 8) (htm : ∀ a, 0 ≤ a → a < 8 → 1 ≤ A 6 a ∧ A 6 a ≤ 9) (hrt : 0 ≤ root ∧ root < 8) (hsum : sI (gS A root) (F 100) ≤ 40) : zMV l zy_P_addFirings zc_P_addFirings 4 none zr_P_addFirings D q c sz [.ref (q 3), .ref (q 1), .int (iI (root))] F A (fun F1 A1 => (∀ j, j ≠ 303 → j ≠ 304 → F1 j = F j) ∧ (F1 303 = sI (gS A root) (F 100)) ∧ (F1 304 = sI (gS A root) (F 100)) ∧ (∀ k, k ≠ 18 → k ≠ 19 → k ≠ 20 → k ≠ 21 → k ≠ 22 → A1 k = A k) ∧ (∀ b, 0 ≤ b → b < (F 100) → A 8 b = root → A1 18 b = sI (gS A root) b) ∧ (∀ b, 0 ≤ b → b < (F 100) → A 8 b = root → ∀ x, 0 ≤ x → x < A 7 b → A1 19 (sI (gS A root) b + x) = A 6 b) ∧ (∀ u v w, EIn (F1 304) (A1 20) (A1 21) (A1 22) u v w ↔ fE A root (F 100) u v w)) := by
  refine z_ofV (by decide) (Nat.le_of_ble_eq_true rfl) ?_
  intro p e s m args below meth c0 A0 Q C0 ret hP hD hS ls hl
  obtain ⟨S, hK, hA⟩ := C0
  have hx := S.1
  have hb := S.2.1
  have hown := S.2.2.2.1
  have hts : ∀ w ∈ zG, w.before args s = true := fun w h => S.2.2.2.2 w (List.mem_cons_of_mem _ h)
  have hl : lv_has ls 4 [(0, .ref (q 3)), (1, .ref (q 1)), (2, .int (iI (root)))] := hl
  refine lv_aload_n hx hb zd_P_addFirings_0 rfl (lv_at hl 0 rfl) ?_
  refine lv_iconst (v := iI (0)) hx hb zd_P_addFirings_1 rfl ?_
  refine va_put (D := D) (ci := 3) (v := .int (iI (0))) (ty := .int) (C := zR_P) (T := zT_P) (N := 13) hx hb hts zi_P zk_P zo_P zn_P hown hK.1 hP hD hS 3 ga_3 rfl 3 (by decide) (hts _ zw_136) (fun _ h9 => h9) rfl (by decide +kernel) (rfl) (rfl) (Nat.le_of_ble_eq_true rfl) zd_P_addFirings_2 (fun H locs hP hD hS => ?_)
  rw [gs_3_3] at hP hD
  refine lv_aload_n hx hb zd_P_addFirings_5 rfl (lv_at hl 0 rfl) ?_
  refine lv_iconst (v := iI (0)) hx hb zd_P_addFirings_6 rfl ?_
  refine va_put (D := D) (ci := 3) (v := .int (iI (0))) (ty := .int) (C := zR_P) (T := zT_P) (N := 13) hx hb hts zi_P zk_P zo_P zn_P hown hK.1 hP hD hS 3 ga_3 rfl 4 (by decide) (hts _ zw_137) (fun _ h9 => h9) rfl (by decide +kernel) (rfl) (rfl) (Nat.le_of_ble_eq_true rfl) zd_P_addFirings_7 (fun H locs hP hD hS => ?_)
  rw [gs_3_4] at hP hD
  refine lv_iconst (v := iI (0)) hx hb zd_P_addFirings_10 rfl ?_
  refine lv_istore_n (lv' := [(3, .int (iI (0))), (0, .ref (q 3)), (1, .ref (q 1)), (2, .int (iI (root)))]) hx hb zd_P_addFirings_11 rfl hl (by decide) rfl (fun ls hl => ?_)
  have L_12 : ∀ (fu : Nat) (i : Int)  (F12 : Nat → Int) (A12 : Nat → Int → Int), (0 ≤ i ∧ i ≤ F 100) → (∀ j, j ≠ 303 → j ≠ 304 → F12 j = F j) → (F12 303 = sI (gS A root) i) → (F12 304 = sI (gS A root) i) → (∀ k, k ≠ 18 → k ≠ 19 → k ≠ 20 → k ≠ 21 → k ≠ 22 → A12 k = A k) → (∀ b, 0 ≤ b → b < i → A 8 b = root → A12 18 b = sI (gS A root) b) → (∀ b, 0 ≤ b → b < i → A 8 b = root → ∀ x, 0 ≤ x → x < A 7 b → A12 19 (sI (gS A root) b + x) = A 6 b) → (∀ u v w, EIn (F12 304) (A12 20) (A12 21) (A12 22) u v w ↔ fE A root i u v w) → (F 100 - i < (fu : Int)) → ∀ (H : Heap) (locs : List Loc), va_P D zcl (gw q c F12 A12) H → va_D A0 (gw q c F12 A12) → va_S A0 s.heap H locs → ∀ ls : Array Slot, lv_has ls 4 [(0, .ref (q 3)), (1, .ref (q 1)), (2, .int (iI (root))), (3, .int (iI (i)))] → W p l e zr_P_addFirings s m args below meth c0 H locs 0 0 Q (F0 m 12 ls []) := by
    intro fu
    induction fu with
    | zero => intro i  F12 A12 hi hF h303 h304 hk h18 h19 hed hm_12; exact absurd hm_12 (by omega)
    | succ fu ih_12 =>
      intro i  F12 A12 hi hF h303 h304 hk h18 h19 hed hm_12 H locs hP hD hS ls hl
      have e100 := hF 100 (by decide) (by decide)
      have e6 := hk 6 (by decide) (by decide) (by decide) (by decide) (by decide)
      have e7 := hk 7 (by decide) (by decide) (by decide) (by decide) (by decide)
      have e8 := hk 8 (by decide) (by decide) (by decide) (by decide) (by decide)
      refine lv_iload_n hx hb zd_P_addFirings_12 rfl (lv_at hl 3 rfl) ?_
      refine lv_aload_n hx hb zd_P_addFirings_13 rfl (lv_at hl 1 rfl) ?_
      refine va_getN (D := D) (ci := 1) (v := .int (iI (F12 100))) (C := zR_N) (T := zT_N) (N := 11) hx hb hts zi_N hown hK.1 hP 1 ga_1 rfl 0 (by decide) (zNW.use hK.2 zw_35) (fun _ h9 => h9) rfl zd_P_addFirings_14 ?_
      refine x_icmp_ge (tgt := 53) hx hb zd_P_addFirings_17 (by decide) (⟨by omega, by omega⟩) (⟨by omega, by omega⟩) (fun h_17 => ?_) (fun h_17 => ?_)
      · have e_ : i = F 100 := by omega
        subst e_
        exact ret _ _ _ _ _ _ zd_P_addFirings_53 hP hD hS (⟨hF, h303, h304, hk, h18, h19, hed⟩)
      · have hc_ := hact i (by omega) (by omega)
        have ht_ := htm i (by omega) (by omega)
        refine lv_aload_n hx hb zd_P_addFirings_20 rfl (lv_at hl 1 rfl) ?_
        refine va_getN (D := D) (ci := 1) (v := .ref (q 8)) (C := zR_N) (T := zT_N) (N := 11) hx hb hts zi_N hown hK.1 hP 1 ga_1 rfl 5 (by decide) (zNW.use hK.2 zw_52) (fun _ h9 => h9) rfl zd_P_addFirings_21 ?_
        refine lv_iload_n hx hb zd_P_addFirings_24 rfl (lv_at hl 3 rfl) ?_
        refine x_iald (v := A 8 i) hx hb hK.1 hP 8 0 ga_8 rfl (by decide) (by omega) (by omega) (by rw [e8]) zd_P_addFirings_25 ?_
        refine lv_iload_n hx hb zd_P_addFirings_26 rfl (lv_at hl 2 rfl) ?_
        refine x_icmp_ne (tgt := 47) hx hb zd_P_addFirings_27 (by decide) (⟨by omega, by omega⟩) (⟨by omega, by omega⟩) (fun h_27 => ?_) (fun h_27 => ?_)
        · have hs_ : sI (gS A root) (i + 1) = sI (gS A root) i := by rw [gS_s hi.1, if_neg h_27]; omega
          refine lv_iinc (v := iI (i + 1)) (lv' := [(3, .int (iI (i + 1))), (0, .ref (q 3)), (1, .ref (q 1)), (2, .int (iI (root)))]) hx hb zd_P_addFirings_47 hl (k := 3) rfl (iI_add _ _) (by decide) rfl (fun ls hl => ?_)
          refine lv_goto (tgt := 12) hx hb zd_P_addFirings_50 (by decide) ?_
          exact ih_12 (i + 1)  F12 A12 (by first | assumption | omega | (simp_all; done)) (by first | exact hF | exact fun j h1 h2 => (g1 j h1 h2).trans (hF j h1 h2)) (by first | (rw [hs_]; exact h303) | (rw [g2, gS_s hi.1, if_pos h_27, h303])) (by first | (rw [hs_]; exact h304) | (rw [g3, gS_s hi.1, if_pos h_27, h304])) (by first | exact hk | exact fun k h1 h2 h3 h4 h5 => (g4 k h1 h2 h3 h4 h5).trans (hk k h1 h2 h3 h4 h5)) (fun b h0 h1 h2 => by first | (have e_ : b ≠ i := (fun e => h_27 (e ▸ h2)); exact h18 b h0 (by omega) h2) | (rw [g5]; by_cases e_ : b = i; (rw [e_, upI_s, h303]); (rw [upI_n e_]; exact h18 b h0 (by omega) h2))) (fun b h0 h1 h2 x h3 h4 => by first | (have e_ : b ≠ i := (fun e => h_27 (e ▸ h2)); exact h19 b h0 (by omega) h2 x h3 h4) | (rw [g6]; by_cases e_ : b = i; (subst e_; rw [if_pos (by omega)]); (have hb_ := gS_in (n := F 100) hact hn.2 h0 (by omega) h2 (i := i) (by omega) (by omega); rw [if_neg (by omega)]; exact h19 b h0 (by omega) h2 x h3 h4))) (fun u v w => by first | exact (hed u v w).trans (fE_n h_27).symm | (rw [g7 u v w, hed u v w, fE_y hi.1 h_27, h303])) (by omega) _ _ hP hD hS ls (lv_sub hl [1, 2, 3, 0] rfl)
        · have hg_ := gS_in (n := F 100) hact hn.2 hi.1 (by omega) h_27 (i := F 100) (by omega) (by omega)
          refine lv_aload_n hx hb zd_P_addFirings_30 rfl (lv_at hl 0 rfl) ?_
          refine lv_iload_n hx hb zd_P_addFirings_31 rfl (lv_at hl 3 rfl) ?_
          refine lv_aload_n hx hb zd_P_addFirings_32 rfl (lv_at hl 1 rfl) ?_
          refine va_getN (D := D) (ci := 1) (v := .ref (q 7)) (C := zR_N) (T := zT_N) (N := 11) hx hb hts zi_N hown hK.1 hP 1 ga_1 rfl 4 (by decide) (zNW.use hK.2 zw_49) (fun _ h9 => h9) rfl zd_P_addFirings_33 ?_
          refine lv_iload_n hx hb zd_P_addFirings_36 rfl (lv_at hl 3 rfl) ?_
          refine x_iald (v := A 7 i) hx hb hK.1 hP 7 0 ga_7 rfl (by decide) (by omega) (by omega) (by rw [e7]) zd_P_addFirings_37 ?_
          refine lv_aload_n hx hb zd_P_addFirings_38 rfl (lv_at hl 1 rfl) ?_
          refine va_getN (D := D) (ci := 1) (v := .ref (q 6)) (C := zR_N) (T := zT_N) (N := 11) hx hb hts zi_N hown hK.1 hP 1 ga_1 rfl 3 (by decide) (zNW.use hK.2 zw_45) (fun _ h9 => h9) rfl zd_P_addFirings_39 ?_
          refine lv_iload_n hx hb zd_P_addFirings_42 rfl (lv_at hl 3 rfl) ?_
          refine x_iald (v := A 6 i) hx hb hK.1 hP 6 0 ga_6 rfl (by decide) (by omega) (by omega) (by rw [e6]) zd_P_addFirings_43 ?_
          refine z_gov (z_runV (n := 3) (k := 3) (ci := 3) (As := [.int (iI (i)), .int (iI (A 7 i)), .int (iI (A 6 i))]) (rest := []) S (c_P_addFiringsOf l D q c _ F12 A12 i (A 7 i) (A 6 i) (by first | assumption | omega | exact ⟨by omega, by omega⟩) (by first | assumption | omega | exact ⟨by omega, by omega⟩) (by first | assumption | omega | exact ⟨by omega, by omega⟩) (by first | assumption | omega | exact ⟨by omega, by omega⟩)) zw_478 zw_480 zs_27 zw_4 zw_481 ⟨by decide +kernel, by decide, rfl, rfl⟩ hK hP hD ga_3 rfl rfl rfl hl.1 rfl (Nat.le_of_ble_eq_true rfl) zd_P_addFirings_44 ⟨Nat.zero_le _, Nat.zero_le _⟩) hD hS hA (fun F_44 A_44 H locs hq_44 hP hD hS => ?_)
          obtain ⟨g1, g2, g3, g4, g5, g6, g7⟩ := hq_44
          refine lv_iinc (v := iI (i + 1)) (lv' := [(3, .int (iI (i + 1))), (0, .ref (q 3)), (1, .ref (q 1)), (2, .int (iI (root)))]) hx hb zd_P_addFirings_47 hl (k := 3) rfl (iI_add _ _) (by decide) rfl (fun ls hl => ?_)
          refine lv_goto (tgt := 12) hx hb zd_P_addFirings_50 (by decide) ?_
          exact ih_12 (i + 1)  F_44 A_44 (by first | assumption | omega | (simp_all; done)) (by first | exact hF | exact fun j h1 h2 => (g1 j h1 h2).trans (hF j h1 h2)) (by first | (rw [hs_]; exact h303) | (rw [g2, gS_s hi.1, if_pos h_27, h303])) (by first | (rw [hs_]; exact h304) | (rw [g3, gS_s hi.1, if_pos h_27, h304])) (by first | exact hk | exact fun k h1 h2 h3 h4 h5 => (g4 k h1 h2 h3 h4 h5).trans (hk k h1 h2 h3 h4 h5)) (fun b h0 h1 h2 => by first | (have e_ : b ≠ i := (fun e => h_27 (e ▸ h2)); exact h18 b h0 (by omega) h2) | (rw [g5]; by_cases e_ : b = i; (rw [e_, upI_s, h303]); (rw [upI_n e_]; exact h18 b h0 (by omega) h2))) (fun b h0 h1 h2 x h3 h4 => by first | (have e_ : b ≠ i := (fun e => h_27 (e ▸ h2)); exact h19 b h0 (by omega) h2 x h3 h4) | (rw [g6]; by_cases e_ : b = i; (subst e_; rw [if_pos (by omega)]); (have hb_ := gS_in (n := F 100) hact hn.2 h0 (by omega) h2 (i := i) (by omega) (by omega); rw [if_neg (by omega)]; exact h19 b h0 (by omega) h2 x h3 h4))) (fun u v w => by first | exact (hed u v w).trans (fE_n h_27).symm | (rw [g7 u v w, hed u v w, fE_y hi.1 h_27, h303])) (by omega) _ _ hP hD hS ls (lv_sub hl [1, 2, 3, 0] rfl)
  exact L_12 (((F 100 - (0) : Int) + 1).toNat) (0)  (fuP (fuP F 303 0) 304 0) A (by first | assumption | omega | (simp_all; done)) (fun j h1 h2 => by simp [fuP, h1, h2]) (rfl) (rfl) (fun k _ _ _ _ _ => rfl) (fun b h0 h1 => by omega) (fun b h0 h1 => by omega) (fun u v w => ⟨fun ⟨e, h0, h1, _⟩ => by simp [fuP] at h1; omega, fun ⟨b, h0, h1, _⟩ => by omega⟩) (by omega) _ _ hP hD hS ls (lv_sub hl [1, 2, 3, 0] rfl)

abbrev zr_P_addWaitsOf : Room := ({ frames := 1, cells := 0, slots := 0, locals := 23 } : Room)
set_option maxHeartbeats 4000000 in
set_option maxRecDepth 100000 in
theorem c_P_addWaitsOf (l : Launch) (D : va_G) (q : Nat → Nat) (c : Nat → ClassId) (sz : Nat) (F : Nat → Int) (A : Nat → Int → Int) (k : Int) (hn : 1 ≤ F 100 ∧ F 100 ≤ 8) (hc : 0 ≤ F 101 ∧ F 101 ≤ 14) (hact : ∀ a, 0 ≤ a → a < 8 → (1 ≤ A 7 a ∧ A 7 a ≤ 4782969) ∧ 0 ≤ A 8 a ∧ A 8 a < 8) (hch : ∀ k, 0 ≤ k → k < F 101 → (0 ≤ A 9 k ∧ A 9 k < F 100) ∧ (0 ≤ A 10 k ∧ A 10 k < F 100) ∧ (1 ≤ A 11 k ∧ A 11 k ≤ 9) ∧ (1 ≤ A 12 k ∧ A 12 k ≤ 9) ∧ 0 ≤ A 13 k ∧ A 13 k ≤ 99) (hk0 : 0 ≤ k ∧ k < F 101) (hf1 : 0 ≤ A 18 (A 9 k) ∧ A 18 (A 9 k) + A 7 (A 9 k) ≤ 40) (hf2 : 0 ≤ A 18 (A 10 k) ∧ A 18 (A 10 k) + A 7 (A 10 k) ≤ 40) (hE : 0 ≤ F 304 ∧ F 304 + A 7 (A 10 k) ≤ 600) : zMV l zy_P_addWaitsOf zc_P_addWaitsOf 12 none zr_P_addWaitsOf D q c sz [.ref (q 3), .ref (q 1), .int (iI (k))] F A (fun F1 A1 => (∀ j, j ≠ 304 → F1 j = F j) ∧ (∀ k, k ≠ 20 → k ≠ 21 → k ≠ 22 → A1 k = A k) ∧ F1 304 = F 304 + A 7 (A 10 k) ∧ ∀ u v w, EIn (F1 304) (A1 20) (A1 21) (A1 22) u v w ↔ EIn (F 304) (A 20) (A 21) (A 22) u v w ∨ wE A k (A 7 (A 10 k)) u v w) := by
  refine z_ofV (by decide) (Nat.le_of_ble_eq_true rfl) ?_
  intro p e s m args below meth c0 A0 Q C0 ret hP hD hS ls hl
  obtain ⟨S, hK, hA⟩ := C0
  have hx := S.1
  have hb := S.2.1
  have hown := S.2.2.2.1
  have hts : ∀ w ∈ zG, w.before args s = true := fun w h => S.2.2.2.2 w (List.mem_cons_of_mem _ h)
  have hl : lv_has ls 12 [(0, .ref (q 3)), (1, .ref (q 1)), (2, .int (iI (k)))] := hl
  have hc_ := hch k hk0.1 hk0.2
  have ha1_ := hact (A 9 k) (by omega) (by omega)
  have ha2_ := hact (A 10 k) (by omega) (by omega)
  refine lv_aload_n hx hb zd_P_addWaitsOf_0 rfl (lv_at hl 1 rfl) ?_
  refine va_getN (D := D) (ci := 1) (v := .ref (q 9)) (C := zR_N) (T := zT_N) (N := 11) hx hb hts zi_N hown hK.1 hP 1 ga_1 rfl 6 (by decide) (zNW.use hK.2 zw_55) (fun _ h9 => h9) rfl zd_P_addWaitsOf_1 ?_
  refine lv_iload_n hx hb zd_P_addWaitsOf_4 rfl (lv_at hl 2 rfl) ?_
  refine x_iald (v := A 9 k) hx hb hK.1 hP 9 0 ga_9 rfl (by decide) (by omega) (by omega) (rfl) zd_P_addWaitsOf_5 ?_
  refine lv_istore_n (lv' := [(3, .int (iI (A 9 k))), (0, .ref (q 3)), (1, .ref (q 1)), (2, .int (iI (k)))]) hx hb zd_P_addWaitsOf_6 rfl hl (by decide) rfl (fun ls hl => ?_)
  refine lv_aload_n hx hb zd_P_addWaitsOf_7 rfl (lv_at hl 2 rfl) ?_
  refine va_getN (D := D) (ci := 1) (v := .ref (q 10)) (C := zR_N) (T := zT_N) (N := 11) hx hb hts zi_N hown hK.1 hP 1 ga_1 rfl 7 (by decide) (zNW.use hK.2 zw_59) (fun _ h9 => h9) rfl zd_P_addWaitsOf_8 ?_
  refine lv_iload_n hx hb zd_P_addWaitsOf_11 rfl (lv_at hl 3 rfl) ?_
  refine x_iald (v := A 10 k) hx hb hK.1 hP 10 0 ga_10 rfl (by decide) (by omega) (by omega) (rfl) zd_P_addWaitsOf_12 ?_
  refine lv_istore (lv' := [(4, .int (iI (A 10 k))), (3, .int (iI (A 9 k))), (0, .ref (q 3)), (1, .ref (q 1)), (2, .int (iI (k)))]) hx hb zd_P_addWaitsOf_13 hl (by decide) rfl (fun ls hl => ?_)
  refine lv_aload_n hx hb zd_P_addWaitsOf_15 rfl (lv_at hl 3 rfl) ?_
  refine va_getN (D := D) (ci := 1) (v := .ref (q 11)) (C := zR_N) (T := zT_N) (N := 11) hx hb hts zi_N hown hK.1 hP 1 ga_1 rfl 8 (by decide) (zNW.use hK.2 zw_62) (fun _ h9 => h9) rfl zd_P_addWaitsOf_16 ?_
  refine lv_iload_n hx hb zd_P_addWaitsOf_19 rfl (lv_at hl 4 rfl) ?_
  refine x_iald (v := A 11 k) hx hb hK.1 hP 11 0 ga_11 rfl (by decide) (by omega) (by omega) (rfl) zd_P_addWaitsOf_20 ?_
  refine lv_istore (lv' := [(5, .int (iI (A 11 k))), (4, .int (iI (A 10 k))), (3, .int (iI (A 9 k))), (0, .ref (q 3)), (1, .ref (q 1)), (2, .int (iI (k)))]) hx hb zd_P_addWaitsOf_21 hl (by decide) rfl (fun ls hl => ?_)
  refine lv_aload_n hx hb zd_P_addWaitsOf_23 rfl (lv_at hl 4 rfl) ?_
  refine va_getN (D := D) (ci := 1) (v := .ref (q 7)) (C := zR_N) (T := zT_N) (N := 11) hx hb hts zi_N hown hK.1 hP 1 ga_1 rfl 4 (by decide) (zNW.use hK.2 zw_49) (fun _ h9 => h9) rfl zd_P_addWaitsOf_24 ?_
  refine lv_iload_n hx hb zd_P_addWaitsOf_27 rfl (lv_at hl 2 rfl) ?_
  refine x_iald (v := A 7 (A 9 k)) hx hb hK.1 hP 7 0 ga_7 rfl (by decide) (by omega) (by omega) (rfl) zd_P_addWaitsOf_28 ?_
  refine lv_istore (lv' := [(6, .int (iI (A 7 (A 9 k)))), (5, .int (iI (A 11 k))), (4, .int (iI (A 10 k))), (3, .int (iI (A 9 k))), (0, .ref (q 3)), (1, .ref (q 1)), (2, .int (iI (k)))]) hx hb zd_P_addWaitsOf_29 hl (by decide) rfl (fun ls hl => ?_)
  refine lv_iload hx hb zd_P_addWaitsOf_31 (lv_at hl 1 rfl) ?_
  refine x_if_le (tgt := 41) hx hb zd_P_addWaitsOf_33 (by decide) (⟨by omega, by omega⟩) (fun h_33 => ?_) (fun h_33 => ?_)
  · omega
  · refine lv_iload hx hb zd_P_addWaitsOf_36 (lv_at hl 0 rfl) ?_
    refine x_if_gt (tgt := 42) hx hb zd_P_addWaitsOf_38 (by decide) (⟨by omega, by omega⟩) (fun h_38 => ?_) (fun h_38 => ?_)
    · refine lv_iconst (v := iI (0)) hx hb zd_P_addWaitsOf_42 rfl ?_
      refine lv_istore (lv' := [(7, .int (iI (0))), (6, .int (iI (A 7 (A 9 k)))), (5, .int (iI (A 11 k))), (4, .int (iI (A 10 k))), (3, .int (iI (A 9 k))), (0, .ref (q 3)), (1, .ref (q 1)), (2, .int (iI (k)))]) hx hb zd_P_addWaitsOf_43 hl (by decide) rfl (fun ls hl => ?_)
      have L_45 : ∀ (fu : Nat) (i : Int)  (F45 : Nat → Int) (A45 : Nat → Int → Int), (0 ≤ i ∧ i ≤ A 7 (A 10 k)) → (∀ j, j ≠ 304 → F45 j = F j) → (∀ k, k ≠ 20 → k ≠ 21 → k ≠ 22 → A45 k = A k) → (F45 304 = F 304 + i) → (∀ u v w, EIn (F45 304) (A45 20) (A45 21) (A45 22) u v w ↔ EIn (F 304) (A 20) (A 21) (A 22) u v w ∨ wE A k i u v w) → (A 7 (A 10 k) - i < (fu : Int)) → ∀ (H : Heap) (locs : List Loc), va_P D zcl (gw q c F45 A45) H → va_D A0 (gw q c F45 A45) → va_S A0 s.heap H locs → ∀ ls : Array Slot, lv_has ls 12 [(0, .ref (q 3)), (1, .ref (q 1)), (2, .int (iI (k))), (3, .int (iI (A 9 k))), (4, .int (iI (A 10 k))), (5, .int (iI (A 11 k))), (6, .int (iI (A 7 (A 9 k)))), (7, .int (iI (i)))] → W p l e zr_P_addWaitsOf s m args below meth c0 H locs 0 0 Q (F0 m 45 ls []) := by
        intro fu
        induction fu with
        | zero => intro i  F45 A45 hi hF hk h304 hed hm_45; exact absurd hm_45 (by omega)
        | succ fu ih_45 =>
          intro i  F45 A45 hi hF hk h304 hed hm_45 H locs hP hD hS ls hl
          have e7 := hk 7 (by decide) (by decide) (by decide)
          have e12 := hk 12 (by decide) (by decide) (by decide)
          have e13 := hk 13 (by decide) (by decide) (by decide)
          have e18 := hk 18 (by decide) (by decide) (by decide)
          refine lv_iload hx hb zd_P_addWaitsOf_45 (lv_at hl 7 rfl) ?_
          refine lv_aload_n hx hb zd_P_addWaitsOf_47 rfl (lv_at hl 1 rfl) ?_
          refine va_getN (D := D) (ci := 1) (v := .ref (q 7)) (C := zR_N) (T := zT_N) (N := 11) hx hb hts zi_N hown hK.1 hP 1 ga_1 rfl 4 (by decide) (zNW.use hK.2 zw_49) (fun _ h9 => h9) rfl zd_P_addWaitsOf_48 ?_
          refine lv_iload hx hb zd_P_addWaitsOf_51 (lv_at hl 4 rfl) ?_
          refine x_iald (v := A 7 (A 10 k)) hx hb hK.1 hP 7 0 ga_7 rfl (by decide) (by omega) (by omega) (by rw [e7]) zd_P_addWaitsOf_53 ?_
          refine x_icmp_ge (tgt := 138) hx hb zd_P_addWaitsOf_54 (by decide) (⟨by omega, by omega⟩) (⟨by omega, by omega⟩) (fun h_54 => ?_) (fun h_54 => ?_)
          · have e_ : i = A 7 (A 10 k) := by omega
            subst e_
            exact ret _ _ _ _ _ _ zd_P_addWaitsOf_138 hP hD hS (⟨hF, hk, h304, hed⟩)
          · have hm_ := bnd0 (x := i + 1) (y := A 12 k) (X := 41) (Y := 9) (by omega) (by omega)
            refine lv_iload hx hb zd_P_addWaitsOf_57 (lv_at hl 7 rfl) ?_
            refine lv_iconst (v := iI (1)) hx hb zd_P_addWaitsOf_59 rfl ?_
            refine x_iadd hx hb zd_P_addWaitsOf_60 ?_
            refine lv_aload_n hx hb zd_P_addWaitsOf_61 rfl (lv_at hl 1 rfl) ?_
            refine va_getN (D := D) (ci := 1) (v := .ref (q 12)) (C := zR_N) (T := zT_N) (N := 11) hx hb hts zi_N hown hK.1 hP 1 ga_1 rfl 9 (by decide) (zNW.use hK.2 zw_66) (fun _ h9 => h9) rfl zd_P_addWaitsOf_62 ?_
            refine lv_iload_n hx hb zd_P_addWaitsOf_65 rfl (lv_at hl 2 rfl) ?_
            refine x_iald (v := A 12 k) hx hb hK.1 hP 12 0 ga_12 rfl (by decide) (by omega) (by omega) (by rw [e12]) zd_P_addWaitsOf_66 ?_
            refine x_imul hx hb zd_P_addWaitsOf_67 ?_
            refine lv_aload_n hx hb zd_P_addWaitsOf_68 rfl (lv_at hl 1 rfl) ?_
            refine va_getN (D := D) (ci := 1) (v := .ref (q 13)) (C := zR_N) (T := zT_N) (N := 11) hx hb hts zi_N hown hK.1 hP 1 ga_1 rfl 10 (by decide) (zNW.use hK.2 zw_69) (fun _ h9 => h9) rfl zd_P_addWaitsOf_69 ?_
            refine lv_iload_n hx hb zd_P_addWaitsOf_72 rfl (lv_at hl 2 rfl) ?_
            refine x_iald (v := A 13 k) hx hb hK.1 hP 13 0 ga_13 rfl (by decide) (by omega) (by omega) (by rw [e13]) zd_P_addWaitsOf_73 ?_
            refine x_isub hx hb zd_P_addWaitsOf_74 ?_
            refine lv_iconst (v := iI (1)) hx hb zd_P_addWaitsOf_75 rfl ?_
            refine x_isub hx hb zd_P_addWaitsOf_76 ?_
            refine lv_istore (lv' := [(8, .int (iI ((((i + 1) * (A 12 k)) - (A 13 k)) - 1))), (0, .ref (q 3)), (1, .ref (q 1)), (2, .int (iI (k))), (3, .int (iI (A 9 k))), (4, .int (iI (A 10 k))), (5, .int (iI (A 11 k))), (6, .int (iI (A 7 (A 9 k)))), (7, .int (iI (i)))]) hx hb zd_P_addWaitsOf_77 hl (by decide) rfl (fun ls hl => ?_)
            refine lv_iload hx hb zd_P_addWaitsOf_79 (lv_at hl 0 rfl) ?_
            refine lv_iload hx hb zd_P_addWaitsOf_81 (lv_at hl 6 rfl) ?_
            refine z_goi (z_runSO (n := 2) (As := [.int (iI ((((i + 1) * (A 12 k)) - (A 13 k)) - 1)), .int (iI (A 11 k))]) (rest := []) S (c_J_floorDiv l D q c _ F45 A45 ((((i + 1) * (A 12 k)) - (A 13 k)) - 1) (A 11 k) (by first | assumption | omega | exact ⟨by omega, by omega⟩) (by first | assumption | omega | exact ⟨by omega, by omega⟩)) zw_494 zw_495 zw_7 zw_496 ⟨by decide +kernel, by decide, rfl, rfl⟩ hK hP hD rfl hl.1 rfl (Nat.le_of_ble_eq_true rfl) zd_P_addWaitsOf_83 ⟨Nat.zero_le _, Nat.zero_le _⟩) hD hS hA (fun z_83 F_83 A_83 H locs hq_83 hP hD hS => ?_)
            obtain ⟨hf_83, ha_83, hq_83⟩ := hq_83
            rw [hf_83, ha_83] at hP hD
            have hw_ : z_83 = wf A k i := hq_83
            have hwb_ : -100 ≤ z_83 ∧ z_83 ≤ 1000 := by (rw [hq_83]; exact ⟨Int.le_ediv_of_mul_le (by omega) (by omega), Int.ediv_le_of_le_mul (by omega) (by omega)⟩)
            refine lv_istore (lv' := [(9, .int (iI (z_83))), (8, .int (iI ((((i + 1) * (A 12 k)) - (A 13 k)) - 1))), (0, .ref (q 3)), (1, .ref (q 1)), (2, .int (iI (k))), (3, .int (iI (A 9 k))), (4, .int (iI (A 10 k))), (5, .int (iI (A 11 k))), (6, .int (iI (A 7 (A 9 k)))), (7, .int (iI (i)))]) hx hb zd_P_addWaitsOf_86 hl (by decide) rfl (fun ls hl => ?_)
            refine lv_iload hx hb zd_P_addWaitsOf_88 (lv_at hl 0 rfl) ?_
            refine lv_iload hx hb zd_P_addWaitsOf_90 (lv_at hl 8 rfl) ?_
            refine z_goi (z_runSO (n := 2) (As := [.int (iI (z_83)), .int (iI (A 7 (A 9 k)))]) (rest := []) S (c_J_floorMod l D q c _ F45 A45 z_83 (A 7 (A 9 k)) (by first | assumption | omega | exact ⟨by omega, by omega⟩) (by first | assumption | omega | exact ⟨by omega, by omega⟩)) zw_497 zw_498 zw_7 zw_499 ⟨by decide +kernel, by decide, rfl, rfl⟩ hK hP hD rfl hl.1 rfl (Nat.le_of_ble_eq_true rfl) zd_P_addWaitsOf_92 ⟨Nat.zero_le _, Nat.zero_le _⟩) hD hS hA (fun z_92 F_92 A_92 H locs hq_92 hP hD hS => ?_)
            obtain ⟨hf_92, ha_92, hq_92⟩ := hq_92
            rw [hf_92, ha_92] at hP hD
            have hr1_ := Int.emod_nonneg z_83 (show A 7 (A 9 k) ≠ 0 by omega)
            have hr2_ := Int.emod_lt_of_pos z_83 (show 0 < A 7 (A 9 k) by omega)
            refine lv_istore (lv' := [(10, .int (iI (z_92))), (9, .int (iI (z_83))), (8, .int (iI ((((i + 1) * (A 12 k)) - (A 13 k)) - 1))), (0, .ref (q 3)), (1, .ref (q 1)), (2, .int (iI (k))), (3, .int (iI (A 9 k))), (4, .int (iI (A 10 k))), (5, .int (iI (A 11 k))), (6, .int (iI (A 7 (A 9 k)))), (7, .int (iI (i)))]) hx hb zd_P_addWaitsOf_95 hl (by decide) rfl (fun ls hl => ?_)
            refine lv_iload hx hb zd_P_addWaitsOf_97 (lv_at hl 1 rfl) ?_
            refine lv_iload hx hb zd_P_addWaitsOf_99 (lv_at hl 9 rfl) ?_
            refine z_goi (z_runSO (n := 2) (As := [.int (iI (z_83)), .int (iI (A 7 (A 9 k)))]) (rest := []) S (c_J_floorDiv l D q c _ F45 A45 z_83 (A 7 (A 9 k)) (by first | assumption | omega | exact ⟨by omega, by omega⟩) (by first | assumption | omega | exact ⟨by omega, by omega⟩)) zw_494 zw_495 zw_7 zw_496 ⟨by decide +kernel, by decide, rfl, rfl⟩ hK hP hD rfl hl.1 rfl (Nat.le_of_ble_eq_true rfl) zd_P_addWaitsOf_101 ⟨Nat.zero_le _, Nat.zero_le _⟩) hD hS hA (fun z_101 F_101 A_101 H locs hq_101 hP hD hS => ?_)
            obtain ⟨hf_101, ha_101, hq_101⟩ := hq_101
            rw [hf_101, ha_101] at hP hD
            refine x_ineg hx hb zd_P_addWaitsOf_104 ?_
            refine lv_istore (lv' := [(11, .int (iI (-z_101))), (10, .int (iI (z_92))), (9, .int (iI (z_83))), (8, .int (iI ((((i + 1) * (A 12 k)) - (A 13 k)) - 1))), (0, .ref (q 3)), (1, .ref (q 1)), (2, .int (iI (k))), (3, .int (iI (A 9 k))), (4, .int (iI (A 10 k))), (5, .int (iI (A 11 k))), (6, .int (iI (A 7 (A 9 k)))), (7, .int (iI (i)))]) hx hb zd_P_addWaitsOf_105 hl (by decide) rfl (fun ls hl => ?_)
            refine lv_aload_n hx hb zd_P_addWaitsOf_107 rfl (lv_at hl 4 rfl) ?_
            refine lv_aload_n hx hb zd_P_addWaitsOf_108 rfl (lv_at hl 4 rfl) ?_
            refine va_get (D := D) (ci := 3) (v := .ref (q 18)) (C := zR_P) (T := zT_P) (N := 13) hx hb hts zi_P hown hK.1 hP 3 ga_3 rfl 5 (by decide) (hts _ zw_138) (fun _ h9 => h9) rfl zd_P_addWaitsOf_109 ?_
            refine lv_iload_n hx hb zd_P_addWaitsOf_112 rfl (lv_at hl 7 rfl) ?_
            refine x_iald (v := A 18 (A 9 k)) hx hb hK.1 hP 18 0 ga_18 rfl (by decide) (by omega) (by omega) (by rw [e18]) zd_P_addWaitsOf_113 ?_
            refine lv_iload hx hb zd_P_addWaitsOf_114 (lv_at hl 1 rfl) ?_
            refine x_iadd hx hb zd_P_addWaitsOf_116 ?_
            refine lv_aload_n hx hb zd_P_addWaitsOf_117 rfl (lv_at hl 4 rfl) ?_
            refine va_get (D := D) (ci := 3) (v := .ref (q 18)) (C := zR_P) (T := zT_P) (N := 13) hx hb hts zi_P hown hK.1 hP 3 ga_3 rfl 5 (by decide) (hts _ zw_138) (fun _ h9 => h9) rfl zd_P_addWaitsOf_118 ?_
            refine lv_iload hx hb zd_P_addWaitsOf_121 (lv_at hl 8 rfl) ?_
            refine x_iald (v := A 18 (A 10 k)) hx hb hK.1 hP 18 0 ga_18 rfl (by decide) (by omega) (by omega) (by rw [e18]) zd_P_addWaitsOf_123 ?_
            refine lv_iload hx hb zd_P_addWaitsOf_124 (lv_at hl 11 rfl) ?_
            refine x_iadd hx hb zd_P_addWaitsOf_126 ?_
            refine lv_iload hx hb zd_P_addWaitsOf_127 (lv_at hl 0 rfl) ?_
            refine z_gov (z_runV (n := 3) (k := 3) (ci := 3) (As := [.int (iI ((A 18 (A 9 k)) + z_92)), .int (iI ((A 18 (A 10 k)) + i)), .int (iI (-z_101))]) (rest := []) S (c_P_addEdge l D q c _ F45 A45 ((A 18 (A 9 k)) + z_92) ((A 18 (A 10 k)) + i) (-z_101) (by first | assumption | omega | exact ⟨by omega, by omega⟩) (by first | assumption | omega | exact ⟨by omega, by omega⟩) (by first | assumption | omega | exact ⟨by omega, by omega⟩)) zw_482 zw_484 zs_28 zw_4 zw_485 ⟨by decide +kernel, by decide, rfl, rfl⟩ hK hP hD ga_3 rfl rfl rfl hl.1 rfl (Nat.le_of_ble_eq_true rfl) zd_P_addWaitsOf_129 ⟨Nat.zero_le _, Nat.zero_le _⟩) hD hS hA (fun F_129 A_129 H locs hq_129 hP hD hS => ?_)
            obtain ⟨hf_129, ha_129⟩ := hq_129
            rw [hf_129, ha_129] at hP hD
            refine lv_iinc (v := iI (i + 1)) (lv' := [(7, .int (iI (i + 1))), (11, .int (iI (-z_101))), (10, .int (iI (z_92))), (9, .int (iI (z_83))), (8, .int (iI ((((i + 1) * (A 12 k)) - (A 13 k)) - 1))), (0, .ref (q 3)), (1, .ref (q 1)), (2, .int (iI (k))), (3, .int (iI (A 9 k))), (4, .int (iI (A 10 k))), (5, .int (iI (A 11 k))), (6, .int (iI (A 7 (A 9 k))))]) hx hb zd_P_addWaitsOf_132 hl (k := 11) rfl (iI_add _ _) (by decide) rfl (fun ls hl => ?_)
            refine lv_goto (tgt := 45) hx hb zd_P_addWaitsOf_135 (by decide) ?_
            exact ih_45 (i + 1)  (fuP F45 304 ((F45 304) + 1)) (auP (auP (auP A45 20 (F45 304) ((A 18 (A 9 k)) + z_92)) 21 (F45 304) ((A 18 (A 10 k)) + i)) 22 (F45 304) (-z_101)) (by first | assumption | omega | (simp_all; done)) (fun j h => by simp [fuP, h, hF j h]) (fun k h1 h2 h3 => by simp [auP, h1, h2, h3, hk k h1 h2 h3]) (by simp [fuP]; omega) (fun u v w => by rw [hq_92, hq_101, hw_]; exact (EIn_add (by omega) u v w).trans (wE_s (hed u v w) hi.1)) (by omega) _ _ hP hD hS ls (lv_sub hl [5, 6, 7, 8, 9, 10, 11, 0] rfl)
      exact L_45 (((A 7 (A 10 k) - (0) : Int) + 1).toNat) (0)  F A (by first | assumption | omega | (simp_all; done)) (fun j _ => rfl) (fun k _ _ _ => rfl) (by omega) (fun u v w => ⟨fun h => Or.inl h, fun h => h.elim id (fun ⟨j, h0, h1, _⟩ => by omega)⟩) (by omega) _ _ hP hD hS ls (lv_sub hl [5, 6, 7, 4, 3, 2, 1, 0] rfl)
    · omega

abbrev zr_P_addWaits : Room := ({ frames := 2, cells := 0, slots := 0, locals := 54 } : Room)
set_option maxHeartbeats 4000000 in
set_option maxRecDepth 100000 in
theorem c_P_addWaits (l : Launch) (D : va_G) (q : Nat → Nat) (c : Nat → ClassId) (sz : Nat) (F : Nat → Int) (A : Nat → Int → Int) (root : Int) (hn : 1 ≤ F 100 ∧ F 100 ≤ 8) (hc : 0 ≤ F 101 ∧ F 101 ≤ 14) (hact : ∀ a, 0 ≤ a → a < 8 → (1 ≤ A 7 a ∧ A 7 a ≤ 4782969) ∧ 0 ≤ A 8 a ∧ A 8 a < 8) (hch : ∀ k, 0 ≤ k → k < F 101 → (0 ≤ A 9 k ∧ A 9 k < F 100) ∧ (0 ≤ A 10 k ∧ A 10 k < F 100) ∧ (1 ≤ A 11 k ∧ A 11 k ≤ 9) ∧ (1 ≤ A 12 k ∧ A 12 k ≤ 9) ∧ 0 ≤ A 13 k ∧ A 13 k ≤ 99) (hrt : 0 ≤ root ∧ root < 8) (hsame : ∀ k, 0 ≤ k → k < F 101 → A 8 (A 9 k) = A 8 (A 10 k)) (hfo : ∀ b, 0 ≤ b → b < F 100 → A 8 b = root → 0 ≤ A 18 b ∧ A 18 b + A 7 b ≤ 40) (hE : 0 ≤ F 304 ∧ F 304 ≤ 40) : zMV l zy_P_addWaits zc_P_addWaits 4 none zr_P_addWaits D q c sz [.ref (q 3), .ref (q 1), .int (iI (root))] F A (fun F1 A1 => (∀ j, j ≠ 304 → F1 j = F j) ∧ (∀ k, k ≠ 20 → k ≠ 21 → k ≠ 22 → A1 k = A k) ∧ (0 ≤ F1 304 ∧ F1 304 ≤ 600) ∧ ∀ u v w, EIn (F1 304) (A1 20) (A1 21) (A1 22) u v w ↔ EIn (F 304) (A 20) (A 21) (A 22) u v w ∨ wA A root (F 101) u v w) := by
  refine z_ofV (by decide) (Nat.le_of_ble_eq_true rfl) ?_
  intro p e s m args below meth c0 A0 Q C0 ret hP hD hS ls hl
  obtain ⟨S, hK, hA⟩ := C0
  have hx := S.1
  have hb := S.2.1
  have hown := S.2.2.2.1
  have hts : ∀ w ∈ zG, w.before args s = true := fun w h => S.2.2.2.2 w (List.mem_cons_of_mem _ h)
  have hl : lv_has ls 4 [(0, .ref (q 3)), (1, .ref (q 1)), (2, .int (iI (root)))] := hl
  refine lv_iconst (v := iI (0)) hx hb zd_P_addWaits_0 rfl ?_
  refine lv_istore_n (lv' := [(3, .int (iI (0))), (0, .ref (q 3)), (1, .ref (q 1)), (2, .int (iI (root)))]) hx hb zd_P_addWaits_1 rfl hl (by decide) rfl (fun ls hl => ?_)
  have L_2 : ∀ (fu : Nat) (i : Int)  (F2 : Nat → Int) (A2 : Nat → Int → Int), (0 ≤ i ∧ i ≤ F 101) → (∀ j, j ≠ 304 → F2 j = F j) → (∀ k, k ≠ 20 → k ≠ 21 → k ≠ 22 → A2 k = A k) → (0 ≤ F2 304 ∧ F2 304 ≤ 40 + 40 * i) → (∀ u v w, EIn (F2 304) (A2 20) (A2 21) (A2 22) u v w ↔ EIn (F 304) (A 20) (A 21) (A 22) u v w ∨ wA A root i u v w) → (F 101 - i < (fu : Int)) → ∀ (H : Heap) (locs : List Loc), va_P D zcl (gw q c F2 A2) H → va_D A0 (gw q c F2 A2) → va_S A0 s.heap H locs → ∀ ls : Array Slot, lv_has ls 4 [(0, .ref (q 3)), (1, .ref (q 1)), (2, .int (iI (root))), (3, .int (iI (i)))] → W p l e zr_P_addWaits s m args below meth c0 H locs 0 0 Q (F0 m 2 ls []) := by
    intro fu
    induction fu with
    | zero => intro i  F2 A2 hi hF hk h304 hed hm_2; exact absurd hm_2 (by omega)
    | succ fu ih_2 =>
      intro i  F2 A2 hi hF hk h304 hed hm_2 H locs hP hD hS ls hl
      have e101 := hF 101 (by decide)
      have e100 := hF 100 (by decide)
      have e7 := hk 7 (by decide) (by decide) (by decide)
      have e8 := hk 8 (by decide) (by decide) (by decide)
      have e9 := hk 9 (by decide) (by decide) (by decide)
      have e10 := hk 10 (by decide) (by decide) (by decide)
      have e11 := hk 11 (by decide) (by decide) (by decide)
      have e12 := hk 12 (by decide) (by decide) (by decide)
      have e13 := hk 13 (by decide) (by decide) (by decide)
      have e18 := hk 18 (by decide) (by decide) (by decide)
      refine lv_iload_n hx hb zd_P_addWaits_2 rfl (lv_at hl 3 rfl) ?_
      refine lv_aload_n hx hb zd_P_addWaits_3 rfl (lv_at hl 1 rfl) ?_
      refine va_getN (D := D) (ci := 1) (v := .int (iI (F2 101))) (C := zR_N) (T := zT_N) (N := 11) hx hb hts zi_N hown hK.1 hP 1 ga_1 rfl 1 (by decide) (zNW.use hK.2 zw_40) (fun _ h9 => h9) rfl zd_P_addWaits_4 ?_
      refine x_icmp_ge (tgt := 37) hx hb zd_P_addWaits_7 (by decide) (⟨by omega, by omega⟩) (⟨by omega, by omega⟩) (fun h_7 => ?_) (fun h_7 => ?_)
      · have e_ : i = F 101 := by omega
        subst e_
        exact ret _ _ _ _ _ _ zd_P_addWaits_37 hP hD hS (⟨hF, hk, by omega, hed⟩)
      · have hc_ := hch i (by omega) (by omega)
        have ha_ := hact (A 9 i) (by omega) (by omega)
        refine lv_aload_n hx hb zd_P_addWaits_10 rfl (lv_at hl 1 rfl) ?_
        refine va_getN (D := D) (ci := 1) (v := .ref (q 8)) (C := zR_N) (T := zT_N) (N := 11) hx hb hts zi_N hown hK.1 hP 1 ga_1 rfl 5 (by decide) (zNW.use hK.2 zw_52) (fun _ h9 => h9) rfl zd_P_addWaits_11 ?_
        refine lv_aload_n hx hb zd_P_addWaits_14 rfl (lv_at hl 1 rfl) ?_
        refine va_getN (D := D) (ci := 1) (v := .ref (q 9)) (C := zR_N) (T := zT_N) (N := 11) hx hb hts zi_N hown hK.1 hP 1 ga_1 rfl 6 (by decide) (zNW.use hK.2 zw_55) (fun _ h9 => h9) rfl zd_P_addWaits_15 ?_
        refine lv_iload_n hx hb zd_P_addWaits_18 rfl (lv_at hl 3 rfl) ?_
        refine x_iald (v := A 9 i) hx hb hK.1 hP 9 0 ga_9 rfl (by decide) (by omega) (by omega) (by rw [e9]) zd_P_addWaits_19 ?_
        refine x_iald (v := A 8 (A 9 i)) hx hb hK.1 hP 8 0 ga_8 rfl (by decide) (by omega) (by omega) (by rw [e8]) zd_P_addWaits_20 ?_
        refine lv_iload_n hx hb zd_P_addWaits_21 rfl (lv_at hl 2 rfl) ?_
        refine x_icmp_ne (tgt := 31) hx hb zd_P_addWaits_22 (by decide) (⟨by omega, by omega⟩) (⟨by omega, by omega⟩) (fun h_22 => ?_) (fun h_22 => ?_)
        · refine lv_iinc (v := iI (i + 1)) (lv' := [(3, .int (iI (i + 1))), (0, .ref (q 3)), (1, .ref (q 1)), (2, .int (iI (root)))]) hx hb zd_P_addWaits_31 hl (k := 3) rfl (iI_add _ _) (by decide) rfl (fun ls hl => ?_)
          refine lv_goto (tgt := 2) hx hb zd_P_addWaits_34 (by decide) ?_
          exact ih_2 (i + 1)  F2 A2 (by first | assumption | omega | (simp_all; done)) (by first | exact hF | exact fun j h => (g1 j h).trans (hF j h)) (by first | exact hk | exact fun k h1 h2 h3 => (g2 k h1 h2 h3).trans (hk k h1 h2 h3)) (by first | omega | (rw [g3, e7, e10]; omega)) (fun u v w => by first | exact wA_n (hed u v w) h_22 | (rw [g4 u v w]; have h9 : wE A2 i (A2 7 (A2 10 i)) u v w ↔ wE A i (A 7 (A 10 i)) u v w := (by unfold wE wf; rw [e7, e9, e10, e11, e12, e13, e18]); rw [h9]; exact wA_y (hed u v w) hi.1 h_22)) (by omega) _ _ hP hD hS ls (lv_sub hl [1, 2, 3, 0] rfl)
        · have h1_ := hfo (A 9 i) (by omega) (by omega) h_22
          have h2_ := hfo (A 10 i) (by omega) (by omega) (by rw [← hsame i (by omega) (by omega)]; exact h_22)
          have hb_ := hact (A 10 i) (by omega) (by omega)
          refine lv_aload_n hx hb zd_P_addWaits_25 rfl (lv_at hl 0 rfl) ?_
          refine lv_aload_n hx hb zd_P_addWaits_26 rfl (lv_at hl 1 rfl) ?_
          refine lv_iload_n hx hb zd_P_addWaits_27 rfl (lv_at hl 3 rfl) ?_
          refine z_gov (z_runV (n := 2) (k := 3) (ci := 3) (As := [.ref (q 1), .int (iI (i))]) (rest := []) S (c_P_addWaitsOf l D q c _ F2 A2 i (by simp only [e7, e8, e9, e10, e11, e12, e13, e18, e100, e101]; first | assumption | omega) (by simp only [e7, e8, e9, e10, e11, e12, e13, e18, e100, e101]; first | assumption | omega) (by simp only [e7, e8, e9, e10, e11, e12, e13, e18, e100, e101]; first | assumption | omega) (by simp only [e7, e8, e9, e10, e11, e12, e13, e18, e100, e101]; first | assumption | omega) (by simp only [e7, e8, e9, e10, e11, e12, e13, e18, e100, e101]; first | assumption | omega) (by simp only [e7, e8, e9, e10, e11, e12, e13, e18, e100, e101]; first | assumption | omega) (by simp only [e7, e8, e9, e10, e11, e12, e13, e18, e100, e101]; first | assumption | omega) (by simp only [e7, e8, e9, e10, e11, e12, e13, e18, e100, e101]; first | assumption | omega)) zw_490 zw_492 zs_30 zw_4 zw_493 ⟨by decide +kernel, by decide, rfl, rfl⟩ hK hP hD ga_3 rfl rfl rfl hl.1 rfl (Nat.le_of_ble_eq_true rfl) zd_P_addWaits_28 ⟨Nat.zero_le _, Nat.zero_le _⟩) hD hS hA (fun F_28 A_28 H locs hq_28 hP hD hS => ?_)
          obtain ⟨g1, g2, g3, g4⟩ := hq_28
          refine lv_iinc (v := iI (i + 1)) (lv' := [(3, .int (iI (i + 1))), (0, .ref (q 3)), (1, .ref (q 1)), (2, .int (iI (root)))]) hx hb zd_P_addWaits_31 hl (k := 3) rfl (iI_add _ _) (by decide) rfl (fun ls hl => ?_)
          refine lv_goto (tgt := 2) hx hb zd_P_addWaits_34 (by decide) ?_
          exact ih_2 (i + 1)  F_28 A_28 (by first | assumption | omega | (simp_all; done)) (by first | exact hF | exact fun j h => (g1 j h).trans (hF j h)) (by first | exact hk | exact fun k h1 h2 h3 => (g2 k h1 h2 h3).trans (hk k h1 h2 h3)) (by first | omega | (rw [g3, e7, e10]; omega)) (fun u v w => by first | exact wA_n (hed u v w) h_22 | (rw [g4 u v w]; have h9 : wE A2 i (A2 7 (A2 10 i)) u v w ↔ wE A i (A 7 (A 10 i)) u v w := (by unfold wE wf; rw [e7, e9, e10, e11, e12, e13, e18]); rw [h9]; exact wA_y (hed u v w) hi.1 h_22)) (by omega) _ _ hP hD hS ls (lv_sub hl [1, 2, 3, 0] rfl)
  exact L_2 (((F 101 - (0) : Int) + 1).toNat) (0)  F A (by first | assumption | omega | (simp_all; done)) (fun j _ => rfl) (fun k _ _ _ => rfl) (by omega) (fun u v w => ⟨fun h => Or.inl h, fun h => h.elim id (fun ⟨j, h0, h1, _⟩ => by omega)⟩) (by omega) _ _ hP hD hS ls (lv_sub hl [1, 2, 3, 0] rfl)
