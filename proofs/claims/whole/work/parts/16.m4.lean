/-! A round: which actor is done next, what it leaves -/
abbrev rT : Type := (Int → Int) × (Int → Int) × (Int → Int)
def rfire (fr to pu tk : Int → Int) (T : rT) (a : Int) : rT :=
  (upI T.1 a (T.1 a - 1), fun k => T.2.1 k - (if to k = a then tk k else 0) + (if fr k = a then pu k else 0), fun k => max (T.2.2 k) (T.2.1 k - (if to k = a then tk k else 0) + (if fr k = a then pu k else 0)))
def rrdy (m : Int) (to tk : Int → Int) (T : rT) (a : Int) : Prop := 0 < T.1 a ∧ ∀ k, 0 ≤ k → k < m → to k = a → tk k ≤ T.2.1 k
/-- a is the least actor that can be done -/
def rlst (n m : Int) (to tk : Int → Int) (T : rT) (a : Int) : Prop := (0 ≤ a ∧ a < n) ∧ rrdy m to tk T a ∧ ∀ b, 0 ≤ b → b < a → ¬ rrdy m to tk T b
def rnon (n m : Int) (to tk : Int → Int) (T : rT) : Prop := ∀ b, 0 ≤ b → b < n → ¬ rrdy m to tk T b
def rrun (fr to pu tk : Int → Int) (T : rT) (od : Int → Int) : Nat → rT
  | 0 => T
  | k + 1 => rfire fr to pu tk (rrun fr to pu tk T od k) (od k)
def rok (n m : Int) (fr to pu tk : Int → Int) (T : rT) (od : Int → Int) (d : Nat) : Prop := ∀ k : Nat, k < d → rlst n m to tk (rrun fr to pu tk T od k) (od k)
theorem rrun_cong {fr to pu tk : Int → Int} {T : rT} {od od' : Int → Int} : ∀ k : Nat, (∀ j : Nat, j < k → od' j = od j) → rrun fr to pu tk T od' k = rrun fr to pu tk T od k := by
  intro k
  induction k with
  | zero => intro _; rfl
  | succ k ih =>
    intro h
    show rfire fr to pu tk (rrun fr to pu tk T od' k) (od' k) = rfire fr to pu tk (rrun fr to pu tk T od k) (od k)
    rw [ih (fun j hj => h j (by omega)), h k (by omega)]
/-- two runs are one -/
theorem rok_same {n m : Int} {fr to pu tk : Int → Int} {T : rT} {od od' : Int → Int} {d d' : Nat} (h : rok n m fr to pu tk T od d) (h' : rok n m fr to pu tk T od' d') : ∀ k : Nat, k ≤ d → k ≤ d' → rrun fr to pu tk T od' k = rrun fr to pu tk T od k ∧ ∀ j : Nat, j < k → od' j = od j := by
  intro k
  induction k with
  | zero => intro _ _; exact ⟨rfl, fun j hj => by omega⟩
  | succ k ih =>
    intro hk hk'
    obtain ⟨i1, i2⟩ := ih (by omega) (by omega)
    have a1 := h k (by omega)
    have a2 := h' k (by omega)
    rw [i1] at a2
    have e : od' k = od k := by
      rcases Int.lt_trichotomy (od' k) (od k) with c | c | c
      · exact absurd a2.2.1 (a1.2.2 _ a2.1.1 c)
      · exact c
      · exact absurd a1.2.1 (a2.2.2 _ a1.1.1 c)
    have h2 : ∀ j : Nat, j < k + 1 → od' j = od j := fun j hj => by
      by_cases ej : j = k
      · subst ej; exact e
      · exact i2 j (by omega)
    exact ⟨rrun_cong _ h2, h2⟩
theorem rok_len {n m : Int} {fr to pu tk : Int → Int} {T : rT} {od od' : Int → Int} {d d' : Nat} (h : rok n m fr to pu tk T od d) (h' : rok n m fr to pu tk T od' d') (e : rnon n m to tk (rrun fr to pu tk T od d)) (e' : rnon n m to tk (rrun fr to pu tk T od' d')) : d = d' := by
  rcases Nat.lt_trichotomy d d' with c | c | c
  · have a1 := (rok_same h h' d (Nat.le_refl d) (by omega)).1
    have a2 := h' d c
    rw [a1] at a2
    exact absurd a2.2.1 (e _ a2.1.1 a2.1.2)
  · exact c
  · have a1 := (rok_same h h' d' (by omega) (Nat.le_refl d')).1
    have a2 := h d' c
    rw [← a1] at a2
    exact absurd a2.2.1 (e' _ a2.1.1 a2.1.2)
/-- what a run's state holds: none below 0, not too many -/
theorem rok_bound {n m : Int} {fr to pu tk : Int → Int} {T : rT} {od : Int → Int} (hpu : ∀ k, 0 ≤ k → k < m → 1 ≤ pu k ∧ pu k ≤ 9) (htk : ∀ k, 0 ≤ k → k < m → 1 ≤ tk k ∧ tk k ≤ 9) (h0 : (∀ a, 0 ≤ a → a < n → 0 ≤ T.1 a) ∧ ∀ k, 0 ≤ k → k < m → (0 ≤ T.2.1 k ∧ T.2.1 k ≤ 99) ∧ 0 ≤ T.2.2 k ∧ T.2.2 k ≤ 99) :
    ∀ d : Nat, rok n m fr to pu tk T od d → (∀ a, 0 ≤ a → a < n → 0 ≤ (rrun fr to pu tk T od d).1 a ∧ (rrun fr to pu tk T od d).1 a ≤ T.1 a) ∧ ∀ k, 0 ≤ k → k < m → (0 ≤ (rrun fr to pu tk T od d).2.1 k ∧ (rrun fr to pu tk T od d).2.1 k ≤ 99 + 9 * d) ∧ 0 ≤ (rrun fr to pu tk T od d).2.2 k ∧ (rrun fr to pu tk T od d).2.2 k ≤ 99 + 9 * d := by
  intro d
  induction d with
  | zero => intro _; exact ⟨fun a h1 h2 => ⟨h0.1 a h1 h2, Int.le_refl _⟩, fun k h1 h2 => by have := h0.2 k h1 h2; simp only [rrun]; omega⟩
  | succ d ih =>
    intro h
    obtain ⟨i1, i2⟩ := ih (fun k hk => h k (by omega))
    have hd := h d (by omega)
    show (∀ a, 0 ≤ a → a < n → 0 ≤ (rfire fr to pu tk (rrun fr to pu tk T od d) (od d)).1 a ∧ (rfire fr to pu tk (rrun fr to pu tk T od d) (od d)).1 a ≤ T.1 a) ∧ ∀ k, 0 ≤ k → k < m → (0 ≤ (rfire fr to pu tk (rrun fr to pu tk T od d) (od d)).2.1 k ∧ (rfire fr to pu tk (rrun fr to pu tk T od d) (od d)).2.1 k ≤ 99 + 9 * ((d + 1 : Nat) : Int)) ∧ 0 ≤ (rfire fr to pu tk (rrun fr to pu tk T od d) (od d)).2.2 k ∧ (rfire fr to pu tk (rrun fr to pu tk T od d) (od d)).2.2 k ≤ 99 + 9 * ((d + 1 : Nat) : Int)
    generalize rrun fr to pu tk T od d = S at i1 i2 hd ⊢
    refine ⟨fun a h1 h2 => ?_, fun k h1 h2 => ?_⟩
    · have := i1 a h1 h2
      have h3 := hd.2.1.1
      simp only [rfire, upI]
      split
      · rename_i e; subst e; omega
      · omega
    · have a1 := i2 k h1 h2
      have a2 := hpu k h1 h2
      have a3 := htk k h1 h2
      have a4 := hd.2.1.2 k h1 h2
      simp only [rfire]
      by_cases c1 : to k = od d
      · have a4 := a4 c1
        rw [if_pos c1]
        by_cases c2 : fr k = od d
        · rw [if_pos c2]; omega
        · rw [if_neg c2]; omega
      · rw [if_neg c1]
        by_cases c2 : fr k = od d
        · rw [if_pos c2]; omega
        · rw [if_neg c2]; omega
/-- all that is left, together -/
theorem rok_sum {n m : Int} {fr to pu tk : Int → Int} {T : rT} {od : Int → Int} : ∀ d : Nat, rok n m fr to pu tk T od d → sI (rrun fr to pu tk T od d).1 n + d = sI T.1 n := by
  intro d
  induction d with
  | zero => intro _; simp [rrun]
  | succ d ih =>
    intro h
    have i1 := ih (fun k hk => h k (by omega))
    have hd := h d (by omega)
    show sI (rfire fr to pu tk (rrun fr to pu tk T od d) (od d)).1 n + ((d + 1 : Nat) : Int) = _
    generalize rrun fr to pu tk T od d = S at i1 hd ⊢
    have key : ∀ (f : Int → Int) (a : Int) (j : Nat), 0 ≤ a → sumN (upI f a (f a - 1)) j = sumN f j - (if a < (j : Int) then 1 else 0) := by
      intro f a j ha
      induction j with
      | zero => simp only [sumN]; rw [if_neg (by omega)]; rfl
      | succ j ihj =>
        simp only [sumN]
        rw [ihj]
        by_cases e : (j : Int) = a
        · rw [← e, upI_s]
          rw [if_neg (by omega), if_pos (by omega)]; omega
        · rw [upI_n e]
          by_cases c : a < (j : Int)
          · rw [if_pos c, if_pos (by omega)]; omega
          · rw [if_neg c, if_neg (by omega)]; omega
    have h9 := key S.1 (od d) n.toNat hd.1.1
    rw [if_pos (by have := hd.1; omega)] at h9
    have e9 : sI (rfire fr to pu tk S (od d)).1 n = sI S.1 n - 1 := h9
    omega
theorem sI_le {f : Int → Int} {n : Int} (hf : ∀ a, 0 ≤ a → a < n → 0 ≤ f a) : ∀ a, 0 ≤ a → a < n → f a ≤ sI f n := by
  have key : ∀ j : Nat, (j : Int) ≤ n → 0 ≤ sumN f j ∧ ∀ a, 0 ≤ a → a < (j : Int) → f a ≤ sumN f j := by
    intro j
    induction j with
    | zero => intro _; exact ⟨by simp [sumN], fun a h0 h1 => by omega⟩
    | succ j ih =>
      intro hj
      obtain ⟨i1, i2⟩ := ih (by omega)
      have := hf j (by omega) (by omega)
      refine ⟨by simp only [sumN]; omega, fun a h0 h1 => ?_⟩
      simp only [sumN]
      by_cases e : a = j
      · subst e; omega
      · have := i2 a h0 (by omega); omega
  intro a h0 h1
  exact (key n.toNat (by omega)).2 a h0 (by omega)
/-- the state that an object's arrays hold -/
def rat (n m : Int) (T : rT) (l1 l2 l3 : Int → Int) : Prop := (∀ a, 0 ≤ a → a < n → l1 a = T.1 a) ∧ ∀ k, 0 ≤ k → k < m → l2 k = T.2.1 k ∧ l3 k = T.2.2 k
theorem rat_rdy {n m : Int} {to tk : Int → Int} {T : rT} {l1 l2 l3 : Int → Int} (h : rat n m T l1 l2 l3) {a : Int} (h0 : 0 ≤ a) (h1 : a < n) : rrdy m to tk T a ↔ 0 < l1 a ∧ ∀ k, 0 ≤ k → k < m → to k = a → tk k ≤ l2 k := by
  unfold rrdy
  rw [h.1 a h0 h1]
  constructor
  · intro z; exact ⟨z.1, fun k k0 k1 e => by rw [(h.2 k k0 k1).1]; exact z.2 k k0 k1 e⟩
  · intro z; exact ⟨z.1, fun k k0 k1 e => by rw [← (h.2 k k0 k1).1]; exact z.2 k k0 k1 e⟩
abbrev zr_U_begin : Room := ({ frames := 0, cells := 0, slots := 0, locals := 0 } : Room)
set_option maxHeartbeats 4000000 in
set_option maxRecDepth 100000 in
theorem c_U_begin (l : Launch) (D : va_G) (q : Nat → Nat) (c : Nat → ClassId) (sz : Nat) (F : Nat → Int) (A : Nat → Int → Int)  (hn : 1 ≤ F 100 ∧ F 100 ≤ 8) (hc : 0 ≤ F 101 ∧ F 101 ≤ 14) : zMV l zy_U_begin zc_U_begin 3 none zr_U_begin D q c sz [.ref (q 2), .ref (q 1)] F A (fun F1 A1 => F1 = fuP F 201 0 ∧ (∀ k, k ≠ 15 → k ≠ 16 → k ≠ 17 → A1 k = A k) ∧ (∀ a, 0 ≤ a → a < F 100 → A1 15 a = A 7 a) ∧ ∀ k, 0 ≤ k → k < F 101 → A1 16 k = A 13 k ∧ A1 17 k = A 13 k) := by
  refine z_ofV (by decide) (Nat.le_of_ble_eq_true rfl) ?_
  intro p e s m args below meth c0 A0 Q C0 ret hP hD hS ls hl
  obtain ⟨S, hK, hA⟩ := C0
  have hx := S.1
  have hb := S.2.1
  have hown := S.2.2.2.1
  have hts : ∀ w ∈ zG, w.before args s = true := fun w h => S.2.2.2.2 w (List.mem_cons_of_mem _ h)
  have hl : lv_has ls 3 [(0, .ref (q 2)), (1, .ref (q 1))] := hl
  refine lv_aload_n hx hb zd_U_begin_0 rfl (lv_at hl 0 rfl) ?_
  refine lv_iconst (v := iI (0)) hx hb zd_U_begin_1 rfl ?_
  refine va_put (D := D) (ci := 2) (v := .int (iI (0))) (ty := .int) (C := zR_U) (T := zT_U) (N := 6) hx hb hts zi_U zk_U zo_U zn_U hown hK.1 hP hD hS 2 ga_2 rfl 1 (by decide) (hts _ zw_102) (fun _ h9 => h9) rfl (by decide +kernel) (rfl) (rfl) (Nat.le_of_ble_eq_true rfl) zd_U_begin_2 (fun H locs hP hD hS => ?_)
  rw [gs_2_1] at hP hD
  refine lv_iconst (v := iI (0)) hx hb zd_U_begin_5 rfl ?_
  refine lv_istore_n (lv' := [(2, .int (iI (0))), (0, .ref (q 2)), (1, .ref (q 1))]) hx hb zd_U_begin_6 rfl hl (by decide) rfl (fun ls hl => ?_)
  have L_7 : ∀ (fu : Nat) (i : Int)  (A7 : Nat → Int → Int), (0 ≤ i ∧ i ≤ F 100) → (∀ k, k ≠ 15 → k ≠ 16 → k ≠ 17 → A7 k = A k) → (∀ a, 0 ≤ a → a < i → A7 15 a = A 7 a) → (F 100 - i < (fu : Int)) → ∀ (H : Heap) (locs : List Loc), va_P D zcl (gw q c (fuP F 201 0) A7) H → va_D A0 (gw q c (fuP F 201 0) A7) → va_S A0 s.heap H locs → ∀ ls : Array Slot, lv_has ls 3 [(0, .ref (q 2)), (1, .ref (q 1)), (2, .int (iI (i)))] → W p l e zr_U_begin s m args below meth c0 H locs 0 0 Q (F0 m 7 ls []) := by
    intro fu
    induction fu with
    | zero => intro i  A7 hi hk he hm_7; exact absurd hm_7 (by omega)
    | succ fu ih_7 =>
      intro i  A7 hi hk he hm_7 H locs hP hD hS ls hl
      refine lv_iload_n hx hb zd_U_begin_7 rfl (lv_at hl 2 rfl) ?_
      refine lv_aload_n hx hb zd_U_begin_8 rfl (lv_at hl 1 rfl) ?_
      refine va_getN (D := D) (ci := 1) (v := .int (iI (F 100))) (C := zR_N) (T := zT_N) (N := 11) hx hb hts zi_N hown hK.1 hP 1 ga_1 rfl 0 (by decide) (zNW.use hK.2 zw_34) (fun _ h9 => h9) rfl zd_U_begin_9 ?_
      refine x_icmp_ge (tgt := 33) hx hb zd_U_begin_12 (by decide) (⟨by omega, by omega⟩) (⟨by omega, by omega⟩) (fun h_12 => ?_) (fun h_12 => ?_)
      · refine lv_iconst (v := iI (0)) hx hb zd_U_begin_33 rfl ?_
        refine lv_istore_n (lv' := [(2, .int (iI (0))), (0, .ref (q 2)), (1, .ref (q 1))]) hx hb zd_U_begin_34 rfl hl (by decide) rfl (fun ls hl => ?_)
        have L_35 : ∀ (fu : Nat) (j : Int)  (A35 : Nat → Int → Int), (0 ≤ j ∧ j ≤ F 101) → (∀ k, k ≠ 15 → k ≠ 16 → k ≠ 17 → A35 k = A k) → (∀ a, 0 ≤ a → a < F 100 → A35 15 a = A 7 a) → (∀ k, 0 ≤ k → k < j → A35 16 k = A 13 k ∧ A35 17 k = A 13 k) → (F 101 - j < (fu : Int)) → ∀ (H : Heap) (locs : List Loc), va_P D zcl (gw q c (fuP F 201 0) A35) H → va_D A0 (gw q c (fuP F 201 0) A35) → va_S A0 s.heap H locs → ∀ ls : Array Slot, lv_has ls 3 [(0, .ref (q 2)), (1, .ref (q 1)), (2, .int (iI (j)))] → W p l e zr_U_begin s m args below meth c0 H locs 0 0 Q (F0 m 35 ls []) := by
          intro fu
          induction fu with
          | zero => intro j  A35 hj hk2 he2 hs hm_35; exact absurd hm_35 (by omega)
          | succ fu ih_35 =>
            intro j  A35 hj hk2 he2 hs hm_35 H locs hP hD hS ls hl
            refine lv_iload_n hx hb zd_U_begin_35 rfl (lv_at hl 2 rfl) ?_
            refine lv_aload_n hx hb zd_U_begin_36 rfl (lv_at hl 1 rfl) ?_
            refine va_getN (D := D) (ci := 1) (v := .int (iI (F 101))) (C := zR_N) (T := zT_N) (N := 11) hx hb hts zi_N hown hK.1 hP 1 ga_1 rfl 1 (by decide) (zNW.use hK.2 zw_38) (fun _ h9 => h9) rfl zd_U_begin_37 ?_
            refine x_icmp_ge (tgt := 73) hx hb zd_U_begin_40 (by decide) (⟨by omega, by omega⟩) (⟨by omega, by omega⟩) (fun h_40 => ?_) (fun h_40 => ?_)
            · exact ret _ _ _ _ _ _ zd_U_begin_73 hP hD hS (⟨rfl, hk2, he2, fun k h0 h1 => hs k h0 (by omega)⟩)
            · have h13_ := hk2 13 (by decide) (by decide) (by decide)
              refine lv_aload_n hx hb zd_U_begin_43 rfl (lv_at hl 0 rfl) ?_
              refine va_get (D := D) (ci := 2) (v := .ref (q 16)) (C := zR_U) (T := zT_U) (N := 6) hx hb hts zi_U hown hK.1 hP 2 ga_2 rfl 4 (by decide) (hts _ zw_108) (fun _ h9 => h9) rfl zd_U_begin_44 ?_
              refine lv_iload_n hx hb zd_U_begin_47 rfl (lv_at hl 2 rfl) ?_
              refine lv_aload_n hx hb zd_U_begin_48 rfl (lv_at hl 1 rfl) ?_
              refine va_getN (D := D) (ci := 1) (v := .ref (q 13)) (C := zR_N) (T := zT_N) (N := 11) hx hb hts zi_N hown hK.1 hP 1 ga_1 rfl 10 (by decide) (zNW.use hK.2 zw_68) (fun _ h9 => h9) rfl zd_U_begin_49 ?_
              refine lv_iload_n hx hb zd_U_begin_52 rfl (lv_at hl 2 rfl) ?_
              refine x_iald (v := A 13 j) hx hb hK.1 hP 13 0 ga_13 rfl (by decide) (by omega) (by omega) (by rw [h13_]) zd_U_begin_53 ?_
              refine x_iast hx hb hK.1 hP hD hS 16 0 ga_16 rfl (by decide) (by omega) (by omega) zd_U_begin_54 (fun H locs hP hD hS => ?_)
              rw [gs_16] at hP hD
              refine lv_aload_n hx hb zd_U_begin_55 rfl (lv_at hl 0 rfl) ?_
              refine va_get (D := D) (ci := 2) (v := .ref (q 17)) (C := zR_U) (T := zT_U) (N := 6) hx hb hts zi_U hown hK.1 hP 2 ga_2 rfl 5 (by decide) (hts _ zw_109) (fun _ h9 => h9) rfl zd_U_begin_56 ?_
              refine lv_iload_n hx hb zd_U_begin_59 rfl (lv_at hl 2 rfl) ?_
              refine lv_aload_n hx hb zd_U_begin_60 rfl (lv_at hl 1 rfl) ?_
              refine va_getN (D := D) (ci := 1) (v := .ref (q 13)) (C := zR_N) (T := zT_N) (N := 11) hx hb hts zi_N hown hK.1 hP 1 ga_1 rfl 10 (by decide) (zNW.use hK.2 zw_68) (fun _ h9 => h9) rfl zd_U_begin_61 ?_
              refine lv_iload_n hx hb zd_U_begin_64 rfl (lv_at hl 2 rfl) ?_
              refine x_iald (v := A 13 j) hx hb hK.1 hP 13 0 ga_13 rfl (by decide) (by omega) (by omega) (by show A35 13 j = A 13 j; rw [h13_]) zd_U_begin_65 ?_
              refine x_iast hx hb hK.1 hP hD hS 17 0 ga_17 rfl (by decide) (by omega) (by omega) zd_U_begin_66 (fun H locs hP hD hS => ?_)
              rw [gs_17] at hP hD
              refine lv_iinc (v := iI (j + 1)) (lv' := [(2, .int (iI (j + 1))), (0, .ref (q 2)), (1, .ref (q 1))]) hx hb zd_U_begin_67 hl (k := 2) rfl (iI_add _ _) (by decide) rfl (fun ls hl => ?_)
              refine lv_goto (tgt := 35) hx hb zd_U_begin_70 (by decide) ?_
              exact ih_35 (j + 1)  (auP (auP A35 16 j (A 13 j)) 17 j (A 13 j)) (by first | assumption | omega | (simp_all; done)) (fun k h1 h2 h3 => by simp [auP, h2, h3, hk2 k h1 h2 h3]) (fun a h0 h1 => by simp [auP, he2 a h0 h1]) (fun k h0 h1 => by by_cases e_ : k = j; (subst e_; simp [auP, upI]); (have := hs k h0 (by omega); simp [auP, upI, e_, this])) (by omega) _ _ hP hD hS ls (lv_sub hl [1, 2, 0] rfl)
        exact L_35 (((F 101 - (0) : Int) + 1).toNat) (0)  A7 (by first | assumption | omega | (simp_all; done)) (hk) (fun a h0 h1 => he a h0 (by omega)) (fun k h0 h1 => by omega) (by omega) _ _ hP hD hS ls (lv_sub hl [1, 2, 0] rfl)
      · have h7_ := hk 7 (by decide) (by decide) (by decide)
        refine lv_aload_n hx hb zd_U_begin_15 rfl (lv_at hl 0 rfl) ?_
        refine va_get (D := D) (ci := 2) (v := .ref (q 15)) (C := zR_U) (T := zT_U) (N := 6) hx hb hts zi_U hown hK.1 hP 2 ga_2 rfl 3 (by decide) (hts _ zw_106) (fun _ h9 => h9) rfl zd_U_begin_16 ?_
        refine lv_iload_n hx hb zd_U_begin_19 rfl (lv_at hl 2 rfl) ?_
        refine lv_aload_n hx hb zd_U_begin_20 rfl (lv_at hl 1 rfl) ?_
        refine va_getN (D := D) (ci := 1) (v := .ref (q 7)) (C := zR_N) (T := zT_N) (N := 11) hx hb hts zi_N hown hK.1 hP 1 ga_1 rfl 4 (by decide) (zNW.use hK.2 zw_48) (fun _ h9 => h9) rfl zd_U_begin_21 ?_
        refine lv_iload_n hx hb zd_U_begin_24 rfl (lv_at hl 2 rfl) ?_
        refine x_iald (v := A 7 i) hx hb hK.1 hP 7 0 ga_7 rfl (by decide) (by omega) (by omega) (by rw [h7_]) zd_U_begin_25 ?_
        refine x_iast hx hb hK.1 hP hD hS 15 0 ga_15 rfl (by decide) (by omega) (by omega) zd_U_begin_26 (fun H locs hP hD hS => ?_)
        rw [gs_15] at hP hD
        refine lv_iinc (v := iI (i + 1)) (lv' := [(2, .int (iI (i + 1))), (0, .ref (q 2)), (1, .ref (q 1))]) hx hb zd_U_begin_27 hl (k := 2) rfl (iI_add _ _) (by decide) rfl (fun ls hl => ?_)
        refine lv_goto (tgt := 7) hx hb zd_U_begin_30 (by decide) ?_
        exact ih_7 (i + 1)  (auP A7 15 i (A 7 i)) (by first | assumption | omega | (simp_all; done)) (fun k h1 h2 h3 => by simp [auP, h1, hk k h1 h2 h3]) (fun a h0 h1 => by by_cases e_ : a = i; (subst e_; simp [auP, upI]); (have := he a h0 (by omega); simp [auP, upI, e_, this])) (by omega) _ _ hP hD hS ls (lv_sub hl [1, 2, 0] rfl)
  exact L_7 (((F 100 - (0) : Int) + 1).toNat) (0)  A (by first | assumption | omega | (simp_all; done)) (fun k _ _ _ => rfl) (fun a h0 h1 => by omega) (by omega) _ _ hP hD hS ls (lv_sub hl [1, 2, 0] rfl)

abbrev zr_U_hasEnough : Room := ({ frames := 0, cells := 0, slots := 0, locals := 0 } : Room)
set_option maxHeartbeats 4000000 in
set_option maxRecDepth 100000 in
theorem c_U_hasEnough (l : Launch) (D : va_G) (q : Nat → Nat) (c : Nat → ClassId) (sz : Nat) (F : Nat → Int) (A : Nat → Int → Int) (a : Int) (hn : 1 ≤ F 100 ∧ F 100 ≤ 8) (hc : 0 ≤ F 101 ∧ F 101 ≤ 14) (hch : ∀ k, 0 ≤ k → k < F 101 → (0 ≤ A 9 k ∧ A 9 k < F 100) ∧ (0 ≤ A 10 k ∧ A 10 k < F 100) ∧ (1 ≤ A 11 k ∧ A 11 k ≤ 9) ∧ (1 ≤ A 12 k ∧ A 12 k ≤ 9) ∧ 0 ≤ A 13 k ∧ A 13 k ≤ 99) (hly : ∀ k, 0 ≤ k → k < F 101 → (0 ≤ A 16 k ∧ A 16 k ≤ 99999) ∧ 0 ≤ A 17 k ∧ A 17 k ≤ 99999) (ha : 0 ≤ a ∧ a < F 100) : zMI l zy_U_hasEnough zc_U_hasEnough 4 (some .boolean) zr_U_hasEnough D q c sz [.ref (q 2), .ref (q 1), .int (iI (a))] F A (fun z F1 A1 => F1 = F ∧ A1 = A ∧ (z = 0 ∨ z = 1) ∧ (z = 1 ↔ ∀ k, 0 ≤ k → k < F 101 → A 10 k = a → A 12 k ≤ A 16 k)) := by
  refine z_ofB (by decide) (Nat.le_of_ble_eq_true rfl) ?_
  intro p e s m args below meth c0 A0 Q C0 ret hP hD hS ls hl
  obtain ⟨S, hK, hA⟩ := C0
  have hx := S.1
  have hb := S.2.1
  have hown := S.2.2.2.1
  have hts : ∀ w ∈ zG, w.before args s = true := fun w h => S.2.2.2.2 w (List.mem_cons_of_mem _ h)
  have hl : lv_has ls 4 [(0, .ref (q 2)), (1, .ref (q 1)), (2, .int (iI (a)))] := hl
  refine lv_iconst (v := iI (0)) hx hb zd_U_hasEnough_0 rfl ?_
  refine lv_istore_n (lv' := [(3, .int (iI (0))), (0, .ref (q 2)), (1, .ref (q 1)), (2, .int (iI (a)))]) hx hb zd_U_hasEnough_1 rfl hl (by decide) rfl (fun ls hl => ?_)
  have L_2 : ∀ (fu : Nat) (i : Int) , (0 ≤ i ∧ i ≤ F 101) → (∀ k, 0 ≤ k → k < i → A 10 k = a → A 12 k ≤ A 16 k) → (F 101 - i < (fu : Int)) → ∀ (H : Heap) (locs : List Loc), va_P D zcl (gw q c F A) H → va_D A0 (gw q c F A) → va_S A0 s.heap H locs → ∀ ls : Array Slot, lv_has ls 4 [(0, .ref (q 2)), (1, .ref (q 1)), (2, .int (iI (a))), (3, .int (iI (i)))] → W p l e zr_U_hasEnough s m args below meth c0 H locs 0 0 Q (F0 m 2 ls []) := by
    intro fu
    induction fu with
    | zero => intro i   hi hs hm_2; exact absurd hm_2 (by omega)
    | succ fu ih_2 =>
      intro i   hi hs hm_2 H locs hP hD hS ls hl
      refine lv_iload_n hx hb zd_U_hasEnough_2 rfl (lv_at hl 3 rfl) ?_
      refine lv_aload_n hx hb zd_U_hasEnough_3 rfl (lv_at hl 1 rfl) ?_
      refine va_getN (D := D) (ci := 1) (v := .int (iI (F 101))) (C := zR_N) (T := zT_N) (N := 11) hx hb hts zi_N hown hK.1 hP 1 ga_1 rfl 1 (by decide) (zNW.use hK.2 zw_38) (fun _ h9 => h9) rfl zd_U_hasEnough_4 ?_
      refine x_icmp_ge (tgt := 43) hx hb zd_U_hasEnough_7 (by decide) (⟨by omega, by omega⟩) (⟨by omega, by omega⟩) (fun h_7 => ?_) (fun h_7 => ?_)
      · refine lv_iconst (v := iI (1)) hx hb zd_U_hasEnough_43 rfl ?_
        exact ret _ _ _ _ _ _ _ zd_U_hasEnough_44 hP hD hS (by omega) (⟨rfl, rfl, by omega, ⟨fun _ k h0 h1 h2 => hs k h0 (by omega) h2, fun _ => rfl⟩⟩)
      · have hc_ := hch i (by omega) (by omega)
        have hl_ := hly i (by omega) (by omega)
        refine lv_aload_n hx hb zd_U_hasEnough_10 rfl (lv_at hl 1 rfl) ?_
        refine va_getN (D := D) (ci := 1) (v := .ref (q 10)) (C := zR_N) (T := zT_N) (N := 11) hx hb hts zi_N hown hK.1 hP 1 ga_1 rfl 7 (by decide) (zNW.use hK.2 zw_58) (fun _ h9 => h9) rfl zd_U_hasEnough_11 ?_
        refine lv_iload_n hx hb zd_U_hasEnough_14 rfl (lv_at hl 3 rfl) ?_
        refine x_iald (v := A 10 i) hx hb hK.1 hP 10 0 ga_10 rfl (by decide) (by omega) (by omega) (rfl) zd_U_hasEnough_15 ?_
        refine lv_iload_n hx hb zd_U_hasEnough_16 rfl (lv_at hl 2 rfl) ?_
        refine x_icmp_ne (tgt := 37) hx hb zd_U_hasEnough_17 (by decide) (⟨by omega, by omega⟩) (⟨by omega, by omega⟩) (fun h_17 => ?_) (fun h_17 => ?_)
        · refine lv_iinc (v := iI (i + 1)) (lv' := [(3, .int (iI (i + 1))), (0, .ref (q 2)), (1, .ref (q 1)), (2, .int (iI (a)))]) hx hb zd_U_hasEnough_37 hl (k := 3) rfl (iI_add _ _) (by decide) rfl (fun ls hl => ?_)
          refine lv_goto (tgt := 2) hx hb zd_U_hasEnough_40 (by decide) ?_
          exact ih_2 (i + 1)   (by first | assumption | omega | (simp_all; done)) (fun k h0 h1 h2 => by by_cases e_ : k = i; (subst e_; omega); (exact hs k h0 (by omega) h2)) (by omega) _ _ hP hD hS ls (lv_sub hl [1, 2, 3, 0] rfl)
        · refine lv_aload_n hx hb zd_U_hasEnough_20 rfl (lv_at hl 0 rfl) ?_
          refine va_get (D := D) (ci := 2) (v := .ref (q 16)) (C := zR_U) (T := zT_U) (N := 6) hx hb hts zi_U hown hK.1 hP 2 ga_2 rfl 4 (by decide) (hts _ zw_108) (fun _ h9 => h9) rfl zd_U_hasEnough_21 ?_
          refine lv_iload_n hx hb zd_U_hasEnough_24 rfl (lv_at hl 3 rfl) ?_
          refine x_iald (v := A 16 i) hx hb hK.1 hP 16 0 ga_16 rfl (by decide) (by omega) (by omega) (rfl) zd_U_hasEnough_25 ?_
          refine lv_aload_n hx hb zd_U_hasEnough_26 rfl (lv_at hl 1 rfl) ?_
          refine va_getN (D := D) (ci := 1) (v := .ref (q 12)) (C := zR_N) (T := zT_N) (N := 11) hx hb hts zi_N hown hK.1 hP 1 ga_1 rfl 9 (by decide) (zNW.use hK.2 zw_65) (fun _ h9 => h9) rfl zd_U_hasEnough_27 ?_
          refine lv_iload_n hx hb zd_U_hasEnough_30 rfl (lv_at hl 3 rfl) ?_
          refine x_iald (v := A 12 i) hx hb hK.1 hP 12 0 ga_12 rfl (by decide) (by omega) (by omega) (rfl) zd_U_hasEnough_31 ?_
          refine x_icmp_ge (tgt := 37) hx hb zd_U_hasEnough_32 (by decide) (⟨by omega, by omega⟩) (⟨by omega, by omega⟩) (fun h_32 => ?_) (fun h_32 => ?_)
          · refine lv_iinc (v := iI (i + 1)) (lv' := [(3, .int (iI (i + 1))), (0, .ref (q 2)), (1, .ref (q 1)), (2, .int (iI (a)))]) hx hb zd_U_hasEnough_37 hl (k := 3) rfl (iI_add _ _) (by decide) rfl (fun ls hl => ?_)
            refine lv_goto (tgt := 2) hx hb zd_U_hasEnough_40 (by decide) ?_
            exact ih_2 (i + 1)   (by first | assumption | omega | (simp_all; done)) (fun k h0 h1 h2 => by by_cases e_ : k = i; (subst e_; omega); (exact hs k h0 (by omega) h2)) (by omega) _ _ hP hD hS ls (lv_sub hl [1, 2, 3, 0] rfl)
          · refine lv_iconst (v := iI (0)) hx hb zd_U_hasEnough_35 rfl ?_
            exact ret _ _ _ _ _ _ _ zd_U_hasEnough_36 hP hD hS (by omega) (⟨rfl, rfl, by omega, ⟨fun h => by omega, fun h => by have := h i (by omega) (by omega) (by omega); omega⟩⟩)
  exact L_2 (((F 101 - (0) : Int) + 1).toNat) (0)   (by first | assumption | omega | (simp_all; done)) (fun k h0 h1 => by omega) (by omega) _ _ hP hD hS ls (lv_sub hl [1, 2, 3, 0] rfl)

abbrev zr_U_leastReady : Room := ({ frames := 1, cells := 0, slots := 0, locals := 23 } : Room)
set_option maxHeartbeats 4000000 in
set_option maxRecDepth 100000 in
theorem c_U_leastReady (l : Launch) (D : va_G) (q : Nat → Nat) (c : Nat → ClassId) (sz : Nat) (F : Nat → Int) (A : Nat → Int → Int)  (hn : 1 ≤ F 100 ∧ F 100 ≤ 8) (hc : 0 ≤ F 101 ∧ F 101 ≤ 14) (hch : ∀ k, 0 ≤ k → k < F 101 → (0 ≤ A 9 k ∧ A 9 k < F 100) ∧ (0 ≤ A 10 k ∧ A 10 k < F 100) ∧ (1 ≤ A 11 k ∧ A 11 k ≤ 9) ∧ (1 ≤ A 12 k ∧ A 12 k ≤ 9) ∧ 0 ≤ A 13 k ∧ A 13 k ≤ 99) (hly : ∀ k, 0 ≤ k → k < F 101 → (0 ≤ A 16 k ∧ A 16 k ≤ 99999) ∧ 0 ≤ A 17 k ∧ A 17 k ≤ 99999) (hlf : ∀ a, 0 ≤ a → a < F 100 → 0 ≤ A 15 a ∧ A 15 a ≤ 4782969) : zMI l zy_U_leastReady zc_U_leastReady 3 (some .int) zr_U_leastReady D q c sz [.ref (q 2), .ref (q 1)] F A (fun z F1 A1 => F1 = F ∧ A1 = A ∧ ((z = -1 ∧ ∀ b, 0 ≤ b → b < F 100 → ¬ (0 < A 15 b ∧ ∀ k, 0 ≤ k → k < F 101 → A 10 k = b → A 12 k ≤ A 16 k)) ∨ ((0 ≤ z ∧ z < F 100) ∧ (0 < A 15 z ∧ ∀ k, 0 ≤ k → k < F 101 → A 10 k = z → A 12 k ≤ A 16 k) ∧ ∀ b, 0 ≤ b → b < z → ¬ (0 < A 15 b ∧ ∀ k, 0 ≤ k → k < F 101 → A 10 k = b → A 12 k ≤ A 16 k)))) := by
  refine z_ofI (by decide) (Nat.le_of_ble_eq_true rfl) ?_
  intro p e s m args below meth c0 A0 Q C0 ret hP hD hS ls hl
  obtain ⟨S, hK, hA⟩ := C0
  have hx := S.1
  have hb := S.2.1
  have hown := S.2.2.2.1
  have hts : ∀ w ∈ zG, w.before args s = true := fun w h => S.2.2.2.2 w (List.mem_cons_of_mem _ h)
  have hl : lv_has ls 3 [(0, .ref (q 2)), (1, .ref (q 1))] := hl
  refine lv_iconst (v := iI (0)) hx hb zd_U_leastReady_0 rfl ?_
  refine lv_istore_n (lv' := [(2, .int (iI (0))), (0, .ref (q 2)), (1, .ref (q 1))]) hx hb zd_U_leastReady_1 rfl hl (by decide) rfl (fun ls hl => ?_)
  have L_2 : ∀ (fu : Nat) (i : Int) , (0 ≤ i ∧ i ≤ F 100) → (∀ b, 0 ≤ b → b < i → ¬ (0 < A 15 b ∧ ∀ k, 0 ≤ k → k < F 101 → A 10 k = b → A 12 k ≤ A 16 k)) → (F 100 - i < (fu : Int)) → ∀ (H : Heap) (locs : List Loc), va_P D zcl (gw q c F A) H → va_D A0 (gw q c F A) → va_S A0 s.heap H locs → ∀ ls : Array Slot, lv_has ls 3 [(0, .ref (q 2)), (1, .ref (q 1)), (2, .int (iI (i)))] → W p l e zr_U_leastReady s m args below meth c0 H locs 0 0 Q (F0 m 2 ls []) := by
    intro fu
    induction fu with
    | zero => intro i   hi hs hm_2; exact absurd hm_2 (by omega)
    | succ fu ih_2 =>
      intro i   hi hs hm_2 H locs hP hD hS ls hl
      refine lv_iload_n hx hb zd_U_leastReady_2 rfl (lv_at hl 2 rfl) ?_
      refine lv_aload_n hx hb zd_U_leastReady_3 rfl (lv_at hl 1 rfl) ?_
      refine va_getN (D := D) (ci := 1) (v := .int (iI (F 100))) (C := zR_N) (T := zT_N) (N := 11) hx hb hts zi_N hown hK.1 hP 1 ga_1 rfl 0 (by decide) (zNW.use hK.2 zw_34) (fun _ h9 => h9) rfl zd_U_leastReady_4 ?_
      refine x_icmp_ge (tgt := 36) hx hb zd_U_leastReady_7 (by decide) (⟨by omega, by omega⟩) (⟨by omega, by omega⟩) (fun h_7 => ?_) (fun h_7 => ?_)
      · refine lv_iconst (v := iI (-1)) hx hb zd_U_leastReady_36 rfl ?_
        exact ret _ _ _ _ _ _ _ zd_U_leastReady_37 hP hD hS (⟨rfl, rfl, Or.inl ⟨rfl, fun b h0 h1 => hs b h0 (by omega)⟩⟩)
      · have hl_ := hlf i (by omega) (by omega)
        refine lv_aload_n hx hb zd_U_leastReady_10 rfl (lv_at hl 0 rfl) ?_
        refine va_get (D := D) (ci := 2) (v := .ref (q 15)) (C := zR_U) (T := zT_U) (N := 6) hx hb hts zi_U hown hK.1 hP 2 ga_2 rfl 3 (by decide) (hts _ zw_106) (fun _ h9 => h9) rfl zd_U_leastReady_11 ?_
        refine lv_iload_n hx hb zd_U_leastReady_14 rfl (lv_at hl 2 rfl) ?_
        refine x_iald (v := A 15 i) hx hb hK.1 hP 15 0 ga_15 rfl (by decide) (by omega) (by omega) (rfl) zd_U_leastReady_15 ?_
        refine x_if_le (tgt := 30) hx hb zd_U_leastReady_16 (by decide) (⟨by omega, by omega⟩) (fun h_16 => ?_) (fun h_16 => ?_)
        · refine lv_iinc (v := iI (i + 1)) (lv' := [(2, .int (iI (i + 1))), (0, .ref (q 2)), (1, .ref (q 1))]) hx hb zd_U_leastReady_30 hl (k := 2) rfl (iI_add _ _) (by decide) rfl (fun ls hl => ?_)
          refine lv_goto (tgt := 2) hx hb zd_U_leastReady_33 (by decide) ?_
          exact ih_2 (i + 1)   (by first | assumption | omega | (simp_all; done)) (fun b h0 h1 h2 => by by_cases e_ : b = i; (subst e_; first | omega | (have := hz2.mpr h2.2; omega)); (exact hs b h0 (by omega) h2)) (by omega) _ _ hP hD hS ls (lv_sub hl [1, 2, 0] rfl)
        · refine lv_aload_n hx hb zd_U_leastReady_19 rfl (lv_at hl 0 rfl) ?_
          refine lv_aload_n hx hb zd_U_leastReady_20 rfl (lv_at hl 1 rfl) ?_
          refine lv_iload_n hx hb zd_U_leastReady_21 rfl (lv_at hl 2 rfl) ?_
          refine z_goi (z_runV (n := 2) (k := 2) (ci := 2) (As := [.ref (q 1), .int (iI (i))]) (rest := []) S (c_U_hasEnough l D q c _ F A i (by first | assumption | omega | exact ⟨by omega, by omega⟩) (by first | assumption | omega | exact ⟨by omega, by omega⟩) (by first | assumption | omega | exact ⟨by omega, by omega⟩) (by first | assumption | omega | exact ⟨by omega, by omega⟩) (by first | assumption | omega | exact ⟨by omega, by omega⟩)) zw_282 zw_284 zs_13 zw_3 zw_285 ⟨by decide +kernel, by decide, rfl, rfl⟩ hK hP hD ga_2 rfl rfl rfl hl.1 rfl (Nat.le_of_ble_eq_true rfl) zd_U_leastReady_22 ⟨Nat.zero_le _, Nat.zero_le _⟩) hD hS hA (fun z_22 F_22 A_22 H locs hq_22 hP hD hS => ?_)
          obtain ⟨hf_22, ha_22, hq_22⟩ := hq_22
          rw [hf_22, ha_22] at hP hD
          obtain ⟨hz1, hz2⟩ := hq_22
          refine x_if_eq (tgt := 30) hx hb zd_U_leastReady_25 (by decide) (⟨by omega, by omega⟩) (fun h_25 => ?_) (fun h_25 => ?_)
          · refine lv_iinc (v := iI (i + 1)) (lv' := [(2, .int (iI (i + 1))), (0, .ref (q 2)), (1, .ref (q 1))]) hx hb zd_U_leastReady_30 hl (k := 2) rfl (iI_add _ _) (by decide) rfl (fun ls hl => ?_)
            refine lv_goto (tgt := 2) hx hb zd_U_leastReady_33 (by decide) ?_
            exact ih_2 (i + 1)   (by first | assumption | omega | (simp_all; done)) (fun b h0 h1 h2 => by by_cases e_ : b = i; (subst e_; first | omega | (have := hz2.mpr h2.2; omega)); (exact hs b h0 (by omega) h2)) (by omega) _ _ hP hD hS ls (lv_sub hl [1, 2, 0] rfl)
          · refine lv_iload_n hx hb zd_U_leastReady_28 rfl (lv_at hl 2 rfl) ?_
            exact ret _ _ _ _ _ _ _ zd_U_leastReady_29 hP hD hS (⟨rfl, rfl, Or.inr ⟨by omega, ⟨by omega, hz2.mp (by omega)⟩, hs⟩⟩)
  exact L_2 (((F 100 - (0) : Int) + 1).toNat) (0)   (by first | assumption | omega | (simp_all; done)) (fun b h0 h1 => by omega) (by omega) _ _ hP hD hS ls (lv_sub hl [1, 2, 0] rfl)

abbrev zr_U_isAlive : Room := ({ frames := 0, cells := 0, slots := 0, locals := 0 } : Room)
set_option maxHeartbeats 4000000 in
set_option maxRecDepth 100000 in
theorem c_U_isAlive (l : Launch) (D : va_G) (q : Nat → Nat) (c : Nat → ClassId) (sz : Nat) (F : Nat → Int) (A : Nat → Int → Int)  (hn : 1 ≤ F 100 ∧ F 100 ≤ 8) (hc : 0 ≤ F 101 ∧ F 101 ≤ 14) (hlf : ∀ a, 0 ≤ a → a < F 100 → 0 ≤ A 15 a ∧ A 15 a ≤ 4782969) : zMI l zy_U_isAlive zc_U_isAlive 3 (some .boolean) zr_U_isAlive D q c sz [.ref (q 2), .ref (q 1)] F A (fun z F1 A1 => F1 = F ∧ A1 = A ∧ (z = 0 ∨ z = 1) ∧ (z = 1 ↔ ∀ a, 0 ≤ a → a < F 100 → A 15 a = 0)) := by
  refine z_ofB (by decide) (Nat.le_of_ble_eq_true rfl) ?_
  intro p e s m args below meth c0 A0 Q C0 ret hP hD hS ls hl
  obtain ⟨S, hK, hA⟩ := C0
  have hx := S.1
  have hb := S.2.1
  have hown := S.2.2.2.1
  have hts : ∀ w ∈ zG, w.before args s = true := fun w h => S.2.2.2.2 w (List.mem_cons_of_mem _ h)
  have hl : lv_has ls 3 [(0, .ref (q 2)), (1, .ref (q 1))] := hl
  refine lv_iconst (v := iI (0)) hx hb zd_U_isAlive_0 rfl ?_
  refine lv_istore_n (lv' := [(2, .int (iI (0))), (0, .ref (q 2)), (1, .ref (q 1))]) hx hb zd_U_isAlive_1 rfl hl (by decide) rfl (fun ls hl => ?_)
  have L_2 : ∀ (fu : Nat) (i : Int) , (0 ≤ i ∧ i ≤ F 100) → (∀ a, 0 ≤ a → a < i → A 15 a = 0) → (F 100 - i < (fu : Int)) → ∀ (H : Heap) (locs : List Loc), va_P D zcl (gw q c F A) H → va_D A0 (gw q c F A) → va_S A0 s.heap H locs → ∀ ls : Array Slot, lv_has ls 3 [(0, .ref (q 2)), (1, .ref (q 1)), (2, .int (iI (i)))] → W p l e zr_U_isAlive s m args below meth c0 H locs 0 0 Q (F0 m 2 ls []) := by
    intro fu
    induction fu with
    | zero => intro i   hi hs hm_2; exact absurd hm_2 (by omega)
    | succ fu ih_2 =>
      intro i   hi hs hm_2 H locs hP hD hS ls hl
      refine lv_iload_n hx hb zd_U_isAlive_2 rfl (lv_at hl 2 rfl) ?_
      refine lv_aload_n hx hb zd_U_isAlive_3 rfl (lv_at hl 1 rfl) ?_
      refine va_getN (D := D) (ci := 1) (v := .int (iI (F 100))) (C := zR_N) (T := zT_N) (N := 11) hx hb hts zi_N hown hK.1 hP 1 ga_1 rfl 0 (by decide) (zNW.use hK.2 zw_34) (fun _ h9 => h9) rfl zd_U_isAlive_4 ?_
      refine x_icmp_ge (tgt := 27) hx hb zd_U_isAlive_7 (by decide) (⟨by omega, by omega⟩) (⟨by omega, by omega⟩) (fun h_7 => ?_) (fun h_7 => ?_)
      · refine lv_iconst (v := iI (1)) hx hb zd_U_isAlive_27 rfl ?_
        exact ret _ _ _ _ _ _ _ zd_U_isAlive_28 hP hD hS (by omega) (⟨rfl, rfl, by omega, ⟨fun _ a h0 h1 => hs a h0 (by omega), fun _ => rfl⟩⟩)
      · have hl_ := hlf i (by omega) (by omega)
        refine lv_aload_n hx hb zd_U_isAlive_10 rfl (lv_at hl 0 rfl) ?_
        refine va_get (D := D) (ci := 2) (v := .ref (q 15)) (C := zR_U) (T := zT_U) (N := 6) hx hb hts zi_U hown hK.1 hP 2 ga_2 rfl 3 (by decide) (hts _ zw_106) (fun _ h9 => h9) rfl zd_U_isAlive_11 ?_
        refine lv_iload_n hx hb zd_U_isAlive_14 rfl (lv_at hl 2 rfl) ?_
        refine x_iald (v := A 15 i) hx hb hK.1 hP 15 0 ga_15 rfl (by decide) (by omega) (by omega) (rfl) zd_U_isAlive_15 ?_
        refine x_if_eq (tgt := 21) hx hb zd_U_isAlive_16 (by decide) (⟨by omega, by omega⟩) (fun h_16 => ?_) (fun h_16 => ?_)
        · refine lv_iinc (v := iI (i + 1)) (lv' := [(2, .int (iI (i + 1))), (0, .ref (q 2)), (1, .ref (q 1))]) hx hb zd_U_isAlive_21 hl (k := 2) rfl (iI_add _ _) (by decide) rfl (fun ls hl => ?_)
          refine lv_goto (tgt := 2) hx hb zd_U_isAlive_24 (by decide) ?_
          exact ih_2 (i + 1)   (by first | assumption | omega | (simp_all; done)) (fun k h0 h1 => by by_cases e_ : k = i; (subst e_; omega); (exact hs k h0 (by omega))) (by omega) _ _ hP hD hS ls (lv_sub hl [1, 2, 0] rfl)
        · refine lv_iconst (v := iI (0)) hx hb zd_U_isAlive_19 rfl ?_
          exact ret _ _ _ _ _ _ _ zd_U_isAlive_20 hP hD hS (by omega) (⟨rfl, rfl, by omega, ⟨fun h => by omega, fun h => by have := h i (by omega) (by omega); omega⟩⟩)
  exact L_2 (((F 100 - (0) : Int) + 1).toNat) (0)   (by first | assumption | omega | (simp_all; done)) (fun k h0 h1 => by omega) (by omega) _ _ hP hD hS ls (lv_sub hl [1, 2, 0] rfl)
