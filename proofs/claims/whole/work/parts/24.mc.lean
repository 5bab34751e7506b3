/-! Looking for a loop of parents -/
def LO (n : Int) (f S2 : Int → Int) (st : Int) (g : Int → Int) : Prop := ∀ x, 0 ≤ x → x < n → (-1 ≤ g x ∧ g x < st) ∧ (g x ≠ -1 → ∃ j : Nat, S2 (rx_it f j x) = -1) ∧ (x < st → g x ≠ -1)
def LR (n : Int) (f S2 : Int → Int) (st t v : Int) (g : Int → Int) : Prop :=
  (∀ x, 0 ≤ x → x < n → (-1 ≤ g x ∧ g x ≤ st) ∧ (g x ≠ -1 → g x ≠ st → ∃ j : Nat, S2 (rx_it f j x) = -1) ∧ (x < st → g x ≠ -1) ∧ (g x = st → ∃ j : Nat, (j : Int) < t ∧ x = rx_it f j st)) ∧
  (∀ j : Nat, (j : Int) < t → (0 ≤ rx_it f j st ∧ rx_it f j st < n) ∧ g (rx_it f j st) = st) ∧
  (∀ j k : Nat, j < k → (k : Int) < t → rx_it f j st ≠ rx_it f k st) ∧
  ((v = -1 ∧ 1 ≤ t ∧ S2 (rx_it f (t - 1).toNat st) = -1) ∨ ((0 ≤ v ∧ v < n) ∧ v = rx_it f t.toNat st ∧ ∀ j : Nat, (j : Int) < t → S2 (rx_it f j st) ≠ -1))
section LRS
variable {n : Int} {f S2 g : Int → Int} {st t v : Int}
theorem LR_init (h : LO n f S2 st g) (h0 : 0 ≤ st) (h1 : st < n) : LR n f S2 st 0 st g := by
  refine ⟨fun x x0 x1 => ?_, fun j hj => by omega, fun j k _ hk => by omega, Or.inr ⟨⟨h0, h1⟩, rfl, fun j hj => by omega⟩⟩
  obtain ⟨a, b, c⟩ := h x x0 x1
  exact ⟨by omega, fun h2 _ => b h2, c, fun e => by omega⟩
theorem LR_lt (h : LR n f S2 st t v g) (ht : 0 ≤ t) (hv : v ≠ -1) (hg : ∀ x, 0 ≤ x → x < n → g v = -1) (hn : 0 ≤ n) : t < n := by
  obtain ⟨h1, h2, h3, h4⟩ := h
  rcases h4 with h4 | ⟨hr, hv2, h5⟩
  · exact absurd h4.1 hv
  · refine Int.lt_of_not_ge (fun hc => ?_)
    obtain ⟨i, j, c1, c2, c3⟩ := rx_pigeonI (n := n.toNat) (k := t.toNat) (a := fun j => rx_it f j st) (fun i hi => by
      by_cases e : i = t.toNat
      · subst e; rw [← hv2]; omega
      · have := (h2 i (by omega)).1; omega) (by omega)
    by_cases e : j = t.toNat
    · subst e
      have c4 : rx_it f i st = v := by rw [hv2]; exact c3
      have c5 := (h2 i (by omega)).2
      rw [c4, hg v hr.1 hr.2] at c5
      have c6 := (h2 i (by omega)).1
      have := (h1 v hr.1 hr.2).1
      have c7 := h2 0 (by omega)
      have c8 : rx_it f 0 st = st := rfl
      rw [c8] at c7
      omega
    · exact h3 i j c1 (by omega) c3
theorem LR_step (h : LR n f S2 st t v g) (ht : 0 ≤ t) (h0 : 0 ≤ st) (hv : v ≠ -1) (hg : g v = -1) (hf : ∀ x, 0 ≤ x → x < n → S2 x ≠ -1 → 0 ≤ f x ∧ f x < n) {v' : Int} (hv' : v' = if S2 v = -1 then -1 else f v) : LR n f S2 st (t + 1) v' (upI g v st) := by
  obtain ⟨h1, h2, h3, h4⟩ := h
  rcases h4 with h4 | ⟨hr, hv2, h5⟩
  · exact absurd h4.1 hv
  · have et : (t + 1).toNat = t.toNat + 1 := by omega
    have ett : ((t.toNat : Nat) : Int) = t := by omega
    refine ⟨fun x x0 x1 => ?_, fun j hj => ?_, fun j k hjk hk => ?_, ?_⟩
    · obtain ⟨a, b, c, d⟩ := h1 x x0 x1
      by_cases e : x = v
      · subst e
        rw [upI_s]
        exact ⟨by omega, fun _ z => absurd rfl z, fun _ => by omega, fun _ => ⟨t.toNat, by omega, hv2⟩⟩
      · rw [upI_n e]
        exact ⟨a, b, c, fun z => by obtain ⟨j, j1, j2⟩ := d z; exact ⟨j, by omega, j2⟩⟩
    · by_cases e : j = t.toNat
      · subst e; rw [← hv2, upI_s]; exact ⟨hr, rfl⟩
      · obtain ⟨a, b⟩ := h2 j (by omega)
        refine ⟨a, ?_⟩
        by_cases e2 : rx_it f j st = v
        · rw [e2, upI_s]
        · rw [upI_n e2]; exact b
    · by_cases e : k = t.toNat
      · subst e
        intro c
        have b := (h2 j (by omega)).2
        rw [c, ← hv2, hg] at b
        omega
      · exact h3 j k hjk (by omega)
    · by_cases e : S2 v = -1
      · left
        rw [if_pos e] at hv'
        exact ⟨hv', by omega, by rw [show t + 1 - 1 = t by omega, ← hv2]; exact e⟩
      · right
        rw [if_neg e] at hv'
        refine ⟨by rw [hv']; exact hf v hr.1 hr.2 e, by rw [hv', et, rx_it_succ, ← hv2], fun j hj => ?_⟩
        by_cases e2 : j = t.toNat
        · subst e2; rw [← hv2]; exact e
        · exact h5 j (by omega)
/-- none here: the next start -/
theorem LR_next (h : LR n f S2 st t v g) (ht : 0 ≤ t) (h0 : 0 ≤ st) (h1' : st < n) (he : v = -1 ∨ (v ≠ -1 ∧ g v ≠ -1 ∧ g v ≠ st)) : LO n f S2 (st + 1) g := by
  obtain ⟨h1, h2, h3, h4⟩ := h
  have hend : ∃ k : Nat, (t ≤ k + 1) ∧ S2 (rx_it f k st) = -1 := by
    rcases h4 with ⟨-, h5, h6⟩ | ⟨hr, hv2, h5⟩
    · exact ⟨(t - 1).toNat, by omega, h6⟩
    · rcases he with he | ⟨-, he1, he2⟩
      · omega
      · obtain ⟨j, hj⟩ := (h1 v hr.1 hr.2).2.1 he1 he2
        refine ⟨t.toNat + j, by omega, ?_⟩
        rw [rx_it_add, ← hv2]; exact hj
  obtain ⟨k, hk1, hk2⟩ := hend
  have hon : ∀ j : Nat, (j : Int) < t → ∃ i : Nat, S2 (rx_it f i (rx_it f j st)) = -1 := fun j hj => ⟨k - j, by rw [← rx_it_add, show j + (k - j) = k by omega]; exact hk2⟩
  intro x x0 x1
  obtain ⟨a, b, c, d⟩ := h1 x x0 x1
  refine ⟨by omega, fun hne => ?_, fun hx => ?_⟩
  · by_cases e : g x = st
    · obtain ⟨j, j1, j2⟩ := d e
      rw [j2]; exact hon j j1
    · exact b hne e
  · by_cases e : x = st
    · rcases Int.lt_or_eq_of_le ht with c1 | c1
      · have := (h2 0 (by omega)).2
        have c8 : rx_it f 0 st = st := rfl
        rw [c8] at this
        rw [e]; omega
      · rcases h4 with ⟨-, h5, -⟩ | ⟨hr, hv2, h5⟩
        · omega
        · rcases he with he | ⟨-, he1, he2⟩
          · omega
          · rw [← c1] at hv2
            have c9 : v = st := hv2
            rw [e, ← c9]; exact he1
    · exact c (by omega)
/-- a loop -/
theorem LR_loop (h : LR n f S2 st t v g) (ht : 0 ≤ t) (hv : v ≠ -1) (hg : g v = st) : (0 ≤ v ∧ v < n) ∧ ∃ i : Nat, 1 ≤ i ∧ (∀ j : Nat, j < i → S2 (rx_it f j v) ≠ -1) ∧ rx_it f i v = v := by
  obtain ⟨h1, h2, h3, h4⟩ := h
  rcases h4 with h4 | ⟨hr, hv2, h5⟩
  · exact absurd h4.1 hv
  · obtain ⟨j, j1, j2⟩ := (h1 v hr.1 hr.2).2.2.2 hg
    refine ⟨hr, t.toNat - j, by omega, fun i hi => ?_, ?_⟩
    · rw [j2, ← rx_it_add]; exact h5 (j + i) (by omega)
    · have e : rx_it f (j + (t.toNat - j)) st = v := by rw [show j + (t.toNat - j) = t.toNat by omega]; exact hv2.symm
      rw [rx_it_add, ← j2] at e
      exact e
/-- all lead to an end: no loop -/
theorem LO_none (h : LO n f S2 n g) : ∀ y, 0 ≤ y → y < n → ∀ i : Nat, 1 ≤ i → (∀ j : Nat, j < i → S2 (rx_it f j y) ≠ -1) → rx_it f i y ≠ y := by
  intro y y0 y1 i hi hp hc
  obtain ⟨-, b, c⟩ := h y y0 y1
  obtain ⟨k, hk⟩ := b (c y1)
  have key : ∀ m : Nat, S2 (rx_it f m y) ≠ -1 := by
    intro m
    induction m using Nat.strongRecOn with
    | ind m ih =>
      by_cases hm : m < i
      · exact hp m hm
      · have := ih (m - i) (by omega)
        have e : rx_it f m y = rx_it f (m - i) y := by
          rw [show m = i + (m - i) by omega, rx_it_add, hc, show i + (m - i) - i = m - i by omega]
        rw [e]; exact this
  exact key k hk
end LRS
theorem nl_x {n : Int} {f S2 g : Int → Int} {st t v : Int} (h : LR n f S2 st t v g) (ht : 0 ≤ t ∧ t ≤ n + 1) (he : n < t ∨ ¬ g v = -1) (hv : ¬ v = -1) (hn : 0 ≤ n) : g v ≠ -1 := by
  rcases he with he | he
  · intro c
    have := LR_lt h ht.1 hv (fun _ _ _ => c) (by omega)
    omega
  · exact he
abbrev zr_P_nodeOnLoopOfRaises : Room := ({ frames := 1, cells := 0, slots := 0, locals := 22 } : Room)
set_option maxHeartbeats 4000000 in
set_option maxRecDepth 100000 in
theorem c_P_nodeOnLoopOfRaises (l : Launch) (D : va_G) (q : Nat → Nat) (c : Nat → ClassId) (sz : Nat) (F : Nat → Int) (A : Nat → Int → Int)  (hN : 0 ≤ F 303 ∧ F 303 ≤ 40) (hE : 0 ≤ F 304 ∧ F 304 ≤ 600) (hed : ∀ e, 0 ≤ e → e < F 304 → (0 ≤ A 20 e ∧ A 20 e < F 303) ∧ (0 ≤ A 21 e ∧ A 21 e < F 303) ∧ 0 ≤ A 22 e ∧ A 22 e ≤ 100) (hnt : ∀ v, 0 ≤ v → v < F 303 → 1 ≤ A 19 v ∧ A 19 v ≤ 9) (hpq : (0 ≤ F 301 ∧ F 301 ≤ 360) ∧ 1 ≤ F 302 ∧ F 302 ≤ 7) (hvia : ∀ v, 0 ≤ v → v < F 303 → -1 ≤ A 24 v ∧ A 24 v < F 304) : zMI l zy_P_nodeOnLoopOfRaises zc_P_nodeOnLoopOfRaises 4 (some .int) zr_P_nodeOnLoopOfRaises D q c sz [.ref (q 3)] F A (fun z F1 A1 => F1 = F ∧ (∀ k, k ≠ 25 → A1 k = A k) ∧ (-1 ≤ z ∧ z < 40) ∧ (z = -1 → ∀ y, 0 ≤ y → y < F 303 → ∀ i : Nat, 1 ≤ i → (∀ j : Nat, j < i → A 24 (rx_it (px_f (A 20) (A 23, A 24)) j y) ≠ -1) → rx_it (px_f (A 20) (A 23, A 24)) i y ≠ y) ∧ (z ≠ -1 → (0 ≤ z ∧ z < F 303) ∧ ∃ i : Nat, 1 ≤ i ∧ (∀ j : Nat, j < i → A 24 (rx_it (px_f (A 20) (A 23, A 24)) j z) ≠ -1) ∧ rx_it (px_f (A 20) (A 23, A 24)) i z = z)) := by
  refine z_ofI (by decide) (Nat.le_of_ble_eq_true rfl) ?_
  intro p e s m args below meth c0 A0 Q C0 ret hP hD hS ls hl
  obtain ⟨S, hK, hA⟩ := C0
  have hx := S.1
  have hb := S.2.1
  have hown := S.2.2.2.1
  have hts : ∀ w ∈ zG, w.before args s = true := fun w h => S.2.2.2.2 w (List.mem_cons_of_mem _ h)
  have hl : lv_has ls 4 [(0, .ref (q 3))] := hl
  have hf_ : ∀ x, 0 ≤ x → x < F 303 → A 24 x ≠ -1 → 0 ≤ (px_f (A 20) (A 23, A 24)) x ∧ (px_f (A 20) (A 23, A 24)) x < F 303 := fun x h0 h1 h2 => by have h3 := hvia x h0 h1; have h4 := hed (A 24 x) (by omega) (by omega); exact h4.1
  refine lv_iconst (v := iI (0)) hx hb zd_P_nodeOnLoopOfRaises_0 rfl ?_
  refine lv_istore_n (lv' := [(1, .int (iI (0))), (0, .ref (q 3))]) hx hb zd_P_nodeOnLoopOfRaises_1 rfl hl (by decide) rfl (fun ls hl => ?_)
  have L_2 : ∀ (fu : Nat) (i : Int)  (A2 : Nat → Int → Int), (0 ≤ i ∧ i ≤ F 303) → (∀ k, k ≠ 25 → A2 k = A k) → (∀ x, 0 ≤ x → x < i → A2 25 x = -1) → (F 303 - i < (fu : Int)) → ∀ (H : Heap) (locs : List Loc), va_P D zcl (gw q c F A2) H → va_D A0 (gw q c F A2) → va_S A0 s.heap H locs → ∀ ls : Array Slot, lv_has ls 4 [(0, .ref (q 3)), (1, .int (iI (i)))] → W p l e zr_P_nodeOnLoopOfRaises s m args below meth c0 H locs 0 0 Q (F0 m 2 ls []) := by
    intro fu
    induction fu with
    | zero => intro i  A2 hi hk hs hm_2; exact absurd hm_2 (by omega)
    | succ fu ih_2 =>
      intro i  A2 hi hk hs hm_2 H locs hP hD hS ls hl
      refine lv_iload_n hx hb zd_P_nodeOnLoopOfRaises_2 rfl (lv_at hl 1 rfl) ?_
      refine lv_aload_n hx hb zd_P_nodeOnLoopOfRaises_3 rfl (lv_at hl 0 rfl) ?_
      refine va_get (D := D) (ci := 3) (v := .int (iI (F 303))) (C := zR_P) (T := zT_P) (N := 13) hx hb hts zi_P hown hK.1 hP 3 ga_3 rfl 3 (by decide) (hts _ zw_136) (fun _ h9 => h9) rfl zd_P_nodeOnLoopOfRaises_4 ?_
      refine x_icmp_ge (tgt := 23) hx hb zd_P_nodeOnLoopOfRaises_7 (by decide) (⟨by omega, by omega⟩) (⟨by omega, by omega⟩) (fun h_7 => ?_) (fun h_7 => ?_)
      · refine lv_iconst (v := iI (0)) hx hb zd_P_nodeOnLoopOfRaises_23 rfl ?_
        refine lv_istore_n (lv' := [(1, .int (iI (0))), (0, .ref (q 3))]) hx hb zd_P_nodeOnLoopOfRaises_24 rfl hl (by decide) rfl (fun ls hl => ?_)
        have L_25 : ∀ (fu : Nat) (st : Int)  (A25 : Nat → Int → Int), (0 ≤ st ∧ st ≤ F 303) → (∀ k, k ≠ 25 → A25 k = A k) → (LO (F 303) (px_f (A 20) (A 23, A 24)) (A 24) st (A25 25)) → (F 303 - st < (fu : Int)) → ∀ (H : Heap) (locs : List Loc), va_P D zcl (gw q c F A25) H → va_D A0 (gw q c F A25) → va_S A0 s.heap H locs → ∀ ls : Array Slot, lv_has ls 4 [(0, .ref (q 3)), (1, .int (iI (st)))] → W p l e zr_P_nodeOnLoopOfRaises s m args below meth c0 H locs 0 0 Q (F0 m 25 ls []) := by
          intro fu
          induction fu with
          | zero => intro st  A25 hst hk5 hLO hm_25; exact absurd hm_25 (by omega)
          | succ fu ih_25 =>
            intro st  A25 hst hk5 hLO hm_25 H locs hP hD hS ls hl
            refine lv_iload_n hx hb zd_P_nodeOnLoopOfRaises_25 rfl (lv_at hl 1 rfl) ?_
            refine lv_aload_n hx hb zd_P_nodeOnLoopOfRaises_26 rfl (lv_at hl 0 rfl) ?_
            refine va_get (D := D) (ci := 3) (v := .int (iI (F 303))) (C := zR_P) (T := zT_P) (N := 13) hx hb hts zi_P hown hK.1 hP 3 ga_3 rfl 3 (by decide) (hts _ zw_136) (fun _ h9 => h9) rfl zd_P_nodeOnLoopOfRaises_27 ?_
            refine x_icmp_ge (tgt := 102) hx hb zd_P_nodeOnLoopOfRaises_30 (by decide) (⟨by omega, by omega⟩) (⟨by omega, by omega⟩) (fun h_30 => ?_) (fun h_30 => ?_)
            · refine lv_iconst (v := iI (-1)) hx hb zd_P_nodeOnLoopOfRaises_102 rfl ?_
              exact ret _ _ _ _ _ _ _ zd_P_nodeOnLoopOfRaises_103 hP hD hS (⟨rfl, hk5, by omega, fun _ => LO_none (by have e_ : st = F 303 := (by omega); rw [e_] at hLO; exact hLO), fun h => absurd rfl h⟩)
            · refine lv_iload_n hx hb zd_P_nodeOnLoopOfRaises_33 rfl (lv_at hl 1 rfl) ?_
              refine lv_istore_n (lv' := [(2, .int (iI (st))), (0, .ref (q 3)), (1, .int (iI (st)))]) hx hb zd_P_nodeOnLoopOfRaises_34 rfl hl (by decide) rfl (fun ls hl => ?_)
              refine lv_iconst (v := iI (0)) hx hb zd_P_nodeOnLoopOfRaises_35 rfl ?_
              refine lv_istore_n (lv' := [(3, .int (iI (0))), (2, .int (iI (st))), (0, .ref (q 3)), (1, .int (iI (st)))]) hx hb zd_P_nodeOnLoopOfRaises_36 rfl hl (by decide) rfl (fun ls hl => ?_)
              have L_37 : ∀ (fu : Nat) (v : Int) (t : Int)  (A37 : Nat → Int → Int), (0 ≤ t ∧ t ≤ F 303 + 1) → (∀ k, k ≠ 25 → A37 k = A k) → (-1 ≤ v ∧ v < F 303) → (LR (F 303) (px_f (A 20) (A 23, A 24)) (A 24) st t v (A37 25)) → (F 303 + 1 - t < (fu : Int)) → ∀ (H : Heap) (locs : List Loc), va_P D zcl (gw q c F A37) H → va_D A0 (gw q c F A37) → va_S A0 s.heap H locs → ∀ ls : Array Slot, lv_has ls 4 [(0, .ref (q 3)), (1, .int (iI (st))), (2, .int (iI (v))), (3, .int (iI (t)))] → W p l e zr_P_nodeOnLoopOfRaises s m args below meth c0 H locs 0 0 Q (F0 m 37 ls []) := by
                intro fu
                induction fu with
                | zero => intro v t  A37 ht hk7 hvb hLR hm_37; exact absurd hm_37 (by omega)
                | succ fu ih_37 =>
                  intro v t  A37 ht hk7 hvb hLR hm_37 H locs hP hD hS ls hl
                  have e20 := hk7 20 (by decide)
                  have e24 := hk7 24 (by decide)
                  have e19 := hk7 19 (by decide)
                  have e21 := hk7 21 (by decide)
                  have e22 := hk7 22 (by decide)
                  refine lv_iload_n hx hb zd_P_nodeOnLoopOfRaises_37 rfl (lv_at hl 3 rfl) ?_
                  refine lv_aload_n hx hb zd_P_nodeOnLoopOfRaises_38 rfl (lv_at hl 0 rfl) ?_
                  refine va_get (D := D) (ci := 3) (v := .int (iI (F 303))) (C := zR_P) (T := zT_P) (N := 13) hx hb hts zi_P hown hK.1 hP 3 ga_3 rfl 3 (by decide) (hts _ zw_136) (fun _ h9 => h9) rfl zd_P_nodeOnLoopOfRaises_39 ?_
                  refine x_icmp_gt (tgt := 79) hx hb zd_P_nodeOnLoopOfRaises_42 (by decide) (⟨by omega, by omega⟩) (⟨by omega, by omega⟩) (fun h_42 => ?_) (fun h_42 => ?_)
                  · refine lv_iload_n hx hb zd_P_nodeOnLoopOfRaises_79 rfl (lv_at hl 2 rfl) ?_
                    refine lv_iconst (v := iI (-1)) hx hb zd_P_nodeOnLoopOfRaises_80 rfl ?_
                    refine x_icmp_eq (tgt := 96) hx hb zd_P_nodeOnLoopOfRaises_81 (by decide) (⟨by omega, by omega⟩) (⟨by omega, by omega⟩) (fun h_81 => ?_) (fun h_81 => ?_)
                    · refine lv_iinc (v := iI (st + 1)) (lv' := [(1, .int (iI (st + 1))), (0, .ref (q 3)), (2, .int (iI (v))), (3, .int (iI (t)))]) hx hb zd_P_nodeOnLoopOfRaises_96 hl (k := 1) rfl (iI_add _ _) (by decide) rfl (fun ls hl => ?_)
                      refine lv_goto (tgt := 25) hx hb zd_P_nodeOnLoopOfRaises_99 (by decide) ?_
                      exact ih_25 (st + 1)  A37 (by first | assumption | omega | (simp_all; done)) (hk7) (by first | exact LR_next hLR ht.1 hst.1 (by omega) (Or.inl h_81) | exact absurd h_47 h_81 | exact LR_next hLR ht.1 hst.1 (by omega) (Or.inr ⟨h_81, nl_x hLR ht (by first | exact Or.inl h_42 | exact Or.inr h_57) h_81 (by omega), h_91⟩)) (by omega) _ _ hP hD hS ls (lv_sub hl [1, 0] rfl)
                    · have hg2_ := (hLR.1 v (by omega) (by omega)).1
                      refine lv_aload_n hx hb zd_P_nodeOnLoopOfRaises_84 rfl (lv_at hl 0 rfl) ?_
                      refine va_get (D := D) (ci := 3) (v := .ref (q 25)) (C := zR_P) (T := zT_P) (N := 13) hx hb hts zi_P hown hK.1 hP 3 ga_3 rfl 12 (by decide) (hts _ zw_145) (fun _ h9 => h9) rfl zd_P_nodeOnLoopOfRaises_85 ?_
                      refine lv_iload_n hx hb zd_P_nodeOnLoopOfRaises_88 rfl (lv_at hl 2 rfl) ?_
                      refine x_iald (v := A37 25 v) hx hb hK.1 hP 25 0 ga_25 rfl (by decide) (by omega) (by omega) (rfl) zd_P_nodeOnLoopOfRaises_89 ?_
                      refine lv_iload_n hx hb zd_P_nodeOnLoopOfRaises_90 rfl (lv_at hl 1 rfl) ?_
                      refine x_icmp_ne (tgt := 96) hx hb zd_P_nodeOnLoopOfRaises_91 (by decide) (⟨by omega, by omega⟩) (⟨by omega, by omega⟩) (fun h_91 => ?_) (fun h_91 => ?_)
                      · refine lv_iinc (v := iI (st + 1)) (lv' := [(1, .int (iI (st + 1))), (0, .ref (q 3)), (2, .int (iI (v))), (3, .int (iI (t)))]) hx hb zd_P_nodeOnLoopOfRaises_96 hl (k := 1) rfl (iI_add _ _) (by decide) rfl (fun ls hl => ?_)
                        refine lv_goto (tgt := 25) hx hb zd_P_nodeOnLoopOfRaises_99 (by decide) ?_
                        exact ih_25 (st + 1)  A37 (by first | assumption | omega | (simp_all; done)) (hk7) (by first | exact LR_next hLR ht.1 hst.1 (by omega) (Or.inl h_81) | exact absurd h_47 h_81 | exact LR_next hLR ht.1 hst.1 (by omega) (Or.inr ⟨h_81, nl_x hLR ht (by first | exact Or.inl h_42 | exact Or.inr h_57) h_81 (by omega), h_91⟩)) (by omega) _ _ hP hD hS ls (lv_sub hl [1, 0] rfl)
                      · refine lv_iload_n hx hb zd_P_nodeOnLoopOfRaises_94 rfl (lv_at hl 2 rfl) ?_
                        exact ret _ _ _ _ _ _ _ zd_P_nodeOnLoopOfRaises_95 hP hD hS (⟨rfl, hk7, by omega, fun h => absurd h h_81, fun _ => LR_loop hLR ht.1 h_81 h_91⟩)
                  · refine lv_iload_n hx hb zd_P_nodeOnLoopOfRaises_45 rfl (lv_at hl 2 rfl) ?_
                    refine lv_iconst (v := iI (-1)) hx hb zd_P_nodeOnLoopOfRaises_46 rfl ?_
                    refine x_icmp_eq (tgt := 79) hx hb zd_P_nodeOnLoopOfRaises_47 (by decide) (⟨by omega, by omega⟩) (⟨by omega, by omega⟩) (fun h_47 => ?_) (fun h_47 => ?_)
                    · refine lv_iload_n hx hb zd_P_nodeOnLoopOfRaises_79 rfl (lv_at hl 2 rfl) ?_
                      refine lv_iconst (v := iI (-1)) hx hb zd_P_nodeOnLoopOfRaises_80 rfl ?_
                      refine x_icmp_eq (tgt := 96) hx hb zd_P_nodeOnLoopOfRaises_81 (by decide) (⟨by omega, by omega⟩) (⟨by omega, by omega⟩) (fun h_81 => ?_) (fun h_81 => ?_)
                      · refine lv_iinc (v := iI (st + 1)) (lv' := [(1, .int (iI (st + 1))), (0, .ref (q 3)), (2, .int (iI (v))), (3, .int (iI (t)))]) hx hb zd_P_nodeOnLoopOfRaises_96 hl (k := 1) rfl (iI_add _ _) (by decide) rfl (fun ls hl => ?_)
                        refine lv_goto (tgt := 25) hx hb zd_P_nodeOnLoopOfRaises_99 (by decide) ?_
                        exact ih_25 (st + 1)  A37 (by first | assumption | omega | (simp_all; done)) (hk7) (by first | exact LR_next hLR ht.1 hst.1 (by omega) (Or.inl h_81) | exact absurd h_47 h_81 | exact LR_next hLR ht.1 hst.1 (by omega) (Or.inr ⟨h_81, nl_x hLR ht (by first | exact Or.inl h_42 | exact Or.inr h_57) h_81 (by omega), h_91⟩)) (by omega) _ _ hP hD hS ls (lv_sub hl [1, 0] rfl)
                      · have hg2_ := (hLR.1 v (by omega) (by omega)).1
                        refine lv_aload_n hx hb zd_P_nodeOnLoopOfRaises_84 rfl (lv_at hl 0 rfl) ?_
                        refine va_get (D := D) (ci := 3) (v := .ref (q 25)) (C := zR_P) (T := zT_P) (N := 13) hx hb hts zi_P hown hK.1 hP 3 ga_3 rfl 12 (by decide) (hts _ zw_145) (fun _ h9 => h9) rfl zd_P_nodeOnLoopOfRaises_85 ?_
                        refine lv_iload_n hx hb zd_P_nodeOnLoopOfRaises_88 rfl (lv_at hl 2 rfl) ?_
                        refine x_iald (v := A37 25 v) hx hb hK.1 hP 25 0 ga_25 rfl (by decide) (by omega) (by omega) (rfl) zd_P_nodeOnLoopOfRaises_89 ?_
                        refine lv_iload_n hx hb zd_P_nodeOnLoopOfRaises_90 rfl (lv_at hl 1 rfl) ?_
                        refine x_icmp_ne (tgt := 96) hx hb zd_P_nodeOnLoopOfRaises_91 (by decide) (⟨by omega, by omega⟩) (⟨by omega, by omega⟩) (fun h_91 => ?_) (fun h_91 => ?_)
                        · refine lv_iinc (v := iI (st + 1)) (lv' := [(1, .int (iI (st + 1))), (0, .ref (q 3)), (2, .int (iI (v))), (3, .int (iI (t)))]) hx hb zd_P_nodeOnLoopOfRaises_96 hl (k := 1) rfl (iI_add _ _) (by decide) rfl (fun ls hl => ?_)
                          refine lv_goto (tgt := 25) hx hb zd_P_nodeOnLoopOfRaises_99 (by decide) ?_
                          exact ih_25 (st + 1)  A37 (by first | assumption | omega | (simp_all; done)) (hk7) (by first | exact LR_next hLR ht.1 hst.1 (by omega) (Or.inl h_81) | exact absurd h_47 h_81 | exact LR_next hLR ht.1 hst.1 (by omega) (Or.inr ⟨h_81, nl_x hLR ht (by first | exact Or.inl h_42 | exact Or.inr h_57) h_81 (by omega), h_91⟩)) (by omega) _ _ hP hD hS ls (lv_sub hl [1, 0] rfl)
                        · refine lv_iload_n hx hb zd_P_nodeOnLoopOfRaises_94 rfl (lv_at hl 2 rfl) ?_
                          exact ret _ _ _ _ _ _ _ zd_P_nodeOnLoopOfRaises_95 hP hD hS (⟨rfl, hk7, by omega, fun h => absurd h h_81, fun _ => LR_loop hLR ht.1 h_81 h_91⟩)
                    · have hg_ := (hLR.1 v (by omega) (by omega)).1
                      refine lv_aload_n hx hb zd_P_nodeOnLoopOfRaises_50 rfl (lv_at hl 0 rfl) ?_
                      refine va_get (D := D) (ci := 3) (v := .ref (q 25)) (C := zR_P) (T := zT_P) (N := 13) hx hb hts zi_P hown hK.1 hP 3 ga_3 rfl 12 (by decide) (hts _ zw_145) (fun _ h9 => h9) rfl zd_P_nodeOnLoopOfRaises_51 ?_
                      refine lv_iload_n hx hb zd_P_nodeOnLoopOfRaises_54 rfl (lv_at hl 2 rfl) ?_
                      refine x_iald (v := A37 25 v) hx hb hK.1 hP 25 0 ga_25 rfl (by decide) (by omega) (by omega) (rfl) zd_P_nodeOnLoopOfRaises_55 ?_
                      refine lv_iconst (v := iI (-1)) hx hb zd_P_nodeOnLoopOfRaises_56 rfl ?_
                      refine x_icmp_ne (tgt := 79) hx hb zd_P_nodeOnLoopOfRaises_57 (by decide) (⟨by omega, by omega⟩) (⟨by omega, by omega⟩) (fun h_57 => ?_) (fun h_57 => ?_)
                      · refine lv_iload_n hx hb zd_P_nodeOnLoopOfRaises_79 rfl (lv_at hl 2 rfl) ?_
                        refine lv_iconst (v := iI (-1)) hx hb zd_P_nodeOnLoopOfRaises_80 rfl ?_
                        refine x_icmp_eq (tgt := 96) hx hb zd_P_nodeOnLoopOfRaises_81 (by decide) (⟨by omega, by omega⟩) (⟨by omega, by omega⟩) (fun h_81 => ?_) (fun h_81 => ?_)
                        · refine lv_iinc (v := iI (st + 1)) (lv' := [(1, .int (iI (st + 1))), (0, .ref (q 3)), (2, .int (iI (v))), (3, .int (iI (t)))]) hx hb zd_P_nodeOnLoopOfRaises_96 hl (k := 1) rfl (iI_add _ _) (by decide) rfl (fun ls hl => ?_)
                          refine lv_goto (tgt := 25) hx hb zd_P_nodeOnLoopOfRaises_99 (by decide) ?_
                          exact ih_25 (st + 1)  A37 (by first | assumption | omega | (simp_all; done)) (hk7) (by first | exact LR_next hLR ht.1 hst.1 (by omega) (Or.inl h_81) | exact absurd h_47 h_81 | exact LR_next hLR ht.1 hst.1 (by omega) (Or.inr ⟨h_81, nl_x hLR ht (by first | exact Or.inl h_42 | exact Or.inr h_57) h_81 (by omega), h_91⟩)) (by omega) _ _ hP hD hS ls (lv_sub hl [1, 0] rfl)
                        · have hg2_ := (hLR.1 v (by omega) (by omega)).1
                          refine lv_aload_n hx hb zd_P_nodeOnLoopOfRaises_84 rfl (lv_at hl 0 rfl) ?_
                          refine va_get (D := D) (ci := 3) (v := .ref (q 25)) (C := zR_P) (T := zT_P) (N := 13) hx hb hts zi_P hown hK.1 hP 3 ga_3 rfl 12 (by decide) (hts _ zw_145) (fun _ h9 => h9) rfl zd_P_nodeOnLoopOfRaises_85 ?_
                          refine lv_iload_n hx hb zd_P_nodeOnLoopOfRaises_88 rfl (lv_at hl 2 rfl) ?_
                          refine x_iald (v := A37 25 v) hx hb hK.1 hP 25 0 ga_25 rfl (by decide) (by omega) (by omega) (rfl) zd_P_nodeOnLoopOfRaises_89 ?_
                          refine lv_iload_n hx hb zd_P_nodeOnLoopOfRaises_90 rfl (lv_at hl 1 rfl) ?_
                          refine x_icmp_ne (tgt := 96) hx hb zd_P_nodeOnLoopOfRaises_91 (by decide) (⟨by omega, by omega⟩) (⟨by omega, by omega⟩) (fun h_91 => ?_) (fun h_91 => ?_)
                          · refine lv_iinc (v := iI (st + 1)) (lv' := [(1, .int (iI (st + 1))), (0, .ref (q 3)), (2, .int (iI (v))), (3, .int (iI (t)))]) hx hb zd_P_nodeOnLoopOfRaises_96 hl (k := 1) rfl (iI_add _ _) (by decide) rfl (fun ls hl => ?_)
                            refine lv_goto (tgt := 25) hx hb zd_P_nodeOnLoopOfRaises_99 (by decide) ?_
                            exact ih_25 (st + 1)  A37 (by first | assumption | omega | (simp_all; done)) (hk7) (by first | exact LR_next hLR ht.1 hst.1 (by omega) (Or.inl h_81) | exact absurd h_47 h_81 | exact LR_next hLR ht.1 hst.1 (by omega) (Or.inr ⟨h_81, nl_x hLR ht (by first | exact Or.inl h_42 | exact Or.inr h_57) h_81 (by omega), h_91⟩)) (by omega) _ _ hP hD hS ls (lv_sub hl [1, 0] rfl)
                          · refine lv_iload_n hx hb zd_P_nodeOnLoopOfRaises_94 rfl (lv_at hl 2 rfl) ?_
                            exact ret _ _ _ _ _ _ _ zd_P_nodeOnLoopOfRaises_95 hP hD hS (⟨rfl, hk7, by omega, fun h => absurd h h_81, fun _ => LR_loop hLR ht.1 h_81 h_91⟩)
                      · have hlt_ := LR_lt hLR ht.1 h_47 (fun _ _ _ => h_57) (by omega)
                        refine lv_aload_n hx hb zd_P_nodeOnLoopOfRaises_60 rfl (lv_at hl 0 rfl) ?_
                        refine va_get (D := D) (ci := 3) (v := .ref (q 25)) (C := zR_P) (T := zT_P) (N := 13) hx hb hts zi_P hown hK.1 hP 3 ga_3 rfl 12 (by decide) (hts _ zw_145) (fun _ h9 => h9) rfl zd_P_nodeOnLoopOfRaises_61 ?_
                        refine lv_iload_n hx hb zd_P_nodeOnLoopOfRaises_64 rfl (lv_at hl 2 rfl) ?_
                        refine lv_iload_n hx hb zd_P_nodeOnLoopOfRaises_65 rfl (lv_at hl 1 rfl) ?_
                        refine x_iast hx hb hK.1 hP hD hS 25 0 ga_25 rfl (by decide) (by omega) (by omega) zd_P_nodeOnLoopOfRaises_66 (fun H locs hP hD hS => ?_)
                        rw [gs_25] at hP hD
                        refine lv_aload_n hx hb zd_P_nodeOnLoopOfRaises_67 rfl (lv_at hl 0 rfl) ?_
                        refine lv_iload_n hx hb zd_P_nodeOnLoopOfRaises_68 rfl (lv_at hl 2 rfl) ?_
                        refine z_goi (z_runV (n := 1) (k := 3) (ci := 3) (As := [.int (iI (v))]) (rest := []) S (c_P_nodeAhead l D q c _ F (auP A37 25 v st) v (by first | assumption | omega | (simp [auP, e19, e20, e21, e22, e24]; assumption)) (by first | assumption | omega | (simp [auP, e19, e20, e21, e22, e24]; assumption)) (by first | assumption | omega | (simp [auP, e19, e20, e21, e22, e24]; assumption)) (by first | assumption | omega | (simp [auP, e19, e20, e21, e22, e24]; assumption)) (by first | assumption | omega | (simp [auP, e19, e20, e21, e22, e24]; assumption)) (by first | assumption | omega | (simp [auP, e19, e20, e21, e22, e24]; assumption)) (by first | assumption | omega | (simp [auP, e19, e20, e21, e22, e24]; assumption))) zw_517 zw_519 zs_35 zw_4 zw_520 ⟨by decide +kernel, by decide, rfl, rfl⟩ hK hP hD ga_3 rfl rfl rfl hl.1 rfl (Nat.le_of_ble_eq_true rfl) zd_P_nodeOnLoopOfRaises_69 ⟨Nat.zero_le _, Nat.zero_le _⟩) hD hS hA (fun z_69 F_69 A_69 H locs hq_69 hP hD hS => ?_)
                        obtain ⟨hf_69, ha_69, hq_69⟩ := hq_69
                        rw [hf_69, ha_69] at hP hD
                        have hw_ : z_69 = if A 24 v = -1 then -1 else (px_f (A 20) (A 23, A 24)) v := by (rw [hq_69]; show (if A37 24 v = -1 then -1 else A37 20 (A37 24 v)) = _; rw [e20, e24]; rfl)
                        have hst_ := LR_step hLR ht.1 hst.1 h_47 h_57 hf_ hw_
                        have hzb_ : -1 ≤ z_69 ∧ z_69 < F 303 := by (rw [hw_]; by_cases e_ : A 24 v = -1; (rw [if_pos e_]; omega); (rw [if_neg e_]; have := hf_ v (by omega) (by omega) e_; omega))
                        refine lv_istore_n (lv' := [(2, .int (iI (z_69))), (0, .ref (q 3)), (1, .int (iI (st))), (3, .int (iI (t)))]) hx hb zd_P_nodeOnLoopOfRaises_72 rfl hl (by decide) rfl (fun ls hl => ?_)
                        refine lv_iinc (v := iI (t + 1)) (lv' := [(3, .int (iI (t + 1))), (2, .int (iI (z_69))), (0, .ref (q 3)), (1, .int (iI (st)))]) hx hb zd_P_nodeOnLoopOfRaises_73 hl (k := 3) rfl (iI_add _ _) (by decide) rfl (fun ls hl => ?_)
                        refine lv_goto (tgt := 37) hx hb zd_P_nodeOnLoopOfRaises_76 (by decide) ?_
                        exact ih_37 (z_69) (t + 1)  (auP A37 25 v st) (by first | assumption | omega | (simp_all; done)) (fun k h => by simp [auP, h, hk7 k h]) (by first | assumption | omega | (simp_all; done)) (hst_) (by omega) _ _ hP hD hS ls (lv_sub hl [2, 3, 1, 0] rfl)
              exact L_37 (((F 303 + 1 - (0) : Int) + 1).toNat) (st) (0)  A25 (by first | assumption | omega | (simp_all; done)) (hk5) (by first | assumption | omega | (simp_all; done)) (LR_init hLO hst.1 (by omega)) (by omega) _ _ hP hD hS ls (lv_sub hl [2, 3, 1, 0] rfl)
        exact L_25 (((F 303 - (0) : Int) + 1).toNat) (0)  A2 (by first | assumption | omega | (simp_all; done)) (hk) (fun x h0 h1 => by rw [hs x h0 (by omega)]; exact ⟨by omega, fun h => absurd rfl h, fun h => by omega⟩) (by omega) _ _ hP hD hS ls (lv_sub hl [1, 0] rfl)
      · refine lv_aload_n hx hb zd_P_nodeOnLoopOfRaises_10 rfl (lv_at hl 0 rfl) ?_
        refine va_get (D := D) (ci := 3) (v := .ref (q 25)) (C := zR_P) (T := zT_P) (N := 13) hx hb hts zi_P hown hK.1 hP 3 ga_3 rfl 12 (by decide) (hts _ zw_145) (fun _ h9 => h9) rfl zd_P_nodeOnLoopOfRaises_11 ?_
        refine lv_iload_n hx hb zd_P_nodeOnLoopOfRaises_14 rfl (lv_at hl 1 rfl) ?_
        refine lv_iconst (v := iI (-1)) hx hb zd_P_nodeOnLoopOfRaises_15 rfl ?_
        refine x_iast hx hb hK.1 hP hD hS 25 0 ga_25 rfl (by decide) (by omega) (by omega) zd_P_nodeOnLoopOfRaises_16 (fun H locs hP hD hS => ?_)
        rw [gs_25] at hP hD
        refine lv_iinc (v := iI (i + 1)) (lv' := [(1, .int (iI (i + 1))), (0, .ref (q 3))]) hx hb zd_P_nodeOnLoopOfRaises_17 hl (k := 1) rfl (iI_add _ _) (by decide) rfl (fun ls hl => ?_)
        refine lv_goto (tgt := 2) hx hb zd_P_nodeOnLoopOfRaises_20 (by decide) ?_
        exact ih_2 (i + 1)  (auP A2 25 i (-1)) (by first | assumption | omega | (simp_all; done)) (fun k h => by simp [auP, h, hk k h]) (fun x h0 h1 => by by_cases e_ : x = i; (subst e_; simp [auP, upI]); (have := hs x h0 (by omega); simp [auP, upI, e_, this])) (by omega) _ _ hP hD hS ls (lv_sub hl [1, 0] rfl)
  exact L_2 (((F 303 - (0) : Int) + 1).toNat) (0)  A (by first | assumption | omega | (simp_all; done)) (fun k _ => rfl) (fun x h0 h1 => by omega) (by omega) _ _ hP hD hS ls (lv_sub hl [1, 0] rfl)
