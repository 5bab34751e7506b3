theorem pf_init {F F12 F18 F24 : Nat → Int} {A A12 A18 : Nat → Int → Int} {root : Int} (hn : 1 ≤ F 100 ∧ F 100 ≤ 8) (hact : ∀ a, 0 ≤ a → a < 8 → (1 ≤ A 7 a ∧ A 7 a ≤ 4782969) ∧ 0 ≤ A 8 a ∧ A 8 a < 8) (hch : ∀ k, 0 ≤ k → k < F 101 → (0 ≤ A 9 k ∧ A 9 k < F 100) ∧ (0 ≤ A 10 k ∧ A 10 k < F 100) ∧ (1 ≤ A 11 k ∧ A 11 k ≤ 9) ∧ (1 ≤ A 12 k ∧ A 12 k ≤ 9) ∧ 0 ≤ A 13 k ∧ A 13 k ≤ 99) (htm : ∀ a, 0 ≤ a → a < 8 → 1 ≤ A 6 a ∧ A 6 a ≤ 9) (hsame : ∀ k, 0 ≤ k → k < F 101 → A 8 (A 9 k) = A 8 (A 10 k)) (hrr : ∃ b, 0 ≤ b ∧ b < F 100 ∧ A 8 b = root) (hsum : sI (gS A root) (F 100) ≤ 40)
    (a1 : ∀ j, j ≠ 303 → j ≠ 304 → F12 j = F j) (a2 : F12 303 = sI (gS A root) (F 100)) (a4 : ∀ k, k ≠ 18 → k ≠ 19 → k ≠ 20 → k ≠ 21 → k ≠ 22 → A12 k = A k) (a5 : ∀ b, 0 ≤ b → b < F 100 → A 8 b = root → A12 18 b = sI (gS A root) b) (a6 : ∀ b, 0 ≤ b → b < F 100 → A 8 b = root → ∀ x, 0 ≤ x → x < A 7 b → A12 19 (sI (gS A root) b + x) = A 6 b) (a7 : ∀ u v w, EIn (F12 304) (A12 20) (A12 21) (A12 22) u v w ↔ fE A root (F 100) u v w)
    (w1 : ∀ j, j ≠ 304 → F18 j = F12 j) (w2 : ∀ k, k ≠ 20 → k ≠ 21 → k ≠ 22 → A18 k = A12 k) (w4 : ∀ u v w, EIn (F18 304) (A18 20) (A18 21) (A18 22) u v w ↔ EIn (F12 304) (A12 20) (A12 21) (A12 22) u v w ∨ wA A12 root (F12 101) u v w)
    (s2 : ∀ j, j ≠ 301 → j ≠ 302 → F24 j = F18 j) (s4 : ∀ a, 0 ≤ a → a < F18 100 → A18 8 a = root → A18 7 a * A18 6 a ≤ F24 301) (s5 : F24 301 = 0 ∨ ∃ a, 0 ≤ a ∧ a < F18 100 ∧ A18 8 a = root ∧ F24 301 = A18 7 a * A18 6 a) :
    F24 303 = sI (gS A root) (F 100) ∧ (∀ u v s w, E4 (F24 304) (A18 20) (A18 21) (fun e => A18 19 (A18 20 e)) (A18 22) u v s w ↔ pG A root (F 100) (F 101) u v s w) ∧ (∀ v, 0 ≤ v → v < sI (gS A root) (F 100) → 1 ≤ A18 19 v ∧ A18 19 v ≤ 9) ∧ 1 ≤ F24 301 ∧ sI (A18 19) (sI (gS A root) (F 100)) ≤ 8 * F24 301 ∧ sI (A18 19) (sI (gS A root) (F 100)) ≤ 360 ∧ F24 301 ≤ sI (A18 19) (sI (gS A root) (F 100)) ∧ lpE (pG A root (F 100) (F 101)) (F24 301) 1 := by
  have hc : ∀ b, 0 ≤ b → b < F 100 → 1 ≤ A 7 b := fun b b0 b1 => (hact b b0 (by omega)).1.1
  have x19 : A18 19 = A12 19 := w2 19 (by decide) (by decide) (by decide)
  have z : ∀ k, 6 ≤ k → k ≤ 13 → A12 k = A k := fun k h1 h2 => a4 k (by omega) (by omega) (by omega) (by omega) (by omega)
  have z18 : ∀ k, 6 ≤ k → k ≤ 13 → A18 k = A k := fun k h1 h2 => (w2 k (by omega) (by omega) (by omega)).trans (z k h1 h2)
  have f100 : F18 100 = F 100 := (w1 100 (by decide)).trans (a1 100 (by decide) (by decide))
  have f304 : F24 304 = F18 304 := s2 304 (by decide) (by decide)
  rw [f100, z18 6 (by decide) (by decide), z18 7 (by decide) (by decide), z18 8 (by decide) (by decide)] at s4 s5
  have hnt : ∀ v, 0 ≤ v → v < sI (gS A root) (F 100) → 1 ≤ A18 19 v ∧ A18 19 v ≤ 9 := by
    intro v v0 v1
    obtain ⟨b, b0, b1, b2, x, x0, x1, e⟩ := gS_find (A := A) (root := root) (n := F 100) (F 100).toNat (by omega) v v0 (by rw [show (((F 100).toNat : Nat) : Int) = F 100 by omega]; exact v1)
    rw [x19, e, a6 b b0 (by omega) b2 x x0 x1]
    exact htm b b0 (by omega)
  have hpos : 1 ≤ F24 301 := by
    obtain ⟨b, b0, b1, b2⟩ := hrr
    have h1 := s4 b b0 b1 b2
    have h2 := (mulb (hact b b0 (by omega)).1 (htm b b0 (by omega))).1
    omega
  obtain ⟨a, q0, q1, q2, q3⟩ := s5.resolve_left (by omega)
  obtain ⟨t0, t1⟩ := tot_sum (A := A) (N := A18 19) (root := root) (n := F 100) hc (fun b b0 b1 b2 x x0 x1 => by rw [x19]; exact a6 b b0 b1 b2 x x0 x1) (F 100).toNat (by omega)
  rw [show (((F 100).toNat : Nat) : Int) = F 100 by omega] at t0 t1
  have tb := sI_nn (f := fun b => if A 8 b = root then A 7 b * A 6 b else 0) (n := F 100) (B := F24 301) (by omega) (fun b b0 b1 => by
    show 0 ≤ (if A 8 b = root then A 7 b * A 6 b else 0) ∧ (if A 8 b = root then A 7 b * A 6 b else 0) ≤ F24 301
    by_cases e : A 8 b = root
    · rw [if_pos e]
      have := (mulb (hact b b0 (by omega)).1 (htm b b0 (by omega))).1
      exact ⟨by omega, s4 b b0 b1 e⟩
    · rw [if_neg e]; omega)
  have tb2 : F 100 * F24 301 ≤ 8 * F24 301 := Int.mul_le_mul_of_nonneg_right hn.2 (by omega)
  have tc := sI_nn (f := A18 19) (n := sI (gS A root) (F 100)) (B := 9) t0 (fun v v0 v1 => by have := hnt v v0 v1; omega)
  have td := sI_le (f := fun b => if A 8 b = root then A 7 b * A 6 b else 0) (n := F 100) (fun b b0 b1 => by
    show 0 ≤ (if A 8 b = root then A 7 b * A 6 b else 0)
    by_cases e : A 8 b = root
    · rw [if_pos e]
      have := (mulb (hact b b0 (by omega)).1 (htm b b0 (by omega))).1
      omega
    · rw [if_neg e]; omega) a q0 q1
  have td2 : (if A 8 a = root then A 7 a * A 6 a else 0) ≤ sI (fun b => if A 8 b = root then A 7 b * A 6 b else 0) (F 100) := td
  rw [if_pos q2, ← q3] at td2
  refine ⟨by rw [s2 303 (by decide) (by decide), w1 303 (by decide), a2], fun u v s w => ?_, hnt, hpos, by omega, by omega, by omega, ?_⟩
  · rw [E4_I, f304, w4 u v w, a7 u v w, x19, a1 101 (by decide) (by decide)]
    unfold pG
    rw [← fE_fT (N := A12 19) (s := s) hc a6, ← wA_wT (A' := A12) (N := A12 19) (s := s) hc (fun k k0 k1 => ⟨(hch k k0 k1).1, (hch k k0 k1).2.1⟩) hsame z a5 a6]
    constructor
    · rintro ⟨h1 | h1, h2⟩
      · exact Or.inl ⟨h1, h2⟩
      · exact Or.inr ⟨h1, h2⟩
    · rintro (⟨h1, h2⟩ | ⟨h1, h2⟩)
      · exact ⟨Or.inl h1, h2⟩
      · exact ⟨Or.inr h1, h2⟩
  · rw [q3]
    exact own_loop q0 q1 q2 (hc a q0 q1)
theorem pf_loop {F : Nat → Int} {A1 : Nat → Int → Int} {z : Int} (hz : 0 ≤ z ∧ z < F 303) (hE : 0 ≤ F 304) (hI : px_I (F 303).toNat (F 304).toNat (A1 20) (A1 21) (cw F A1) (A1 23, A1 24)) (hi : ∃ i : Nat, 1 ≤ i ∧ (∀ j : Nat, j < i → A1 24 (rx_it (px_f (A1 20) (A1 23, A1 24)) j z) ≠ -1) ∧ rx_it (px_f (A1 20) (A1 23, A1 24)) i z = z) (hnt : ∀ v, 0 ≤ v → v < F 303 → 1 ≤ A1 19 v ∧ A1 19 v ≤ 9) :
    ∃ L : Int, (1 ≤ L ∧ L ≤ F 303) ∧ (∀ s, 0 ≤ s → s < L → (0 ≤ tkV A1 z s ∧ tkV A1 z s < F 303) ∧ A1 24 (tkV A1 z s) ≠ -1) ∧ tkV A1 z L = z ∧ (∀ s, 1 ≤ s → s < L → tkV A1 z s ≠ z) ∧ lpE (E4 (F 304) (A1 20) (A1 21) (fun e => A1 19 (A1 20 e)) (A1 22)) (tkT A1 z L) (tkR A1 z L) ∧ 0 < tkT A1 z L * F 302 - F 301 * tkR A1 z L ∧ tkT A1 z L ≤ sI (A1 19) (F 303) := by
  obtain ⟨i, i1, i2, i3⟩ := hi
  obtain ⟨L, l1, l2, l3, l4⟩ := rx_min i i1 i3
  have hzN : px_N (F 303).toNat z := ⟨hz.1, by omega⟩
  have key : ∀ j, j ≤ i → px_N (F 303).toNat (rx_it (px_f (A1 20) (A1 23, A1 24)) j z) := fun j hj => (rx_tele hI.1.1 j z hzN (fun t ht => i2 t (by omega))).1
  have key2 : ∀ j, j ≤ i → 0 ≤ rx_it (px_f (A1 20) (A1 23, A1 24)) j z ∧ rx_it (px_f (A1 20) (A1 23, A1 24)) j z < F 303 := fun j hj => by
    have h1 := (key j hj).1
    have h2 := (key j hj).2
    omega
  have dis := rx_dis l3 l4
  have hL : (L : Int) ≤ F 303 := by
    refine Int.le_of_not_gt (fun hc => ?_)
    obtain ⟨a, b, c1, c2, c3⟩ := rx_pigeonI (n := (F 303).toNat) (k := (F 303).toNat) (a := fun j => rx_it (px_f (A1 20) (A1 23, A1 24)) j z) (fun t ht => key t (by omega)) (Nat.le_refl _)
    exact dis a b c1 (by omega) c3
  obtain ⟨T, R, t1, t2, t3, t4⟩ := lp_of (M := F 304) (te := fun e => A1 19 (A1 20 e)) (re := A1 22) (a := F 302) (b := F 301) (by omega) hI (fun e => by unfold cw; rw [Int.mul_comm (A1 22 e)]) hzN l1 (fun j hj => i2 j (by omega)) l3
  have eT : tkT A1 z (L : Int) = T := by unfold tkT; rw [Int.toNat_natCast]; exact t3.symm
  have eR : tkR A1 z (L : Int) = R := by unfold tkR; rw [Int.toNat_natCast]; exact t4.symm
  refine ⟨(L : Int), ⟨by omega, hL⟩, fun s s0 s1 => ?_, by unfold tkV; rw [Int.toNat_natCast]; exact l3, fun s s0 s1 => l4 s.toNat (by omega) (by omega), by rw [eT, eR]; exact t1, by rw [eT, eR]; exact t2, ?_⟩
  · exact ⟨key2 s.toNat (by omega), i2 s.toNat (by omega)⟩
  · rw [eT, t3, rx_sn]
    have h9 := sn_dis (N := F 303) (a := fun j => rx_it (px_f (A1 20) (A1 23, A1 24)) (j + 1) z) L (A1 19) (fun j hj => key2 (j + 1) (by omega)) (fun j k h1 h2 => by
      by_cases e : k + 1 = L
      · show rx_it _ (j + 1) z ≠ rx_it _ (k + 1) z
        rw [e, l3]
        exact l4 (j + 1) (by omega) (by omega)
      · exact dis (j + 1) (k + 1) (by omega) (by omega)) (fun v v0 v1 => by have := hnt v v0 v1; omega) (by omega)
    have e : (fun j => A1 19 (rx_it (px_f (A1 20) (A1 23, A1 24)) (j + 1) z)) = fun j => (fun v => (fun e => A1 19 (A1 20 e)) (A1 24 v)) (rx_it (px_f (A1 20) (A1 23, A1 24)) j z) := by
      funext j
      rw [rx_it_succ]; rfl
    rw [e] at h9
    exact h9
abbrev zr_P_find : Room := ({ frames := 3, cells := 0, slots := 0, locals := 77 } : Room)
set_option maxHeartbeats 4000000 in
set_option maxRecDepth 100000 in
theorem c_P_find (l : Launch) (D : va_G) (q : Nat → Nat) (c : Nat → ClassId) (sz : Nat) (F : Nat → Int) (A : Nat → Int → Int) (root : Int) (hn : 1 ≤ F 100 ∧ F 100 ≤ 8) (hc : 0 ≤ F 101 ∧ F 101 ≤ 14) (hact : ∀ a, 0 ≤ a → a < 8 → (1 ≤ A 7 a ∧ A 7 a ≤ 4782969) ∧ 0 ≤ A 8 a ∧ A 8 a < 8) (hch : ∀ k, 0 ≤ k → k < F 101 → (0 ≤ A 9 k ∧ A 9 k < F 100) ∧ (0 ≤ A 10 k ∧ A 10 k < F 100) ∧ (1 ≤ A 11 k ∧ A 11 k ≤ 9) ∧ (1 ≤ A 12 k ∧ A 12 k ≤ 9) ∧ 0 ≤ A 13 k ∧ A 13 k ≤ 99) (htm : ∀ a, 0 ≤ a → a < 8 → 1 ≤ A 6 a ∧ A 6 a ≤ 9) (hsame : ∀ k, 0 ≤ k → k < F 101 → A 8 (A 9 k) = A 8 (A 10 k)) (hrr : ∃ b, 0 ≤ b ∧ b < F 100 ∧ A 8 b = root) (brt : 0 ≤ root ∧ root < 8) (hsum : sI (gS A root) (F 100) ≤ 40) (bk : -1 ≤ F 300 ∧ F 300 < 8) (hpe : ∀ u v s w, (pG A root (F 100) (F 101)) u v s w → (0 ≤ u ∧ u < sI (gS A root) (F 100)) ∧ (0 ≤ v ∧ v < sI (gS A root) (F 100)) ∧ 0 ≤ w ∧ w ≤ 100) (hlp : ∀ T R, lpE (pG A root (F 100) (F 101)) T R → 1 ≤ R) (hkn : F 300 = root → bestR (pG A root (F 100) (F 101)) (F 301) (F 302)) : zMV l zy_P_find zc_P_find 5 none zr_P_find D q c sz [.ref (q 3), .ref (q 1), .int (iI (root))] F A (fun F1 A1 => F1 300 = root ∧ bestR (pG A root (F 100) (F 101)) (F1 301) (F1 302) ∧ (∀ j, j < 300 ∨ 304 < j → F1 j = F j) ∧ (∀ k, k < 18 ∨ 25 < k → A1 k = A k)) := by
  refine z_ofV (by decide) (Nat.le_of_ble_eq_true rfl) ?_
  intro p e s m args below meth c0 A0 Q C0 ret hP hD hS ls hl
  obtain ⟨S, hK, hA⟩ := C0
  have hx := S.1
  have hb := S.2.1
  have hown := S.2.2.2.1
  have hts : ∀ w ∈ zG, w.before args s = true := fun w h => S.2.2.2.2 w (List.mem_cons_of_mem _ h)
  have hl : lv_has ls 5 [(0, .ref (q 3)), (1, .ref (q 1)), (2, .int (iI (root)))] := hl
  refine lv_aload_n hx hb zd_P_find_0 rfl (lv_at hl 0 rfl) ?_
  refine va_get (D := D) (ci := 3) (v := .int (iI (F 300))) (C := zR_P) (T := zT_P) (N := 13) hx hb hts zi_P hown hK.1 hP 3 ga_3 rfl 0 (by decide) (hts _ zw_130) (fun _ h9 => h9) rfl zd_P_find_1 ?_
  refine lv_iload_n hx hb zd_P_find_4 rfl (lv_at hl 2 rfl) ?_
  refine x_icmp_ne (tgt := 9) hx hb zd_P_find_5 (by decide) (⟨by omega, by omega⟩) (⟨by omega, by omega⟩) (fun h_5 => ?_) (fun h_5 => ?_)
  · refine lv_aload_n hx hb zd_P_find_9 rfl (lv_at hl 0 rfl) ?_
    refine lv_aload_n hx hb zd_P_find_10 rfl (lv_at hl 1 rfl) ?_
    refine lv_iload_n hx hb zd_P_find_11 rfl (lv_at hl 2 rfl) ?_
    refine z_gov (z_runV (n := 2) (k := 3) (ci := 3) (As := [.ref (q 1), .int (iI (root))]) (rest := []) S (c_P_addFirings l D q c _ F A root (by first | assumption | omega | exact ⟨by omega, by omega⟩) (by first | assumption | omega | exact ⟨by omega, by omega⟩) (by first | assumption | omega | exact ⟨by omega, by omega⟩) (by first | assumption | omega | exact ⟨by omega, by omega⟩) (by first | assumption | omega | exact ⟨by omega, by omega⟩) (by first | assumption | omega | exact ⟨by omega, by omega⟩)) zw_474 zw_476 zs_26 zw_4 zw_477 ⟨by decide +kernel, by decide, rfl, rfl⟩ hK hP hD ga_3 rfl rfl rfl hl.1 rfl (Nat.le_of_ble_eq_true rfl) zd_P_find_12 ⟨Nat.zero_le _, Nat.zero_le _⟩) hD hS hA (fun F_12 A_12 H locs hq_12 hP hD hS => ?_)
    obtain ⟨a1, a2, a3, a4, a5, a6, a7⟩ := hq_12
    have f100 := a1 100 (by decide) (by decide)
    have f101 := a1 101 (by decide) (by decide)
    have e6 := a4 6 (by decide) (by decide) (by decide) (by decide) (by decide)
    have e7 := a4 7 (by decide) (by decide) (by decide) (by decide) (by decide)
    have e8 := a4 8 (by decide) (by decide) (by decide) (by decide) (by decide)
    have e9 := a4 9 (by decide) (by decide) (by decide) (by decide) (by decide)
    have e10 := a4 10 (by decide) (by decide) (by decide) (by decide) (by decide)
    have e11 := a4 11 (by decide) (by decide) (by decide) (by decide) (by decide)
    have e12 := a4 12 (by decide) (by decide) (by decide) (by decide) (by decide)
    have e13 := a4 13 (by decide) (by decide) (by decide) (by decide) (by decide)
    have n0_ := sI_mon (gS_nn (root := root) hact hn.2) 0 (by omega) (F 100) (by omega) (by omega)
    rw [sI_0] at n0_
    refine lv_aload_n hx hb zd_P_find_15 rfl (lv_at hl 0 rfl) ?_
    refine lv_aload_n hx hb zd_P_find_16 rfl (lv_at hl 1 rfl) ?_
    refine lv_iload_n hx hb zd_P_find_17 rfl (lv_at hl 2 rfl) ?_
    refine z_gov (z_runV (n := 2) (k := 3) (ci := 3) (As := [.ref (q 1), .int (iI (root))]) (rest := []) S (c_P_addWaits l D q c _ F_12 A_12 root (by first | omega | (simp only [e7, e8, e9, e10, e11, e12, e13, f100, f101]; first | assumption | omega)) (by first | omega | (simp only [e7, e8, e9, e10, e11, e12, e13, f100, f101]; first | assumption | omega)) (by first | omega | (simp only [e7, e8, e9, e10, e11, e12, e13, f100, f101]; first | assumption | omega)) (by first | omega | (simp only [e7, e8, e9, e10, e11, e12, e13, f100, f101]; first | assumption | omega)) (by first | omega | (simp only [e7, e8, e9, e10, e11, e12, e13, f100, f101]; first | assumption | omega)) (by first | omega | (simp only [e7, e8, e9, e10, e11, e12, e13, f100, f101]; first | assumption | omega)) (by rw [f100, e7, e8]; intro b b0 b1 b2; have h9 := gS_in (n := F 100) hact hn.2 b0 b1 b2 (i := F 100) (by omega) (by omega); rw [a5 b b0 b1 b2]; omega) (by first | omega | (simp only [e7, e8, e9, e10, e11, e12, e13, f100, f101]; first | assumption | omega))) zw_486 zw_488 zs_29 zw_4 zw_489 ⟨by decide +kernel, by decide, rfl, rfl⟩ hK hP hD ga_3 rfl rfl rfl hl.1 rfl (Nat.le_of_ble_eq_true rfl) zd_P_find_18 ⟨Nat.zero_le _, Nat.zero_le _⟩) hD hS hA (fun F_18 A_18 H locs hq_18 hP hD hS => ?_)
    obtain ⟨w1, w2, w3, w4⟩ := hq_18
    have g100 : F_18 100 = F 100 := (w1 100 (by decide)).trans f100
    have g101 : F_18 101 = F 101 := (w1 101 (by decide)).trans f101
    have y6 := (w2 6 (by decide) (by decide) (by decide)).trans e6
    have y7 := (w2 7 (by decide) (by decide) (by decide)).trans e7
    have y8 := (w2 8 (by decide) (by decide) (by decide)).trans e8
    have y9 := (w2 9 (by decide) (by decide) (by decide)).trans e9
    have y10 := (w2 10 (by decide) (by decide) (by decide)).trans e10
    have y11 := (w2 11 (by decide) (by decide) (by decide)).trans e11
    have y12 := (w2 12 (by decide) (by decide) (by decide)).trans e12
    have y13 := (w2 13 (by decide) (by decide) (by decide)).trans e13
    refine lv_aload_n hx hb zd_P_find_21 rfl (lv_at hl 0 rfl) ?_
    refine lv_aload_n hx hb zd_P_find_22 rfl (lv_at hl 1 rfl) ?_
    refine lv_iload_n hx hb zd_P_find_23 rfl (lv_at hl 2 rfl) ?_
    refine z_gov (z_runV (n := 2) (k := 3) (ci := 3) (As := [.ref (q 1), .int (iI (root))]) (rest := []) S (c_P_beginWithSlowestActor l D q c _ F_18 A_18 root (by first | omega | (simp only [y6, y7, y8, g100]; first | assumption | omega)) (by first | omega | (simp only [y6, y7, y8, g100]; first | assumption | omega)) (by first | omega | (simp only [y6, y7, y8, g100]; first | assumption | omega)) (by first | omega | (simp only [y6, y7, y8, g100]; first | assumption | omega)) (by first | omega | (simp only [y6, y7, y8, g100]; first | assumption | omega))) zw_500 zw_502 zs_31 zw_4 zw_503 ⟨by decide +kernel, by decide, rfl, rfl⟩ hK hP hD ga_3 rfl rfl rfl hl.1 rfl (Nat.le_of_ble_eq_true rfl) zd_P_find_24 ⟨Nat.zero_le _, Nat.zero_le _⟩) hD hS hA (fun F_24 A_24 H locs hq_24 hP hD hS => ?_)
    obtain ⟨s1, s2, s3, s4, s5⟩ := hq_24
    obtain ⟨p1, p2, p3, p4, p5, p6, p7, p8⟩ := pf_init hn hact hch htm hsame hrr hsum a1 a2 a4 a5 a6 a7 w1 w2 w4 s2 s4 s5
    have p304 : F_24 304 = F_18 304 := s2 304 (by decide) (by decide)
    have hed_ : ∀ e, 0 ≤ e → e < F_24 304 → (0 ≤ A_18 20 e ∧ A_18 20 e < F_24 303) ∧ (0 ≤ A_18 21 e ∧ A_18 21 e < F_24 303) ∧ 0 ≤ A_18 22 e ∧ A_18 22 e ≤ 100 := fun e h0 h1 => by (rw [p1]; exact hpe _ _ _ _ ((p2 _ _ _ _).mp ⟨e, h0, h1, rfl, rfl, rfl, rfl⟩))
    have hA0_ := at_0 (Lm := (sI (A_18 19) (sI (gS A root) (F 100)))) p8 p4 p7 p6
    refine lv_iconst (v := iI (0)) hx hb zd_P_find_27 rfl ?_
    refine lv_istore_n (lv' := [(3, .int (iI (0))), (0, .ref (q 3)), (1, .ref (q 1)), (2, .int (iI (root)))]) hx hb zd_P_find_28 rfl hl (by decide) rfl (fun ls hl => ?_)
    have L_29 : ∀ (fu : Nat) (k1 : Int)  (F29 : Nat → Int) (A29 : Nat → Int → Int), (0 ≤ k1 ∧ k1 ≤ 9000) → (∀ j, j ≠ 301 → j ≠ 302 → F29 j = F_24 j) → (∀ k, k ≠ 23 → k ≠ 24 → k ≠ 25 → A29 k = A_18 k) → (atR (pG A root (F 100) (F 101)) (F_24 301) (sI (A_18 19) (sI (gS A root) (F 100))) (F29 301) (F29 302) k1) → (9001 - k1 < (fu : Int)) → ∀ (H : Heap) (locs : List Loc), va_P D zcl (gw q c F29 A29) H → va_D A0 (gw q c F29 A29) → va_S A0 s.heap H locs → ∀ ls : Array Slot, lv_has ls 5 [(0, .ref (q 3)), (1, .ref (q 1)), (2, .int (iI (root))), (3, .int (iI (k1)))] → W p l e zr_P_find s m args below meth c0 H locs 0 0 Q (F0 m 29 ls []) := by
      intro fu
      induction fu with
      | zero => intro k1  F29 A29 hk1 hF hAk hat hm_29; exact absurd hm_29 (by omega)
      | succ fu ih_29 =>
        intro k1  F29 A29 hk1 hF hAk hat hm_29 H locs hP hD hS ls hl
        have hkb_ := at_b hat p5 p6
        have q303 : F29 303 = sI (gS A root) (F 100) := (hF 303 (by decide) (by decide)).trans p1
        have q304 : F29 304 = F_24 304 := hF 304 (by decide) (by decide)
        have hpq_ : (0 ≤ F29 301 ∧ F29 301 ≤ 360) ∧ 1 ≤ F29 302 ∧ F29 302 ≤ 7 := ⟨⟨by have := hat.2.1; omega, hat.2.1.2⟩, hat.1⟩
        have u19 := hAk 19 (by decide) (by decide) (by decide)
        have u20 := hAk 20 (by decide) (by decide) (by decide)
        have u21 := hAk 21 (by decide) (by decide) (by decide)
        have u22 := hAk 22 (by decide) (by decide) (by decide)
        refine lv_iload_n hx hb zd_P_find_29 rfl (lv_at hl 3 rfl) ?_
        refine lv_sipush (v := iI (10000)) hx hb zd_P_find_30 (by decide) ?_
        refine x_icmp_ge (tgt := 63) hx hb zd_P_find_33 (by decide) (⟨by omega, by omega⟩) (⟨by omega, by omega⟩) (fun h_33 => ?_) (fun h_33 => ?_)
        · omega
        · refine lv_aload_n hx hb zd_P_find_36 rfl (lv_at hl 0 rfl) ?_
          refine z_goi (z_runV (n := 0) (k := 3) (ci := 3) (As := []) (rest := []) S (c_P_nodeOnSlowerLoop l D q c _ F29 A29 (by first | omega | exact hpq_ | (rw [q304, u20, u21, u22, hF 303 (by decide) (by decide)]; exact hed_) | (rw [q303, u19]; exact p3)) (by first | omega | exact hpq_ | (rw [q304, u20, u21, u22, hF 303 (by decide) (by decide)]; exact hed_) | (rw [q303, u19]; exact p3)) (by first | omega | exact hpq_ | (rw [q304, u20, u21, u22, hF 303 (by decide) (by decide)]; exact hed_) | (rw [q303, u19]; exact p3)) (by first | omega | exact hpq_ | (rw [q304, u20, u21, u22, hF 303 (by decide) (by decide)]; exact hed_) | (rw [q303, u19]; exact p3)) (by first | omega | exact hpq_ | (rw [q304, u20, u21, u22, hF 303 (by decide) (by decide)]; exact hed_) | (rw [q303, u19]; exact p3))) zw_505 zw_507 zs_32 zw_4 zw_508 ⟨by decide +kernel, by decide, rfl, rfl⟩ hK hP hD ga_3 rfl rfl rfl hl.1 rfl (Nat.le_of_ble_eq_true rfl) zd_P_find_37 ⟨Nat.zero_le _, Nat.zero_le _⟩) hD hS hA (fun z_37 F_37 A_37 H locs hq_37 hP hD hS => ?_)
          obtain ⟨hf_37, hq_37⟩ := hq_37
          rw [hf_37] at hP hD
          obtain ⟨n1, n2, n3, n4⟩ := hq_37
          have zA : ∀ k, k ≠ 23 → k ≠ 24 → k ≠ 25 → A_37 k = A_18 k := fun k h1 h2 h3 => (n1 k h1 h2 h3).trans (hAk k h1 h2 h3)
          have x19 := zA 19 (by decide) (by decide) (by decide)
          have x20 := zA 20 (by decide) (by decide) (by decide)
          have x21 := zA 21 (by decide) (by decide) (by decide)
          have x22 := zA 22 (by decide) (by decide) (by decide)
          refine lv_istore (lv' := [(4, .int (iI (z_37))), (0, .ref (q 3)), (1, .ref (q 1)), (2, .int (iI (root))), (3, .int (iI (k1)))]) hx hb zd_P_find_40 hl (by decide) rfl (fun ls hl => ?_)
          refine lv_iload hx hb zd_P_find_42 (lv_at hl 0 rfl) ?_
          refine lv_iconst (v := iI (-1)) hx hb zd_P_find_44 rfl ?_
          refine x_icmp_ne (tgt := 51) hx hb zd_P_find_45 (by decide) (⟨by omega, by omega⟩) (⟨by omega, by omega⟩) (fun h_45 => ?_) (fun h_45 => ?_)
          · obtain ⟨m1, m2, m3⟩ := n4 h_45
            have hI_ : px_I (F29 303).toNat (F29 304).toNat (A_37 20) (A_37 21) (cw F29 A_37) (A_37 23, A_37 24) := by (have e9 : cw F29 A_37 = cw F29 A29 := (by funext e; unfold cw; rw [x19, x20, x22, u19, u20, u22]); rw [e9, x20, x21, ← u20, ← u21]; exact m2)
            obtain ⟨L, l1, l2, l3, l4, l5, l6, l7⟩ := pf_loop m1 (by omega) hI_ (by rw [x20, ← u20]; exact m3) (by rw [q303, x19]; exact p3)
            have l8 : lpE (pG A root (F 100) (F 101)) (tkT A_37 z_37 L) (tkR A_37 z_37 L) := lp_mono (fun u v s w h => (p2 u v s w).mp (by rw [x19, x20, x21, x22, q304] at h; exact h)) l5
            have l9 := hlp _ _ l8
            obtain ⟨l10, l11⟩ := at_s hat p4 p5 p6 l8 l9 (by rw [q303, x19] at l7; exact l7) l6
            clear n3 n4
            refine lv_aload_n hx hb zd_P_find_51 rfl (lv_at hl 1 rfl) ?_
            refine lv_iload hx hb zd_P_find_52 (lv_at hl 0 rfl) ?_
            refine z_gov (z_runV (n := 1) (k := 3) (ci := 3) (As := [.int (iI (z_37))]) (rest := []) S (c_P_takeRatioOf l D q c _ F29 A_37 z_37 (L) (by first | omega | exact hpq_ | assumption | (rw [q304, x20, x21, x22, hF 303 (by decide) (by decide)]; exact hed_) | (rw [q303, x19]; exact p3)) (by first | omega | exact hpq_ | assumption | (rw [q304, x20, x21, x22, hF 303 (by decide) (by decide)]; exact hed_) | (rw [q303, x19]; exact p3)) (by first | omega | exact hpq_ | assumption | (rw [q304, x20, x21, x22, hF 303 (by decide) (by decide)]; exact hed_) | (rw [q303, x19]; exact p3)) (by first | omega | exact hpq_ | assumption | (rw [q304, x20, x21, x22, hF 303 (by decide) (by decide)]; exact hed_) | (rw [q303, x19]; exact p3)) (by first | omega | exact hpq_ | assumption | (rw [q304, x20, x21, x22, hF 303 (by decide) (by decide)]; exact hed_) | (rw [q303, x19]; exact p3)) (sl_via (A := A_37) (by omega) (by omega) hI_) (by first | omega | exact hpq_ | assumption | (rw [q304, x20, x21, x22, hF 303 (by decide) (by decide)]; exact hed_) | (rw [q303, x19]; exact p3)) (by first | omega | exact hpq_ | assumption | (rw [q304, x20, x21, x22, hF 303 (by decide) (by decide)]; exact hed_) | (rw [q303, x19]; exact p3)) (by first | omega | exact hpq_ | assumption | (rw [q304, x20, x21, x22, hF 303 (by decide) (by decide)]; exact hed_) | (rw [q303, x19]; exact p3)) (by first | omega | exact hpq_ | assumption | (rw [q304, x20, x21, x22, hF 303 (by decide) (by decide)]; exact hed_) | (rw [q303, x19]; exact p3)) (by first | omega | exact hpq_ | assumption | (rw [q304, x20, x21, x22, hF 303 (by decide) (by decide)]; exact hed_) | (rw [q303, x19]; exact p3))) zw_521 zw_523 zs_36 zw_4 zw_524 ⟨by decide +kernel, by decide, rfl, rfl⟩ hK hP hD ga_3 rfl rfl rfl hl.1 rfl (Nat.le_of_ble_eq_true rfl) zd_P_find_54 ⟨Nat.zero_le _, Nat.zero_le _⟩) hD hS hA (fun F_54 A_54 H locs hq_54 hP hD hS => ?_)
            obtain ⟨t1, t2, t3, t4⟩ := hq_54
            refine lv_iinc (v := iI (k1 + 1)) (lv' := [(3, .int (iI (k1 + 1))), (4, .int (iI (z_37))), (0, .ref (q 3)), (1, .ref (q 1)), (2, .int (iI (root)))]) hx hb zd_P_find_57 hl (k := 4) rfl (iI_add _ _) (by decide) rfl (fun ls hl => ?_)
            refine lv_goto (tgt := 29) hx hb zd_P_find_60 (by decide) ?_
            exact ih_29 (k1 + 1)  F_54 A_54 (by first | assumption | omega | (simp_all; done)) (fun j h1 h2 => (t2 j h1 h2).trans (hF j h1 h2)) (fun k h1 h2 h3 => by rw [t1]; exact zA k h1 h2 h3) (by rw [(t3 (by omega)).1, (t3 (by omega)).2]; exact l11) (by omega) _ _ hP hD hS ls (lv_sub hl [2, 3, 4, 0] rfl)
          · have hbest_ : bestR (pG A root (F 100) (F 101)) (F29 301) (F29 302) := at_best hat (fun T R h => by (obtain ⟨x9, hx9⟩ := n3 h_45; refine lp_le (x := x9) (fun u v s r h9 => ?_) h; obtain ⟨e, g0, g1, g2, g3, g4, g5⟩ := (p2 u v s r).mpr h9; have g6 := hx9 e g0 (by omega); unfold cw at g6; rw [u19, u20, u21, u22] at g6; rw [g2, g3, g5] at g6; have g7 : A_18 19 (A_18 20 e) = s := g4; rw [g2] at g7; rw [g7, Int.mul_comm r] at g6; exact g6))
            refine lv_goto (tgt := 63) hx hb zd_P_find_48 (by decide) ?_
            refine lv_aload_n hx hb zd_P_find_63 rfl (lv_at hl 1 rfl) ?_
            refine lv_iload_n hx hb zd_P_find_64 rfl (lv_at hl 3 rfl) ?_
            refine va_put (D := D) (ci := 3) (v := .int (iI (root))) (ty := .int) (C := zR_P) (T := zT_P) (N := 13) hx hb hts zi_P zk_P zo_P zn_P hown hK.1 hP hD hS 3 ga_3 rfl 0 (by decide) (hts _ zw_130) (fun _ h9 => h9) rfl (by decide +kernel) (rfl) (rfl) (Nat.le_of_ble_eq_true rfl) zd_P_find_65 (fun H locs hP hD hS => ?_)
            rw [gs_3_0] at hP hD
            exact ret _ _ _ _ _ _ zd_P_find_68 hP hD hS (⟨rfl, hbest_, fun j h => by show (if j = 300 then root else F29 j) = F j; rw [if_neg (by omega), hF j (by omega) (by omega), s2 j (by omega) (by omega), w1 j (by omega), a1 j (by omega) (by omega)], fun k h => by rw [zA k (by omega) (by omega) (by omega), w2 k (by omega) (by omega) (by omega), a4 k (by omega) (by omega) (by omega) (by omega) (by omega)]⟩)
    exact L_29 (((9001 - (0) : Int) + 1).toNat) (0)  F_24 A_24 (by first | assumption | omega | (simp_all; done)) (fun j _ _ => rfl) (fun k _ _ _ => by rw [s1]) (by rw [s3]; exact hA0_) (by omega) _ _ hP hD hS ls (lv_sub hl [1, 2, 3, 0] rfl)
  · exact ret _ _ _ _ _ _ zd_P_find_8 hP hD hS (⟨h_5, hkn h_5, fun _ _ => rfl, fun _ _ => rfl⟩)
