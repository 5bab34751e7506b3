/-! The class's net and what the reference knows -/
section TIE
variable {n m u : Int} {fr to pu tk ct pt p ov un : Int → Int}
theorem tie_part (h : NET n m u fr to pu tk ct pt) (hF : FO n m n fr to pu tk p ov un) : ∀ a, 0 ≤ a → a < n → p a = pt a := by
  intro a a0 a1
  have hN : ∀ x, 0 ≤ x → x < n → fN n m fr to pu tk p ov un x := fun x x0 x1 => ((hF.1 x x0 x1).resolve_left (hF.2.1 x x0 x1 x1)).2
  obtain ⟨g1, g2, g3, -⟩ := h.1 a a0 a1
  obtain ⟨f1, f2, -⟩ := hN a a0 a1
  have e1 : pt (p a) = pt a := conn_eq h.2.1 f2
  have e2 : p (pt a) = p a := conn_eq hF.2.2 g3
  have e3 := (h.1 (p a) (by omega) (by omega)).1
  have e4 := (hN (pt a) (by omega) (by omega)).1
  omega
theorem tie_rr (hn : 1 ≤ n ∧ n ≤ 8) (h : NET n m (-1) fr to pu tk ct pt) (hF : FO n m n fr to pu tk p ov un) (hch : ∀ k, 0 ≤ k → k < m → (0 ≤ fr k ∧ fr k < n) ∧ (0 ≤ to k ∧ to k < n)) {x z : Int} (x0 : 0 ≤ x) (x1 : x < n) (hx : p x = x) (hz : lRes n p ov un x z) : (z = 0 → 400 < ct x) ∧ (z ≠ 0 → z = ct x) := by
  have tp := tie_part h hF
  have hN : ∀ x, 0 ≤ x → x < n → fN n m fr to pu tk p ov un x := fun x x0 x1 => ((hF.1 x x0 x1).resolve_left (hF.2.1 x x0 x1 x1)).2
  have pos : ∀ y, 0 ≤ y → y < n → 1 ≤ ct y := fun y y0 y1 => (h.1 y y0 y1).2.2.2.1
  obtain ⟨s1, s2⟩ := h.2.2.1 rfl
  have key : ∀ a, 0 ≤ a → a < n → p a = x → ct a * un a = ct x * ov a := fun a a0 a1 ha => by
    have := (hN a a0 a1).2.2.2.2.1 ct pos s1
    rw [ha] at this
    exact this
  have w : lW n p ov un x (ct x) := fun a a0 a1 ha => by
    rw [← key a a0 a1 ha]
    exact Int.mul_tmod_left _ _
  have cx := pos x x0 x1
  rcases hz with ⟨z1, z2⟩ | ⟨z1, z2, z3⟩
  · refine ⟨fun _ => Int.lt_of_not_ge (fun hc => z2 (ct x) cx hc w), fun e => absurd z1 e⟩
  · refine ⟨fun e => by omega, fun _ => ?_⟩
    have a1 : ¬ ct x < z := fun hc => z3 (ct x) cx hc w
    -- the counts that z gives
    let K : Int → Int := fun a => if p a = x then (z * ov a).tdiv (un a) else ct a
    have hu : ∀ a, 0 ≤ a → a < n → 1 ≤ un a ∧ 1 ≤ ov a := fun a a0 a1 => ⟨(hN a a0 a1).2.2.2.1.1, (hN a a0 a1).2.2.1.1⟩
    have kk : ∀ a, 0 ≤ a → a < n → p a = x → K a * un a = z * ov a := fun a a0 a1 ha => by
      show (if p a = x then (z * ov a).tdiv (un a) else ct a) * un a = _
      rw [if_pos ha]
      exact Int.tdiv_mul_cancel (Int.dvd_of_tmod_eq_zero (z2 a a0 a1 ha))
    have kp : ∀ y, 0 ≤ y → y < n → 1 ≤ K y := fun y y0 y1 => by
      by_cases c : p y = x
      · have e := kk y y0 y1 c
        obtain ⟨q1, q2⟩ := hu y y0 y1
        refine Int.le_of_not_gt (fun hc => ?_)
        have h1 : K y * un y ≤ 0 * un y := Int.mul_le_mul_of_nonneg_right (by omega) (by omega)
        have h2 : 1 * 1 ≤ z * ov y := Int.mul_le_mul (by omega) q2 (by decide) (by omega)
        omega
      · show 1 ≤ (if p y = x then (z * ov y).tdiv (un y) else ct y)
        rw [if_neg c]
        exact pos y y0 y1
    have kc : ∀ a, 0 ≤ a → a < n → p a = x → K a * ct x = z * ct a := fun a a0 a1 ha => by
      have e1 := kk a a0 a1 ha
      have e2 := key a a0 a1 ha
      have : (K a * ct x) * un a = (z * ct a) * un a := by
        rw [Int.mul_right_comm, e1, Int.mul_assoc, Int.mul_comm (ov a), ← e2, Int.mul_assoc]
      exact Int.eq_of_mul_eq_mul_right (by have := (hu a a0 a1).1; omega) this
    have ks : sol m fr to pu tk K := fun k k0 k1 => by
      obtain ⟨⟨p0, p1⟩, q0, q1⟩ := hch k k0 k1
      have e9 := hF.2.2 k k0 k1
      have e8 := s1 k k0 k1
      by_cases c : p (fr k) = x
      · have e1 := kc _ p0 p1 c
        have e2 := kc _ q0 q1 (by rw [← e9]; exact c)
        have : (K (fr k) * pu k) * ct x = (K (to k) * tk k) * ct x := by
          rw [Int.mul_right_comm, e1, Int.mul_assoc, e8, Int.mul_right_comm (K (to k)), e2, Int.mul_assoc]
        exact Int.eq_of_mul_eq_mul_right (by omega) this
      · show (if p (fr k) = x then _ else ct (fr k)) * pu k = (if p (to k) = x then _ else ct (to k)) * tk k
        rw [if_neg c, if_neg (by rw [← e9]; exact c)]
        exact e8
    have hpx : pt x = x := by rw [← tp x x0 x1]; exact hx
    obtain ⟨t, t0, t1⟩ := s2 K kp ks x x0 x1 hpx
    have e1 := t1 x x0 x1 hpx
    have e2 := kk x x0 x1 hx
    have e3 : ov x = 1 ∧ un x = 1 := by
      have := (hN x x0 x1).2.2.2.2.2.2
      rw [hx] at this
      exact this
    rw [e3.1, e3.2, Int.mul_one, Int.mul_one] at e2
    have e4 : 1 * ct x ≤ t * ct x := Int.mul_le_mul_of_nonneg_right t0 (by omega)
    omega
end TIE
/-- the counts that a root's result gives are the class's -/
theorem tie_cnR {n m : Int} {fr to pu tk ct pt p ov un rr : Int → Int} (hn : 1 ≤ n ∧ n ≤ 8) (h : NET n m (-1) fr to pu tk ct pt) (hF : FO n m n fr to pu tk p ov un) (hch : ∀ k, 0 ≤ k → k < m → (0 ≤ fr k ∧ fr k < n) ∧ (0 ≤ to k ∧ to k < n)) (hr : ∀ x, 0 ≤ x → x < n → p x = x → lRes n p ov un x (rr x)) {a : Int} (a0 : 0 ≤ a) (a1 : a < n) (hz : rr (p a) ≠ 0) : cnR p ov un rr a = ct a := by
  have hN : ∀ x, 0 ≤ x → x < n → fN n m fr to pu tk p ov un x := fun x x0 x1 => ((hF.1 x x0 x1).resolve_left (hF.2.1 x x0 x1 x1)).2
  obtain ⟨g1, g2, g3, g4, g5, g6, g7, g8⟩ := hN a a0 a1
  have e := (tie_rr hn h hF hch g1.1 (by omega) g6 (hr (p a) g1.1 (by omega) g6)).2 hz
  unfold cnR
  rw [if_neg hz, e, ← g5 ct (fun y y0 y1 => (h.1 y y0 y1).2.2.2.1) (h.2.2.1 rfl).1]
  exact Int.mul_tdiv_cancel _ (by omega)
theorem tie_all {F : Nat → Int} {A : Nat → Int → Int} {u : Int} {ct pt : Int → Int} (hn : 1 ≤ F 501 ∧ F 501 ≤ 8) (hch : ∀ k, 0 ≤ k → k < F 502 → (0 ≤ A 36 k ∧ A 36 k < F 501) ∧ (0 ≤ A 37 k ∧ A 37 k < F 501)) (h : NET (F 501) (F 502) u (A 36) (A 37) (A 38) (A 39) ct pt) (K : KM F A) :
    F 510 = u ∧ (∀ a, 0 ≤ a → a < F 501 → A 41 a = pt a) ∧ F 512 = sI (fun a => if pt a = a then 1 else 0) (F 501) ∧ (u = -1 → (F 511 = 0 ∨ F 511 = 1) ∧ (F 511 = 1 ↔ 400 < sI ct (F 501)) ∧ (F 511 = 0 → ∀ a, 0 ≤ a → a < F 501 → A 44 a = ct a)) := by
  obtain ⟨k1, k2, k3, k4, k5⟩ := K
  have e1 := UN_one k1 h.2.2.2
  have tp := tie_part h k2
  refine ⟨e1, tp, by rw [k3]; exact sI_cong (fun a a0 a1 => by show (if A 41 a = a then (1 : Int) else 0) = if pt a = a then 1 else 0; rw [tp a a0 a1]), fun hu => ?_⟩
  subst hu
  obtain ⟨⟨x0, rr, r1, r2, r3⟩, -, -⟩ := k5 e1
  have pos : ∀ y, 0 ≤ y → y < F 501 → 1 ≤ ct y := fun y y0 y1 => (h.1 y y0 y1).2.2.2.1
  have hN : ∀ x, 0 ≤ x → x < F 501 → fN (F 501) (F 502) (A 36) (A 37) (A 38) (A 39) (A 41) (A 42) (A 43) x := fun x x0 x1 => ((k2.1 x x0 x1).resolve_left (k2.2.1 x x0 x1 x1)).2
  have hro : ∀ a, 0 ≤ a → a < F 501 → (0 ≤ A 41 a ∧ A 41 a < F 501) ∧ A 41 (A 41 a) = A 41 a := fun a a0 a1 => ⟨by have := (hN a a0 a1).1; omega, (hN a a0 a1).2.2.2.2.2.1⟩
  by_cases c : ∃ x, 0 ≤ x ∧ x < F 501 ∧ A 41 x = x ∧ rr x = 0
  · obtain ⟨x, y0, y1, y2, y3⟩ := c
    have g1 := (tie_rr hn h k2 hch y0 y1 y2 (r1 x y0 y1 y2)).1 y3
    have g2 := sI_le (f := ct) (n := F 501) (fun a a0 a1 => by have := pos a a0 a1; omega) x y0 y1
    have g3 : F 511 = 1 := r2.mpr (Or.inl ⟨x, y0, y1, y2, y3⟩)
    exact ⟨x0, ⟨fun _ => by omega, fun _ => g3⟩, fun h => by omega⟩
  · have nz : ∀ a, 0 ≤ a → a < F 501 → rr (A 41 a) ≠ 0 := fun a a0 a1 e => c ⟨A 41 a, (hro a a0 a1).1.1, (hro a a0 a1).1.2, (hro a a0 a1).2, e⟩
    have es : sI (cnR (A 41) (A 42) (A 43) rr) (F 501) = sI ct (F 501) := sI_cong (fun a a0 a1 => tie_cnR hn h k2 hch r1 a0 a1 (nz a a0 a1))
    have g3 : F 511 = 1 ↔ 400 < sI ct (F 501) := by
      rw [← es]
      exact ⟨fun h => (r2.mp h).resolve_left c, fun h => r2.mpr (Or.inr h)⟩
    refine ⟨x0, g3, fun h0 a a0 a1 => ?_⟩
    have g4 := sI_le (f := ct) (n := F 501) (fun a a0 a1 => by have := pos a a0 a1; omega) a a0 a1
    have g5 : ¬ 400 < sI ct (F 501) := fun h => by have := g3.mpr h; omega
    rw [r3 a a0 a1 (nz a a0 a1), tie_cnR hn h k2 hch r1 a0 a1 (nz a a0 a1), if_neg (by omega)]
/-! Rounds: by what the arrays say below their ends -/
section RCO
variable {n m : Int} {fr to pu tk fr' to' pu' tk' : Int → Int}
theorem rat_fire {T T' : rT} {a : Int} (hf : ∀ k, 0 ≤ k → k < m → fr' k = fr k ∧ to' k = to k ∧ pu' k = pu k ∧ tk' k = tk k) (h : rat n m T T'.1 T'.2.1 T'.2.2) (a0 : 0 ≤ a) (a1 : a < n) : rat n m (rfire fr to pu tk T a) (rfire fr' to' pu' tk' T' a).1 (rfire fr' to' pu' tk' T' a).2.1 (rfire fr' to' pu' tk' T' a).2.2 := by
  refine ⟨fun b b0 b1 => ?_, fun k k0 k1 => ?_⟩
  · show upI T'.1 a (T'.1 a - 1) b = upI T.1 a (T.1 a - 1) b
    unfold upI
    rw [h.1 a a0 a1, h.1 b b0 b1]
  · obtain ⟨g1, g2, g3, g4⟩ := hf k k0 k1
    obtain ⟨q1, q2⟩ := h.2 k k0 k1
    show T'.2.1 k - (if to' k = a then tk' k else 0) + (if fr' k = a then pu' k else 0) = T.2.1 k - (if to k = a then tk k else 0) + (if fr k = a then pu k else 0) ∧ max (T'.2.2 k) (T'.2.1 k - (if to' k = a then tk' k else 0) + (if fr' k = a then pu' k else 0)) = max (T.2.2 k) (T.2.1 k - (if to k = a then tk k else 0) + (if fr k = a then pu k else 0))
    rw [g1, g2, g3, g4, q1, q2]
    exact ⟨rfl, rfl⟩
theorem rdy_co {T T' : rT} {a : Int} (hf : ∀ k, 0 ≤ k → k < m → fr' k = fr k ∧ to' k = to k ∧ pu' k = pu k ∧ tk' k = tk k) (h : rat n m T T'.1 T'.2.1 T'.2.2) (a0 : 0 ≤ a) (a1 : a < n) : rrdy m to' tk' T' a ↔ rrdy m to tk T a := by
  unfold rrdy
  rw [h.1 a a0 a1]
  constructor
  · rintro ⟨g1, g2⟩
    exact ⟨g1, fun k k0 k1 e => by
      obtain ⟨-, q2, -, q4⟩ := hf k k0 k1
      have := g2 k k0 k1 (by rw [q2]; exact e)
      rw [q4, (h.2 k k0 k1).1] at this
      exact this⟩
  · rintro ⟨g1, g2⟩
    exact ⟨g1, fun k k0 k1 e => by
      obtain ⟨-, q2, -, q4⟩ := hf k k0 k1
      rw [q4, (h.2 k k0 k1).1]
      exact g2 k k0 k1 (by rw [← q2]; exact e)⟩
theorem lst_co {T T' : rT} {a : Int} (hf : ∀ k, 0 ≤ k → k < m → fr' k = fr k ∧ to' k = to k ∧ pu' k = pu k ∧ tk' k = tk k) (h : rat n m T T'.1 T'.2.1 T'.2.2) (hl : rlst n m to tk T a) : rlst n m to' tk' T' a :=
  ⟨hl.1, (rdy_co hf h hl.1.1 hl.1.2).mpr hl.2.1, fun b b0 b1 hb => hl.2.2 b b0 b1 ((rdy_co hf h b0 (by have := hl.1.2; omega)).mp hb)⟩
theorem rok_co {T T' : rT} {od : Int → Int} (hf : ∀ k, 0 ≤ k → k < m → fr' k = fr k ∧ to' k = to k ∧ pu' k = pu k ∧ tk' k = tk k) (h : rat n m T T'.1 T'.2.1 T'.2.2) {d : Nat} (hr : rok n m fr to pu tk T od d) : (∀ k : Nat, k ≤ d → rat n m (rrun fr to pu tk T od k) (rrun fr' to' pu' tk' T' od k).1 (rrun fr' to' pu' tk' T' od k).2.1 (rrun fr' to' pu' tk' T' od k).2.2) ∧ rok n m fr' to' pu' tk' T' od d := by
  have h1 : ∀ k : Nat, k ≤ d → rat n m (rrun fr to pu tk T od k) (rrun fr' to' pu' tk' T' od k).1 (rrun fr' to' pu' tk' T' od k).2.1 (rrun fr' to' pu' tk' T' od k).2.2 := by
    intro k
    induction k with
    | zero => intro _; exact h
    | succ k ih =>
      intro hk
      have hl := hr k (by omega)
      exact rat_fire hf (ih (by omega)) hl.1.1 hl.1.2
  exact ⟨h1, fun k hk => lst_co hf (h1 k (by omega)) (hr k hk)⟩
theorem non_co {T T' : rT} (hf : ∀ k, 0 ≤ k → k < m → fr' k = fr k ∧ to' k = to k ∧ pu' k = pu k ∧ tk' k = tk k) (h : rat n m T T'.1 T'.2.1 T'.2.2) (hl : rnon n m to tk T) : rnon n m to' tk' T' := fun b b0 b1 hb => hl b b0 b1 ((rdy_co hf h b0 b1).mp hb)
end RCO
/-- both rounds are one -/
theorem tie_round {F : Nat → Int} {A : Nat → Int → Int} (hn : 1 ≤ F 100 ∧ F 100 ≤ 8) (e1 : F 501 = F 100) (e2 : F 502 = F 101) (hc : ∀ k, 0 ≤ k → k < F 101 → (0 ≤ A 9 k ∧ A 9 k < F 100) ∧ (0 ≤ A 10 k ∧ A 10 k < F 100) ∧ (1 ≤ A 11 k ∧ A 11 k ≤ 9) ∧ (1 ≤ A 12 k ∧ A 12 k ≤ 9) ∧ 0 ≤ A 13 k ∧ A 13 k ≤ 99) (hf : ∀ k, 0 ≤ k → k < F 101 → A 36 k = A 9 k ∧ A 37 k = A 10 k ∧ A 38 k = A 11 k ∧ A 39 k = A 12 k ∧ A 40 k = A 13 k) (hct : ∀ a, 0 ≤ a → a < F 100 → A 44 a = A 7 a ∧ 1 ≤ A 7 a) (hsum : sI (A 7) (F 100) ≤ 400) (R : RdOK F A) (M : RmOK F A) :
    F 201 = F 520 ∧ (∀ j, 0 ≤ j → j < F 201 → A 14 j = A 48 j) ∧ (∀ a, 0 ≤ a → a < F 100 → A 15 a = A 45 a) ∧ ∀ k, 0 ≤ k → k < F 101 → A 17 k = A 47 k := by
  obtain ⟨r1, r2, r3, r4⟩ := R
  obtain ⟨m1, m2, m3, m4⟩ := M
  rw [e1, e2] at m2 m3 m4
  have h0 : rat (F 100) (F 101) (A 7, A 13, A 13) (A 44, A 40, A 40).1 (A 44, A 40, A 40).2.1 (A 44, A 40, A 40).2.2 := ⟨fun a a0 a1 => (hct a a0 a1).1, fun k k0 k1 => ⟨(hf k k0 k1).2.2.2.2, (hf k k0 k1).2.2.2.2⟩⟩
  have hf4 : ∀ k, 0 ≤ k → k < F 101 → A 36 k = A 9 k ∧ A 37 k = A 10 k ∧ A 38 k = A 11 k ∧ A 39 k = A 12 k := fun k k0 k1 => ⟨(hf k k0 k1).1, (hf k k0 k1).2.1, (hf k k0 k1).2.2.1, (hf k k0 k1).2.2.2.1⟩
  have hnon : rnon (F 100) (F 101) (A 10) (A 12) (rrun (A 9) (A 10) (A 11) (A 12) (A 7, A 13, A 13) (A 14) (F 201).toNat) := by
    rcases r4 with h | h
    · have s1 := rok_sum (F 201).toNat r2
      have hb := rok_bound (n := F 100) (m := F 101) (fr := A 9) (to := A 10) (pu := A 11) (tk := A 12) (T := (A 7, A 13, A 13)) (od := A 14) (fun k k0 k1 => (hc k k0 k1).2.2.1) (fun k k0 k1 => (hc k k0 k1).2.2.2.1) ⟨fun a a0 a1 => by have := (hct a a0 a1).2; show 0 ≤ A 7 a; omega, fun k k0 k1 => ⟨(hc k k0 k1).2.2.2.2, (hc k k0 k1).2.2.2.2⟩⟩ (F 201).toNat r2
      intro b b0 b1 hr
      have s2 := sI_le (f := (rrun (A 9) (A 10) (A 11) (A 12) (A 7, A 13, A 13) (A 14) (F 201).toNat).1) (n := F 100) (fun a a0 a1 => (hb.1 a a0 a1).1) b b0 b1
      have s3 := hr.1
      have s4 : sI (A 7, A 13, A 13).1 (F 100) = sI (A 7) (F 100) := rfl
      omega
    · exact h
  obtain ⟨c1, c2⟩ := rok_co hf4 h0 r2
  have d1 := rok_len c2 m2 (non_co hf4 (c1 _ (Nat.le_refl _)) hnon) m4
  have d2 := rok_same m2 c2 (F 201).toNat (by omega) (Nat.le_refl _)
  have ed : F 201 = F 520 := by omega
  have c3 := c1 _ (Nat.le_refl (F 201).toNat)
  rw [d2.1] at c3
  have m3' := m3
  rw [← d1] at m3'
  refine ⟨ed, fun j j0 j1 => ?_, fun a a0 a1 => ?_, fun k k0 k1 => ?_⟩
  · have := d2.2 j.toNat (by omega)
    rw [show ((j.toNat : Nat) : Int) = j by omega] at this
    exact this
  · rw [r3.1 a a0 a1, m3'.1 a a0 a1, c3.1 a a0 a1]
  · rw [(r3.2 k k0 k1).2, (m3'.2 k k0 k1).2, (c3.2 k k0 k1).2]
