/-- numbers of a part with the first nodes by their sums -/
def m18 (B : Nat → Int → Int) (root : Int) (k : Nat) : Int → Int := if k = 18 then sI (gS B root) else B k
def pG (B : Nat → Int → Int) (root n m u v s w : Int) : Prop := fT B root n u v s w ∨ wT (m18 B root) root m u v s w
theorem pE_G {A : Nat → Int → Int} {n m root u v s w : Int} : pE n m A root u v s w = pG (mA A) root n m u v s w := rfl
theorem E4_I {E : Int} {x y z N : Int → Int} {u v s w : Int} : E4 E x y (fun e => N (x e)) z u v s w ↔ EIn E x y z u v w ∧ s = N u := by
  constructor
  · rintro ⟨e, h0, h1, h2, h3, h4, h5⟩; exact ⟨⟨e, h0, h1, h2, h3, h5⟩, by rw [← h2]; exact h4.symm⟩
  · rintro ⟨⟨e, h0, h1, h2, h3, h5⟩, h4⟩; exact ⟨e, h0, h1, h2, h3, by show N (x e) = s; rw [h2, h4], h5⟩
theorem fE_fT {A : Nat → Int → Int} {N : Int → Int} {root n u v s w : Int} (hc : ∀ b, 0 ≤ b → b < n → 1 ≤ A 7 b) (h19 : ∀ b, 0 ≤ b → b < n → A 8 b = root → ∀ x, 0 ≤ x → x < A 7 b → N (sI (gS A root) b + x) = A 6 b) : (fE A root n u v w ∧ s = N u) ↔ fT A root n u v s w := by
  constructor
  · rintro ⟨⟨b, b0, b1, b2, h⟩, hs⟩
    have c := hc b b0 b1
    rcases h with ⟨h1, h2, h3⟩ | ⟨x, x0, x1, h1, h2, h3⟩
    · refine ⟨b, b0, b1, b2, ?_, 0, by omega, by omega, by rw [if_pos rfl]; omega, by omega, by rw [if_pos rfl]; exact h3⟩
      rw [hs, h1, show sI (gS A root) b + A 7 b - 1 = sI (gS A root) b + (A 7 b - 1) by omega, h19 b b0 b1 b2 _ (by omega) (by omega)]
    · refine ⟨b, b0, b1, b2, ?_, x, by omega, by omega, by rw [if_neg (by omega)]; omega, by omega, by rw [if_neg (by omega)]; exact h3⟩
      rw [hs, h1, show sI (gS A root) b + x - 1 = sI (gS A root) b + (x - 1) by omega, h19 b b0 b1 b2 _ (by omega) (by omega)]
  · rintro ⟨b, b0, b1, b2, hs, x, x0, x1, h1, h2, h3⟩
    have c := hc b b0 b1
    by_cases e : x = 0
    · rw [if_pos e] at h1 h3
      refine ⟨⟨b, b0, b1, b2, Or.inl ⟨by omega, by omega, h3⟩⟩, ?_⟩
      rw [hs, h1, h19 b b0 b1 b2 _ (by omega) (by omega)]
    · rw [if_neg e] at h1 h3
      refine ⟨⟨b, b0, b1, b2, Or.inr ⟨x, by omega, by omega, by omega, by omega, h3⟩⟩, ?_⟩
      rw [hs, h1, h19 b b0 b1 b2 _ (by omega) (by omega)]
theorem wA_wT {A A' : Nat → Int → Int} {N : Int → Int} {root n m u v s w : Int} (hc : ∀ b, 0 ≤ b → b < n → 1 ≤ A 7 b) (hch : ∀ k, 0 ≤ k → k < m → (0 ≤ A 9 k ∧ A 9 k < n) ∧ (0 ≤ A 10 k ∧ A 10 k < n)) (hsame : ∀ k, 0 ≤ k → k < m → A 8 (A 9 k) = A 8 (A 10 k)) (hk : ∀ k, 6 ≤ k → k ≤ 13 → A' k = A k) (h18 : ∀ b, 0 ≤ b → b < n → A 8 b = root → A' 18 b = sI (gS A root) b)
    (h19 : ∀ b, 0 ≤ b → b < n → A 8 b = root → ∀ x, 0 ≤ x → x < A 7 b → N (sI (gS A root) b + x) = A 6 b) : (wA A' root m u v w ∧ s = N u) ↔ wT (m18 A root) root m u v s w := by
  have key : ∀ k, 0 ≤ k → k < m → A 8 (A 9 k) = root → ∀ i, wE A' k i u v w ↔ wE (m18 A root) k i u v w := by
    intro k k0 k1 k2 i
    obtain ⟨c1, c2⟩ := hch k k0 k1
    have e1 := h18 (A 9 k) c1.1 c1.2 k2
    have e2 := h18 (A 10 k) c2.1 c2.2 (by rw [← hsame k k0 k1]; exact k2)
    unfold wE wf
    rw [hk 9 (by decide) (by decide), hk 10 (by decide) (by decide), hk 11 (by decide) (by decide), hk 12 (by decide) (by decide), hk 13 (by decide) (by decide), hk 7 (by decide) (by decide), e1, e2]
    exact Iff.rfl
  constructor
  · rintro ⟨⟨k, k0, k1, k2, h⟩, hs⟩
    rw [hk 9 (by decide) (by decide), hk 8 (by decide) (by decide)] at k2
    rw [hk 10 (by decide) (by decide), hk 7 (by decide) (by decide)] at h
    have h := (key k k0 k1 k2 _).mp h
    refine ⟨k, k0, k1, k2, ?_, h⟩
    obtain ⟨c1, c2⟩ := hch k k0 k1
    obtain ⟨j, j0, j1, h1, h2, h3⟩ := h
    have c := hc (A 9 k) c1.1 c1.2
    have r1 := Int.emod_nonneg (wf (m18 A root) k j) (show A 7 (A 9 k) ≠ 0 by omega)
    have r2 := Int.emod_lt_of_pos (wf (m18 A root) k j) (show 0 < A 7 (A 9 k) by omega)
    rw [hs, h1]
    exact h19 (A 9 k) c1.1 c1.2 k2 _ r1 r2
  · rintro ⟨k, k0, k1, k2, hs, h⟩
    refine ⟨⟨k, k0, k1, ?_, ?_⟩, ?_⟩
    · rw [hk 9 (by decide) (by decide), hk 8 (by decide) (by decide)]; exact k2
    · rw [hk 10 (by decide) (by decide), hk 7 (by decide) (by decide)]; exact (key k k0 k1 k2 _).mpr h
    · obtain ⟨c1, c2⟩ := hch k k0 k1
      obtain ⟨j, j0, j1, h1, h2, h3⟩ := h
      have c := hc (A 9 k) c1.1 c1.2
      have r1 := Int.emod_nonneg (wf (m18 A root) k j) (show A 7 (A 9 k) ≠ 0 by omega)
      have r2 := Int.emod_lt_of_pos (wf (m18 A root) k j) (show 0 < A 7 (A 9 k) by omega)
      rw [hs, h1]
      exact (h19 (A 9 k) c1.1 c1.2 k2 _ r1 r2).symm
/-! The least loop through a node, and sums over its nodes -/
theorem rx_min {f : Int → Int} {z : Int} : ∀ i : Nat, 1 ≤ i → rx_it f i z = z → ∃ L, 1 ≤ L ∧ L ≤ i ∧ rx_it f L z = z ∧ ∀ j, 1 ≤ j → j < L → rx_it f j z ≠ z := by
  intro i
  induction i using Nat.strongRecOn with
  | ind i ih =>
    intro hi hc
    by_cases h : ∃ j, 1 ≤ j ∧ j < i ∧ rx_it f j z = z
    · obtain ⟨j, j0, j1, j2⟩ := h
      obtain ⟨L, l1, l2, l3, l4⟩ := ih j j1 j0 j2
      exact ⟨L, l1, by omega, l3, l4⟩
    · exact ⟨i, hi, Nat.le_refl _, hc, fun j j0 j1 j2 => h ⟨j, j0, j1, j2⟩⟩
theorem rx_dis {f : Int → Int} {z : Int} {L : Nat} (hc : rx_it f L z = z) (hm : ∀ j, 1 ≤ j → j < L → rx_it f j z ≠ z) : ∀ j k, j < k → k < L → rx_it f j z ≠ rx_it f k z := by
  intro j k hjk hk he
  have e : rx_it f (j + (L - k)) z = z := by
    rw [rx_it_add, he, ← rx_it_add, show k + (L - k) = L by omega]; exact hc
  exact hm (j + (L - k)) (by omega) (by omega) e
theorem sn_dis {N : Int} {a : Nat → Int} : ∀ (L : Nat) (g : Int → Int), (∀ j, j < L → 0 ≤ a j ∧ a j < N) → (∀ j k, j < k → k < L → a j ≠ a k) → (∀ v, 0 ≤ v → v < N → 0 ≤ g v) → 0 ≤ N → snN (fun j => g (a j)) L ≤ sI g N := by
  intro L
  induction L with
  | zero => intro g _ _ hg hN; exact (sI_mon hg 0 (by omega) N hN (Int.le_refl _))
  | succ L ih =>
    intro g ha hd hg hN
    have hL := ha L (by omega)
    have h1 := ih (upI g (a L) 0) (fun j hj => ha j (by omega)) (fun j k h1 h2 => hd j k h1 (by omega)) (fun v v0 v1 => by
      unfold upI; split
      · omega
      · exact hg v v0 v1) hN
    rw [sI_up hL.1 hL.2] at h1
    have e : snN (fun j => upI g (a L) 0 (a j)) L = snN (fun j => g (a j)) L := by
      have key : ∀ t, t ≤ L → snN (fun j => upI g (a L) 0 (a j)) t = snN (fun j => g (a j)) t := by
        intro t
        induction t with
        | zero => intro _; rfl
        | succ t iht =>
          intro ht
          show snN _ t + upI g (a L) 0 (a t) = snN _ t + g (a t)
          rw [iht (by omega), upI_n (hd t L (by omega) (by omega))]
      exact key L (Nat.le_refl _)
    rw [e] at h1
    show snN (fun j => g (a j)) L + g (a L) ≤ sI g N
    omega
theorem st_sum {g : Int → Int} {S t : Int} (hS : 0 ≤ S) : ∀ c : Nat, (∀ x, 0 ≤ x → x < (c : Int) → g (S + x) = t) → sI g (S + c) = sI g S + c * t := by
  intro c
  induction c with
  | zero => intro _; simp
  | succ c ih =>
    intro h
    rw [show S + ((c + 1 : Nat) : Int) = S + c + 1 by omega, sI_s (by omega), ih (fun x x0 x1 => h x x0 (by omega)), h c (by omega) (by omega), show ((c + 1 : Nat) : Int) = (c : Int) + 1 by omega, Int.add_mul]
    omega
theorem tot_sum {A : Nat → Int → Int} {N : Int → Int} {root n : Int} (hc : ∀ b, 0 ≤ b → b < n → 1 ≤ A 7 b) (h19 : ∀ b, 0 ≤ b → b < n → A 8 b = root → ∀ x, 0 ≤ x → x < A 7 b → N (sI (gS A root) b + x) = A 6 b) : ∀ i : Nat, (i : Int) ≤ n → 0 ≤ sI (gS A root) i ∧ sI N (sI (gS A root) i) = sI (fun b => if A 8 b = root then A 7 b * A 6 b else 0) i := by
  intro i
  induction i with
  | zero => intro _; exact ⟨Int.le_refl _, rfl⟩
  | succ i ih =>
    intro hi
    obtain ⟨h0, h1⟩ := ih (by omega)
    have c := hc i (by omega) (by omega)
    rw [show ((i + 1 : Nat) : Int) = (i : Int) + 1 by omega, sI_s (by omega), sI_s (by omega)]
    unfold gS
    by_cases e : A 8 (i : Int) = root
    · rw [if_pos e, if_pos e]
      have := st_sum (g := N) (S := sI (gS A root) i) (t := A 6 i) h0 (A 7 i).toNat (fun x x0 x1 => h19 i (by omega) (by omega) e x x0 (by omega))
      rw [show (((A 7 i).toNat : Nat) : Int) = A 7 i by omega] at this
      refine ⟨by show 0 ≤ sI (gS A root) i + A 7 i; omega, ?_⟩
      show sI N (sI (gS A root) i + A 7 i) = _
      rw [this, h1]
    · rw [if_neg e, if_neg e]
      refine ⟨by show 0 ≤ sI (gS A root) i + 0; omega, ?_⟩
      show sI N (sI (gS A root) i + 0) = _
      rw [show sI (gS A root) i + 0 = sI (gS A root) i by omega, h1]; omega
/-- each node belongs to a firing -/
theorem gS_find {A : Nat → Int → Int} {root n : Int} : ∀ i : Nat, (i : Int) ≤ n → ∀ v, 0 ≤ v → v < sI (gS A root) i → ∃ b, 0 ≤ b ∧ b < (i : Int) ∧ A 8 b = root ∧ ∃ x, 0 ≤ x ∧ x < A 7 b ∧ v = sI (gS A root) b + x := by
  intro i
  induction i with
  | zero => intro _ v v0 v1; exact absurd v1 (by show ¬ v < 0; omega)
  | succ i ih =>
    intro hi v v0 v1
    rw [show ((i + 1 : Nat) : Int) = (i : Int) + 1 by omega, sI_s (by omega)] at v1
    by_cases h : v < sI (gS A root) i
    · obtain ⟨b, b0, b1, b2⟩ := ih (by omega) v v0 h
      exact ⟨b, b0, by omega, b2⟩
    · by_cases e : A 8 (i : Int) = root
      · have e2 : gS A root i = A 7 i := by unfold gS; rw [if_pos e]
        exact ⟨i, by omega, by omega, e, v - sI (gS A root) i, by omega, by omega, by omega⟩
      · have e2 : gS A root i = 0 := by unfold gS; rw [if_neg e]
        omega
/-! Ratios -/
theorem rat_low {T R : Int} (hT : 1 ≤ T) (hR : 1 ≤ R) : T = gI T R * T.tdiv (gI T R) ∧ R = gI T R * R.tdiv (gI T R) ∧ 1 ≤ gI T R ∧ 1 ≤ T.tdiv (gI T R) ∧ 1 ≤ R.tdiv (gI T R) ∧ ∀ P Q, 1 ≤ Q → P * R.tdiv (gI T R) = T.tdiv (gI T R) * Q → R.tdiv (gI T R) ≤ Q := by
  obtain ⟨t, rfl⟩ : ∃ t : Nat, T = (t : Int) := ⟨T.toNat, by omega⟩
  obtain ⟨r, rfl⟩ : ∃ r : Nat, R = (r : Int) := ⟨R.toNat, by omega⟩
  have eg : gI (t : Int) (r : Int) = ((Nat.gcd t r : Nat) : Int) := by unfold gI; rw [Int.toNat_natCast, Int.toNat_natCast]
  have hg : 0 < Nat.gcd t r := Nat.gcd_pos_of_pos_left r (by omega)
  have e1 : (t : Int).tdiv (gI t r) = ((t / Nat.gcd t r : Nat) : Int) := by rw [eg]; rfl
  have e2 : (r : Int).tdiv (gI t r) = ((r / Nat.gcd t r : Nat) : Int) := by rw [eg]; rfl
  have d1 : Nat.gcd t r * (t / Nat.gcd t r) = t := Nat.mul_div_cancel' (Nat.gcd_dvd_left t r)
  have d2 : Nat.gcd t r * (r / Nat.gcd t r) = r := Nat.mul_div_cancel' (Nat.gcd_dvd_right t r)
  have p1 : 1 ≤ t / Nat.gcd t r := Nat.div_pos (Nat.le_of_dvd (by omega) (Nat.gcd_dvd_left t r)) hg
  have p2 : 1 ≤ r / Nat.gcd t r := Nat.div_pos (Nat.le_of_dvd (by omega) (Nat.gcd_dvd_right t r)) hg
  have cop : Nat.Coprime (t / Nat.gcd t r) (r / Nat.gcd t r) := Nat.coprime_div_gcd_div_gcd hg
  rw [e1, e2, eg]
  refine ⟨by exact_mod_cast d1.symm, by exact_mod_cast d2.symm, by omega, by omega, by omega, fun P Q hQ he => ?_⟩
  obtain ⟨q, rfl⟩ : ∃ q : Nat, Q = (q : Int) := ⟨Q.toNat, by omega⟩
  have hP : 0 ≤ P := by
    refine Int.le_of_not_gt (fun hc => ?_)
    have a1 : P * ((r / Nat.gcd t r : Nat) : Int) ≤ 0 := by
      have := Int.mul_le_mul_of_nonneg_right (Int.le_of_lt hc) (show 0 ≤ ((r / Nat.gcd t r : Nat) : Int) by omega)
      omega
    have a2 := (mulb (x := ((t / Nat.gcd t r : Nat) : Int)) (y := (q : Int)) ⟨by omega, Int.le_refl _⟩ ⟨hQ, Int.le_refl _⟩).1
    omega
  obtain ⟨p, rfl⟩ : ∃ p : Nat, P = (p : Int) := ⟨P.toNat, by omega⟩
  have he' : p * (r / Nat.gcd t r) = t / Nat.gcd t r * q := by exact_mod_cast he
  have dv : r / Nat.gcd t r ∣ q := Nat.Coprime.dvd_of_dvd_mul_left cop.symm ⟨p, by rw [← he', Nat.mul_comm]⟩
  have := Nat.le_of_dvd (by omega) dv
  omega
/-- how many ratios of few rounds are not above p over q -/
def rk (p q : Int) : Int := p * 1 / q + p * 2 / q + p * 3 / q + p * 4 / q + p * 5 / q + p * 6 / q + p * 7 / q
theorem rk_m {p q P Q t : Int} (hq : 1 ≤ q) (hQ : 1 ≤ Q) (h : p * Q ≤ P * q) (ht : 0 ≤ t) : p * t / q ≤ P * t / Q := by
  refine Int.le_ediv_of_mul_le (by omega) ?_
  have h1 : p * t / q * q ≤ p * t := Int.ediv_mul_le _ (by omega)
  have h2 : p * t / q * q * Q ≤ p * t * Q := Int.mul_le_mul_of_nonneg_right h1 (by omega)
  have h3 : p * Q * t ≤ P * q * t := Int.mul_le_mul_of_nonneg_right h ht
  rw [Int.mul_right_comm p t Q] at h2
  rw [Int.mul_right_comm P q t] at h3
  rw [Int.mul_right_comm (p * t / q) q Q] at h2
  exact Int.le_of_mul_le_mul_right (Int.le_trans h2 h3) (by omega)
theorem rk_lt {p q P Q : Int} (hq : 1 ≤ q) (hQ : 1 ≤ Q ∧ Q ≤ 7) (h : p * Q < P * q) : rk p q + 1 ≤ rk P Q := by
  have h1 : p * Q / q < P := Int.ediv_lt_of_lt_mul (by omega) h
  have h2 : P * Q / Q = P := Int.mul_ediv_cancel _ (by omega)
  have m := fun t ht => rk_m (p := p) (q := q) (P := P) (Q := Q) (t := t) hq hQ.1 (by omega) ht
  have m1 := m 1 (by decide); have m2 := m 2 (by decide); have m3 := m 3 (by decide); have m4 := m 4 (by decide); have m5 := m 5 (by decide); have m6 := m 6 (by decide); have m7 := m 7 (by decide)
  unfold rk
  have c : Q = 1 ∨ Q = 2 ∨ Q = 3 ∨ Q = 4 ∨ Q = 5 ∨ Q = 6 ∨ Q = 7 := by omega
  rcases c with e | e | e | e | e | e | e <;> subst e <;> omega
theorem rk_le {p q L : Int} (hq : 1 ≤ q) (h : p ≤ L * q) : rk p q ≤ 28 * L := by
  have m := fun t ht => rk_m (p := p) (q := q) (P := L) (Q := 1) (t := t) hq (by decide) (by omega) ht
  have m1 := m 1 (by decide); have m2 := m 2 (by decide); have m3 := m 3 (by decide); have m4 := m 4 (by decide); have m5 := m 5 (by decide); have m6 := m 6 (by decide); have m7 := m 7 (by decide)
  unfold rk
  omega
/-- a ratio on the way to the greatest: k steps behind the first -/
def atR (E : Int → Int → Int → Int → Prop) (s Lm p q k : Int) : Prop := (1 ≤ q ∧ q ≤ 7) ∧ (1 ≤ p ∧ p ≤ 360) ∧ (∀ P Q, 1 ≤ Q → P * q = p * Q → q ≤ Q) ∧ (∃ T R, lpE E T R ∧ T * q = p * R ∧ 1 ≤ R) ∧ s * q ≤ p ∧ p ≤ Lm * q ∧ 28 * s + k ≤ rk p q
section ATR
variable {E : Int → Int → Int → Int → Prop} {s Lm p q k T R : Int}
theorem at_b (h : atR E s Lm p q k) (h1 : Lm ≤ 8 * s) (h2 : Lm ≤ 360) : k ≤ 8820 := by
  obtain ⟨a, b, c, d, e, f, g⟩ := h
  have := rk_le a.1 f
  omega
theorem at_0 (hl : lpE E s 1) (h1 : 1 ≤ s) (h2 : s ≤ Lm) (h3 : Lm ≤ 360) : atR E s Lm s 1 0 := by
  refine ⟨by omega, by omega, fun P Q hQ _ => hQ, ⟨s, 1, hl, rfl, by omega⟩, by omega, by omega, ?_⟩
  unfold rk; omega
theorem at_s (h : atR E s Lm p q k) (hs : 1 ≤ s) (h1 : Lm ≤ 8 * s) (h2 : Lm ≤ 360) (hl : lpE E T R) (hR : 1 ≤ R) (hT : T ≤ Lm) (hp : 0 < T * q - p * R) : 1 ≤ T ∧ atR E s Lm (T.tdiv (gI T R)) (R.tdiv (gI T R)) (k + 1) := by
  obtain ⟨a, b, c, d, e, f, g⟩ := h
  have e1 : s * q * R ≤ p * R := Int.mul_le_mul_of_nonneg_right e (by omega)
  have e2 : s * R < T := by
    rw [Int.mul_right_comm] at e1
    exact Int.lt_of_mul_lt_mul_right (show s * R * q < T * q by omega) (by omega)
  have e3 : R < 8 := by
    refine Int.lt_of_not_ge (fun hc => ?_)
    have := Int.mul_le_mul_of_nonneg_left hc (show 0 ≤ s by omega)
    omega
  have e0 := (mulb (x := s) (y := R) ⟨hs, Int.le_refl _⟩ ⟨hR, Int.le_refl _⟩).1
  have hT1 : 1 ≤ T := by omega
  obtain ⟨r1, r2, r3, r4, r5, r6⟩ := rat_low hT1 hR
  refine ⟨hT1, ?_⟩
  generalize hg : gI T R = G at r1 r2 r3 r4 r5 r6 ⊢
  generalize ht : T.tdiv G = t at r1 r4 r6 ⊢
  generalize hr : R.tdiv G = r at r2 r5 r6 ⊢
  have q1 : 1 * r ≤ G * r := Int.mul_le_mul_of_nonneg_right r3 (by omega)
  have q2 : 1 * t ≤ G * t := Int.mul_le_mul_of_nonneg_right r3 (by omega)
  have q3 : p * r < t * q := by
    have z1 : p * R = G * (p * r) := by rw [r2]; simp only [Int.mul_assoc, Int.mul_left_comm]
    have z2 : T * q = G * (t * q) := by rw [r1, Int.mul_assoc]
    exact Int.lt_of_mul_lt_mul_left (show G * (p * r) < G * (t * q) by omega) (by omega)
  refine ⟨by omega, by omega, r6, ⟨T, R, hl, ?_, hR⟩, ?_, ?_, ?_⟩
  · rw [r1, r2]; simp only [Int.mul_assoc, Int.mul_left_comm, Int.mul_comm]
  · have z1 : s * R = G * (s * r) := by rw [r2]; simp only [Int.mul_assoc, Int.mul_left_comm]
    exact Int.le_of_mul_le_mul_left (show G * (s * r) ≤ G * t by omega) (by omega)
  · have z1 : Lm * R = G * (Lm * r) := by rw [r2]; simp only [Int.mul_assoc, Int.mul_left_comm]
    have z2 : Lm * 1 ≤ Lm * R := Int.mul_le_mul_of_nonneg_left hR (by omega)
    exact Int.le_of_mul_le_mul_left (show G * t ≤ G * (Lm * r) by omega) (by omega)
  · have := rk_lt a.1 (show 1 ≤ r ∧ r ≤ 7 by omega) q3
    omega
theorem at_best (h : atR E s Lm p q k) (hx : ∀ T R, lpE E T R → T * q ≤ p * R) : bestR E p q := by
  obtain ⟨a, b, c, d, e, f, g⟩ := h
  exact ⟨by omega, b, c, hx, d⟩
end ATR
/-- an actor's own loop -/
theorem own_loop {A : Nat → Int → Int} {root n m b : Int} (b0 : 0 ≤ b) (b1 : b < n) (b2 : A 8 b = root) (hc : 1 ≤ A 7 b) : lpE (pG A root n m) (A 7 b * A 6 b) 1 := by
  have key : ∀ j : Nat, j ≤ (A 7 b).toNat → snN (fun _ => A 6 b) j = (j : Int) * A 6 b ∧ snN (fun i => if i = 0 then 1 else 0) j = if j = 0 then 0 else 1 := by
    intro j
    induction j with
    | zero => intro _; exact ⟨by simp [snN], rfl⟩
    | succ j ih =>
      intro hj
      obtain ⟨h1, h2⟩ := ih (by omega)
      refine ⟨?_, ?_⟩
      · show snN (fun _ => A 6 b) j + A 6 b = _
        rw [h1, show ((j + 1 : Nat) : Int) = (j : Int) + 1 by omega, Int.add_mul]; omega
      · show snN (fun i => if i = 0 then 1 else 0) j + (if j = 0 then 1 else 0) = _
        rw [h2, if_neg (show ¬ j + 1 = 0 by omega)]
        by_cases e : j = 0
        · rw [if_pos e, if_pos e]; rfl
        · rw [if_neg e, if_neg e]; rfl
  obtain ⟨k1, k2⟩ := key (A 7 b).toNat (Nat.le_refl _)
  refine ⟨(A 7 b).toNat, fun i => sI (gS A root) b + (if i = 0 then 0 else A 7 b - i), fun _ => A 6 b, fun i => if i = 0 then 1 else 0, by omega, ?_, fun i hi => ?_, ?_, ?_⟩
  · show sI (gS A root) b + (if (A 7 b).toNat = 0 then 0 else A 7 b - ((A 7 b).toNat : Int)) = sI (gS A root) b + (if 0 = 0 then 0 else _)
    rw [if_neg (by omega), if_pos rfl]; omega
  · left
    refine ⟨b, b0, b1, b2, rfl, if i = 0 then 0 else A 7 b - i, ?_, ?_, ?_, rfl, ?_⟩
    · split <;> omega
    · split <;> omega
    · show sI (gS A root) b + (if i + 1 = 0 then 0 else A 7 b - ((i + 1 : Nat) : Int)) = _
      rw [if_neg (by omega)]
      by_cases e : i = 0
      · subst e; rw [if_pos rfl, if_pos rfl]; omega
      · rw [if_neg e, if_neg (by omega)]; omega
    · show (if i = 0 then (1 : Int) else 0) = _
      by_cases e : i = 0
      · subst e; rfl
      · rw [if_neg e, if_neg e, if_neg (by omega)]
  · rw [k1, show (((A 7 b).toNat : Nat) : Int) = A 7 b by omega]
  · rw [k2, if_neg (by omega)]
