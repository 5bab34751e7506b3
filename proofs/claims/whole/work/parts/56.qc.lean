/-! The graph of waits: what its edges hold, and that no loop comes back within a round -/
theorem ediv_b {a c lo hi : Int} (hc : 1 ≤ c) (h1 : lo ≤ 0) (h2 : lo ≤ a) (h3 : a < hi * c) : lo ≤ a / c ∧ a / c < hi := by
  refine ⟨Int.le_ediv_of_mul_le (by omega) ?_, Int.ediv_lt_of_lt_mul (by omega) h3⟩
  have : lo * c ≤ lo * 1 := Int.mul_le_mul_of_nonpos_left h1 hc
  omega
section PE
variable {A : Nat → Int → Int} {root n m : Int}
theorem pe_ok (hct : ∀ a, 0 ≤ a → a < n → 1 ≤ A 7 a) (hch : ∀ k, 0 ≤ k → k < m → (0 ≤ A 9 k ∧ A 9 k < n) ∧ (0 ≤ A 10 k ∧ A 10 k < n) ∧ (1 ≤ A 11 k ∧ A 11 k ≤ 9) ∧ (1 ≤ A 12 k ∧ A 12 k ≤ 9) ∧ 0 ≤ A 13 k ∧ A 13 k ≤ 99) (htm : ∀ a, 0 ≤ a → a < n → 1 ≤ A 6 a ∧ A 6 a ≤ 9) (hsame : ∀ k, 0 ≤ k → k < m → A 8 (A 9 k) = A 8 (A 10 k)) (hsol : sol m (A 9) (A 10) (A 11) (A 12) (A 7)) {u v s w : Int} (h : pG A root n m u v s w) :
    (0 ≤ u ∧ u < sI (gS A root) n) ∧ (0 ≤ v ∧ v < sI (gS A root) n) ∧ (1 ≤ s ∧ s ≤ 9) ∧ 0 ≤ w ∧ w ≤ 100 := by
  rcases h with ⟨b, b0, b1, b2, b3, x, x0, x1, x2, x3, x4⟩ | ⟨k, k0, k1, k2, k3, j, j0, j1, k4, k5, k6⟩
  · obtain ⟨g1, g2⟩ := gN_in hct b0 b1 b2 b1 (Int.le_refl n)
    have t := htm b b0 b1
    rw [b3]
    by_cases e : x = 0
    · rw [if_pos e] at x2 x4
      exact ⟨by omega, by omega, t, by omega⟩
    · rw [if_neg e] at x2 x4
      exact ⟨by omega, by omega, t, by omega⟩
  · obtain ⟨f, t, pp, tt, tok⟩ := hch k k0 k1
    have k2' : A 8 (A 9 k) = root := k2
    have k3' : s = A 6 (A 9 k) := k3
    have j1' : j < A 7 (A 10 k) := j1
    have k4' : u = sI (gS A root) (A 9 k) + wf A k j % A 7 (A 9 k) := k4
    have k5' : v = sI (gS A root) (A 10 k) + j := k5
    have k6' : w = -(wf A k j / A 7 (A 9 k)) := k6
    obtain ⟨g1, g2⟩ := gN_in hct f.1 f.2 k2' f.2 (Int.le_refl n)
    obtain ⟨g3, g4⟩ := gN_in hct t.1 t.2 ((hsame k k0 k1).symm.trans k2') t.2 (Int.le_refl n)
    have cf := hct _ f.1 f.2
    have e1 := Int.emod_nonneg (wf A k j) (show A 7 (A 9 k) ≠ 0 by omega)
    have e2 := Int.emod_lt_of_pos (wf A k j) (show 0 < A 7 (A 9 k) by omega)
    have e3 := htm _ f.1 f.2
    have e4 := hsol k k0 k1
    have e5 : (j + 1) * A 12 k ≤ A 7 (A 10 k) * A 12 k := Int.mul_le_mul_of_nonneg_right (by omega) (by omega)
    have e6 : 1 * 1 ≤ (j + 1) * A 12 k := Int.mul_le_mul (by omega) (by omega) (by decide) (by omega)
    have e7 := ediv_b (a := (j + 1) * A 12 k - A 13 k - 1) (c := A 11 k) (lo := -99) (hi := A 7 (A 9 k)) (by omega) (by decide) (by omega) (by omega)
    have e8 : -99 ≤ wf A k j ∧ wf A k j < A 7 (A 9 k) := e7
    have e9 := ediv_b (a := wf A k j) (c := A 7 (A 9 k)) (lo := -99) (hi := 1) cf (by decide) e8.1 (by omega)
    rw [k3']
    exact ⟨by omega, by omega, e3, by omega⟩
end PE
section LP
variable {A : Nat → Int → Int} {root n m : Int} {d : Nat}
abbrev rnA (A : Nat → Int → Int) (k : Nat) : rT := rrun (A 9) (A 10) (A 11) (A 12) (A 7, A 13, A 13) (A 14) k
/-- how often b has been done in the first k steps -/
def occ (A : Nat → Int → Int) (b : Int) (k : Nat) : Int := A 7 b - (rnA A k).1 b
theorem occ_0 {b : Int} : occ A b 0 = 0 := by unfold occ; show A 7 b - A 7 b = 0; omega
theorem occ_s {b : Int} {k : Nat} : occ A b (k + 1) = occ A b k + if b = A 14 k then 1 else 0 := by
  unfold occ
  show A 7 b - upI (rnA A k).1 (A 14 k) ((rnA A k).1 (A 14 k) - 1) b = _
  unfold upI
  by_cases e : b = A 14 k
  · rw [if_pos e, if_pos e, e]; omega
  · rw [if_neg e, if_neg e]; omega
theorem tok_k {c : Int} : ∀ k : Nat, (rnA A k).2.1 c = A 13 c - A 12 c * occ A (A 10 c) k + A 11 c * occ A (A 9 c) k
  | 0 => by
    rw [occ_0, occ_0]
    show A 13 c = _
    omega
  | k + 1 => by
    show (rnA A k).2.1 c - (if A 10 c = A 14 k then A 12 c else 0) + (if A 9 c = A 14 k then A 11 c else 0) = _
    rw [tok_k k, occ_s, occ_s, Int.mul_add, Int.mul_add]
    by_cases e1 : A 10 c = A 14 k
    · by_cases e2 : A 9 c = A 14 k
      · rw [if_pos e1, if_pos e2, if_pos e1, if_pos e2]; omega
      · rw [if_pos e1, if_neg e2, if_pos e1, if_neg e2]; omega
    · by_cases e2 : A 9 c = A 14 k
      · rw [if_neg e1, if_pos e2, if_neg e1, if_pos e2]; omega
      · rw [if_neg e1, if_neg e2, if_neg e1, if_neg e2]; omega
theorem occ_iv {b x : Int} (hx : 0 ≤ x) : ∀ K : Nat, x < occ A b K → ∃ k : Nat, k < K ∧ A 14 k = b ∧ occ A b k = x
  | 0, h => by rw [occ_0] at h; omega
  | K + 1, h => by
    by_cases c : x < occ A b K
    · obtain ⟨k, h1, h2⟩ := occ_iv hx K c
      exact ⟨k, by omega, h2⟩
    · rw [occ_s] at h
      by_cases e : b = A 14 K
      · rw [if_pos e] at h
        exact ⟨K, by omega, e.symm, by omega⟩
      · rw [if_neg e] at h; omega
/-- the node v is done at step k -/
def fir (A : Nat → Int → Int) (root n v : Int) (k : Nat) : Prop := ∃ b x, (0 ≤ b ∧ b < n) ∧ A 8 b = root ∧ (0 ≤ x ∧ x < A 7 b) ∧ v = sI (gS A root) b + x ∧ A 14 k = b ∧ occ A b k = x
theorem nod_1 (hct : ∀ a, 0 ≤ a → a < n → 1 ≤ A 7 a) {b x c y : Int} (hb : 0 ≤ b ∧ b < n) (rb : A 8 b = root) (hx : 0 ≤ x ∧ x < A 7 b) (hc : 0 ≤ c ∧ c < n) (rc : A 8 c = root) (hy : 0 ≤ y ∧ y < A 7 c) (e : sI (gS A root) b + x = sI (gS A root) c + y) : b = c ∧ x = y := by
  by_cases c1 : b < c
  · have := (gN_in hct hb.1 hb.2 rb c1 (by omega)).2; omega
  · by_cases c2 : c < b
    · have := (gN_in hct hc.1 hc.2 rc c2 (by omega)).2; omega
    · obtain rfl : b = c := by omega
      exact ⟨rfl, by omega⟩
theorem fir_b (hct : ∀ a, 0 ≤ a → a < n → 1 ≤ A 7 a) (hch : ∀ k, 0 ≤ k → k < m → (0 ≤ A 9 k ∧ A 9 k < n) ∧ (0 ≤ A 10 k ∧ A 10 k < n) ∧ (1 ≤ A 11 k ∧ A 11 k ≤ 9) ∧ (1 ≤ A 12 k ∧ A 12 k ≤ 9) ∧ 0 ≤ A 13 k ∧ A 13 k ≤ 99) (hsame : ∀ k, 0 ≤ k → k < m → A 8 (A 9 k) = A 8 (A 10 k)) (hr : rok n m (A 9) (A 10) (A 11) (A 12) (A 7, A 13, A 13) (A 14) d)
    {u v s : Int} (h : pG A root n m u v s 0) {k : Nat} (hk : k < d) (hf : fir A root n v k) : ∃ k' : Nat, k' < k ∧ fir A root n u k' := by
  obtain ⟨b, x, hb, rb, hx, hv, ho, hoc⟩ := hf
  rcases h with ⟨b', b0, b1, b2, b3, x', x0, x1, x2, x3, x4⟩ | ⟨c, k0, k1, k2, k3, j, j0, j1, k4, k5, k6⟩
  · have nz : x' ≠ 0 := fun e => by rw [if_pos e] at x4; omega
    rw [if_neg nz] at x2
    obtain ⟨rfl, rfl⟩ := nod_1 hct hb rb hx ⟨b0, b1⟩ b2 ⟨x0, x1⟩ (hv.symm.trans x3)
    obtain ⟨k', g1, g2, g3⟩ := occ_iv (A := A) (b := b) (x := x - 1) (by omega) k (by omega)
    exact ⟨k', g1, b, x - 1, hb, rb, by omega, by omega, g2, g3⟩
  · obtain ⟨f, t, pp, tt, tok⟩ := hch c k0 k1
    have k2' : A 8 (A 9 c) = root := k2
    have j1' : j < A 7 (A 10 c) := j1
    have k4' : u = sI (gS A root) (A 9 c) + wf A c j % A 7 (A 9 c) := k4
    have k5' : v = sI (gS A root) (A 10 c) + j := k5
    have k6' : (0 : Int) = -(wf A c j / A 7 (A 9 c)) := k6
    obtain ⟨e1, rfl⟩ := nod_1 hct hb rb hx t ((hsame c k0 k1).symm.trans k2') ⟨j0, j1'⟩ (hv.symm.trans k5')
    have cf := hct _ f.1 f.2
    have q1 := Int.emod_add_mul_ediv (wf A c x) (A 7 (A 9 c))
    have q2 := Int.emod_nonneg (wf A c x) (show A 7 (A 9 c) ≠ 0 by omega)
    have q3 := Int.emod_lt_of_pos (wf A c x) (show 0 < A 7 (A 9 c) by omega)
    rw [show wf A c x / A 7 (A 9 c) = 0 by omega, Int.mul_zero, Int.add_zero] at q1
    have rd := (hr k hk).2.1.2 c k0 k1 (by rw [ho, e1])
    rw [show (rrun (A 9) (A 10) (A 11) (A 12) (A 7, A 13, A 13) (A 14) k).2.1 c = A 13 c - A 12 c * occ A (A 10 c) k + A 11 c * occ A (A 9 c) k from tok_k k, ← e1, hoc] at rd
    have w1 : wf A c x < occ A (A 9 c) k := by
      refine Int.ediv_lt_of_lt_mul (by omega) ?_
      have z1 : (x + 1) * A 12 c = A 12 c * x + A 12 c := by rw [Int.add_mul, Int.one_mul, Int.mul_comm]
      have z2 := Int.mul_comm (occ A (A 9 c) k) (A 11 c)
      omega
    obtain ⟨k', g1, g2, g3⟩ := occ_iv (A := A) (b := A 9 c) (x := wf A c x) (by omega) k w1
    exact ⟨k', g1, A 9 c, wf A c x, f, k2', by omega, by omega, g2, g3⟩
theorem snN_z {f : Nat → Int} : ∀ k : Nat, (∀ i, i < k → 0 ≤ f i) → 0 ≤ snN f k ∧ (snN f k = 0 → ∀ i, i < k → f i = 0)
  | 0, _ => ⟨by show (0 : Int) ≤ 0; omega, fun _ i hi => by omega⟩
  | k + 1, h => by
    obtain ⟨h1, h2⟩ := snN_z k (fun i hi => h i (by omega))
    have h3 := h k (by omega)
    have e : snN f (k + 1) = snN f k + f k := rfl
    refine ⟨by omega, fun hz i hi => ?_⟩
    by_cases c : i = k
    · subst c; omega
    · exact h2 (by omega) i (by omega)
/-- every loop takes a round or more -/
theorem lp_ok (hct : ∀ a, 0 ≤ a → a < n → 1 ≤ A 7 a) (hch : ∀ k, 0 ≤ k → k < m → (0 ≤ A 9 k ∧ A 9 k < n) ∧ (0 ≤ A 10 k ∧ A 10 k < n) ∧ (1 ≤ A 11 k ∧ A 11 k ≤ 9) ∧ (1 ≤ A 12 k ∧ A 12 k ≤ 9) ∧ 0 ≤ A 13 k ∧ A 13 k ≤ 99) (htm : ∀ a, 0 ≤ a → a < n → 1 ≤ A 6 a ∧ A 6 a ≤ 9) (hsame : ∀ k, 0 ≤ k → k < m → A 8 (A 9 k) = A 8 (A 10 k)) (hsol : sol m (A 9) (A 10) (A 11) (A 12) (A 7)) (hr : rok n m (A 9) (A 10) (A 11) (A 12) (A 7, A 13, A 13) (A 14) d) (hal : ∀ a, 0 ≤ a → a < n → (rnA A d).1 a = 0) :
    ∀ T R, lpE (pG A root n m) T R → 1 ≤ R := by
  rintro T R ⟨k, nd, tt, ww, h1, h2, h3, -, h5⟩
  have hw : ∀ i, i < k → 0 ≤ ww i := fun i hi => (pe_ok hct hch htm hsame hsol (h3 i hi)).2.2.2.1
  obtain ⟨g1, g2⟩ := snN_z k hw
  refine Int.le_of_not_gt (fun hc => ?_)
  have hz := g2 (by omega)
  have he : ∀ i, i < k → pG A root n m (nd (i + 1)) (nd i) (tt i) 0 := fun i hi => by rw [← hz i hi]; exact h3 i hi
  have none : ∀ t : Nat, t < d → ∀ i, i < k → ¬ fir A root n (nd i) t := by
    intro t
    induction t using Nat.strongRecOn with
    | ind t ih =>
      intro ht i hi hf
      obtain ⟨t', q1, q2⟩ := fir_b hct hch hsame hr (he i hi) ht hf
      by_cases c : i + 1 = k
      · rw [c, h2] at q2
        exact ih t' q1 (by omega) 0 (by omega) q2
      · exact ih t' q1 (by omega) (i + 1) (by omega) q2
  have fin : ∀ b x, (0 ≤ b ∧ b < n) → A 8 b = root → (0 ≤ x ∧ x < A 7 b) → nd 0 = sI (gS A root) b + x → False := by
    intro b x hb rb hx e
    have h9 : occ A b d = A 7 b := by unfold occ; rw [hal b hb.1 hb.2]; omega
    obtain ⟨t, q1, q2, q3⟩ := occ_iv (A := A) (b := b) (x := x) hx.1 d (by omega)
    exact none t q1 0 (by omega) ⟨b, x, hb, rb, hx, e, q2, q3⟩
  rcases he 0 (by omega) with ⟨b', b0, b1, b2, b3, x', x0, x1, x2, x3, x4⟩ | ⟨c, k0, k1, k2, k3, j, j0, j1, k4, k5, k6⟩
  · exact fin b' x' ⟨b0, b1⟩ b2 ⟨x0, x1⟩ x3
  · exact fin (A 10 c) j (hch c k0 k1).2.1 ((hsame c k0 k1).symm.trans k2) ⟨j0, j1⟩ k5
end LP
