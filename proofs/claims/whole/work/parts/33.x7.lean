/-- there are counts for the first channels -/
def Solv (n m : Int) (fr to pu tk : Int → Int) : Prop := ∃ K : Int → Int, (∀ y, 0 ≤ y → y < n → 1 ≤ K y) ∧ sol m fr to pu tk K
/-- u is the first channel with which there are none -/
def UN (n m u : Int) (fr to pu tk : Int → Int) : Prop := (u = -1 ∧ ∀ j, 1 ≤ j → j ≤ m → Solv n j fr to pu tk) ∨ ((0 ≤ u ∧ u < m) ∧ (∀ j, 1 ≤ j → j ≤ u → Solv n j fr to pu tk) ∧ ¬ Solv n (u + 1) fr to pu tk)
def prN (f : Int → Int) : Nat → Int
  | 0 => 1
  | j + 1 => prN f j * f j
theorem prN_ok {f : Int → Int} {n : Int} (h : ∀ x, 0 ≤ x → x < n → 1 ≤ f x) : ∀ j : Nat, (j : Int) ≤ n → 1 ≤ prN f j ∧ ∀ x, 0 ≤ x → x < (j : Int) → ∃ d, 1 ≤ d ∧ prN f j = f x * d := by
  intro j
  induction j with
  | zero => intro _; exact ⟨by simp [prN], fun x h0 h1 => by omega⟩
  | succ j ih =>
    intro hj
    obtain ⟨i1, i2⟩ := ih (by omega)
    have hf := h j (by omega) (by omega)
    refine ⟨(mulb ⟨i1, Int.le_refl _⟩ ⟨hf, Int.le_refl _⟩).1, fun x h0 h1 => ?_⟩
    by_cases e : x = j
    · exact ⟨prN f j, i1, by rw [e]; simp only [prN]; rw [Int.mul_comm]⟩
    · obtain ⟨d, d1, d2⟩ := i2 x h0 (by omega)
      exact ⟨d * f j, (mulb ⟨d1, Int.le_refl _⟩ ⟨hf, Int.le_refl _⟩).1, by simp only [prN]; rw [d2, Int.mul_assoc]⟩
theorem fit_iff {n m : Int} {fr to pu tk p ov un : Int → Int} (hn : 0 ≤ n ∧ n ≤ 8) (h : FO n m n fr to pu tk p ov un) (hc : ∀ k, 0 ≤ k → k < m → (0 ≤ fr k ∧ fr k < n) ∧ (0 ≤ to k ∧ to k < n)) :
    (∀ k, 0 ≤ k → k < m → ov (fr k) * pu k * un (to k) = ov (to k) * tk k * un (fr k)) ↔ Solv n m fr to pu tk := by
  have hN : ∀ x, 0 ≤ x → x < n → fN n m fr to pu tk p ov un x := fun x x0 x1 => ((h.1 x x0 x1).resolve_left (h.2.1 x x0 x1 x1)).2
  constructor
  · intro he
    obtain ⟨-, hd⟩ := prN_ok (f := un) (n := n) (fun x x0 x1 => (hN x x0 x1).2.2.2.1.1) n.toNat (by omega)
    have hd2 : ∀ x, 0 ≤ x → x < n → ∃ d, 1 ≤ d ∧ prN un n.toNat = un x * d := fun x x0 x1 => hd x x0 (by omega)
    refine ⟨fun x => ov x * (prN un n.toNat / un x), fun y y0 y1 => ?_, fun k k0 k1 => ?_⟩
    · obtain ⟨d, d1, d2⟩ := hd2 y y0 y1
      have hu := (hN y y0 y1).2.2.2.1
      show 1 ≤ ov y * (prN un n.toNat / un y)
      rw [d2, Int.mul_ediv_cancel_left _ (by omega)]
      exact (mulb ⟨(hN y y0 y1).2.2.1.1, Int.le_refl _⟩ ⟨d1, Int.le_refl _⟩).1
    · obtain ⟨⟨f0, f1⟩, t0, t1⟩ := hc k k0 k1
      obtain ⟨d, d1, d2⟩ := hd2 (fr k) f0 f1
      obtain ⟨d', d1', d2'⟩ := hd2 (to k) t0 t1
      have hu := (hN (fr k) f0 f1).2.2.2.1
      have hu' := (hN (to k) t0 t1).2.2.2.1
      show ov (fr k) * (prN un n.toNat / un (fr k)) * pu k = ov (to k) * (prN un n.toNat / un (to k)) * tk k
      have e1 : prN un n.toNat / un (fr k) = d := by rw [d2, Int.mul_ediv_cancel_left _ (by omega)]
      have e2 : prN un n.toNat / un (to k) = d' := by rw [d2', Int.mul_ediv_cancel_left _ (by omega)]
      rw [e1, e2]
      have e3 : un (fr k) * d = un (to k) * d' := d2.symm.trans d2'
      have e4 := he k k0 k1
      have pos : (0 : Int) < un (fr k) * un (to k) := by have := (mulb hu hu').1; omega
      refine Int.eq_of_mul_eq_mul_left (show un (fr k) * un (to k) ≠ 0 by omega) ?_
      have z1 : un (fr k) * un (to k) * (ov (fr k) * d * pu k) = (ov (fr k) * pu k * un (to k)) * (un (fr k) * d) := by
        simp only [Int.mul_assoc, Int.mul_left_comm, Int.mul_comm]
      have z2 : un (fr k) * un (to k) * (ov (to k) * d' * tk k) = (ov (to k) * tk k * un (fr k)) * (un (to k) * d') := by
        simp only [Int.mul_assoc, Int.mul_left_comm, Int.mul_comm]
      rw [z1, z2, e4, e3]
  · rintro ⟨K, hK1, hK2⟩ k k0 k1
    obtain ⟨⟨f0, f1⟩, t0, t1⟩ := hc k k0 k1
    have a1 := (hN (fr k) f0 f1).2.2.2.2.1 K hK1 hK2
    have a2 := (hN (to k) t0 t1).2.2.2.2.1 K hK1 hK2
    have a3 := hK2 k k0 k1
    have hp := h.2.2 k k0 k1
    have hpn := (hN (to k) t0 t1).1
    have hr : 1 ≤ K (p (to k)) := hK1 _ hpn.1 (by omega)
    rw [hp] at a1
    refine Int.eq_of_mul_eq_mul_left (show K (p (to k)) ≠ 0 by omega) ?_
    have z1 : K (p (to k)) * (ov (fr k) * pu k * un (to k)) = (K (p (to k)) * ov (fr k)) * (pu k * un (to k)) := by simp only [Int.mul_assoc]
    have z2 : K (p (to k)) * (ov (to k) * tk k * un (fr k)) = (K (p (to k)) * ov (to k)) * (tk k * un (fr k)) := by simp only [Int.mul_assoc]
    have z3 : K (fr k) * un (fr k) * (pu k * un (to k)) = (K (fr k) * pu k) * (un (fr k) * un (to k)) := by simp only [Int.mul_assoc, Int.mul_left_comm]
    have z4 : K (to k) * un (to k) * (tk k * un (fr k)) = (K (to k) * tk k) * (un (fr k) * un (to k)) := by simp only [Int.mul_assoc, Int.mul_left_comm, Int.mul_comm]
    rw [z1, z2, ← a1, ← a2, z3, z4, a3]
