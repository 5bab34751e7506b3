/-- the reference's arrays, by the class's numbers -/
def mA (A : Nat → Int → Int) (k : Nat) : Int → Int := if k = 6 then A 35 else if k = 7 then A 44 else if k = 8 then A 41 else if k = 9 then A 36 else if k = 10 then A 37 else if k = 11 then A 38 else if k = 12 then A 39 else if k = 13 then A 40 else A 50
def E4 (E : Int) (x y t z : Int → Int) (u v s w : Int) : Prop := ∃ e, 0 ≤ e ∧ e < E ∧ x e = u ∧ y e = v ∧ t e = s ∧ z e = w
theorem E4_add {E : Int} {x y t z : Int → Int} {a b c d : Int} (hE : 0 ≤ E) (u v s w : Int) : E4 (E + 1) (upI x E a) (upI y E b) (upI t E c) (upI z E d) u v s w ↔ E4 E x y t z u v s w ∨ (u = a ∧ v = b ∧ s = c ∧ w = d) := by
  constructor
  · rintro ⟨e, h0, h1, h2, h3, h4, h5⟩
    by_cases he : e = E
    · subst he
      rw [upI_s] at h2 h3 h4 h5
      exact Or.inr ⟨h2.symm, h3.symm, h4.symm, h5.symm⟩
    · rw [upI_n he] at h2 h3 h4 h5
      exact Or.inl ⟨e, h0, by omega, h2, h3, h4, h5⟩
  · rintro (⟨e, h0, h1, h2, h3, h4, h5⟩ | ⟨h1, h2, h3, h4⟩)
    · have he : e ≠ E := by omega
      exact ⟨e, h0, by omega, by rw [upI_n he]; exact h2, by rw [upI_n he]; exact h3, by rw [upI_n he]; exact h4, by rw [upI_n he]; exact h5⟩
    · exact ⟨E, hE, by omega, by rw [upI_s]; exact h1.symm, by rw [upI_s]; exact h2.symm, by rw [upI_s]; exact h3.symm, by rw [upI_s]; exact h4.symm⟩
/-- the first i edges of actor b's firings -/
def fX (B : Nat → Int → Int) (root b i u v w : Int) : Prop := ∃ x, 0 ≤ x ∧ x < i ∧ u = sI (gS B root) b + (if x = 0 then B 7 b - 1 else x - 1) ∧ v = sI (gS B root) b + x ∧ w = (if x = 0 then 1 else 0)
def fT (B : Nat → Int → Int) (root i u v s w : Int) : Prop := ∃ b, 0 ≤ b ∧ b < i ∧ B 8 b = root ∧ s = B 6 b ∧ fX B root b (B 7 b) u v w
def wT (B : Nat → Int → Int) (root i u v s w : Int) : Prop := ∃ k, 0 ≤ k ∧ k < i ∧ B 8 (B 9 k) = root ∧ s = B 6 (B 9 k) ∧ wE B k (B 7 (B 10 k)) u v w
section BX
variable {B : Nat → Int → Int} {P q : Prop} {root b i u v s w t : Int}
theorem fX_s (h : P ↔ q ∨ (s = t ∧ fX B root b i u v w)) (hi : 0 ≤ i) : (P ∨ (u = sI (gS B root) b + (if i = 0 then B 7 b - 1 else i - 1) ∧ v = sI (gS B root) b + i ∧ s = t ∧ w = (if i = 0 then 1 else 0))) ↔ q ∨ (s = t ∧ fX B root b (i + 1) u v w) := by
  rw [h]
  constructor
  · rintro ((h | ⟨h0, x, h1, h2, h3⟩) | ⟨h1, h2, h3, h4⟩)
    · exact Or.inl h
    · exact Or.inr ⟨h0, x, h1, by omega, h3⟩
    · exact Or.inr ⟨h3, i, hi, by omega, h1, h2, h4⟩
  · rintro (h | ⟨h0, x, h1, h2, h3, h4, h5⟩)
    · exact Or.inl (Or.inl h)
    · by_cases e : x = i
      · subst e; exact Or.inr ⟨h3, h4, h0, h5⟩
      · exact Or.inl (Or.inr ⟨h0, x, h1, by omega, h3, h4, h5⟩)
theorem fT_n (h : P ↔ fT B root i u v s w) (hr : ¬ B 8 i = root) : P ↔ fT B root (i + 1) u v s w := by
  rw [h]
  constructor
  · rintro ⟨b, h0, h1, h2⟩; exact ⟨b, h0, by omega, h2⟩
  · rintro ⟨b, h0, h1, h2, h3⟩
    by_cases e : b = i
    · subst e; exact absurd h2 hr
    · exact ⟨b, h0, by omega, h2, h3⟩
theorem fT_y (h : P ↔ fT B root i u v s w ∨ (s = B 6 i ∧ fX B root i (B 7 i) u v w)) (hi : 0 ≤ i) (hr : B 8 i = root) : P ↔ fT B root (i + 1) u v s w := by
  rw [h]
  constructor
  · rintro (⟨b, h0, h1, h2⟩ | ⟨h1, h2⟩)
    · exact ⟨b, h0, by omega, h2⟩
    · exact ⟨i, hi, by omega, hr, h1, h2⟩
  · rintro ⟨b, h0, h1, h2, h3, h4⟩
    by_cases e : b = i
    · subst e; exact Or.inr ⟨h3, h4⟩
    · exact Or.inl ⟨b, h0, by omega, h2, h3, h4⟩
theorem wE_s4 {k : Int} (h : P ↔ q ∨ (s = t ∧ wE B k i u v w)) (hi : 0 ≤ i) : (P ∨ (u = B 18 (B 9 k) + wf B k i % B 7 (B 9 k) ∧ v = B 18 (B 10 k) + i ∧ s = t ∧ w = -(wf B k i / B 7 (B 9 k)))) ↔ q ∨ (s = t ∧ wE B k (i + 1) u v w) := by
  rw [h]
  constructor
  · rintro ((h | ⟨h0, j, h1, h2, h3⟩) | ⟨h1, h2, h3, h4⟩)
    · exact Or.inl h
    · exact Or.inr ⟨h0, j, h1, by omega, h3⟩
    · exact Or.inr ⟨h3, i, hi, by omega, h1, h2, h4⟩
  · rintro (h | ⟨h0, j, h1, h2, h3, h4, h5⟩)
    · exact Or.inl (Or.inl h)
    · by_cases e : j = i
      · subst e; exact Or.inr ⟨h3, h4, h0, h5⟩
      · exact Or.inl (Or.inr ⟨h0, j, h1, by omega, h3, h4, h5⟩)
theorem wT_n (h : P ↔ q ∨ wT B root i u v s w) (hr : ¬ B 8 (B 9 i) = root) : P ↔ q ∨ wT B root (i + 1) u v s w := by
  rw [h]
  constructor
  · rintro (h | ⟨b, h0, h1, h2⟩)
    · exact Or.inl h
    · exact Or.inr ⟨b, h0, by omega, h2⟩
  · rintro (h | ⟨b, h0, h1, h2, h3⟩)
    · exact Or.inl h
    · by_cases e : b = i
      · subst e; exact absurd h2 hr
      · exact Or.inr ⟨b, h0, by omega, h2, h3⟩
theorem wT_y (h : P ↔ (q ∨ wT B root i u v s w) ∨ (s = B 6 (B 9 i) ∧ wE B i (B 7 (B 10 i)) u v w)) (hi : 0 ≤ i) (hr : B 8 (B 9 i) = root) : P ↔ q ∨ wT B root (i + 1) u v s w := by
  rw [h]
  constructor
  · rintro ((h | ⟨b, h0, h1, h2⟩) | ⟨h1, h2⟩)
    · exact Or.inl h
    · exact Or.inr ⟨b, h0, by omega, h2⟩
    · exact Or.inr ⟨i, hi, by omega, hr, h1, h2⟩
  · rintro (h | ⟨b, h0, h1, h2, h3, h4⟩)
    · exact Or.inl (Or.inl h)
    · by_cases e : b = i
      · subst e; exact Or.inr ⟨h3, h4⟩
      · exact Or.inl (Or.inr ⟨b, h0, by omega, h2, h3, h4⟩)
/-- from above and from below -/
theorem dn_up {x p : Int} (hp : 0 < p) : -(x / p) - 1 = (-x - 1) / p := by
  have h1 := Int.emod_add_mul_ediv x p
  have h2 := Int.emod_nonneg x (show p ≠ 0 by omega)
  have h3 := Int.emod_lt_of_pos x hp
  have h5 := (Int.ediv_emod_unique (a := -x - 1) (b := p) (q := -(x / p) - 1) (r := p - 1 - x % p) hp).mpr ⟨by rw [Int.mul_sub, Int.mul_neg]; omega, by omega, by omega⟩
  exact h5.1.symm
end BX
