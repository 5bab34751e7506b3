/-! The calls that ask -/
abbrev fC (F : Nat → Int) (A : Nat → Int → Int) (F1 : Nat → Int) (A1 : Nat → Int → Int) : Prop := (∀ j, j ≠ 200 → j ≠ 201 → F1 j = F j) ∧ (∀ k, k ≠ 14 → k ≠ 15 → k ≠ 16 → k ≠ 17 → A1 k = A k)
abbrev fR (F : Nat → Int) (A : Nat → Int → Int) (F1 : Nat → Int) (A1 : Nat → Int → Int) : Prop := (∀ j, j ≠ 500 → j ≠ 509 → j ≠ 510 → j ≠ 511 → j ≠ 512 → j ≠ 520 → F1 j = F j) ∧ (∀ k, k ≠ 41 → k ≠ 42 → k ≠ 43 → k ≠ 44 → k ≠ 45 → k ≠ 46 → k ≠ 47 → k ≠ 48 → A1 k = A k)
abbrev PLc (F : Nat → Int) (A : Nat → Int → Int) : Prop := F 102 = -1 ∧ sI (A 7) (F 100) ≤ 400
section QO
variable {F F1 F2 : Nat → Int} {A A1 A2 : Nat → Int → Int}
theorem fR_f (h : fR F A F1 A1) : ∀ j, j < 500 ∨ j = 501 ∨ j = 502 → F1 j = F j := fun j hj => h.1 j (by omega) (by omega) (by omega) (by omega) (by omega) (by omega)
theorem fR_a (h : fR F A F1 A1) : ∀ k, k < 18 ∨ (34 < k ∧ k < 41) → A1 k = A k := fun k hk => h.2 k (by omega) (by omega) (by omega) (by omega) (by omega) (by omega) (by omega) (by omega)
theorem rf_inv (I : INV F A) (h : fR F A F1 A1) (h1 : F1 509 = 1) (K : KM F1 A1) : INV F1 A1 := INV_km (fR_f h) (fR_a h) h1 K I
theorem f5_inv {x : Int} (I : INV F A) : INV (fuP F 500 x) A := INV_id (fun j _ h _ => by simp [fuP, h]) (fun k _ _ => rfl) I
theorem q_pl (I : INV F A) (h : fR F A F1 A1) (h1 : F1 509 = 1) (K : KM F1 A1) : (F1 510 = -1 ∧ F1 511 = 0) ↔ PLc F A := by
  have e := INV_pl (rf_inv I h h1 K) K
  rw [fR_f h 102 (by decide), fR_f h 100 (by decide), fR_a h 7 (by decide)] at e
  exact e
theorem q_round (I : INV F A) (h : fR F A F1 A1) (h1 : F1 509 = 1) (K : KM F1 A1) (hp : PLc F A) (R : RdOK F A) : F 201 = F1 520 ∧ (∀ j, 0 ≤ j → j < F 201 → A 14 j = A1 48 j) ∧ (∀ a, 0 ≤ a → a < F 100 → A 15 a = A1 45 a) ∧ ∀ k, 0 ≤ k → k < F 101 → A 17 k = A1 47 k := by
  have R1 : RdOK F1 A1 := RdOK_cg (fR_f h 100 (by decide)) (fR_f h 101 (by decide)) (fR_f h 201 (by decide)) (fun k x y => fR_a h k (by omega)) R
  have e := INV_round (rf_inv I h h1 K) K (by rw [fR_f h 102 (by decide), fR_f h 100 (by decide), fR_a h 7 (by decide)]; exact hp) R1
  rw [fR_f h 201 (by decide), fR_f h 100 (by decide), fR_f h 101 (by decide), fR_a h 14 (by decide), fR_a h 15 (by decide), fR_a h 17 (by decide)] at e
  exact e
theorem fC_inv (I : INV F A) (h : fC F A F1 A1) (h1 : (F1 200 = 1 ∧ RdOK F1 A1) ∨ (F1 = F ∧ A1 = A)) : INV F1 A1 ∧ (PLc F1 A1 ↔ PLc F A) ∧ F1 100 = F 100 ∧ F1 101 = F 101 ∧ F1 501 = F 100 ∧ F1 502 = F 101 := by
  have e7 := h.2 7 (by decide) (by decide) (by decide) (by decide)
  refine ⟨?_, by unfold PLc; rw [h.1 102 (by decide) (by decide), h.1 100 (by decide) (by decide), e7], h.1 100 (by decide) (by decide), h.1 101 (by decide) (by decide), (h.1 501 (by decide) (by decide)).trans I.2.1.1, (h.1 502 (by decide) (by decide)).trans I.2.1.2.1⟩
  rcases h1 with ⟨g1, g2⟩ | ⟨g1, g2⟩
  · exact INV_rd h.1 h.2 g1 g2 I
  · rw [g1, g2]; exact I
theorem o_un {z' : Int} (I : INV F A) (h : F1 500 = 0 ∧ F1 509 = 1 ∧ fR F A F1 A1 ∧ KM F1 A1 ∧ z' = F1 510) : F 102 = z' ∧ INV F1 A1 := by
  obtain ⟨-, h1, h2, h3, h4⟩ := h
  have I1 := rf_inv I h2 h1 h3
  refine ⟨?_, I1⟩
  rw [h4, (INV_tie I1 h3).1, fR_f h2 102 (by decide)]
theorem o_left {a z z' : Int} (I : INV F A) (h1 : fC F A F1 A1 ∧ ((0 ≤ a ∧ a < F 100) ∧ PLc F A → F1 200 = 1 ∧ RdOK F1 A1 ∧ z = A1 15 a) ∧ (¬ ((0 ≤ a ∧ a < F 100) ∧ PLc F A) → z = -1 ∧ F1 = F ∧ A1 = A))
    (h2 : F2 500 = 0 ∧ fR F1 A1 F2 A2 ∧ ((0 ≤ a ∧ a < F1 501) → F2 509 = 1 ∧ KM F2 A2 ∧ (F2 510 = -1 ∧ F2 511 = 0 → z' = A2 45 a) ∧ (¬ (F2 510 = -1 ∧ F2 511 = 0) → z' = -1)) ∧ (¬ (0 ≤ a ∧ a < F1 501) → z' = -1 ∧ F2 = fuP F1 500 0 ∧ A2 = A1)) : z = z' ∧ INV F2 A2 := by
  obtain ⟨c1, c2, c3⟩ := h1
  obtain ⟨-, r1, r2, r3⟩ := h2
  have hor : (F1 200 = 1 ∧ RdOK F1 A1) ∨ (F1 = F ∧ A1 = A) := by
    by_cases c : (0 ≤ a ∧ a < F 100) ∧ PLc F A
    · exact Or.inl ⟨(c2 c).1, (c2 c).2.1⟩
    · exact Or.inr (c3 c).2
  obtain ⟨I1, ep, e1, e2, e3, e4⟩ := fC_inv I c1 hor
  by_cases c : 0 ≤ a ∧ a < F 100
  · obtain ⟨s1, s2, s3, s4⟩ := r2 (by rw [e3]; exact c)
    have ql := q_pl I1 r1 s1 s2
    refine ⟨?_, rf_inv I1 r1 s1 s2⟩
    by_cases d : PLc F A
    · obtain ⟨-, g2, g3⟩ := c2 ⟨c, d⟩
      rw [g3, s3 (ql.mpr (ep.mpr d)), (q_round I1 r1 s1 s2 (ep.mpr d) g2).2.2.1 a c.1 (by rw [e1]; exact c.2)]
    · rw [(c3 (fun h => d h.2)).1, s4 (fun h => d (ep.mp (ql.mp h)))]
  · obtain ⟨s1, s2, s3⟩ := r3 (by rw [e3]; exact c)
    rw [s2, s3, (c3 (fun h => c h.1)).1, s1]
    exact ⟨rfl, f5_inv I1⟩
theorem o_peak {a z z' : Int} (I : INV F A) (h1 : fC F A F1 A1 ∧ ((0 ≤ a ∧ a < F 101) ∧ PLc F A → F1 200 = 1 ∧ RdOK F1 A1 ∧ z = A1 17 a) ∧ (¬ ((0 ≤ a ∧ a < F 101) ∧ PLc F A) → z = -1 ∧ F1 = F ∧ A1 = A))
    (h2 : F2 500 = 0 ∧ fR F1 A1 F2 A2 ∧ ((0 ≤ a ∧ a < F1 502) → F2 509 = 1 ∧ KM F2 A2 ∧ (F2 510 = -1 ∧ F2 511 = 0 → z' = A2 47 a) ∧ (¬ (F2 510 = -1 ∧ F2 511 = 0) → z' = -1)) ∧ (¬ (0 ≤ a ∧ a < F1 502) → z' = -1 ∧ F2 = fuP F1 500 0 ∧ A2 = A1)) : z = z' ∧ INV F2 A2 := by
  obtain ⟨c1, c2, c3⟩ := h1
  obtain ⟨-, r1, r2, r3⟩ := h2
  have hor : (F1 200 = 1 ∧ RdOK F1 A1) ∨ (F1 = F ∧ A1 = A) := by
    by_cases c : (0 ≤ a ∧ a < F 101) ∧ PLc F A
    · exact Or.inl ⟨(c2 c).1, (c2 c).2.1⟩
    · exact Or.inr (c3 c).2
  obtain ⟨I1, ep, e1, e2, e3, e4⟩ := fC_inv I c1 hor
  by_cases c : 0 ≤ a ∧ a < F 101
  · obtain ⟨s1, s2, s3, s4⟩ := r2 (by rw [e4]; exact c)
    have ql := q_pl I1 r1 s1 s2
    refine ⟨?_, rf_inv I1 r1 s1 s2⟩
    by_cases d : PLc F A
    · obtain ⟨-, g2, g3⟩ := c2 ⟨c, d⟩
      rw [g3, s3 (ql.mpr (ep.mpr d)), (q_round I1 r1 s1 s2 (ep.mpr d) g2).2.2.2 a c.1 (by rw [e2]; exact c.2)]
    · rw [(c3 (fun h => d h.2)).1, s4 (fun h => d (ep.mp (ql.mp h)))]
  · obtain ⟨s1, s2, s3⟩ := r3 (by rw [e4]; exact c)
    rw [s2, s3, (c3 (fun h => c h.1)).1, s1]
    exact ⟨rfl, f5_inv I1⟩
theorem o_total {w z z' : Int} (I : INV F A) (h1 : fC F A F1 A1 ∧ (w ≠ 3 → F1 = F ∧ A1 = A) ∧ (w = 0 → z = F 100) ∧ (w = 1 → z = F 101) ∧ (w = 2 → z = sI (fun a => if A 8 a = a then 1 else 0) (F 100)) ∧ (w = 3 → (PLc F A → F1 200 = 1 ∧ RdOK F1 A1 ∧ z = F1 201) ∧ (¬ PLc F A → z = 0 ∧ F1 = F ∧ A1 = A)) ∧ (w < 0 ∨ 3 < w → z = -1))
    (h2 : F2 500 = 0 ∧ F2 509 = 1 ∧ fR F1 A1 F2 A2 ∧ KM F2 A2 ∧ (w = 0 → z' = F1 501) ∧ (w = 1 → z' = F1 502) ∧ (w = 2 → z' = F2 512) ∧ (w = 3 → z' = F2 520) ∧ (w < 0 ∨ 3 < w → z' = -1)) : z = z' ∧ INV F2 A2 := by
  obtain ⟨c1, c2, c3, c4, c5, c6, c7⟩ := h1
  obtain ⟨-, r1, r2, r3, r4, r5, r6, r7, r8⟩ := h2
  have hor : (F1 200 = 1 ∧ RdOK F1 A1) ∨ (F1 = F ∧ A1 = A) := by
    by_cases c : w = 3
    · by_cases d : PLc F A
      · exact Or.inl ⟨((c6 c).1 d).1, ((c6 c).1 d).2.1⟩
      · exact Or.inr ((c6 c).2 d).2
    · exact Or.inr (c2 c)
  obtain ⟨I1, ep, e1, e2, e3, e4⟩ := fC_inv I c1 hor
  have I2 := rf_inv I1 r2 r1 r3
  refine ⟨?_, I2⟩
  have ql := q_pl I1 r2 r1 r3
  rcases (show w = 0 ∨ w = 1 ∨ w = 2 ∨ w = 3 ∨ (w < 0 ∨ 3 < w) by omega) with c | c | c | c | c
  · rw [c3 c, r4 c, e3]
  · rw [c4 c, r5 c, e4]
  · have t := (INV_tie I2 r3).2.2.1
    rw [c5 c, r6 c, t, fR_f r2 100 (by decide), fR_a r2 8 (by decide), e1, c1.2 8 (by decide) (by decide) (by decide) (by decide)]
  · by_cases d : PLc F A
    · obtain ⟨-, g2, g3⟩ := (c6 c).1 d
      rw [g3, r7 c, (q_round I1 r2 r1 r3 (ep.mpr d) g2).1]
    · rw [((c6 c).2 d).1, r7 c]
      by_cases u : F2 510 = -1
      · have k5 := r3.2.2.2.2 u
        rcases k5.1.1 with g | g
        · exact absurd (ep.mp (ql.mp ⟨u, g⟩)) d
        · exact (k5.2.2 g).symm
      · exact (r3.2.2.2.1 u).1.symm
  · rw [c7 c, r8 c]
theorem o_room {z z' : Int} (I : INV F A) (h1 : (∀ k, k < 27 ∨ 34 < k → A1 k = A k) ∧ ((F 101 = F 100 - 1 ∧ ∀ k, 0 ≤ k → k < F 101 → A 9 k = k ∧ A 10 k = k + 1 ∧ A 13 k = 0) ∧ sI (A 7) (F 100) ≤ 400 → z = RM (A 7) (A 11) 0 (F 100 - 1).toNat) ∧ (¬ ((F 101 = F 100 - 1 ∧ ∀ k, 0 ≤ k → k < F 101 → A 9 k = k ∧ A 10 k = k + 1 ∧ A 13 k = 0) ∧ sI (A 7) (F 100) ≤ 400) → z = -1))
    (h2 : F2 500 = 0 ∧ (∀ j, j ≠ 500 → j ≠ 509 → j ≠ 510 → j ≠ 511 → j ≠ 512 → j ≠ 520 → F2 j = F j) ∧ (∀ k, k ≠ 41 → k ≠ 42 → k ≠ 43 → k ≠ 44 → k ≠ 45 → k ≠ 46 → k ≠ 47 → k ≠ 48 → k ≠ 56 → A2 k = A1 k) ∧ (chP F A1 → F2 509 = 1 ∧ KM F2 A2 ∧ (plM F2 → z' = RM (A2 44) (A2 38) 0 (F 501 - 1).toNat) ∧ (¬ plM F2 → z' = -1)) ∧ (¬ chP F A1 → z' = -1 ∧ F2 = fuP F 500 0 ∧ A2 = A1)) : z = z' ∧ INV F2 A2 := by
  obtain ⟨c1, c2, c3⟩ := h1
  obtain ⟨-, r1, r2, r3, r4⟩ := h2
  have I1 : INV F A1 := INV_id (fun _ _ _ _ => rfl) (fun k h _ => c1 k (by omega)) I
  obtain ⟨e1, e2, -, e4⟩ := I.2.1
  have hch : chP F A1 ↔ (F 101 = F 100 - 1 ∧ ∀ k, 0 ≤ k → k < F 101 → A 9 k = k ∧ A 10 k = k + 1 ∧ A 13 k = 0) := by
    unfold chP
    rw [e1, e2, c1 36 (by decide), c1 37 (by decide), c1 40 (by decide)]
    constructor
    · rintro ⟨g1, g2⟩
      exact ⟨g1, fun k k0 k1 => by
        have := g2 k k0 k1
        rw [(e4 k k0 k1).1, (e4 k k0 k1).2.1, (e4 k k0 k1).2.2.2.2] at this
        exact this⟩
    · rintro ⟨g1, g2⟩
      exact ⟨g1, fun k k0 k1 => by
        rw [(e4 k k0 k1).1, (e4 k k0 k1).2.1, (e4 k k0 k1).2.2.2.2]
        exact g2 k k0 k1⟩
  by_cases c : chP F A1
  · obtain ⟨s1, s2, s3, s4⟩ := r3 c
    have hc := hch.mp c
    have I2 : INV F2 A2 := INV_km (fun j hj => r1 j (by omega) (by omega) (by omega) (by omega) (by omega) (by omega)) (fun k hk => r2 k (by omega) (by omega) (by omega) (by omega) (by omega) (by omega) (by omega) (by omega) (by omega)) s1 s2 I1
    refine ⟨?_, I2⟩
    have f102 := r1 102 (by decide) (by decide) (by decide) (by decide) (by decide) (by decide)
    have f100 := r1 100 (by decide) (by decide) (by decide) (by decide) (by decide) (by decide)
    have a7 : A2 7 = A 7 := (r2 7 (by decide) (by decide) (by decide) (by decide) (by decide) (by decide) (by decide) (by decide) (by decide)).trans (c1 7 (by decide))
    have hu : F 102 = -1 := chain_un I.1.2.1.1 hc.1 (fun k k0 k1 => ⟨(hc.2 k k0 k1).1, (hc.2 k k0 k1).2.1⟩) (fun k k0 k1 => ⟨(I.1.2.2.2.2.1 k k0 k1).2.2.1.1, (I.1.2.2.2.2.1 k k0 k1).2.2.2.1.1⟩) I.1.2.2.2.2.2.2.2.2
    have ql := INV_pl I2 s2
    rw [f102, f100, a7] at ql
    by_cases d : sI (A 7) (F 100) ≤ 400
    · have pl := ql.mpr ⟨hu, d⟩
      rw [c2 ⟨hc, d⟩, s3 pl, e1]
      have t := ((INV_tie I2 s2).2.2.2 (by rw [f102]; exact hu)).2.2 pl.2
      rw [f100, a7] at t
      refine RM_co _ 0 (fun k k0 k1 => (t k k0 (by have := I.1.1; omega)).symm) (fun k k0 k1 => ?_)
      rw [r2 38 (by decide) (by decide) (by decide) (by decide) (by decide) (by decide) (by decide) (by decide) (by decide), c1 38 (by decide)]
      exact (e4 k k0 (by have := I.1.1; omega)).2.2.1.symm
    · rw [c3 (fun h => d h.2), s4 (fun h => d (ql.mp h).2)]
  · obtain ⟨s1, s2, s3⟩ := r4 c
    rw [c3 (fun h => c (hch.mpr h.1)), s1, s2, s3]
    exact ⟨rfl, f5_inv I1⟩
end QO
