/-! A round exists, and is one; counts, orders and paces -/
section RX
variable {F F1 F2 : Nat → Int} {A A1 A2 : Nat → Int → Int}
theorem rd_non (I : INV F A) (hp : PLc F A) (h : fC F A F1 A1) (R : RdOK F1 A1) : rok (F 100) (F 101) (A 9) (A 10) (A 11) (A 12) (A 7, A 13, A 13) (A1 14) (F1 201).toNat ∧ rnon (F 100) (F 101) (A 10) (A 12) (rrun (A 9) (A 10) (A 11) (A 12) (A 7, A 13, A 13) (A1 14) (F1 201).toNat) ∧ (∀ a, 0 ≤ a → a < F 100 → A1 15 a = (rrun (A 9) (A 10) (A 11) (A 12) (A 7, A 13, A 13) (A1 14) (F1 201).toNat).1 a) ∧ 0 ≤ F1 201 := by
  have g : ∀ k, k < 14 → A1 k = A k := fun k hk => h.2 k (by omega) (by omega) (by omega) (by omega)
  obtain ⟨r1, r2, r3, r4⟩ := R
  rw [h.1 100 (by decide) (by decide), h.1 101 (by decide) (by decide), g 7 (by decide), g 9 (by decide), g 10 (by decide), g 11 (by decide), g 12 (by decide), g 13 (by decide)] at r2 r3
  rw [h.1 100 (by decide) (by decide), h.1 101 (by decide) (by decide), g 7 (by decide), g 9 (by decide), g 10 (by decide), g 11 (by decide), g 12 (by decide), g 13 (by decide)] at r4
  obtain ⟨i1, i2, i3, i4, i5, i6⟩ := I.1
  refine ⟨r2, ?_, fun a a0 a1 => r3.1 a a0 a1, r1.1⟩
  rcases r4 with e | e
  · have s1 := rok_sum (F1 201).toNat r2
    have hb := rok_bound (n := F 100) (m := F 101) (fr := A 9) (to := A 10) (pu := A 11) (tk := A 12) (T := (A 7, A 13, A 13)) (od := A1 14) (fun k k0 k1 => (i5 k k0 k1).2.2.1) (fun k k0 k1 => (i5 k k0 k1).2.2.2.1) ⟨fun a a0 a1 => by have := (i4 a a0 (by omega)).1; show 0 ≤ A 7 a; omega, fun k k0 k1 => ⟨(i5 k k0 k1).2.2.2.2, (i5 k k0 k1).2.2.2.2⟩⟩ (F1 201).toNat r2
    intro b b0 b1 hr
    have s2 := sI_le (f := (rrun (A 9) (A 10) (A 11) (A 12) (A 7, A 13, A 13) (A1 14) (F1 201).toNat).1) (n := F 100) (fun a a0 a1 => (hb.1 a a0 a1).1) b b0 b1
    have s3 := hr.1
    have s4 : sI (A 7, A 13, A 13).1 (F 100) = sI (A 7) (F 100) := rfl
    have s5 := hp.2
    omega
  · exact e
theorem rd_one (I : INV F A) (hp : PLc F A) (h1 : fC F A F1 A1) (R1 : RdOK F1 A1) (h2 : fC F A F2 A2) (R2 : RdOK F2 A2) : F1 201 = F2 201 ∧ ∀ a, 0 ≤ a → a < F 100 → A1 15 a = A2 15 a := by
  obtain ⟨a1, a2, a3, a4⟩ := rd_non I hp h1 R1
  obtain ⟨b1, b2, b3, b4⟩ := rd_non I hp h2 R2
  have d := rok_len a1 b1 a2 b2
  have e := rok_same a1 b1 (F1 201).toNat (Nat.le_refl _) (by omega)
  refine ⟨by omega, fun a x0 x1 => ?_⟩
  rw [a3 a x0 x1, b3 a x0 x1, ← d, e.1]
theorem run_ex (n m : Int) (fr to pu tk : Int → Int) (T : rT) : ∀ N : Nat, ∃ (od : Int → Int) (d : Nat), d ≤ N ∧ rok n m fr to pu tk T od d ∧ (rnon n m to tk (rrun fr to pu tk T od d) ∨ d = N) := by
  intro N
  induction N with
  | zero => exact ⟨fun _ => 0, 0, Nat.le_refl _, fun k hk => by omega, Or.inr rfl⟩
  | succ N ih =>
    obtain ⟨od, d, d1, d2, d3⟩ := ih
    by_cases c : rnon n m to tk (rrun fr to pu tk T od d)
    · exact ⟨od, d, by omega, d2, Or.inl c⟩
    · have hN := d3.resolve_left c
      subst hN
      have hex : ∃ b : Nat, (b : Int) < n ∧ rrdy m to tk (rrun fr to pu tk T od d) b := Classical.byContradiction (fun h => c (fun b b0 b1 hb => h ⟨b.toNat, by omega, by rw [show ((b.toNat : Nat) : Int) = b by omega]; exact hb⟩))
      have hmin : ∃ b : Nat, ((b : Int) < n ∧ rrdy m to tk (rrun fr to pu tk T od d) b) ∧ ∀ b' : Nat, b' < b → ¬ ((b' : Int) < n ∧ rrdy m to tk (rrun fr to pu tk T od d) b') := by
        obtain ⟨b, hb⟩ := hex
        induction b using Nat.strongRecOn with
        | ind b ih =>
          by_cases e : ∃ b' : Nat, b' < b ∧ ((b' : Int) < n ∧ rrdy m to tk (rrun fr to pu tk T od d) b')
          · obtain ⟨b', e1, e2⟩ := e
            exact ih b' e1 e2
          · exact ⟨b, hb, fun b' e1 e2 => e ⟨b', e1, e2⟩⟩
      obtain ⟨b, ⟨b1, b2⟩, b3⟩ := hmin
      have hs : ∀ j : Nat, j < d → upI od d b j = od j := fun j hj => upI_n (by omega)
      have hr : ∀ k : Nat, k ≤ d → rrun fr to pu tk T (upI od d b) k = rrun fr to pu tk T od k := fun k hk => rrun_cong k (fun j hj => hs j (by omega))
      refine ⟨upI od d b, d + 1, Nat.le_refl _, fun k hk => ?_, Or.inr rfl⟩
      rw [hr k (by omega)]
      by_cases e : k = d
      · subst e
        rw [upI_s]
        exact ⟨⟨by omega, b1⟩, b2, fun b' x0 x1 hx => b3 b'.toNat (by omega) ⟨by omega, by rw [show ((b'.toNat : Nat) : Int) = b' by omega]; exact hx⟩⟩
      · rw [hs k (by omega)]
        exact d2 k (by omega)
theorem rd_ex (I : INV F A) (hp : PLc F A) : ∃ F1 A1, fC F A F1 A1 ∧ RdOK F1 A1 := by
  obtain ⟨i1, i2, i3, i4, i5, i6⟩ := I.1
  obtain ⟨od, d, d1, d2, d3⟩ := run_ex (F 100) (F 101) (A 9) (A 10) (A 11) (A 12) (A 7, A 13, A 13) 401
  have s1 := rok_sum d d2
  have hb := rok_bound (n := F 100) (m := F 101) (fr := A 9) (to := A 10) (pu := A 11) (tk := A 12) (T := (A 7, A 13, A 13)) (od := od) (fun k k0 k1 => (i5 k k0 k1).2.2.1) (fun k k0 k1 => (i5 k k0 k1).2.2.2.1) ⟨fun a a0 a1 => by have := (i4 a a0 (by omega)).1; show 0 ≤ A 7 a; omega, fun k k0 k1 => ⟨(i5 k k0 k1).2.2.2.2, (i5 k k0 k1).2.2.2.2⟩⟩ d d2
  have s2 := sI_nn (f := (rrun (A 9) (A 10) (A 11) (A 12) (A 7, A 13, A 13) od d).1) (n := F 100) (B := 4782969) (by omega) (fun a a0 a1 => by
    have h1 := hb.1 a a0 a1
    have h2 : (A 7, A 13, A 13).1 a = A 7 a := rfl
    have h3 := (i4 a a0 (by omega)).1
    omega)
  have s4 : sI (A 7, A 13, A 13).1 (F 100) = sI (A 7) (F 100) := rfl
  have s5 := hp.2
  have hd : (d : Int) ≤ 400 := by omega
  generalize hrun : rrun (A 9) (A 10) (A 11) (A 12) (A 7, A 13, A 13) od d = U at *
  let B : Nat → Int → Int := fun k => if k = 14 then od else if k = 15 then U.1 else if k = 16 then U.2.1 else if k = 17 then U.2.2 else A k
  have b : ∀ k, k ≠ 14 → k ≠ 15 → k ≠ 16 → k ≠ 17 → B k = A k := fun k h1 h2 h3 h4 => by
    show (if k = 14 then od else if k = 15 then U.1 else if k = 16 then U.2.1 else if k = 17 then U.2.2 else A k) = A k
    rw [if_neg h1, if_neg h2, if_neg h3, if_neg h4]
  refine ⟨fuP F 201 d, B, ⟨fun j h1 h2 => by simp [fuP, h2], b⟩, ?_⟩
  have e1 : (fuP F 201 d) 100 = F 100 := by simp [fuP]
  have e2 : (fuP F 201 d) 101 = F 101 := by simp [fuP]
  have e3 : (fuP F 201 d) 201 = (d : Int) := by simp [fuP]
  have b14 : B 14 = od := rfl
  have b15 : B 15 = U.1 := rfl
  have b16 : B 16 = U.2.1 := rfl
  have b17 : B 17 = U.2.2 := rfl
  unfold RdOK
  rw [e1, e2, e3, b 7 (by decide) (by decide) (by decide) (by decide), b 9 (by decide) (by decide) (by decide) (by decide), b 10 (by decide) (by decide) (by decide) (by decide), b 11 (by decide) (by decide) (by decide) (by decide), b 12 (by decide) (by decide) (by decide) (by decide), b 13 (by decide) (by decide) (by decide) (by decide), b14, b15, b16, b17, Int.toNat_natCast, hrun]
  exact ⟨by omega, d2, ⟨fun _ _ _ => rfl, fun _ _ _ => ⟨rfl, rfl⟩⟩, Or.inr (d3.resolve_right (by omega))⟩
/-- which of the first count an order's place is -/
theorem ord_dec {a : Int} (I : INV F A) : (PLc F A ∧ ∀ F9 A9, (∀ j, j ≠ 200 → j ≠ 201 → F9 j = F j) → (∀ k, k ≠ 14 → k ≠ 15 → k ≠ 16 → k ≠ 17 → A9 k = A k) → RdOK F9 A9 → 0 ≤ a ∧ a < F9 201) ∨ (PLc F A → ∀ F9 A9, (∀ j, j ≠ 200 → j ≠ 201 → F9 j = F j) → (∀ k, k ≠ 14 → k ≠ 15 → k ≠ 16 → k ≠ 17 → A9 k = A k) → RdOK F9 A9 → ¬ (0 ≤ a ∧ a < F9 201)) := by
  by_cases hp : PLc F A
  · obtain ⟨F8, A8, h8, r8⟩ := rd_ex I hp
    by_cases c : 0 ≤ a ∧ a < F8 201
    · exact Or.inl ⟨hp, fun F9 A9 g1 g2 g3 => by rw [(rd_one I hp ⟨g1, g2⟩ g3 h8 r8).1]; exact c⟩
    · exact Or.inr (fun _ F9 A9 g1 g2 g3 => by rw [(rd_one I hp ⟨g1, g2⟩ g3 h8 r8).1]; exact c)
  · exact Or.inr (fun h => absurd h hp)
theorem alv_dec (I : INV F A) (hp : PLc F A) : (∀ F9 A9, (∀ j, j ≠ 200 → j ≠ 201 → F9 j = F j) → (∀ k, k ≠ 14 → k ≠ 15 → k ≠ 16 → k ≠ 17 → A9 k = A k) → RdOK F9 A9 → ∀ b, 0 ≤ b → b < F9 100 → A9 15 b = 0) ∨ (∀ F9 A9, (∀ j, j ≠ 200 → j ≠ 201 → F9 j = F j) → (∀ k, k ≠ 14 → k ≠ 15 → k ≠ 16 → k ≠ 17 → A9 k = A k) → RdOK F9 A9 → ¬ ∀ b, 0 ≤ b → b < F9 100 → A9 15 b = 0) := by
  obtain ⟨F8, A8, h8, r8⟩ := rd_ex I hp
  have tr : ∀ F9 A9, fC F A F9 A9 → RdOK F9 A9 → ((∀ b, 0 ≤ b → b < F9 100 → A9 15 b = 0) ↔ ∀ b, 0 ≤ b → b < F 100 → A8 15 b = 0) := fun F9 A9 h r => by
    rw [h.1 100 (by decide) (by decide)]
    have e := (rd_one I hp h r h8 r8).2
    exact ⟨fun g b b0 b1 => by rw [← e b b0 b1]; exact g b b0 b1, fun g b b0 b1 => by rw [e b b0 b1]; exact g b b0 b1⟩
  by_cases c : ∀ b, 0 ≤ b → b < F 100 → A8 15 b = 0
  · exact Or.inl (fun F9 A9 g1 g2 g3 => (tr F9 A9 ⟨g1, g2⟩ g3).mpr c)
  · exact Or.inr (fun F9 A9 g1 g2 g3 h => c ((tr F9 A9 ⟨g1, g2⟩ g3).mp h))
end RX
section QC
variable {F F1 F2 : Nat → Int} {A A1 A2 : Nat → Int → Int}
theorem x57_inv (I : INV F A) (h : ∀ k, k ≠ 57 → A1 k = A k) : INV F A1 := INV_id (fun _ _ _ _ => rfl) (fun k _ h1 => h k (by omega)) I
theorem o_cnt0 {a z' : Int} (I : INV F A) (hok : (0 ≤ a ∧ a < F 100) → PLc F A) (e : F1 = F) (h1 : ∀ k, k ≠ 57 → A1 k = A k) (h2 : (0 ≤ a ∧ a < F 100) → A1 57 0 = A 7 a) (h3 : ¬ (0 ≤ a ∧ a < F 100) → A1 57 0 = -1)
    (hr : fR F1 A1 F2 A2 ∧ ((0 ≤ a ∧ a < F1 501) → F2 509 = 1 ∧ KM F2 A2 ∧ (F2 510 ≠ -1 → F2 500 = 1) ∧ (F2 510 = -1 → F2 511 = 1 → F2 500 = 2) ∧ (F2 510 = -1 ∧ F2 511 = 0 → F2 500 = 0 ∧ z' = A2 44 a)) ∧ (¬ (0 ≤ a ∧ a < F1 501) → z' = -1 ∧ F2 = fuP F1 500 0 ∧ A2 = A1)) : F2 500 = 0 ∧ A2 57 0 = z' ∧ (-1 ≤ z' ∧ z' ≤ 4782969) ∧ INV F2 A2 := by
  subst e
  obtain ⟨r1, r2, r3⟩ := hr
  have I1 := x57_inv I h1
  have e501 := I1.2.1.1
  by_cases c : 0 ≤ a ∧ a < F1 100
  · obtain ⟨s1, s2, -, -, s5⟩ := r2 (by rw [e501]; exact c)
    have I2 := rf_inv I1 r1 s1 s2
    have pl1 : PLc F1 A1 := by have := hok c; unfold PLc; rw [h1 7 (by decide)]; exact this
    have pl := (q_pl I1 r1 s1 s2).mpr pl1
    obtain ⟨t1, t2⟩ := s5 pl
    have t := ((INV_tie I2 s2).2.2.2 (by rw [fR_f r1 102 (by decide)]; exact pl1.1)).2.2 pl.2 a c.1 (by rw [fR_f r1 100 (by decide)]; exact c.2)
    have e7 : A2 7 = A 7 := (fR_a r1 7 (by decide)).trans (h1 7 (by decide))
    rw [e7] at t
    have b := (I.1.2.2.2.1 a c.1 (by have := I.1.1; omega)).1
    refine ⟨t1, ?_, by omega, I2⟩
    rw [r1.2 57 (by decide) (by decide) (by decide) (by decide) (by decide) (by decide) (by decide) (by decide), h2 c, t2, t]
  · obtain ⟨s1, s2, s3⟩ := r3 (by rw [e501]; exact c)
    rw [s2, s3, s1, h3 c]
    exact ⟨by simp [fuP], rfl, by decide, f5_inv I1⟩
theorem o_cntx {a z' : Int} (I : INV F A) (ha : 0 ≤ a ∧ a < F 100) (e : F1 = F) (e' : A1 = A) (hr : fR F1 A1 F2 A2 ∧ ((0 ≤ a ∧ a < F1 501) → F2 509 = 1 ∧ KM F2 A2 ∧ (F2 510 ≠ -1 → F2 500 = 1) ∧ (F2 510 = -1 → F2 511 = 1 → F2 500 = 2) ∧ (F2 510 = -1 ∧ F2 511 = 0 → F2 500 = 0 ∧ z' = A2 44 a)) ∧ (¬ (0 ≤ a ∧ a < F1 501) → z' = -1 ∧ F2 = fuP F1 500 0 ∧ A2 = A1)) : INV F2 A2 ∧ (F 102 ≠ -1 → F2 500 = 1) ∧ (F 102 = -1 → 400 < sI (A 7) (F 100) → F2 500 = 2) := by
  subst e e'
  obtain ⟨r1, r2, -⟩ := hr
  obtain ⟨s1, s2, s3, s4, -⟩ := r2 (by rw [I.2.1.1]; exact ha)
  have I2 := rf_inv I r1 s1 s2
  have t := INV_tie I2 s2
  rw [fR_f r1 102 (by decide), fR_f r1 100 (by decide), fR_a r1 7 (by decide)] at t
  exact ⟨I2, fun h => s3 (by rw [t.1]; exact h), fun h g => s4 (by rw [t.1]; exact h) ((t.2.2.2 h).2.1.mpr g)⟩
theorem o_ord0 {a z' : Int} (I : INV F A) (hp : PLc F A) (hin : ∀ F9 A9, (∀ j, j ≠ 200 → j ≠ 201 → F9 j = F j) → (∀ k, k ≠ 14 → k ≠ 15 → k ≠ 16 → k ≠ 17 → A9 k = A k) → RdOK F9 A9 → 0 ≤ a ∧ a < F9 201)
    (h : ∃ (F9 : Nat → Int) (A9 : Nat → Int → Int), (∀ j, j ≠ 200 → j ≠ 201 → F9 j = F j) ∧ (∀ k, k ≠ 14 → k ≠ 15 → k ≠ 16 → k ≠ 17 → A9 k = A k) ∧ F9 200 = 1 ∧ RdOK F9 A9 ∧ F1 = F9 ∧ (∀ k, k ≠ 57 → A1 k = A9 k) ∧ A1 57 0 = A9 14 a)
    (hr : fR F1 A1 F2 A2 ∧ F2 509 = 1 ∧ KM F2 A2 ∧ ((F2 510 = -1 ∧ F2 511 = 0) ∧ 0 ≤ a ∧ a < F2 520 → F2 500 = 0 ∧ z' = A2 48 a) ∧ (¬ ((F2 510 = -1 ∧ F2 511 = 0) ∧ 0 ≤ a ∧ a < F2 520) → F2 500 = 1)) : F2 500 = 0 ∧ A2 57 0 = z' ∧ (0 ≤ z' ∧ z' < 8) ∧ INV F2 A2 := by
  obtain ⟨F9, A9, g1, g2, g3, g4, rfl, g6, g7⟩ := h
  obtain ⟨r1, r2, r3, r4, -⟩ := hr
  obtain ⟨I9, ep, e1, e2, -⟩ := fC_inv I ⟨g1, g2⟩ (Or.inl ⟨g3, g4⟩)
  have I1 := x57_inv I9 g6
  have R1 : RdOK F1 A1 := RdOK_cg rfl rfl rfl (fun k x y => g6 k (by omega)) g4
  have pl1 : PLc F1 A1 := by have := ep.mpr hp; unfold PLc; rw [g6 7 (by decide)]; exact this
  have q := q_round I1 r1 r2 r3 pl1 R1
  have hi := hin F1 A9 g1 g2 g4
  obtain ⟨s1, s2⟩ := r4 ⟨(q_pl I1 r1 r2 r3).mpr pl1, hi.1, by rw [← q.1]; exact hi.2⟩
  have b := rd_b I.1.1 I.1.2.2.2.2.1 g1 g2 g4 hi
  have e14 : A1 14 a = A9 14 a := by rw [g6 14 (by decide)]
  have e48 := q.2.1 a hi.1 hi.2
  refine ⟨s1, ?_, ?_, rf_inv I1 r1 r2 r3⟩
  · rw [r1.2 57 (by decide) (by decide) (by decide) (by decide) (by decide) (by decide) (by decide) (by decide), g7, s2, ← e48, e14]
  · rw [s2, ← e48, e14]; exact b
theorem o_ordx {a z' : Int} (I : INV F A) (hno : PLc F A → ∀ F9 A9, (∀ j, j ≠ 200 → j ≠ 201 → F9 j = F j) → (∀ k, k ≠ 14 → k ≠ 15 → k ≠ 16 → k ≠ 17 → A9 k = A k) → RdOK F9 A9 → ¬ (0 ≤ a ∧ a < F9 201))
    (h : fC F A F1 A1 ∧ (PLc F A → F1 200 = 1 ∧ RdOK F1 A1) ∧ (¬ PLc F A → F1 = F ∧ A1 = A))
    (hr : fR F1 A1 F2 A2 ∧ F2 509 = 1 ∧ KM F2 A2 ∧ ((F2 510 = -1 ∧ F2 511 = 0) ∧ 0 ≤ a ∧ a < F2 520 → F2 500 = 0 ∧ z' = A2 48 a) ∧ (¬ ((F2 510 = -1 ∧ F2 511 = 0) ∧ 0 ≤ a ∧ a < F2 520) → F2 500 = 1)) : F2 500 = 1 ∧ INV F2 A2 := by
  obtain ⟨h1, h2, h3⟩ := h
  obtain ⟨r1, r2, r3, -, r5⟩ := hr
  have hor : (F1 200 = 1 ∧ RdOK F1 A1) ∨ (F1 = F ∧ A1 = A) := by
    by_cases c : PLc F A
    · exact Or.inl (h2 c)
    · exact Or.inr (h3 c)
  obtain ⟨I1, ep, -⟩ := fC_inv I h1 hor
  refine ⟨r5 (fun hc => ?_), rf_inv I1 r1 r2 r3⟩
  have p1 := (q_pl I1 r1 r2 r3).mp hc.1
  have p0 := ep.mp p1
  have q := q_round I1 r1 r2 r3 p1 (h2 p0).2
  exact hno p0 F1 A1 h1.1 h1.2 (h2 p0).2 ⟨hc.2.1, by rw [q.1]; exact hc.2.2⟩
end QC
