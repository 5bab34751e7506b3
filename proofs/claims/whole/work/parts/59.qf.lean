/-! The calls that change the graph -/
section OG
variable {F F1 F2 : Nat → Int} {A A1 A2 : Nat → Int → Int}
theorem o_graph {n z z' : Int} (I : INV F A) (h1 : (1 ≤ n ∧ n ≤ 8 → z = 1 ∧ F1 = fuP (fuP (fuP (fuP (fuP F 100 n) 101 0) 102 (-1)) 200 0) 300 (-1) ∧ (∀ k, k ≠ 6 → k ≠ 7 → k ≠ 8 → A1 k = A k) ∧ ∀ a, 0 ≤ a → a < 8 → A1 6 a = 1 ∧ A1 7 a = 1 ∧ A1 8 a = a) ∧ (¬ (1 ≤ n ∧ n ≤ 8) → z = 0 ∧ F1 = F ∧ A1 = A))
    (h2 : (1 ≤ n ∧ n ≤ 8 → z' = 1 ∧ F2 = fuP (fuP (fuP (fuP F1 500 0) 501 n) 502 0) 509 0 ∧ (∀ k, k ≠ 35 → A2 k = A1 k) ∧ ∀ a, 0 ≤ a → a < 8 → A2 35 a = 1) ∧ (¬ (1 ≤ n ∧ n ≤ 8) → z' = 0 ∧ F2 = fuP F1 500 0 ∧ A2 = A1)) : z = z' ∧ INV F2 A2 := by
  by_cases c : 1 ≤ n ∧ n ≤ 8
  · obtain ⟨z1, f1, k1, a1⟩ := h1.1 c
    obtain ⟨z2, f2, k2, a2⟩ := h2.1 c
    refine ⟨by omega, ?_⟩
    subst f1 f2
    have e6 := k2 6 (by decide)
    have e7 := k2 7 (by decide)
    have e8 := k2 8 (by decide)
    refine ⟨⟨by simpa [fuP] using c, by simp [fuP], fun a x0 x1 => ?_, fun a x0 x1 => ?_, fun k x0 x1 => ?_, ?_⟩, ⟨by simp [fuP], by simp [fuP], fun a x0 x1 => ?_, fun k x0 x1 => ?_⟩, ⟨by simp [fuP], fun h => by simp [fuP] at h⟩, ⟨by simp [fuP], fun h => by simp [fuP] at h⟩, ⟨by simp [fuP], fun h => by simp [fuP] at h⟩⟩
    · rw [e6, (a1 a x0 x1).1]; decide
    · rw [e7, e8, (a1 a x0 x1).2.1, (a1 a x0 x1).2.2]; omega
    · simp [fuP] at x1; omega
    · have := NET_0 (n := n) (fr := A2 9) (to := A2 10) (pu := A2 11) (tk := A2 12) (ct := A2 7) (pt := A2 8) c (fun a x0 x1 => by rw [e7, e8]; exact (a1 a x0 x1).2)
      simpa [fuP] using this
    · rw [a2 a x0 x1, e6, (a1 a x0 x1).1]
    · simp [fuP] at x1; omega
  · obtain ⟨z1, f1, k1⟩ := h1.2 c
    obtain ⟨z2, f2, k2⟩ := h2.2 c
    refine ⟨by omega, ?_⟩
    subst f1 f2 k1 k2
    exact INV_id (fun j _ h _ => by simp [fuP, h]) (fun k _ _ => rfl) I
theorem o_time {a t z z' : Int} (I : INV F A) (h1 : ((0 ≤ a ∧ a < F 100) ∧ 1 ≤ t ∧ t ≤ 9 → z = 1 ∧ F1 = fuP (fuP F 200 0) 300 (-1) ∧ A1 = auP A 6 a t) ∧ (¬ ((0 ≤ a ∧ a < F 100) ∧ 1 ≤ t ∧ t ≤ 9) → z = 0 ∧ F1 = F ∧ A1 = A))
    (h2 : F2 = fuP F1 500 0 ∧ ((0 ≤ a ∧ a < F1 501) ∧ 1 ≤ t ∧ t ≤ 9 → z' = 1 ∧ A2 = auP A1 35 a t) ∧ (¬ ((0 ≤ a ∧ a < F1 501) ∧ 1 ≤ t ∧ t ≤ 9) → z' = 0 ∧ A2 = A1)) : z = z' ∧ INV F2 A2 := by
  have e501 := I.2.1.1
  obtain ⟨f2, h3, h4⟩ := h2
  by_cases c : (0 ≤ a ∧ a < F 100) ∧ 1 ≤ t ∧ t ≤ 9
  · obtain ⟨z1, f1, k1⟩ := h1.1 c
    have e : F1 501 = F 501 := by rw [f1]; simp [fuP]
    obtain ⟨z2, k2⟩ := h3 (by rw [e, e501]; exact c)
    refine ⟨by omega, ?_⟩
    subst f1 f2 k1 k2
    obtain ⟨⟨i1, i2, i3, i4, i5, i6⟩, ⟨j1, j2, j3, j4⟩, -, -, i9⟩ := I
    have g : ∀ k, k ≠ 6 → k ≠ 35 → auP (auP A 6 a t) 35 a t k = A k := fun k x y => by simp [auP, x, y]
    have u6 : ∀ b, auP (auP A 6 a t) 35 a t 6 b = if b = a then t else A 6 b := fun b => by simp [auP, upI]
    have u35 : ∀ b, auP (auP A 6 a t) 35 a t 35 b = if b = a then t else A 35 b := fun b => by simp [auP, upI]
    refine ⟨⟨by simpa [fuP] using i1, by simpa [fuP] using i2, fun b x0 x1 => ?_, fun b x0 x1 => ?_, fun k x0 x1 => ?_, ?_⟩, ⟨by simpa [fuP] using j1, by simpa [fuP] using j2, fun b x0 x1 => ?_, fun k x0 x1 => ?_⟩, ⟨by simp [fuP], fun h => by simp [fuP] at h⟩, ⟨by simp [fuP], fun h => by simp [fuP] at h⟩, ?_⟩
    · rw [u6]
      split
      · exact c.2
      · exact i3 b x0 x1
    · rw [g 7 (by decide) (by decide), g 8 (by decide) (by decide)]; exact i4 b x0 x1
    · rw [g 9 (by decide) (by decide), g 10 (by decide) (by decide), g 11 (by decide) (by decide), g 12 (by decide) (by decide), g 13 (by decide) (by decide)]
      simpa [fuP] using i5 k x0 (by simpa [fuP] using x1)
    · rw [g 7 (by decide) (by decide), g 8 (by decide) (by decide), g 9 (by decide) (by decide), g 10 (by decide) (by decide), g 11 (by decide) (by decide), g 12 (by decide) (by decide)]
      simpa [fuP] using i6
    · rw [u6, u35]
      split
      · rfl
      · exact j3 b x0 x1
    · rw [g 9 (by decide) (by decide), g 10 (by decide) (by decide), g 11 (by decide) (by decide), g 12 (by decide) (by decide), g 13 (by decide) (by decide), g 36 (by decide) (by decide), g 37 (by decide) (by decide), g 38 (by decide) (by decide), g 39 (by decide) (by decide), g 40 (by decide) (by decide)]
      exact j4 k x0 (by simpa [fuP] using x1)
    · exact KMI_cg (by simp [fuP]) (by simp [fuP]) (by simp [fuP]) (by simp [fuP]) (by simp [fuP]) (by simp [fuP]) (by simp [fuP]) (fun k x y => g k (by omega) (by omega)) i9
  · obtain ⟨z1, f1, k1⟩ := h1.2 c
    obtain ⟨z2, k2⟩ := h4 (by rw [f1, e501]; exact c)
    refine ⟨by omega, ?_⟩
    subst f1 f2 k1 k2
    exact INV_id (fun j _ h _ => by simp [fuP, h]) (fun k _ _ => rfl) I
/-- what a new channel makes of the net -/
theorem o_net {m a b x y t u : Int} {f : Int} (hm : 0 ≤ m) (hn : 1 ≤ F 100 ∧ F 100 ≤ 8) (em : F 101 = m) (eu : F 102 = u) (hab : (0 ≤ a ∧ a < F 100) ∧ 0 ≤ b ∧ b < F 100) (hxy : (1 ≤ x ∧ x ≤ 9) ∧ (1 ≤ y ∧ y ≤ 9)) (hch : ∀ k, 0 ≤ k → k < m → (0 ≤ A 9 k ∧ A 9 k < F 100) ∧ (0 ≤ A 10 k ∧ A 10 k < F 100) ∧ (1 ≤ A 11 k ∧ A 11 k ≤ 9) ∧ (1 ≤ A 12 k ∧ A 12 k ≤ 9) ∧ 0 ≤ A 13 k ∧ A 13 k ≤ 99) (hN : NET (F 100) m u (A 9) (A 10) (A 11) (A 12) (A 7) (A 8)) (hP : addP F A a b x y t F1 A1) :
    (∀ j, j ≠ 101 → j ≠ 102 → F1 j = F j) ∧ F1 101 = m + 1 ∧ (∀ k, k ≠ 7 → k ≠ 8 → A1 k = addW F A a b x y t k) ∧ (∀ c, ¬ (0 ≤ c ∧ c < F 100) → A1 7 c = A 7 c ∧ A1 8 c = A 8 c) ∧ NET (F 100) (m + 1) (F1 102) (A1 9) (A1 10) (A1 11) (A1 12) (A1 7) (A1 8) := by
  subst em eu
  have hP : balP (fuP F 101 (F 101 + 1)) (addW F A a b x y t) (F 101) F1 A1 := hP
  generalize hw : addW F A a b x y t = B at hP ⊢
  have b9 : B 9 = upI (A 9) (F 101) a := by rw [← hw]; rfl
  have b10 : B 10 = upI (A 10) (F 101) b := by rw [← hw]; rfl
  have b11 : B 11 = upI (A 11) (F 101) x := by rw [← hw]; rfl
  have b12 : B 12 = upI (A 12) (F 101) y := by rw [← hw]; rfl
  have b7 : B 7 = A 7 := by rw [← hw]; rfl
  have b8 : B 8 = A 8 := by rw [← hw]; rfl
  have m9 : B 9 (F 101) = a := by rw [b9, upI_s]
  have m10 : B 10 (F 101) = b := by rw [b10, upI_s]
  have m11 : B 11 (F 101) = x := by rw [b11, upI_s]
  have m12 : B 12 (F 101) = y := by rw [b12, upI_s]
  have hco : ∀ k, 0 ≤ k → k < F 101 → B 9 k = A 9 k ∧ B 10 k = A 10 k ∧ B 11 k = A 11 k ∧ B 12 k = A 12 k := fun k k0 k1 => by
    rw [b9, b10, b11, b12]
    exact ⟨upI_n (by omega), upI_n (by omega), upI_n (by omega), upI_n (by omega)⟩
  have hN1 := NET_co hco hN
  have hch1 : ∀ k, 0 ≤ k → k < F 101 + 1 → (0 ≤ B 9 k ∧ B 9 k < F 100) ∧ (0 ≤ B 10 k ∧ B 10 k < F 100) ∧ (1 ≤ B 11 k ∧ B 11 k ≤ 9) ∧ (1 ≤ B 12 k ∧ B 12 k ≤ 9) := fun k k0 k1 => by
    by_cases e : k = F 101
    · rw [e, m9, m10, m11, m12]; exact ⟨hab.1, hab.2, hxy.1, hxy.2⟩
    · obtain ⟨q1, q2, q3, q4⟩ := hco k k0 (by omega)
      rw [q1, q2, q3, q4]
      have := hch k k0 (by omega)
      exact ⟨this.1, this.2.1, this.2.2.1, this.2.2.2.1⟩
  obtain ⟨hd, hs⟩ := hP
  have e100 : (fuP F 101 (F 101 + 1)) 100 = F 100 := by simp [fuP]
  have e102 : (fuP F 101 (F 101 + 1)) 102 = F 102 := by simp [fuP]
  rw [e100] at hd
  rw [e102] at hs
  rw [← b7, ← b8] at hN1
  by_cases c : B 8 (B 9 (F 101)) = B 8 (B 10 (F 101))
  · obtain ⟨h1, h2⟩ := hs c
    have h3 := NET_in hm hn hN1 ⟨(hch1 _ hm (by omega)).1, (hch1 _ hm (by omega)).2.1⟩ c
    subst h1
    refine ⟨fun j j1 j2 => ?_, ?_, fun k _ _ => rfl, fun q _ => by rw [b7, b8]; exact ⟨rfl, rfl⟩, ?_⟩
    · rw [h2]; split <;> simp [fuP, j1, j2]
    · rw [h2]; split <;> simp [fuP]
    · have e9 : F1 102 = if A1 7 (A1 9 (F 101)) * A1 11 (F 101) ≠ A1 7 (A1 10 (F 101)) * A1 12 (F 101) ∧ F 102 = -1 then F 101 else F 102 := by
        rw [h2]; split <;> simp [fuP]
      rw [e9]
      exact h3
  · obtain ⟨h1, h2, h3, h4⟩ := hd c
    have e9 := h2 9 (by decide) (by decide)
    have e10 := h2 10 (by decide) (by decide)
    have e11 := h2 11 (by decide) (by decide)
    have e12 := h2 12 (by decide) (by decide)
    have h5 := NET_ou (ct' := A1 7) (pt' := A1 8) hm hn hN1 hch1 c rfl rfl (fun q q0 q1 => by
      rw [h3 q]
      by_cases d : B 8 q = B 8 (B 10 (F 101))
      · rw [if_pos ⟨q0, q1, d⟩, if_pos d]
      · rw [if_neg (fun h => d h.2.2), if_neg d]
        by_cases d2 : B 8 q = B 8 (B 9 (F 101))
        · rw [if_pos ⟨q0, q1, d2⟩, if_pos d2]
        · rw [if_neg (fun h => d2 h.2.2), if_neg d2]) (fun q q0 q1 => by
      rw [h4 q]
      by_cases d : B 8 q = max (B 8 (B 9 (F 101))) (B 8 (B 10 (F 101)))
      · rw [if_pos ⟨q0, q1, d⟩, if_pos d]
      · rw [if_neg (fun h => d h.2.2), if_neg d])
    refine ⟨fun j j1 j2 => by rw [h1]; simp [fuP, j1], by rw [h1]; simp [fuP], h2, fun q hq => ⟨?_, ?_⟩, ?_⟩
    · rw [h3 q, if_neg (fun h => hq ⟨h.1, h.2.1⟩), if_neg (fun h => hq ⟨h.1, h.2.1⟩), b7]
    · rw [h4 q, if_neg (fun h => hq ⟨h.1, h.2.1⟩), b8]
    · rw [e9, e10, e11, e12, h1, e102]
      exact h5
theorem o_chan {a b x y t z z' : Int} (I : INV F A) (h1 : (((0 ≤ a ∧ a < F 100) ∧ (0 ≤ b ∧ b < F 100) ∧ F 101 < 14 ∧ (1 ≤ x ∧ x ≤ 9) ∧ (1 ≤ y ∧ y ≤ 9) ∧ 0 ≤ t ∧ t ≤ 99) → z = F 101 ∧ addP (fuP (fuP F 200 0) 300 (-1)) A a b x y t F1 A1) ∧ (¬ ((0 ≤ a ∧ a < F 100) ∧ (0 ≤ b ∧ b < F 100) ∧ F 101 < 14 ∧ (1 ≤ x ∧ x ≤ 9) ∧ (1 ≤ y ∧ y ≤ 9) ∧ 0 ≤ t ∧ t ≤ 99) → z = -1 ∧ F1 = F ∧ A1 = A))
    (h2 : (((0 ≤ a ∧ a < F1 501) ∧ (0 ≤ b ∧ b < F1 501) ∧ (1 ≤ x ∧ x ≤ 9) ∧ (1 ≤ y ∧ y ≤ 9) ∧ (0 ≤ t ∧ t ≤ 99) ∧ F1 502 < 14) → z' = F1 502 ∧ F2 = fuP (fuP (fuP F1 500 0) 502 (F1 502 + 1)) 509 0 ∧ A2 = auP (auP (auP (auP (auP A1 36 (F1 502) a) 37 (F1 502) b) 38 (F1 502) x) 39 (F1 502) y) 40 (F1 502) t) ∧ (¬ ((0 ≤ a ∧ a < F1 501) ∧ (0 ≤ b ∧ b < F1 501) ∧ (1 ≤ x ∧ x ≤ 9) ∧ (1 ≤ y ∧ y ≤ 9) ∧ (0 ≤ t ∧ t ≤ 99) ∧ F1 502 < 14) → z' = -1 ∧ F2 = fuP F1 500 0 ∧ A2 = A1)) : z = z' ∧ INV F2 A2 := by
  obtain ⟨⟨i1, i2, i3, i4, i5, i6⟩, ⟨j1, j2, j3, j4⟩, i7, i8, i9⟩ := id I
  by_cases c : (0 ≤ a ∧ a < F 100) ∧ (0 ≤ b ∧ b < F 100) ∧ F 101 < 14 ∧ (1 ≤ x ∧ x ≤ 9) ∧ (1 ≤ y ∧ y ≤ 9) ∧ 0 ≤ t ∧ t ≤ 99
  · obtain ⟨z1, hP⟩ := h1.1 c
    have q100 : (fuP (fuP F 200 0) 300 (-1)) 100 = F 100 := by simp [fuP]
    have q101 : (fuP (fuP F 200 0) 300 (-1)) 101 = F 101 := by simp [fuP]
    have q102 : (fuP (fuP F 200 0) 300 (-1)) 102 = F 102 := by simp [fuP]
    obtain ⟨n1, n2, n3, n4, n5⟩ := o_net (F := fuP (fuP F 200 0) 300 (-1)) (m := F 101) (u := F 102) (f := 0) i2.1 (by rw [q100]; exact i1) q101 q102 (by rw [q100]; exact ⟨c.1, c.2.1⟩) ⟨c.2.2.2.1, c.2.2.2.2.1⟩ (by rw [q100]; exact i5) (by rw [q100]; exact i6) hP
    rw [q100] at n4 n5
    have g : ∀ j, j ≠ 101 → j ≠ 102 → j ≠ 200 → j ≠ 300 → F1 j = F j := fun j a1 a2 a3 a4 => by rw [n1 j a1 a2]; simp [fuP, a3, a4]
    have g501 := g 501 (by decide) (by decide) (by decide) (by decide)
    have g502 := g 502 (by decide) (by decide) (by decide) (by decide)
    have g100 := g 100 (by decide) (by decide) (by decide) (by decide)
    obtain ⟨z2, f2, k2⟩ := h2.1 (by rw [g501, g502, j1, j2]; exact ⟨c.1, c.2.1, c.2.2.2.1, c.2.2.2.2.1, c.2.2.2.2.2, c.2.2.1⟩)
    rw [g502, j2] at z2 f2 k2
    have w9 : A1 9 = upI (A 9) (F 101) a := by rw [n3 9 (by decide) (by decide)]; simp [addW, auP, q101]
    have w10 : A1 10 = upI (A 10) (F 101) b := by rw [n3 10 (by decide) (by decide)]; simp [addW, auP, q101]
    have w11 : A1 11 = upI (A 11) (F 101) x := by rw [n3 11 (by decide) (by decide)]; simp [addW, auP, q101]
    have w12 : A1 12 = upI (A 12) (F 101) y := by rw [n3 12 (by decide) (by decide)]; simp [addW, auP, q101]
    have w13 : A1 13 = upI (A 13) (F 101) t := by rw [n3 13 (by decide) (by decide)]; simp [addW, auP, q101]
    have wk : ∀ k, k < 7 ∨ 13 < k → A1 k = A k := fun k hk => by
      rw [n3 k (by omega) (by omega)]
      simp [addW, auP, show k ≠ 9 by omega, show k ≠ 10 by omega, show k ≠ 11 by omega, show k ≠ 12 by omega, show k ≠ 13 by omega]
    have v : ∀ k, k < 36 ∨ 40 < k → A2 k = A1 k := fun k hk => by
      rw [k2]
      simp [auP, show k ≠ 36 by omega, show k ≠ 37 by omega, show k ≠ 38 by omega, show k ≠ 39 by omega, show k ≠ 40 by omega]
    have v36 : A2 36 = upI (A 36) (F 101) a := by rw [k2]; simp [auP, wk 36 (by decide)]
    have v37 : A2 37 = upI (A 37) (F 101) b := by rw [k2]; simp [auP, wk 37 (by decide)]
    have v38 : A2 38 = upI (A 38) (F 101) x := by rw [k2]; simp [auP, wk 38 (by decide)]
    have v39 : A2 39 = upI (A 39) (F 101) y := by rw [k2]; simp [auP, wk 39 (by decide)]
    have v40 : A2 40 = upI (A 40) (F 101) t := by rw [k2]; simp [auP, wk 40 (by decide)]
    have F2j : ∀ j, j ≠ 500 → j ≠ 502 → j ≠ 509 → F2 j = F1 j := fun j a1 a2 a3 => by rw [f2]; simp [fuP, a1, a2, a3]
    have e100 : F2 100 = F 100 := by rw [F2j 100 (by decide) (by decide) (by decide), g100]
    have e101 : F2 101 = F 101 + 1 := by rw [F2j 101 (by decide) (by decide) (by decide), n2]
    have e102 : F2 102 = F1 102 := F2j 102 (by decide) (by decide) (by decide)
    have e501 : F2 501 = F 100 := by rw [F2j 501 (by decide) (by decide) (by decide), g501, j1]
    have e502 : F2 502 = F 101 + 1 := by rw [f2]; simp [fuP]
    have e200 : F2 200 = 0 := by rw [F2j 200 (by decide) (by decide) (by decide), n1 200 (by decide) (by decide)]; simp [fuP]
    have e300 : F2 300 = -1 := by rw [F2j 300 (by decide) (by decide) (by decide), n1 300 (by decide) (by decide)]; simp [fuP]
    have e509 : F2 509 = 0 := by rw [f2]; simp [fuP]
    have nb := NET_b i1 n5
    refine ⟨by omega, ⟨⟨by rw [e100]; exact i1, by rw [e101]; omega, fun q q0 q1 => ?_, fun q q0 q1 => ?_, fun k k0 k1 => ?_, ?_⟩, ⟨by rw [e501, e100], by rw [e502, e101], fun q q0 q1 => ?_, fun k k0 k1 => ?_⟩, ⟨by rw [e200]; exact Or.inl rfl, fun h => by omega⟩, ⟨by rw [e300]; decide, fun h => by omega⟩, ⟨by rw [e509]; exact Or.inl rfl, fun h => by omega⟩⟩⟩
    · rw [v 6 (by decide), wk 6 (by decide)]; exact i3 q q0 q1
    · rw [v 7 (by decide), v 8 (by decide)]
      by_cases d : q < F 100
      · exact nb q q0 d
      · rw [(n4 q (by omega)).1, (n4 q (by omega)).2]; exact i4 q q0 q1
    · rw [v 9 (by decide), v 10 (by decide), v 11 (by decide), v 12 (by decide), v 13 (by decide), w9, w10, w11, w12, w13, e100]
      rw [e101] at k1
      by_cases d : k = F 101
      · rw [d, upI_s, upI_s, upI_s, upI_s, upI_s]; exact ⟨c.1, c.2.1, c.2.2.2.1, c.2.2.2.2.1, c.2.2.2.2.2⟩
      · rw [upI_n d, upI_n d, upI_n d, upI_n d, upI_n d]; exact i5 k k0 (by omega)
    · rw [e100, e101, e102, v 9 (by decide), v 10 (by decide), v 11 (by decide), v 12 (by decide), v 7 (by decide), v 8 (by decide)]
      exact n5
    · rw [v 35 (by decide), wk 35 (by decide), v 6 (by decide), wk 6 (by decide)]; exact j3 q q0 q1
    · rw [v 9 (by decide), v 10 (by decide), v 11 (by decide), v 12 (by decide), v 13 (by decide), w9, w10, w11, w12, w13, v36, v37, v38, v39, v40]
      rw [e101] at k1
      by_cases d : k = F 101
      · rw [d, upI_s, upI_s, upI_s, upI_s, upI_s, upI_s, upI_s, upI_s, upI_s, upI_s]; exact ⟨rfl, rfl, rfl, rfl, rfl⟩
      · rw [upI_n d, upI_n d, upI_n d, upI_n d, upI_n d, upI_n d, upI_n d, upI_n d, upI_n d, upI_n d]; exact j4 k k0 (by omega)
  · obtain ⟨z1, f1, k1⟩ := h1.2 c
    obtain ⟨z2, f2, k2⟩ := h2.2 (fun h => c (by rw [f1, j1, j2] at h; exact ⟨h.1, h.2.1, h.2.2.2.2.2, h.2.2.1, h.2.2.2.1, h.2.2.2.2.1⟩))
    refine ⟨by omega, ?_⟩
    subst f1 f2 k1 k2
    exact INV_id (fun j _ h _ => by simp [fuP, h]) (fun k _ _ => rfl) I
end OG
