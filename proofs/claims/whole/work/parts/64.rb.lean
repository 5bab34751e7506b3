theorem cw_count : Cond.codeWith zy_L_count zc_L_count 4 (some .int) [(0, 9, 12, 13), (0, 9, 15, 15)] ∈ zG := th_in (L := [Cond.codeWith zy_L_count zc_L_count 4 (some .int) [(0, 9, 12, 13), (0, 9, 15, 15)]]) (by decide +kernel) _ List.mem_cons_self
theorem cw_order : Cond.codeWith zy_L_order zc_L_order 4 (some .int) [(0, 9, 12, 20)] ∈ zG := th_in (L := [Cond.codeWith zy_L_order zc_L_order 4 (some .int) [(0, 9, 12, 20)]]) (by decide +kernel) _ List.mem_cons_self
theorem cw_pace : Cond.codeWith zy_L_pace zc_L_pace 5 (some .int) [(0, 10, 13, 20), (0, 10, 17, 13), (0, 10, 21, 15)] ∈ zG := th_in (L := [Cond.codeWith zy_L_pace zc_L_pace 5 (some .int) [(0, 10, 13, 20), (0, 10, 17, 13), (0, 10, 21, 15)]]) (by decide +kernel) _ List.mem_cons_self
section LK
variable {F F1 F2 : Nat → Int} {A A1 A2 : Nat → Int → Int}
theorem t_keep {a t z : Int} (h1 : ((0 ≤ a ∧ a < F 100) ∧ 1 ≤ t ∧ t ≤ 9 → z = 1 ∧ F1 = fuP (fuP F 200 0) 300 (-1) ∧ A1 = auP A 6 a t) ∧ (¬ ((0 ≤ a ∧ a < F 100) ∧ 1 ≤ t ∧ t ≤ 9) → z = 0 ∧ F1 = F ∧ A1 = A)) : F1 501 = F 501 ∧ F1 502 = F 502 := by
  by_cases c : (0 ≤ a ∧ a < F 100) ∧ 1 ≤ t ∧ t ≤ 9
  · rw [(h1.1 c).2.1]; simp [fuP]
  · rw [(h1.2 c).2.1]; exact ⟨rfl, rfl⟩
theorem c_keep {a b x y t z : Int} (h1 : (((0 ≤ a ∧ a < F 100) ∧ (0 ≤ b ∧ b < F 100) ∧ F 101 < 14 ∧ (1 ≤ x ∧ x ≤ 9) ∧ (1 ≤ y ∧ y ≤ 9) ∧ 0 ≤ t ∧ t ≤ 99) → z = F 101 ∧ addP (fuP (fuP F 200 0) 300 (-1)) A a b x y t F1 A1) ∧ (¬ ((0 ≤ a ∧ a < F 100) ∧ (0 ≤ b ∧ b < F 100) ∧ F 101 < 14 ∧ (1 ≤ x ∧ x ≤ 9) ∧ (1 ≤ y ∧ y ≤ 9) ∧ 0 ≤ t ∧ t ≤ 99) → z = -1 ∧ F1 = F ∧ A1 = A)) : F1 501 = F 501 ∧ F1 502 = F 502 := by
  by_cases c : (0 ≤ a ∧ a < F 100) ∧ (0 ≤ b ∧ b < F 100) ∧ F 101 < 14 ∧ (1 ≤ x ∧ x ≤ 9) ∧ (1 ≤ y ∧ y ≤ 9) ∧ 0 ≤ t ∧ t ≤ 99
  · obtain ⟨-, hd, hs⟩ := h1.1 c
    by_cases d : (addW (fuP (fuP F 200 0) 300 (-1)) A a b x y t) 8 ((addW (fuP (fuP F 200 0) 300 (-1)) A a b x y t) 9 ((fuP (fuP F 200 0) 300 (-1)) 101)) = (addW (fuP (fuP F 200 0) 300 (-1)) A a b x y t) 8 ((addW (fuP (fuP F 200 0) 300 (-1)) A a b x y t) 10 ((fuP (fuP F 200 0) 300 (-1)) 101))
    · rw [(hs d).2]
      split <;> simp [fuP]
    · rw [(hd d).1]; simp [fuP]
  · rw [(h1.2 c).2.1]; exact ⟨rfl, rfl⟩
theorem cq_inv {P X Y : Prop} (I : INV F A) (h : fC F A F1 A1 ∧ (P → F1 200 = 1 ∧ RdOK F1 A1 ∧ X) ∧ (¬ P → Y ∧ F1 = F ∧ A1 = A)) : INV F1 A1 := by
  by_cases c : P
  · exact (fC_inv I h.1 (Or.inl ⟨(h.2.1 c).1, (h.2.1 c).2.1⟩)).1
  · exact (fC_inv I h.1 (Or.inr (h.2.2 c).2)).1
theorem oz_inv {P : Prop} (I : INV F A) (h : fC F A F1 A1 ∧ (P → F1 200 = 1 ∧ RdOK F1 A1) ∧ (¬ P → F1 = F ∧ A1 = A)) : INV F1 A1 := by
  by_cases c : P
  · exact (fC_inv I h.1 (Or.inl (h.2.1 c))).1
  · exact (fC_inv I h.1 (Or.inr (h.2.2 c))).1
theorem tq_inv {w z : Int} (I : INV F A) (h1 : fC F A F1 A1 ∧ (w ≠ 3 → F1 = F ∧ A1 = A) ∧ (w = 0 → z = F 100) ∧ (w = 1 → z = F 101) ∧ (w = 2 → z = sI (fun a => if A 8 a = a then 1 else 0) (F 100)) ∧ (w = 3 → (PLc F A → F1 200 = 1 ∧ RdOK F1 A1 ∧ z = F1 201) ∧ (¬ PLc F A → z = 0 ∧ F1 = F ∧ A1 = A)) ∧ (w < 0 ∨ 3 < w → z = -1)) : INV F1 A1 := by
  by_cases c : w = 3
  · exact cq_inv I ⟨h1.1, (h1.2.2.2.2.2.1 c).1, (h1.2.2.2.2.2.1 c).2⟩
  · exact (fC_inv I h1.1 (Or.inr (h1.2.1 c))).1
/-- what a pace leaves of the graph -/
theorem kp {a : Int} (h0 : F1 100 = F 100) (h1 : F1 101 = F 101) (h2 : F1 102 = F 102) (hA : ∀ k, 6 ≤ k → k ≤ 13 → A1 k = A k) : (PLc F1 A1 ↔ PLc F A) ∧ (CLc F1 A1 a ↔ CLc F A a) ∧ SMc F1 A1 a = SMc F A a := by
  unfold PLc CLc SMc
  rw [h0, h1, h2, hA 7 (by decide) (by decide), hA 8 (by decide) (by decide), hA 9 (by decide) (by decide), hA 10 (by decide) (by decide)]
  exact ⟨Iff.rfl, Iff.rfl, rfl⟩
theorem kpC {a : Int} (h : fC F A F1 A1) : (PLc F1 A1 ↔ PLc F A) ∧ (CLc F1 A1 a ↔ CLc F A a) ∧ SMc F1 A1 a = SMc F A a := kp (h.1 100 (by decide) (by decide)) (h.1 101 (by decide) (by decide)) (h.1 102 (by decide) (by decide)) (fun k x y => h.2 k (by omega) (by omega) (by omega) (by omega))
abbrev ALv (F : Nat → Int) (A : Nat → Int → Int) : Prop := ∀ F9 A9, (∀ j, j ≠ 200 → j ≠ 201 → F9 j = F j) → (∀ k, k ≠ 14 → k ≠ 15 → k ≠ 16 → k ≠ 17 → A9 k = A k) → RdOK F9 A9 → ∀ b, 0 ≤ b → b < F9 100 → A9 15 b = 0
/-- no pace, for want of a round, of tokens, or of ways -/
theorem pac_ise {a : Int} (I : INV F A) (ha : 0 ≤ a ∧ a < F 100) (g1 : ¬ (PLc F A ∧ ALv F A ∧ CLc F A a)) (h : fC F A F1 A1 ∧ (PLc F A → F1 200 = 1 ∧ RdOK F1 A1) ∧ (¬ PLc F A → F1 = F ∧ A1 = A)) : INV F1 A1 ∧ (0 ≤ a ∧ a < F1 100) ∧ (PLc F1 A1 → RdOK F1 A1) ∧ ¬ (PLc F1 A1 ∧ ALc F1 A1 ∧ CLc F1 A1 a) := by
  obtain ⟨k1, k2, k3⟩ := kpC (a := a) h.1
  refine ⟨oz_inv I h, by rw [h.1.1 100 (by decide) (by decide)]; exact ha, fun hp => (h.2.1 (k1.mp hp)).2, fun hc => ?_⟩
  have hp := k1.mp hc.1
  refine g1 ⟨hp, ?_, k2.mp hc.2.2⟩
  rcases alv_dec I hp with e | e
  · exact e
  · exact absurd hc.2.1 (e F1 A1 h.1.1 h.1.2 (h.2.1 hp).2)
theorem pac_ae {a : Int} (I : INV F A) (ha : 0 ≤ a ∧ a < F 100) (g1 : PLc F A ∧ ALv F A ∧ CLc F A a) (h : fC F A F1 A1 ∧ F1 200 = 1 ∧ RdOK F1 A1) : INV F1 A1 ∧ (0 ≤ a ∧ a < F1 100) ∧ RdOK F1 A1 ∧ (PLc F1 A1 ∧ ALc F1 A1 ∧ CLc F1 A1 a) ∧ SMc F1 A1 a = SMc F A a := by
  obtain ⟨k1, k2, k3⟩ := kpC (a := a) h.1
  exact ⟨INV_rd h.1.1 h.1.2 h.2.1 h.2.2 I, by rw [h.1.1 100 (by decide) (by decide)]; exact ha, h.2.2, ⟨k1.mpr g1.1, g1.2.1 F1 A1 h.1.1 h.1.2 h.2.2, k2.mpr g1.2.2⟩, k3⟩
theorem pac_ret {a w : Int} (I : INV F A) (ha : 0 ≤ a ∧ a < F 100) (g1 : PLc F A ∧ ALv F A ∧ CLc F A a)
    (h : ∃ (F8 : Nat → Int) (A8 : Nat → Int → Int) (F9 : Nat → Int) (A9 : Nat → Int → Int), (∀ j, j ≠ 200 → j ≠ 201 → F9 j = F j) ∧ (∀ k, k ≠ 14 → k ≠ 15 → k ≠ 16 → k ≠ 17 → A9 k = A k) ∧ F9 200 = 1 ∧ RdOK F9 A9 ∧ (∀ j, j < 300 ∨ 304 < j → F8 j = F9 j) ∧ (∀ k, k < 18 ∨ 25 < k → A8 k = A9 k) ∧ F8 300 = A 8 a ∧ bestR (pG A (A 8 a) (F 100) (F 101)) (F8 301) (F8 302) ∧ F1 = F8 ∧ (∀ k, k ≠ 57 → A1 k = A8 k) ∧ (w = 0 → A1 57 0 = F8 301) ∧ (w = 1 → A1 57 0 = F8 302)) :
    INV F1 A1 ∧ (0 ≤ a ∧ a < F1 100) ∧ RdOK F1 A1 ∧ (PLc F1 A1 ∧ ALc F1 A1 ∧ CLc F1 A1 a) ∧ SMc F1 A1 a = SMc F A a ∧ bestR (pG A1 (A1 8 a) (F1 100) (F1 101)) (F1 301) (F1 302) ∧ (∀ u v s w, pG A1 (A1 8 a) (F1 100) (F1 101) u v s w → (0 ≤ u ∧ u < sI (gS A1 (A1 8 a)) (F1 100)) ∧ (0 ≤ v ∧ v < sI (gS A1 (A1 8 a)) (F1 100)) ∧ (1 ≤ s ∧ s ≤ 9) ∧ 0 ≤ w ∧ w ≤ 100) ∧ (w = 0 → A1 57 0 = F1 301) ∧ (w = 1 → A1 57 0 = F1 302) := by
  obtain ⟨F8, A8, F9, A9, d1, d2, d3, d4, d5, d6, d7, d8, rfl, d10, d11, d12⟩ := h
  have c9 : fC F A F9 A9 := ⟨d1, d2⟩
  have I9 := INV_rd d1 d2 d3 d4 I
  have e8 : A9 8 = A 8 := d2 8 (by decide) (by decide) (by decide) (by decide)
  have e100 : F9 100 = F 100 := d1 100 (by decide) (by decide)
  have e101 : F9 101 = F 101 := d1 101 (by decide) (by decide)
  have pa := (I.1.2.2.2.1 a ha.1 (by have := I.1.1; omega)).2
  have pg9 : pG A9 (A 8 a) (F 100) (F 101) = pG A (A 8 a) (F 100) (F 101) := pG_cg I.1 (fun k x y => d2 k (by omega) (by omega) (by omega) (by omega))
  have I8 : INV F1 A8 := INV_pc d5 d6 d7 pa (by rw [e100, e101, pg9]; exact d8) I9
  have I1 := x57_inv I8 d10
  have f100 : F1 100 = F 100 := (d5 100 (by decide)).trans e100
  have f101 : F1 101 = F 101 := (d5 101 (by decide)).trans e101
  have f102 : F1 102 = F 102 := (d5 102 (by decide)).trans (d1 102 (by decide) (by decide))
  have ak : ∀ k, k < 18 → A1 k = A9 k := fun k hk => (d10 k (by omega)).trans (d6 k (by omega))
  have hk : ∀ k, 6 ≤ k → k ≤ 13 → A1 k = A k := fun k x y => (ak k (by omega)).trans (d2 k (by omega) (by omega) (by omega) (by omega))
  obtain ⟨k1, k2, k3⟩ := kp (a := a) f100 f101 f102 hk
  have R1 : RdOK F1 A1 := RdOK_cg (d5 100 (by decide)) (d5 101 (by decide)) (d5 201 (by decide)) (fun k x y => ak k (by omega)) d4
  have pg : pG A1 (A1 8 a) (F1 100) (F1 101) = pG A (A 8 a) (F 100) (F 101) := by rw [f100, f101, hk 8 (by decide) (by decide)]; exact pG_cg I.1 hk
  have al : ALc F1 A1 := fun b b0 b1 => by rw [ak 15 (by decide)]; exact g1.2.1 F9 A9 d1 d2 d4 b b0 (by rw [← d5 100 (by decide)]; exact b1)
  have gs : sI (gS A1 (A1 8 a)) (F1 100) = sI (gS A (A 8 a)) (F 100) := by
    rw [f100, hk 8 (by decide) (by decide)]
    refine sI_cong (fun b _ _ => ?_)
    unfold gS
    rw [hk 7 (by decide) (by decide), hk 8 (by decide) (by decide)]
  refine ⟨I1, by rw [f100]; exact ha, R1, ⟨k1.mpr g1.1, al, k2.mpr g1.2.2⟩, k3, by rw [pg]; exact d8, by rw [pg, gs]; exact (p_ahead I ha g1.1 g1.2.1).1, d11, d12⟩
end LK
