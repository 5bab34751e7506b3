/-! What holds between two calls: the class's state, the reference's, and that both hold one graph -/
def CLS (F : Nat → Int) (A : Nat → Int → Int) : Prop := (1 ≤ F 100 ∧ F 100 ≤ 8) ∧ (0 ≤ F 101 ∧ F 101 ≤ 14) ∧ (∀ a, 0 ≤ a → a < 8 → 1 ≤ A 6 a ∧ A 6 a ≤ 9) ∧ (∀ a, 0 ≤ a → a < 8 → (1 ≤ A 7 a ∧ A 7 a ≤ 4782969) ∧ 0 ≤ A 8 a ∧ A 8 a < 8) ∧ (∀ k, 0 ≤ k → k < F 101 → (0 ≤ A 9 k ∧ A 9 k < F 100) ∧ (0 ≤ A 10 k ∧ A 10 k < F 100) ∧ (1 ≤ A 11 k ∧ A 11 k ≤ 9) ∧ (1 ≤ A 12 k ∧ A 12 k ≤ 9) ∧ 0 ≤ A 13 k ∧ A 13 k ≤ 99) ∧ NET (F 100) (F 101) (F 102) (A 9) (A 10) (A 11) (A 12) (A 7) (A 8)
def GRA (F : Nat → Int) (A : Nat → Int → Int) : Prop := F 501 = F 100 ∧ F 502 = F 101 ∧ (∀ a, 0 ≤ a → a < 8 → A 35 a = A 6 a) ∧ ∀ k, 0 ≤ k → k < F 101 → A 36 k = A 9 k ∧ A 37 k = A 10 k ∧ A 38 k = A 11 k ∧ A 39 k = A 12 k ∧ A 40 k = A 13 k
def RDI (F : Nat → Int) (A : Nat → Int → Int) : Prop := (F 200 = 0 ∨ F 200 = 1) ∧ (F 200 = 1 → RdOK F A)
def PCI (F : Nat → Int) (A : Nat → Int → Int) : Prop := (-1 ≤ F 300 ∧ F 300 < 8) ∧ (0 ≤ F 300 → bestR (pG A (F 300) (F 100) (F 101)) (F 301) (F 302))
def KMI (F : Nat → Int) (A : Nat → Int → Int) : Prop := (F 509 = 0 ∨ F 509 = 1) ∧ (F 509 = 1 → KM F A)
def INV (F : Nat → Int) (A : Nat → Int → Int) : Prop := CLS F A ∧ GRA F A ∧ RDI F A ∧ PCI F A ∧ KMI F A
section CG
variable {F F1 : Nat → Int} {A A1 : Nat → Int → Int}
theorem CLS_cg (h0 : F1 100 = F 100) (h1 : F1 101 = F 101) (h2 : F1 102 = F 102) (hA : ∀ k, 6 ≤ k → k ≤ 13 → A1 k = A k) (h : CLS F A) : CLS F1 A1 := by
  unfold CLS at *
  rw [h0, h1, h2, hA 6 (by decide) (by decide), hA 7 (by decide) (by decide), hA 8 (by decide) (by decide), hA 9 (by decide) (by decide), hA 10 (by decide) (by decide), hA 11 (by decide) (by decide), hA 12 (by decide) (by decide), hA 13 (by decide) (by decide)]
  exact h
theorem GRA_cg (h0 : F1 100 = F 100) (h1 : F1 101 = F 101) (h2 : F1 501 = F 501) (h3 : F1 502 = F 502) (hA : ∀ k, 6 ≤ k → k ≤ 13 → A1 k = A k) (hB : ∀ k, 35 ≤ k → k ≤ 40 → A1 k = A k) (h : GRA F A) : GRA F1 A1 := by
  unfold GRA at *
  rw [h0, h1, h2, h3, hA 6 (by decide) (by decide), hA 9 (by decide) (by decide), hA 10 (by decide) (by decide), hA 11 (by decide) (by decide), hA 12 (by decide) (by decide), hA 13 (by decide) (by decide), hB 35 (by decide) (by decide), hB 36 (by decide) (by decide), hB 37 (by decide) (by decide), hB 38 (by decide) (by decide), hB 39 (by decide) (by decide), hB 40 (by decide) (by decide)]
  exact h
theorem RdOK_cg (h0 : F1 100 = F 100) (h1 : F1 101 = F 101) (h2 : F1 201 = F 201) (hA : ∀ k, 6 ≤ k → k ≤ 17 → A1 k = A k) (h : RdOK F A) : RdOK F1 A1 := by
  unfold RdOK at *
  rw [h0, h1, h2, hA 7 (by decide) (by decide), hA 9 (by decide) (by decide), hA 10 (by decide) (by decide), hA 11 (by decide) (by decide), hA 12 (by decide) (by decide), hA 13 (by decide) (by decide), hA 14 (by decide) (by decide), hA 15 (by decide) (by decide), hA 16 (by decide) (by decide), hA 17 (by decide) (by decide)]
  exact h
theorem pG_cg {r : Int} (hc : CLS F A) (hA : ∀ k, 6 ≤ k → k ≤ 13 → A1 k = A k) : pG A1 r (F 100) (F 101) = pG A r (F 100) (F 101) := pG_ag ⟨fun b _ _ => ⟨by rw [hA 6 (by decide) (by decide)], by rw [hA 7 (by decide) (by decide)], by rw [hA 8 (by decide) (by decide)]⟩, fun k k0 k1 => by
  have h := hc.2.2.2.2.1 k k0 k1
  rw [hA 9 (by decide) (by decide), hA 10 (by decide) (by decide), hA 11 (by decide) (by decide), hA 12 (by decide) (by decide), hA 13 (by decide) (by decide)]
  exact ⟨rfl, rfl, rfl, rfl, rfl, h.1, h.2.1⟩⟩
theorem PCI_cg (hc : CLS F A) (h0 : F1 100 = F 100) (h1 : F1 101 = F 101) (h2 : F1 300 = F 300) (h3 : F1 301 = F 301) (h4 : F1 302 = F 302) (hA : ∀ k, 6 ≤ k → k ≤ 13 → A1 k = A k) (h : PCI F A) : PCI F1 A1 := by
  unfold PCI at *
  rw [h0, h1, h2, h3, h4, pG_cg hc hA]
  exact h
theorem KMI_cg (h0 : F1 509 = F 509) (h1 : F1 501 = F 501) (h2 : F1 502 = F 502) (h3 : F1 510 = F 510) (h4 : F1 511 = F 511) (h5 : F1 512 = F 512) (h6 : F1 520 = F 520) (hA : ∀ k, 36 ≤ k → k ≤ 48 → A1 k = A k) (h : KMI F A) : KMI F1 A1 := ⟨by rw [h0]; exact h.1, fun e => KM_cg h1 h2 h3 h4 h5 h6 hA (h.2 (by rw [← h0]; exact e))⟩
theorem INV_id (hF : ∀ j, (j < 303 ∨ 304 < j) → j ≠ 500 → (j < 523 ∨ 532 < j) → F1 j = F j) (hA : ∀ k, (k < 18 ∨ 34 < k) → k < 49 → A1 k = A k) (I : INV F A) : INV F1 A1 := by
  obtain ⟨i1, i2, i3, i4, i5⟩ := I
  have f : ∀ j, (j < 303 ∨ 304 < j) → j ≠ 500 → (j < 523 ∨ 532 < j) → F1 j = F j := hF
  have g1 : ∀ k, 6 ≤ k → k ≤ 17 → A1 k = A k := fun k h1 h2 => hA k (by omega) (by omega)
  have g2 : ∀ k, 35 ≤ k → k ≤ 48 → A1 k = A k := fun k h1 h2 => hA k (by omega) (by omega)
  have g3 : ∀ k, 6 ≤ k → k ≤ 13 → A1 k = A k := fun k h1 h2 => g1 k h1 (by omega)
  refine ⟨CLS_cg (f 100 (by decide) (by decide) (by decide)) (f 101 (by decide) (by decide) (by decide)) (f 102 (by decide) (by decide) (by decide)) g3 i1, GRA_cg (f 100 (by decide) (by decide) (by decide)) (f 101 (by decide) (by decide) (by decide)) (f 501 (by decide) (by decide) (by decide)) (f 502 (by decide) (by decide) (by decide)) g3 (fun k h1 h2 => g2 k h1 (by omega)) i2, ⟨by rw [f 200 (by decide) (by decide) (by decide)]; exact i3.1, fun e => RdOK_cg (f 100 (by decide) (by decide) (by decide)) (f 101 (by decide) (by decide) (by decide)) (f 201 (by decide) (by decide) (by decide)) g1 (i3.2 (by rw [← f 200 (by decide) (by decide) (by decide)]; exact e))⟩,
    PCI_cg i1 (f 100 (by decide) (by decide) (by decide)) (f 101 (by decide) (by decide) (by decide)) (f 300 (by decide) (by decide) (by decide)) (f 301 (by decide) (by decide) (by decide)) (f 302 (by decide) (by decide) (by decide)) g3 i4, KMI_cg (f 509 (by decide) (by decide) (by decide)) (f 501 (by decide) (by decide) (by decide)) (f 502 (by decide) (by decide) (by decide)) (f 510 (by decide) (by decide) (by decide)) (f 511 (by decide) (by decide) (by decide)) (f 512 (by decide) (by decide) (by decide)) (f 520 (by decide) (by decide) (by decide)) (fun k h1 h2 => g2 k (by omega) h2) i5⟩
theorem INV_rd (hF : ∀ j, j ≠ 200 → j ≠ 201 → F1 j = F j) (hA : ∀ k, k ≠ 14 → k ≠ 15 → k ≠ 16 → k ≠ 17 → A1 k = A k) (h1 : F1 200 = 1) (h2 : RdOK F1 A1) (I : INV F A) : INV F1 A1 := by
  obtain ⟨i1, i2, i3, i4, i5⟩ := I
  have f : ∀ j, j ≠ 200 → j ≠ 201 → F1 j = F j := hF
  have g3 : ∀ k, 6 ≤ k → k ≤ 13 → A1 k = A k := fun k h1 h2 => hA k (by omega) (by omega) (by omega) (by omega)
  have g2 : ∀ k, 35 ≤ k → k ≤ 48 → A1 k = A k := fun k h1 h2 => hA k (by omega) (by omega) (by omega) (by omega)
  exact ⟨CLS_cg (f 100 (by decide) (by decide)) (f 101 (by decide) (by decide)) (f 102 (by decide) (by decide)) g3 i1, GRA_cg (f 100 (by decide) (by decide)) (f 101 (by decide) (by decide)) (f 501 (by decide) (by decide)) (f 502 (by decide) (by decide)) g3 (fun k h1 h2 => g2 k h1 (by omega)) i2, ⟨Or.inr h1, fun _ => h2⟩,
    PCI_cg i1 (f 100 (by decide) (by decide)) (f 101 (by decide) (by decide)) (f 300 (by decide) (by decide)) (f 301 (by decide) (by decide)) (f 302 (by decide) (by decide)) g3 i4, KMI_cg (f 509 (by decide) (by decide)) (f 501 (by decide) (by decide)) (f 502 (by decide) (by decide)) (f 510 (by decide) (by decide)) (f 511 (by decide) (by decide)) (f 512 (by decide) (by decide)) (f 520 (by decide) (by decide)) (fun k h1 h2 => g2 k (by omega) h2) i5⟩
theorem INV_km (hF : ∀ j, j < 500 ∨ j = 501 ∨ j = 502 → F1 j = F j) (hA : ∀ k, k < 18 ∨ (34 < k ∧ k < 41) → A1 k = A k) (h1 : F1 509 = 1) (h2 : KM F1 A1) (I : INV F A) : INV F1 A1 := by
  obtain ⟨i1, i2, i3, i4, i5⟩ := I
  have f : ∀ j, j < 500 ∨ j = 501 ∨ j = 502 → F1 j = F j := hF
  have g1 : ∀ k, 6 ≤ k → k ≤ 17 → A1 k = A k := fun k h1 h2 => hA k (by omega)
  have g3 : ∀ k, 6 ≤ k → k ≤ 13 → A1 k = A k := fun k h1 h2 => hA k (by omega)
  exact ⟨CLS_cg (f 100 (by decide)) (f 101 (by decide)) (f 102 (by decide)) g3 i1, GRA_cg (f 100 (by decide)) (f 101 (by decide)) (f 501 (by decide)) (f 502 (by decide)) g3 (fun k h1 h2 => hA k (by omega)) i2, ⟨by rw [f 200 (by decide)]; exact i3.1, fun e => RdOK_cg (f 100 (by decide)) (f 101 (by decide)) (f 201 (by decide)) g1 (i3.2 (by rw [← f 200 (by decide)]; exact e))⟩, PCI_cg i1 (f 100 (by decide)) (f 101 (by decide)) (f 300 (by decide)) (f 301 (by decide)) (f 302 (by decide)) g3 i4, ⟨Or.inr h1, fun _ => h2⟩⟩
theorem INV_pc {r : Int} (hF : ∀ j, j < 300 ∨ 304 < j → F1 j = F j) (hA : ∀ k, k < 18 ∨ 25 < k → A1 k = A k) (h1 : F1 300 = r) (hr : 0 ≤ r ∧ r < 8) (h2 : bestR (pG A r (F 100) (F 101)) (F1 301) (F1 302)) (I : INV F A) : INV F1 A1 := by
  obtain ⟨i1, i2, i3, i4, i5⟩ := I
  have f : ∀ j, j < 300 ∨ 304 < j → F1 j = F j := hF
  have g1 : ∀ k, 6 ≤ k → k ≤ 17 → A1 k = A k := fun k h1 h2 => hA k (by omega)
  have g3 : ∀ k, 6 ≤ k → k ≤ 13 → A1 k = A k := fun k h1 h2 => hA k (by omega)
  refine ⟨CLS_cg (f 100 (by decide)) (f 101 (by decide)) (f 102 (by decide)) g3 i1, GRA_cg (f 100 (by decide)) (f 101 (by decide)) (f 501 (by decide)) (f 502 (by decide)) g3 (fun k h1 h2 => hA k (by omega)) i2, ⟨by rw [f 200 (by decide)]; exact i3.1, fun e => RdOK_cg (f 100 (by decide)) (f 101 (by decide)) (f 201 (by decide)) g1 (i3.2 (by rw [← f 200 (by decide)]; exact e))⟩, ⟨by omega, fun _ => ?_⟩, KMI_cg (f 509 (by decide)) (f 501 (by decide)) (f 502 (by decide)) (f 510 (by decide)) (f 511 (by decide)) (f 512 (by decide)) (f 520 (by decide)) (fun k h1 h2 => hA k (by omega)) i5⟩
  rw [h1, f 100 (by decide), f 101 (by decide), pG_cg i1 g3]
  exact h2
end CG
section IV
variable {F : Nat → Int} {A : Nat → Int → Int}
theorem INV_un (I : INV F A) : -1 ≤ F 102 ∧ F 102 ≤ 14 := by
  rcases I.1.2.2.2.2.2.2.2.2 with ⟨h, -⟩ | ⟨h, -⟩
  · omega
  · have := I.1.2.1; omega
theorem INV_mch (I : INV F A) : ∀ k, 0 ≤ k → k < F 502 → (0 ≤ A 36 k ∧ A 36 k < F 501) ∧ (0 ≤ A 37 k ∧ A 37 k < F 501) ∧ (1 ≤ A 38 k ∧ A 38 k ≤ 9) ∧ (1 ≤ A 39 k ∧ A 39 k ≤ 9) ∧ 0 ≤ A 40 k ∧ A 40 k ≤ 99 := by
  intro k k0 k1
  have k1' : k < F 101 := by rw [← I.2.1.2.1]; exact k1
  obtain ⟨e1, e2, e3, e4, e5⟩ := I.2.1.2.2.2 k k0 k1'
  rw [e1, e2, e3, e4, e5, I.2.1.1]
  exact I.1.2.2.2.2.1 k k0 k1'
theorem INV_same (I : INV F A) : ∀ k, 0 ≤ k → k < F 101 → A 8 (A 9 k) = A 8 (A 10 k) := I.1.2.2.2.2.2.2.1
theorem INV_tie (I : INV F A) (K : KM F A) : F 510 = F 102 ∧ (∀ a, 0 ≤ a → a < F 100 → A 41 a = A 8 a) ∧ F 512 = sI (fun a => if A 8 a = a then 1 else 0) (F 100) ∧ (F 102 = -1 → (F 511 = 0 ∨ F 511 = 1) ∧ (F 511 = 1 ↔ 400 < sI (A 7) (F 100)) ∧ (F 511 = 0 → ∀ a, 0 ≤ a → a < F 100 → A 44 a = A 7 a)) := by
  obtain ⟨i1, ⟨e1, e2, -, e4⟩, -⟩ := id I
  have hN : NET (F 501) (F 502) (F 102) (A 36) (A 37) (A 38) (A 39) (A 7) (A 8) := by
    rw [e1, e2]
    exact NET_co (fun k k0 k1 => ⟨(e4 k k0 k1).1, (e4 k k0 k1).2.1, (e4 k k0 k1).2.2.1, (e4 k k0 k1).2.2.2.1⟩) i1.2.2.2.2.2
  have h := tie_all (by rw [e1]; exact i1.1) (fun k k0 k1 => ⟨(INV_mch I k k0 k1).1, (INV_mch I k k0 k1).2.1⟩) hN K
  rw [e1] at h
  exact h
theorem INV_pl (I : INV F A) (K : KM F A) : (F 510 = -1 ∧ F 511 = 0) ↔ (F 102 = -1 ∧ sI (A 7) (F 100) ≤ 400) := by
  obtain ⟨t1, -, -, t4⟩ := INV_tie I K
  constructor
  · rintro ⟨h1, h2⟩
    have h3 : F 102 = -1 := by omega
    have := (t4 h3).2.1
    exact ⟨h3, Int.le_of_not_gt (fun hc => by have := this.mpr hc; omega)⟩
  · rintro ⟨h1, h2⟩
    obtain ⟨g1, g2, -⟩ := t4 h1
    refine ⟨by omega, g1.resolve_right (fun e => ?_)⟩
    have := g2.mp e
    omega
theorem INV_round (I : INV F A) (K : KM F A) (hp : F 102 = -1 ∧ sI (A 7) (F 100) ≤ 400) (R : RdOK F A) : F 201 = F 520 ∧ (∀ j, 0 ≤ j → j < F 201 → A 14 j = A 48 j) ∧ (∀ a, 0 ≤ a → a < F 100 → A 15 a = A 45 a) ∧ ∀ k, 0 ≤ k → k < F 101 → A 17 k = A 47 k := by
  have h0 := (INV_pl I K).mpr hp
  obtain ⟨t1, -, -, t4⟩ := INV_tie I K
  have h1 := (t4 hp.1).2.2 h0.2
  obtain ⟨i1, ⟨e1, e2, -, e4⟩, -⟩ := id I
  exact tie_round i1.1 e1 e2 i1.2.2.2.2.1 e4 (fun a a0 a1 => ⟨h1 a a0 a1, (i1.2.2.2.1 a a0 (by have := i1.1; omega)).1.1⟩) hp.2 R ((K.2.2.2.2 h0.1).2.1 h0.2)
end IV
