/-! Paces -/
abbrev CLc (F : Nat → Int) (A : Nat → Int → Int) (a : Int) : Prop := (∀ b, 0 ≤ b → b < F 100 → A 8 b = A 8 a → Rch (F 101) (A 9) (A 10) a b) ∧ ∀ b, 0 ≤ b → b < F 100 → A 8 b = A 8 a → Rch (F 101) (A 10) (A 9) a b
abbrev SMc (F : Nat → Int) (A : Nat → Int → Int) (a : Int) : Int := sI (fun b => if A 8 b = A 8 a then A 7 b else 0) (F 100)
abbrev ALc (F : Nat → Int) (A : Nat → Int → Int) : Prop := ∀ b, 0 ≤ b → b < F 100 → A 15 b = 0
section PQ
variable {F F1 F2 : Nat → Int} {A A1 A2 : Nat → Int → Int}
theorem rf_inv0 (I : INV F A) (h : fR F A F1 A1) (K : KM F1 A1) : fR F A (fuP F1 509 1) A1 ∧ (fuP F1 509 1) 509 = 1 ∧ KM (fuP F1 509 1) A1 := ⟨⟨fun j h0 h1 h2 h3 h4 h5 => by simp only [fuP, h1, if_false]; exact h.1 j h0 h1 h2 h3 h4 h5, h.2⟩, by simp [fuP], KM_cg (by simp [fuP]) (by simp [fuP]) (by simp [fuP]) (by simp [fuP]) (by simp [fuP]) (by simp [fuP]) (fun _ _ _ => rfl) K⟩
/-- what the reference sees of a part's pace is what the class sees -/
theorem q_pace {a : Int} (I : INV F A) (ha : 0 ≤ a ∧ a < F 100) (h : fR F A F1 A1) (K : KM F1 A1) : (plM F1 ↔ PLc F A) ∧ (PLc F A → RdOK F A → (alM F1 A1 ↔ ALc F A)) ∧ (clM F1 A1 a ↔ CLc F A a) ∧ (PLc F A → smM F1 A1 a = SMc F A a ∧ A1 41 a = A 8 a ∧ agB (mA A1) A (F 100) (F 101)) := by
  obtain ⟨h', h1, K'⟩ := rf_inv0 I h K
  have I1 := rf_inv I h' h1 K'
  have e1 : F1 501 = F 100 := (h.1 501 (by decide) (by decide) (by decide) (by decide) (by decide) (by decide)).trans I.2.1.1
  have e2 : F1 502 = F 101 := (h.1 502 (by decide) (by decide) (by decide) (by decide) (by decide) (by decide)).trans I.2.1.2.1
  have t := INV_tie I1 K'
  have f102 : (fuP F1 509 1) 102 = F 102 := fR_f h' 102 (by decide)
  have f100 : (fuP F1 509 1) 100 = F 100 := fR_f h' 100 (by decide)
  rw [f102, f100, fR_a h 7 (by decide), fR_a h 8 (by decide)] at t
  have q1 : plM F1 ↔ PLc F A := by
    have := q_pl I h' h1 K'
    simpa [fuP] using this
  have e4 := I.2.1.2.2.2
  have ek : ∀ k, 35 ≤ k → k < 41 → A1 k = A k := fun k x y => fR_a h k (by omega)
  have h36 : ∀ k, 0 ≤ k → k < F 101 → A1 36 k = A 9 k ∧ A1 37 k = A 10 k := fun k k0 k1 => by rw [ek 36 (by decide) (by decide), ek 37 (by decide) (by decide)]; exact ⟨(e4 k k0 k1).1, (e4 k k0 k1).2.1⟩
  refine ⟨q1, fun hp R => ?_, ?_, fun hp => ?_⟩
  · have q := (q_round I h' h1 K' hp R).2.2.1
    unfold alM
    rw [e1]
    exact ⟨fun g b b0 b1 => by rw [q b b0 b1]; exact g b b0 b1, fun g b b0 b1 => by rw [← q b b0 b1]; exact g b b0 b1⟩
  · unfold clM
    rw [e1, e2]
    have ta := t.2.1 a ha.1 ha.2
    constructor
    · rintro ⟨g1, g2⟩
      exact ⟨fun b b0 b1 hb => Rch_co (fun k k0 k1 => ⟨(h36 k k0 k1).1.symm, (h36 k k0 k1).2.symm⟩) (g1 b b0 b1 (by rw [t.2.1 b b0 b1, ta]; exact hb)), fun b b0 b1 hb => Rch_co (fun k k0 k1 => ⟨(h36 k k0 k1).2.symm, (h36 k k0 k1).1.symm⟩) (g2 b b0 b1 (by rw [t.2.1 b b0 b1, ta]; exact hb))⟩
    · rintro ⟨g1, g2⟩
      exact ⟨fun b b0 b1 hb => Rch_co (fun k k0 k1 => h36 k k0 k1) (g1 b b0 b1 (by rw [← t.2.1 b b0 b1, ← ta]; exact hb)), fun b b0 b1 hb => Rch_co (fun k k0 k1 => ⟨(h36 k k0 k1).2, (h36 k k0 k1).1⟩) (g2 b b0 b1 (by rw [← t.2.1 b b0 b1, ← ta]; exact hb))⟩
  · have hpm := q1.mpr hp
    have t5 : ∀ b, 0 ≤ b → b < F 100 → A1 44 b = A 7 b := (t.2.2.2 hp.1).2.2 (by show (fuP F1 509 1) 511 = 0; simp [fuP]; exact hpm.2)
    have ag : agB (mA A1) A (F 100) (F 101) := ⟨fun b b0 b1 => ⟨by show A1 35 b = A 6 b; rw [ek 35 (by decide) (by decide)]; exact I.2.1.2.2.1 b b0 (by have := I.1.1; omega), t5 b b0 b1, t.2.1 b b0 b1⟩, fun k k0 k1 => by
      obtain ⟨x1, x2, x3, x4, x5⟩ := e4 k k0 k1
      have c := I.1.2.2.2.2.1 k k0 k1
      show A1 36 k = A 9 k ∧ A1 37 k = A 10 k ∧ A1 38 k = A 11 k ∧ A1 39 k = A 12 k ∧ A1 40 k = A 13 k ∧ (0 ≤ A1 36 k ∧ A1 36 k < F 100) ∧ (0 ≤ A1 37 k ∧ A1 37 k < F 100)
      rw [ek 36 (by decide) (by decide), ek 37 (by decide) (by decide), ek 38 (by decide) (by decide), ek 39 (by decide) (by decide), ek 40 (by decide) (by decide), x1, x2, x3, x4, x5]
      exact ⟨rfl, rfl, rfl, rfl, rfl, c.1, c.2.1⟩⟩
    have ta := t.2.1 a ha.1 ha.2
    refine ⟨?_, ta, ag⟩
    unfold smM
    rw [e1, ta, gS_ag ag (Int.le_refl _)]
    rfl
/-- what the class's pace asks ahead -/
theorem p_ahead {a : Int} (I : INV F A) (ha : 0 ≤ a ∧ a < F 100) (hp : PLc F A) (hal : ∀ F9 A9, (∀ j, j ≠ 200 → j ≠ 201 → F9 j = F j) → (∀ k, k ≠ 14 → k ≠ 15 → k ≠ 16 → k ≠ 17 → A9 k = A k) → RdOK F9 A9 → ∀ b, 0 ≤ b → b < F9 100 → A9 15 b = 0) :
    (∀ u v s w, pG A (A 8 a) (F 100) (F 101) u v s w → (0 ≤ u ∧ u < sI (gS A (A 8 a)) (F 100)) ∧ (0 ≤ v ∧ v < sI (gS A (A 8 a)) (F 100)) ∧ (1 ≤ s ∧ s ≤ 9) ∧ 0 ≤ w ∧ w ≤ 100) ∧ (∀ T R, lpE (pG A (A 8 a) (F 100) (F 101)) T R → 1 ≤ R) ∧ (F 300 = A 8 a → bestR (pG A (A 8 a) (F 100) (F 101)) (F 301) (F 302)) := by
  obtain ⟨i1, i2, i3, i4, i5, i6⟩ := id I.1
  have hct : ∀ b, 0 ≤ b → b < F 100 → 1 ≤ A 7 b := fun b b0 b1 => (i4 b b0 (by omega)).1.1
  have htm : ∀ b, 0 ≤ b → b < F 100 → 1 ≤ A 6 b ∧ A 6 b ≤ 9 := fun b b0 b1 => i3 b b0 (by omega)
  have hsol := (i6.2.2.1 hp.1).1
  refine ⟨fun u v s w h => pe_ok hct i5 htm i6.2.1 hsol h, ?_, fun e => ?_⟩
  · obtain ⟨F8, A8, h8, r8⟩ := rd_ex I hp
    have al := hal F8 A8 h8.1 h8.2 r8
    have g : ∀ k, k < 14 → A8 k = A k := fun k hk => h8.2 k (by omega) (by omega) (by omega) (by omega)
    obtain ⟨x1, x2, x3, x4⟩ := rd_non I hp h8 r8
    have key := lp_ok (A := A8) (root := A 8 a) (n := F 100) (m := F 101) (d := (F8 201).toNat) (by rw [g 7 (by decide)]; exact hct) (by rw [g 9 (by decide), g 10 (by decide), g 11 (by decide), g 12 (by decide), g 13 (by decide)]; exact i5) (by rw [g 6 (by decide)]; exact htm) (by rw [g 8 (by decide), g 9 (by decide), g 10 (by decide)]; exact i6.2.1) (by rw [g 7 (by decide), g 9 (by decide), g 10 (by decide), g 11 (by decide), g 12 (by decide)]; exact hsol) (by rw [g 7 (by decide), g 9 (by decide), g 10 (by decide), g 11 (by decide), g 12 (by decide), g 13 (by decide)]; exact x1) (fun b b0 b1 => by
      have e := al b b0 (by rw [h8.1 100 (by decide) (by decide)]; exact b1)
      rw [x3 b b0 b1] at e
      unfold rnA
      rw [g 7 (by decide), g 9 (by decide), g 10 (by decide), g 11 (by decide), g 12 (by decide), g 13 (by decide)]
      exact e)
    rw [pG_cg I.1 (fun k _ y => g k (by omega))] at key
    exact key
  · have := I.2.2.2.1.2 (by rw [e]; exact (i4 a ha.1 (by omega)).2.1)
    rw [e] at this
    exact this
theorem pz_inv (I : INV F A) (hF : ∀ j, j ≠ 500 → j ≠ 509 → j ≠ 510 → j ≠ 511 → j ≠ 512 → j ≠ 520 → j ≠ 523 → j ≠ 525 → j ≠ 531 → j ≠ 532 → F1 j = F j) (hA : ∀ k, k ≠ 41 → k ≠ 42 → k ≠ 43 → k ≠ 44 → k ≠ 45 → k ≠ 46 → k ≠ 47 → k ≠ 48 → k ≠ 49 → k ≠ 50 → k ≠ 51 → k ≠ 52 → k ≠ 53 → k ≠ 54 → k ≠ 55 → A1 k = A k) (h1 : F1 509 = 1) (K : KM F1 A1) : INV F1 A1 ∧ ∃ A9 : Nat → Int → Int, fR F A (fun j => if j = 523 ∨ j = 525 ∨ j = 531 ∨ j = 532 then F j else F1 j) A9 ∧ (∀ k, k < 49 → A9 k = A1 k) ∧ KM (fun j => if j = 523 ∨ j = 525 ∨ j = 531 ∨ j = 532 then F j else F1 j) A9 := by
  refine ⟨INV_km (fun j hj => hF j (by omega) (by omega) (by omega) (by omega) (by omega) (by omega) (by omega) (by omega) (by omega) (by omega)) (fun k hk => hA k (by omega) (by omega) (by omega) (by omega) (by omega) (by omega) (by omega) (by omega) (by omega) (by omega) (by omega) (by omega) (by omega) (by omega) (by omega)) h1 K I, fun k => if k < 49 then A1 k else A k, ⟨fun j x1 x2 x3 x4 x5 x6 => ?_, fun k x1 x2 x3 x4 x5 x6 x7 x8 => ?_⟩, fun k hk => by show (if k < 49 then A1 k else A k) = A1 k; rw [if_pos hk], KM_cg rfl rfl rfl rfl rfl rfl (fun k x y => by show (if k < 49 then A1 k else A k) = A1 k; rw [if_pos (by omega)]) K⟩
  · show (if j = 523 ∨ j = 525 ∨ j = 531 ∨ j = 532 then F j else F1 j) = F j
    by_cases c : j = 523 ∨ j = 525 ∨ j = 531 ∨ j = 532
    · rw [if_pos c]
    · rw [if_neg c]; exact hF j x1 x2 x3 x4 x5 x6 (by omega) (by omega) (by omega) (by omega)
  · show (if k < 49 then A1 k else A k) = A k
    by_cases c : k < 49
    · rw [if_pos c]; exact hA k x1 x2 x3 x4 x5 x6 x7 x8 (by omega) (by omega) (by omega) (by omega) (by omega) (by omega) (by omega)
    · rw [if_neg c]
/-- the reference's end, told by what the class sees -/
theorem p_end {a w z P Q1 : Int} (I : INV F A) (ha : 0 ≤ a ∧ a < F 100) (hF : ∀ j, j ≠ 500 → j ≠ 509 → j ≠ 510 → j ≠ 511 → j ≠ 512 → j ≠ 520 → j ≠ 523 → j ≠ 525 → j ≠ 531 → j ≠ 532 → F1 j = F j) (hA : ∀ k, k ≠ 41 → k ≠ 42 → k ≠ 43 → k ≠ 44 → k ≠ 45 → k ≠ 46 → k ≠ 47 → k ≠ 48 → k ≠ 49 → k ≠ 50 → k ≠ 51 → k ≠ 52 → k ≠ 53 → k ≠ 54 → k ≠ 55 → A1 k = A k) (h1 : F1 509 = 1) (K : KM F1 A1) (hc : pcC F1 A1 a w z P Q1 (F1 500)) (hR : PLc F A → RdOK F A) :
    INV F1 A1 ∧ (¬ (PLc F A ∧ ALc F A ∧ CLc F A a) → F1 500 = 2) ∧ (PLc F A ∧ ALc F A ∧ CLc F A a → 40 < SMc F A a → F1 500 = 3) ∧ (PLc F A ∧ ALc F A ∧ CLc F A a → SMc F A a ≤ 40 → F1 500 = 0 ∧ (w = 0 → z = P) ∧ (w = 1 → z = Q1)) := by
  obtain ⟨I1, A9, f9, g9, K9⟩ := pz_inv I hF hA h1 K
  obtain ⟨q1, q2, q3, q4⟩ := q_pace (a := a) I ha f9 K9
  have p1 : plM F1 ↔ PLc F A := q1
  have p2 : PLc F A → (alM F1 A1 ↔ ALc F A) := fun hp => by
    have := q2 hp (hR hp)
    unfold alM at this ⊢
    rw [g9 45 (by decide)] at this
    exact this
  have p3 : clM F1 A1 a ↔ CLc F A a := by
    have := q3
    unfold clM at this ⊢
    rw [g9 41 (by decide), g9 36 (by decide), g9 37 (by decide)] at this
    exact this
  have p4 : PLc F A → smM F1 A1 a = SMc F A a := fun hp => by
    have := (q4 hp).1
    rw [← this]
    unfold smM
    rw [g9 41 (by decide)]
    refine sI_cong (fun b _ _ => ?_)
    unfold gS
    show (if A1 41 b = A1 41 a then A1 44 b else 0) = if A9 41 b = A1 41 a then A9 44 b else 0
    rw [g9 41 (by decide), g9 44 (by decide)]
  obtain ⟨c1, c2, c3, c4, c5⟩ := hc
  refine ⟨I1, fun hn => ?_, fun hy hg => ?_, fun hy hg => ?_⟩
  · by_cases d1 : PLc F A
    · by_cases d2 : ALc F A
      · exact c3 (p1.mpr d1) ((p2 d1).mpr d2) (fun h => hn ⟨d1, d2, p3.mp h⟩)
      · exact c2 (p1.mpr d1) (fun h => d2 ((p2 d1).mp h))
    · exact c1 (fun h => d1 (p1.mp h))
  · exact c4 (p1.mpr hy.1) ((p2 hy.1).mpr hy.2.1) (p3.mpr hy.2.2) (by rw [p4 hy.1]; exact hg)
  · exact c5 (p1.mpr hy.1) ((p2 hy.1).mpr hy.2.1) (p3.mpr hy.2.2) (by rw [p4 hy.1]; exact hg)
/-- what the reference's pace asks ahead: nothing, where there is no pace -/
theorem p_no {a P Q1 : Int} (I : INV F A) (ha : 0 ≤ a ∧ a < F 100) (hR : PLc F A → RdOK F A) (hn : ¬ (PLc F A ∧ ALc F A ∧ CLc F A a ∧ SMc F A a ≤ 40)) : ∀ F1 A1, KM F1 A1 → (∀ j, j ≠ 500 → j ≠ 509 → j ≠ 510 → j ≠ 511 → j ≠ 512 → j ≠ 520 → F1 j = F j) → (∀ k, k ≠ 41 → k ≠ 42 → k ≠ 43 → k ≠ 44 → k ≠ 45 → k ≠ 46 → k ≠ 47 → k ≠ 48 → A1 k = A k) → plM F1 → alM F1 A1 → clM F1 A1 a → smM F1 A1 a ≤ 40 → peM F1 A1 (A1 41 a) ∧ bestR (pE (F1 501) (F1 502) A1 (A1 41 a)) P Q1 := by
  intro F1 A1 K h1 h2 g1 g2 g3 g4
  obtain ⟨q1, q2, q3, q4⟩ := q_pace (a := a) I ha ⟨h1, h2⟩ K
  have hp := q1.mp g1
  exact absurd ⟨hp, (q2 hp (hR hp)).mp g2, q3.mp g3, by rw [← (q4 hp).1]; exact g4⟩ hn
theorem p_yes {a P Q1 : Int} (I : INV F A) (ha : 0 ≤ a ∧ a < F 100) (hb : bestR (pG A (A 8 a) (F 100) (F 101)) P Q1) (hq : PLc F A → ∀ u v s w, pG A (A 8 a) (F 100) (F 101) u v s w → (0 ≤ u ∧ u < sI (gS A (A 8 a)) (F 100)) ∧ (0 ≤ v ∧ v < sI (gS A (A 8 a)) (F 100)) ∧ (1 ≤ s ∧ s ≤ 9) ∧ 0 ≤ w ∧ w ≤ 100) : ∀ F1 A1, KM F1 A1 → (∀ j, j ≠ 500 → j ≠ 509 → j ≠ 510 → j ≠ 511 → j ≠ 512 → j ≠ 520 → F1 j = F j) → (∀ k, k ≠ 41 → k ≠ 42 → k ≠ 43 → k ≠ 44 → k ≠ 45 → k ≠ 46 → k ≠ 47 → k ≠ 48 → A1 k = A k) → plM F1 → alM F1 A1 → clM F1 A1 a → smM F1 A1 a ≤ 40 → peM F1 A1 (A1 41 a) ∧ bestR (pE (F1 501) (F1 502) A1 (A1 41 a)) P Q1 := by
  intro F1 A1 K h1 h2 g1 g2 g3 g4
  obtain ⟨q1, q2, q3, q4⟩ := q_pace (a := a) I ha ⟨h1, h2⟩ K
  have hp := q1.mp g1
  obtain ⟨-, t2, t3⟩ := q4 hp
  have e1 : F1 501 = F 100 := (h1 501 (by decide) (by decide) (by decide) (by decide) (by decide) (by decide)).trans I.2.1.1
  have e2 : F1 502 = F 101 := (h1 502 (by decide) (by decide) (by decide) (by decide) (by decide) (by decide)).trans I.2.1.2.1
  have ep : pE (F 100) (F 101) A1 (A 8 a) = pG A (A 8 a) (F 100) (F 101) := (show pE (F 100) (F 101) A1 (A 8 a) = pG (mA A1) (A 8 a) (F 100) (F 101) from rfl).trans (pG_ag t3)
  unfold peM
  rw [e1, e2, t2, ep, gS_ag t3 (Int.le_refl _)]
  exact ⟨hq hp, hb⟩
end PQ
set_option maxHeartbeats 4000000 in
set_option maxRecDepth 100000 in
theorem c_X_pace_n (l : Launch) (D : va_G) (q : Nat → Nat) (c : Nat → ClassId) (sz : Nat) (F : Nat → Int) (A : Nat → Int → Int) (a : Int) (w : Int) (ba : ib a) (bw : ib w) (hmn : 1 ≤ F 501 ∧ F 501 ≤ 8) (hmm : 0 ≤ F 502 ∧ F 502 ≤ 14) (hno : ¬ ((0 ≤ a ∧ a < F 501) ∧ 0 ≤ w ∧ w ≤ 1)) : zMI l zy_X_pace zc_X_pace 5 (some .int) zr_X_pace D q c sz [.ref (q 5), .int (iI (a)), .int (iI (w))] F A (fun z F1 A1 => F1 = fuP F 500 1 ∧ A1 = A) := by
  refine z_ofI (by decide) (Nat.le_of_ble_eq_true rfl) ?_
  intro p e s m args below meth c0 A0 Q C0 ret hP hD hS ls hl
  obtain ⟨S, hK, hA⟩ := C0
  have hx := S.1
  have hb := S.2.1
  have hown := S.2.2.2.1
  have hts : ∀ w ∈ zG, w.before args s = true := fun w h => S.2.2.2.2 w (List.mem_cons_of_mem _ h)
  have hl : lv_has ls 5 [(0, .ref (q 5)), (1, .int (iI (a))), (2, .int (iI (w)))] := hl
  refine lv_aload_n hx hb zd_X_pace_0 rfl (lv_at hl 0 rfl) ?_
  refine lv_iconst (v := iI (0)) hx hb zd_X_pace_1 rfl ?_
  refine va_put (D := D) (ci := 5) (v := .int (iI (0))) (ty := .int) (C := zR_X) (T := zT_X) (N := 34) hx hb hts zi_X zk_X zo_X zn_X hown hK.1 hP hD hS 5 ga_5 rfl 0 (by decide) (hts _ zw_533) (fun _ h9 => h9) rfl (by decide +kernel) (rfl) (rfl) (Nat.le_of_ble_eq_true rfl) zd_X_pace_2 (fun H locs hP hD hS => ?_)
  rw [gs_5_0] at hP hD
  refine lv_iload_n hx hb zd_X_pace_5 rfl (lv_at hl 1 rfl) ?_
  refine lv_iconst (v := iI (0)) hx hb zd_X_pace_6 rfl ?_
  refine lv_aload_n hx hb zd_X_pace_7 rfl (lv_at hl 0 rfl) ?_
  refine va_get (D := D) (ci := 5) (v := .int (iI (F 501))) (C := zR_X) (T := zT_X) (N := 34) hx hb hts zi_X hown hK.1 hP 5 ga_5 rfl 1 (by decide) (hts _ zw_534) (fun _ h9 => h9) rfl zd_X_pace_8 ?_
  refine lv_iconst (v := iI (1)) hx hb zd_X_pace_11 rfl ?_
  refine x_isub hx hb zd_X_pace_12 ?_
  refine z_goi (z_runS (n := 3) (As := [.int (iI (a)), .int (iI (0)), .int (iI ((F 501) - 1))]) (rest := []) S (c_X_in l D q c _ (fuP F 500 0) A a 0 ((F 501) - 1) (by first | assumption | omega | exact ⟨by omega, by omega⟩) (by first | assumption | omega | exact ⟨by omega, by omega⟩) (by first | assumption | omega | exact ⟨by omega, by omega⟩)) zw_646 zw_647 zw_6 zw_648 ⟨by decide +kernel, by decide, rfl, rfl⟩ rfl hK hP hD rfl hl.1 rfl (Nat.le_of_ble_eq_true rfl) zd_X_pace_13 ⟨Nat.zero_le _, Nat.zero_le _⟩) hD hS hA (fun z_13 F_13 A_13 H locs hq_13 hP hD hS => ?_)
  obtain ⟨hf_13, ha_13, hq_13⟩ := hq_13
  rw [hf_13, ha_13] at hP hD
  have b13_ : z_13 = 0 ∨ z_13 = 1 := by rw [hq_13]; split <;> simp
  refine x_if_eq (tgt := 28) hx hb zd_X_pace_16 (by decide) (⟨by omega, by omega⟩) (fun h_16 => ?_) (fun h_16 => ?_)
  · refine lv_aload_n hx hb zd_X_pace_28 rfl (lv_at hl 0 rfl) ?_
    refine lv_iconst (v := iI (1)) hx hb zd_X_pace_29 rfl ?_
    refine z_goi (z_runV (n := 1) (k := 5) (ci := 5) (As := [.int (iI (1))]) (rest := []) S (c_X_raise l D q c _ (fuP F 500 0) A 1) zw_701 zw_703 zs_45 zw_6 zw_704 ⟨by decide +kernel, by decide, rfl, rfl⟩ hK hP hD ga_5 rfl rfl rfl hl.1 rfl (Nat.le_of_ble_eq_true rfl) zd_X_pace_30 ⟨Nat.zero_le _, Nat.zero_le _⟩) hD hS hA (fun z_30 F_30 A_30 H locs hq_30 hP hD hS => ?_)
    obtain ⟨y1, y2, y3⟩ := hq_30
    exact ret _ _ _ _ _ _ _ zd_X_pace_33 hP hD hS (⟨by rw [y2]; funext j; unfold fuP; split <;> rfl, y3⟩)
  · refine lv_iload_n hx hb zd_X_pace_19 rfl (lv_at hl 2 rfl) ?_
    refine lv_iconst (v := iI (0)) hx hb zd_X_pace_20 rfl ?_
    refine lv_iconst (v := iI (1)) hx hb zd_X_pace_21 rfl ?_
    refine z_goi (z_runS (n := 3) (As := [.int (iI (w)), .int (iI (0)), .int (iI (1))]) (rest := []) S (c_X_in l D q c _ (fuP F 500 0) A w 0 1 (by first | assumption | omega | exact ⟨by omega, by omega⟩) (by first | assumption | omega | exact ⟨by omega, by omega⟩) (by first | assumption | omega | exact ⟨by omega, by omega⟩)) zw_646 zw_647 zw_6 zw_648 ⟨by decide +kernel, by decide, rfl, rfl⟩ rfl hK hP hD rfl hl.1 rfl (Nat.le_of_ble_eq_true rfl) zd_X_pace_22 ⟨Nat.zero_le _, Nat.zero_le _⟩) hD hS hA (fun z_22 F_22 A_22 H locs hq_22 hP hD hS => ?_)
    obtain ⟨hf_22, ha_22, hq_22⟩ := hq_22
    rw [hf_22, ha_22] at hP hD
    have b22_ : z_22 = 0 ∨ z_22 = 1 := by rw [hq_22]; split <;> simp
    refine x_if_ne (tgt := 34) hx hb zd_X_pace_25 (by decide) (⟨by omega, by omega⟩) (fun h_25 => ?_) (fun h_25 => ?_)
    · exact absurd (by rw [hq_13] at h_16; rw [hq_22] at h_25; split at h_16 <;> split at h_25 <;> omega) hno
    · refine lv_aload_n hx hb zd_X_pace_28 rfl (lv_at hl 0 rfl) ?_
      refine lv_iconst (v := iI (1)) hx hb zd_X_pace_29 rfl ?_
      refine z_goi (z_runV (n := 1) (k := 5) (ci := 5) (As := [.int (iI (1))]) (rest := []) S (c_X_raise l D q c _ (fuP F 500 0) A 1) zw_701 zw_703 zs_45 zw_6 zw_704 ⟨by decide +kernel, by decide, rfl, rfl⟩ hK hP hD ga_5 rfl rfl rfl hl.1 rfl (Nat.le_of_ble_eq_true rfl) zd_X_pace_30 ⟨Nat.zero_le _, Nat.zero_le _⟩) hD hS hA (fun z_30 F_30 A_30 H locs hq_30 hP hD hS => ?_)
      obtain ⟨y1, y2, y3⟩ := hq_30
      exact ret _ _ _ _ _ _ _ zd_X_pace_33 hP hD hS (⟨by rw [y2]; funext j; unfold fuP; split <;> rfl, y3⟩)
