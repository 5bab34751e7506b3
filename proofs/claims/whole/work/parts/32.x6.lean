/-- r times the root's share is whole for all of a part -/
def lW (n : Int) (p ov un : Int → Int) (root r : Int) : Prop := ∀ a, 0 ≤ a → a < n → p a = root → (r * ov a).tmod (un a) = 0
/-- the least such r up to 400, or 0 -/
def lRes (n : Int) (p ov un : Int → Int) (root z : Int) : Prop := (z = 0 ∧ ∀ r, 1 ≤ r → r ≤ 400 → ¬ lW n p ov un root r) ∨ ((1 ≤ z ∧ z ≤ 400) ∧ lW n p ov un root z ∧ ∀ r, 1 ≤ r → r < z → ¬ lW n p ov un root r)
theorem sI_cong {f g : Int → Int} {n : Int} (h : ∀ a, 0 ≤ a → a < n → f a = g a) : sI f n = sI g n := by
  have key : ∀ j : Nat, (j : Int) ≤ n → sumN f j = sumN g j := by
    intro j
    induction j with
    | zero => intro _; rfl
    | succ j ih =>
      intro hj
      simp only [sumN]
      rw [ih (by omega), h j (by omega) (by omega)]
  unfold sI
  by_cases hn : 0 ≤ n
  · exact key n.toNat (by omega)
  · rw [show n.toNat = 0 by omega]; rfl
theorem sI_addf (f g : Int → Int) (n : Int) : sI f n + sI g n = sI (fun a => f a + g a) n := by
  have key : ∀ j : Nat, sumN f j + sumN g j = sumN (fun a => f a + g a) j := by
    intro j
    induction j with
    | zero => rfl
    | succ j ih => simp only [sumN]; omega
  exact key n.toNat
theorem sI_zero {f : Int → Int} {n : Int} (h : ∀ a, 0 ≤ a → a < n → f a = 0) : sI f n = 0 := by
  rw [sI_cong (g := fun _ => 0) h]
  have key : ∀ j : Nat, sumN (fun _ => 0) j = 0 := by
    intro j
    induction j with
    | zero => rfl
    | succ j ih => simp only [sumN]; omega
  exact key n.toNat
theorem sI_nn {f : Int → Int} {n B : Int} (hn : 0 ≤ n) (h : ∀ a, 0 ≤ a → a < n → 0 ≤ f a ∧ f a ≤ B) : 0 ≤ sI f n ∧ sI f n ≤ n * B := by
  have key : ∀ j : Nat, (j : Int) ≤ n → 0 ≤ sumN f j ∧ sumN f j ≤ j * B := by
    intro j
    induction j with
    | zero => intro _; simp [sumN]
    | succ j ih =>
      intro hj
      have h1 := ih (by omega)
      have h2 := h j (by omega) (by omega)
      simp only [sumN]
      have e : ((j + 1 : Nat) : Int) * B = j * B + B := by rw [show ((j + 1 : Nat) : Int) = (j : Int) + 1 by omega, Int.add_mul, Int.one_mul]
      omega
  have := key n.toNat (by omega)
  rw [show ((n.toNat : Nat) : Int) = n by omega] at this
  exact this
/-- an actor's count, by the results of the roots -/
def cnR (p ov un rr : Int → Int) (a : Int) : Int := if rr (p a) = 0 then 0 else (rr (p a) * ov a).tdiv (un a)
theorem lw_s {p ov un : Int → Int} {wh i r root : Int} (h : wh = 1 ↔ ∀ a, 0 ≤ a → a < i → p a = root → (r * ov a).tmod (un a) = 0) (hn : ¬ p i = root ∨ (r * ov i).tmod (un i) = 0) : wh = 1 ↔ ∀ a, 0 ≤ a → a < i + 1 → p a = root → (r * ov a).tmod (un a) = 0 := by
  rw [h]
  constructor
  · intro z a h0 h1 h2
    by_cases e : a = i
    · subst e; rcases hn with hn | hn
      · exact absurd h2 hn
      · exact hn
    · exact z a h0 (by omega) h2
  · intro z a h0 h1 h2
    exact z a h0 (by omega) h2
theorem lw_f {p ov un : Int → Int} {i r root : Int} (hp : p i = root) (hi : 0 ≤ i) (hn : ¬ (r * ov i).tmod (un i) = 0) : (0 : Int) = 1 ↔ ∀ a, 0 ≤ a → a < i + 1 → p a = root → (r * ov a).tmod (un a) = 0 :=
  ⟨fun h => absurd h (by decide), fun h => absurd (h i hi (by omega) hp) hn⟩
def FCI (n i al g : Int) (p ov un cnt rr : Int → Int) : Prop := (∀ x, 0 ≤ x → x < i → p x = x → lRes n p ov un x (rr x)) ∧ (g = 1 ↔ ∃ x, 0 ≤ x ∧ x < i ∧ p x = x ∧ rr x = 0) ∧ al = sI (fun a => if p a < i then cnR p ov un rr a else 0) n ∧ ∀ a, 0 ≤ a → a < n → p a < i → rr (p a) ≠ 0 → cnt a = if 400 < cnR p ov un rr a then 400 else cnR p ov un rr a
section FC
variable {n i al al5 g g0 z : Int} {p ov un cnt cnt5 rr : Int → Int}
theorem cnR_n {a : Int} (h : p a ≠ i) : cnR p ov un (upI rr i z) a = cnR p ov un rr a := by unfold cnR; rw [upI_n h]
theorem cnR_y {a : Int} (h : p a = i) : cnR p ov un (upI rr i z) a = if z = 0 then 0 else (z * ov a).tdiv (un a) := by unfold cnR; rw [h, upI_s]
theorem fc_skip (h : FCI n i al g p ov un cnt rr) (hp : ¬ p i = i) (hr : ∀ x, 0 ≤ x → x < n → p x < n ∧ p (p x) = p x) : FCI n (i + 1) al g p ov un cnt rr := by
  obtain ⟨h1, h2, h3, h4⟩ := h
  have ne : ∀ a, 0 ≤ a → a < n → p a ≠ i := fun a a0 a1 e => hp (by have := (hr a a0 a1).2; rw [e] at this; exact this)
  refine ⟨fun x x0 x1 hx => ?_, ?_, ?_, fun a a0 a1 a2 => h4 a a0 a1 (by have := ne a a0 a1; omega)⟩
  · by_cases e : x = i
    · rw [e] at hx; exact absurd hx hp
    · exact h1 x x0 (by omega) hx
  · rw [h2]
    constructor
    · rintro ⟨x, x0, x1, x2⟩; exact ⟨x, x0, by omega, x2⟩
    · rintro ⟨x, x0, x1, x2, x3⟩
      by_cases e : x = i
      · rw [e] at x2; exact absurd x2 hp
      · exact ⟨x, x0, by omega, x2, x3⟩
  · rw [h3]
    refine sI_cong (fun a a0 a1 => ?_)
    have := ne a a0 a1
    by_cases c : p a < i
    · rw [if_pos c, if_pos (by omega)]
    · rw [if_neg c, if_neg (by omega)]
theorem fc_next (h : FCI n i al g0 p ov un cnt rr) (hi : 0 ≤ i) (hp : p i = i) (hz : lRes n p ov un i z) (hg : (z ≠ 0 → g = g0) ∧ (z = 0 → g = 1)) (ha : al5 = al + sI (fun a => if p a = i then cnR p ov un (upI rr i z) a else 0) n)
    (hc : ∀ a, 0 ≤ a → a < n → (p a < i ∨ p a = i) → upI rr i z (p a) ≠ 0 → cnt5 a = if 400 < cnR p ov un (upI rr i z) a then 400 else cnR p ov un (upI rr i z) a) : FCI n (i + 1) al5 g p ov un cnt5 (upI rr i z) := by
  obtain ⟨h1, h2, h3, h4⟩ := h
  refine ⟨fun x x0 x1 hx => ?_, ?_, ?_, fun a a0 a1 a2 => hc a a0 a1 (by omega)⟩
  · by_cases e : x = i
    · subst e; rw [upI_s]; exact hz
    · rw [upI_n e]; exact h1 x x0 (by omega) hx
  · constructor
    · intro hg1
      by_cases z0 : z = 0
      · exact ⟨i, hi, by omega, hp, by rw [upI_s]; exact z0⟩
      · obtain ⟨x, x0, x1, x2, x3⟩ := h2.mp (by rw [← hg.1 z0]; exact hg1)
        exact ⟨x, x0, by omega, x2, by rw [upI_n (by omega)]; exact x3⟩
    · rintro ⟨x, x0, x1, x2, x3⟩
      by_cases z0 : z = 0
      · exact hg.2 z0
      · rw [hg.1 z0]
        by_cases e : x = i
        · rw [e, upI_s] at x3; exact absurd x3 z0
        · rw [upI_n e] at x3
          exact h2.mpr ⟨x, x0, by omega, x2, x3⟩
  · rw [ha, h3, sI_addf]
    refine sI_cong (fun a a0 a1 => ?_)
    by_cases c : p a < i
    · rw [if_pos c, if_neg (by omega), if_pos (by omega), cnR_n (by omega)]; omega
    · by_cases c2 : p a = i
      · rw [if_neg c, if_pos c2, if_pos (by omega)]; omega
      · rw [if_neg c, if_neg c2, if_neg (by omega)]; rfl
end FC
theorem fc_end {F F14 : Nat → Int} {A A14 : Nat → Int → Int} {i3 al v : Int} {rr : Int → Int} (hi : i3 = F 501) (hF4 : ∀ j, j ≠ 511 → j ≠ 512 → F14 j = F j) (hk4 : ∀ k, k ≠ 44 → A14 k = A k) (h512 : F14 512 = sI (fun a => if A 41 a = a then 1 else 0) i3) (h511 : F14 511 = 0 ∨ F14 511 = 1) (hE : FCI (F 501) i3 al (F14 511) (A 41) (A 42) (A 43) (A14 44) rr) (hb : True ∨ 0 ≤ al) (hr : ∀ x, 0 ≤ x → x < F 501 → A 41 x < F 501 ∧ A 41 (A 41 x) = A 41 x) (hv : (v = 1 ∧ (F14 511 = 1 ∨ 400 < al)) ∨ (v = 0 ∧ F14 511 = 0 ∧ al ≤ 400)) :
    (∀ j, j ≠ 511 → j ≠ 512 → fuP F14 511 v j = F j) ∧ (∀ k, k ≠ 44 → A14 k = A k) ∧ fuP F14 511 v 512 = sI (fun a => if A 41 a = a then 1 else 0) (F 501) ∧ (fuP F14 511 v 511 = 0 ∨ fuP F14 511 v 511 = 1) ∧ ∃ rr : Int → Int, (∀ x, 0 ≤ x → x < F 501 → A 41 x = x → lRes (F 501) (A 41) (A 42) (A 43) x (rr x)) ∧ (fuP F14 511 v 511 = 1 ↔ (∃ x, 0 ≤ x ∧ x < F 501 ∧ A 41 x = x ∧ rr x = 0) ∨ 400 < sI (cnR (A 41) (A 42) (A 43) rr) (F 501)) ∧ ∀ a, 0 ≤ a → a < F 501 → rr (A 41 a) ≠ 0 → A14 44 a = (if 400 < cnR (A 41) (A 42) (A 43) rr a then 400 else cnR (A 41) (A 42) (A 43) rr a) := by
  subst hi
  obtain ⟨h1, h2, h3, h4⟩ := hE
  have e1 : fuP F14 511 v 511 = v := rfl
  have e2 : al = sI (cnR (A 41) (A 42) (A 43) rr) (F 501) := by
    rw [h3]; exact sI_cong (fun a a0 a1 => by rw [if_pos (hr a a0 a1).1])
  refine ⟨fun j j1 j2 => by simp [fuP, j1, hF4 j j1 j2], hk4, h512, ?_, rr, h1, ?_, fun a a0 a1 => h4 a a0 a1 (hr a a0 a1).1⟩
  · rw [e1]; rcases hv with ⟨h, _⟩ | ⟨h, _⟩
    · exact Or.inr h
    · exact Or.inl h
  · rw [e1, ← h2, ← e2]
    rcases hv with ⟨h, h5⟩ | ⟨h, h5, h6⟩
    · exact ⟨fun _ => h5, fun _ => h⟩
    · constructor
      · intro c; omega
      · rintro (c | c) <;> omega
abbrev zr_X_leastOf : Room := ({ frames := 0, cells := 0, slots := 0, locals := 0 } : Room)
set_option maxHeartbeats 4000000 in
set_option maxRecDepth 100000 in
theorem c_X_leastOf (l : Launch) (D : va_G) (q : Nat → Nat) (c : Nat → ClassId) (sz : Nat) (F : Nat → Int) (A : Nat → Int → Int) (root : Int) (hmn : 1 ≤ F 501 ∧ F 501 ≤ 8) (hmm : 0 ≤ F 502 ∧ F 502 ≤ 14) (hov : ∀ x, 0 ≤ x → x < F 501 → (1 ≤ A 42 x ∧ A 42 x ≤ 43046721) ∧ 1 ≤ A 43 x ∧ A 43 x ≤ 43046721) (hpp : ∀ x, 0 ≤ x → x < F 501 → 0 ≤ A 41 x ∧ A 41 x < 8) (hrt : 0 ≤ root ∧ root < 8) : zMI l zy_X_leastOf zc_X_leastOf 5 (some .int) zr_X_leastOf D q c sz [.ref (q 5), .int (iI (root))] F A (fun z F1 A1 => F1 = F ∧ A1 = A ∧ lRes (F 501) (A 41) (A 42) (A 43) root z) := by
  refine z_ofI (by decide) (Nat.le_of_ble_eq_true rfl) ?_
  intro p e s m args below meth c0 A0 Q C0 ret hP hD hS ls hl
  obtain ⟨S, hK, hA⟩ := C0
  have hx := S.1
  have hb := S.2.1
  have hown := S.2.2.2.1
  have hts : ∀ w ∈ zG, w.before args s = true := fun w h => S.2.2.2.2 w (List.mem_cons_of_mem _ h)
  have hl : lv_has ls 5 [(0, .ref (q 5)), (1, .int (iI (root)))] := hl
  refine lv_iconst (v := iI (1)) hx hb zd_X_leastOf_0 rfl ?_
  refine lv_istore_n (lv' := [(2, .int (iI (1))), (0, .ref (q 5)), (1, .int (iI (root)))]) hx hb zd_X_leastOf_1 rfl hl (by decide) rfl (fun ls hl => ?_)
  have L_2 : ∀ (fu : Nat) (r : Int) , (1 ≤ r ∧ r ≤ 401) → (∀ x, 1 ≤ x → x < r → ¬ lW (F 501) (A 41) (A 42) (A 43) root x) → (401 - r < (fu : Int)) → ∀ (H : Heap) (locs : List Loc), va_P D zcl (gw q c F A) H → va_D A0 (gw q c F A) → va_S A0 s.heap H locs → ∀ ls : Array Slot, lv_has ls 5 [(0, .ref (q 5)), (1, .int (iI (root))), (2, .int (iI (r)))] → W p l e zr_X_leastOf s m args below meth c0 H locs 0 0 Q (F0 m 2 ls []) := by
    intro fu
    induction fu with
    | zero => intro r   hr hs hm_2; exact absurd hm_2 (by omega)
    | succ fu ih_2 =>
      intro r   hr hs hm_2 H locs hP hD hS ls hl
      refine lv_iload_n hx hb zd_X_leastOf_2 rfl (lv_at hl 2 rfl) ?_
      refine lv_sipush (v := iI (400)) hx hb zd_X_leastOf_3 (by decide) ?_
      refine x_icmp_gt (tgt := 77) hx hb zd_X_leastOf_6 (by decide) (⟨by omega, by omega⟩) (⟨by omega, by omega⟩) (fun h_6 => ?_) (fun h_6 => ?_)
      · refine lv_iconst (v := iI (0)) hx hb zd_X_leastOf_77 rfl ?_
        exact ret _ _ _ _ _ _ _ zd_X_leastOf_78 hP hD hS (⟨rfl, rfl, Or.inl ⟨rfl, fun x h0 h1 => hs x h0 (by omega)⟩⟩)
      · refine lv_iconst (v := iI (1)) hx hb zd_X_leastOf_9 rfl ?_
        refine lv_istore_n (lv' := [(3, .int (iI (1))), (0, .ref (q 5)), (1, .int (iI (root))), (2, .int (iI (r)))]) hx hb zd_X_leastOf_10 rfl hl (by decide) rfl (fun ls hl => ?_)
        refine lv_iconst (v := iI (0)) hx hb zd_X_leastOf_11 rfl ?_
        refine lv_istore (lv' := [(4, .int (iI (0))), (3, .int (iI (1))), (0, .ref (q 5)), (1, .int (iI (root))), (2, .int (iI (r)))]) hx hb zd_X_leastOf_12 hl (by decide) rfl (fun ls hl => ?_)
        have L_14 : ∀ (fu : Nat) (wh : Int) (i : Int) , (0 ≤ i ∧ i ≤ F 501) → (wh = 0 ∨ wh = 1) → (wh = 1 ↔ ∀ a, 0 ≤ a → a < i → A 41 a = root → (r * A 42 a).tmod (A 43 a) = 0) → (F 501 - i < (fu : Int)) → ∀ (H : Heap) (locs : List Loc), va_P D zcl (gw q c F A) H → va_D A0 (gw q c F A) → va_S A0 s.heap H locs → ∀ ls : Array Slot, lv_has ls 5 [(0, .ref (q 5)), (1, .int (iI (root))), (2, .int (iI (r))), (3, .int (iI (wh))), (4, .int (iI (i)))] → W p l e zr_X_leastOf s m args below meth c0 H locs 0 0 Q (F0 m 14 ls []) := by
          intro fu
          induction fu with
          | zero => intro wh i   hi hw hw2 hm_14; exact absurd hm_14 (by omega)
          | succ fu ih_14 =>
            intro wh i   hi hw hw2 hm_14 H locs hP hD hS ls hl
            refine lv_iload hx hb zd_X_leastOf_14 (lv_at hl 4 rfl) ?_
            refine lv_aload_n hx hb zd_X_leastOf_16 rfl (lv_at hl 0 rfl) ?_
            refine va_get (D := D) (ci := 5) (v := .int (iI (F 501))) (C := zR_X) (T := zT_X) (N := 34) hx hb hts zi_X hown hK.1 hP 5 ga_5 rfl 1 (by decide) (hts _ zw_534) (fun _ h9 => h9) rfl zd_X_leastOf_17 ?_
            refine x_icmp_ge (tgt := 65) hx hb zd_X_leastOf_20 (by decide) (⟨by omega, by omega⟩) (⟨by omega, by omega⟩) (fun h_20 => ?_) (fun h_20 => ?_)
            · refine lv_iload_n hx hb zd_X_leastOf_65 rfl (lv_at hl 3 rfl) ?_
              refine x_if_eq (tgt := 71) hx hb zd_X_leastOf_66 (by decide) (⟨by omega, by omega⟩) (fun h_66 => ?_) (fun h_66 => ?_)
              · refine lv_iinc (v := iI (r + 1)) (lv' := [(2, .int (iI (r + 1))), (0, .ref (q 5)), (1, .int (iI (root))), (3, .int (iI (wh))), (4, .int (iI (i)))]) hx hb zd_X_leastOf_71 hl (k := 2) rfl (iI_add _ _) (by decide) rfl (fun ls hl => ?_)
                refine lv_goto (tgt := 2) hx hb zd_X_leastOf_74 (by decide) ?_
                exact ih_2 (r + 1)   (by first | assumption | omega | (simp_all; done)) (fun x h0 h1 => by by_cases e_ : x = r; (subst e_; intro hc; have := hw2.mpr (fun a a0 a1 a2 => hc a a0 (by omega) a2); omega); (exact hs x h0 (by omega))) (by omega) _ _ hP hD hS ls (lv_sub hl [1, 2, 0] rfl)
              · refine lv_iload_n hx hb zd_X_leastOf_69 rfl (lv_at hl 2 rfl) ?_
                exact ret _ _ _ _ _ _ _ zd_X_leastOf_70 hP hD hS (⟨rfl, rfl, Or.inr ⟨by omega, fun a h0 h1 h2 => hw2.mp (by omega) a h0 (by omega) h2, hs⟩⟩)
            · have ho_ := hov i (by omega) (by omega)
              have hp_ := hpp i (by omega) (by omega)
              refine lv_aload_n hx hb zd_X_leastOf_23 rfl (lv_at hl 0 rfl) ?_
              refine va_get (D := D) (ci := 5) (v := .ref (q 41)) (C := zR_X) (T := zT_X) (N := 34) hx hb hts zi_X hown hK.1 hP 5 ga_5 rfl 13 (by decide) (hts _ zw_546) (fun _ h9 => h9) rfl zd_X_leastOf_24 ?_
              refine lv_iload hx hb zd_X_leastOf_27 (lv_at hl 4 rfl) ?_
              refine x_iald (v := A 41 i) hx hb hK.1 hP 41 0 ga_41 rfl (by decide) (by omega) (by omega) (rfl) zd_X_leastOf_29 ?_
              refine lv_iload_n hx hb zd_X_leastOf_30 rfl (lv_at hl 1 rfl) ?_
              refine x_icmp_ne (tgt := 59) hx hb zd_X_leastOf_31 (by decide) (⟨by omega, by omega⟩) (⟨by omega, by omega⟩) (fun h_31 => ?_) (fun h_31 => ?_)
              · refine lv_iinc (v := iI (i + 1)) (lv' := [(4, .int (iI (i + 1))), (0, .ref (q 5)), (1, .int (iI (root))), (2, .int (iI (r))), (3, .int (iI (wh)))]) hx hb zd_X_leastOf_59 hl (k := 4) rfl (iI_add _ _) (by decide) rfl (fun ls hl => ?_)
                refine lv_goto (tgt := 14) hx hb zd_X_leastOf_62 (by decide) ?_
                exact ih_14 (wh) (i + 1)   (by first | assumption | omega | (simp_all; done)) (by first | exact hw | exact Or.inl rfl) (by first | exact lw_s hw2 (Or.inl h_31) | exact lw_s hw2 (Or.inr (by omega)) | exact lw_f h_31 (by omega) (by omega)) (by omega) _ _ hP hD hS ls (lv_sub hl [1, 2, 3, 4, 0] rfl)
              · have hm_ := mulb (x := r) (y := A 42 i) (X := 400) (Y := 43046721) (by omega) ho_.1
                have ht_ := tm_lt (x := r * A 42 i) (y := A 43 i) (by omega) (by omega)
                refine lv_iload_n hx hb zd_X_leastOf_34 rfl (lv_at hl 2 rfl) ?_
                refine x_i2l hx hb zd_X_leastOf_35 (⟨by omega, by omega⟩) ?_
                refine lv_aload_n hx hb zd_X_leastOf_36 rfl (lv_at hl 0 rfl) ?_
                refine va_get (D := D) (ci := 5) (v := .ref (q 42)) (C := zR_X) (T := zT_X) (N := 34) hx hb hts zi_X hown hK.1 hP 5 ga_5 rfl 14 (by decide) (hts _ zw_547) (fun _ h9 => h9) rfl zd_X_leastOf_37 ?_
                refine lv_iload hx hb zd_X_leastOf_40 (lv_at hl 4 rfl) ?_
                refine x_lald (v := A 42 i) hx hb hK.1 hP 42 1 ga_42 rfl (by decide) (by omega) (by omega) (rfl) zd_X_leastOf_42 ?_
                refine x_lmul hx hb zd_X_leastOf_43 ?_
                refine lv_aload_n hx hb zd_X_leastOf_44 rfl (lv_at hl 0 rfl) ?_
                refine va_get (D := D) (ci := 5) (v := .ref (q 43)) (C := zR_X) (T := zT_X) (N := 34) hx hb hts zi_X hown hK.1 hP 5 ga_5 rfl 15 (by decide) (hts _ zw_548) (fun _ h9 => h9) rfl zd_X_leastOf_45 ?_
                refine lv_iload hx hb zd_X_leastOf_48 (lv_at hl 4 rfl) ?_
                refine x_lald (v := A 43 i) hx hb hK.1 hP 43 1 ga_43 rfl (by decide) (by omega) (by omega) (rfl) zd_X_leastOf_50 ?_
                refine x_lrem hx hb zd_X_leastOf_51 (⟨by omega, by omega⟩) (⟨by omega, by omega⟩) (by omega) ?_
                refine lv_lconst (v := lI (0)) hx hb zd_X_leastOf_52 (by decide) ?_
                refine x_lcmp hx hb zd_X_leastOf_53 (⟨by omega, by omega⟩) (⟨by omega, by omega⟩) ?_
                have hc_53 := cmpI_spec ((r * (A 42 i)).tmod (A 43 i)) 0
                refine x_if_eq (tgt := 59) hx hb zd_X_leastOf_54 (by decide) (⟨by omega, by omega⟩) (fun h_54 => ?_) (fun h_54 => ?_)
                · refine lv_iinc (v := iI (i + 1)) (lv' := [(4, .int (iI (i + 1))), (0, .ref (q 5)), (1, .int (iI (root))), (2, .int (iI (r))), (3, .int (iI (wh)))]) hx hb zd_X_leastOf_59 hl (k := 4) rfl (iI_add _ _) (by decide) rfl (fun ls hl => ?_)
                  refine lv_goto (tgt := 14) hx hb zd_X_leastOf_62 (by decide) ?_
                  exact ih_14 (wh) (i + 1)   (by first | assumption | omega | (simp_all; done)) (by first | exact hw | exact Or.inl rfl) (by first | exact lw_s hw2 (Or.inl h_31) | exact lw_s hw2 (Or.inr (by omega)) | exact lw_f h_31 (by omega) (by omega)) (by omega) _ _ hP hD hS ls (lv_sub hl [1, 2, 3, 4, 0] rfl)
                · refine lv_iconst (v := iI (0)) hx hb zd_X_leastOf_57 rfl ?_
                  refine lv_istore_n (lv' := [(3, .int (iI (0))), (0, .ref (q 5)), (1, .int (iI (root))), (2, .int (iI (r))), (4, .int (iI (i)))]) hx hb zd_X_leastOf_58 rfl hl (by decide) rfl (fun ls hl => ?_)
                  refine lv_iinc (v := iI (i + 1)) (lv' := [(4, .int (iI (i + 1))), (3, .int (iI (0))), (0, .ref (q 5)), (1, .int (iI (root))), (2, .int (iI (r)))]) hx hb zd_X_leastOf_59 hl (k := 4) rfl (iI_add _ _) (by decide) rfl (fun ls hl => ?_)
                  refine lv_goto (tgt := 14) hx hb zd_X_leastOf_62 (by decide) ?_
                  exact ih_14 (0) (i + 1)   (by first | assumption | omega | (simp_all; done)) (by first | exact hw | exact Or.inl rfl) (by first | exact lw_s hw2 (Or.inl h_31) | exact lw_s hw2 (Or.inr (by omega)) | exact lw_f h_31 (by omega) (by omega)) (by omega) _ _ hP hD hS ls (lv_sub hl [2, 3, 4, 1, 0] rfl)
        exact L_14 (((F 501 - (0) : Int) + 1).toNat) (1) (0)   (by first | assumption | omega | (simp_all; done)) (Or.inr rfl) (⟨fun _ a h0 h1 => by omega, fun _ => rfl⟩) (by omega) _ _ hP hD hS ls (lv_sub hl [2, 3, 4, 1, 0] rfl)
  exact L_2 (((401 - (1) : Int) + 1).toNat) (1)   (by first | assumption | omega | (simp_all; done)) (fun x h0 h1 => by omega) (by omega) _ _ hP hD hS ls (lv_sub hl [1, 2, 0] rfl)

abbrev zr_X_findCounts : Room := ({ frames := 1, cells := 0, slots := 0, locals := 24 } : Room)
set_option maxHeartbeats 4000000 in
set_option maxRecDepth 100000 in
theorem c_X_findCounts (l : Launch) (D : va_G) (q : Nat → Nat) (c : Nat → ClassId) (sz : Nat) (F : Nat → Int) (A : Nat → Int → Int)  (hmn : 1 ≤ F 501 ∧ F 501 ≤ 8) (hmm : 0 ≤ F 502 ∧ F 502 ≤ 14) (hov : ∀ x, 0 ≤ x → x < F 501 → (1 ≤ A 42 x ∧ A 42 x ≤ 43046721) ∧ 1 ≤ A 43 x ∧ A 43 x ≤ 43046721) (hpp : ∀ x, 0 ≤ x → x < F 501 → 0 ≤ A 41 x ∧ A 41 x < 8) (hrts : ∀ x, 0 ≤ x → x < F 501 → A 41 x < F 501 ∧ A 41 (A 41 x) = A 41 x) : zMV l zy_X_findCounts zc_X_findCounts 8 none zr_X_findCounts D q c sz [.ref (q 5)] F A (fun F1 A1 => (∀ j, j ≠ 511 → j ≠ 512 → F1 j = F j) ∧ (∀ k, k ≠ 44 → A1 k = A k) ∧ F1 512 = sI (fun a => if A 41 a = a then 1 else 0) (F 501) ∧ (F1 511 = 0 ∨ F1 511 = 1) ∧ ∃ rr : Int → Int, (∀ x, 0 ≤ x → x < F 501 → A 41 x = x → lRes (F 501) (A 41) (A 42) (A 43) x (rr x)) ∧ (F1 511 = 1 ↔ (∃ x, 0 ≤ x ∧ x < F 501 ∧ A 41 x = x ∧ rr x = 0) ∨ 400 < sI (cnR (A 41) (A 42) (A 43) rr) (F 501)) ∧ ∀ a, 0 ≤ a → a < F 501 → rr (A 41 a) ≠ 0 → A1 44 a = (if 400 < cnR (A 41) (A 42) (A 43) rr a then 400 else cnR (A 41) (A 42) (A 43) rr a)) := by
  refine z_ofV (by decide) (Nat.le_of_ble_eq_true rfl) ?_
  intro p e s m args below meth c0 A0 Q C0 ret hP hD hS ls hl
  obtain ⟨S, hK, hA⟩ := C0
  have hx := S.1
  have hb := S.2.1
  have hown := S.2.2.2.1
  have hts : ∀ w ∈ zG, w.before args s = true := fun w h => S.2.2.2.2 w (List.mem_cons_of_mem _ h)
  have hl : lv_has ls 8 [(0, .ref (q 5))] := hl
  refine lv_aload_n hx hb zd_X_findCounts_0 rfl (lv_at hl 0 rfl) ?_
  refine lv_iconst (v := iI (0)) hx hb zd_X_findCounts_1 rfl ?_
  refine va_put (D := D) (ci := 5) (v := .int (iI (0))) (ty := .boolean) (C := zR_X) (T := zT_X) (N := 34) hx hb hts zi_X zk_X zo_X zn_X hown hK.1 hP hD hS 5 ga_5 rfl 11 (by decide) (hts _ zw_544) (fun _ h9 => h9) rfl (by decide +kernel) (rfl) (rfl) (Nat.le_of_ble_eq_true rfl) zd_X_findCounts_2 (fun H locs hP hD hS => ?_)
  rw [gs_5_11] at hP hD
  refine lv_aload_n hx hb zd_X_findCounts_5 rfl (lv_at hl 0 rfl) ?_
  refine lv_iconst (v := iI (0)) hx hb zd_X_findCounts_6 rfl ?_
  refine va_put (D := D) (ci := 5) (v := .int (iI (0))) (ty := .int) (C := zR_X) (T := zT_X) (N := 34) hx hb hts zi_X zk_X zo_X zn_X hown hK.1 hP hD hS 5 ga_5 rfl 12 (by decide) (hts _ zw_545) (fun _ h9 => h9) rfl (by decide +kernel) (rfl) (rfl) (Nat.le_of_ble_eq_true rfl) zd_X_findCounts_7 (fun H locs hP hD hS => ?_)
  rw [gs_5_12] at hP hD
  refine lv_lconst (v := lI (0)) hx hb zd_X_findCounts_10 (by decide) ?_
  refine lv_lstore_n (lv' := [(1, .long (lI (0))), (0, .ref (q 5))]) hx hb zd_X_findCounts_11 rfl hl (by decide) rfl (fun ls hl => ?_)
  refine lv_iconst (v := iI (0)) hx hb zd_X_findCounts_12 rfl ?_
  refine lv_istore_n (lv' := [(3, .int (iI (0))), (1, .long (lI (0))), (0, .ref (q 5))]) hx hb zd_X_findCounts_13 rfl hl (by decide) rfl (fun ls hl => ?_)
  have L_14 : ∀ (fu : Nat) (al : Int) (i3 : Int)  (F14 : Nat → Int) (A14 : Nat → Int → Int), (0 ≤ i3 ∧ i3 ≤ F 501) → (∀ j, j ≠ 511 → j ≠ 512 → F14 j = F j) → (∀ k, k ≠ 44 → A14 k = A k) → (F14 512 = sI (fun a => if A 41 a = a then 1 else 0) i3) → (0 ≤ F14 512 ∧ F14 512 ≤ i3) → (F14 511 = 0 ∨ F14 511 = 1) → (0 ≤ al ∧ al ≤ i3 * 150000000000) → (∃ rr : Int → Int, FCI (F 501) i3 al (F14 511) (A 41) (A 42) (A 43) (A14 44) rr) → (F 501 - i3 < (fu : Int)) → ∀ (H : Heap) (locs : List Loc), va_P D zcl (gw q c F14 A14) H → va_D A0 (gw q c F14 A14) → va_S A0 s.heap H locs → ∀ ls : Array Slot, lv_has ls 8 [(0, .ref (q 5)), (1, .long (lI (al))), (3, .int (iI (i3)))] → W p l e zr_X_findCounts s m args below meth c0 H locs 0 0 Q (F0 m 14 ls []) := by
    intro fu
    induction fu with
    | zero => intro al i3  F14 A14 hi hF4 hk4 h512 h5b h511 hb4 hE hm_14; exact absurd hm_14 (by omega)
    | succ fu ih_14 =>
      intro al i3  F14 A14 hi hF4 hk4 h512 h5b h511 hb4 hE hm_14 H locs hP hD hS ls hl
      have f501 := hF4 501 (by decide) (by decide)
      have e41 := hk4 41 (by decide)
      have e42 := hk4 42 (by decide)
      have e43 := hk4 43 (by decide)
      obtain ⟨rr, hE⟩ := hE
      refine lv_iload_n hx hb zd_X_findCounts_14 rfl (lv_at hl 2 rfl) ?_
      refine lv_aload_n hx hb zd_X_findCounts_15 rfl (lv_at hl 0 rfl) ?_
      refine va_get (D := D) (ci := 5) (v := .int (iI (F14 501))) (C := zR_X) (T := zT_X) (N := 34) hx hb hts zi_X hown hK.1 hP 5 ga_5 rfl 1 (by decide) (hts _ zw_534) (fun _ h9 => h9) rfl zd_X_findCounts_16 ?_
      refine x_icmp_ge (tgt := 156) hx hb zd_X_findCounts_19 (by decide) (⟨by omega, by omega⟩) (⟨by omega, by omega⟩) (fun h_19 => ?_) (fun h_19 => ?_)
      · refine lv_aload_n hx hb zd_X_findCounts_156 rfl (lv_at hl 0 rfl) ?_
        refine lv_aload_n hx hb zd_X_findCounts_157 rfl (lv_at hl 0 rfl) ?_
        refine va_get (D := D) (ci := 5) (v := .int (iI (F14 511))) (C := zR_X) (T := zT_X) (N := 34) hx hb hts zi_X hown hK.1 hP 5 ga_5 rfl 11 (by decide) (hts _ zw_544) (fun _ h9 => h9) rfl zd_X_findCounts_158 ?_
        refine x_if_ne (tgt := 172) hx hb zd_X_findCounts_161 (by decide) (⟨by omega, by omega⟩) (fun h_161 => ?_) (fun h_161 => ?_)
        · refine lv_iconst (v := iI (1)) hx hb zd_X_findCounts_172 rfl ?_
          refine lv_goto (tgt := 177) hx hb zd_X_findCounts_173 (by decide) ?_
          refine va_put (D := D) (ci := 5) (v := .int (iI (1))) (ty := .boolean) (C := zR_X) (T := zT_X) (N := 34) hx hb hts zi_X zk_X zo_X zn_X hown hK.1 hP hD hS 5 ga_5 rfl 11 (by decide) (hts _ zw_544) (fun _ h9 => h9) rfl (by decide +kernel) (rfl) (rfl) (Nat.le_of_ble_eq_true rfl) zd_X_findCounts_177 (fun H locs hP hD hS => ?_)
          rw [gs_5_11] at hP hD
          exact ret _ _ _ _ _ _ zd_X_findCounts_180 hP hD hS (fc_end (by omega) hF4 hk4 h512 h511 hE (by omega) hrts (by first | exact Or.inl ⟨rfl, Or.inl (by omega)⟩ | exact Or.inl ⟨rfl, Or.inr (by omega)⟩ | exact Or.inr ⟨rfl, by omega, by omega⟩))
        · refine lv_lload_n hx hb zd_X_findCounts_164 rfl (lv_at hl 1 rfl) ?_
          refine lv_ldc2 (v := lI (400)) hx hb hown (hts _ zw_688) zd_X_findCounts_165 ?_
          refine x_lcmp hx hb zd_X_findCounts_168 (⟨by omega, by omega⟩) (⟨by omega, by omega⟩) ?_
          have hc_168 := cmpI_spec al 400
          refine x_if_le (tgt := 176) hx hb zd_X_findCounts_169 (by decide) (⟨by omega, by omega⟩) (fun h_169 => ?_) (fun h_169 => ?_)
          · refine lv_iconst (v := iI (0)) hx hb zd_X_findCounts_176 rfl ?_
            refine va_put (D := D) (ci := 5) (v := .int (iI (0))) (ty := .boolean) (C := zR_X) (T := zT_X) (N := 34) hx hb hts zi_X zk_X zo_X zn_X hown hK.1 hP hD hS 5 ga_5 rfl 11 (by decide) (hts _ zw_544) (fun _ h9 => h9) rfl (by decide +kernel) (rfl) (rfl) (Nat.le_of_ble_eq_true rfl) zd_X_findCounts_177 (fun H locs hP hD hS => ?_)
            rw [gs_5_11] at hP hD
            exact ret _ _ _ _ _ _ zd_X_findCounts_180 hP hD hS (fc_end (by omega) hF4 hk4 h512 h511 hE (by omega) hrts (by first | exact Or.inl ⟨rfl, Or.inl (by omega)⟩ | exact Or.inl ⟨rfl, Or.inr (by omega)⟩ | exact Or.inr ⟨rfl, by omega, by omega⟩))
          · refine lv_iconst (v := iI (1)) hx hb zd_X_findCounts_172 rfl ?_
            refine lv_goto (tgt := 177) hx hb zd_X_findCounts_173 (by decide) ?_
            refine va_put (D := D) (ci := 5) (v := .int (iI (1))) (ty := .boolean) (C := zR_X) (T := zT_X) (N := 34) hx hb hts zi_X zk_X zo_X zn_X hown hK.1 hP hD hS 5 ga_5 rfl 11 (by decide) (hts _ zw_544) (fun _ h9 => h9) rfl (by decide +kernel) (rfl) (rfl) (Nat.le_of_ble_eq_true rfl) zd_X_findCounts_177 (fun H locs hP hD hS => ?_)
            rw [gs_5_11] at hP hD
            exact ret _ _ _ _ _ _ zd_X_findCounts_180 hP hD hS (fc_end (by omega) hF4 hk4 h512 h511 hE (by omega) hrts (by first | exact Or.inl ⟨rfl, Or.inl (by omega)⟩ | exact Or.inl ⟨rfl, Or.inr (by omega)⟩ | exact Or.inr ⟨rfl, by omega, by omega⟩))
      · have hp_ := hpp i3 (by omega) (by omega)
        refine lv_aload_n hx hb zd_X_findCounts_22 rfl (lv_at hl 0 rfl) ?_
        refine va_get (D := D) (ci := 5) (v := .ref (q 41)) (C := zR_X) (T := zT_X) (N := 34) hx hb hts zi_X hown hK.1 hP 5 ga_5 rfl 13 (by decide) (hts _ zw_546) (fun _ h9 => h9) rfl zd_X_findCounts_23 ?_
        refine lv_iload_n hx hb zd_X_findCounts_26 rfl (lv_at hl 2 rfl) ?_
        refine x_iald (v := A 41 i3) hx hb hK.1 hP 41 0 ga_41 rfl (by decide) (by omega) (by omega) (by rw [e41]) zd_X_findCounts_27 ?_
        refine lv_iload_n hx hb zd_X_findCounts_28 rfl (lv_at hl 2 rfl) ?_
        refine x_icmp_eq (tgt := 35) hx hb zd_X_findCounts_29 (by decide) (⟨by omega, by omega⟩) (⟨by omega, by omega⟩) (fun h_29 => ?_) (fun h_29 => ?_)
        · refine lv_aload_n hx hb zd_X_findCounts_35 rfl (lv_at hl 0 rfl) ?_
          refine lv_dup hx hb zd_X_findCounts_36 rfl ?_
          refine va_get (D := D) (ci := 5) (v := .int (iI (F14 512))) (C := zR_X) (T := zT_X) (N := 34) hx hb hts zi_X hown hK.1 hP 5 ga_5 rfl 12 (by decide) (hts _ zw_545) (fun _ h9 => h9) rfl zd_X_findCounts_37 ?_
          refine lv_iconst (v := iI (1)) hx hb zd_X_findCounts_40 rfl ?_
          refine x_iadd hx hb zd_X_findCounts_41 ?_
          refine va_put (D := D) (ci := 5) (v := .int (iI ((F14 512) + 1))) (ty := .int) (C := zR_X) (T := zT_X) (N := 34) hx hb hts zi_X zk_X zo_X zn_X hown hK.1 hP hD hS 5 ga_5 rfl 12 (by decide) (hts _ zw_545) (fun _ h9 => h9) rfl (by decide +kernel) (rfl) (rfl) (Nat.le_of_ble_eq_true rfl) zd_X_findCounts_42 (fun H locs hP hD hS => ?_)
          rw [gs_5_12] at hP hD
          refine lv_aload_n hx hb zd_X_findCounts_45 rfl (lv_at hl 0 rfl) ?_
          refine lv_iload_n hx hb zd_X_findCounts_46 rfl (lv_at hl 2 rfl) ?_
          refine z_goi (z_runV (n := 1) (k := 5) (ci := 5) (As := [.int (iI (i3))]) (rest := []) S (c_X_leastOf l D q c _ (fuP F14 512 ((F14 512) + 1)) A14 i3 (by show 1 ≤ F14 501 ∧ F14 501 ≤ 8; omega) (by show 0 ≤ F14 502 ∧ F14 502 ≤ 14; rw [hF4 502 (by decide) (by decide)]; exact hmm) (by show ∀ x, 0 ≤ x → x < F14 501 → _; rw [e42, e43, f501]; exact hov) (by show ∀ x, 0 ≤ x → x < F14 501 → _; rw [e41, f501]; exact hpp) (by omega)) zw_684 zw_686 zs_42 zw_6 zw_687 ⟨by decide +kernel, by decide, rfl, rfl⟩ hK hP hD ga_5 rfl rfl rfl hl.1 rfl (Nat.le_of_ble_eq_true rfl) zd_X_findCounts_47 ⟨Nat.zero_le _, Nat.zero_le _⟩) hD hS hA (fun z_47 F_47 A_47 H locs hq_47 hP hD hS => ?_)
          obtain ⟨hf_47, ha_47, hq_47⟩ := hq_47
          rw [hf_47, ha_47] at hP hD
          have hzb_ : 0 ≤ z_47 ∧ z_47 ≤ 400 := by (rcases hq_47 with h | h <;> omega)
          have f5_ : (fuP F14 512 (F14 512 + 1)) 501 = F 501 := f501
          simp only [e41, e42, e43, f5_] at hq_47
          refine lv_istore (lv' := [(4, .int (iI (z_47))), (0, .ref (q 5)), (1, .long (lI (al))), (3, .int (iI (i3)))]) hx hb zd_X_findCounts_50 hl (by decide) rfl (fun ls hl => ?_)
          refine lv_iload hx hb zd_X_findCounts_52 (lv_at hl 0 rfl) ?_
          refine x_if_ne (tgt := 62) hx hb zd_X_findCounts_54 (by decide) (⟨by omega, by omega⟩) (fun h_54 => ?_) (fun h_54 => ?_)
          · refine lv_iconst (v := iI (0)) hx hb zd_X_findCounts_62 rfl ?_
            refine lv_istore (lv' := [(5, .int (iI (0))), (4, .int (iI (z_47))), (0, .ref (q 5)), (1, .long (lI (al))), (3, .int (iI (i3)))]) hx hb zd_X_findCounts_63 hl (by decide) rfl (fun ls hl => ?_)
            have L_65 : ∀ (fu : Nat) (al5 : Int) (j : Int)  (A65 : Nat → Int → Int), (0 ≤ j ∧ j ≤ F 501) → (∀ k, k ≠ 44 → A65 k = A k) → (0 ≤ al5 ∧ al5 ≤ al + j * 17218688400) → (al5 = al + sI (fun a => if A 41 a = i3 then cnR (A 41) (A 42) (A 43) (upI rr i3 z_47) a else 0) j) → (∀ a, 0 ≤ a → a < F 501 → (A 41 a < i3 ∨ (A 41 a = i3 ∧ a < j)) → upI rr i3 z_47 (A 41 a) ≠ 0 → A65 44 a = (if 400 < cnR (A 41) (A 42) (A 43) (upI rr i3 z_47) a then 400 else cnR (A 41) (A 42) (A 43) (upI rr i3 z_47) a)) → (F 501 - j < (fu : Int)) → ∀ (H : Heap) (locs : List Loc), va_P D zcl (gw q c (fuP F14 512 ((F14 512) + 1)) A65) H → va_D A0 (gw q c (fuP F14 512 ((F14 512) + 1)) A65) → va_S A0 s.heap H locs → ∀ ls : Array Slot, lv_has ls 8 [(0, .ref (q 5)), (1, .long (lI (al5))), (3, .int (iI (i3))), (4, .int (iI (z_47))), (5, .int (iI (j)))] → W p l e zr_X_findCounts s m args below meth c0 H locs 0 0 Q (F0 m 65 ls []) := by
              intro fu
              induction fu with
              | zero => intro al5 j  A65 hj hk5 hb5 hal5 hct5 hm_65; exact absurd hm_65 (by omega)
              | succ fu ih_65 =>
                intro al5 j  A65 hj hk5 hb5 hal5 hct5 hm_65 H locs hP hD hS ls hl
                have q41 := hk5 41 (by decide)
                have q42 := hk5 42 (by decide)
                have q43 := hk5 43 (by decide)
                refine lv_iload hx hb zd_X_findCounts_65 (lv_at hl 4 rfl) ?_
                refine lv_aload_n hx hb zd_X_findCounts_67 rfl (lv_at hl 0 rfl) ?_
                refine va_get (D := D) (ci := 5) (v := .int (iI (F14 501))) (C := zR_X) (T := zT_X) (N := 34) hx hb hts zi_X hown hK.1 hP 5 ga_5 rfl 1 (by decide) (hts _ zw_534) (fun _ h9 => h9) rfl zd_X_findCounts_68 ?_
                refine x_icmp_ge (tgt := 150) hx hb zd_X_findCounts_71 (by decide) (⟨by omega, by omega⟩) (⟨by omega, by omega⟩) (fun h_71 => ?_) (fun h_71 => ?_)
                · refine lv_iinc (v := iI (i3 + 1)) (lv' := [(3, .int (iI (i3 + 1))), (0, .ref (q 5)), (1, .long (lI (al5))), (4, .int (iI (z_47))), (5, .int (iI (j)))]) hx hb zd_X_findCounts_150 hl (k := 2) rfl (iI_add _ _) (by decide) rfl (fun ls hl => ?_)
                  refine lv_goto (tgt := 14) hx hb zd_X_findCounts_153 (by decide) ?_
                  exact ih_14 (al5) (i3 + 1)  (fuP F14 512 ((F14 512) + 1)) A65 (by first | assumption | omega | (simp_all; done)) (fun j h1 h2 => by simp [fuP, h1, h2, hF4 j h1 h2]) (by first | exact hk5 | exact hk4) (by rw [sI_s hi.1, ← h512]; first | (rw [if_neg h_29]; omega) | (rw [if_pos h_29]; rfl)) (by first | omega | (simp [fuP]; omega)) (by first | exact h511 | exact Or.inr rfl) (by omega) (by first | exact ⟨rr, fc_skip hE h_29 hrts⟩ | exact ⟨upI rr i3 z_47, fc_next hE hi.1 h_29 hq_47 ⟨fun h => by first | rfl | exact absurd h_54 h, fun h => by first | rfl | exact absurd h h_54⟩ (by rw [hal5, show j = F 501 by omega]) (fun a h0 h1 h2 => hct5 a h0 h1 (by omega))⟩) (by omega) _ _ hP hD hS ls (lv_sub hl [1, 2, 0] rfl)
                · have hpj_ := hpp j (by omega) (by omega)
                  have hoj_ := hov j (by omega) (by omega)
                  refine lv_aload_n hx hb zd_X_findCounts_74 rfl (lv_at hl 0 rfl) ?_
                  refine va_get (D := D) (ci := 5) (v := .ref (q 41)) (C := zR_X) (T := zT_X) (N := 34) hx hb hts zi_X hown hK.1 hP 5 ga_5 rfl 13 (by decide) (hts _ zw_546) (fun _ h9 => h9) rfl zd_X_findCounts_75 ?_
                  refine lv_iload hx hb zd_X_findCounts_78 (lv_at hl 4 rfl) ?_
                  refine x_iald (v := A 41 j) hx hb hK.1 hP 41 0 ga_41 rfl (by decide) (by omega) (by omega) (by rw [q41]) zd_X_findCounts_80 ?_
                  refine lv_iload_n hx hb zd_X_findCounts_81 rfl (lv_at hl 2 rfl) ?_
                  refine x_icmp_ne (tgt := 144) hx hb zd_X_findCounts_82 (by decide) (⟨by omega, by omega⟩) (⟨by omega, by omega⟩) (fun h_82 => ?_) (fun h_82 => ?_)
                  · refine lv_iinc (v := iI (j + 1)) (lv' := [(5, .int (iI (j + 1))), (0, .ref (q 5)), (1, .long (lI (al5))), (3, .int (iI (i3))), (4, .int (iI (z_47)))]) hx hb zd_X_findCounts_144 hl (k := 4) rfl (iI_add _ _) (by decide) rfl (fun ls hl => ?_)
                    refine lv_goto (tgt := 65) hx hb zd_X_findCounts_147 (by decide) ?_
                    exact ih_65 (al5) (j + 1)  A65 (by first | assumption | omega | (simp_all; done)) (by first | exact hk5 | exact fun k h => by simp [auP, h, hk5 k h]) (by omega) (by rw [sI_s hj.1, hal5]; first | (rw [if_neg h_82]; omega) | (rw [if_pos h_82, cnR_y h_82, if_pos h_87]; omega) | (rw [if_pos h_82, hcn_]; omega)) (fun a h0 h1 h2 h3 => by by_cases e_ : a = j; (subst e_; first | (exact hct5 a h0 h1 (by omega) h3) | (exact absurd (by rw [h_82, upI_s]; exact h_87) h3) | (rw [hcn_]; simp only [auP, upI, if_true]; split <;> omega)); (have h9 := hct5 a h0 h1 (by omega) h3; first | exact h9 | (simp only [auP, upI, e_, if_true, if_false]; exact h9))) (by omega) _ _ hP hD hS ls (lv_sub hl [1, 2, 3, 4, 0] rfl)
                  · refine lv_iload hx hb zd_X_findCounts_85 (lv_at hl 3 rfl) ?_
                    refine x_if_ne (tgt := 93) hx hb zd_X_findCounts_87 (by decide) (⟨by omega, by omega⟩) (fun h_87 => ?_) (fun h_87 => ?_)
                    · have hm_ := mulb (x := z_47) (y := A 42 j) (X := 400) (Y := 43046721) (by omega) hoj_.1
                      have ht_ : 0 ≤ (z_47 * A 42 j).tdiv (A 43 j) ∧ (z_47 * A 42 j).tdiv (A 43 j) ≤ 17218688400 := by (rw [Int.tdiv_eq_ediv_of_nonneg (by omega)]; exact ⟨Int.ediv_nonneg (by omega) (by omega), Int.le_trans (Int.ediv_le_self _ (by omega)) (by omega)⟩)
                      have hcn_ : cnR (A 41) (A 42) (A 43) (upI rr i3 z_47) j = (z_47 * A 42 j).tdiv (A 43 j) := by (rw [cnR_y h_82, if_neg h_87])
                      refine lv_iload hx hb zd_X_findCounts_93 (lv_at hl 3 rfl) ?_
                      refine x_i2l hx hb zd_X_findCounts_95 (⟨by omega, by omega⟩) ?_
                      refine lv_aload_n hx hb zd_X_findCounts_96 rfl (lv_at hl 0 rfl) ?_
                      refine va_get (D := D) (ci := 5) (v := .ref (q 42)) (C := zR_X) (T := zT_X) (N := 34) hx hb hts zi_X hown hK.1 hP 5 ga_5 rfl 14 (by decide) (hts _ zw_547) (fun _ h9 => h9) rfl zd_X_findCounts_97 ?_
                      refine lv_iload hx hb zd_X_findCounts_100 (lv_at hl 4 rfl) ?_
                      refine x_lald (v := A 42 j) hx hb hK.1 hP 42 1 ga_42 rfl (by decide) (by omega) (by omega) (by rw [q42]) zd_X_findCounts_102 ?_
                      refine x_lmul hx hb zd_X_findCounts_103 ?_
                      refine lv_aload_n hx hb zd_X_findCounts_104 rfl (lv_at hl 0 rfl) ?_
                      refine va_get (D := D) (ci := 5) (v := .ref (q 43)) (C := zR_X) (T := zT_X) (N := 34) hx hb hts zi_X hown hK.1 hP 5 ga_5 rfl 15 (by decide) (hts _ zw_548) (fun _ h9 => h9) rfl zd_X_findCounts_105 ?_
                      refine lv_iload hx hb zd_X_findCounts_108 (lv_at hl 4 rfl) ?_
                      refine x_lald (v := A 43 j) hx hb hK.1 hP 43 1 ga_43 rfl (by decide) (by omega) (by omega) (by rw [q43]) zd_X_findCounts_110 ?_
                      refine x_ldiv hx hb zd_X_findCounts_111 (⟨by omega, by omega⟩) (⟨by omega, by omega⟩) (by omega) ?_
                      refine lv_lstore (lv' := [(6, .long (lI ((z_47 * (A 42 j)).tdiv (A 43 j)))), (0, .ref (q 5)), (1, .long (lI (al5))), (3, .int (iI (i3))), (4, .int (iI (z_47))), (5, .int (iI (j)))]) hx hb zd_X_findCounts_112 hl (by decide) rfl (fun ls hl => ?_)
                      refine lv_lload_n hx hb zd_X_findCounts_114 rfl (lv_at hl 2 rfl) ?_
                      refine lv_lload hx hb zd_X_findCounts_115 (lv_at hl 0 rfl) ?_
                      refine x_ladd hx hb zd_X_findCounts_117 ?_
                      refine lv_lstore_n (lv' := [(1, .long (lI (al5 + ((z_47 * (A 42 j)).tdiv (A 43 j))))), (6, .long (lI ((z_47 * (A 42 j)).tdiv (A 43 j)))), (0, .ref (q 5)), (3, .int (iI (i3))), (4, .int (iI (z_47))), (5, .int (iI (j)))]) hx hb zd_X_findCounts_118 rfl hl (by decide) rfl (fun ls hl => ?_)
                      refine lv_aload_n hx hb zd_X_findCounts_119 rfl (lv_at hl 2 rfl) ?_
                      refine va_get (D := D) (ci := 5) (v := .ref (q 44)) (C := zR_X) (T := zT_X) (N := 34) hx hb hts zi_X hown hK.1 hP 5 ga_5 rfl 16 (by decide) (hts _ zw_549) (fun _ h9 => h9) rfl zd_X_findCounts_120 ?_
                      refine lv_iload hx hb zd_X_findCounts_123 (lv_at hl 5 rfl) ?_
                      refine lv_lload hx hb zd_X_findCounts_125 (lv_at hl 1 rfl) ?_
                      refine lv_ldc2 (v := lI (400)) hx hb hown (hts _ zw_688) zd_X_findCounts_127 ?_
                      refine x_lcmp hx hb zd_X_findCounts_130 (⟨by omega, by omega⟩) (⟨by omega, by omega⟩) ?_
                      have hc_130 := cmpI_spec ((z_47 * (A 42 j)).tdiv (A 43 j)) 400
                      refine x_if_le (tgt := 140) hx hb zd_X_findCounts_131 (by decide) (⟨by omega, by omega⟩) (fun h_131 => ?_) (fun h_131 => ?_)
                      · refine lv_lload hx hb zd_X_findCounts_140 (lv_at hl 1 rfl) ?_
                        refine x_l2i hx hb zd_X_findCounts_142 ?_
                        refine x_iast hx hb hK.1 hP hD hS 44 0 ga_44 rfl (by decide) (by omega) (by omega) zd_X_findCounts_143 (fun H locs hP hD hS => ?_)
                        rw [gs_44] at hP hD
                        refine lv_iinc (v := iI (j + 1)) (lv' := [(5, .int (iI (j + 1))), (1, .long (lI (al5 + ((z_47 * (A 42 j)).tdiv (A 43 j))))), (6, .long (lI ((z_47 * (A 42 j)).tdiv (A 43 j)))), (0, .ref (q 5)), (3, .int (iI (i3))), (4, .int (iI (z_47)))]) hx hb zd_X_findCounts_144 hl (k := 5) rfl (iI_add _ _) (by decide) rfl (fun ls hl => ?_)
                        refine lv_goto (tgt := 65) hx hb zd_X_findCounts_147 (by decide) ?_
                        exact ih_65 (al5 + ((z_47 * (A 42 j)).tdiv (A 43 j))) (j + 1)  (auP A65 44 j ((z_47 * (A 42 j)).tdiv (A 43 j))) (by first | assumption | omega | (simp_all; done)) (by first | exact hk5 | exact fun k h => by simp [auP, h, hk5 k h]) (by omega) (by rw [sI_s hj.1, hal5]; first | (rw [if_neg h_82]; omega) | (rw [if_pos h_82, cnR_y h_82, if_pos h_87]; omega) | (rw [if_pos h_82, hcn_]; omega)) (fun a h0 h1 h2 h3 => by by_cases e_ : a = j; (subst e_; first | (exact hct5 a h0 h1 (by omega) h3) | (exact absurd (by rw [h_82, upI_s]; exact h_87) h3) | (rw [hcn_]; simp only [auP, upI, if_true]; split <;> omega)); (have h9 := hct5 a h0 h1 (by omega) h3; first | exact h9 | (simp only [auP, upI, e_, if_true, if_false]; exact h9))) (by omega) _ _ hP hD hS ls (lv_sub hl [3, 1, 4, 5, 0] rfl)
                      · refine lv_sipush (v := iI (400)) hx hb zd_X_findCounts_134 (by decide) ?_
                        refine lv_goto (tgt := 143) hx hb zd_X_findCounts_137 (by decide) ?_
                        refine x_iast hx hb hK.1 hP hD hS 44 0 ga_44 rfl (by decide) (by omega) (by omega) zd_X_findCounts_143 (fun H locs hP hD hS => ?_)
                        rw [gs_44] at hP hD
                        refine lv_iinc (v := iI (j + 1)) (lv' := [(5, .int (iI (j + 1))), (1, .long (lI (al5 + ((z_47 * (A 42 j)).tdiv (A 43 j))))), (6, .long (lI ((z_47 * (A 42 j)).tdiv (A 43 j)))), (0, .ref (q 5)), (3, .int (iI (i3))), (4, .int (iI (z_47)))]) hx hb zd_X_findCounts_144 hl (k := 5) rfl (iI_add _ _) (by decide) rfl (fun ls hl => ?_)
                        refine lv_goto (tgt := 65) hx hb zd_X_findCounts_147 (by decide) ?_
                        exact ih_65 (al5 + ((z_47 * (A 42 j)).tdiv (A 43 j))) (j + 1)  (auP A65 44 j 400) (by first | assumption | omega | (simp_all; done)) (by first | exact hk5 | exact fun k h => by simp [auP, h, hk5 k h]) (by omega) (by rw [sI_s hj.1, hal5]; first | (rw [if_neg h_82]; omega) | (rw [if_pos h_82, cnR_y h_82, if_pos h_87]; omega) | (rw [if_pos h_82, hcn_]; omega)) (fun a h0 h1 h2 h3 => by by_cases e_ : a = j; (subst e_; first | (exact hct5 a h0 h1 (by omega) h3) | (exact absurd (by rw [h_82, upI_s]; exact h_87) h3) | (rw [hcn_]; simp only [auP, upI, if_true]; split <;> omega)); (have h9 := hct5 a h0 h1 (by omega) h3; first | exact h9 | (simp only [auP, upI, e_, if_true, if_false]; exact h9))) (by omega) _ _ hP hD hS ls (lv_sub hl [3, 1, 4, 5, 0] rfl)
                    · refine lv_goto (tgt := 144) hx hb zd_X_findCounts_90 (by decide) ?_
                      refine lv_iinc (v := iI (j + 1)) (lv' := [(5, .int (iI (j + 1))), (0, .ref (q 5)), (1, .long (lI (al5))), (3, .int (iI (i3))), (4, .int (iI (z_47)))]) hx hb zd_X_findCounts_144 hl (k := 4) rfl (iI_add _ _) (by decide) rfl (fun ls hl => ?_)
                      refine lv_goto (tgt := 65) hx hb zd_X_findCounts_147 (by decide) ?_
                      exact ih_65 (al5) (j + 1)  A65 (by first | assumption | omega | (simp_all; done)) (by first | exact hk5 | exact fun k h => by simp [auP, h, hk5 k h]) (by omega) (by rw [sI_s hj.1, hal5]; first | (rw [if_neg h_82]; omega) | (rw [if_pos h_82, cnR_y h_82, if_pos h_87]; omega) | (rw [if_pos h_82, hcn_]; omega)) (fun a h0 h1 h2 h3 => by by_cases e_ : a = j; (subst e_; first | (exact hct5 a h0 h1 (by omega) h3) | (exact absurd (by rw [h_82, upI_s]; exact h_87) h3) | (rw [hcn_]; simp only [auP, upI, if_true]; split <;> omega)); (have h9 := hct5 a h0 h1 (by omega) h3; first | exact h9 | (simp only [auP, upI, e_, if_true, if_false]; exact h9))) (by omega) _ _ hP hD hS ls (lv_sub hl [1, 2, 3, 4, 0] rfl)
            exact L_65 (((F 501 - (0) : Int) + 1).toNat) (al) (0)  A14 (by first | assumption | omega | (simp_all; done)) (hk4) (by omega) (by rw [sI_0]; omega) (fun a h0 h1 h2 h3 => by have h4 : A 41 a < i3 := (by omega); rw [cnR_n (by omega)]; rw [upI_n (by omega)] at h3; exact hE.2.2.2 a h0 h1 h4 h3) (by omega) _ _ hP hD hS ls (lv_sub hl [2, 3, 4, 1, 0] rfl)
          · refine lv_aload_n hx hb zd_X_findCounts_57 rfl (lv_at hl 1 rfl) ?_
            refine lv_iconst (v := iI (1)) hx hb zd_X_findCounts_58 rfl ?_
            refine va_put (D := D) (ci := 5) (v := .int (iI (1))) (ty := .boolean) (C := zR_X) (T := zT_X) (N := 34) hx hb hts zi_X zk_X zo_X zn_X hown hK.1 hP hD hS 5 ga_5 rfl 11 (by decide) (hts _ zw_544) (fun _ h9 => h9) rfl (by decide +kernel) (rfl) (rfl) (Nat.le_of_ble_eq_true rfl) zd_X_findCounts_59 (fun H locs hP hD hS => ?_)
            rw [gs_5_11] at hP hD
            refine lv_iconst (v := iI (0)) hx hb zd_X_findCounts_62 rfl ?_
            refine lv_istore (lv' := [(5, .int (iI (0))), (4, .int (iI (z_47))), (0, .ref (q 5)), (1, .long (lI (al))), (3, .int (iI (i3)))]) hx hb zd_X_findCounts_63 hl (by decide) rfl (fun ls hl => ?_)
            have L_65 : ∀ (fu : Nat) (al5 : Int) (j : Int)  (A65 : Nat → Int → Int), (0 ≤ j ∧ j ≤ F 501) → (∀ k, k ≠ 44 → A65 k = A k) → (0 ≤ al5 ∧ al5 ≤ al + j * 17218688400) → (al5 = al + sI (fun a => if A 41 a = i3 then cnR (A 41) (A 42) (A 43) (upI rr i3 z_47) a else 0) j) → (∀ a, 0 ≤ a → a < F 501 → (A 41 a < i3 ∨ (A 41 a = i3 ∧ a < j)) → upI rr i3 z_47 (A 41 a) ≠ 0 → A65 44 a = (if 400 < cnR (A 41) (A 42) (A 43) (upI rr i3 z_47) a then 400 else cnR (A 41) (A 42) (A 43) (upI rr i3 z_47) a)) → (F 501 - j < (fu : Int)) → ∀ (H : Heap) (locs : List Loc), va_P D zcl (gw q c (fuP (fuP F14 512 ((F14 512) + 1)) 511 1) A65) H → va_D A0 (gw q c (fuP (fuP F14 512 ((F14 512) + 1)) 511 1) A65) → va_S A0 s.heap H locs → ∀ ls : Array Slot, lv_has ls 8 [(0, .ref (q 5)), (1, .long (lI (al5))), (3, .int (iI (i3))), (4, .int (iI (z_47))), (5, .int (iI (j)))] → W p l e zr_X_findCounts s m args below meth c0 H locs 0 0 Q (F0 m 65 ls []) := by
              intro fu
              induction fu with
              | zero => intro al5 j  A65 hj hk5 hb5 hal5 hct5 hm_65; exact absurd hm_65 (by omega)
              | succ fu ih_65 =>
                intro al5 j  A65 hj hk5 hb5 hal5 hct5 hm_65 H locs hP hD hS ls hl
                have q41 := hk5 41 (by decide)
                have q42 := hk5 42 (by decide)
                have q43 := hk5 43 (by decide)
                refine lv_iload hx hb zd_X_findCounts_65 (lv_at hl 4 rfl) ?_
                refine lv_aload_n hx hb zd_X_findCounts_67 rfl (lv_at hl 0 rfl) ?_
                refine va_get (D := D) (ci := 5) (v := .int (iI (F14 501))) (C := zR_X) (T := zT_X) (N := 34) hx hb hts zi_X hown hK.1 hP 5 ga_5 rfl 1 (by decide) (hts _ zw_534) (fun _ h9 => h9) rfl zd_X_findCounts_68 ?_
                refine x_icmp_ge (tgt := 150) hx hb zd_X_findCounts_71 (by decide) (⟨by omega, by omega⟩) (⟨by omega, by omega⟩) (fun h_71 => ?_) (fun h_71 => ?_)
                · refine lv_iinc (v := iI (i3 + 1)) (lv' := [(3, .int (iI (i3 + 1))), (0, .ref (q 5)), (1, .long (lI (al5))), (4, .int (iI (z_47))), (5, .int (iI (j)))]) hx hb zd_X_findCounts_150 hl (k := 2) rfl (iI_add _ _) (by decide) rfl (fun ls hl => ?_)
                  refine lv_goto (tgt := 14) hx hb zd_X_findCounts_153 (by decide) ?_
                  exact ih_14 (al5) (i3 + 1)  (fuP (fuP F14 512 ((F14 512) + 1)) 511 1) A65 (by first | assumption | omega | (simp_all; done)) (fun j h1 h2 => by simp [fuP, h1, h2, hF4 j h1 h2]) (by first | exact hk5 | exact hk4) (by rw [sI_s hi.1, ← h512]; first | (rw [if_neg h_29]; omega) | (rw [if_pos h_29]; rfl)) (by first | omega | (simp [fuP]; omega)) (by first | exact h511 | exact Or.inr rfl) (by omega) (by first | exact ⟨rr, fc_skip hE h_29 hrts⟩ | exact ⟨upI rr i3 z_47, fc_next hE hi.1 h_29 hq_47 ⟨fun h => by first | rfl | exact absurd h_54 h, fun h => by first | rfl | exact absurd h h_54⟩ (by rw [hal5, show j = F 501 by omega]) (fun a h0 h1 h2 => hct5 a h0 h1 (by omega))⟩) (by omega) _ _ hP hD hS ls (lv_sub hl [1, 2, 0] rfl)
                · have hpj_ := hpp j (by omega) (by omega)
                  have hoj_ := hov j (by omega) (by omega)
                  refine lv_aload_n hx hb zd_X_findCounts_74 rfl (lv_at hl 0 rfl) ?_
                  refine va_get (D := D) (ci := 5) (v := .ref (q 41)) (C := zR_X) (T := zT_X) (N := 34) hx hb hts zi_X hown hK.1 hP 5 ga_5 rfl 13 (by decide) (hts _ zw_546) (fun _ h9 => h9) rfl zd_X_findCounts_75 ?_
                  refine lv_iload hx hb zd_X_findCounts_78 (lv_at hl 4 rfl) ?_
                  refine x_iald (v := A 41 j) hx hb hK.1 hP 41 0 ga_41 rfl (by decide) (by omega) (by omega) (by rw [q41]) zd_X_findCounts_80 ?_
                  refine lv_iload_n hx hb zd_X_findCounts_81 rfl (lv_at hl 2 rfl) ?_
                  refine x_icmp_ne (tgt := 144) hx hb zd_X_findCounts_82 (by decide) (⟨by omega, by omega⟩) (⟨by omega, by omega⟩) (fun h_82 => ?_) (fun h_82 => ?_)
                  · refine lv_iinc (v := iI (j + 1)) (lv' := [(5, .int (iI (j + 1))), (0, .ref (q 5)), (1, .long (lI (al5))), (3, .int (iI (i3))), (4, .int (iI (z_47)))]) hx hb zd_X_findCounts_144 hl (k := 4) rfl (iI_add _ _) (by decide) rfl (fun ls hl => ?_)
                    refine lv_goto (tgt := 65) hx hb zd_X_findCounts_147 (by decide) ?_
                    exact ih_65 (al5) (j + 1)  A65 (by first | assumption | omega | (simp_all; done)) (by first | exact hk5 | exact fun k h => by simp [auP, h, hk5 k h]) (by omega) (by rw [sI_s hj.1, hal5]; first | (rw [if_neg h_82]; omega) | (rw [if_pos h_82, cnR_y h_82, if_pos h_87]; omega) | (rw [if_pos h_82, hcn_]; omega)) (fun a h0 h1 h2 h3 => by by_cases e_ : a = j; (subst e_; first | (exact hct5 a h0 h1 (by omega) h3) | (exact absurd (by rw [h_82, upI_s]; exact h_87) h3) | (rw [hcn_]; simp only [auP, upI, if_true]; split <;> omega)); (have h9 := hct5 a h0 h1 (by omega) h3; first | exact h9 | (simp only [auP, upI, e_, if_true, if_false]; exact h9))) (by omega) _ _ hP hD hS ls (lv_sub hl [1, 2, 3, 4, 0] rfl)
                  · refine lv_iload hx hb zd_X_findCounts_85 (lv_at hl 3 rfl) ?_
                    refine x_if_ne (tgt := 93) hx hb zd_X_findCounts_87 (by decide) (⟨by omega, by omega⟩) (fun h_87 => ?_) (fun h_87 => ?_)
                    · have hm_ := mulb (x := z_47) (y := A 42 j) (X := 400) (Y := 43046721) (by omega) hoj_.1
                      have ht_ : 0 ≤ (z_47 * A 42 j).tdiv (A 43 j) ∧ (z_47 * A 42 j).tdiv (A 43 j) ≤ 17218688400 := by (rw [Int.tdiv_eq_ediv_of_nonneg (by omega)]; exact ⟨Int.ediv_nonneg (by omega) (by omega), Int.le_trans (Int.ediv_le_self _ (by omega)) (by omega)⟩)
                      have hcn_ : cnR (A 41) (A 42) (A 43) (upI rr i3 z_47) j = (z_47 * A 42 j).tdiv (A 43 j) := by (rw [cnR_y h_82, if_neg h_87])
                      refine lv_iload hx hb zd_X_findCounts_93 (lv_at hl 3 rfl) ?_
                      refine x_i2l hx hb zd_X_findCounts_95 (⟨by omega, by omega⟩) ?_
                      refine lv_aload_n hx hb zd_X_findCounts_96 rfl (lv_at hl 0 rfl) ?_
                      refine va_get (D := D) (ci := 5) (v := .ref (q 42)) (C := zR_X) (T := zT_X) (N := 34) hx hb hts zi_X hown hK.1 hP 5 ga_5 rfl 14 (by decide) (hts _ zw_547) (fun _ h9 => h9) rfl zd_X_findCounts_97 ?_
                      refine lv_iload hx hb zd_X_findCounts_100 (lv_at hl 4 rfl) ?_
                      refine x_lald (v := A 42 j) hx hb hK.1 hP 42 1 ga_42 rfl (by decide) (by omega) (by omega) (by rw [q42]) zd_X_findCounts_102 ?_
                      refine x_lmul hx hb zd_X_findCounts_103 ?_
                      refine lv_aload_n hx hb zd_X_findCounts_104 rfl (lv_at hl 0 rfl) ?_
                      refine va_get (D := D) (ci := 5) (v := .ref (q 43)) (C := zR_X) (T := zT_X) (N := 34) hx hb hts zi_X hown hK.1 hP 5 ga_5 rfl 15 (by decide) (hts _ zw_548) (fun _ h9 => h9) rfl zd_X_findCounts_105 ?_
                      refine lv_iload hx hb zd_X_findCounts_108 (lv_at hl 4 rfl) ?_
                      refine x_lald (v := A 43 j) hx hb hK.1 hP 43 1 ga_43 rfl (by decide) (by omega) (by omega) (by rw [q43]) zd_X_findCounts_110 ?_
                      refine x_ldiv hx hb zd_X_findCounts_111 (⟨by omega, by omega⟩) (⟨by omega, by omega⟩) (by omega) ?_
                      refine lv_lstore (lv' := [(6, .long (lI ((z_47 * (A 42 j)).tdiv (A 43 j)))), (0, .ref (q 5)), (1, .long (lI (al5))), (3, .int (iI (i3))), (4, .int (iI (z_47))), (5, .int (iI (j)))]) hx hb zd_X_findCounts_112 hl (by decide) rfl (fun ls hl => ?_)
                      refine lv_lload_n hx hb zd_X_findCounts_114 rfl (lv_at hl 2 rfl) ?_
                      refine lv_lload hx hb zd_X_findCounts_115 (lv_at hl 0 rfl) ?_
                      refine x_ladd hx hb zd_X_findCounts_117 ?_
                      refine lv_lstore_n (lv' := [(1, .long (lI (al5 + ((z_47 * (A 42 j)).tdiv (A 43 j))))), (6, .long (lI ((z_47 * (A 42 j)).tdiv (A 43 j)))), (0, .ref (q 5)), (3, .int (iI (i3))), (4, .int (iI (z_47))), (5, .int (iI (j)))]) hx hb zd_X_findCounts_118 rfl hl (by decide) rfl (fun ls hl => ?_)
                      refine lv_aload_n hx hb zd_X_findCounts_119 rfl (lv_at hl 2 rfl) ?_
                      refine va_get (D := D) (ci := 5) (v := .ref (q 44)) (C := zR_X) (T := zT_X) (N := 34) hx hb hts zi_X hown hK.1 hP 5 ga_5 rfl 16 (by decide) (hts _ zw_549) (fun _ h9 => h9) rfl zd_X_findCounts_120 ?_
                      refine lv_iload hx hb zd_X_findCounts_123 (lv_at hl 5 rfl) ?_
                      refine lv_lload hx hb zd_X_findCounts_125 (lv_at hl 1 rfl) ?_
                      refine lv_ldc2 (v := lI (400)) hx hb hown (hts _ zw_688) zd_X_findCounts_127 ?_
                      refine x_lcmp hx hb zd_X_findCounts_130 (⟨by omega, by omega⟩) (⟨by omega, by omega⟩) ?_
                      have hc_130 := cmpI_spec ((z_47 * (A 42 j)).tdiv (A 43 j)) 400
                      refine x_if_le (tgt := 140) hx hb zd_X_findCounts_131 (by decide) (⟨by omega, by omega⟩) (fun h_131 => ?_) (fun h_131 => ?_)
                      · refine lv_lload hx hb zd_X_findCounts_140 (lv_at hl 1 rfl) ?_
                        refine x_l2i hx hb zd_X_findCounts_142 ?_
                        refine x_iast hx hb hK.1 hP hD hS 44 0 ga_44 rfl (by decide) (by omega) (by omega) zd_X_findCounts_143 (fun H locs hP hD hS => ?_)
                        rw [gs_44] at hP hD
                        refine lv_iinc (v := iI (j + 1)) (lv' := [(5, .int (iI (j + 1))), (1, .long (lI (al5 + ((z_47 * (A 42 j)).tdiv (A 43 j))))), (6, .long (lI ((z_47 * (A 42 j)).tdiv (A 43 j)))), (0, .ref (q 5)), (3, .int (iI (i3))), (4, .int (iI (z_47)))]) hx hb zd_X_findCounts_144 hl (k := 5) rfl (iI_add _ _) (by decide) rfl (fun ls hl => ?_)
                        refine lv_goto (tgt := 65) hx hb zd_X_findCounts_147 (by decide) ?_
                        exact ih_65 (al5 + ((z_47 * (A 42 j)).tdiv (A 43 j))) (j + 1)  (auP A65 44 j ((z_47 * (A 42 j)).tdiv (A 43 j))) (by first | assumption | omega | (simp_all; done)) (by first | exact hk5 | exact fun k h => by simp [auP, h, hk5 k h]) (by omega) (by rw [sI_s hj.1, hal5]; first | (rw [if_neg h_82]; omega) | (rw [if_pos h_82, cnR_y h_82, if_pos h_87]; omega) | (rw [if_pos h_82, hcn_]; omega)) (fun a h0 h1 h2 h3 => by by_cases e_ : a = j; (subst e_; first | (exact hct5 a h0 h1 (by omega) h3) | (exact absurd (by rw [h_82, upI_s]; exact h_87) h3) | (rw [hcn_]; simp only [auP, upI, if_true]; split <;> omega)); (have h9 := hct5 a h0 h1 (by omega) h3; first | exact h9 | (simp only [auP, upI, e_, if_true, if_false]; exact h9))) (by omega) _ _ hP hD hS ls (lv_sub hl [3, 1, 4, 5, 0] rfl)
                      · refine lv_sipush (v := iI (400)) hx hb zd_X_findCounts_134 (by decide) ?_
                        refine lv_goto (tgt := 143) hx hb zd_X_findCounts_137 (by decide) ?_
                        refine x_iast hx hb hK.1 hP hD hS 44 0 ga_44 rfl (by decide) (by omega) (by omega) zd_X_findCounts_143 (fun H locs hP hD hS => ?_)
                        rw [gs_44] at hP hD
                        refine lv_iinc (v := iI (j + 1)) (lv' := [(5, .int (iI (j + 1))), (1, .long (lI (al5 + ((z_47 * (A 42 j)).tdiv (A 43 j))))), (6, .long (lI ((z_47 * (A 42 j)).tdiv (A 43 j)))), (0, .ref (q 5)), (3, .int (iI (i3))), (4, .int (iI (z_47)))]) hx hb zd_X_findCounts_144 hl (k := 5) rfl (iI_add _ _) (by decide) rfl (fun ls hl => ?_)
                        refine lv_goto (tgt := 65) hx hb zd_X_findCounts_147 (by decide) ?_
                        exact ih_65 (al5 + ((z_47 * (A 42 j)).tdiv (A 43 j))) (j + 1)  (auP A65 44 j 400) (by first | assumption | omega | (simp_all; done)) (by first | exact hk5 | exact fun k h => by simp [auP, h, hk5 k h]) (by omega) (by rw [sI_s hj.1, hal5]; first | (rw [if_neg h_82]; omega) | (rw [if_pos h_82, cnR_y h_82, if_pos h_87]; omega) | (rw [if_pos h_82, hcn_]; omega)) (fun a h0 h1 h2 h3 => by by_cases e_ : a = j; (subst e_; first | (exact hct5 a h0 h1 (by omega) h3) | (exact absurd (by rw [h_82, upI_s]; exact h_87) h3) | (rw [hcn_]; simp only [auP, upI, if_true]; split <;> omega)); (have h9 := hct5 a h0 h1 (by omega) h3; first | exact h9 | (simp only [auP, upI, e_, if_true, if_false]; exact h9))) (by omega) _ _ hP hD hS ls (lv_sub hl [3, 1, 4, 5, 0] rfl)
                    · refine lv_goto (tgt := 144) hx hb zd_X_findCounts_90 (by decide) ?_
                      refine lv_iinc (v := iI (j + 1)) (lv' := [(5, .int (iI (j + 1))), (0, .ref (q 5)), (1, .long (lI (al5))), (3, .int (iI (i3))), (4, .int (iI (z_47)))]) hx hb zd_X_findCounts_144 hl (k := 4) rfl (iI_add _ _) (by decide) rfl (fun ls hl => ?_)
                      refine lv_goto (tgt := 65) hx hb zd_X_findCounts_147 (by decide) ?_
                      exact ih_65 (al5) (j + 1)  A65 (by first | assumption | omega | (simp_all; done)) (by first | exact hk5 | exact fun k h => by simp [auP, h, hk5 k h]) (by omega) (by rw [sI_s hj.1, hal5]; first | (rw [if_neg h_82]; omega) | (rw [if_pos h_82, cnR_y h_82, if_pos h_87]; omega) | (rw [if_pos h_82, hcn_]; omega)) (fun a h0 h1 h2 h3 => by by_cases e_ : a = j; (subst e_; first | (exact hct5 a h0 h1 (by omega) h3) | (exact absurd (by rw [h_82, upI_s]; exact h_87) h3) | (rw [hcn_]; simp only [auP, upI, if_true]; split <;> omega)); (have h9 := hct5 a h0 h1 (by omega) h3; first | exact h9 | (simp only [auP, upI, e_, if_true, if_false]; exact h9))) (by omega) _ _ hP hD hS ls (lv_sub hl [1, 2, 3, 4, 0] rfl)
            exact L_65 (((F 501 - (0) : Int) + 1).toNat) (al) (0)  A14 (by first | assumption | omega | (simp_all; done)) (hk4) (by omega) (by rw [sI_0]; omega) (fun a h0 h1 h2 h3 => by have h4 : A 41 a < i3 := (by omega); rw [cnR_n (by omega)]; rw [upI_n (by omega)] at h3; exact hE.2.2.2 a h0 h1 h4 h3) (by omega) _ _ hP hD hS ls (lv_sub hl [2, 3, 4, 1, 0] rfl)
        · refine lv_goto (tgt := 150) hx hb zd_X_findCounts_32 (by decide) ?_
          refine lv_iinc (v := iI (i3 + 1)) (lv' := [(3, .int (iI (i3 + 1))), (0, .ref (q 5)), (1, .long (lI (al)))]) hx hb zd_X_findCounts_150 hl (k := 2) rfl (iI_add _ _) (by decide) rfl (fun ls hl => ?_)
          refine lv_goto (tgt := 14) hx hb zd_X_findCounts_153 (by decide) ?_
          exact ih_14 (al) (i3 + 1)  F14 A14 (by first | assumption | omega | (simp_all; done)) (fun j h1 h2 => by simp [fuP, h1, h2, hF4 j h1 h2]) (by first | exact hk5 | exact hk4) (by rw [sI_s hi.1, ← h512]; first | (rw [if_neg h_29]; omega) | (rw [if_pos h_29]; rfl)) (by first | omega | (simp [fuP]; omega)) (by first | exact h511 | exact Or.inr rfl) (by omega) (by first | exact ⟨rr, fc_skip hE h_29 hrts⟩ | exact ⟨upI rr i3 z_47, fc_next hE hi.1 h_29 hq_47 ⟨fun h => by first | rfl | exact absurd h_54 h, fun h => by first | rfl | exact absurd h h_54⟩ (by rw [hal5, show j = F 501 by omega]) (fun a h0 h1 h2 => hct5 a h0 h1 (by omega))⟩) (by omega) _ _ hP hD hS ls (lv_sub hl [1, 2, 0] rfl)
  exact L_14 (((F 501 - (0) : Int) + 1).toNat) (0) (0)  (fuP (fuP F 511 0) 512 0) A (by first | assumption | omega | (simp_all; done)) (fun j h1 h2 => by simp [fuP, h1, h2]) (fun k _ => rfl) (rfl) (by simp [fuP]) (Or.inl rfl) (by first | assumption | omega | (simp_all; done)) (⟨fun _ => 0, fun x h0 h1 => by omega, ⟨fun h => by have h9 : (0 : Int) = 1 := h; omega, fun ⟨x, h0, h1, _⟩ => by omega⟩, (sI_zero (fun a h0 h1 => by rw [if_neg (by have := hpp a h0 h1; omega)])).symm, fun a h0 h1 h2 => by have := hpp a h0 h1; omega⟩) (by omega) _ _ hP hD hS ls (lv_sub hl [2, 1, 0] rfl)
