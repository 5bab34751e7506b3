/-! Parts and balances -/
def conn (m : Int) (fr to : Int → Int) (a b : Int) : Prop := ∀ S : Int → Prop, (∀ k, 0 ≤ k → k < m → (S (fr k) ↔ S (to k))) → (S a ↔ S b)
def sol (m : Int) (fr to pu tk K : Int → Int) : Prop := ∀ k, 0 ≤ k → k < m → K (fr k) * pu k = K (to k) * tk k
def asg (p : Int → Int) (n : Int) : Int := sI (fun x => if p x = -1 then 0 else 1) n
def bd (p : Int → Int) (n : Int) : Int := 9 ^ (asg p n).toNat
theorem sI_up {f : Int → Int} {b y n : Int} (hb : 0 ≤ b) (hn : b < n) : sI (upI f b y) n = sI f n + (y - f b) := by
  have key : ∀ j : Nat, sumN (upI f b y) j = sumN f j + (if b < (j : Int) then y - f b else 0) := by
    intro j
    induction j with
    | zero => simp only [sumN]; rw [if_neg (by omega)]; rfl
    | succ j ih =>
      simp only [sumN]
      rw [ih]
      by_cases e : (j : Int) = b
      · rw [e, upI_s, if_neg (by omega), if_pos (by omega)]; omega
      · rw [upI_n e]
        by_cases c : b < (j : Int)
        · rw [if_pos c, if_pos (by omega)]; omega
        · rw [if_neg c, if_neg (by omega)]; omega
  have := key n.toNat
  rw [if_pos (by omega)] at this
  exact this
theorem asg_up {p : Int → Int} {b v n : Int} (hb : 0 ≤ b) (hn : b < n) (hp : p b = -1) (hv : v ≠ -1) : asg (upI p b v) n = asg p n + 1 := by
  unfold asg
  have e : (fun x => if upI p b v x = -1 then (0 : Int) else 1) = upI (fun x => if p x = -1 then (0 : Int) else 1) b 1 := by
    funext x
    unfold upI
    by_cases h : x = b
    · subst h; simp [hv]
    · simp [h]
  rw [e, sI_up hb hn]
  simp [hp]
theorem asg_b {p : Int → Int} {n : Int} (hn : 0 ≤ n) : 0 ≤ asg p n ∧ asg p n ≤ n := by
  unfold asg sI
  have key : ∀ j : Nat, 0 ≤ sumN (fun x => if p x = -1 then (0 : Int) else 1) j ∧ sumN (fun x => if p x = -1 then (0 : Int) else 1) j ≤ j := by
    intro j
    induction j with
    | zero => simp [sumN]
    | succ j ih =>
      simp only [sumN]
      split <;> omega
  have := key n.toNat
  omega
theorem bd_b {p : Int → Int} {n : Int} (hn : 0 ≤ n ∧ n ≤ 8) : 1 ≤ bd p n ∧ bd p n ≤ 43046721 := by
  have h := asg_b (p := p) hn.1
  unfold bd
  have h1 : (1 : Int) ≤ 9 ^ (asg p n).toNat := Int.pow_pos (by decide)
  have h2 := Nat.pow_le_pow_right (n := 9) (by decide) (show (asg p n).toNat ≤ 8 by omega)
  have h3 : (9 : Int) ^ (asg p n).toNat ≤ 9 ^ 8 := by exact_mod_cast h2
  have h4 : (9 : Int) ^ 8 = 43046721 := by decide
  omega
theorem bd_up {p : Int → Int} {b v n : Int} (hb : 0 ≤ b) (hn : b < n) (hp : p b = -1) (hv : v ≠ -1) : bd (upI p b v) n = bd p n * 9 := by
  unfold bd
  have h := asg_b (p := p) (n := n) (by omega)
  rw [asg_up hb hn hp hv, show (asg p n + 1).toNat = (asg p n).toNat + 1 by omega, Int.pow_succ]
/-- what the reference knows of an actor that it has reached -/
def fN (n m : Int) (fr to pu tk p ov un : Int → Int) (x : Int) : Prop := (0 ≤ p x ∧ p x ≤ x) ∧ conn m fr to x (p x) ∧ (1 ≤ ov x ∧ ov x ≤ bd p n) ∧ (1 ≤ un x ∧ un x ≤ bd p n) ∧ (∀ K : Int → Int, (∀ y, 0 ≤ y → y < n → 1 ≤ K y) → sol m fr to pu tk K → K x * un x = K (p x) * ov x) ∧ p (p x) = p x ∧ ov (p x) = 1 ∧ un (p x) = 1
def FI (n m r : Int) (fr to pu tk p ov un : Int → Int) : Prop :=
  (∀ x, 0 ≤ x → x < n → p x = -1 ∨ (p x ≤ r ∧ fN n m fr to pu tk p ov un x)) ∧ (∀ x, 0 ≤ x → x ≤ r → x < n → p x ≠ -1) ∧
  ∀ k, 0 ≤ k → k < m → (p (fr k) ≠ -1 → p (to k) ≠ -1 → p (fr k) = p (to k)) ∧ (p (fr k) = -1 → p (to k) ≠ -1 → p (to k) = r) ∧ (p (to k) = -1 → p (fr k) ≠ -1 → p (fr k) = r)
def FO (n m r : Int) (fr to pu tk p ov un : Int → Int) : Prop :=
  (∀ x, 0 ≤ x → x < n → p x = -1 ∨ (p x < r ∧ fN n m fr to pu tk p ov un x)) ∧ (∀ x, 0 ≤ x → x < r → x < n → p x ≠ -1) ∧ ∀ k, 0 ≤ k → k < m → p (fr k) = p (to k)
section FIS
variable {n m r : Int} {fr to pu tk p ov un : Int → Int}
theorem conn_edge {k : Int} (h0 : 0 ≤ k) (h1 : k < m) : conn m fr to (fr k) (to k) ∧ conn m fr to (to k) (fr k) := ⟨fun S h => h k h0 h1, fun S h => (h k h0 h1).symm⟩
theorem conn_tr {a b c : Int} (h1 : conn m fr to a b) (h2 : conn m fr to b c) : conn m fr to a c := fun S h => (h1 S h).trans (h2 S h)
/-- others stay when a new one is reached -/
theorem fN_keep {b v X Y x : Int} (hb : 0 ≤ b) (hbn : b < n) (hn : 0 ≤ n ∧ n ≤ 8) (hpb : p b = -1) (hv : v ≠ -1) (hx : x ≠ b) (hpx : p x ≠ b) (h : fN n m fr to pu tk p ov un x) : fN n m fr to pu tk (upI p b v) (upI ov b X) (upI un b Y) x := by
  obtain ⟨h1, h2, h3, h4, h5, h6, h7, h8⟩ := h
  have hbd := bd_b (p := p) hn
  unfold fN
  rw [upI_n hx, upI_n hx, upI_n hx, bd_up hb hbn hpb hv, upI_n hpx, upI_n hpx, upI_n hpx]
  exact ⟨h1, h2, by omega, by omega, h5, h6, h7, h8⟩
theorem FI_step {a b α β g : Int} (hn : 0 ≤ n ∧ n ≤ 8) (h : FI n m r fr to pu tk p ov un) (hr : 0 ≤ r) (ha : 0 ≤ a ∧ a < n) (hb : 0 ≤ b ∧ b < n) (hpa : p a ≠ -1) (hpb : p b = -1) (hpr : p a = r) (hc : conn m fr to b a) (hα : 1 ≤ α ∧ α ≤ 9) (hβ : 1 ≤ β ∧ β ≤ 9)
    (hK : ∀ K : Int → Int, sol m fr to pu tk K → K b * β = K a * α) (hg : g = gI (ov a * α) (un a * β)) : FI n m r fr to pu tk (upI p b (p a)) (upI ov b ((ov a * α).tdiv g)) (upI un b ((un a * β).tdiv g)) := by
  obtain ⟨h1, h2, h3⟩ := h
  have hbr : r < b := by
    refine Int.lt_of_not_ge (fun hc => h2 b hb.1 (by omega) hb.2 hpb)
  obtain ⟨-, n1, n2, n3, n4, n5, n6, n7, n8⟩ := (h1 a ha.1 ha.2).resolve_left hpa
  have hbd := bd_b (p := p) hn
  have m1 := mulb n3 hα
  have m2 := mulb n4 hβ
  have g1 := gI_pos (a := ov a * α) (b := un a * β) (by omega)
  have g2 : g ∣ ov a * α ∧ g ∣ un a * β := by
    rw [hg]; unfold gI
    refine ⟨?_, ?_⟩
    · have := Int.natCast_dvd_natCast.mpr (Nat.gcd_dvd_left (ov a * α).toNat (un a * β).toNat)
      rwa [show (((ov a * α).toNat : Nat) : Int) = ov a * α by omega] at this
    · have := Int.natCast_dvd_natCast.mpr (Nat.gcd_dvd_right (ov a * α).toNat (un a * β).toNat)
      rwa [show (((un a * β).toNat : Nat) : Int) = un a * β by omega] at this
  have g3 : 1 ≤ g := by rw [hg]; exact g1
  have q : ∀ x : Int, 1 ≤ x → g ∣ x → g * x.tdiv g = x ∧ 1 ≤ x.tdiv g ∧ x.tdiv g ≤ x := by
    intro x hx hd
    have e1 := Int.mul_tdiv_cancel' hd
    rw [Int.tdiv_eq_ediv_of_nonneg (by omega)] at e1 ⊢
    have e2 : 1 ≤ x / g := by
      refine Int.le_of_not_gt (fun hc => ?_)
      have : g * (x / g) ≤ g * 0 := Int.mul_le_mul_of_nonneg_left (by omega) (by omega)
      omega
    refine ⟨e1, e2, ?_⟩
    have : 1 * (x / g) ≤ g * (x / g) := Int.mul_le_mul_of_nonneg_right g3 (by omega)
    omega
  obtain ⟨q1, q2, q3⟩ := q _ m1.1 g2.1
  obtain ⟨q4, q5, q6⟩ := q _ m2.1 g2.2
  have hab : a ≠ b := fun e => hpa (by rw [e]; exact hpb)
  have hrn : p r = r := by rw [← hpr]; exact n6
  have hrb : r ≠ b := by omega
  refine ⟨fun x x0 x1 => ?_, fun x x0 xr x1 => ?_, fun k k0 k1 => ?_⟩
  · by_cases e : x = b
    · subst e
      right
      refine ⟨by rw [upI_s]; omega, ?_⟩
      unfold fN
      rw [upI_s, upI_s, upI_s, bd_up hb.1 hb.2 hpb hpa, hpr, upI_n hrb, upI_n hrb, upI_n hrb]
      refine ⟨by omega, conn_tr hc (by rw [← hpr]; exact n2), by omega, by omega, fun K hK1 hK2 => ?_, hrn, by rw [← hpr]; exact n7, by rw [← hpr]; exact n8⟩
      have e1 := n5 K hK1 hK2
      have e2 := hK K hK2
      rw [hpr] at e1
      have e3 : g * (K x * (un a * β).tdiv g) = g * (K r * (ov a * α).tdiv g) := by
        have z1 : g * (K x * (un a * β).tdiv g) = K x * (g * (un a * β).tdiv g) := by rw [← Int.mul_assoc, Int.mul_comm g, Int.mul_assoc]
        have z2 : g * (K r * (ov a * α).tdiv g) = K r * (g * (ov a * α).tdiv g) := by rw [← Int.mul_assoc, Int.mul_comm g, Int.mul_assoc]
        rw [z1, z2, q1, q4]
        have z3 : K x * (un a * β) = (K x * β) * un a := by rw [Int.mul_comm (un a), ← Int.mul_assoc]
        have z4 : K r * (ov a * α) = (K a * un a) * α := by rw [e1, Int.mul_assoc]
        rw [z3, e2, z4, Int.mul_assoc, Int.mul_assoc, Int.mul_comm α]
      exact Int.eq_of_mul_eq_mul_left (by omega) e3
    · rw [upI_n e]
      rcases h1 x x0 x1 with hh | ⟨hh, hf⟩
      · exact Or.inl hh
      · refine Or.inr ⟨hh, fN_keep hb.1 hb.2 hn hpb hpa e (fun c => ?_) hf⟩
        have := hf.2.2.2.2.2.1
        rw [c, hpb] at this
        omega
  · by_cases e : x = b
    · subst e; omega
    · rw [upI_n e]; exact h2 x x0 xr x1
  · obtain ⟨c1, c2, c3⟩ := h3 k k0 k1
    by_cases e1 : fr k = b <;> by_cases e2 : to k = b
    · rw [e1, e2, upI_s]; exact ⟨fun _ _ => rfl, fun _ _ => hpr, fun _ _ => hpr⟩
    · rw [e1, upI_s, upI_n e2]
      rw [e1] at c2
      exact ⟨fun _ z => by rw [hpr]; exact (c2 hpb z).symm, fun z => absurd z hpa, fun _ _ => hpr⟩
    · rw [e2, upI_s, upI_n e1]
      rw [e2] at c3
      exact ⟨fun z _ => by rw [hpr]; exact c3 hpb z, fun _ _ => hpr, fun z => absurd z hpa⟩
    · rw [upI_n e1, upI_n e2]; exact ⟨c1, c2, c3⟩
theorem FO_root (hn : 0 ≤ n ∧ n ≤ 8) (h : FO n m r fr to pu tk p ov un) (hr : 0 ≤ r ∧ r < n) (hpr : p r = -1) : FI n m r fr to pu tk (upI p r r) (upI ov r 1) (upI un r 1) := by
  obtain ⟨h1, h2, h3⟩ := h
  have hbd := bd_b (p := p) hn
  refine ⟨fun x x0 x1 => ?_, fun x x0 xr x1 => ?_, fun k k0 k1 => ?_⟩
  · by_cases e : x = r
    · subst e
      right
      refine ⟨by rw [upI_s]; omega, ?_⟩
      unfold fN
      rw [upI_s, upI_s, upI_s, bd_up hr.1 hr.2 hpr (by omega)]
      exact ⟨by omega, fun S _ => Iff.rfl, by omega, by omega, fun K _ _ => rfl, by first | rfl | exact upI_s, by first | rfl | exact upI_s, by first | rfl | exact upI_s⟩
    · rw [upI_n e]
      rcases h1 x x0 x1 with hh | ⟨hh, hf⟩
      · exact Or.inl hh
      · exact Or.inr ⟨by omega, fN_keep hr.1 hr.2 hn hpr (by omega) e (by omega) hf⟩
  · by_cases e : x = r
    · rw [e, upI_s]; omega
    · rw [upI_n e]; exact h2 x x0 (by omega) x1
  · have c := h3 k k0 k1
    by_cases e1 : fr k = r <;> by_cases e2 : to k = r
    · rw [e1, e2, upI_s]; exact ⟨fun _ _ => rfl, fun _ _ => rfl, fun _ _ => rfl⟩
    · rw [e1, upI_s, upI_n e2]
      rw [e1, hpr] at c
      exact ⟨fun _ z => absurd c.symm z, fun z => absurd z (by omega), fun _ _ => rfl⟩
    · rw [e2, upI_s, upI_n e1]
      rw [e2, hpr] at c
      exact ⟨fun z _ => absurd c z, fun _ _ => rfl, fun z => absurd z (by omega)⟩
    · rw [upI_n e1, upI_n e2, c]; exact ⟨fun _ _ => rfl, fun a b => absurd a b, fun a b => absurd a b⟩
theorem FI_out (h : FI n m r fr to pu tk p ov un) (hc : ∀ k, 0 ≤ k → k < m → (p (fr k) = -1 ↔ p (to k) = -1)) : FO n m (r + 1) fr to pu tk p ov un := by
  obtain ⟨h1, h2, h3⟩ := h
  refine ⟨fun x x0 x1 => ?_, fun x x0 xr x1 => h2 x x0 (by omega) x1, fun k k0 k1 => ?_⟩
  · rcases h1 x x0 x1 with hh | ⟨hh, hf⟩
    · exact Or.inl hh
    · exact Or.inr ⟨by omega, hf⟩
  · by_cases e : p (fr k) = -1
    · rw [e, (hc k k0 k1).mp e]
    · exact (h3 k k0 k1).1 e (fun z => e ((hc k k0 k1).mpr z))
theorem FO_next (h : FO n m r fr to pu tk p ov un) (hp : p r ≠ -1) : FO n m (r + 1) fr to pu tk p ov un := by
  obtain ⟨h1, h2, h3⟩ := h
  refine ⟨fun x x0 x1 => ?_, fun x x0 xr x1 => ?_, h3⟩
  · rcases h1 x x0 x1 with hh | ⟨hh, hf⟩
    · exact Or.inl hh
    · exact Or.inr ⟨by omega, hf⟩
  · by_cases e : x = r
    · subst e; exact hp
    · exact h2 x x0 (by omega) x1
end FIS
abbrev zr_X_reach : Room := ({ frames := 2, cells := 0, slots := 0, locals := 56 } : Room)
set_option maxHeartbeats 4000000 in
set_option maxRecDepth 100000 in
theorem c_X_reach (l : Launch) (D : va_G) (q : Nat → Nat) (c : Nat → ClassId) (sz : Nat) (F : Nat → Int) (A : Nat → Int → Int) (k : Int) (hmn : 1 ≤ F 501 ∧ F 501 ≤ 8) (hmm : 0 ≤ F 502 ∧ F 502 ≤ 14) (hmch : ∀ k, 0 ≤ k → k < F 502 → (0 ≤ A 36 k ∧ A 36 k < F 501) ∧ (0 ≤ A 37 k ∧ A 37 k < F 501) ∧ (1 ≤ A 38 k ∧ A 38 k ≤ 9) ∧ (1 ≤ A 39 k ∧ A 39 k ≤ 9) ∧ 0 ≤ A 40 k ∧ A 40 k ≤ 99) (hob : ∀ x, 0 ≤ x → x < F 501 → A 41 x ≠ -1 → (1 ≤ A 42 x ∧ A 42 x ≤ 43046721) ∧ 1 ≤ A 43 x ∧ A 43 x ≤ 43046721) (hpb : ∀ x, 0 ≤ x → x < F 501 → -1 ≤ A 41 x ∧ A 41 x < 8) (hk0 : 0 ≤ k ∧ k < F 502) : zMI l zy_X_reach zc_X_reach 4 (some .boolean) zr_X_reach D q c sz [.ref (q 5), .int (iI (k))] F A (fun z F1 A1 => F1 = F ∧ (z = 0 ∨ z = 1) ∧ (z = 0 → A1 = A ∧ (A 41 (A 36 k) = -1 ↔ A 41 (A 37 k) = -1)) ∧ (z = 1 → (A 41 (A 36 k) ≠ -1 ∧ A 41 (A 37 k) = -1 ∧ A1 = auP (auP (auP A 42 (A 37 k) ((A 42 (A 36 k) * A 38 k).tdiv (gI (A 42 (A 36 k) * A 38 k) (A 43 (A 36 k) * A 39 k)))) 43 (A 37 k) ((A 43 (A 36 k) * A 39 k).tdiv (gI (A 42 (A 36 k) * A 38 k) (A 43 (A 36 k) * A 39 k)))) 41 (A 37 k) (A 41 (A 36 k))) ∨ (A 41 (A 36 k) = -1 ∧ A 41 (A 37 k) ≠ -1 ∧ A1 = auP (auP (auP A 42 (A 36 k) ((A 42 (A 37 k) * A 39 k).tdiv (gI (A 42 (A 37 k) * A 39 k) (A 43 (A 37 k) * A 38 k)))) 43 (A 36 k) ((A 43 (A 37 k) * A 38 k).tdiv (gI (A 42 (A 37 k) * A 39 k) (A 43 (A 37 k) * A 38 k)))) 41 (A 36 k) (A 41 (A 37 k))))) := by
  refine z_ofB (by decide) (Nat.le_of_ble_eq_true rfl) ?_
  intro p e s m args below meth c0 A0 Q C0 ret hP hD hS ls hl
  obtain ⟨S, hK, hA⟩ := C0
  have hx := S.1
  have hb := S.2.1
  have hown := S.2.2.2.1
  have hts : ∀ w ∈ zG, w.before args s = true := fun w h => S.2.2.2.2 w (List.mem_cons_of_mem _ h)
  have hl : lv_has ls 4 [(0, .ref (q 5)), (1, .int (iI (k)))] := hl
  have hc_ := hmch k hk0.1 hk0.2
  have hp1_ := hpb (A 36 k) (by omega) (by omega)
  have hp2_ := hpb (A 37 k) (by omega) (by omega)
  refine lv_aload_n hx hb zd_X_reach_0 rfl (lv_at hl 0 rfl) ?_
  refine va_get (D := D) (ci := 5) (v := .ref (q 36)) (C := zR_X) (T := zT_X) (N := 34) hx hb hts zi_X hown hK.1 hP 5 ga_5 rfl 4 (by decide) (hts _ zw_537) (fun _ h9 => h9) rfl zd_X_reach_1 ?_
  refine lv_iload_n hx hb zd_X_reach_4 rfl (lv_at hl 1 rfl) ?_
  refine x_iald (v := A 36 k) hx hb hK.1 hP 36 0 ga_36 rfl (by decide) (by omega) (by omega) (rfl) zd_X_reach_5 ?_
  refine lv_istore_n (lv' := [(2, .int (iI (A 36 k))), (0, .ref (q 5)), (1, .int (iI (k)))]) hx hb zd_X_reach_6 rfl hl (by decide) rfl (fun ls hl => ?_)
  refine lv_aload_n hx hb zd_X_reach_7 rfl (lv_at hl 1 rfl) ?_
  refine va_get (D := D) (ci := 5) (v := .ref (q 37)) (C := zR_X) (T := zT_X) (N := 34) hx hb hts zi_X hown hK.1 hP 5 ga_5 rfl 5 (by decide) (hts _ zw_538) (fun _ h9 => h9) rfl zd_X_reach_8 ?_
  refine lv_iload_n hx hb zd_X_reach_11 rfl (lv_at hl 2 rfl) ?_
  refine x_iald (v := A 37 k) hx hb hK.1 hP 37 0 ga_37 rfl (by decide) (by omega) (by omega) (rfl) zd_X_reach_12 ?_
  refine lv_istore_n (lv' := [(3, .int (iI (A 37 k))), (2, .int (iI (A 36 k))), (0, .ref (q 5)), (1, .int (iI (k)))]) hx hb zd_X_reach_13 rfl hl (by decide) rfl (fun ls hl => ?_)
  refine lv_aload_n hx hb zd_X_reach_14 rfl (lv_at hl 2 rfl) ?_
  refine va_get (D := D) (ci := 5) (v := .ref (q 41)) (C := zR_X) (T := zT_X) (N := 34) hx hb hts zi_X hown hK.1 hP 5 ga_5 rfl 13 (by decide) (hts _ zw_546) (fun _ h9 => h9) rfl zd_X_reach_15 ?_
  refine lv_iload_n hx hb zd_X_reach_18 rfl (lv_at hl 1 rfl) ?_
  refine x_iald (v := A 41 (A 36 k)) hx hb hK.1 hP 41 0 ga_41 rfl (by decide) (by omega) (by omega) (rfl) zd_X_reach_19 ?_
  refine lv_iconst (v := iI (-1)) hx hb zd_X_reach_20 rfl ?_
  refine x_icmp_ne (tgt := 28) hx hb zd_X_reach_21 (by decide) (⟨by omega, by omega⟩) (⟨by omega, by omega⟩) (fun h_21 => ?_) (fun h_21 => ?_)
  · refine lv_iconst (v := iI (0)) hx hb zd_X_reach_28 rfl ?_
    refine lv_aload_n hx hb zd_X_reach_29 rfl (lv_at hl 2 rfl) ?_
    refine va_get (D := D) (ci := 5) (v := .ref (q 41)) (C := zR_X) (T := zT_X) (N := 34) hx hb hts zi_X hown hK.1 hP 5 ga_5 rfl 13 (by decide) (hts _ zw_546) (fun _ h9 => h9) rfl zd_X_reach_30 ?_
    refine lv_iload_n hx hb zd_X_reach_33 rfl (lv_at hl 0 rfl) ?_
    refine x_iald (v := A 41 (A 37 k)) hx hb hK.1 hP 41 0 ga_41 rfl (by decide) (by omega) (by omega) (rfl) zd_X_reach_34 ?_
    refine lv_iconst (v := iI (-1)) hx hb zd_X_reach_35 rfl ?_
    refine x_icmp_ne (tgt := 43) hx hb zd_X_reach_36 (by decide) (⟨by omega, by omega⟩) (⟨by omega, by omega⟩) (fun h_36 => ?_) (fun h_36 => ?_)
    · refine lv_iconst (v := iI (0)) hx hb zd_X_reach_43 rfl ?_
      refine x_icmp_ne (tgt := 49) hx hb zd_X_reach_44 (by decide) (⟨by omega, by omega⟩) (⟨by omega, by omega⟩) (fun h_44 => ?_) (fun h_44 => ?_)
      · refine lv_aload_n hx hb zd_X_reach_49 rfl (lv_at hl 2 rfl) ?_
        refine va_get (D := D) (ci := 5) (v := .ref (q 41)) (C := zR_X) (T := zT_X) (N := 34) hx hb hts zi_X hown hK.1 hP 5 ga_5 rfl 13 (by decide) (hts _ zw_546) (fun _ h9 => h9) rfl zd_X_reach_50 ?_
        refine lv_iload_n hx hb zd_X_reach_53 rfl (lv_at hl 0 rfl) ?_
        refine x_iald (v := A 41 (A 37 k)) hx hb hK.1 hP 41 0 ga_41 rfl (by decide) (by omega) (by omega) (rfl) zd_X_reach_54 ?_
        refine lv_iconst (v := iI (-1)) hx hb zd_X_reach_55 rfl ?_
        refine x_icmp_ne (tgt := 107) hx hb zd_X_reach_56 (by decide) (⟨by omega, by omega⟩) (⟨by omega, by omega⟩) (fun h_56 => ?_) (fun h_56 => ?_)
        · have ho_ := hob (A 37 k) (by omega) (by omega) (by omega)
          have m1_ := mulb ho_.1 hc_.2.2.2.1
          have m2_ := mulb ho_.2 hc_.2.2.1
          refine lv_aload_n hx hb zd_X_reach_107 rfl (lv_at hl 2 rfl) ?_
          refine lv_iload_n hx hb zd_X_reach_108 rfl (lv_at hl 1 rfl) ?_
          refine lv_aload_n hx hb zd_X_reach_109 rfl (lv_at hl 2 rfl) ?_
          refine va_get (D := D) (ci := 5) (v := .ref (q 42)) (C := zR_X) (T := zT_X) (N := 34) hx hb hts zi_X hown hK.1 hP 5 ga_5 rfl 14 (by decide) (hts _ zw_547) (fun _ h9 => h9) rfl zd_X_reach_110 ?_
          refine lv_iload_n hx hb zd_X_reach_113 rfl (lv_at hl 0 rfl) ?_
          refine x_lald (v := A 42 (A 37 k)) hx hb hK.1 hP 42 1 ga_42 rfl (by decide) (by omega) (by omega) (rfl) zd_X_reach_114 ?_
          refine lv_aload_n hx hb zd_X_reach_115 rfl (lv_at hl 2 rfl) ?_
          refine va_get (D := D) (ci := 5) (v := .ref (q 39)) (C := zR_X) (T := zT_X) (N := 34) hx hb hts zi_X hown hK.1 hP 5 ga_5 rfl 7 (by decide) (hts _ zw_540) (fun _ h9 => h9) rfl zd_X_reach_116 ?_
          refine lv_iload_n hx hb zd_X_reach_119 rfl (lv_at hl 3 rfl) ?_
          refine x_iald (v := A 39 k) hx hb hK.1 hP 39 0 ga_39 rfl (by decide) (by omega) (by omega) (rfl) zd_X_reach_120 ?_
          refine x_i2l hx hb zd_X_reach_121 (⟨by omega, by omega⟩) ?_
          refine x_lmul hx hb zd_X_reach_122 ?_
          refine lv_aload_n hx hb zd_X_reach_123 rfl (lv_at hl 2 rfl) ?_
          refine va_get (D := D) (ci := 5) (v := .ref (q 43)) (C := zR_X) (T := zT_X) (N := 34) hx hb hts zi_X hown hK.1 hP 5 ga_5 rfl 15 (by decide) (hts _ zw_548) (fun _ h9 => h9) rfl zd_X_reach_124 ?_
          refine lv_iload_n hx hb zd_X_reach_127 rfl (lv_at hl 0 rfl) ?_
          refine x_lald (v := A 43 (A 37 k)) hx hb hK.1 hP 43 1 ga_43 rfl (by decide) (by omega) (by omega) (rfl) zd_X_reach_128 ?_
          refine lv_aload_n hx hb zd_X_reach_129 rfl (lv_at hl 2 rfl) ?_
          refine va_get (D := D) (ci := 5) (v := .ref (q 38)) (C := zR_X) (T := zT_X) (N := 34) hx hb hts zi_X hown hK.1 hP 5 ga_5 rfl 6 (by decide) (hts _ zw_539) (fun _ h9 => h9) rfl zd_X_reach_130 ?_
          refine lv_iload_n hx hb zd_X_reach_133 rfl (lv_at hl 3 rfl) ?_
          refine x_iald (v := A 38 k) hx hb hK.1 hP 38 0 ga_38 rfl (by decide) (by omega) (by omega) (rfl) zd_X_reach_134 ?_
          refine x_i2l hx hb zd_X_reach_135 (⟨by omega, by omega⟩) ?_
          refine x_lmul hx hb zd_X_reach_136 ?_
          refine z_gov (z_runV (n := 3) (k := 5) (ci := 5) (As := [.int (iI (A 36 k)), .long (lI ((A 42 (A 37 k)) * (A 39 k))), .long (lI ((A 43 (A 37 k)) * (A 38 k)))]) (rest := []) S (c_X_set l D q c _ F A (A 36 k) ((A 42 (A 37 k)) * (A 39 k)) ((A 43 (A 37 k)) * (A 38 k)) (by first | assumption | omega | exact ⟨by omega, by omega⟩) (by first | assumption | omega | exact ⟨by omega, by omega⟩) (by first | assumption | omega | exact ⟨by omega, by omega⟩)) zw_669 zw_671 zs_39 zw_6 zw_672 ⟨by decide +kernel, by decide, rfl, rfl⟩ hK hP hD ga_5 rfl rfl rfl hl.1 rfl (Nat.le_of_ble_eq_true rfl) zd_X_reach_137 ⟨Nat.zero_le _, Nat.zero_le _⟩) hD hS hA (fun F_137 A_137 H locs hq_137 hP hD hS => ?_)
          obtain ⟨hf_137, ha_137⟩ := hq_137
          rw [hf_137, ha_137] at hP hD
          refine lv_aload_n hx hb zd_X_reach_140 rfl (lv_at hl 2 rfl) ?_
          refine va_get (D := D) (ci := 5) (v := .ref (q 41)) (C := zR_X) (T := zT_X) (N := 34) hx hb hts zi_X hown hK.1 hP 5 ga_5 rfl 13 (by decide) (hts _ zw_546) (fun _ h9 => h9) rfl zd_X_reach_141 ?_
          refine lv_iload_n hx hb zd_X_reach_144 rfl (lv_at hl 1 rfl) ?_
          refine lv_aload_n hx hb zd_X_reach_145 rfl (lv_at hl 2 rfl) ?_
          refine va_get (D := D) (ci := 5) (v := .ref (q 41)) (C := zR_X) (T := zT_X) (N := 34) hx hb hts zi_X hown hK.1 hP 5 ga_5 rfl 13 (by decide) (hts _ zw_546) (fun _ h9 => h9) rfl zd_X_reach_146 ?_
          refine lv_iload_n hx hb zd_X_reach_149 rfl (lv_at hl 0 rfl) ?_
          refine x_iald (v := A 41 (A 37 k)) hx hb hK.1 hP 41 0 ga_41 rfl (by decide) (by omega) (by omega) (rfl) zd_X_reach_150 ?_
          refine x_iast hx hb hK.1 hP hD hS 41 0 ga_41 rfl (by decide) (by omega) (by omega) zd_X_reach_151 (fun H locs hP hD hS => ?_)
          rw [gs_41] at hP hD
          refine lv_iconst (v := iI (1)) hx hb zd_X_reach_152 rfl ?_
          exact ret _ _ _ _ _ _ _ zd_X_reach_153 hP hD hS (by omega) (by first | exact ⟨rfl, by omega, fun h => absurd h (by omega), fun _ => Or.inl ⟨by omega, by omega, rfl⟩⟩ | exact ⟨rfl, by omega, fun h => absurd h (by omega), fun _ => Or.inr ⟨by omega, by omega, rfl⟩⟩)
        · have ho_ := hob (A 36 k) (by omega) (by omega) (by omega)
          have m1_ := mulb ho_.1 hc_.2.2.1
          have m2_ := mulb ho_.2 hc_.2.2.2.1
          refine lv_aload_n hx hb zd_X_reach_59 rfl (lv_at hl 2 rfl) ?_
          refine lv_iload_n hx hb zd_X_reach_60 rfl (lv_at hl 0 rfl) ?_
          refine lv_aload_n hx hb zd_X_reach_61 rfl (lv_at hl 2 rfl) ?_
          refine va_get (D := D) (ci := 5) (v := .ref (q 42)) (C := zR_X) (T := zT_X) (N := 34) hx hb hts zi_X hown hK.1 hP 5 ga_5 rfl 14 (by decide) (hts _ zw_547) (fun _ h9 => h9) rfl zd_X_reach_62 ?_
          refine lv_iload_n hx hb zd_X_reach_65 rfl (lv_at hl 1 rfl) ?_
          refine x_lald (v := A 42 (A 36 k)) hx hb hK.1 hP 42 1 ga_42 rfl (by decide) (by omega) (by omega) (rfl) zd_X_reach_66 ?_
          refine lv_aload_n hx hb zd_X_reach_67 rfl (lv_at hl 2 rfl) ?_
          refine va_get (D := D) (ci := 5) (v := .ref (q 38)) (C := zR_X) (T := zT_X) (N := 34) hx hb hts zi_X hown hK.1 hP 5 ga_5 rfl 6 (by decide) (hts _ zw_539) (fun _ h9 => h9) rfl zd_X_reach_68 ?_
          refine lv_iload_n hx hb zd_X_reach_71 rfl (lv_at hl 3 rfl) ?_
          refine x_iald (v := A 38 k) hx hb hK.1 hP 38 0 ga_38 rfl (by decide) (by omega) (by omega) (rfl) zd_X_reach_72 ?_
          refine x_i2l hx hb zd_X_reach_73 (⟨by omega, by omega⟩) ?_
          refine x_lmul hx hb zd_X_reach_74 ?_
          refine lv_aload_n hx hb zd_X_reach_75 rfl (lv_at hl 2 rfl) ?_
          refine va_get (D := D) (ci := 5) (v := .ref (q 43)) (C := zR_X) (T := zT_X) (N := 34) hx hb hts zi_X hown hK.1 hP 5 ga_5 rfl 15 (by decide) (hts _ zw_548) (fun _ h9 => h9) rfl zd_X_reach_76 ?_
          refine lv_iload_n hx hb zd_X_reach_79 rfl (lv_at hl 1 rfl) ?_
          refine x_lald (v := A 43 (A 36 k)) hx hb hK.1 hP 43 1 ga_43 rfl (by decide) (by omega) (by omega) (rfl) zd_X_reach_80 ?_
          refine lv_aload_n hx hb zd_X_reach_81 rfl (lv_at hl 2 rfl) ?_
          refine va_get (D := D) (ci := 5) (v := .ref (q 39)) (C := zR_X) (T := zT_X) (N := 34) hx hb hts zi_X hown hK.1 hP 5 ga_5 rfl 7 (by decide) (hts _ zw_540) (fun _ h9 => h9) rfl zd_X_reach_82 ?_
          refine lv_iload_n hx hb zd_X_reach_85 rfl (lv_at hl 3 rfl) ?_
          refine x_iald (v := A 39 k) hx hb hK.1 hP 39 0 ga_39 rfl (by decide) (by omega) (by omega) (rfl) zd_X_reach_86 ?_
          refine x_i2l hx hb zd_X_reach_87 (⟨by omega, by omega⟩) ?_
          refine x_lmul hx hb zd_X_reach_88 ?_
          refine z_gov (z_runV (n := 3) (k := 5) (ci := 5) (As := [.int (iI (A 37 k)), .long (lI ((A 42 (A 36 k)) * (A 38 k))), .long (lI ((A 43 (A 36 k)) * (A 39 k)))]) (rest := []) S (c_X_set l D q c _ F A (A 37 k) ((A 42 (A 36 k)) * (A 38 k)) ((A 43 (A 36 k)) * (A 39 k)) (by first | assumption | omega | exact ⟨by omega, by omega⟩) (by first | assumption | omega | exact ⟨by omega, by omega⟩) (by first | assumption | omega | exact ⟨by omega, by omega⟩)) zw_669 zw_671 zs_39 zw_6 zw_672 ⟨by decide +kernel, by decide, rfl, rfl⟩ hK hP hD ga_5 rfl rfl rfl hl.1 rfl (Nat.le_of_ble_eq_true rfl) zd_X_reach_89 ⟨Nat.zero_le _, Nat.zero_le _⟩) hD hS hA (fun F_89 A_89 H locs hq_89 hP hD hS => ?_)
          obtain ⟨hf_89, ha_89⟩ := hq_89
          rw [hf_89, ha_89] at hP hD
          refine lv_aload_n hx hb zd_X_reach_92 rfl (lv_at hl 2 rfl) ?_
          refine va_get (D := D) (ci := 5) (v := .ref (q 41)) (C := zR_X) (T := zT_X) (N := 34) hx hb hts zi_X hown hK.1 hP 5 ga_5 rfl 13 (by decide) (hts _ zw_546) (fun _ h9 => h9) rfl zd_X_reach_93 ?_
          refine lv_iload_n hx hb zd_X_reach_96 rfl (lv_at hl 0 rfl) ?_
          refine lv_aload_n hx hb zd_X_reach_97 rfl (lv_at hl 2 rfl) ?_
          refine va_get (D := D) (ci := 5) (v := .ref (q 41)) (C := zR_X) (T := zT_X) (N := 34) hx hb hts zi_X hown hK.1 hP 5 ga_5 rfl 13 (by decide) (hts _ zw_546) (fun _ h9 => h9) rfl zd_X_reach_98 ?_
          refine lv_iload_n hx hb zd_X_reach_101 rfl (lv_at hl 1 rfl) ?_
          refine x_iald (v := A 41 (A 36 k)) hx hb hK.1 hP 41 0 ga_41 rfl (by decide) (by omega) (by omega) (rfl) zd_X_reach_102 ?_
          refine x_iast hx hb hK.1 hP hD hS 41 0 ga_41 rfl (by decide) (by omega) (by omega) zd_X_reach_103 (fun H locs hP hD hS => ?_)
          rw [gs_41] at hP hD
          refine lv_goto (tgt := 152) hx hb zd_X_reach_104 (by decide) ?_
          refine lv_iconst (v := iI (1)) hx hb zd_X_reach_152 rfl ?_
          exact ret _ _ _ _ _ _ _ zd_X_reach_153 hP hD hS (by omega) (by first | exact ⟨rfl, by omega, fun h => absurd h (by omega), fun _ => Or.inl ⟨by omega, by omega, rfl⟩⟩ | exact ⟨rfl, by omega, fun h => absurd h (by omega), fun _ => Or.inr ⟨by omega, by omega, rfl⟩⟩)
      · refine lv_iconst (v := iI (0)) hx hb zd_X_reach_47 rfl ?_
        exact ret _ _ _ _ _ _ _ zd_X_reach_48 hP hD hS (by omega) (⟨rfl, by omega, fun _ => ⟨rfl, by constructor <;> intro _ <;> omega⟩, fun h => by omega⟩)
    · refine lv_iconst (v := iI (1)) hx hb zd_X_reach_39 rfl ?_
      refine lv_goto (tgt := 44) hx hb zd_X_reach_40 (by decide) ?_
      refine x_icmp_ne (tgt := 49) hx hb zd_X_reach_44 (by decide) (⟨by omega, by omega⟩) (⟨by omega, by omega⟩) (fun h_44 => ?_) (fun h_44 => ?_)
      · refine lv_aload_n hx hb zd_X_reach_49 rfl (lv_at hl 2 rfl) ?_
        refine va_get (D := D) (ci := 5) (v := .ref (q 41)) (C := zR_X) (T := zT_X) (N := 34) hx hb hts zi_X hown hK.1 hP 5 ga_5 rfl 13 (by decide) (hts _ zw_546) (fun _ h9 => h9) rfl zd_X_reach_50 ?_
        refine lv_iload_n hx hb zd_X_reach_53 rfl (lv_at hl 0 rfl) ?_
        refine x_iald (v := A 41 (A 37 k)) hx hb hK.1 hP 41 0 ga_41 rfl (by decide) (by omega) (by omega) (rfl) zd_X_reach_54 ?_
        refine lv_iconst (v := iI (-1)) hx hb zd_X_reach_55 rfl ?_
        refine x_icmp_ne (tgt := 107) hx hb zd_X_reach_56 (by decide) (⟨by omega, by omega⟩) (⟨by omega, by omega⟩) (fun h_56 => ?_) (fun h_56 => ?_)
        · have ho_ := hob (A 37 k) (by omega) (by omega) (by omega)
          have m1_ := mulb ho_.1 hc_.2.2.2.1
          have m2_ := mulb ho_.2 hc_.2.2.1
          refine lv_aload_n hx hb zd_X_reach_107 rfl (lv_at hl 2 rfl) ?_
          refine lv_iload_n hx hb zd_X_reach_108 rfl (lv_at hl 1 rfl) ?_
          refine lv_aload_n hx hb zd_X_reach_109 rfl (lv_at hl 2 rfl) ?_
          refine va_get (D := D) (ci := 5) (v := .ref (q 42)) (C := zR_X) (T := zT_X) (N := 34) hx hb hts zi_X hown hK.1 hP 5 ga_5 rfl 14 (by decide) (hts _ zw_547) (fun _ h9 => h9) rfl zd_X_reach_110 ?_
          refine lv_iload_n hx hb zd_X_reach_113 rfl (lv_at hl 0 rfl) ?_
          refine x_lald (v := A 42 (A 37 k)) hx hb hK.1 hP 42 1 ga_42 rfl (by decide) (by omega) (by omega) (rfl) zd_X_reach_114 ?_
          refine lv_aload_n hx hb zd_X_reach_115 rfl (lv_at hl 2 rfl) ?_
          refine va_get (D := D) (ci := 5) (v := .ref (q 39)) (C := zR_X) (T := zT_X) (N := 34) hx hb hts zi_X hown hK.1 hP 5 ga_5 rfl 7 (by decide) (hts _ zw_540) (fun _ h9 => h9) rfl zd_X_reach_116 ?_
          refine lv_iload_n hx hb zd_X_reach_119 rfl (lv_at hl 3 rfl) ?_
          refine x_iald (v := A 39 k) hx hb hK.1 hP 39 0 ga_39 rfl (by decide) (by omega) (by omega) (rfl) zd_X_reach_120 ?_
          refine x_i2l hx hb zd_X_reach_121 (⟨by omega, by omega⟩) ?_
          refine x_lmul hx hb zd_X_reach_122 ?_
          refine lv_aload_n hx hb zd_X_reach_123 rfl (lv_at hl 2 rfl) ?_
          refine va_get (D := D) (ci := 5) (v := .ref (q 43)) (C := zR_X) (T := zT_X) (N := 34) hx hb hts zi_X hown hK.1 hP 5 ga_5 rfl 15 (by decide) (hts _ zw_548) (fun _ h9 => h9) rfl zd_X_reach_124 ?_
          refine lv_iload_n hx hb zd_X_reach_127 rfl (lv_at hl 0 rfl) ?_
          refine x_lald (v := A 43 (A 37 k)) hx hb hK.1 hP 43 1 ga_43 rfl (by decide) (by omega) (by omega) (rfl) zd_X_reach_128 ?_
          refine lv_aload_n hx hb zd_X_reach_129 rfl (lv_at hl 2 rfl) ?_
          refine va_get (D := D) (ci := 5) (v := .ref (q 38)) (C := zR_X) (T := zT_X) (N := 34) hx hb hts zi_X hown hK.1 hP 5 ga_5 rfl 6 (by decide) (hts _ zw_539) (fun _ h9 => h9) rfl zd_X_reach_130 ?_
          refine lv_iload_n hx hb zd_X_reach_133 rfl (lv_at hl 3 rfl) ?_
          refine x_iald (v := A 38 k) hx hb hK.1 hP 38 0 ga_38 rfl (by decide) (by omega) (by omega) (rfl) zd_X_reach_134 ?_
          refine x_i2l hx hb zd_X_reach_135 (⟨by omega, by omega⟩) ?_
          refine x_lmul hx hb zd_X_reach_136 ?_
          refine z_gov (z_runV (n := 3) (k := 5) (ci := 5) (As := [.int (iI (A 36 k)), .long (lI ((A 42 (A 37 k)) * (A 39 k))), .long (lI ((A 43 (A 37 k)) * (A 38 k)))]) (rest := []) S (c_X_set l D q c _ F A (A 36 k) ((A 42 (A 37 k)) * (A 39 k)) ((A 43 (A 37 k)) * (A 38 k)) (by first | assumption | omega | exact ⟨by omega, by omega⟩) (by first | assumption | omega | exact ⟨by omega, by omega⟩) (by first | assumption | omega | exact ⟨by omega, by omega⟩)) zw_669 zw_671 zs_39 zw_6 zw_672 ⟨by decide +kernel, by decide, rfl, rfl⟩ hK hP hD ga_5 rfl rfl rfl hl.1 rfl (Nat.le_of_ble_eq_true rfl) zd_X_reach_137 ⟨Nat.zero_le _, Nat.zero_le _⟩) hD hS hA (fun F_137 A_137 H locs hq_137 hP hD hS => ?_)
          obtain ⟨hf_137, ha_137⟩ := hq_137
          rw [hf_137, ha_137] at hP hD
          refine lv_aload_n hx hb zd_X_reach_140 rfl (lv_at hl 2 rfl) ?_
          refine va_get (D := D) (ci := 5) (v := .ref (q 41)) (C := zR_X) (T := zT_X) (N := 34) hx hb hts zi_X hown hK.1 hP 5 ga_5 rfl 13 (by decide) (hts _ zw_546) (fun _ h9 => h9) rfl zd_X_reach_141 ?_
          refine lv_iload_n hx hb zd_X_reach_144 rfl (lv_at hl 1 rfl) ?_
          refine lv_aload_n hx hb zd_X_reach_145 rfl (lv_at hl 2 rfl) ?_
          refine va_get (D := D) (ci := 5) (v := .ref (q 41)) (C := zR_X) (T := zT_X) (N := 34) hx hb hts zi_X hown hK.1 hP 5 ga_5 rfl 13 (by decide) (hts _ zw_546) (fun _ h9 => h9) rfl zd_X_reach_146 ?_
          refine lv_iload_n hx hb zd_X_reach_149 rfl (lv_at hl 0 rfl) ?_
          refine x_iald (v := A 41 (A 37 k)) hx hb hK.1 hP 41 0 ga_41 rfl (by decide) (by omega) (by omega) (rfl) zd_X_reach_150 ?_
          refine x_iast hx hb hK.1 hP hD hS 41 0 ga_41 rfl (by decide) (by omega) (by omega) zd_X_reach_151 (fun H locs hP hD hS => ?_)
          rw [gs_41] at hP hD
          refine lv_iconst (v := iI (1)) hx hb zd_X_reach_152 rfl ?_
          exact ret _ _ _ _ _ _ _ zd_X_reach_153 hP hD hS (by omega) (by first | exact ⟨rfl, by omega, fun h => absurd h (by omega), fun _ => Or.inl ⟨by omega, by omega, rfl⟩⟩ | exact ⟨rfl, by omega, fun h => absurd h (by omega), fun _ => Or.inr ⟨by omega, by omega, rfl⟩⟩)
        · have ho_ := hob (A 36 k) (by omega) (by omega) (by omega)
          have m1_ := mulb ho_.1 hc_.2.2.1
          have m2_ := mulb ho_.2 hc_.2.2.2.1
          refine lv_aload_n hx hb zd_X_reach_59 rfl (lv_at hl 2 rfl) ?_
          refine lv_iload_n hx hb zd_X_reach_60 rfl (lv_at hl 0 rfl) ?_
          refine lv_aload_n hx hb zd_X_reach_61 rfl (lv_at hl 2 rfl) ?_
          refine va_get (D := D) (ci := 5) (v := .ref (q 42)) (C := zR_X) (T := zT_X) (N := 34) hx hb hts zi_X hown hK.1 hP 5 ga_5 rfl 14 (by decide) (hts _ zw_547) (fun _ h9 => h9) rfl zd_X_reach_62 ?_
          refine lv_iload_n hx hb zd_X_reach_65 rfl (lv_at hl 1 rfl) ?_
          refine x_lald (v := A 42 (A 36 k)) hx hb hK.1 hP 42 1 ga_42 rfl (by decide) (by omega) (by omega) (rfl) zd_X_reach_66 ?_
          refine lv_aload_n hx hb zd_X_reach_67 rfl (lv_at hl 2 rfl) ?_
          refine va_get (D := D) (ci := 5) (v := .ref (q 38)) (C := zR_X) (T := zT_X) (N := 34) hx hb hts zi_X hown hK.1 hP 5 ga_5 rfl 6 (by decide) (hts _ zw_539) (fun _ h9 => h9) rfl zd_X_reach_68 ?_
          refine lv_iload_n hx hb zd_X_reach_71 rfl (lv_at hl 3 rfl) ?_
          refine x_iald (v := A 38 k) hx hb hK.1 hP 38 0 ga_38 rfl (by decide) (by omega) (by omega) (rfl) zd_X_reach_72 ?_
          refine x_i2l hx hb zd_X_reach_73 (⟨by omega, by omega⟩) ?_
          refine x_lmul hx hb zd_X_reach_74 ?_
          refine lv_aload_n hx hb zd_X_reach_75 rfl (lv_at hl 2 rfl) ?_
          refine va_get (D := D) (ci := 5) (v := .ref (q 43)) (C := zR_X) (T := zT_X) (N := 34) hx hb hts zi_X hown hK.1 hP 5 ga_5 rfl 15 (by decide) (hts _ zw_548) (fun _ h9 => h9) rfl zd_X_reach_76 ?_
          refine lv_iload_n hx hb zd_X_reach_79 rfl (lv_at hl 1 rfl) ?_
          refine x_lald (v := A 43 (A 36 k)) hx hb hK.1 hP 43 1 ga_43 rfl (by decide) (by omega) (by omega) (rfl) zd_X_reach_80 ?_
          refine lv_aload_n hx hb zd_X_reach_81 rfl (lv_at hl 2 rfl) ?_
          refine va_get (D := D) (ci := 5) (v := .ref (q 39)) (C := zR_X) (T := zT_X) (N := 34) hx hb hts zi_X hown hK.1 hP 5 ga_5 rfl 7 (by decide) (hts _ zw_540) (fun _ h9 => h9) rfl zd_X_reach_82 ?_
          refine lv_iload_n hx hb zd_X_reach_85 rfl (lv_at hl 3 rfl) ?_
          refine x_iald (v := A 39 k) hx hb hK.1 hP 39 0 ga_39 rfl (by decide) (by omega) (by omega) (rfl) zd_X_reach_86 ?_
          refine x_i2l hx hb zd_X_reach_87 (⟨by omega, by omega⟩) ?_
          refine x_lmul hx hb zd_X_reach_88 ?_
          refine z_gov (z_runV (n := 3) (k := 5) (ci := 5) (As := [.int (iI (A 37 k)), .long (lI ((A 42 (A 36 k)) * (A 38 k))), .long (lI ((A 43 (A 36 k)) * (A 39 k)))]) (rest := []) S (c_X_set l D q c _ F A (A 37 k) ((A 42 (A 36 k)) * (A 38 k)) ((A 43 (A 36 k)) * (A 39 k)) (by first | assumption | omega | exact ⟨by omega, by omega⟩) (by first | assumption | omega | exact ⟨by omega, by omega⟩) (by first | assumption | omega | exact ⟨by omega, by omega⟩)) zw_669 zw_671 zs_39 zw_6 zw_672 ⟨by decide +kernel, by decide, rfl, rfl⟩ hK hP hD ga_5 rfl rfl rfl hl.1 rfl (Nat.le_of_ble_eq_true rfl) zd_X_reach_89 ⟨Nat.zero_le _, Nat.zero_le _⟩) hD hS hA (fun F_89 A_89 H locs hq_89 hP hD hS => ?_)
          obtain ⟨hf_89, ha_89⟩ := hq_89
          rw [hf_89, ha_89] at hP hD
          refine lv_aload_n hx hb zd_X_reach_92 rfl (lv_at hl 2 rfl) ?_
          refine va_get (D := D) (ci := 5) (v := .ref (q 41)) (C := zR_X) (T := zT_X) (N := 34) hx hb hts zi_X hown hK.1 hP 5 ga_5 rfl 13 (by decide) (hts _ zw_546) (fun _ h9 => h9) rfl zd_X_reach_93 ?_
          refine lv_iload_n hx hb zd_X_reach_96 rfl (lv_at hl 0 rfl) ?_
          refine lv_aload_n hx hb zd_X_reach_97 rfl (lv_at hl 2 rfl) ?_
          refine va_get (D := D) (ci := 5) (v := .ref (q 41)) (C := zR_X) (T := zT_X) (N := 34) hx hb hts zi_X hown hK.1 hP 5 ga_5 rfl 13 (by decide) (hts _ zw_546) (fun _ h9 => h9) rfl zd_X_reach_98 ?_
          refine lv_iload_n hx hb zd_X_reach_101 rfl (lv_at hl 1 rfl) ?_
          refine x_iald (v := A 41 (A 36 k)) hx hb hK.1 hP 41 0 ga_41 rfl (by decide) (by omega) (by omega) (rfl) zd_X_reach_102 ?_
          refine x_iast hx hb hK.1 hP hD hS 41 0 ga_41 rfl (by decide) (by omega) (by omega) zd_X_reach_103 (fun H locs hP hD hS => ?_)
          rw [gs_41] at hP hD
          refine lv_goto (tgt := 152) hx hb zd_X_reach_104 (by decide) ?_
          refine lv_iconst (v := iI (1)) hx hb zd_X_reach_152 rfl ?_
          exact ret _ _ _ _ _ _ _ zd_X_reach_153 hP hD hS (by omega) (by first | exact ⟨rfl, by omega, fun h => absurd h (by omega), fun _ => Or.inl ⟨by omega, by omega, rfl⟩⟩ | exact ⟨rfl, by omega, fun h => absurd h (by omega), fun _ => Or.inr ⟨by omega, by omega, rfl⟩⟩)
      · refine lv_iconst (v := iI (0)) hx hb zd_X_reach_47 rfl ?_
        exact ret _ _ _ _ _ _ _ zd_X_reach_48 hP hD hS (by omega) (⟨rfl, by omega, fun _ => ⟨rfl, by constructor <;> intro _ <;> omega⟩, fun h => by omega⟩)
  · refine lv_iconst (v := iI (1)) hx hb zd_X_reach_24 rfl ?_
    refine lv_goto (tgt := 29) hx hb zd_X_reach_25 (by decide) ?_
    refine lv_aload_n hx hb zd_X_reach_29 rfl (lv_at hl 2 rfl) ?_
    refine va_get (D := D) (ci := 5) (v := .ref (q 41)) (C := zR_X) (T := zT_X) (N := 34) hx hb hts zi_X hown hK.1 hP 5 ga_5 rfl 13 (by decide) (hts _ zw_546) (fun _ h9 => h9) rfl zd_X_reach_30 ?_
    refine lv_iload_n hx hb zd_X_reach_33 rfl (lv_at hl 0 rfl) ?_
    refine x_iald (v := A 41 (A 37 k)) hx hb hK.1 hP 41 0 ga_41 rfl (by decide) (by omega) (by omega) (rfl) zd_X_reach_34 ?_
    refine lv_iconst (v := iI (-1)) hx hb zd_X_reach_35 rfl ?_
    refine x_icmp_ne (tgt := 43) hx hb zd_X_reach_36 (by decide) (⟨by omega, by omega⟩) (⟨by omega, by omega⟩) (fun h_36 => ?_) (fun h_36 => ?_)
    · refine lv_iconst (v := iI (0)) hx hb zd_X_reach_43 rfl ?_
      refine x_icmp_ne (tgt := 49) hx hb zd_X_reach_44 (by decide) (⟨by omega, by omega⟩) (⟨by omega, by omega⟩) (fun h_44 => ?_) (fun h_44 => ?_)
      · refine lv_aload_n hx hb zd_X_reach_49 rfl (lv_at hl 2 rfl) ?_
        refine va_get (D := D) (ci := 5) (v := .ref (q 41)) (C := zR_X) (T := zT_X) (N := 34) hx hb hts zi_X hown hK.1 hP 5 ga_5 rfl 13 (by decide) (hts _ zw_546) (fun _ h9 => h9) rfl zd_X_reach_50 ?_
        refine lv_iload_n hx hb zd_X_reach_53 rfl (lv_at hl 0 rfl) ?_
        refine x_iald (v := A 41 (A 37 k)) hx hb hK.1 hP 41 0 ga_41 rfl (by decide) (by omega) (by omega) (rfl) zd_X_reach_54 ?_
        refine lv_iconst (v := iI (-1)) hx hb zd_X_reach_55 rfl ?_
        refine x_icmp_ne (tgt := 107) hx hb zd_X_reach_56 (by decide) (⟨by omega, by omega⟩) (⟨by omega, by omega⟩) (fun h_56 => ?_) (fun h_56 => ?_)
        · have ho_ := hob (A 37 k) (by omega) (by omega) (by omega)
          have m1_ := mulb ho_.1 hc_.2.2.2.1
          have m2_ := mulb ho_.2 hc_.2.2.1
          refine lv_aload_n hx hb zd_X_reach_107 rfl (lv_at hl 2 rfl) ?_
          refine lv_iload_n hx hb zd_X_reach_108 rfl (lv_at hl 1 rfl) ?_
          refine lv_aload_n hx hb zd_X_reach_109 rfl (lv_at hl 2 rfl) ?_
          refine va_get (D := D) (ci := 5) (v := .ref (q 42)) (C := zR_X) (T := zT_X) (N := 34) hx hb hts zi_X hown hK.1 hP 5 ga_5 rfl 14 (by decide) (hts _ zw_547) (fun _ h9 => h9) rfl zd_X_reach_110 ?_
          refine lv_iload_n hx hb zd_X_reach_113 rfl (lv_at hl 0 rfl) ?_
          refine x_lald (v := A 42 (A 37 k)) hx hb hK.1 hP 42 1 ga_42 rfl (by decide) (by omega) (by omega) (rfl) zd_X_reach_114 ?_
          refine lv_aload_n hx hb zd_X_reach_115 rfl (lv_at hl 2 rfl) ?_
          refine va_get (D := D) (ci := 5) (v := .ref (q 39)) (C := zR_X) (T := zT_X) (N := 34) hx hb hts zi_X hown hK.1 hP 5 ga_5 rfl 7 (by decide) (hts _ zw_540) (fun _ h9 => h9) rfl zd_X_reach_116 ?_
          refine lv_iload_n hx hb zd_X_reach_119 rfl (lv_at hl 3 rfl) ?_
          refine x_iald (v := A 39 k) hx hb hK.1 hP 39 0 ga_39 rfl (by decide) (by omega) (by omega) (rfl) zd_X_reach_120 ?_
          refine x_i2l hx hb zd_X_reach_121 (⟨by omega, by omega⟩) ?_
          refine x_lmul hx hb zd_X_reach_122 ?_
          refine lv_aload_n hx hb zd_X_reach_123 rfl (lv_at hl 2 rfl) ?_
          refine va_get (D := D) (ci := 5) (v := .ref (q 43)) (C := zR_X) (T := zT_X) (N := 34) hx hb hts zi_X hown hK.1 hP 5 ga_5 rfl 15 (by decide) (hts _ zw_548) (fun _ h9 => h9) rfl zd_X_reach_124 ?_
          refine lv_iload_n hx hb zd_X_reach_127 rfl (lv_at hl 0 rfl) ?_
          refine x_lald (v := A 43 (A 37 k)) hx hb hK.1 hP 43 1 ga_43 rfl (by decide) (by omega) (by omega) (rfl) zd_X_reach_128 ?_
          refine lv_aload_n hx hb zd_X_reach_129 rfl (lv_at hl 2 rfl) ?_
          refine va_get (D := D) (ci := 5) (v := .ref (q 38)) (C := zR_X) (T := zT_X) (N := 34) hx hb hts zi_X hown hK.1 hP 5 ga_5 rfl 6 (by decide) (hts _ zw_539) (fun _ h9 => h9) rfl zd_X_reach_130 ?_
          refine lv_iload_n hx hb zd_X_reach_133 rfl (lv_at hl 3 rfl) ?_
          refine x_iald (v := A 38 k) hx hb hK.1 hP 38 0 ga_38 rfl (by decide) (by omega) (by omega) (rfl) zd_X_reach_134 ?_
          refine x_i2l hx hb zd_X_reach_135 (⟨by omega, by omega⟩) ?_
          refine x_lmul hx hb zd_X_reach_136 ?_
          refine z_gov (z_runV (n := 3) (k := 5) (ci := 5) (As := [.int (iI (A 36 k)), .long (lI ((A 42 (A 37 k)) * (A 39 k))), .long (lI ((A 43 (A 37 k)) * (A 38 k)))]) (rest := []) S (c_X_set l D q c _ F A (A 36 k) ((A 42 (A 37 k)) * (A 39 k)) ((A 43 (A 37 k)) * (A 38 k)) (by first | assumption | omega | exact ⟨by omega, by omega⟩) (by first | assumption | omega | exact ⟨by omega, by omega⟩) (by first | assumption | omega | exact ⟨by omega, by omega⟩)) zw_669 zw_671 zs_39 zw_6 zw_672 ⟨by decide +kernel, by decide, rfl, rfl⟩ hK hP hD ga_5 rfl rfl rfl hl.1 rfl (Nat.le_of_ble_eq_true rfl) zd_X_reach_137 ⟨Nat.zero_le _, Nat.zero_le _⟩) hD hS hA (fun F_137 A_137 H locs hq_137 hP hD hS => ?_)
          obtain ⟨hf_137, ha_137⟩ := hq_137
          rw [hf_137, ha_137] at hP hD
          refine lv_aload_n hx hb zd_X_reach_140 rfl (lv_at hl 2 rfl) ?_
          refine va_get (D := D) (ci := 5) (v := .ref (q 41)) (C := zR_X) (T := zT_X) (N := 34) hx hb hts zi_X hown hK.1 hP 5 ga_5 rfl 13 (by decide) (hts _ zw_546) (fun _ h9 => h9) rfl zd_X_reach_141 ?_
          refine lv_iload_n hx hb zd_X_reach_144 rfl (lv_at hl 1 rfl) ?_
          refine lv_aload_n hx hb zd_X_reach_145 rfl (lv_at hl 2 rfl) ?_
          refine va_get (D := D) (ci := 5) (v := .ref (q 41)) (C := zR_X) (T := zT_X) (N := 34) hx hb hts zi_X hown hK.1 hP 5 ga_5 rfl 13 (by decide) (hts _ zw_546) (fun _ h9 => h9) rfl zd_X_reach_146 ?_
          refine lv_iload_n hx hb zd_X_reach_149 rfl (lv_at hl 0 rfl) ?_
          refine x_iald (v := A 41 (A 37 k)) hx hb hK.1 hP 41 0 ga_41 rfl (by decide) (by omega) (by omega) (rfl) zd_X_reach_150 ?_
          refine x_iast hx hb hK.1 hP hD hS 41 0 ga_41 rfl (by decide) (by omega) (by omega) zd_X_reach_151 (fun H locs hP hD hS => ?_)
          rw [gs_41] at hP hD
          refine lv_iconst (v := iI (1)) hx hb zd_X_reach_152 rfl ?_
          exact ret _ _ _ _ _ _ _ zd_X_reach_153 hP hD hS (by omega) (by first | exact ⟨rfl, by omega, fun h => absurd h (by omega), fun _ => Or.inl ⟨by omega, by omega, rfl⟩⟩ | exact ⟨rfl, by omega, fun h => absurd h (by omega), fun _ => Or.inr ⟨by omega, by omega, rfl⟩⟩)
        · have ho_ := hob (A 36 k) (by omega) (by omega) (by omega)
          have m1_ := mulb ho_.1 hc_.2.2.1
          have m2_ := mulb ho_.2 hc_.2.2.2.1
          refine lv_aload_n hx hb zd_X_reach_59 rfl (lv_at hl 2 rfl) ?_
          refine lv_iload_n hx hb zd_X_reach_60 rfl (lv_at hl 0 rfl) ?_
          refine lv_aload_n hx hb zd_X_reach_61 rfl (lv_at hl 2 rfl) ?_
          refine va_get (D := D) (ci := 5) (v := .ref (q 42)) (C := zR_X) (T := zT_X) (N := 34) hx hb hts zi_X hown hK.1 hP 5 ga_5 rfl 14 (by decide) (hts _ zw_547) (fun _ h9 => h9) rfl zd_X_reach_62 ?_
          refine lv_iload_n hx hb zd_X_reach_65 rfl (lv_at hl 1 rfl) ?_
          refine x_lald (v := A 42 (A 36 k)) hx hb hK.1 hP 42 1 ga_42 rfl (by decide) (by omega) (by omega) (rfl) zd_X_reach_66 ?_
          refine lv_aload_n hx hb zd_X_reach_67 rfl (lv_at hl 2 rfl) ?_
          refine va_get (D := D) (ci := 5) (v := .ref (q 38)) (C := zR_X) (T := zT_X) (N := 34) hx hb hts zi_X hown hK.1 hP 5 ga_5 rfl 6 (by decide) (hts _ zw_539) (fun _ h9 => h9) rfl zd_X_reach_68 ?_
          refine lv_iload_n hx hb zd_X_reach_71 rfl (lv_at hl 3 rfl) ?_
          refine x_iald (v := A 38 k) hx hb hK.1 hP 38 0 ga_38 rfl (by decide) (by omega) (by omega) (rfl) zd_X_reach_72 ?_
          refine x_i2l hx hb zd_X_reach_73 (⟨by omega, by omega⟩) ?_
          refine x_lmul hx hb zd_X_reach_74 ?_
          refine lv_aload_n hx hb zd_X_reach_75 rfl (lv_at hl 2 rfl) ?_
          refine va_get (D := D) (ci := 5) (v := .ref (q 43)) (C := zR_X) (T := zT_X) (N := 34) hx hb hts zi_X hown hK.1 hP 5 ga_5 rfl 15 (by decide) (hts _ zw_548) (fun _ h9 => h9) rfl zd_X_reach_76 ?_
          refine lv_iload_n hx hb zd_X_reach_79 rfl (lv_at hl 1 rfl) ?_
          refine x_lald (v := A 43 (A 36 k)) hx hb hK.1 hP 43 1 ga_43 rfl (by decide) (by omega) (by omega) (rfl) zd_X_reach_80 ?_
          refine lv_aload_n hx hb zd_X_reach_81 rfl (lv_at hl 2 rfl) ?_
          refine va_get (D := D) (ci := 5) (v := .ref (q 39)) (C := zR_X) (T := zT_X) (N := 34) hx hb hts zi_X hown hK.1 hP 5 ga_5 rfl 7 (by decide) (hts _ zw_540) (fun _ h9 => h9) rfl zd_X_reach_82 ?_
          refine lv_iload_n hx hb zd_X_reach_85 rfl (lv_at hl 3 rfl) ?_
          refine x_iald (v := A 39 k) hx hb hK.1 hP 39 0 ga_39 rfl (by decide) (by omega) (by omega) (rfl) zd_X_reach_86 ?_
          refine x_i2l hx hb zd_X_reach_87 (⟨by omega, by omega⟩) ?_
          refine x_lmul hx hb zd_X_reach_88 ?_
          refine z_gov (z_runV (n := 3) (k := 5) (ci := 5) (As := [.int (iI (A 37 k)), .long (lI ((A 42 (A 36 k)) * (A 38 k))), .long (lI ((A 43 (A 36 k)) * (A 39 k)))]) (rest := []) S (c_X_set l D q c _ F A (A 37 k) ((A 42 (A 36 k)) * (A 38 k)) ((A 43 (A 36 k)) * (A 39 k)) (by first | assumption | omega | exact ⟨by omega, by omega⟩) (by first | assumption | omega | exact ⟨by omega, by omega⟩) (by first | assumption | omega | exact ⟨by omega, by omega⟩)) zw_669 zw_671 zs_39 zw_6 zw_672 ⟨by decide +kernel, by decide, rfl, rfl⟩ hK hP hD ga_5 rfl rfl rfl hl.1 rfl (Nat.le_of_ble_eq_true rfl) zd_X_reach_89 ⟨Nat.zero_le _, Nat.zero_le _⟩) hD hS hA (fun F_89 A_89 H locs hq_89 hP hD hS => ?_)
          obtain ⟨hf_89, ha_89⟩ := hq_89
          rw [hf_89, ha_89] at hP hD
          refine lv_aload_n hx hb zd_X_reach_92 rfl (lv_at hl 2 rfl) ?_
          refine va_get (D := D) (ci := 5) (v := .ref (q 41)) (C := zR_X) (T := zT_X) (N := 34) hx hb hts zi_X hown hK.1 hP 5 ga_5 rfl 13 (by decide) (hts _ zw_546) (fun _ h9 => h9) rfl zd_X_reach_93 ?_
          refine lv_iload_n hx hb zd_X_reach_96 rfl (lv_at hl 0 rfl) ?_
          refine lv_aload_n hx hb zd_X_reach_97 rfl (lv_at hl 2 rfl) ?_
          refine va_get (D := D) (ci := 5) (v := .ref (q 41)) (C := zR_X) (T := zT_X) (N := 34) hx hb hts zi_X hown hK.1 hP 5 ga_5 rfl 13 (by decide) (hts _ zw_546) (fun _ h9 => h9) rfl zd_X_reach_98 ?_
          refine lv_iload_n hx hb zd_X_reach_101 rfl (lv_at hl 1 rfl) ?_
          refine x_iald (v := A 41 (A 36 k)) hx hb hK.1 hP 41 0 ga_41 rfl (by decide) (by omega) (by omega) (rfl) zd_X_reach_102 ?_
          refine x_iast hx hb hK.1 hP hD hS 41 0 ga_41 rfl (by decide) (by omega) (by omega) zd_X_reach_103 (fun H locs hP hD hS => ?_)
          rw [gs_41] at hP hD
          refine lv_goto (tgt := 152) hx hb zd_X_reach_104 (by decide) ?_
          refine lv_iconst (v := iI (1)) hx hb zd_X_reach_152 rfl ?_
          exact ret _ _ _ _ _ _ _ zd_X_reach_153 hP hD hS (by omega) (by first | exact ⟨rfl, by omega, fun h => absurd h (by omega), fun _ => Or.inl ⟨by omega, by omega, rfl⟩⟩ | exact ⟨rfl, by omega, fun h => absurd h (by omega), fun _ => Or.inr ⟨by omega, by omega, rfl⟩⟩)
      · refine lv_iconst (v := iI (0)) hx hb zd_X_reach_47 rfl ?_
        exact ret _ _ _ _ _ _ _ zd_X_reach_48 hP hD hS (by omega) (⟨rfl, by omega, fun _ => ⟨rfl, by constructor <;> intro _ <;> omega⟩, fun h => by omega⟩)
    · refine lv_iconst (v := iI (1)) hx hb zd_X_reach_39 rfl ?_
      refine lv_goto (tgt := 44) hx hb zd_X_reach_40 (by decide) ?_
      refine x_icmp_ne (tgt := 49) hx hb zd_X_reach_44 (by decide) (⟨by omega, by omega⟩) (⟨by omega, by omega⟩) (fun h_44 => ?_) (fun h_44 => ?_)
      · refine lv_aload_n hx hb zd_X_reach_49 rfl (lv_at hl 2 rfl) ?_
        refine va_get (D := D) (ci := 5) (v := .ref (q 41)) (C := zR_X) (T := zT_X) (N := 34) hx hb hts zi_X hown hK.1 hP 5 ga_5 rfl 13 (by decide) (hts _ zw_546) (fun _ h9 => h9) rfl zd_X_reach_50 ?_
        refine lv_iload_n hx hb zd_X_reach_53 rfl (lv_at hl 0 rfl) ?_
        refine x_iald (v := A 41 (A 37 k)) hx hb hK.1 hP 41 0 ga_41 rfl (by decide) (by omega) (by omega) (rfl) zd_X_reach_54 ?_
        refine lv_iconst (v := iI (-1)) hx hb zd_X_reach_55 rfl ?_
        refine x_icmp_ne (tgt := 107) hx hb zd_X_reach_56 (by decide) (⟨by omega, by omega⟩) (⟨by omega, by omega⟩) (fun h_56 => ?_) (fun h_56 => ?_)
        · have ho_ := hob (A 37 k) (by omega) (by omega) (by omega)
          have m1_ := mulb ho_.1 hc_.2.2.2.1
          have m2_ := mulb ho_.2 hc_.2.2.1
          refine lv_aload_n hx hb zd_X_reach_107 rfl (lv_at hl 2 rfl) ?_
          refine lv_iload_n hx hb zd_X_reach_108 rfl (lv_at hl 1 rfl) ?_
          refine lv_aload_n hx hb zd_X_reach_109 rfl (lv_at hl 2 rfl) ?_
          refine va_get (D := D) (ci := 5) (v := .ref (q 42)) (C := zR_X) (T := zT_X) (N := 34) hx hb hts zi_X hown hK.1 hP 5 ga_5 rfl 14 (by decide) (hts _ zw_547) (fun _ h9 => h9) rfl zd_X_reach_110 ?_
          refine lv_iload_n hx hb zd_X_reach_113 rfl (lv_at hl 0 rfl) ?_
          refine x_lald (v := A 42 (A 37 k)) hx hb hK.1 hP 42 1 ga_42 rfl (by decide) (by omega) (by omega) (rfl) zd_X_reach_114 ?_
          refine lv_aload_n hx hb zd_X_reach_115 rfl (lv_at hl 2 rfl) ?_
          refine va_get (D := D) (ci := 5) (v := .ref (q 39)) (C := zR_X) (T := zT_X) (N := 34) hx hb hts zi_X hown hK.1 hP 5 ga_5 rfl 7 (by decide) (hts _ zw_540) (fun _ h9 => h9) rfl zd_X_reach_116 ?_
          refine lv_iload_n hx hb zd_X_reach_119 rfl (lv_at hl 3 rfl) ?_
          refine x_iald (v := A 39 k) hx hb hK.1 hP 39 0 ga_39 rfl (by decide) (by omega) (by omega) (rfl) zd_X_reach_120 ?_
          refine x_i2l hx hb zd_X_reach_121 (⟨by omega, by omega⟩) ?_
          refine x_lmul hx hb zd_X_reach_122 ?_
          refine lv_aload_n hx hb zd_X_reach_123 rfl (lv_at hl 2 rfl) ?_
          refine va_get (D := D) (ci := 5) (v := .ref (q 43)) (C := zR_X) (T := zT_X) (N := 34) hx hb hts zi_X hown hK.1 hP 5 ga_5 rfl 15 (by decide) (hts _ zw_548) (fun _ h9 => h9) rfl zd_X_reach_124 ?_
          refine lv_iload_n hx hb zd_X_reach_127 rfl (lv_at hl 0 rfl) ?_
          refine x_lald (v := A 43 (A 37 k)) hx hb hK.1 hP 43 1 ga_43 rfl (by decide) (by omega) (by omega) (rfl) zd_X_reach_128 ?_
          refine lv_aload_n hx hb zd_X_reach_129 rfl (lv_at hl 2 rfl) ?_
          refine va_get (D := D) (ci := 5) (v := .ref (q 38)) (C := zR_X) (T := zT_X) (N := 34) hx hb hts zi_X hown hK.1 hP 5 ga_5 rfl 6 (by decide) (hts _ zw_539) (fun _ h9 => h9) rfl zd_X_reach_130 ?_
          refine lv_iload_n hx hb zd_X_reach_133 rfl (lv_at hl 3 rfl) ?_
          refine x_iald (v := A 38 k) hx hb hK.1 hP 38 0 ga_38 rfl (by decide) (by omega) (by omega) (rfl) zd_X_reach_134 ?_
          refine x_i2l hx hb zd_X_reach_135 (⟨by omega, by omega⟩) ?_
          refine x_lmul hx hb zd_X_reach_136 ?_
          refine z_gov (z_runV (n := 3) (k := 5) (ci := 5) (As := [.int (iI (A 36 k)), .long (lI ((A 42 (A 37 k)) * (A 39 k))), .long (lI ((A 43 (A 37 k)) * (A 38 k)))]) (rest := []) S (c_X_set l D q c _ F A (A 36 k) ((A 42 (A 37 k)) * (A 39 k)) ((A 43 (A 37 k)) * (A 38 k)) (by first | assumption | omega | exact ⟨by omega, by omega⟩) (by first | assumption | omega | exact ⟨by omega, by omega⟩) (by first | assumption | omega | exact ⟨by omega, by omega⟩)) zw_669 zw_671 zs_39 zw_6 zw_672 ⟨by decide +kernel, by decide, rfl, rfl⟩ hK hP hD ga_5 rfl rfl rfl hl.1 rfl (Nat.le_of_ble_eq_true rfl) zd_X_reach_137 ⟨Nat.zero_le _, Nat.zero_le _⟩) hD hS hA (fun F_137 A_137 H locs hq_137 hP hD hS => ?_)
          obtain ⟨hf_137, ha_137⟩ := hq_137
          rw [hf_137, ha_137] at hP hD
          refine lv_aload_n hx hb zd_X_reach_140 rfl (lv_at hl 2 rfl) ?_
          refine va_get (D := D) (ci := 5) (v := .ref (q 41)) (C := zR_X) (T := zT_X) (N := 34) hx hb hts zi_X hown hK.1 hP 5 ga_5 rfl 13 (by decide) (hts _ zw_546) (fun _ h9 => h9) rfl zd_X_reach_141 ?_
          refine lv_iload_n hx hb zd_X_reach_144 rfl (lv_at hl 1 rfl) ?_
          refine lv_aload_n hx hb zd_X_reach_145 rfl (lv_at hl 2 rfl) ?_
          refine va_get (D := D) (ci := 5) (v := .ref (q 41)) (C := zR_X) (T := zT_X) (N := 34) hx hb hts zi_X hown hK.1 hP 5 ga_5 rfl 13 (by decide) (hts _ zw_546) (fun _ h9 => h9) rfl zd_X_reach_146 ?_
          refine lv_iload_n hx hb zd_X_reach_149 rfl (lv_at hl 0 rfl) ?_
          refine x_iald (v := A 41 (A 37 k)) hx hb hK.1 hP 41 0 ga_41 rfl (by decide) (by omega) (by omega) (rfl) zd_X_reach_150 ?_
          refine x_iast hx hb hK.1 hP hD hS 41 0 ga_41 rfl (by decide) (by omega) (by omega) zd_X_reach_151 (fun H locs hP hD hS => ?_)
          rw [gs_41] at hP hD
          refine lv_iconst (v := iI (1)) hx hb zd_X_reach_152 rfl ?_
          exact ret _ _ _ _ _ _ _ zd_X_reach_153 hP hD hS (by omega) (by first | exact ⟨rfl, by omega, fun h => absurd h (by omega), fun _ => Or.inl ⟨by omega, by omega, rfl⟩⟩ | exact ⟨rfl, by omega, fun h => absurd h (by omega), fun _ => Or.inr ⟨by omega, by omega, rfl⟩⟩)
        · have ho_ := hob (A 36 k) (by omega) (by omega) (by omega)
          have m1_ := mulb ho_.1 hc_.2.2.1
          have m2_ := mulb ho_.2 hc_.2.2.2.1
          refine lv_aload_n hx hb zd_X_reach_59 rfl (lv_at hl 2 rfl) ?_
          refine lv_iload_n hx hb zd_X_reach_60 rfl (lv_at hl 0 rfl) ?_
          refine lv_aload_n hx hb zd_X_reach_61 rfl (lv_at hl 2 rfl) ?_
          refine va_get (D := D) (ci := 5) (v := .ref (q 42)) (C := zR_X) (T := zT_X) (N := 34) hx hb hts zi_X hown hK.1 hP 5 ga_5 rfl 14 (by decide) (hts _ zw_547) (fun _ h9 => h9) rfl zd_X_reach_62 ?_
          refine lv_iload_n hx hb zd_X_reach_65 rfl (lv_at hl 1 rfl) ?_
          refine x_lald (v := A 42 (A 36 k)) hx hb hK.1 hP 42 1 ga_42 rfl (by decide) (by omega) (by omega) (rfl) zd_X_reach_66 ?_
          refine lv_aload_n hx hb zd_X_reach_67 rfl (lv_at hl 2 rfl) ?_
          refine va_get (D := D) (ci := 5) (v := .ref (q 38)) (C := zR_X) (T := zT_X) (N := 34) hx hb hts zi_X hown hK.1 hP 5 ga_5 rfl 6 (by decide) (hts _ zw_539) (fun _ h9 => h9) rfl zd_X_reach_68 ?_
          refine lv_iload_n hx hb zd_X_reach_71 rfl (lv_at hl 3 rfl) ?_
          refine x_iald (v := A 38 k) hx hb hK.1 hP 38 0 ga_38 rfl (by decide) (by omega) (by omega) (rfl) zd_X_reach_72 ?_
          refine x_i2l hx hb zd_X_reach_73 (⟨by omega, by omega⟩) ?_
          refine x_lmul hx hb zd_X_reach_74 ?_
          refine lv_aload_n hx hb zd_X_reach_75 rfl (lv_at hl 2 rfl) ?_
          refine va_get (D := D) (ci := 5) (v := .ref (q 43)) (C := zR_X) (T := zT_X) (N := 34) hx hb hts zi_X hown hK.1 hP 5 ga_5 rfl 15 (by decide) (hts _ zw_548) (fun _ h9 => h9) rfl zd_X_reach_76 ?_
          refine lv_iload_n hx hb zd_X_reach_79 rfl (lv_at hl 1 rfl) ?_
          refine x_lald (v := A 43 (A 36 k)) hx hb hK.1 hP 43 1 ga_43 rfl (by decide) (by omega) (by omega) (rfl) zd_X_reach_80 ?_
          refine lv_aload_n hx hb zd_X_reach_81 rfl (lv_at hl 2 rfl) ?_
          refine va_get (D := D) (ci := 5) (v := .ref (q 39)) (C := zR_X) (T := zT_X) (N := 34) hx hb hts zi_X hown hK.1 hP 5 ga_5 rfl 7 (by decide) (hts _ zw_540) (fun _ h9 => h9) rfl zd_X_reach_82 ?_
          refine lv_iload_n hx hb zd_X_reach_85 rfl (lv_at hl 3 rfl) ?_
          refine x_iald (v := A 39 k) hx hb hK.1 hP 39 0 ga_39 rfl (by decide) (by omega) (by omega) (rfl) zd_X_reach_86 ?_
          refine x_i2l hx hb zd_X_reach_87 (⟨by omega, by omega⟩) ?_
          refine x_lmul hx hb zd_X_reach_88 ?_
          refine z_gov (z_runV (n := 3) (k := 5) (ci := 5) (As := [.int (iI (A 37 k)), .long (lI ((A 42 (A 36 k)) * (A 38 k))), .long (lI ((A 43 (A 36 k)) * (A 39 k)))]) (rest := []) S (c_X_set l D q c _ F A (A 37 k) ((A 42 (A 36 k)) * (A 38 k)) ((A 43 (A 36 k)) * (A 39 k)) (by first | assumption | omega | exact ⟨by omega, by omega⟩) (by first | assumption | omega | exact ⟨by omega, by omega⟩) (by first | assumption | omega | exact ⟨by omega, by omega⟩)) zw_669 zw_671 zs_39 zw_6 zw_672 ⟨by decide +kernel, by decide, rfl, rfl⟩ hK hP hD ga_5 rfl rfl rfl hl.1 rfl (Nat.le_of_ble_eq_true rfl) zd_X_reach_89 ⟨Nat.zero_le _, Nat.zero_le _⟩) hD hS hA (fun F_89 A_89 H locs hq_89 hP hD hS => ?_)
          obtain ⟨hf_89, ha_89⟩ := hq_89
          rw [hf_89, ha_89] at hP hD
          refine lv_aload_n hx hb zd_X_reach_92 rfl (lv_at hl 2 rfl) ?_
          refine va_get (D := D) (ci := 5) (v := .ref (q 41)) (C := zR_X) (T := zT_X) (N := 34) hx hb hts zi_X hown hK.1 hP 5 ga_5 rfl 13 (by decide) (hts _ zw_546) (fun _ h9 => h9) rfl zd_X_reach_93 ?_
          refine lv_iload_n hx hb zd_X_reach_96 rfl (lv_at hl 0 rfl) ?_
          refine lv_aload_n hx hb zd_X_reach_97 rfl (lv_at hl 2 rfl) ?_
          refine va_get (D := D) (ci := 5) (v := .ref (q 41)) (C := zR_X) (T := zT_X) (N := 34) hx hb hts zi_X hown hK.1 hP 5 ga_5 rfl 13 (by decide) (hts _ zw_546) (fun _ h9 => h9) rfl zd_X_reach_98 ?_
          refine lv_iload_n hx hb zd_X_reach_101 rfl (lv_at hl 1 rfl) ?_
          refine x_iald (v := A 41 (A 36 k)) hx hb hK.1 hP 41 0 ga_41 rfl (by decide) (by omega) (by omega) (rfl) zd_X_reach_102 ?_
          refine x_iast hx hb hK.1 hP hD hS 41 0 ga_41 rfl (by decide) (by omega) (by omega) zd_X_reach_103 (fun H locs hP hD hS => ?_)
          rw [gs_41] at hP hD
          refine lv_goto (tgt := 152) hx hb zd_X_reach_104 (by decide) ?_
          refine lv_iconst (v := iI (1)) hx hb zd_X_reach_152 rfl ?_
          exact ret _ _ _ _ _ _ _ zd_X_reach_153 hP hD hS (by omega) (by first | exact ⟨rfl, by omega, fun h => absurd h (by omega), fun _ => Or.inl ⟨by omega, by omega, rfl⟩⟩ | exact ⟨rfl, by omega, fun h => absurd h (by omega), fun _ => Or.inr ⟨by omega, by omega, rfl⟩⟩)
      · refine lv_iconst (v := iI (0)) hx hb zd_X_reach_47 rfl ?_
        exact ret _ _ _ _ _ _ _ zd_X_reach_48 hP hD hS (by omega) (⟨rfl, by omega, fun _ => ⟨rfl, by constructor <;> intro _ <;> omega⟩, fun h => by omega⟩)
