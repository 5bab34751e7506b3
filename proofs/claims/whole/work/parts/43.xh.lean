/-- the least of f 0 .. f k -/
def mnN (f : Nat → Int) : Nat → Int
  | 0 => f 0
  | k + 1 => min (mnN f k) (f (k + 1))
theorem mnN_b {f : Nat → Int} {B : Int} : ∀ s : Nat, (∀ k, k ≤ s → 0 ≤ f k ∧ f k ≤ B) → 0 ≤ mnN f s ∧ mnN f s ≤ B
  | 0, h => h 0 (Nat.le_refl _)
  | s + 1, h => by
    have h1 := mnN_b s (fun k hk => h k (by omega))
    have h2 := h (s + 1) (Nat.le_refl _)
    show 0 ≤ min (mnN f s) (f (s + 1)) ∧ min (mnN f s) (f (s + 1)) ≤ B
    omega
theorem mnN_c {f g : Nat → Int} : ∀ s : Nat, (∀ k, k ≤ s → f k = g k) → mnN f s = mnN g s
  | 0, h => h 0 (Nat.le_refl _)
  | s + 1, h => by
    show min _ _ = min _ _
    rw [mnN_c s (fun k hk => h k (by omega)), h (s + 1) (Nat.le_refl _)]
/-- the room of the stretch of t + 1 actors from i on -/
def RMf (cn pu : Int → Int) : Nat → Int → Nat → Int
  | 0 => fun _ _ => 0
  | s + 1 => fun i t => if t ≤ s then RMf cn pu s i t else mnN (fun k => RMf cn pu s i k + RMf cn pu s (i + k + 1) (s - k) + (cn (i + k) * pu (i + k)).tdiv (dvN cn i (s + 1))) s
def RM (cn pu : Int → Int) (i : Int) (t : Nat) : Int := RMf cn pu t i t
theorem RMf_e {cn pu : Int → Int} : ∀ (s : Nat) (i : Int) (t : Nat), t ≤ s → RMf cn pu s i t = RM cn pu i t
  | 0, i, t, h => by
    have : t = 0 := by omega
    subst this; rfl
  | s + 1, i, t, h => by
    by_cases e : t ≤ s
    · show (if t ≤ s then RMf cn pu s i t else _) = _
      rw [if_pos e]; exact RMf_e s i t e
    · have : t = s + 1 := by omega
      subst this; rfl
def rmV (cn pu : Int → Int) (i : Int) (s : Nat) (k : Nat) : Int := RM cn pu i k + RM cn pu (i + k + 1) (s - k) + (cn (i + k) * pu (i + k)).tdiv (dvN cn i (s + 1))
theorem RM_s {cn pu : Int → Int} (i : Int) (s : Nat) : RM cn pu i (s + 1) = mnN (rmV cn pu i s) s := by
  show (if s + 1 ≤ s then _ else _) = _
  rw [if_neg (by omega)]
  exact mnN_c s (fun k hk => by unfold rmV; rw [RMf_e s i k hk, RMf_e s (i + k + 1) (s - k) (by omega)])
theorem RM_0 {cn pu : Int → Int} {i : Int} : RM cn pu i 0 = 0 := rfl
theorem dvN_p {cn : Int → Int} {n : Int} (hc : ∀ a, 0 ≤ a → a < n → 1 ≤ cn a) : ∀ (i : Int) (t : Nat), 0 ≤ i → i + t < n → 1 ≤ dvN cn i t
  | i, 0, h0, h1 => hc i h0 (by omega)
  | i, t + 1, h0, h1 => by
    have := dvN_p hc i t h0 (by omega)
    exact gI_pos (by omega)
theorem tdv_b {a b B : Int} (ha : 0 ≤ a ∧ a ≤ B) (hb : 1 ≤ b) : 0 ≤ a.tdiv b ∧ a.tdiv b ≤ B := by
  rw [Int.tdiv_eq_ediv_of_nonneg ha.1]
  refine ⟨Int.ediv_nonneg ha.1 (by omega), Int.ediv_le_of_le_mul (by omega) ?_⟩
  have : B * 1 ≤ B * b := Int.mul_le_mul_of_nonneg_left hb (by omega)
  omega
theorem RM_b {cn pu : Int → Int} {n : Int} (hc : ∀ a, 0 ≤ a → a < n → 1 ≤ cn a ∧ cn a ≤ 400) (hp : ∀ a, 0 ≤ a → a < n - 1 → 1 ≤ pu a ∧ pu a ≤ 9) : ∀ (t : Nat) (i : Int), 0 ≤ i → i + t < n → 0 ≤ RM cn pu i t ∧ RM cn pu i t ≤ 3600 * t := by
  intro t
  induction t using Nat.strongRecOn with
  | ind t ih =>
    intro i h0 h1
    cases t with
    | zero => rw [RM_0]; omega
    | succ s =>
      rw [RM_s]
      refine mnN_b s (fun k hk => ?_)
      have a1 := ih k (by omega) i h0 (by omega)
      have a2 := ih (s - k) (by omega) (i + k + 1) (by omega) (by omega)
      have a3 := mulb (hc (i + k) (by omega) (by omega)) (hp (i + k) (by omega) (by omega))
      have a4 := tdv_b (a := cn (i + k) * pu (i + k)) (b := dvN cn i (s + 1)) (B := 3600) (by omega) (dvN_p (fun a b c => (hc a b c).1) i (s + 1) h0 (by omega))
      unfold rmV
      omega
theorem RM_v {cn pu : Int → Int} {n : Int} (hc : ∀ a, 0 ≤ a → a < n → 1 ≤ cn a ∧ cn a ≤ 400) (hp : ∀ a, 0 ≤ a → a < n - 1 → 1 ≤ pu a ∧ pu a ≤ 9) {i : Int} {s k : Nat} (h0 : 0 ≤ i) (h1 : i + s + 1 < n) (hk : k ≤ s) : 0 ≤ rmV cn pu i s k ∧ rmV cn pu i s k ≤ 3600 * (s + 1) := by
  have a1 := RM_b hc hp k i h0 (by omega)
  have a2 := RM_b hc hp (s - k) (i + k + 1) (by omega) (by omega)
  have a3 := mulb (hc (i + k) (by omega) (by omega)) (hp (i + k) (by omega) (by omega))
  have a4 := tdv_b (a := cn (i + k) * pu (i + k)) (b := dvN cn i (s + 1)) (B := 3600) (by omega) (dvN_p (fun a b c => (hc a b c).1) i (s + 1) h0 (by omega))
  unfold rmV
  omega
/-- the best of the cuts of i .. j below k -/
def rmB (cn pu : Int → Int) (i j k : Int) : Int := mnN (rmV cn pu i (j - i - 1).toNat) (k - 1 - i).toNat
theorem rmB_0 {cn pu : Int → Int} {i j : Int} : rmB cn pu i j (i + 1) = rmV cn pu i (j - i - 1).toNat 0 := by
  unfold rmB; rw [show i + 1 - 1 - i = 0 by omega]; rfl
theorem rmB_s {cn pu : Int → Int} {i j k : Int} (h : i < k) : rmB cn pu i j (k + 1) = min (rmB cn pu i j k) (rmV cn pu i (j - i - 1).toNat (k - i).toNat) := by
  unfold rmB; rw [show (k + 1 - 1 - i).toNat = (k - 1 - i).toNat + 1 by omega]
  show min _ _ = _
  rw [show (k - 1 - i).toNat + 1 = (k - i).toNat by omega]
theorem rmB_e {cn pu : Int → Int} {i j : Int} (h : i < j) : rmB cn pu i j j = RM cn pu i (j - i).toNat := by
  unfold rmB
  rw [show (j - i).toNat = (j - i - 1).toNat + 1 by omega, RM_s, show j - 1 - i = j - i - 1 by omega]
theorem rmV_e {cn pu : Int → Int} {i j k : Int} (h0 : i ≤ k) (h1 : k < j) : rmV cn pu i (j - i - 1).toNat (k - i).toNat = RM cn pu i (k - i).toNat + RM cn pu (k + 1) (j - (k + 1)).toNat + (cn k * pu k).tdiv (dvN cn i (j - i).toNat) := by
  unfold rmV
  rw [show i + ((k - i).toNat : Int) = k by omega, show (j - i - 1).toNat - (k - i).toNat = (j - (k + 1)).toNat by omega, show (j - i - 1).toNat + 1 = (j - i).toNat by omega]
abbrev chP (F : Nat → Int) (A : Nat → Int → Int) : Prop := F 502 = F 501 - 1 ∧ ∀ k, 0 ≤ k → k < F 502 → A 36 k = k ∧ A 37 k = k + 1 ∧ A 40 k = 0
abbrev zr_X_room : Room := ({ frames := 6, cells := 0, slots := 0, locals := 144 } : Room)
set_option maxHeartbeats 4000000 in
set_option maxRecDepth 100000 in
theorem c_X_room (l : Launch) (D : va_G) (q : Nat → Nat) (c : Nat → ClassId) (sz : Nat) (F : Nat → Int) (A : Nat → Int → Int)  (hmn : 1 ≤ F 501 ∧ F 501 ≤ 8) (hmm : 0 ≤ F 502 ∧ F 502 ≤ 14) (hmch : ∀ k, 0 ≤ k → k < F 502 → (0 ≤ A 36 k ∧ A 36 k < F 501) ∧ (0 ≤ A 37 k ∧ A 37 k < F 501) ∧ (1 ≤ A 38 k ∧ A 38 k ≤ 9) ∧ (1 ≤ A 39 k ∧ A 39 k ≤ 9) ∧ 0 ≤ A 40 k ∧ A 40 k ≤ 99) (hmk : (F 509 = 0 ∨ F 509 = 1) ∧ (F 509 = 1 → KM F A)) : zMI l zy_X_room zc_X_room 7 (some .int) zr_X_room D q c sz [.ref (q 5)] F A (fun z F1 A1 => F1 500 = 0 ∧ (∀ j, j ≠ 500 → j ≠ 509 → j ≠ 510 → j ≠ 511 → j ≠ 512 → j ≠ 520 → F1 j = F j) ∧ (∀ k, k ≠ 41 → k ≠ 42 → k ≠ 43 → k ≠ 44 → k ≠ 45 → k ≠ 46 → k ≠ 47 → k ≠ 48 → k ≠ 56 → A1 k = A k) ∧ (chP F A → F1 509 = 1 ∧ KM F1 A1 ∧ (plM F1 → z = RM (A1 44) (A1 38) 0 (F 501 - 1).toNat) ∧ (¬ plM F1 → z = -1)) ∧ (¬ chP F A → z = -1 ∧ F1 = fuP F 500 0 ∧ A1 = A)) := by
  refine z_ofI (by decide) (Nat.le_of_ble_eq_true rfl) ?_
  intro p e s m args below meth c0 A0 Q C0 ret hP hD hS ls hl
  obtain ⟨S, hK, hA⟩ := C0
  have hx := S.1
  have hb := S.2.1
  have hown := S.2.2.2.1
  have hts : ∀ w ∈ zG, w.before args s = true := fun w h => S.2.2.2.2 w (List.mem_cons_of_mem _ h)
  have hl : lv_has ls 7 [(0, .ref (q 5))] := hl
  refine lv_aload_n hx hb zd_X_room_0 rfl (lv_at hl 0 rfl) ?_
  refine lv_iconst (v := iI (0)) hx hb zd_X_room_1 rfl ?_
  refine va_put (D := D) (ci := 5) (v := .int (iI (0))) (ty := .int) (C := zR_X) (T := zT_X) (N := 34) hx hb hts zi_X zk_X zo_X zn_X hown hK.1 hP hD hS 5 ga_5 rfl 0 (by decide) (hts _ zw_533) (fun _ h9 => h9) rfl (by decide +kernel) (rfl) (rfl) (Nat.le_of_ble_eq_true rfl) zd_X_room_2 (fun H locs hP hD hS => ?_)
  rw [gs_5_0] at hP hD
  refine lv_aload_n hx hb zd_X_room_5 rfl (lv_at hl 0 rfl) ?_
  refine z_goi (z_runV (n := 0) (k := 5) (ci := 5) (As := []) (rest := []) S (c_X_isChain l D q c _ (fuP F 500 0) A (hmn) (hmm) (hmch)) zw_753 zw_755 zs_52 zw_6 zw_756 ⟨by decide +kernel, by decide, rfl, rfl⟩ hK hP hD ga_5 rfl rfl rfl hl.1 rfl (Nat.le_of_ble_eq_true rfl) zd_X_room_6 ⟨Nat.zero_le _, Nat.zero_le _⟩) hD hS hA (fun z_6 F_6 A_6 H locs hq_6 hP hD hS => ?_)
  obtain ⟨hf_6, ha_6, hq_6⟩ := hq_6
  rw [hf_6, ha_6] at hP hD
  have b6_ : z_6 = 0 ∨ z_6 = 1 := hq_6.1
  refine x_if_eq (tgt := 19) hx hb zd_X_room_9 (by decide) (⟨by omega, by omega⟩) (fun h_9 => ?_) (fun h_9 => ?_)
  · have hch_ : ¬ chP F A := fun h => by have := hq_6.2.mpr h; omega
    refine lv_iconst (v := iI (-1)) hx hb zd_X_room_19 rfl ?_
    exact ret _ _ _ _ _ _ _ zd_X_room_20 hP hD hS (by first | exact ⟨(k2 500 (by decide) (by decide) (by decide) (by decide) (by decide)), fun j h0 h1 h2 h3 h4 h5 => (k2 j h1 h2 h3 h4 h5).trans (by simp [fuP, h0]), fun k h1 h2 h3 h4 h5 h6 h7 h8 _ => k3 k h1 h2 h3 h4 h5 h6 h7 h8, fun _ => ⟨k1, k4, fun h => absurd h hpl_, fun _ => rfl⟩, fun h => absurd hch_ h⟩ | exact ⟨rfl, fun j h0 h1 h2 h3 h4 h5 => by simp [fuP, h0], fun k _ _ _ _ _ _ _ _ _ => rfl, fun h => absurd h hch_, fun _ => ⟨rfl, rfl, rfl⟩⟩)
  · have hch_ : chP F A := hq_6.2.mp (by omega)
    refine lv_aload_n hx hb zd_X_room_12 rfl (lv_at hl 0 rfl) ?_
    refine z_goi (z_runV (n := 0) (k := 5) (ci := 5) (As := []) (rest := []) S (c_X_isPlain l D q c _ (fuP F 500 0) A (hmn) (hmm) (hmch) (hmk)) zw_709 zw_711 zs_46 zw_6 zw_712 ⟨by decide +kernel, by decide, rfl, rfl⟩ hK hP hD ga_5 rfl rfl rfl hl.1 rfl (Nat.le_of_ble_eq_true rfl) zd_X_room_13 ⟨Nat.zero_le _, Nat.zero_le _⟩) hD hS hA (fun z_13 F_13 A_13 H locs hq_13 hP hD hS => ?_)
    obtain ⟨⟨k1, k2, k3, k4⟩, k5⟩ := hq_13
    have f501 : F_13 501 = F 501 := k2 501 (by decide) (by decide) (by decide) (by decide) (by decide)
    have f502 : F_13 502 = F 502 := k2 502 (by decide) (by decide) (by decide) (by decide) (by decide)
    have hb_ := KM_b k4 (by rw [f501]; exact hmn) (by rw [f502]; exact hmm)
    have b01_ : z_13 = 0 ∨ z_13 = 1 := by rw [k5]; split <;> simp
    refine x_if_ne (tgt := 21) hx hb zd_X_room_16 (by decide) (⟨by omega, by omega⟩) (fun h_16 => ?_) (fun h_16 => ?_)
    · have hpl_ : plM F_13 := by (rw [k5] at h_16; split at h_16; (assumption); (omega))
      obtain ⟨m1, m2, m3⟩ := kn_mct (by rw [f501]; exact hmn) k4.2.1 ((k4.2.2.2.2 hpl_.1).1) hpl_.2
      rw [f501] at m1
      have x38 := k3 38 (by decide) (by decide) (by decide) (by decide) (by decide) (by decide) (by decide) (by decide)
      have hpu_ : ∀ a, 0 ≤ a → a < F 501 - 1 → 1 ≤ A_13 38 a ∧ A_13 38 a ≤ 9 := fun a h0 h1 => by (rw [x38]; exact (hmch a h0 (by have := hch_.1; omega)).2.2.1)
      have hcc_ := hch_.1
      refine lv_iconst (v := iI (0)) hx hb zd_X_room_21 rfl ?_
      refine lv_istore_n (lv' := [(1, .int (iI (0))), (0, .ref (q 5))]) hx hb zd_X_room_22 rfl hl (by decide) rfl (fun ls hl => ?_)
      have L_23 : ∀ (fu : Nat) (sz1 : Int)  (A23 : Nat → Int → Int), (0 ≤ sz1 ∧ sz1 ≤ F 501) → (∀ k, k ≠ 56 → A23 k = A_13 k) → (∀ x y, 0 ≤ x → x ≤ y → y < F 501 → y - x < sz1 → A23 56 (8 * x + y) = RM (A_13 44) (A_13 38) x (y - x).toNat) → (F 501 - sz1 < (fu : Int)) → ∀ (H : Heap) (locs : List Loc), va_P D zcl (gw q c F_13 A23) H → va_D A0 (gw q c F_13 A23) → va_S A0 s.heap H locs → ∀ ls : Array Slot, lv_has ls 7 [(0, .ref (q 5)), (1, .int (iI (sz1)))] → W p l e zr_X_room s m args below meth c0 H locs 0 0 Q (F0 m 23 ls []) := by
        intro fu
        induction fu with
        | zero => intro sz1  A23 hz hk ht hm_23; exact absurd hm_23 (by omega)
        | succ fu ih_23 =>
          intro sz1  A23 hz hk ht hm_23 H locs hP hD hS ls hl
          refine lv_iload_n hx hb zd_X_room_23 rfl (lv_at hl 1 rfl) ?_
          refine lv_aload_n hx hb zd_X_room_24 rfl (lv_at hl 0 rfl) ?_
          refine va_get (D := D) (ci := 5) (v := .int (iI (F_13 501))) (C := zR_X) (T := zT_X) (N := 34) hx hb hts zi_X hown hK.1 hP 5 ga_5 rfl 1 (by decide) (hts _ zw_534) (fun _ h9 => h9) rfl zd_X_room_25 ?_
          refine x_icmp_ge (tgt := 172) hx hb zd_X_room_28 (by decide) (⟨by omega, by omega⟩) (⟨by omega, by omega⟩) (fun h_28 => ?_) (fun h_28 => ?_)
          · have e_ : sz1 = F 501 := by omega
            rw [e_] at ht
            refine lv_aload_n hx hb zd_X_room_172 rfl (lv_at hl 0 rfl) ?_
            refine va_get (D := D) (ci := 5) (v := .ref (q 56)) (C := zR_X) (T := zT_X) (N := 34) hx hb hts zi_X hown hK.1 hP 5 ga_5 rfl 33 (by decide) (hts _ zw_566) (fun _ h9 => h9) rfl zd_X_room_173 ?_
            refine lv_aload_n hx hb zd_X_room_176 rfl (lv_at hl 0 rfl) ?_
            refine va_get (D := D) (ci := 5) (v := .int (iI (F_13 501))) (C := zR_X) (T := zT_X) (N := 34) hx hb hts zi_X hown hK.1 hP 5 ga_5 rfl 1 (by decide) (hts _ zw_534) (fun _ h9 => h9) rfl zd_X_room_177 ?_
            refine lv_iconst (v := iI (1)) hx hb zd_X_room_180 rfl ?_
            refine x_isub hx hb zd_X_room_181 ?_
            refine x_iald (v := RM (A_13 44) (A_13 38) 0 (F 501 - 1).toNat) hx hb hK.1 hP 56 0 ga_56 rfl (by decide) (by omega) (by omega) (by have h9 := ht 0 (F 501 - 1) (by omega) (by omega) (by omega) (by omega); rw [show F 501 - 1 - 0 = F 501 - 1 by omega] at h9; rw [f501]; rw [show 8 * (0 : Int) + (F 501 - 1) = F 501 - 1 by omega] at h9; exact h9) zd_X_room_182 ?_
            exact ret _ _ _ _ _ _ _ zd_X_room_183 hP hD hS (⟨(k2 500 (by decide) (by decide) (by decide) (by decide) (by decide)), fun j h0 h1 h2 h3 h4 h5 => (k2 j h1 h2 h3 h4 h5).trans (by simp [fuP, h0]), fun k h1 h2 h3 h4 h5 h6 h7 h8 h9 => (hk k h9).trans (k3 k h1 h2 h3 h4 h5 h6 h7 h8), fun _ => ⟨k1, KM_cg rfl rfl rfl rfl rfl rfl (fun k _ h => hk k (by omega)) k4, fun _ => by rw [hk 44 (by decide), hk 38 (by decide)], fun h => absurd hpl_ h⟩, fun h => absurd hch_ h⟩)
          · refine lv_iconst (v := iI (0)) hx hb zd_X_room_31 rfl ?_
            refine lv_istore_n (lv' := [(2, .int (iI (0))), (0, .ref (q 5)), (1, .int (iI (sz1)))]) hx hb zd_X_room_32 rfl hl (by decide) rfl (fun ls hl => ?_)
            have L_33 : ∀ (fu : Nat) (i : Int)  (A33 : Nat → Int → Int), (0 ≤ i ∧ i + sz1 ≤ F 501) → (∀ k, k ≠ 56 → A33 k = A_13 k) → (∀ x y, 0 ≤ x → x ≤ y → y < F 501 → (y - x < sz1 ∨ (y - x = sz1 ∧ x < i)) → A33 56 (8 * x + y) = RM (A_13 44) (A_13 38) x (y - x).toNat) → (F 501 - i < (fu : Int)) → ∀ (H : Heap) (locs : List Loc), va_P D zcl (gw q c F_13 A33) H → va_D A0 (gw q c F_13 A33) → va_S A0 s.heap H locs → ∀ ls : Array Slot, lv_has ls 7 [(0, .ref (q 5)), (1, .int (iI (sz1))), (2, .int (iI (i)))] → W p l e zr_X_room s m args below meth c0 H locs 0 0 Q (F0 m 33 ls []) := by
              intro fu
              induction fu with
              | zero => intro i  A33 hi hk ht hm_33; exact absurd hm_33 (by omega)
              | succ fu ih_33 =>
                intro i  A33 hi hk ht hm_33 H locs hP hD hS ls hl
                refine lv_iload_n hx hb zd_X_room_33 rfl (lv_at hl 2 rfl) ?_
                refine lv_iload_n hx hb zd_X_room_34 rfl (lv_at hl 1 rfl) ?_
                refine x_iadd hx hb zd_X_room_35 ?_
                refine lv_aload_n hx hb zd_X_room_36 rfl (lv_at hl 0 rfl) ?_
                refine va_get (D := D) (ci := 5) (v := .int (iI (F_13 501))) (C := zR_X) (T := zT_X) (N := 34) hx hb hts zi_X hown hK.1 hP 5 ga_5 rfl 1 (by decide) (hts _ zw_534) (fun _ h9 => h9) rfl zd_X_room_37 ?_
                refine x_icmp_ge (tgt := 166) hx hb zd_X_room_40 (by decide) (⟨by omega, by omega⟩) (⟨by omega, by omega⟩) (fun h_40 => ?_) (fun h_40 => ?_)
                · refine lv_iinc (v := iI (sz1 + 1)) (lv' := [(1, .int (iI (sz1 + 1))), (0, .ref (q 5)), (2, .int (iI (i)))]) hx hb zd_X_room_166 hl (k := 1) rfl (iI_add _ _) (by decide) rfl (fun ls hl => ?_)
                  refine lv_goto (tgt := 23) hx hb zd_X_room_169 (by decide) ?_
                  exact ih_23 (sz1 + 1)  A33 (by first | assumption | omega | (simp_all; done)) (hk) (fun x y h0 h1 h2 h3 => ht x y h0 h1 h2 (by omega)) (by omega) _ _ hP hD hS ls (lv_sub hl [1, 0] rfl)
                · refine lv_iload_n hx hb zd_X_room_43 rfl (lv_at hl 2 rfl) ?_
                  refine lv_iload_n hx hb zd_X_room_44 rfl (lv_at hl 1 rfl) ?_
                  refine x_iadd hx hb zd_X_room_45 ?_
                  refine lv_istore_n (lv' := [(3, .int (iI (i + sz1))), (0, .ref (q 5)), (1, .int (iI (sz1))), (2, .int (iI (i)))]) hx hb zd_X_room_46 rfl hl (by decide) rfl (fun ls hl => ?_)
                  refine lv_iload_n hx hb zd_X_room_47 rfl (lv_at hl 2 rfl) ?_
                  refine x_if_ne (tgt := 55) hx hb zd_X_room_48 (by decide) (⟨by omega, by omega⟩) (fun h_48 => ?_) (fun h_48 => ?_)
                  · refine lv_iconst (v := iI (-1)) hx hb zd_X_room_55 rfl ?_
                    refine lv_istore (lv' := [(4, .int (iI (-1))), (3, .int (iI (i + sz1))), (0, .ref (q 5)), (1, .int (iI (sz1))), (2, .int (iI (i)))]) hx hb zd_X_room_56 hl (by decide) rfl (fun ls hl => ?_)
                    refine lv_iload_n hx hb zd_X_room_58 rfl (lv_at hl 4 rfl) ?_
                    refine lv_istore (lv' := [(5, .int (iI (i))), (4, .int (iI (-1))), (3, .int (iI (i + sz1))), (0, .ref (q 5)), (1, .int (iI (sz1))), (2, .int (iI (i)))]) hx hb zd_X_room_59 hl (by decide) rfl (fun ls hl => ?_)
                    have L_61 : ∀ (fu : Nat) (be : Int) (k1 : Int) , (i ≤ k1 ∧ k1 ≤ i + sz1) → ((k1 = i ∧ be = if sz1 = 0 then 0 else -1) ∨ (i < k1 ∧ be = rmB (A_13 44) (A_13 38) i (i + sz1) k1 ∧ 0 ≤ be)) → (-1 ≤ be ∧ be ≤ 30000) → (i + sz1 - k1 < (fu : Int)) → ∀ (H : Heap) (locs : List Loc), va_P D zcl (gw q c F_13 A33) H → va_D A0 (gw q c F_13 A33) → va_S A0 s.heap H locs → ∀ ls : Array Slot, lv_has ls 7 [(0, .ref (q 5)), (1, .int (iI (sz1))), (2, .int (iI (i))), (3, .int (iI (i + sz1))), (4, .int (iI (be))), (5, .int (iI (k1)))] → W p l e zr_X_room s m args below meth c0 H locs 0 0 Q (F0 m 61 ls []) := by
                      intro fu
                      induction fu with
                      | zero => intro be k1   hk1 hbe hbb hm_61; exact absurd hm_61 (by omega)
                      | succ fu ih_61 =>
                        intro be k1   hk1 hbe hbb hm_61 H locs hP hD hS ls hl
                        have e44 := hk 44 (by decide)
                        have e38 := hk 38 (by decide)
                        refine lv_iload hx hb zd_X_room_61 (lv_at hl 5 rfl) ?_
                        refine lv_iload_n hx hb zd_X_room_63 rfl (lv_at hl 3 rfl) ?_
                        refine x_icmp_ge (tgt := 147) hx hb zd_X_room_64 (by decide) (⟨by omega, by omega⟩) (⟨by omega, by omega⟩) (fun h_64 => ?_) (fun h_64 => ?_)
                        · have r_ : be = RM (A_13 44) (A_13 38) i (i + sz1 - i).toNat := by (rcases hbe with ⟨h1, h2⟩ | ⟨h1, h2, h3⟩; (have e_ : sz1 = 0 := (by omega); rw [h2, if_pos e_, e_, show i + 0 - i = 0 by omega]; rfl); (rw [h2, show k1 = i + sz1 by omega]; exact rmB_e (by omega)))
                          refine lv_aload_n hx hb zd_X_room_147 rfl (lv_at hl 0 rfl) ?_
                          refine va_get (D := D) (ci := 5) (v := .ref (q 56)) (C := zR_X) (T := zT_X) (N := 34) hx hb hts zi_X hown hK.1 hP 5 ga_5 rfl 33 (by decide) (hts _ zw_566) (fun _ h9 => h9) rfl zd_X_room_148 ?_
                          refine lv_bipush (v := iI (8)) hx hb zd_X_room_151 (by decide) ?_
                          refine lv_iload_n hx hb zd_X_room_153 rfl (lv_at hl 2 rfl) ?_
                          refine x_imul hx hb zd_X_room_154 ?_
                          refine lv_iload_n hx hb zd_X_room_155 rfl (lv_at hl 3 rfl) ?_
                          refine x_iadd hx hb zd_X_room_156 ?_
                          refine lv_iload hx hb zd_X_room_157 (lv_at hl 4 rfl) ?_
                          refine x_iast hx hb hK.1 hP hD hS 56 0 ga_56 rfl (by decide) (by omega) (by omega) zd_X_room_159 (fun H locs hP hD hS => ?_)
                          rw [gs_56] at hP hD
                          refine lv_iinc (v := iI (i + 1)) (lv' := [(2, .int (iI (i + 1))), (0, .ref (q 5)), (1, .int (iI (sz1))), (3, .int (iI (i + sz1))), (4, .int (iI (be))), (5, .int (iI (k1)))]) hx hb zd_X_room_160 hl (k := 2) rfl (iI_add _ _) (by decide) rfl (fun ls hl => ?_)
                          refine lv_goto (tgt := 33) hx hb zd_X_room_163 (by decide) ?_
                          exact ih_33 (i + 1)  (auP A33 56 ((8 * i) + (i + sz1)) be) (by first | assumption | omega | (simp_all; done)) (fun k h => by simp only [auP, h, if_false]; exact hk k h) (fun x y h0 h1 h2 h3 => by show upI (A33 56) (8 * i + (i + sz1)) be (8 * x + y) = _; by_cases e_ : x = i ∧ y = i + sz1; (rw [e_.1, e_.2, upI_s]; exact r_); (rw [upI_n (by omega)]; exact ht x y h0 h1 h2 (by omega))) (by omega) _ _ hP hD hS ls (lv_sub hl [1, 2, 0] rfl)
                        · have t1_ := ht i k1 (by omega) (by omega) (by omega) (by omega)
                          have t2_ := ht (k1 + 1) (i + sz1) (by omega) (by omega) (by omega) (by omega)
                          have b1_ := RM_b m1 hpu_ (k1 - i).toNat i (by omega) (by omega)
                          have b2_ := RM_b m1 hpu_ (i + sz1 - (k1 + 1)).toNat (k1 + 1) (by omega) (by omega)
                          have c1_ := m1 k1 (by omega) (by omega)
                          have c2_ := hpu_ k1 (by omega) (by omega)
                          have c3_ := mulb c1_ c2_
                          refine lv_aload_n hx hb zd_X_room_67 rfl (lv_at hl 0 rfl) ?_
                          refine va_get (D := D) (ci := 5) (v := .ref (q 56)) (C := zR_X) (T := zT_X) (N := 34) hx hb hts zi_X hown hK.1 hP 5 ga_5 rfl 33 (by decide) (hts _ zw_566) (fun _ h9 => h9) rfl zd_X_room_68 ?_
                          refine lv_bipush (v := iI (8)) hx hb zd_X_room_71 (by decide) ?_
                          refine lv_iload_n hx hb zd_X_room_73 rfl (lv_at hl 2 rfl) ?_
                          refine x_imul hx hb zd_X_room_74 ?_
                          refine lv_iload hx hb zd_X_room_75 (lv_at hl 5 rfl) ?_
                          refine x_iadd hx hb zd_X_room_77 ?_
                          refine x_iald (v := RM (A_13 44) (A_13 38) i (k1 - i).toNat) hx hb hK.1 hP 56 0 ga_56 rfl (by decide) (by omega) (by omega) (t1_) zd_X_room_78 ?_
                          refine lv_aload_n hx hb zd_X_room_79 rfl (lv_at hl 0 rfl) ?_
                          refine va_get (D := D) (ci := 5) (v := .ref (q 56)) (C := zR_X) (T := zT_X) (N := 34) hx hb hts zi_X hown hK.1 hP 5 ga_5 rfl 33 (by decide) (hts _ zw_566) (fun _ h9 => h9) rfl zd_X_room_80 ?_
                          refine lv_bipush (v := iI (8)) hx hb zd_X_room_83 (by decide) ?_
                          refine lv_iload hx hb zd_X_room_85 (lv_at hl 5 rfl) ?_
                          refine lv_iconst (v := iI (1)) hx hb zd_X_room_87 rfl ?_
                          refine x_iadd hx hb zd_X_room_88 ?_
                          refine x_imul hx hb zd_X_room_89 ?_
                          refine lv_iload_n hx hb zd_X_room_90 rfl (lv_at hl 3 rfl) ?_
                          refine x_iadd hx hb zd_X_room_91 ?_
                          refine x_iald (v := RM (A_13 44) (A_13 38) (k1 + 1) (i + sz1 - (k1 + 1)).toNat) hx hb hK.1 hP 56 0 ga_56 rfl (by decide) (by omega) (by omega) (t2_) zd_X_room_92 ?_
                          refine x_iadd hx hb zd_X_room_93 ?_
                          refine lv_aload_n hx hb zd_X_room_94 rfl (lv_at hl 0 rfl) ?_
                          refine va_get (D := D) (ci := 5) (v := .ref (q 44)) (C := zR_X) (T := zT_X) (N := 34) hx hb hts zi_X hown hK.1 hP 5 ga_5 rfl 16 (by decide) (hts _ zw_549) (fun _ h9 => h9) rfl zd_X_room_95 ?_
                          refine lv_iload hx hb zd_X_room_98 (lv_at hl 5 rfl) ?_
                          refine x_iald (v := A_13 44 k1) hx hb hK.1 hP 44 0 ga_44 rfl (by decide) (by omega) (by omega) (by rw [e44]) zd_X_room_100 ?_
                          refine lv_aload_n hx hb zd_X_room_101 rfl (lv_at hl 0 rfl) ?_
                          refine va_get (D := D) (ci := 5) (v := .ref (q 38)) (C := zR_X) (T := zT_X) (N := 34) hx hb hts zi_X hown hK.1 hP 5 ga_5 rfl 6 (by decide) (hts _ zw_539) (fun _ h9 => h9) rfl zd_X_room_102 ?_
                          refine lv_iload hx hb zd_X_room_105 (lv_at hl 5 rfl) ?_
                          refine x_iald (v := A_13 38 k1) hx hb hK.1 hP 38 0 ga_38 rfl (by decide) (by omega) (by omega) (by rw [e38]) zd_X_room_107 ?_
                          refine x_imul hx hb zd_X_room_108 ?_
                          refine lv_aload_n hx hb zd_X_room_109 rfl (lv_at hl 0 rfl) ?_
                          refine lv_iload_n hx hb zd_X_room_110 rfl (lv_at hl 2 rfl) ?_
                          refine lv_iload_n hx hb zd_X_room_111 rfl (lv_at hl 3 rfl) ?_
                          refine z_goi (z_runV (n := 2) (k := 5) (ci := 5) (As := [.int (iI (i)), .int (iI (i + sz1))]) (rest := [.int (iI ((A_13 44 k1) * (A_13 38 k1))), .int (iI ((RM (A_13 44) (A_13 38) i (k1 - i).toNat) + (RM (A_13 44) (A_13 38) (k1 + 1) (i + sz1 - (k1 + 1)).toNat)))]) S (c_X_divisorOf l D q c _ F_13 A33 i (i + sz1) (by first | omega | (rw [e44, f501]; exact m1)) (by first | omega | (rw [e44, f501]; exact m1)) (by first | omega | (rw [e44, f501]; exact m1))) zw_757 zw_759 zs_53 zw_6 zw_760 ⟨by decide +kernel, by decide, rfl, rfl⟩ hK hP hD ga_5 rfl rfl rfl hl.1 rfl (Nat.le_of_ble_eq_true rfl) zd_X_room_112 ⟨Nat.zero_le _, Nat.zero_le _⟩) hD hS hA (fun z_112 F_112 A_112 H locs hq_112 hP hD hS => ?_)
                          obtain ⟨hf_112, ha_112, hq_112⟩ := hq_112
                          rw [hf_112, ha_112] at hP hD
                          obtain ⟨d1_, d2_⟩ := hq_112
                          have q_ := tdv_b (a := A_13 44 k1 * A_13 38 k1) (b := z_112) (B := 3600) (by omega) (by omega)
                          have v_ := rmV_e (cn := A_13 44) (pu := A_13 38) (i := i) (j := i + sz1) (k := k1) (by omega) (by omega)
                          have d1c_ : dvN (A_13 44) i (i + sz1 - i).toNat = z_112 := by rw [d1_, e44]
                          rw [d1c_] at v_
                          refine x_idiv hx hb zd_X_room_115 (⟨by omega, by omega⟩) (⟨by omega, by omega⟩) (by omega) ?_
                          refine x_iadd hx hb zd_X_room_116 ?_
                          refine lv_istore (lv' := [(6, .int (iI (((RM (A_13 44) (A_13 38) i (k1 - i).toNat) + (RM (A_13 44) (A_13 38) (k1 + 1) (i + sz1 - (k1 + 1)).toNat)) + (((A_13 44 k1) * (A_13 38 k1)).tdiv z_112)))), (0, .ref (q 5)), (1, .int (iI (sz1))), (2, .int (iI (i))), (3, .int (iI (i + sz1))), (4, .int (iI (be))), (5, .int (iI (k1)))]) hx hb zd_X_room_117 hl (by decide) rfl (fun ls hl => ?_)
                          refine lv_iload hx hb zd_X_room_119 (lv_at hl 5 rfl) ?_
                          refine lv_iconst (v := iI (-1)) hx hb zd_X_room_121 rfl ?_
                          refine x_icmp_eq (tgt := 132) hx hb zd_X_room_122 (by decide) (⟨by omega, by omega⟩) (⟨by omega, by omega⟩) (fun h_122 => ?_) (fun h_122 => ?_)
                          · refine lv_iload hx hb zd_X_room_132 (lv_at hl 0 rfl) ?_
                            refine lv_goto (tgt := 139) hx hb zd_X_room_134 (by decide) ?_
                            refine lv_istore (lv' := [(4, .int (iI (((RM (A_13 44) (A_13 38) i (k1 - i).toNat) + (RM (A_13 44) (A_13 38) (k1 + 1) (i + sz1 - (k1 + 1)).toNat)) + (((A_13 44 k1) * (A_13 38 k1)).tdiv z_112)))), (6, .int (iI (((RM (A_13 44) (A_13 38) i (k1 - i).toNat) + (RM (A_13 44) (A_13 38) (k1 + 1) (i + sz1 - (k1 + 1)).toNat)) + (((A_13 44 k1) * (A_13 38 k1)).tdiv z_112)))), (0, .ref (q 5)), (1, .int (iI (sz1))), (2, .int (iI (i))), (3, .int (iI (i + sz1))), (5, .int (iI (k1)))]) hx hb zd_X_room_139 hl (by decide) rfl (fun ls hl => ?_)
                            refine lv_iinc (v := iI (k1 + 1)) (lv' := [(5, .int (iI (k1 + 1))), (4, .int (iI (((RM (A_13 44) (A_13 38) i (k1 - i).toNat) + (RM (A_13 44) (A_13 38) (k1 + 1) (i + sz1 - (k1 + 1)).toNat)) + (((A_13 44 k1) * (A_13 38 k1)).tdiv z_112)))), (6, .int (iI (((RM (A_13 44) (A_13 38) i (k1 - i).toNat) + (RM (A_13 44) (A_13 38) (k1 + 1) (i + sz1 - (k1 + 1)).toNat)) + (((A_13 44 k1) * (A_13 38 k1)).tdiv z_112)))), (0, .ref (q 5)), (1, .int (iI (sz1))), (2, .int (iI (i))), (3, .int (iI (i + sz1)))]) hx hb zd_X_room_141 hl (k := 6) rfl (iI_add _ _) (by decide) rfl (fun ls hl => ?_)
                            refine lv_goto (tgt := 61) hx hb zd_X_room_144 (by decide) ?_
                            exact ih_61 (((RM (A_13 44) (A_13 38) i (k1 - i).toNat) + (RM (A_13 44) (A_13 38) (k1 + 1) (i + sz1 - (k1 + 1)).toNat)) + (((A_13 44 k1) * (A_13 38 k1)).tdiv z_112)) (k1 + 1)   (by first | assumption | omega | (simp_all; done)) (Or.inr ⟨by omega, by (rcases hbe with ⟨h1, h2⟩ | ⟨h1, h2, h3⟩; (rw [if_neg (by omega)] at h2; first | (exfalso; omega) | (rw [h1, rmB_0] ; rw [h1] at v_; rw [show (i - i).toNat = 0 by omega] at v_; rw [v_, show (i - i).toNat = 0 by omega])); (rw [rmB_s h1, ← h2, v_]; omega)), by (rcases hbe with ⟨h1, h2⟩ | ⟨h1, h2, h3⟩ <;> omega)⟩) (by first | assumption | omega | (simp_all; done)) (by omega) _ _ hP hD hS ls (lv_sub hl [3, 4, 5, 6, 1, 0] rfl)
                          · refine lv_iload hx hb zd_X_room_125 (lv_at hl 0 rfl) ?_
                            refine lv_iload hx hb zd_X_room_127 (lv_at hl 5 rfl) ?_
                            refine x_icmp_ge (tgt := 137) hx hb zd_X_room_129 (by decide) (⟨by omega, by omega⟩) (⟨by omega, by omega⟩) (fun h_129 => ?_) (fun h_129 => ?_)
                            · refine lv_iload hx hb zd_X_room_137 (lv_at hl 5 rfl) ?_
                              refine lv_istore (lv' := [(4, .int (iI (be))), (6, .int (iI (((RM (A_13 44) (A_13 38) i (k1 - i).toNat) + (RM (A_13 44) (A_13 38) (k1 + 1) (i + sz1 - (k1 + 1)).toNat)) + (((A_13 44 k1) * (A_13 38 k1)).tdiv z_112)))), (0, .ref (q 5)), (1, .int (iI (sz1))), (2, .int (iI (i))), (3, .int (iI (i + sz1))), (5, .int (iI (k1)))]) hx hb zd_X_room_139 hl (by decide) rfl (fun ls hl => ?_)
                              refine lv_iinc (v := iI (k1 + 1)) (lv' := [(5, .int (iI (k1 + 1))), (4, .int (iI (be))), (6, .int (iI (((RM (A_13 44) (A_13 38) i (k1 - i).toNat) + (RM (A_13 44) (A_13 38) (k1 + 1) (i + sz1 - (k1 + 1)).toNat)) + (((A_13 44 k1) * (A_13 38 k1)).tdiv z_112)))), (0, .ref (q 5)), (1, .int (iI (sz1))), (2, .int (iI (i))), (3, .int (iI (i + sz1)))]) hx hb zd_X_room_141 hl (k := 6) rfl (iI_add _ _) (by decide) rfl (fun ls hl => ?_)
                              refine lv_goto (tgt := 61) hx hb zd_X_room_144 (by decide) ?_
                              exact ih_61 (be) (k1 + 1)   (by first | assumption | omega | (simp_all; done)) (Or.inr ⟨by omega, by (rcases hbe with ⟨h1, h2⟩ | ⟨h1, h2, h3⟩; (rw [if_neg (by omega)] at h2; first | (exfalso; omega) | (rw [h1, rmB_0] ; rw [h1] at v_; rw [show (i - i).toNat = 0 by omega] at v_; rw [v_, show (i - i).toNat = 0 by omega])); (rw [rmB_s h1, ← h2, v_]; omega)), by (rcases hbe with ⟨h1, h2⟩ | ⟨h1, h2, h3⟩ <;> omega)⟩) (by first | assumption | omega | (simp_all; done)) (by omega) _ _ hP hD hS ls (lv_sub hl [3, 4, 5, 6, 1, 0] rfl)
                            · refine lv_iload hx hb zd_X_room_132 (lv_at hl 0 rfl) ?_
                              refine lv_goto (tgt := 139) hx hb zd_X_room_134 (by decide) ?_
                              refine lv_istore (lv' := [(4, .int (iI (((RM (A_13 44) (A_13 38) i (k1 - i).toNat) + (RM (A_13 44) (A_13 38) (k1 + 1) (i + sz1 - (k1 + 1)).toNat)) + (((A_13 44 k1) * (A_13 38 k1)).tdiv z_112)))), (6, .int (iI (((RM (A_13 44) (A_13 38) i (k1 - i).toNat) + (RM (A_13 44) (A_13 38) (k1 + 1) (i + sz1 - (k1 + 1)).toNat)) + (((A_13 44 k1) * (A_13 38 k1)).tdiv z_112)))), (0, .ref (q 5)), (1, .int (iI (sz1))), (2, .int (iI (i))), (3, .int (iI (i + sz1))), (5, .int (iI (k1)))]) hx hb zd_X_room_139 hl (by decide) rfl (fun ls hl => ?_)
                              refine lv_iinc (v := iI (k1 + 1)) (lv' := [(5, .int (iI (k1 + 1))), (4, .int (iI (((RM (A_13 44) (A_13 38) i (k1 - i).toNat) + (RM (A_13 44) (A_13 38) (k1 + 1) (i + sz1 - (k1 + 1)).toNat)) + (((A_13 44 k1) * (A_13 38 k1)).tdiv z_112)))), (6, .int (iI (((RM (A_13 44) (A_13 38) i (k1 - i).toNat) + (RM (A_13 44) (A_13 38) (k1 + 1) (i + sz1 - (k1 + 1)).toNat)) + (((A_13 44 k1) * (A_13 38 k1)).tdiv z_112)))), (0, .ref (q 5)), (1, .int (iI (sz1))), (2, .int (iI (i))), (3, .int (iI (i + sz1)))]) hx hb zd_X_room_141 hl (k := 6) rfl (iI_add _ _) (by decide) rfl (fun ls hl => ?_)
                              refine lv_goto (tgt := 61) hx hb zd_X_room_144 (by decide) ?_
                              exact ih_61 (((RM (A_13 44) (A_13 38) i (k1 - i).toNat) + (RM (A_13 44) (A_13 38) (k1 + 1) (i + sz1 - (k1 + 1)).toNat)) + (((A_13 44 k1) * (A_13 38 k1)).tdiv z_112)) (k1 + 1)   (by first | assumption | omega | (simp_all; done)) (Or.inr ⟨by omega, by (rcases hbe with ⟨h1, h2⟩ | ⟨h1, h2, h3⟩; (rw [if_neg (by omega)] at h2; first | (exfalso; omega) | (rw [h1, rmB_0] ; rw [h1] at v_; rw [show (i - i).toNat = 0 by omega] at v_; rw [v_, show (i - i).toNat = 0 by omega])); (rw [rmB_s h1, ← h2, v_]; omega)), by (rcases hbe with ⟨h1, h2⟩ | ⟨h1, h2, h3⟩ <;> omega)⟩) (by first | assumption | omega | (simp_all; done)) (by omega) _ _ hP hD hS ls (lv_sub hl [3, 4, 5, 6, 1, 0] rfl)
                    exact L_61 (((i + sz1 - (i) : Int) + 1).toNat) (-1) (i)   (by first | assumption | omega | (simp_all; done)) (Or.inl ⟨rfl, by first | rw [if_pos h_48] | rw [if_neg h_48]⟩) (by first | assumption | omega | (simp_all; done)) (by omega) _ _ hP hD hS ls (lv_sub hl [3, 4, 5, 2, 1, 0] rfl)
                  · refine lv_iconst (v := iI (0)) hx hb zd_X_room_51 rfl ?_
                    refine lv_goto (tgt := 56) hx hb zd_X_room_52 (by decide) ?_
                    refine lv_istore (lv' := [(4, .int (iI (0))), (3, .int (iI (i + sz1))), (0, .ref (q 5)), (1, .int (iI (sz1))), (2, .int (iI (i)))]) hx hb zd_X_room_56 hl (by decide) rfl (fun ls hl => ?_)
                    refine lv_iload_n hx hb zd_X_room_58 rfl (lv_at hl 4 rfl) ?_
                    refine lv_istore (lv' := [(5, .int (iI (i))), (4, .int (iI (0))), (3, .int (iI (i + sz1))), (0, .ref (q 5)), (1, .int (iI (sz1))), (2, .int (iI (i)))]) hx hb zd_X_room_59 hl (by decide) rfl (fun ls hl => ?_)
                    have L_61 : ∀ (fu : Nat) (be : Int) (k1 : Int) , (i ≤ k1 ∧ k1 ≤ i + sz1) → ((k1 = i ∧ be = if sz1 = 0 then 0 else -1) ∨ (i < k1 ∧ be = rmB (A_13 44) (A_13 38) i (i + sz1) k1 ∧ 0 ≤ be)) → (-1 ≤ be ∧ be ≤ 30000) → (i + sz1 - k1 < (fu : Int)) → ∀ (H : Heap) (locs : List Loc), va_P D zcl (gw q c F_13 A33) H → va_D A0 (gw q c F_13 A33) → va_S A0 s.heap H locs → ∀ ls : Array Slot, lv_has ls 7 [(0, .ref (q 5)), (1, .int (iI (sz1))), (2, .int (iI (i))), (3, .int (iI (i + sz1))), (4, .int (iI (be))), (5, .int (iI (k1)))] → W p l e zr_X_room s m args below meth c0 H locs 0 0 Q (F0 m 61 ls []) := by
                      intro fu
                      induction fu with
                      | zero => intro be k1   hk1 hbe hbb hm_61; exact absurd hm_61 (by omega)
                      | succ fu ih_61 =>
                        intro be k1   hk1 hbe hbb hm_61 H locs hP hD hS ls hl
                        have e44 := hk 44 (by decide)
                        have e38 := hk 38 (by decide)
                        refine lv_iload hx hb zd_X_room_61 (lv_at hl 5 rfl) ?_
                        refine lv_iload_n hx hb zd_X_room_63 rfl (lv_at hl 3 rfl) ?_
                        refine x_icmp_ge (tgt := 147) hx hb zd_X_room_64 (by decide) (⟨by omega, by omega⟩) (⟨by omega, by omega⟩) (fun h_64 => ?_) (fun h_64 => ?_)
                        · have r_ : be = RM (A_13 44) (A_13 38) i (i + sz1 - i).toNat := by (rcases hbe with ⟨h1, h2⟩ | ⟨h1, h2, h3⟩; (have e_ : sz1 = 0 := (by omega); rw [h2, if_pos e_, e_, show i + 0 - i = 0 by omega]; rfl); (rw [h2, show k1 = i + sz1 by omega]; exact rmB_e (by omega)))
                          refine lv_aload_n hx hb zd_X_room_147 rfl (lv_at hl 0 rfl) ?_
                          refine va_get (D := D) (ci := 5) (v := .ref (q 56)) (C := zR_X) (T := zT_X) (N := 34) hx hb hts zi_X hown hK.1 hP 5 ga_5 rfl 33 (by decide) (hts _ zw_566) (fun _ h9 => h9) rfl zd_X_room_148 ?_
                          refine lv_bipush (v := iI (8)) hx hb zd_X_room_151 (by decide) ?_
                          refine lv_iload_n hx hb zd_X_room_153 rfl (lv_at hl 2 rfl) ?_
                          refine x_imul hx hb zd_X_room_154 ?_
                          refine lv_iload_n hx hb zd_X_room_155 rfl (lv_at hl 3 rfl) ?_
                          refine x_iadd hx hb zd_X_room_156 ?_
                          refine lv_iload hx hb zd_X_room_157 (lv_at hl 4 rfl) ?_
                          refine x_iast hx hb hK.1 hP hD hS 56 0 ga_56 rfl (by decide) (by omega) (by omega) zd_X_room_159 (fun H locs hP hD hS => ?_)
                          rw [gs_56] at hP hD
                          refine lv_iinc (v := iI (i + 1)) (lv' := [(2, .int (iI (i + 1))), (0, .ref (q 5)), (1, .int (iI (sz1))), (3, .int (iI (i + sz1))), (4, .int (iI (be))), (5, .int (iI (k1)))]) hx hb zd_X_room_160 hl (k := 2) rfl (iI_add _ _) (by decide) rfl (fun ls hl => ?_)
                          refine lv_goto (tgt := 33) hx hb zd_X_room_163 (by decide) ?_
                          exact ih_33 (i + 1)  (auP A33 56 ((8 * i) + (i + sz1)) be) (by first | assumption | omega | (simp_all; done)) (fun k h => by simp only [auP, h, if_false]; exact hk k h) (fun x y h0 h1 h2 h3 => by show upI (A33 56) (8 * i + (i + sz1)) be (8 * x + y) = _; by_cases e_ : x = i ∧ y = i + sz1; (rw [e_.1, e_.2, upI_s]; exact r_); (rw [upI_n (by omega)]; exact ht x y h0 h1 h2 (by omega))) (by omega) _ _ hP hD hS ls (lv_sub hl [1, 2, 0] rfl)
                        · have t1_ := ht i k1 (by omega) (by omega) (by omega) (by omega)
                          have t2_ := ht (k1 + 1) (i + sz1) (by omega) (by omega) (by omega) (by omega)
                          have b1_ := RM_b m1 hpu_ (k1 - i).toNat i (by omega) (by omega)
                          have b2_ := RM_b m1 hpu_ (i + sz1 - (k1 + 1)).toNat (k1 + 1) (by omega) (by omega)
                          have c1_ := m1 k1 (by omega) (by omega)
                          have c2_ := hpu_ k1 (by omega) (by omega)
                          have c3_ := mulb c1_ c2_
                          refine lv_aload_n hx hb zd_X_room_67 rfl (lv_at hl 0 rfl) ?_
                          refine va_get (D := D) (ci := 5) (v := .ref (q 56)) (C := zR_X) (T := zT_X) (N := 34) hx hb hts zi_X hown hK.1 hP 5 ga_5 rfl 33 (by decide) (hts _ zw_566) (fun _ h9 => h9) rfl zd_X_room_68 ?_
                          refine lv_bipush (v := iI (8)) hx hb zd_X_room_71 (by decide) ?_
                          refine lv_iload_n hx hb zd_X_room_73 rfl (lv_at hl 2 rfl) ?_
                          refine x_imul hx hb zd_X_room_74 ?_
                          refine lv_iload hx hb zd_X_room_75 (lv_at hl 5 rfl) ?_
                          refine x_iadd hx hb zd_X_room_77 ?_
                          refine x_iald (v := RM (A_13 44) (A_13 38) i (k1 - i).toNat) hx hb hK.1 hP 56 0 ga_56 rfl (by decide) (by omega) (by omega) (t1_) zd_X_room_78 ?_
                          refine lv_aload_n hx hb zd_X_room_79 rfl (lv_at hl 0 rfl) ?_
                          refine va_get (D := D) (ci := 5) (v := .ref (q 56)) (C := zR_X) (T := zT_X) (N := 34) hx hb hts zi_X hown hK.1 hP 5 ga_5 rfl 33 (by decide) (hts _ zw_566) (fun _ h9 => h9) rfl zd_X_room_80 ?_
                          refine lv_bipush (v := iI (8)) hx hb zd_X_room_83 (by decide) ?_
                          refine lv_iload hx hb zd_X_room_85 (lv_at hl 5 rfl) ?_
                          refine lv_iconst (v := iI (1)) hx hb zd_X_room_87 rfl ?_
                          refine x_iadd hx hb zd_X_room_88 ?_
                          refine x_imul hx hb zd_X_room_89 ?_
                          refine lv_iload_n hx hb zd_X_room_90 rfl (lv_at hl 3 rfl) ?_
                          refine x_iadd hx hb zd_X_room_91 ?_
                          refine x_iald (v := RM (A_13 44) (A_13 38) (k1 + 1) (i + sz1 - (k1 + 1)).toNat) hx hb hK.1 hP 56 0 ga_56 rfl (by decide) (by omega) (by omega) (t2_) zd_X_room_92 ?_
                          refine x_iadd hx hb zd_X_room_93 ?_
                          refine lv_aload_n hx hb zd_X_room_94 rfl (lv_at hl 0 rfl) ?_
                          refine va_get (D := D) (ci := 5) (v := .ref (q 44)) (C := zR_X) (T := zT_X) (N := 34) hx hb hts zi_X hown hK.1 hP 5 ga_5 rfl 16 (by decide) (hts _ zw_549) (fun _ h9 => h9) rfl zd_X_room_95 ?_
                          refine lv_iload hx hb zd_X_room_98 (lv_at hl 5 rfl) ?_
                          refine x_iald (v := A_13 44 k1) hx hb hK.1 hP 44 0 ga_44 rfl (by decide) (by omega) (by omega) (by rw [e44]) zd_X_room_100 ?_
                          refine lv_aload_n hx hb zd_X_room_101 rfl (lv_at hl 0 rfl) ?_
                          refine va_get (D := D) (ci := 5) (v := .ref (q 38)) (C := zR_X) (T := zT_X) (N := 34) hx hb hts zi_X hown hK.1 hP 5 ga_5 rfl 6 (by decide) (hts _ zw_539) (fun _ h9 => h9) rfl zd_X_room_102 ?_
                          refine lv_iload hx hb zd_X_room_105 (lv_at hl 5 rfl) ?_
                          refine x_iald (v := A_13 38 k1) hx hb hK.1 hP 38 0 ga_38 rfl (by decide) (by omega) (by omega) (by rw [e38]) zd_X_room_107 ?_
                          refine x_imul hx hb zd_X_room_108 ?_
                          refine lv_aload_n hx hb zd_X_room_109 rfl (lv_at hl 0 rfl) ?_
                          refine lv_iload_n hx hb zd_X_room_110 rfl (lv_at hl 2 rfl) ?_
                          refine lv_iload_n hx hb zd_X_room_111 rfl (lv_at hl 3 rfl) ?_
                          refine z_goi (z_runV (n := 2) (k := 5) (ci := 5) (As := [.int (iI (i)), .int (iI (i + sz1))]) (rest := [.int (iI ((A_13 44 k1) * (A_13 38 k1))), .int (iI ((RM (A_13 44) (A_13 38) i (k1 - i).toNat) + (RM (A_13 44) (A_13 38) (k1 + 1) (i + sz1 - (k1 + 1)).toNat)))]) S (c_X_divisorOf l D q c _ F_13 A33 i (i + sz1) (by first | omega | (rw [e44, f501]; exact m1)) (by first | omega | (rw [e44, f501]; exact m1)) (by first | omega | (rw [e44, f501]; exact m1))) zw_757 zw_759 zs_53 zw_6 zw_760 ⟨by decide +kernel, by decide, rfl, rfl⟩ hK hP hD ga_5 rfl rfl rfl hl.1 rfl (Nat.le_of_ble_eq_true rfl) zd_X_room_112 ⟨Nat.zero_le _, Nat.zero_le _⟩) hD hS hA (fun z_112 F_112 A_112 H locs hq_112 hP hD hS => ?_)
                          obtain ⟨hf_112, ha_112, hq_112⟩ := hq_112
                          rw [hf_112, ha_112] at hP hD
                          obtain ⟨d1_, d2_⟩ := hq_112
                          have q_ := tdv_b (a := A_13 44 k1 * A_13 38 k1) (b := z_112) (B := 3600) (by omega) (by omega)
                          have v_ := rmV_e (cn := A_13 44) (pu := A_13 38) (i := i) (j := i + sz1) (k := k1) (by omega) (by omega)
                          have d1c_ : dvN (A_13 44) i (i + sz1 - i).toNat = z_112 := by rw [d1_, e44]
                          rw [d1c_] at v_
                          refine x_idiv hx hb zd_X_room_115 (⟨by omega, by omega⟩) (⟨by omega, by omega⟩) (by omega) ?_
                          refine x_iadd hx hb zd_X_room_116 ?_
                          refine lv_istore (lv' := [(6, .int (iI (((RM (A_13 44) (A_13 38) i (k1 - i).toNat) + (RM (A_13 44) (A_13 38) (k1 + 1) (i + sz1 - (k1 + 1)).toNat)) + (((A_13 44 k1) * (A_13 38 k1)).tdiv z_112)))), (0, .ref (q 5)), (1, .int (iI (sz1))), (2, .int (iI (i))), (3, .int (iI (i + sz1))), (4, .int (iI (be))), (5, .int (iI (k1)))]) hx hb zd_X_room_117 hl (by decide) rfl (fun ls hl => ?_)
                          refine lv_iload hx hb zd_X_room_119 (lv_at hl 5 rfl) ?_
                          refine lv_iconst (v := iI (-1)) hx hb zd_X_room_121 rfl ?_
                          refine x_icmp_eq (tgt := 132) hx hb zd_X_room_122 (by decide) (⟨by omega, by omega⟩) (⟨by omega, by omega⟩) (fun h_122 => ?_) (fun h_122 => ?_)
                          · refine lv_iload hx hb zd_X_room_132 (lv_at hl 0 rfl) ?_
                            refine lv_goto (tgt := 139) hx hb zd_X_room_134 (by decide) ?_
                            refine lv_istore (lv' := [(4, .int (iI (((RM (A_13 44) (A_13 38) i (k1 - i).toNat) + (RM (A_13 44) (A_13 38) (k1 + 1) (i + sz1 - (k1 + 1)).toNat)) + (((A_13 44 k1) * (A_13 38 k1)).tdiv z_112)))), (6, .int (iI (((RM (A_13 44) (A_13 38) i (k1 - i).toNat) + (RM (A_13 44) (A_13 38) (k1 + 1) (i + sz1 - (k1 + 1)).toNat)) + (((A_13 44 k1) * (A_13 38 k1)).tdiv z_112)))), (0, .ref (q 5)), (1, .int (iI (sz1))), (2, .int (iI (i))), (3, .int (iI (i + sz1))), (5, .int (iI (k1)))]) hx hb zd_X_room_139 hl (by decide) rfl (fun ls hl => ?_)
                            refine lv_iinc (v := iI (k1 + 1)) (lv' := [(5, .int (iI (k1 + 1))), (4, .int (iI (((RM (A_13 44) (A_13 38) i (k1 - i).toNat) + (RM (A_13 44) (A_13 38) (k1 + 1) (i + sz1 - (k1 + 1)).toNat)) + (((A_13 44 k1) * (A_13 38 k1)).tdiv z_112)))), (6, .int (iI (((RM (A_13 44) (A_13 38) i (k1 - i).toNat) + (RM (A_13 44) (A_13 38) (k1 + 1) (i + sz1 - (k1 + 1)).toNat)) + (((A_13 44 k1) * (A_13 38 k1)).tdiv z_112)))), (0, .ref (q 5)), (1, .int (iI (sz1))), (2, .int (iI (i))), (3, .int (iI (i + sz1)))]) hx hb zd_X_room_141 hl (k := 6) rfl (iI_add _ _) (by decide) rfl (fun ls hl => ?_)
                            refine lv_goto (tgt := 61) hx hb zd_X_room_144 (by decide) ?_
                            exact ih_61 (((RM (A_13 44) (A_13 38) i (k1 - i).toNat) + (RM (A_13 44) (A_13 38) (k1 + 1) (i + sz1 - (k1 + 1)).toNat)) + (((A_13 44 k1) * (A_13 38 k1)).tdiv z_112)) (k1 + 1)   (by first | assumption | omega | (simp_all; done)) (Or.inr ⟨by omega, by (rcases hbe with ⟨h1, h2⟩ | ⟨h1, h2, h3⟩; (rw [if_neg (by omega)] at h2; first | (exfalso; omega) | (rw [h1, rmB_0] ; rw [h1] at v_; rw [show (i - i).toNat = 0 by omega] at v_; rw [v_, show (i - i).toNat = 0 by omega])); (rw [rmB_s h1, ← h2, v_]; omega)), by (rcases hbe with ⟨h1, h2⟩ | ⟨h1, h2, h3⟩ <;> omega)⟩) (by first | assumption | omega | (simp_all; done)) (by omega) _ _ hP hD hS ls (lv_sub hl [3, 4, 5, 6, 1, 0] rfl)
                          · refine lv_iload hx hb zd_X_room_125 (lv_at hl 0 rfl) ?_
                            refine lv_iload hx hb zd_X_room_127 (lv_at hl 5 rfl) ?_
                            refine x_icmp_ge (tgt := 137) hx hb zd_X_room_129 (by decide) (⟨by omega, by omega⟩) (⟨by omega, by omega⟩) (fun h_129 => ?_) (fun h_129 => ?_)
                            · refine lv_iload hx hb zd_X_room_137 (lv_at hl 5 rfl) ?_
                              refine lv_istore (lv' := [(4, .int (iI (be))), (6, .int (iI (((RM (A_13 44) (A_13 38) i (k1 - i).toNat) + (RM (A_13 44) (A_13 38) (k1 + 1) (i + sz1 - (k1 + 1)).toNat)) + (((A_13 44 k1) * (A_13 38 k1)).tdiv z_112)))), (0, .ref (q 5)), (1, .int (iI (sz1))), (2, .int (iI (i))), (3, .int (iI (i + sz1))), (5, .int (iI (k1)))]) hx hb zd_X_room_139 hl (by decide) rfl (fun ls hl => ?_)
                              refine lv_iinc (v := iI (k1 + 1)) (lv' := [(5, .int (iI (k1 + 1))), (4, .int (iI (be))), (6, .int (iI (((RM (A_13 44) (A_13 38) i (k1 - i).toNat) + (RM (A_13 44) (A_13 38) (k1 + 1) (i + sz1 - (k1 + 1)).toNat)) + (((A_13 44 k1) * (A_13 38 k1)).tdiv z_112)))), (0, .ref (q 5)), (1, .int (iI (sz1))), (2, .int (iI (i))), (3, .int (iI (i + sz1)))]) hx hb zd_X_room_141 hl (k := 6) rfl (iI_add _ _) (by decide) rfl (fun ls hl => ?_)
                              refine lv_goto (tgt := 61) hx hb zd_X_room_144 (by decide) ?_
                              exact ih_61 (be) (k1 + 1)   (by first | assumption | omega | (simp_all; done)) (Or.inr ⟨by omega, by (rcases hbe with ⟨h1, h2⟩ | ⟨h1, h2, h3⟩; (rw [if_neg (by omega)] at h2; first | (exfalso; omega) | (rw [h1, rmB_0] ; rw [h1] at v_; rw [show (i - i).toNat = 0 by omega] at v_; rw [v_, show (i - i).toNat = 0 by omega])); (rw [rmB_s h1, ← h2, v_]; omega)), by (rcases hbe with ⟨h1, h2⟩ | ⟨h1, h2, h3⟩ <;> omega)⟩) (by first | assumption | omega | (simp_all; done)) (by omega) _ _ hP hD hS ls (lv_sub hl [3, 4, 5, 6, 1, 0] rfl)
                            · refine lv_iload hx hb zd_X_room_132 (lv_at hl 0 rfl) ?_
                              refine lv_goto (tgt := 139) hx hb zd_X_room_134 (by decide) ?_
                              refine lv_istore (lv' := [(4, .int (iI (((RM (A_13 44) (A_13 38) i (k1 - i).toNat) + (RM (A_13 44) (A_13 38) (k1 + 1) (i + sz1 - (k1 + 1)).toNat)) + (((A_13 44 k1) * (A_13 38 k1)).tdiv z_112)))), (6, .int (iI (((RM (A_13 44) (A_13 38) i (k1 - i).toNat) + (RM (A_13 44) (A_13 38) (k1 + 1) (i + sz1 - (k1 + 1)).toNat)) + (((A_13 44 k1) * (A_13 38 k1)).tdiv z_112)))), (0, .ref (q 5)), (1, .int (iI (sz1))), (2, .int (iI (i))), (3, .int (iI (i + sz1))), (5, .int (iI (k1)))]) hx hb zd_X_room_139 hl (by decide) rfl (fun ls hl => ?_)
                              refine lv_iinc (v := iI (k1 + 1)) (lv' := [(5, .int (iI (k1 + 1))), (4, .int (iI (((RM (A_13 44) (A_13 38) i (k1 - i).toNat) + (RM (A_13 44) (A_13 38) (k1 + 1) (i + sz1 - (k1 + 1)).toNat)) + (((A_13 44 k1) * (A_13 38 k1)).tdiv z_112)))), (6, .int (iI (((RM (A_13 44) (A_13 38) i (k1 - i).toNat) + (RM (A_13 44) (A_13 38) (k1 + 1) (i + sz1 - (k1 + 1)).toNat)) + (((A_13 44 k1) * (A_13 38 k1)).tdiv z_112)))), (0, .ref (q 5)), (1, .int (iI (sz1))), (2, .int (iI (i))), (3, .int (iI (i + sz1)))]) hx hb zd_X_room_141 hl (k := 6) rfl (iI_add _ _) (by decide) rfl (fun ls hl => ?_)
                              refine lv_goto (tgt := 61) hx hb zd_X_room_144 (by decide) ?_
                              exact ih_61 (((RM (A_13 44) (A_13 38) i (k1 - i).toNat) + (RM (A_13 44) (A_13 38) (k1 + 1) (i + sz1 - (k1 + 1)).toNat)) + (((A_13 44 k1) * (A_13 38 k1)).tdiv z_112)) (k1 + 1)   (by first | assumption | omega | (simp_all; done)) (Or.inr ⟨by omega, by (rcases hbe with ⟨h1, h2⟩ | ⟨h1, h2, h3⟩; (rw [if_neg (by omega)] at h2; first | (exfalso; omega) | (rw [h1, rmB_0] ; rw [h1] at v_; rw [show (i - i).toNat = 0 by omega] at v_; rw [v_, show (i - i).toNat = 0 by omega])); (rw [rmB_s h1, ← h2, v_]; omega)), by (rcases hbe with ⟨h1, h2⟩ | ⟨h1, h2, h3⟩ <;> omega)⟩) (by first | assumption | omega | (simp_all; done)) (by omega) _ _ hP hD hS ls (lv_sub hl [3, 4, 5, 6, 1, 0] rfl)
                    exact L_61 (((i + sz1 - (i) : Int) + 1).toNat) (0) (i)   (by first | assumption | omega | (simp_all; done)) (Or.inl ⟨rfl, by first | rw [if_pos h_48] | rw [if_neg h_48]⟩) (by first | assumption | omega | (simp_all; done)) (by omega) _ _ hP hD hS ls (lv_sub hl [3, 4, 5, 2, 1, 0] rfl)
            exact L_33 (((F 501 - (0) : Int) + 1).toNat) (0)  A23 (by first | assumption | omega | (simp_all; done)) (hk) (fun x y h0 h1 h2 h3 => ht x y h0 h1 h2 (by omega)) (by omega) _ _ hP hD hS ls (lv_sub hl [1, 2, 0] rfl)
      exact L_23 (((F 501 - (0) : Int) + 1).toNat) (0)  A_13 (by first | assumption | omega | (simp_all; done)) (fun k _ => rfl) (fun x y h0 h1 h2 h3 => by omega) (by omega) _ _ hP hD hS ls (lv_sub hl [1, 0] rfl)
    · have hpl_ : ¬ plM F_13 := by (rw [k5] at h_16; split at h_16; (omega); (assumption))
      refine lv_iconst (v := iI (-1)) hx hb zd_X_room_19 rfl ?_
      exact ret _ _ _ _ _ _ _ zd_X_room_20 hP hD hS (by first | exact ⟨(k2 500 (by decide) (by decide) (by decide) (by decide) (by decide)), fun j h0 h1 h2 h3 h4 h5 => (k2 j h1 h2 h3 h4 h5).trans (by simp [fuP, h0]), fun k h1 h2 h3 h4 h5 h6 h7 h8 _ => k3 k h1 h2 h3 h4 h5 h6 h7 h8, fun _ => ⟨k1, k4, fun h => absurd h hpl_, fun _ => rfl⟩, fun h => absurd hch_ h⟩ | exact ⟨rfl, fun j h0 h1 h2 h3 h4 h5 => by simp [fuP, h0], fun k _ _ _ _ _ _ _ _ _ => rfl, fun h => absurd h hch_, fun _ => ⟨rfl, rfl, rfl⟩⟩)
