theorem KM_cg {F F1 : Nat → Int} {A A1 : Nat → Int → Int} (h1 : F1 501 = F 501) (h2 : F1 502 = F 502) (h3 : F1 510 = F 510) (h4 : F1 511 = F 511) (h5 : F1 512 = F 512) (h6 : F1 520 = F 520) (hA : ∀ k, 36 ≤ k → k ≤ 48 → A1 k = A k) (h : KM F A) : KM F1 A1 := by
  unfold KM FOm FCX RmOK at *
  rw [h1, h2, h3, h4, h5, h6, hA 36 (by decide) (by decide), hA 37 (by decide) (by decide), hA 38 (by decide) (by decide), hA 39 (by decide) (by decide), hA 40 (by decide) (by decide), hA 41 (by decide) (by decide), hA 42 (by decide) (by decide), hA 43 (by decide) (by decide), hA 44 (by decide) (by decide), hA 45 (by decide) (by decide), hA 46 (by decide) (by decide), hA 47 (by decide) (by decide), hA 48 (by decide) (by decide)]
  exact h
abbrev plM (F : Nat → Int) : Prop := F 510 = -1 ∧ F 511 = 0
def alM (F : Nat → Int) (A : Nat → Int → Int) : Prop := ∀ b, 0 ≤ b → b < F 501 → A 45 b = 0
def clM (F : Nat → Int) (A : Nat → Int → Int) (a : Int) : Prop := (∀ b, 0 ≤ b → b < F 501 → A 41 b = A 41 a → Rch (F 502) (A 36) (A 37) a b) ∧ ∀ b, 0 ≤ b → b < F 501 → A 41 b = A 41 a → Rch (F 502) (A 37) (A 36) a b
def smM (F : Nat → Int) (A : Nat → Int → Int) (a : Int) : Int := sI (gS (mA A) (A 41 a)) (F 501)
def peM (F : Nat → Int) (A : Nat → Int → Int) (root : Int) : Prop := ∀ u v s w, pE (F 501) (F 502) A root u v s w → (0 ≤ u ∧ u < sI (gS (mA A) root) (F 501)) ∧ (0 ≤ v ∧ v < sI (gS (mA A) root) (F 501)) ∧ (1 ≤ s ∧ s ≤ 9) ∧ 0 ≤ w ∧ w ≤ 100
theorem mA_cg {A A1 : Nat → Int → Int} (h : ∀ k, k ≠ 49 → A1 k = A k) : mA A1 = mA A := by
  funext k
  unfold mA
  rw [h 35 (by decide), h 36 (by decide), h 37 (by decide), h 38 (by decide), h 39 (by decide), h 40 (by decide), h 41 (by decide), h 44 (by decide), h 50 (by decide)]
theorem mB_cg {A A1 : Nat → Int → Int} {root : Int} (h : ∀ k, k ≠ 49 → A1 k = A k) : mB A1 root = mB A root := by
  funext k; unfold mB; rw [mA_cg h]
theorem pE_cg {A A1 : Nat → Int → Int} {n m root : Int} (h : ∀ k, k ≠ 49 → A1 k = A k) : pE n m A1 root = pE n m A root := by
  funext u v s w; unfold pE; rw [mA_cg h, mB_cg h]
theorem RmOK_l {F : Nat → Int} {A : Nat → Int → Int} (h : RmOK F A) (hmc : ∀ a, 0 ≤ a → a < F 501 → 1 ≤ A 44 a ∧ A 44 a ≤ 400) (hmch : ∀ k, 0 ≤ k → k < F 502 → (0 ≤ A 36 k ∧ A 36 k < F 501) ∧ (0 ≤ A 37 k ∧ A 37 k < F 501) ∧ (1 ≤ A 38 k ∧ A 38 k ≤ 9) ∧ (1 ≤ A 39 k ∧ A 39 k ≤ 9) ∧ 0 ≤ A 40 k ∧ A 40 k ≤ 99) : ∀ a, 0 ≤ a → a < F 501 → 0 ≤ A 45 a ∧ A 45 a ≤ 400 := by
  obtain ⟨h1, h2, h3, -⟩ := h
  exact (xat_b (i := F 520) h1 hmc hmch h2 h3).2.1
def pcC (F : Nat → Int) (A : Nat → Int → Int) (a w z P Q t : Int) : Prop := (¬ plM F → t = 2) ∧ (plM F → ¬ alM F A → t = 2) ∧ (plM F → alM F A → ¬ clM F A a → t = 2) ∧ (plM F → alM F A → clM F A a → 40 < smM F A a → t = 3) ∧ (plM F → alM F A → clM F A a → smM F A a ≤ 40 → t = 0 ∧ (w = 0 → z = P) ∧ (w = 1 → z = Q))
theorem pc_fin {F F1 : Nat → Int} {A A1 : Nat → Int → Int} {a w z P Q : Int} (hF : ∀ j, j ≠ 500 → j ≠ 523 → j ≠ 525 → j ≠ 531 → j ≠ 532 → F1 j = F j) (hA : ∀ k, k ≤ 48 → A1 k = A k) (k1 : F 509 = 1) (k4 : KM F A) (hc : pcC F A a w z P Q (F1 500)) : F1 509 = 1 ∧ KM F1 A1 ∧ pcC F1 A1 a w z P Q (F1 500) := by
  have f : ∀ j, 501 ≤ j → j ≤ 522 → F1 j = F j := fun j h1 h2 => hF j (by omega) (by omega) (by omega) (by omega) (by omega)
  have e1 : gS (mA A1) (A1 41 a) = gS (mA A) (A 41 a) := by
    funext b
    show (if A1 41 b = A1 41 a then A1 44 b else 0) = if A 41 b = A 41 a then A 44 b else 0
    rw [hA 41 (by decide), hA 44 (by decide)]
  refine ⟨(f 509 (by decide) (by decide)).trans k1, KM_cg (f 501 (by decide) (by decide)) (f 502 (by decide) (by decide)) (f 510 (by decide) (by decide)) (f 511 (by decide) (by decide)) (f 512 (by decide) (by decide)) (f 520 (by decide) (by decide)) (fun k _ h => hA k h) k4, ?_⟩
  unfold pcC plM alM clM smM at *
  rw [e1, f 501 (by decide) (by decide), f 502 (by decide) (by decide), f 510 (by decide) (by decide), f 511 (by decide) (by decide), hA 36 (by decide), hA 37 (by decide), hA 41 (by decide), hA 45 (by decide)]
  exact hc
abbrev zr_X_pace : Room := ({ frames := 6, cells := 0, slots := 0, locals := 144 } : Room)
set_option maxHeartbeats 4000000 in
set_option maxRecDepth 100000 in
theorem c_X_pace (l : Launch) (D : va_G) (q : Nat → Nat) (c : Nat → ClassId) (sz : Nat) (F : Nat → Int) (A : Nat → Int → Int) (a : Int) (w : Int) (P : Int) (Q1 : Int) (ba : ib a) (bw : ib w) (hmn : 1 ≤ F 501 ∧ F 501 ≤ 8) (hmm : 0 ≤ F 502 ∧ F 502 ≤ 14) (hmch : ∀ k, 0 ≤ k → k < F 502 → (0 ≤ A 36 k ∧ A 36 k < F 501) ∧ (0 ≤ A 37 k ∧ A 37 k < F 501) ∧ (1 ≤ A 38 k ∧ A 38 k ≤ 9) ∧ (1 ≤ A 39 k ∧ A 39 k ≤ 9) ∧ 0 ≤ A 40 k ∧ A 40 k ≤ 99) (hmk : (F 509 = 0 ∨ F 509 = 1) ∧ (F 509 = 1 → KM F A)) (hbp : ∀ F1 A1, KM F1 A1 → (∀ j, j ≠ 500 → j ≠ 509 → j ≠ 510 → j ≠ 511 → j ≠ 512 → j ≠ 520 → F1 j = F j) → (∀ k, k ≠ 41 → k ≠ 42 → k ≠ 43 → k ≠ 44 → k ≠ 45 → k ≠ 46 → k ≠ 47 → k ≠ 48 → A1 k = A k) → plM F1 → alM F1 A1 → clM F1 A1 a → smM F1 A1 a ≤ 40 → peM F1 A1 (A1 41 a) ∧ bestR (pE (F1 501) (F1 502) A1 (A1 41 a)) P Q1) : zMI l zy_X_pace zc_X_pace 5 (some .int) zr_X_pace D q c sz [.ref (q 5), .int (iI (a)), .int (iI (w))] F A (fun z F1 A1 => ((∀ j, j ≠ 500 → j ≠ 509 → j ≠ 510 → j ≠ 511 → j ≠ 512 → j ≠ 520 → j ≠ 523 → j ≠ 525 → j ≠ 531 → j ≠ 532 → F1 j = F j) ∧ (∀ k, k ≠ 41 → k ≠ 42 → k ≠ 43 → k ≠ 44 → k ≠ 45 → k ≠ 46 → k ≠ 47 → k ≠ 48 → k ≠ 49 → k ≠ 50 → k ≠ 51 → k ≠ 52 → k ≠ 53 → k ≠ 54 → k ≠ 55 → A1 k = A k)) ∧ (((0 ≤ a ∧ a < F 501) ∧ 0 ≤ w ∧ w ≤ 1) → F1 509 = 1 ∧ KM F1 A1 ∧ pcC F1 A1 a w z P Q1 (F1 500)) ∧ (¬ ((0 ≤ a ∧ a < F 501) ∧ 0 ≤ w ∧ w ≤ 1) → F1 = fuP F 500 1 ∧ A1 = A)) := by
  refine z_ofI (by decide) (Nat.le_of_ble_eq_true rfl) ?_
  intro p e s m args below meth c0 A0 Q C0 ret hP hD hS ls hl
  obtain ⟨S, hK, hA⟩ := C0
  have hx := S.1
  have hb := S.2.1
  have hown := S.2.2.2.1
  have hts : ∀ w ∈ zG, w.before args s = true := fun w h => S.2.2.2.2 w (List.mem_cons_of_mem _ h)
  have hl : lv_has ls 5 [(0, .ref (q 5)), (1, .int (iI (a))), (2, .int (iI (w)))] := hl
  refine lv_aload_n hx hb zd_X_pace_0 rfl (lv_at hl 0 rfl) ?_
  refine lv_iconst (v := iI (0)) hx hb zd_X_pace_1 rfl ?_
  refine va_put (D := D) (ci := 5) (v := .int (iI (0))) (ty := .int) (C := zR_X) (T := zT_X) (N := 34) hx hb hts zi_X zk_X zo_X zn_X hown hK.1 hP hD hS 5 ga_5 rfl 0 (by decide) (hts _ zw_533) (fun _ h9 => h9) rfl (by decide +kernel) (rfl) (rfl) (Nat.le_of_ble_eq_true rfl) zd_X_pace_2 (fun H locs hP hD hS => ?_)
  rw [gs_5_0] at hP hD
  refine lv_iload_n hx hb zd_X_pace_5 rfl (lv_at hl 1 rfl) ?_
  refine lv_iconst (v := iI (0)) hx hb zd_X_pace_6 rfl ?_
  refine lv_aload_n hx hb zd_X_pace_7 rfl (lv_at hl 0 rfl) ?_
  refine va_get (D := D) (ci := 5) (v := .int (iI (F 501))) (C := zR_X) (T := zT_X) (N := 34) hx hb hts zi_X hown hK.1 hP 5 ga_5 rfl 1 (by decide) (hts _ zw_534) (fun _ h9 => h9) rfl zd_X_pace_8 ?_
  refine lv_iconst (v := iI (1)) hx hb zd_X_pace_11 rfl ?_
  refine x_isub hx hb zd_X_pace_12 ?_
  refine z_goi (z_runS (n := 3) (As := [.int (iI (a)), .int (iI (0)), .int (iI ((F 501) - 1))]) (rest := []) S (c_X_in l D q c _ (fuP F 500 0) A a 0 ((F 501) - 1) (by first | assumption | omega | exact ⟨by omega, by omega⟩) (by first | assumption | omega | exact ⟨by omega, by omega⟩) (by first | assumption | omega | exact ⟨by omega, by omega⟩)) zw_646 zw_647 zw_6 zw_648 ⟨by decide +kernel, by decide, rfl, rfl⟩ rfl hK hP hD rfl hl.1 rfl (Nat.le_of_ble_eq_true rfl) zd_X_pace_13 ⟨Nat.zero_le _, Nat.zero_le _⟩) hD hS hA (fun z_13 F_13 A_13 H locs hq_13 hP hD hS => ?_)
  obtain ⟨hf_13, ha_13, hq_13⟩ := hq_13
  rw [hf_13, ha_13] at hP hD
  have b13_ : z_13 = 0 ∨ z_13 = 1 := by rw [hq_13]; split <;> simp
  refine x_if_eq (tgt := 28) hx hb zd_X_pace_16 (by decide) (⟨by omega, by omega⟩) (fun h_16 => ?_) (fun h_16 => ?_)
  · have hr_ : ¬ ((0 ≤ a ∧ a < F 501) ∧ 0 ≤ w ∧ w ≤ 1) := by first | (rw [if_neg (by assumption)] at hq_13; omega) | (intro hr9; first | (rw [if_pos (by omega)] at hq_13; omega) | (rw [if_pos (by omega)] at hq_22; omega))
    refine lv_aload_n hx hb zd_X_pace_28 rfl (lv_at hl 0 rfl) ?_
    refine lv_iconst (v := iI (1)) hx hb zd_X_pace_29 rfl ?_
    refine z_goi (z_runV (n := 1) (k := 5) (ci := 5) (As := [.int (iI (1))]) (rest := []) S (c_X_raise l D q c _ (fuP F 500 0) A 1) zw_701 zw_703 zs_45 zw_6 zw_704 ⟨by decide +kernel, by decide, rfl, rfl⟩ hK hP hD ga_5 rfl rfl rfl hl.1 rfl (Nat.le_of_ble_eq_true rfl) zd_X_pace_30 ⟨Nat.zero_le _, Nat.zero_le _⟩) hD hS hA (fun z_30 F_30 A_30 H locs hq_30 hP hD hS => ?_)
    obtain ⟨y1, y2, y3⟩ := hq_30
    exact ret _ _ _ _ _ _ _ zd_X_pace_33 hP hD hS (⟨⟨fun j h0 h1 h2 h3 h4 h5 _ _ _ _ => by rw [y2]; simp [fuP, h0], fun k _ _ _ _ _ _ _ _ _ _ _ _ _ _ _ => by rw [y3]⟩, fun h => absurd h hr_, fun _ => ⟨by rw [y2]; funext j; unfold fuP; split <;> rfl, y3⟩⟩)
  · refine lv_iload_n hx hb zd_X_pace_19 rfl (lv_at hl 2 rfl) ?_
    refine lv_iconst (v := iI (0)) hx hb zd_X_pace_20 rfl ?_
    refine lv_iconst (v := iI (1)) hx hb zd_X_pace_21 rfl ?_
    refine z_goi (z_runS (n := 3) (As := [.int (iI (w)), .int (iI (0)), .int (iI (1))]) (rest := []) S (c_X_in l D q c _ (fuP F 500 0) A w 0 1 (by first | assumption | omega | exact ⟨by omega, by omega⟩) (by first | assumption | omega | exact ⟨by omega, by omega⟩) (by first | assumption | omega | exact ⟨by omega, by omega⟩)) zw_646 zw_647 zw_6 zw_648 ⟨by decide +kernel, by decide, rfl, rfl⟩ rfl hK hP hD rfl hl.1 rfl (Nat.le_of_ble_eq_true rfl) zd_X_pace_22 ⟨Nat.zero_le _, Nat.zero_le _⟩) hD hS hA (fun z_22 F_22 A_22 H locs hq_22 hP hD hS => ?_)
    obtain ⟨hf_22, ha_22, hq_22⟩ := hq_22
    rw [hf_22, ha_22] at hP hD
    have b22_ : z_22 = 0 ∨ z_22 = 1 := by rw [hq_22]; split <;> simp
    refine x_if_ne (tgt := 34) hx hb zd_X_pace_25 (by decide) (⟨by omega, by omega⟩) (fun h_25 => ?_) (fun h_25 => ?_)
    · have hr_ : ((0 ≤ a ∧ a < F 501) ∧ 0 ≤ w ∧ w ≤ 1) := by (rw [hq_13] at h_16; rw [hq_22] at h_25; split at h_16 <;> split at h_25 <;> omega)
      refine lv_aload_n hx hb zd_X_pace_34 rfl (lv_at hl 0 rfl) ?_
      refine z_goi (z_runV (n := 0) (k := 5) (ci := 5) (As := []) (rest := []) S (c_X_isPlain l D q c _ (fuP F 500 0) A (hmn) (hmm) (hmch) (hmk)) zw_709 zw_711 zs_46 zw_6 zw_712 ⟨by decide +kernel, by decide, rfl, rfl⟩ hK hP hD ga_5 rfl rfl rfl hl.1 rfl (Nat.le_of_ble_eq_true rfl) zd_X_pace_35 ⟨Nat.zero_le _, Nat.zero_le _⟩) hD hS hA (fun z_35 F_35 A_35 H locs hq_35 hP hD hS => ?_)
      obtain ⟨⟨k1, k2, k3, k4⟩, k5⟩ := hq_35
      have f501 : F_35 501 = F 501 := k2 501 (by decide) (by decide) (by decide) (by decide) (by decide)
      have f502 : F_35 502 = F 502 := k2 502 (by decide) (by decide) (by decide) (by decide) (by decide)
      have hb_ := KM_b k4 (by rw [f501]; exact hmn) (by rw [f502]; exact hmm)
      have b01_ : z_35 = 0 ∨ z_35 = 1 := by rw [k5]; split <;> simp
      refine x_if_ne (tgt := 47) hx hb zd_X_pace_38 (by decide) (⟨by omega, by omega⟩) (fun h_38 => ?_) (fun h_38 => ?_)
      · have hpl_ : plM F_35 := by (rw [k5] at h_38; split at h_38; (assumption); (omega))
        obtain ⟨m1, m2, m3⟩ := kn_mct (by rw [f501]; exact hmn) k4.2.1 ((k4.2.2.2.2 hpl_.1).1) hpl_.2
        have e36 := k3 36 (by decide) (by decide) (by decide) (by decide) (by decide) (by decide) (by decide) (by decide)
        have e37 := k3 37 (by decide) (by decide) (by decide) (by decide) (by decide) (by decide) (by decide) (by decide)
        have e38 := k3 38 (by decide) (by decide) (by decide) (by decide) (by decide) (by decide) (by decide) (by decide)
        have e39 := k3 39 (by decide) (by decide) (by decide) (by decide) (by decide) (by decide) (by decide) (by decide)
        have e40 := k3 40 (by decide) (by decide) (by decide) (by decide) (by decide) (by decide) (by decide) (by decide)
        have hmch2 : ∀ k, 0 ≤ k → k < F_35 502 → (0 ≤ A_35 36 k ∧ A_35 36 k < F_35 501) ∧ (0 ≤ A_35 37 k ∧ A_35 37 k < F_35 501) ∧ (1 ≤ A_35 38 k ∧ A_35 38 k ≤ 9) ∧ (1 ≤ A_35 39 k ∧ A_35 39 k ≤ 9) ∧ 0 ≤ A_35 40 k ∧ A_35 40 k ≤ 99 := by (rw [e36, e37, e38, e39, e40, f501, f502]; exact hmch)
        have hl45 := RmOK_l (hb_.2.2.2.2 hpl_) m1 hmch2
        obtain ⟨u1, u2, u3⟩ := FO_use (by omega) k4.2.1
        rw [f501] at m1 u2 hl45
        have pa_ := u2 a (by omega) (by omega)
        refine lv_iconst (v := iI (0)) hx hb zd_X_pace_47 rfl ?_
        refine lv_istore_n (lv' := [(3, .int (iI (0))), (0, .ref (q 5)), (1, .int (iI (a))), (2, .int (iI (w)))]) hx hb zd_X_pace_48 rfl hl (by decide) rfl (fun ls hl => ?_)
        refine lv_iconst (v := iI (0)) hx hb zd_X_pace_49 rfl ?_
        refine lv_istore (lv' := [(4, .int (iI (0))), (3, .int (iI (0))), (0, .ref (q 5)), (1, .int (iI (a))), (2, .int (iI (w)))]) hx hb zd_X_pace_50 hl (by decide) rfl (fun ls hl => ?_)
        have L_52 : ∀ (fu : Nat) (al : Int) (i : Int) , (0 ≤ i ∧ i ≤ F 501) → (∀ b, 0 ≤ b → b < i → A_35 45 b = 0) → (al = sI (gS (mA A_35) (A_35 41 a)) i) → (0 ≤ al ∧ al ≤ 400 * i) → (F 501 - i < (fu : Int)) → ∀ (H : Heap) (locs : List Loc), va_P D zcl (gw q c F_35 A_35) H → va_D A0 (gw q c F_35 A_35) → va_S A0 s.heap H locs → ∀ ls : Array Slot, lv_has ls 5 [(0, .ref (q 5)), (1, .int (iI (a))), (2, .int (iI (w))), (3, .int (iI (al))), (4, .int (iI (i)))] → W p l e zr_X_pace s m args below meth c0 H locs 0 0 Q (F0 m 52 ls []) := by
          intro fu
          induction fu with
          | zero => intro al i   hi hal hs hab hm_52; exact absurd hm_52 (by omega)
          | succ fu ih_52 =>
            intro al i   hi hal hs hab hm_52 H locs hP hD hS ls hl
            refine lv_iload hx hb zd_X_pace_52 (lv_at hl 4 rfl) ?_
            refine lv_aload_n hx hb zd_X_pace_54 rfl (lv_at hl 0 rfl) ?_
            refine va_get (D := D) (ci := 5) (v := .int (iI (F_35 501))) (C := zR_X) (T := zT_X) (N := 34) hx hb hts zi_X hown hK.1 hP 5 ga_5 rfl 1 (by decide) (hts _ zw_534) (fun _ h9 => h9) rfl zd_X_pace_55 ?_
            refine x_icmp_ge (tgt := 113) hx hb zd_X_pace_58 (by decide) (⟨by omega, by omega⟩) (⟨by omega, by omega⟩) (fun h_58 => ?_) (fun h_58 => ?_)
            · have e_ : i = F 501 := by omega
              rw [e_] at hal hs
              have hall_ : alM F_35 A_35 := fun b h0 h1 => hal b h0 (by omega)
              have hsm_ : smM F_35 A_35 a = al := by (unfold smM; rw [f501]; exact hs.symm)
              refine lv_aload_n hx hb zd_X_pace_113 rfl (lv_at hl 0 rfl) ?_
              refine lv_iload_n hx hb zd_X_pace_114 rfl (lv_at hl 1 rfl) ?_
              refine lv_iconst (v := iI (0)) hx hb zd_X_pace_115 rfl ?_
              refine z_goi (z_runV (n := 2) (k := 5) (ci := 5) (As := [.int (iI (a)), .int (iI (0))]) (rest := []) S (c_X_comesToAll l D q c _ F_35 A_35 a 0 (by first | omega | (rw [f501]; omega) | assumption | (rw [f501]; assumption)) (by first | omega | (rw [f501]; omega) | assumption | (rw [f501]; assumption)) (by first | omega | (rw [f501]; omega) | assumption | (rw [f501]; assumption)) (by first | omega | (rw [f501]; omega) | assumption | (rw [f501]; assumption)) (by first | omega | (rw [f501]; omega) | assumption | (rw [f501]; assumption)) (by first | omega | (rw [f501]; omega) | assumption | (rw [f501]; assumption))) zw_725 zw_727 zs_47 zw_6 zw_728 ⟨by decide +kernel, by decide, rfl, rfl⟩ hK hP hD ga_5 rfl rfl rfl hl.1 rfl (Nat.le_of_ble_eq_true rfl) zd_X_pace_116 ⟨Nat.zero_le _, Nat.zero_le _⟩) hD hS hA (fun z_116 F_116 A_116 H locs hq_116 hP hD hS => ?_)
              obtain ⟨hf_116, hq_116⟩ := hq_116
              rw [hf_116] at hP hD
              obtain ⟨s1, s2, s3⟩ := hq_116
              refine x_if_eq (tgt := 131) hx hb zd_X_pace_119 (by decide) (⟨by omega, by omega⟩) (fun h_119 => ?_) (fun h_119 => ?_)
              · have hnc_ : ¬ clM F_35 A_35 a := by first | (intro h; have := s3.mpr (by rw [f501, f502]; have h9 := h.1; rw [f501, f502] at h9; exact h9); omega) | (intro h; have h9 := h.2; rw [f501, f502] at h9; have := t3.mpr (by rw [f501, f502, s1 36 (by decide), s1 37 (by decide), s1 41 (by decide)]; exact h9); omega)
                refine lv_aload_n hx hb zd_X_pace_131 rfl (lv_at hl 0 rfl) ?_
                refine lv_iconst (v := iI (2)) hx hb zd_X_pace_132 rfl ?_
                refine z_goi (z_runV (n := 1) (k := 5) (ci := 5) (As := [.int (iI (2))]) (rest := []) S (c_X_raise l D q c _ F_35 A_116 2) zw_701 zw_703 zs_45 zw_6 zw_704 ⟨by decide +kernel, by decide, rfl, rfl⟩ hK hP hD ga_5 rfl rfl rfl hl.1 rfl (Nat.le_of_ble_eq_true rfl) zd_X_pace_133 ⟨Nat.zero_le _, Nat.zero_le _⟩) hD hS hA (fun z_133 F_133 A_133 H locs hq_133 hP hD hS => ?_)
                obtain ⟨y1, y2, y3⟩ := hq_133
                exact ret _ _ _ _ _ _ _ zd_X_pace_136 hP hD hS (by first | exact ⟨⟨fun j h0 h1 h2 h3 h4 h5 _ _ _ _ => by rw [y2]; simp only [fuP, h0, if_false]; exact (k2 j h1 h2 h3 h4 h5).trans (by simp [fuP, h0]), fun k h1 h2 h3 h4 h5 h6 h7 h8 h9 _ _ _ _ _ _ => by rw [y3]; exact (tk k h9).trans (k3 k h1 h2 h3 h4 h5 h6 h7 h8)⟩, fun _ => pc_fin (F := F_35) (A := A_35) (fun j h0 _ _ _ _ => by rw [y2]; simp only [fuP, h0, if_false]) (fun k h => by rw [y3]; exact tk k (by omega)) k1 k4 (by rw [y2]; exact ⟨fun _ => rfl, fun _ _ => rfl, fun _ _ _ => rfl, fun _ _ h => absurd h hnc_, fun _ _ h => absurd h hnc_⟩), fun h => absurd hr_ h⟩ | exact ⟨⟨fun j h0 h1 h2 h3 h4 h5 _ _ _ _ => by rw [y2]; simp only [fuP, h0, if_false]; exact (k2 j h1 h2 h3 h4 h5).trans (by simp [fuP, h0]), fun k h1 h2 h3 h4 h5 h6 h7 h8 h9 _ _ _ _ _ _ => by rw [y3]; exact (s1 k h9).trans (k3 k h1 h2 h3 h4 h5 h6 h7 h8)⟩, fun _ => pc_fin (F := F_35) (A := A_35) (fun j h0 _ _ _ _ => by rw [y2]; simp only [fuP, h0, if_false]) (fun k h => by rw [y3]; exact s1 k (by omega)) k1 k4 (by rw [y2]; exact ⟨fun _ => rfl, fun _ _ => rfl, fun _ _ _ => rfl, fun _ _ h => absurd h hnc_, fun _ _ h => absurd h hnc_⟩), fun h => absurd hr_ h⟩)
              · refine lv_aload_n hx hb zd_X_pace_122 rfl (lv_at hl 0 rfl) ?_
                refine lv_iload_n hx hb zd_X_pace_123 rfl (lv_at hl 1 rfl) ?_
                refine lv_iconst (v := iI (1)) hx hb zd_X_pace_124 rfl ?_
                refine z_goi (z_runV (n := 2) (k := 5) (ci := 5) (As := [.int (iI (a)), .int (iI (1))]) (rest := []) S (c_X_comesToAll l D q c _ F_35 A_116 a 1 (by first | omega | (rw [f501]; omega) | (simp only [s1 36 (by decide), s1 37 (by decide), s1 38 (by decide), s1 39 (by decide), s1 40 (by decide), s1 41 (by decide)]; first | assumption | (rw [f501]; assumption))) (by first | omega | (rw [f501]; omega) | (simp only [s1 36 (by decide), s1 37 (by decide), s1 38 (by decide), s1 39 (by decide), s1 40 (by decide), s1 41 (by decide)]; first | assumption | (rw [f501]; assumption))) (by first | omega | (rw [f501]; omega) | (simp only [s1 36 (by decide), s1 37 (by decide), s1 38 (by decide), s1 39 (by decide), s1 40 (by decide), s1 41 (by decide)]; first | assumption | (rw [f501]; assumption))) (by first | omega | (rw [f501]; omega) | (simp only [s1 36 (by decide), s1 37 (by decide), s1 38 (by decide), s1 39 (by decide), s1 40 (by decide), s1 41 (by decide)]; first | assumption | (rw [f501]; assumption))) (by first | omega | (rw [f501]; omega) | (simp only [s1 36 (by decide), s1 37 (by decide), s1 38 (by decide), s1 39 (by decide), s1 40 (by decide), s1 41 (by decide)]; first | assumption | (rw [f501]; assumption))) (by first | omega | (rw [f501]; omega) | (simp only [s1 36 (by decide), s1 37 (by decide), s1 38 (by decide), s1 39 (by decide), s1 40 (by decide), s1 41 (by decide)]; first | assumption | (rw [f501]; assumption)))) zw_725 zw_727 zs_47 zw_6 zw_728 ⟨by decide +kernel, by decide, rfl, rfl⟩ hK hP hD ga_5 rfl rfl rfl hl.1 rfl (Nat.le_of_ble_eq_true rfl) zd_X_pace_125 ⟨Nat.zero_le _, Nat.zero_le _⟩) hD hS hA (fun z_125 F_125 A_125 H locs hq_125 hP hD hS => ?_)
                obtain ⟨hf_125, hq_125⟩ := hq_125
                rw [hf_125] at hP hD
                obtain ⟨t1, t2, t3⟩ := hq_125
                have tk : ∀ k, k ≠ 49 → A_125 k = A_35 k := fun k h => (t1 k h).trans (s1 k h)
                refine x_if_ne (tgt := 137) hx hb zd_X_pace_128 (by decide) (⟨by omega, by omega⟩) (fun h_128 => ?_) (fun h_128 => ?_)
                · have hcl_ : clM F_35 A_35 a := ⟨by (have := s3.mp (by omega); exact this), by (have := t3.mp (by omega); rw [s1 36 (by decide), s1 37 (by decide), s1 41 (by decide)] at this; exact this)⟩
                  refine lv_iload_n hx hb zd_X_pace_137 rfl (lv_at hl 3 rfl) ?_
                  refine lv_bipush (v := iI (40)) hx hb zd_X_pace_138 (by decide) ?_
                  refine x_icmp_le (tgt := 149) hx hb zd_X_pace_140 (by decide) (⟨by omega, by omega⟩) (⟨by omega, by omega⟩) (fun h_140 => ?_) (fun h_140 => ?_)
                  · obtain ⟨hpe_, hbe_⟩ := hbp F_35 A_35 k4 (fun j h0 h1 h2 h3 h4 h5 => (k2 j h1 h2 h3 h4 h5).trans (by simp [fuP, h0])) k3 hpl_ hall_ hcl_ (by omega)
                    refine lv_aload_n hx hb zd_X_pace_149 rfl (lv_at hl 0 rfl) ?_
                    refine lv_aload_n hx hb zd_X_pace_150 rfl (lv_at hl 0 rfl) ?_
                    refine va_get (D := D) (ci := 5) (v := .ref (q 41)) (C := zR_X) (T := zT_X) (N := 34) hx hb hts zi_X hown hK.1 hP 5 ga_5 rfl 13 (by decide) (hts _ zw_546) (fun _ h9 => h9) rfl zd_X_pace_151 ?_
                    refine lv_iload_n hx hb zd_X_pace_154 rfl (lv_at hl 1 rfl) ?_
                    refine x_iald (v := A_35 41 a) hx hb hK.1 hP 41 0 ga_41 rfl (by decide) (by omega) (by omega) (by rw [tk 41 (by decide)]) zd_X_pace_155 ?_
                    refine z_gov (z_runV (n := 1) (k := 5) (ci := 5) (As := [.int (iI (A_35 41 a))]) (rest := []) S (c_X_findPace l D q c _ F_35 A_125 (A_35 41 a) (P) (Q1) (by first | omega | (rw [f501]; omega) | (simp only [tk 36 (by decide), tk 37 (by decide), tk 38 (by decide), tk 39 (by decide), tk 40 (by decide), tk 41 (by decide), tk 44 (by decide)]; first | assumption | (rw [f501]; assumption))) (by first | omega | (rw [f501]; omega) | (simp only [tk 36 (by decide), tk 37 (by decide), tk 38 (by decide), tk 39 (by decide), tk 40 (by decide), tk 41 (by decide), tk 44 (by decide)]; first | assumption | (rw [f501]; assumption))) (by first | omega | (rw [f501]; omega) | (simp only [tk 36 (by decide), tk 37 (by decide), tk 38 (by decide), tk 39 (by decide), tk 40 (by decide), tk 41 (by decide), tk 44 (by decide)]; first | assumption | (rw [f501]; assumption))) (by first | omega | (rw [f501]; omega) | (simp only [tk 36 (by decide), tk 37 (by decide), tk 38 (by decide), tk 39 (by decide), tk 40 (by decide), tk 41 (by decide), tk 44 (by decide)]; first | assumption | (rw [f501]; assumption))) (by first | omega | (rw [f501]; omega) | (simp only [tk 36 (by decide), tk 37 (by decide), tk 38 (by decide), tk 39 (by decide), tk 40 (by decide), tk 41 (by decide), tk 44 (by decide)]; first | assumption | (rw [f501]; assumption))) (by first | assumption | omega | exact ⟨by omega, by omega⟩) (by simp only [tk 36 (by decide), tk 37 (by decide), tk 41 (by decide)]; exact k4.2.1.2.2) (by rw [mA_cg tk]; have h9 := gN_in (A := mA A_35) (root := A_35 41 a) (b := a) (n := F_35 501) (fun b h0 h1 => (m1 b h0 (by omega)).1) hr_.1.1 (by omega) rfl (i := F_35 501) (by omega) (by omega); have h8 : 1 ≤ mA A_35 7 a := (m1 a (by omega) (by omega)).1; unfold smM at hsm_; omega) (by rw [mA_cg tk, pE_cg tk]; exact hpe_) (by rw [pE_cg tk]; exact hbe_)) zw_729 zw_731 zs_48 zw_6 zw_732 ⟨by decide +kernel, by decide, rfl, rfl⟩ hK hP hD ga_5 rfl rfl rfl hl.1 rfl (Nat.le_of_ble_eq_true rfl) zd_X_pace_156 ⟨Nat.zero_le _, Nat.zero_le _⟩) hD hS hA (fun F_156 A_156 H locs hq_156 hP hD hS => ?_)
                    obtain ⟨g1, g2, g3, g4⟩ := hq_156
                    refine lv_iload_n hx hb zd_X_pace_159 rfl (lv_at hl 2 rfl) ?_
                    refine x_if_ne (tgt := 170) hx hb zd_X_pace_160 (by decide) (⟨by omega, by omega⟩) (fun h_160 => ?_) (fun h_160 => ?_)
                    · refine lv_aload_n hx hb zd_X_pace_170 rfl (lv_at hl 0 rfl) ?_
                      refine va_get (D := D) (ci := 5) (v := .int (iI (F_156 532))) (C := zR_X) (T := zT_X) (N := 34) hx hb hts zi_X hown hK.1 hP 5 ga_5 rfl 32 (by decide) (hts _ zw_565) (fun _ h9 => h9) rfl zd_X_pace_171 ?_
                      exact ret _ _ _ _ _ _ _ zd_X_pace_174 hP hD hS (⟨⟨fun j h0 h1 h2 h3 h4 h5 h6 h7 h8 h9 => (g1 j h6 h7 h8 h9).trans ((k2 j h1 h2 h3 h4 h5).trans (by simp [fuP, h0])), fun k h1 h2 h3 h4 h5 h6 h7 h8 h9 i1 i2 i3 i4 i5 i6 => (g2 k i1 i2 i3 i4 i5 i6).trans ((tk k h9).trans (k3 k h1 h2 h3 h4 h5 h6 h7 h8))⟩, fun _ => pc_fin (F := F_35) (A := A_35) (fun j h0 h1 h2 h3 h4 => g1 j h1 h2 h3 h4) (fun k h => (g2 k (by omega) (by omega) (by omega) (by omega) (by omega) (by omega)).trans (tk k (by omega))) k1 k4 ⟨fun h => absurd hpl_ h, fun _ h => absurd hall_ h, fun _ _ h => absurd hcl_ h, fun _ _ _ h => by omega, fun _ _ _ _ => ⟨by rw [g1 500 (by decide) (by decide) (by decide) (by decide), k2 500 (by decide) (by decide) (by decide) (by decide) (by decide)]; rfl, fun h => by first | exact g3 | omega, fun h => by first | exact g4 | omega⟩⟩, fun h => absurd hr_ h⟩)
                    · refine lv_aload_n hx hb zd_X_pace_163 rfl (lv_at hl 0 rfl) ?_
                      refine va_get (D := D) (ci := 5) (v := .int (iI (F_156 531))) (C := zR_X) (T := zT_X) (N := 34) hx hb hts zi_X hown hK.1 hP 5 ga_5 rfl 31 (by decide) (hts _ zw_564) (fun _ h9 => h9) rfl zd_X_pace_164 ?_
                      refine lv_goto (tgt := 174) hx hb zd_X_pace_167 (by decide) ?_
                      exact ret _ _ _ _ _ _ _ zd_X_pace_174 hP hD hS (⟨⟨fun j h0 h1 h2 h3 h4 h5 h6 h7 h8 h9 => (g1 j h6 h7 h8 h9).trans ((k2 j h1 h2 h3 h4 h5).trans (by simp [fuP, h0])), fun k h1 h2 h3 h4 h5 h6 h7 h8 h9 i1 i2 i3 i4 i5 i6 => (g2 k i1 i2 i3 i4 i5 i6).trans ((tk k h9).trans (k3 k h1 h2 h3 h4 h5 h6 h7 h8))⟩, fun _ => pc_fin (F := F_35) (A := A_35) (fun j h0 h1 h2 h3 h4 => g1 j h1 h2 h3 h4) (fun k h => (g2 k (by omega) (by omega) (by omega) (by omega) (by omega) (by omega)).trans (tk k (by omega))) k1 k4 ⟨fun h => absurd hpl_ h, fun _ h => absurd hall_ h, fun _ _ h => absurd hcl_ h, fun _ _ _ h => by omega, fun _ _ _ _ => ⟨by rw [g1 500 (by decide) (by decide) (by decide) (by decide), k2 500 (by decide) (by decide) (by decide) (by decide) (by decide)]; rfl, fun h => by first | exact g3 | omega, fun h => by first | exact g4 | omega⟩⟩, fun h => absurd hr_ h⟩)
                  · refine lv_aload_n hx hb zd_X_pace_143 rfl (lv_at hl 0 rfl) ?_
                    refine lv_iconst (v := iI (3)) hx hb zd_X_pace_144 rfl ?_
                    refine z_goi (z_runV (n := 1) (k := 5) (ci := 5) (As := [.int (iI (3))]) (rest := []) S (c_X_raise l D q c _ F_35 A_125 3) zw_701 zw_703 zs_45 zw_6 zw_704 ⟨by decide +kernel, by decide, rfl, rfl⟩ hK hP hD ga_5 rfl rfl rfl hl.1 rfl (Nat.le_of_ble_eq_true rfl) zd_X_pace_145 ⟨Nat.zero_le _, Nat.zero_le _⟩) hD hS hA (fun z_145 F_145 A_145 H locs hq_145 hP hD hS => ?_)
                    obtain ⟨y1, y2, y3⟩ := hq_145
                    exact ret _ _ _ _ _ _ _ zd_X_pace_148 hP hD hS (⟨⟨fun j h0 h1 h2 h3 h4 h5 _ _ _ _ => by rw [y2]; simp only [fuP, h0, if_false]; exact (k2 j h1 h2 h3 h4 h5).trans (by simp [fuP, h0]), fun k h1 h2 h3 h4 h5 h6 h7 h8 h9 _ _ _ _ _ _ => by rw [y3]; exact (tk k h9).trans (k3 k h1 h2 h3 h4 h5 h6 h7 h8)⟩, fun _ => pc_fin (F := F_35) (A := A_35) (fun j h0 _ _ _ _ => by rw [y2]; simp only [fuP, h0, if_false]) (fun k h => by rw [y3]; exact tk k (by omega)) k1 k4 (by rw [y2]; exact ⟨fun h => absurd hpl_ h, fun _ h => absurd hall_ h, fun _ _ h => absurd hcl_ h, fun _ _ _ _ => rfl, fun _ _ _ h => by omega⟩), fun h => absurd hr_ h⟩)
                · have hnc_ : ¬ clM F_35 A_35 a := by first | (intro h; have := s3.mpr (by rw [f501, f502]; have h9 := h.1; rw [f501, f502] at h9; exact h9); omega) | (intro h; have h9 := h.2; rw [f501, f502] at h9; have := t3.mpr (by rw [f501, f502, s1 36 (by decide), s1 37 (by decide), s1 41 (by decide)]; exact h9); omega)
                  refine lv_aload_n hx hb zd_X_pace_131 rfl (lv_at hl 0 rfl) ?_
                  refine lv_iconst (v := iI (2)) hx hb zd_X_pace_132 rfl ?_
                  refine z_goi (z_runV (n := 1) (k := 5) (ci := 5) (As := [.int (iI (2))]) (rest := []) S (c_X_raise l D q c _ F_35 A_125 2) zw_701 zw_703 zs_45 zw_6 zw_704 ⟨by decide +kernel, by decide, rfl, rfl⟩ hK hP hD ga_5 rfl rfl rfl hl.1 rfl (Nat.le_of_ble_eq_true rfl) zd_X_pace_133 ⟨Nat.zero_le _, Nat.zero_le _⟩) hD hS hA (fun z_133 F_133 A_133 H locs hq_133 hP hD hS => ?_)
                  obtain ⟨y1, y2, y3⟩ := hq_133
                  exact ret _ _ _ _ _ _ _ zd_X_pace_136 hP hD hS (by first | exact ⟨⟨fun j h0 h1 h2 h3 h4 h5 _ _ _ _ => by rw [y2]; simp only [fuP, h0, if_false]; exact (k2 j h1 h2 h3 h4 h5).trans (by simp [fuP, h0]), fun k h1 h2 h3 h4 h5 h6 h7 h8 h9 _ _ _ _ _ _ => by rw [y3]; exact (tk k h9).trans (k3 k h1 h2 h3 h4 h5 h6 h7 h8)⟩, fun _ => pc_fin (F := F_35) (A := A_35) (fun j h0 _ _ _ _ => by rw [y2]; simp only [fuP, h0, if_false]) (fun k h => by rw [y3]; exact tk k (by omega)) k1 k4 (by rw [y2]; exact ⟨fun _ => rfl, fun _ _ => rfl, fun _ _ _ => rfl, fun _ _ h => absurd h hnc_, fun _ _ h => absurd h hnc_⟩), fun h => absurd hr_ h⟩ | exact ⟨⟨fun j h0 h1 h2 h3 h4 h5 _ _ _ _ => by rw [y2]; simp only [fuP, h0, if_false]; exact (k2 j h1 h2 h3 h4 h5).trans (by simp [fuP, h0]), fun k h1 h2 h3 h4 h5 h6 h7 h8 h9 _ _ _ _ _ _ => by rw [y3]; exact (s1 k h9).trans (k3 k h1 h2 h3 h4 h5 h6 h7 h8)⟩, fun _ => pc_fin (F := F_35) (A := A_35) (fun j h0 _ _ _ _ => by rw [y2]; simp only [fuP, h0, if_false]) (fun k h => by rw [y3]; exact s1 k (by omega)) k1 k4 (by rw [y2]; exact ⟨fun _ => rfl, fun _ _ => rfl, fun _ _ _ => rfl, fun _ _ h => absurd h hnc_, fun _ _ h => absurd h hnc_⟩), fun h => absurd hr_ h⟩)
            · have l_ := hl45 i (by omega) (by omega)
              refine lv_aload_n hx hb zd_X_pace_61 rfl (lv_at hl 0 rfl) ?_
              refine va_get (D := D) (ci := 5) (v := .ref (q 45)) (C := zR_X) (T := zT_X) (N := 34) hx hb hts zi_X hown hK.1 hP 5 ga_5 rfl 17 (by decide) (hts _ zw_550) (fun _ h9 => h9) rfl zd_X_pace_62 ?_
              refine lv_iload hx hb zd_X_pace_65 (lv_at hl 4 rfl) ?_
              refine x_iald (v := A_35 45 i) hx hb hK.1 hP 45 0 ga_45 rfl (by decide) (by omega) (by omega) (rfl) zd_X_pace_67 ?_
              refine x_if_eq (tgt := 77) hx hb zd_X_pace_68 (by decide) (⟨by omega, by omega⟩) (fun h_68 => ?_) (fun h_68 => ?_)
              · have c_ := m1 i (by omega) (by omega)
                have p_ := u2 i (by omega) (by omega)
                refine lv_iload_n hx hb zd_X_pace_77 rfl (lv_at hl 3 rfl) ?_
                refine lv_aload_n hx hb zd_X_pace_78 rfl (lv_at hl 0 rfl) ?_
                refine va_get (D := D) (ci := 5) (v := .ref (q 41)) (C := zR_X) (T := zT_X) (N := 34) hx hb hts zi_X hown hK.1 hP 5 ga_5 rfl 13 (by decide) (hts _ zw_546) (fun _ h9 => h9) rfl zd_X_pace_79 ?_
                refine lv_iload hx hb zd_X_pace_82 (lv_at hl 4 rfl) ?_
                refine x_iald (v := A_35 41 i) hx hb hK.1 hP 41 0 ga_41 rfl (by decide) (by omega) (by omega) (rfl) zd_X_pace_84 ?_
                refine lv_aload_n hx hb zd_X_pace_85 rfl (lv_at hl 0 rfl) ?_
                refine va_get (D := D) (ci := 5) (v := .ref (q 41)) (C := zR_X) (T := zT_X) (N := 34) hx hb hts zi_X hown hK.1 hP 5 ga_5 rfl 13 (by decide) (hts _ zw_546) (fun _ h9 => h9) rfl zd_X_pace_86 ?_
                refine lv_iload_n hx hb zd_X_pace_89 rfl (lv_at hl 1 rfl) ?_
                refine x_iald (v := A_35 41 a) hx hb hK.1 hP 41 0 ga_41 rfl (by decide) (by omega) (by omega) (rfl) zd_X_pace_90 ?_
                refine x_icmp_ne (tgt := 104) hx hb zd_X_pace_91 (by decide) (⟨by omega, by omega⟩) (⟨by omega, by omega⟩) (fun h_91 => ?_) (fun h_91 => ?_)
                · refine lv_iconst (v := iI (0)) hx hb zd_X_pace_104 rfl ?_
                  refine x_iadd hx hb zd_X_pace_105 ?_
                  refine lv_istore_n (lv' := [(3, .int (iI (al + 0))), (0, .ref (q 5)), (1, .int (iI (a))), (2, .int (iI (w))), (4, .int (iI (i)))]) hx hb zd_X_pace_106 rfl hl (by decide) rfl (fun ls hl => ?_)
                  refine lv_iinc (v := iI (i + 1)) (lv' := [(4, .int (iI (i + 1))), (3, .int (iI (al + 0))), (0, .ref (q 5)), (1, .int (iI (a))), (2, .int (iI (w)))]) hx hb zd_X_pace_107 hl (k := 4) rfl (iI_add _ _) (by decide) rfl (fun ls hl => ?_)
                  refine lv_goto (tgt := 52) hx hb zd_X_pace_110 (by decide) ?_
                  exact ih_52 (al + 0) (i + 1)   (by first | assumption | omega | (simp_all; done)) (fun b h0 h1 => by by_cases e_ : b = i; (rw [e_]; exact h_68); (exact hal b h0 (by omega))) (by rw [sI_s hi.1, ← hs]; unfold gS; first | (rw [if_pos (show mA A_35 8 i = _ from h_91)]; rfl) | (rw [if_neg (show ¬ mA A_35 8 i = _ from h_91)])) (by first | assumption | omega | (simp_all; done)) (by omega) _ _ hP hD hS ls (lv_sub hl [2, 3, 4, 1, 0] rfl)
                · refine lv_aload_n hx hb zd_X_pace_94 rfl (lv_at hl 0 rfl) ?_
                  refine va_get (D := D) (ci := 5) (v := .ref (q 44)) (C := zR_X) (T := zT_X) (N := 34) hx hb hts zi_X hown hK.1 hP 5 ga_5 rfl 16 (by decide) (hts _ zw_549) (fun _ h9 => h9) rfl zd_X_pace_95 ?_
                  refine lv_iload hx hb zd_X_pace_98 (lv_at hl 4 rfl) ?_
                  refine x_iald (v := A_35 44 i) hx hb hK.1 hP 44 0 ga_44 rfl (by decide) (by omega) (by omega) (rfl) zd_X_pace_100 ?_
                  refine lv_goto (tgt := 105) hx hb zd_X_pace_101 (by decide) ?_
                  refine x_iadd hx hb zd_X_pace_105 ?_
                  refine lv_istore_n (lv' := [(3, .int (iI (al + (A_35 44 i)))), (0, .ref (q 5)), (1, .int (iI (a))), (2, .int (iI (w))), (4, .int (iI (i)))]) hx hb zd_X_pace_106 rfl hl (by decide) rfl (fun ls hl => ?_)
                  refine lv_iinc (v := iI (i + 1)) (lv' := [(4, .int (iI (i + 1))), (3, .int (iI (al + (A_35 44 i)))), (0, .ref (q 5)), (1, .int (iI (a))), (2, .int (iI (w)))]) hx hb zd_X_pace_107 hl (k := 4) rfl (iI_add _ _) (by decide) rfl (fun ls hl => ?_)
                  refine lv_goto (tgt := 52) hx hb zd_X_pace_110 (by decide) ?_
                  exact ih_52 (al + (A_35 44 i)) (i + 1)   (by first | assumption | omega | (simp_all; done)) (fun b h0 h1 => by by_cases e_ : b = i; (rw [e_]; exact h_68); (exact hal b h0 (by omega))) (by rw [sI_s hi.1, ← hs]; unfold gS; first | (rw [if_pos (show mA A_35 8 i = _ from h_91)]; rfl) | (rw [if_neg (show ¬ mA A_35 8 i = _ from h_91)])) (by first | assumption | omega | (simp_all; done)) (by omega) _ _ hP hD hS ls (lv_sub hl [2, 3, 4, 1, 0] rfl)
              · have hna_ : ¬ alM F_35 A_35 := fun h => h_68 (h i (by omega) (by omega))
                refine lv_aload_n hx hb zd_X_pace_71 rfl (lv_at hl 0 rfl) ?_
                refine lv_iconst (v := iI (2)) hx hb zd_X_pace_72 rfl ?_
                refine z_goi (z_runV (n := 1) (k := 5) (ci := 5) (As := [.int (iI (2))]) (rest := []) S (c_X_raise l D q c _ F_35 A_35 2) zw_701 zw_703 zs_45 zw_6 zw_704 ⟨by decide +kernel, by decide, rfl, rfl⟩ hK hP hD ga_5 rfl rfl rfl hl.1 rfl (Nat.le_of_ble_eq_true rfl) zd_X_pace_73 ⟨Nat.zero_le _, Nat.zero_le _⟩) hD hS hA (fun z_73 F_73 A_73 H locs hq_73 hP hD hS => ?_)
                obtain ⟨y1, y2, y3⟩ := hq_73
                exact ret _ _ _ _ _ _ _ zd_X_pace_76 hP hD hS (⟨⟨fun j h0 h1 h2 h3 h4 h5 _ _ _ _ => by rw [y2]; simp only [fuP, h0, if_false]; exact (k2 j h1 h2 h3 h4 h5).trans (by simp [fuP, h0]), fun k h1 h2 h3 h4 h5 h6 h7 h8 h9 _ _ _ _ _ _ => by rw [y3]; exact ((fun (k : Nat) (_ : k ≠ 49) => (rfl : A_35 k = A_35 k)) k h9).trans (k3 k h1 h2 h3 h4 h5 h6 h7 h8)⟩, fun _ => pc_fin (F := F_35) (A := A_35) (fun j h0 _ _ _ _ => by rw [y2]; simp only [fuP, h0, if_false]) (fun k h => by rw [y3]) k1 k4 (by rw [y2]; exact ⟨fun _ => rfl, fun _ _ => rfl, fun _ h => absurd h hna_, fun _ h => absurd h hna_, fun _ h => absurd h hna_⟩), fun h => absurd hr_ h⟩)
        exact L_52 (((F 501 - (0) : Int) + 1).toNat) (0) (0)   (by first | assumption | omega | (simp_all; done)) (fun b h0 h1 => by omega) (rfl) (by first | assumption | omega | (simp_all; done)) (by omega) _ _ hP hD hS ls (lv_sub hl [2, 3, 4, 1, 0] rfl)
      · have hpl_ : ¬ plM F_35 := by (rw [k5] at h_38; split at h_38; (omega); (assumption))
        refine lv_aload_n hx hb zd_X_pace_41 rfl (lv_at hl 0 rfl) ?_
        refine lv_iconst (v := iI (2)) hx hb zd_X_pace_42 rfl ?_
        refine z_goi (z_runV (n := 1) (k := 5) (ci := 5) (As := [.int (iI (2))]) (rest := []) S (c_X_raise l D q c _ F_35 A_35 2) zw_701 zw_703 zs_45 zw_6 zw_704 ⟨by decide +kernel, by decide, rfl, rfl⟩ hK hP hD ga_5 rfl rfl rfl hl.1 rfl (Nat.le_of_ble_eq_true rfl) zd_X_pace_43 ⟨Nat.zero_le _, Nat.zero_le _⟩) hD hS hA (fun z_43 F_43 A_43 H locs hq_43 hP hD hS => ?_)
        obtain ⟨y1, y2, y3⟩ := hq_43
        exact ret _ _ _ _ _ _ _ zd_X_pace_46 hP hD hS (⟨⟨fun j h0 h1 h2 h3 h4 h5 _ _ _ _ => by rw [y2]; simp only [fuP, h0, if_false]; exact (k2 j h1 h2 h3 h4 h5).trans (by simp [fuP, h0]), fun k h1 h2 h3 h4 h5 h6 h7 h8 h9 _ _ _ _ _ _ => by rw [y3]; exact ((fun (k : Nat) (_ : k ≠ 49) => (rfl : A_35 k = A_35 k)) k h9).trans (k3 k h1 h2 h3 h4 h5 h6 h7 h8)⟩, fun _ => pc_fin (F := F_35) (A := A_35) (fun j h0 _ _ _ _ => by rw [y2]; simp only [fuP, h0, if_false]) (fun k h => by rw [y3]) k1 k4 (by rw [y2]; exact ⟨fun _ => rfl, fun h => absurd h hpl_, fun h => absurd h hpl_, fun h => absurd h hpl_, fun h => absurd h hpl_⟩), fun h => absurd hr_ h⟩)
    · have hr_ : ¬ ((0 ≤ a ∧ a < F 501) ∧ 0 ≤ w ∧ w ≤ 1) := by first | (rw [if_neg (by assumption)] at hq_13; omega) | (intro hr9; first | (rw [if_pos (by omega)] at hq_13; omega) | (rw [if_pos (by omega)] at hq_22; omega))
      refine lv_aload_n hx hb zd_X_pace_28 rfl (lv_at hl 0 rfl) ?_
      refine lv_iconst (v := iI (1)) hx hb zd_X_pace_29 rfl ?_
      refine z_goi (z_runV (n := 1) (k := 5) (ci := 5) (As := [.int (iI (1))]) (rest := []) S (c_X_raise l D q c _ (fuP F 500 0) A 1) zw_701 zw_703 zs_45 zw_6 zw_704 ⟨by decide +kernel, by decide, rfl, rfl⟩ hK hP hD ga_5 rfl rfl rfl hl.1 rfl (Nat.le_of_ble_eq_true rfl) zd_X_pace_30 ⟨Nat.zero_le _, Nat.zero_le _⟩) hD hS hA (fun z_30 F_30 A_30 H locs hq_30 hP hD hS => ?_)
      obtain ⟨y1, y2, y3⟩ := hq_30
      exact ret _ _ _ _ _ _ _ zd_X_pace_33 hP hD hS (⟨⟨fun j h0 h1 h2 h3 h4 h5 _ _ _ _ => by rw [y2]; simp [fuP, h0], fun k _ _ _ _ _ _ _ _ _ _ _ _ _ _ _ => by rw [y3]⟩, fun h => absurd h hr_, fun _ => ⟨by rw [y2]; funext j; unfold fuP; split <;> rfl, y3⟩⟩)
