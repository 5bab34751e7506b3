theorem lu_e {g f h : Int → Int} {P : Int → Prop} [DecidablePred P] {i : Int} (he : ∀ a, g a = if 0 ≤ a ∧ a < i ∧ P a then f a else h a) (hv : g i = f i) (hi : 0 ≤ i) (hp : P i) : ∀ a, g a = if 0 ≤ a ∧ a < i + 1 ∧ P a then f a else h a := by
  intro a
  by_cases e : a = i
  · subst e; rw [if_pos ⟨hi, by omega, hp⟩]; exact hv
  · rw [he a]
    by_cases hh : 0 ≤ a ∧ a < i ∧ P a
    · rw [if_pos hh, if_pos ⟨hh.1, by omega, hh.2.2⟩]
    · rw [if_neg hh, if_neg (fun z => hh ⟨z.1, by omega, z.2.2⟩)]
theorem lu_yy {g f h : Int → Int} {P : Int → Prop} [DecidablePred P] {i u v : Int} (he : ∀ a, g a = if 0 ≤ a ∧ a < i ∧ P a then f a else h a) (hi : 0 ≤ i) (hp : P i) (hv : v = f i) : ∀ a, upI (upI g i u) i v a = if 0 ≤ a ∧ a < i + 1 ∧ P a then f a else h a := by
  intro a
  have := lu_y he hi hp hv a
  rw [← this]
  by_cases e : a = i
  · subst e; rw [upI_s, upI_s]
  · rw [upI_n e, upI_n e, upI_n e]
theorem play_step {n m : Int} {fr to pu tk : Int → Int} {T : rT} {od l1 l2 l3 m1 m2 m3 : Int → Int} {i z : Int} (hi : 0 ≤ i) (hr : rok n m fr to pu tk T od i.toNat) (hs : rat n m (rrun fr to pu tk T od i.toNat) l1 l2 l3)
    (hz : (0 ≤ z ∧ z < n) ∧ (0 < l1 z ∧ ∀ k, 0 ≤ k → k < m → to k = z → tk k ≤ l2 k) ∧ ∀ b, 0 ≤ b → b < z → ¬ (0 < l1 b ∧ ∀ k, 0 ≤ k → k < m → to k = b → tk k ≤ l2 k))
    (h1 : ∀ a, 0 ≤ a → a < n → m1 a = upI l1 z (l1 z - 1) a) (h2 : ∀ k, 0 ≤ k → k < m → m2 k = l2 k - (if to k = z then tk k else 0) + (if fr k = z then pu k else 0)) (h3 : ∀ k, 0 ≤ k → k < m → m3 k = max (l3 k) (l2 k - (if to k = z then tk k else 0) + (if fr k = z then pu k else 0))) :
    rok n m fr to pu tk T (upI od i z) (i + 1).toNat ∧ rat n m (rrun fr to pu tk T (upI od i z) (i + 1).toNat) m1 m2 m3 := by
  have e0 : (i + 1).toNat = i.toNat + 1 := by omega
  have ei : ((i.toNat : Nat) : Int) = i := by omega
  have hc : ∀ j : Nat, j < i.toNat → upI od i z j = od j := fun j hj => upI_n (by omega)
  have hru : ∀ k : Nat, k ≤ i.toNat → rrun fr to pu tk T (upI od i z) k = rrun fr to pu tk T od k := fun k hk => rrun_cong k (fun j hj => hc j (by omega))
  rw [e0]
  refine ⟨fun k hk => ?_, ?_⟩
  · rw [hru k (by omega)]
    by_cases e : k = i.toNat
    · subst e
      rw [ei, upI_s]
      refine ⟨hz.1, (rat_rdy hs hz.1.1 hz.1.2).mpr hz.2.1, fun b b0 b1 c => hz.2.2 b b0 b1 ((rat_rdy hs b0 (by have := hz.1; omega)).mp c)⟩
    · rw [hc k (by omega)]
      exact hr k (by omega)
  · show rat n m (rfire fr to pu tk (rrun fr to pu tk T (upI od i z) i.toNat) (upI od i z i.toNat)) m1 m2 m3
    rw [hru _ (Nat.le_refl _), ei, upI_s]
    generalize rrun fr to pu tk T od i.toNat = S at hs ⊢
    refine ⟨fun a a0 a1 => ?_, fun k k0 k1 => ?_⟩
    · rw [h1 a a0 a1]
      simp only [rfire, upI]
      split
      · rename_i e; subst e; rw [hs.1 a a0 a1]
      · rw [hs.1 a a0 a1]
    · rw [h2 k k0 k1, h3 k k0 k1, (hs.2 k k0 k1).1, (hs.2 k k0 k1).2]
      exact ⟨rfl, rfl⟩
/-- the round that the class holds -/
def RdOK (F : Nat → Int) (A : Nat → Int → Int) : Prop := (0 ≤ F 201 ∧ F 201 ≤ 400) ∧ rok (F 100) (F 101) (A 9) (A 10) (A 11) (A 12) (A 7, A 13, A 13) (A 14) (F 201).toNat ∧ rat (F 100) (F 101) (rrun (A 9) (A 10) (A 11) (A 12) (A 7, A 13, A 13) (A 14) (F 201).toNat) (A 15) (A 16) (A 17) ∧ (F 201 = 400 ∨ rnon (F 100) (F 101) (A 10) (A 12) (rrun (A 9) (A 10) (A 11) (A 12) (A 7, A 13, A 13) (A 14) (F 201).toNat))
theorem rat_b {F : Nat → Int} {A : Nat → Int → Int} {od l1 l2 l3 : Int → Int} {i : Int} (hi : 0 ≤ i ∧ i ≤ 400) (hact : ∀ a, 0 ≤ a → a < 8 → (1 ≤ A 7 a ∧ A 7 a ≤ 4782969) ∧ 0 ≤ A 8 a ∧ A 8 a < 8) (hn : 1 ≤ F 100 ∧ F 100 ≤ 8) (hch : ∀ k, 0 ≤ k → k < F 101 → (0 ≤ A 9 k ∧ A 9 k < F 100) ∧ (0 ≤ A 10 k ∧ A 10 k < F 100) ∧ (1 ≤ A 11 k ∧ A 11 k ≤ 9) ∧ (1 ≤ A 12 k ∧ A 12 k ≤ 9) ∧ 0 ≤ A 13 k ∧ A 13 k ≤ 99)
    (hr : rok (F 100) (F 101) (A 9) (A 10) (A 11) (A 12) (A 7, A 13, A 13) od i.toNat) (hs : rat (F 100) (F 101) (rrun (A 9) (A 10) (A 11) (A 12) (A 7, A 13, A 13) od i.toNat) l1 l2 l3) :
    (∀ k, 0 ≤ k → k < F 101 → (0 ≤ l2 k ∧ l2 k ≤ 99999) ∧ 0 ≤ l3 k ∧ l3 k ≤ 99999) ∧ ∀ a, 0 ≤ a → a < F 100 → 0 ≤ l1 a ∧ l1 a ≤ 4782969 := by
  have h := rok_bound (fun k h0 h1 => (hch k h0 h1).2.2.1) (fun k h0 h1 => (hch k h0 h1).2.2.2.1) ⟨fun a h0 h1 => by have := hact a h0 (by omega); show 0 ≤ A 7 a; omega, fun k h0 h1 => by have := hch k h0 h1; show (0 ≤ A 13 k ∧ A 13 k ≤ 99) ∧ 0 ≤ A 13 k ∧ A 13 k ≤ 99; omega⟩ i.toNat hr
  refine ⟨fun k h0 h1 => ?_, fun a h0 h1 => ?_⟩
  · have := h.2 k h0 h1
    rw [(hs.2 k h0 h1).1, (hs.2 k h0 h1).2]
    omega
  · have := h.1 a h0 h1
    have h2 := hact a h0 (by omega)
    rw [hs.1 a h0 h1]
    have e : ((A 7, A 13, A 13) : rT).1 a = A 7 a := rfl
    omega
theorem play_end {F F7 : Nat → Int} {A A7 : Nat → Int → Int} {i : Int} (hd : F7 201 = i) (hF : ∀ j, j ≠ 201 → F7 j = F j) (hk : ∀ k, k ≠ 14 → k ≠ 15 → k ≠ 16 → k ≠ 17 → A7 k = A k) (hr : rok (F 100) (F 101) (A 9) (A 10) (A 11) (A 12) (A 7, A 13, A 13) (A7 14) i.toNat) (hs : rat (F 100) (F 101) (rrun (A 9) (A 10) (A 11) (A 12) (A 7, A 13, A 13) (A7 14) i.toNat) (A7 15) (A7 16) (A7 17)) (hi : 0 ≤ i ∧ i ≤ 400)
    (he : i = 400 ∨ ∀ b, 0 ≤ b → b < F 100 → ¬ (0 < A7 15 b ∧ ∀ k, 0 ≤ k → k < F 101 → A 10 k = b → A 12 k ≤ A7 16 k)) :
    fuP F7 200 1 200 = 1 ∧ (∀ j, j ≠ 200 → j ≠ 201 → fuP F7 200 1 j = F j) ∧ (∀ k, k ≠ 14 → k ≠ 15 → k ≠ 16 → k ≠ 17 → A7 k = A k) ∧ RdOK (fuP F7 200 1) A7 := by
  refine ⟨rfl, fun j h0 h1 => by simp [fuP, h0, hF j h1], hk, ?_⟩
  unfold RdOK
  have f1 : fuP F7 200 1 201 = i := hd
  have f2 : fuP F7 200 1 100 = F 100 := hF 100 (by decide)
  have f3 : fuP F7 200 1 101 = F 101 := hF 101 (by decide)
  rw [f1, f2, f3, hk 9 (by decide) (by decide) (by decide) (by decide), hk 10 (by decide) (by decide) (by decide) (by decide), hk 11 (by decide) (by decide) (by decide) (by decide), hk 12 (by decide) (by decide) (by decide) (by decide), hk 13 (by decide) (by decide) (by decide) (by decide), hk 7 (by decide) (by decide) (by decide) (by decide)]
  refine ⟨hi, hr, hs, ?_⟩
  rcases he with he | he
  · exact Or.inl he
  · exact Or.inr (fun b b0 b1 c => he b b0 b1 ((rat_rdy hs b0 b1).mp c))
abbrev zr_U_fire : Room := ({ frames := 1, cells := 0, slots := 0, locals := 29 } : Room)
set_option maxHeartbeats 4000000 in
set_option maxRecDepth 100000 in
theorem c_U_fire (l : Launch) (D : va_G) (q : Nat → Nat) (c : Nat → ClassId) (sz : Nat) (F : Nat → Int) (A : Nat → Int → Int) (a : Int) (hn : 1 ≤ F 100 ∧ F 100 ≤ 8) (hc : 0 ≤ F 101 ∧ F 101 ≤ 14) (hch : ∀ k, 0 ≤ k → k < F 101 → (0 ≤ A 9 k ∧ A 9 k < F 100) ∧ (0 ≤ A 10 k ∧ A 10 k < F 100) ∧ (1 ≤ A 11 k ∧ A 11 k ≤ 9) ∧ (1 ≤ A 12 k ∧ A 12 k ≤ 9) ∧ 0 ≤ A 13 k ∧ A 13 k ≤ 99) (hly : ∀ k, 0 ≤ k → k < F 101 → (0 ≤ A 16 k ∧ A 16 k ≤ 99999) ∧ 0 ≤ A 17 k ∧ A 17 k ≤ 99999) (hlf : ∀ a, 0 ≤ a → a < F 100 → 0 ≤ A 15 a ∧ A 15 a ≤ 4782969) (ha : 0 ≤ a ∧ a < F 100) : zMV l zy_U_fire zc_U_fire 4 none zr_U_fire D q c sz [.ref (q 2), .ref (q 1), .int (iI (a))] F A (fun F1 A1 => F1 = F ∧ (∀ k, k ≠ 15 → k ≠ 16 → k ≠ 17 → A1 k = A k) ∧ A1 15 = upI (A 15) a (A 15 a - 1) ∧ (∀ k, A1 16 k = if 0 ≤ k ∧ k < F 101 ∧ True then (A 16 k - (if A 10 k = a then A 12 k else 0) + (if A 9 k = a then A 11 k else 0)) else A 16 k) ∧ ∀ k, A1 17 k = if 0 ≤ k ∧ k < F 101 ∧ True then max (A 17 k) (A 16 k - (if A 10 k = a then A 12 k else 0) + (if A 9 k = a then A 11 k else 0)) else A 17 k) := by
  refine z_ofV (by decide) (Nat.le_of_ble_eq_true rfl) ?_
  intro p e s m args below meth c0 A0 Q C0 ret hP hD hS ls hl
  obtain ⟨S, hK, hA⟩ := C0
  have hx := S.1
  have hb := S.2.1
  have hown := S.2.2.2.1
  have hts : ∀ w ∈ zG, w.before args s = true := fun w h => S.2.2.2.2 w (List.mem_cons_of_mem _ h)
  have hl : lv_has ls 4 [(0, .ref (q 2)), (1, .ref (q 1)), (2, .int (iI (a)))] := hl
  have hla_ := hlf a (by omega) (by omega)
  refine lv_aload_n hx hb zd_U_fire_0 rfl (lv_at hl 0 rfl) ?_
  refine va_get (D := D) (ci := 2) (v := .ref (q 15)) (C := zR_U) (T := zT_U) (N := 6) hx hb hts zi_U hown hK.1 hP 2 ga_2 rfl 3 (by decide) (hts _ zw_106) (fun _ h9 => h9) rfl zd_U_fire_1 ?_
  refine lv_iload_n hx hb zd_U_fire_4 rfl (lv_at hl 2 rfl) ?_
  refine lv_dup2_11 hx hb zd_U_fire_5 rfl rfl ?_
  refine x_iald (v := A 15 a) hx hb hK.1 hP 15 0 ga_15 rfl (by decide) (by omega) (by omega) (rfl) zd_U_fire_6 ?_
  refine lv_iconst (v := iI (1)) hx hb zd_U_fire_7 rfl ?_
  refine x_isub hx hb zd_U_fire_8 ?_
  refine x_iast hx hb hK.1 hP hD hS 15 0 ga_15 rfl (by decide) (by omega) (by omega) zd_U_fire_9 (fun H locs hP hD hS => ?_)
  rw [gs_15] at hP hD
  refine lv_iconst (v := iI (0)) hx hb zd_U_fire_10 rfl ?_
  refine lv_istore_n (lv' := [(3, .int (iI (0))), (0, .ref (q 2)), (1, .ref (q 1)), (2, .int (iI (a)))]) hx hb zd_U_fire_11 rfl hl (by decide) rfl (fun ls hl => ?_)
  have L_12 : ∀ (fu : Nat) (i : Int)  (A12 : Nat → Int → Int), (0 ≤ i ∧ i ≤ F 101) → (∀ k, k ≠ 16 → k ≠ 17 → A12 k = auP A 15 a (A 15 a - 1) k) → (∀ k, A12 16 k = if 0 ≤ k ∧ k < i ∧ True then (A 16 k - (if A 10 k = a then A 12 k else 0) + (if A 9 k = a then A 11 k else 0)) else A 16 k) → (∀ k, A12 17 k = if 0 ≤ k ∧ k < i ∧ True then max (A 17 k) (A 16 k - (if A 10 k = a then A 12 k else 0) + (if A 9 k = a then A 11 k else 0)) else A 17 k) → (F 101 - i < (fu : Int)) → ∀ (H : Heap) (locs : List Loc), va_P D zcl (gw q c F A12) H → va_D A0 (gw q c F A12) → va_S A0 s.heap H locs → ∀ ls : Array Slot, lv_has ls 4 [(0, .ref (q 2)), (1, .ref (q 1)), (2, .int (iI (a))), (3, .int (iI (i)))] → W p l e zr_U_fire s m args below meth c0 H locs 0 0 Q (F0 m 12 ls []) := by
    intro fu
    induction fu with
    | zero => intro i  A12 hi hk hs hp hm_12; exact absurd hm_12 (by omega)
    | succ fu ih_12 =>
      intro i  A12 hi hk hs hp hm_12 H locs hP hD hS ls hl
      refine lv_iload_n hx hb zd_U_fire_12 rfl (lv_at hl 3 rfl) ?_
      refine lv_aload_n hx hb zd_U_fire_13 rfl (lv_at hl 1 rfl) ?_
      refine va_getN (D := D) (ci := 1) (v := .int (iI (F 101))) (C := zR_N) (T := zT_N) (N := 11) hx hb hts zi_N hown hK.1 hP 1 ga_1 rfl 1 (by decide) (zNW.use hK.2 zw_38) (fun _ h9 => h9) rfl zd_U_fire_14 ?_
      refine x_icmp_ge (tgt := 97) hx hb zd_U_fire_17 (by decide) (⟨by omega, by omega⟩) (⟨by omega, by omega⟩) (fun h_17 => ?_) (fun h_17 => ?_)
      · have e_ : i = F 101 := by omega
        subst e_
        exact ret _ _ _ _ _ _ zd_U_fire_97 hP hD hS (⟨rfl, fun k h5 h6 h7 => by rw [hk k h6 h7]; simp [auP, h5], by rw [hk 15 (by decide) (by decide)]; rfl, hs, hp⟩)
      · have hc_ := hch i (by omega) (by omega)
        have hl_ := hly i (by omega) (by omega)
        have e16 := lu_o hs
        have e17 := lu_o hp
        refine lv_aload_n hx hb zd_U_fire_20 rfl (lv_at hl 1 rfl) ?_
        refine va_getN (D := D) (ci := 1) (v := .ref (q 10)) (C := zR_N) (T := zT_N) (N := 11) hx hb hts zi_N hown hK.1 hP 1 ga_1 rfl 7 (by decide) (zNW.use hK.2 zw_58) (fun _ h9 => h9) rfl zd_U_fire_21 ?_
        refine lv_iload_n hx hb zd_U_fire_24 rfl (lv_at hl 3 rfl) ?_
        refine x_iald (v := A 10 i) hx hb hK.1 hP 10 0 ga_10 rfl (by decide) (by omega) (by omega) (by show A12 10 i = A 10 i; rw [hk 10 (by decide) (by decide)]; rfl) zd_U_fire_25 ?_
        refine lv_iload_n hx hb zd_U_fire_26 rfl (lv_at hl 2 rfl) ?_
        refine x_icmp_ne (tgt := 45) hx hb zd_U_fire_27 (by decide) (⟨by omega, by omega⟩) (⟨by omega, by omega⟩) (fun h_27 => ?_) (fun h_27 => ?_)
        · refine lv_aload_n hx hb zd_U_fire_45 rfl (lv_at hl 1 rfl) ?_
          refine va_getN (D := D) (ci := 1) (v := .ref (q 9)) (C := zR_N) (T := zT_N) (N := 11) hx hb hts zi_N hown hK.1 hP 1 ga_1 rfl 6 (by decide) (zNW.use hK.2 zw_56) (fun _ h9 => h9) rfl zd_U_fire_46 ?_
          refine lv_iload_n hx hb zd_U_fire_49 rfl (lv_at hl 3 rfl) ?_
          refine x_iald (v := A 9 i) hx hb hK.1 hP 9 0 ga_9 rfl (by decide) (by omega) (by omega) (by show A12 9 i = A 9 i; rw [hk 9 (by decide) (by decide)]; rfl) zd_U_fire_50 ?_
          refine lv_iload_n hx hb zd_U_fire_51 rfl (lv_at hl 2 rfl) ?_
          refine x_icmp_ne (tgt := 70) hx hb zd_U_fire_52 (by decide) (⟨by omega, by omega⟩) (⟨by omega, by omega⟩) (fun h_52 => ?_) (fun h_52 => ?_)
          · refine lv_aload_n hx hb zd_U_fire_70 rfl (lv_at hl 0 rfl) ?_
            refine va_get (D := D) (ci := 2) (v := .ref (q 17)) (C := zR_U) (T := zT_U) (N := 6) hx hb hts zi_U hown hK.1 hP 2 ga_2 rfl 5 (by decide) (hts _ zw_109) (fun _ h9 => h9) rfl zd_U_fire_71 ?_
            refine lv_iload_n hx hb zd_U_fire_74 rfl (lv_at hl 3 rfl) ?_
            refine lv_aload_n hx hb zd_U_fire_75 rfl (lv_at hl 0 rfl) ?_
            refine va_get (D := D) (ci := 2) (v := .ref (q 17)) (C := zR_U) (T := zT_U) (N := 6) hx hb hts zi_U hown hK.1 hP 2 ga_2 rfl 5 (by decide) (hts _ zw_109) (fun _ h9 => h9) rfl zd_U_fire_76 ?_
            refine lv_iload_n hx hb zd_U_fire_79 rfl (lv_at hl 3 rfl) ?_
            refine x_iald (v := A12 17 i) hx hb hK.1 hP 17 0 ga_17 rfl (by decide) (by omega) (by omega) (rfl) zd_U_fire_80 ?_
            refine lv_aload_n hx hb zd_U_fire_81 rfl (lv_at hl 0 rfl) ?_
            refine va_get (D := D) (ci := 2) (v := .ref (q 16)) (C := zR_U) (T := zT_U) (N := 6) hx hb hts zi_U hown hK.1 hP 2 ga_2 rfl 4 (by decide) (hts _ zw_108) (fun _ h9 => h9) rfl zd_U_fire_82 ?_
            refine lv_iload_n hx hb zd_U_fire_85 rfl (lv_at hl 3 rfl) ?_
            refine x_iald (v := A12 16 i) hx hb hK.1 hP 16 0 ga_16 rfl (by decide) (by omega) (by omega) (rfl) zd_U_fire_86 ?_
            refine x_mmax hx hb (S.2.2.1.trans hl.1.symm) hown (hts _ zw_290) (hts _ zw_248) (hts _ zw_7) (hts _ zw_249) (by decide) (Nat.le_of_ble_eq_true rfl) (Nat.zero_le _) (Nat.zero_le _) (⟨by omega, by omega⟩) (⟨by omega, by omega⟩) zd_U_fire_87 ?_
            refine x_iast hx hb hK.1 hP hD hS 17 0 ga_17 rfl (by decide) (by omega) (by omega) zd_U_fire_90 (fun H locs hP hD hS => ?_)
            rw [gs_17] at hP hD
            refine lv_iinc (v := iI (i + 1)) (lv' := [(3, .int (iI (i + 1))), (0, .ref (q 2)), (1, .ref (q 1)), (2, .int (iI (a)))]) hx hb zd_U_fire_91 hl (k := 3) rfl (iI_add _ _) (by decide) rfl (fun ls hl => ?_)
            refine lv_goto (tgt := 12) hx hb zd_U_fire_94 (by decide) ?_
            exact ih_12 (i + 1)  (auP A12 17 i (max (A12 17 i) (A12 16 i))) (by first | assumption | omega | (simp_all; done)) (fun k h1 h2 => by simp [auP, h1, h2]; simpa [auP] using hk k h1 h2) (by first | (refine lu_yy hs (by omega) trivial ?_; simp [h_27, h_52, e16]; done) | (refine lu_y hs (by omega) trivial ?_; simp [h_27, h_52, e16]; done) | (refine lu_e hs ?_ (by omega) trivial; simp [auP, h_27, h_52, e16]; done)) (by refine lu_y hp (by omega) trivial ?_; simp [h_27, h_52, e16, e17]) (by omega) _ _ hP hD hS ls (lv_sub hl [1, 2, 3, 0] rfl)
          · refine lv_aload_n hx hb zd_U_fire_55 rfl (lv_at hl 0 rfl) ?_
            refine va_get (D := D) (ci := 2) (v := .ref (q 16)) (C := zR_U) (T := zT_U) (N := 6) hx hb hts zi_U hown hK.1 hP 2 ga_2 rfl 4 (by decide) (hts _ zw_108) (fun _ h9 => h9) rfl zd_U_fire_56 ?_
            refine lv_iload_n hx hb zd_U_fire_59 rfl (lv_at hl 3 rfl) ?_
            refine lv_dup2_11 hx hb zd_U_fire_60 rfl rfl ?_
            refine x_iald (v := A12 16 i) hx hb hK.1 hP 16 0 ga_16 rfl (by decide) (by omega) (by omega) (rfl) zd_U_fire_61 ?_
            refine lv_aload_n hx hb zd_U_fire_62 rfl (lv_at hl 1 rfl) ?_
            refine va_getN (D := D) (ci := 1) (v := .ref (q 11)) (C := zR_N) (T := zT_N) (N := 11) hx hb hts zi_N hown hK.1 hP 1 ga_1 rfl 8 (by decide) (zNW.use hK.2 zw_63) (fun _ h9 => h9) rfl zd_U_fire_63 ?_
            refine lv_iload_n hx hb zd_U_fire_66 rfl (lv_at hl 3 rfl) ?_
            refine x_iald (v := A 11 i) hx hb hK.1 hP 11 0 ga_11 rfl (by decide) (by omega) (by omega) (by show A12 11 i = A 11 i; rw [hk 11 (by decide) (by decide)]; rfl) zd_U_fire_67 ?_
            refine x_iadd hx hb zd_U_fire_68 ?_
            refine x_iast hx hb hK.1 hP hD hS 16 0 ga_16 rfl (by decide) (by omega) (by omega) zd_U_fire_69 (fun H locs hP hD hS => ?_)
            rw [gs_16] at hP hD
            refine lv_aload_n hx hb zd_U_fire_70 rfl (lv_at hl 0 rfl) ?_
            refine va_get (D := D) (ci := 2) (v := .ref (q 17)) (C := zR_U) (T := zT_U) (N := 6) hx hb hts zi_U hown hK.1 hP 2 ga_2 rfl 5 (by decide) (hts _ zw_109) (fun _ h9 => h9) rfl zd_U_fire_71 ?_
            refine lv_iload_n hx hb zd_U_fire_74 rfl (lv_at hl 3 rfl) ?_
            refine lv_aload_n hx hb zd_U_fire_75 rfl (lv_at hl 0 rfl) ?_
            refine va_get (D := D) (ci := 2) (v := .ref (q 17)) (C := zR_U) (T := zT_U) (N := 6) hx hb hts zi_U hown hK.1 hP 2 ga_2 rfl 5 (by decide) (hts _ zw_109) (fun _ h9 => h9) rfl zd_U_fire_76 ?_
            refine lv_iload_n hx hb zd_U_fire_79 rfl (lv_at hl 3 rfl) ?_
            refine x_iald (v := A12 17 i) hx hb hK.1 hP 17 0 ga_17 rfl (by decide) (by omega) (by omega) (rfl) zd_U_fire_80 ?_
            refine lv_aload_n hx hb zd_U_fire_81 rfl (lv_at hl 0 rfl) ?_
            refine va_get (D := D) (ci := 2) (v := .ref (q 16)) (C := zR_U) (T := zT_U) (N := 6) hx hb hts zi_U hown hK.1 hP 2 ga_2 rfl 4 (by decide) (hts _ zw_108) (fun _ h9 => h9) rfl zd_U_fire_82 ?_
            refine lv_iload_n hx hb zd_U_fire_85 rfl (lv_at hl 3 rfl) ?_
            refine x_iald (v := (A12 16 i) + (A 11 i)) hx hb hK.1 hP 16 0 ga_16 rfl (by decide) (by omega) (by omega) (by simp [auP, upI]) zd_U_fire_86 ?_
            refine x_mmax hx hb (S.2.2.1.trans hl.1.symm) hown (hts _ zw_290) (hts _ zw_248) (hts _ zw_7) (hts _ zw_249) (by decide) (Nat.le_of_ble_eq_true rfl) (Nat.zero_le _) (Nat.zero_le _) (⟨by omega, by omega⟩) (⟨by omega, by omega⟩) zd_U_fire_87 ?_
            refine x_iast hx hb hK.1 hP hD hS 17 0 ga_17 rfl (by decide) (by omega) (by omega) zd_U_fire_90 (fun H locs hP hD hS => ?_)
            rw [gs_17] at hP hD
            refine lv_iinc (v := iI (i + 1)) (lv' := [(3, .int (iI (i + 1))), (0, .ref (q 2)), (1, .ref (q 1)), (2, .int (iI (a)))]) hx hb zd_U_fire_91 hl (k := 3) rfl (iI_add _ _) (by decide) rfl (fun ls hl => ?_)
            refine lv_goto (tgt := 12) hx hb zd_U_fire_94 (by decide) ?_
            exact ih_12 (i + 1)  (auP (auP A12 16 i ((A12 16 i) + (A 11 i))) 17 i (max (A12 17 i) ((A12 16 i) + (A 11 i)))) (by first | assumption | omega | (simp_all; done)) (fun k h1 h2 => by simp [auP, h1, h2]; simpa [auP] using hk k h1 h2) (by first | (refine lu_yy hs (by omega) trivial ?_; simp [h_27, h_52, e16]; done) | (refine lu_y hs (by omega) trivial ?_; simp [h_27, h_52, e16]; done) | (refine lu_e hs ?_ (by omega) trivial; simp [auP, h_27, h_52, e16]; done)) (by refine lu_y hp (by omega) trivial ?_; simp [h_27, h_52, e16, e17]) (by omega) _ _ hP hD hS ls (lv_sub hl [1, 2, 3, 0] rfl)
        · refine lv_aload_n hx hb zd_U_fire_30 rfl (lv_at hl 0 rfl) ?_
          refine va_get (D := D) (ci := 2) (v := .ref (q 16)) (C := zR_U) (T := zT_U) (N := 6) hx hb hts zi_U hown hK.1 hP 2 ga_2 rfl 4 (by decide) (hts _ zw_108) (fun _ h9 => h9) rfl zd_U_fire_31 ?_
          refine lv_iload_n hx hb zd_U_fire_34 rfl (lv_at hl 3 rfl) ?_
          refine lv_dup2_11 hx hb zd_U_fire_35 rfl rfl ?_
          refine x_iald (v := A12 16 i) hx hb hK.1 hP 16 0 ga_16 rfl (by decide) (by omega) (by omega) (rfl) zd_U_fire_36 ?_
          refine lv_aload_n hx hb zd_U_fire_37 rfl (lv_at hl 1 rfl) ?_
          refine va_getN (D := D) (ci := 1) (v := .ref (q 12)) (C := zR_N) (T := zT_N) (N := 11) hx hb hts zi_N hown hK.1 hP 1 ga_1 rfl 9 (by decide) (zNW.use hK.2 zw_65) (fun _ h9 => h9) rfl zd_U_fire_38 ?_
          refine lv_iload_n hx hb zd_U_fire_41 rfl (lv_at hl 3 rfl) ?_
          refine x_iald (v := A 12 i) hx hb hK.1 hP 12 0 ga_12 rfl (by decide) (by omega) (by omega) (by show A12 12 i = A 12 i; rw [hk 12 (by decide) (by decide)]; rfl) zd_U_fire_42 ?_
          refine x_isub hx hb zd_U_fire_43 ?_
          refine x_iast hx hb hK.1 hP hD hS 16 0 ga_16 rfl (by decide) (by omega) (by omega) zd_U_fire_44 (fun H locs hP hD hS => ?_)
          rw [gs_16] at hP hD
          refine lv_aload_n hx hb zd_U_fire_45 rfl (lv_at hl 1 rfl) ?_
          refine va_getN (D := D) (ci := 1) (v := .ref (q 9)) (C := zR_N) (T := zT_N) (N := 11) hx hb hts zi_N hown hK.1 hP 1 ga_1 rfl 6 (by decide) (zNW.use hK.2 zw_56) (fun _ h9 => h9) rfl zd_U_fire_46 ?_
          refine lv_iload_n hx hb zd_U_fire_49 rfl (lv_at hl 3 rfl) ?_
          refine x_iald (v := A 9 i) hx hb hK.1 hP 9 0 ga_9 rfl (by decide) (by omega) (by omega) (by show A12 9 i = A 9 i; rw [hk 9 (by decide) (by decide)]; rfl) zd_U_fire_50 ?_
          refine lv_iload_n hx hb zd_U_fire_51 rfl (lv_at hl 2 rfl) ?_
          refine x_icmp_ne (tgt := 70) hx hb zd_U_fire_52 (by decide) (⟨by omega, by omega⟩) (⟨by omega, by omega⟩) (fun h_52 => ?_) (fun h_52 => ?_)
          · refine lv_aload_n hx hb zd_U_fire_70 rfl (lv_at hl 0 rfl) ?_
            refine va_get (D := D) (ci := 2) (v := .ref (q 17)) (C := zR_U) (T := zT_U) (N := 6) hx hb hts zi_U hown hK.1 hP 2 ga_2 rfl 5 (by decide) (hts _ zw_109) (fun _ h9 => h9) rfl zd_U_fire_71 ?_
            refine lv_iload_n hx hb zd_U_fire_74 rfl (lv_at hl 3 rfl) ?_
            refine lv_aload_n hx hb zd_U_fire_75 rfl (lv_at hl 0 rfl) ?_
            refine va_get (D := D) (ci := 2) (v := .ref (q 17)) (C := zR_U) (T := zT_U) (N := 6) hx hb hts zi_U hown hK.1 hP 2 ga_2 rfl 5 (by decide) (hts _ zw_109) (fun _ h9 => h9) rfl zd_U_fire_76 ?_
            refine lv_iload_n hx hb zd_U_fire_79 rfl (lv_at hl 3 rfl) ?_
            refine x_iald (v := A12 17 i) hx hb hK.1 hP 17 0 ga_17 rfl (by decide) (by omega) (by omega) (rfl) zd_U_fire_80 ?_
            refine lv_aload_n hx hb zd_U_fire_81 rfl (lv_at hl 0 rfl) ?_
            refine va_get (D := D) (ci := 2) (v := .ref (q 16)) (C := zR_U) (T := zT_U) (N := 6) hx hb hts zi_U hown hK.1 hP 2 ga_2 rfl 4 (by decide) (hts _ zw_108) (fun _ h9 => h9) rfl zd_U_fire_82 ?_
            refine lv_iload_n hx hb zd_U_fire_85 rfl (lv_at hl 3 rfl) ?_
            refine x_iald (v := (A12 16 i) - (A 12 i)) hx hb hK.1 hP 16 0 ga_16 rfl (by decide) (by omega) (by omega) (by simp [auP, upI]) zd_U_fire_86 ?_
            refine x_mmax hx hb (S.2.2.1.trans hl.1.symm) hown (hts _ zw_290) (hts _ zw_248) (hts _ zw_7) (hts _ zw_249) (by decide) (Nat.le_of_ble_eq_true rfl) (Nat.zero_le _) (Nat.zero_le _) (⟨by omega, by omega⟩) (⟨by omega, by omega⟩) zd_U_fire_87 ?_
            refine x_iast hx hb hK.1 hP hD hS 17 0 ga_17 rfl (by decide) (by omega) (by omega) zd_U_fire_90 (fun H locs hP hD hS => ?_)
            rw [gs_17] at hP hD
            refine lv_iinc (v := iI (i + 1)) (lv' := [(3, .int (iI (i + 1))), (0, .ref (q 2)), (1, .ref (q 1)), (2, .int (iI (a)))]) hx hb zd_U_fire_91 hl (k := 3) rfl (iI_add _ _) (by decide) rfl (fun ls hl => ?_)
            refine lv_goto (tgt := 12) hx hb zd_U_fire_94 (by decide) ?_
            exact ih_12 (i + 1)  (auP (auP A12 16 i ((A12 16 i) - (A 12 i))) 17 i (max (A12 17 i) ((A12 16 i) - (A 12 i)))) (by first | assumption | omega | (simp_all; done)) (fun k h1 h2 => by simp [auP, h1, h2]; simpa [auP] using hk k h1 h2) (by first | (refine lu_yy hs (by omega) trivial ?_; simp [h_27, h_52, e16]; done) | (refine lu_y hs (by omega) trivial ?_; simp [h_27, h_52, e16]; done) | (refine lu_e hs ?_ (by omega) trivial; simp [auP, h_27, h_52, e16]; done)) (by refine lu_y hp (by omega) trivial ?_; simp [h_27, h_52, e16, e17]) (by omega) _ _ hP hD hS ls (lv_sub hl [1, 2, 3, 0] rfl)
          · refine lv_aload_n hx hb zd_U_fire_55 rfl (lv_at hl 0 rfl) ?_
            refine va_get (D := D) (ci := 2) (v := .ref (q 16)) (C := zR_U) (T := zT_U) (N := 6) hx hb hts zi_U hown hK.1 hP 2 ga_2 rfl 4 (by decide) (hts _ zw_108) (fun _ h9 => h9) rfl zd_U_fire_56 ?_
            refine lv_iload_n hx hb zd_U_fire_59 rfl (lv_at hl 3 rfl) ?_
            refine lv_dup2_11 hx hb zd_U_fire_60 rfl rfl ?_
            refine x_iald (v := (A12 16 i) - (A 12 i)) hx hb hK.1 hP 16 0 ga_16 rfl (by decide) (by omega) (by omega) (by simp [auP, upI]) zd_U_fire_61 ?_
            refine lv_aload_n hx hb zd_U_fire_62 rfl (lv_at hl 1 rfl) ?_
            refine va_getN (D := D) (ci := 1) (v := .ref (q 11)) (C := zR_N) (T := zT_N) (N := 11) hx hb hts zi_N hown hK.1 hP 1 ga_1 rfl 8 (by decide) (zNW.use hK.2 zw_63) (fun _ h9 => h9) rfl zd_U_fire_63 ?_
            refine lv_iload_n hx hb zd_U_fire_66 rfl (lv_at hl 3 rfl) ?_
            refine x_iald (v := A 11 i) hx hb hK.1 hP 11 0 ga_11 rfl (by decide) (by omega) (by omega) (by show A12 11 i = A 11 i; rw [hk 11 (by decide) (by decide)]; rfl) zd_U_fire_67 ?_
            refine x_iadd hx hb zd_U_fire_68 ?_
            refine x_iast hx hb hK.1 hP hD hS 16 0 ga_16 rfl (by decide) (by omega) (by omega) zd_U_fire_69 (fun H locs hP hD hS => ?_)
            rw [gs_16] at hP hD
            refine lv_aload_n hx hb zd_U_fire_70 rfl (lv_at hl 0 rfl) ?_
            refine va_get (D := D) (ci := 2) (v := .ref (q 17)) (C := zR_U) (T := zT_U) (N := 6) hx hb hts zi_U hown hK.1 hP 2 ga_2 rfl 5 (by decide) (hts _ zw_109) (fun _ h9 => h9) rfl zd_U_fire_71 ?_
            refine lv_iload_n hx hb zd_U_fire_74 rfl (lv_at hl 3 rfl) ?_
            refine lv_aload_n hx hb zd_U_fire_75 rfl (lv_at hl 0 rfl) ?_
            refine va_get (D := D) (ci := 2) (v := .ref (q 17)) (C := zR_U) (T := zT_U) (N := 6) hx hb hts zi_U hown hK.1 hP 2 ga_2 rfl 5 (by decide) (hts _ zw_109) (fun _ h9 => h9) rfl zd_U_fire_76 ?_
            refine lv_iload_n hx hb zd_U_fire_79 rfl (lv_at hl 3 rfl) ?_
            refine x_iald (v := A12 17 i) hx hb hK.1 hP 17 0 ga_17 rfl (by decide) (by omega) (by omega) (rfl) zd_U_fire_80 ?_
            refine lv_aload_n hx hb zd_U_fire_81 rfl (lv_at hl 0 rfl) ?_
            refine va_get (D := D) (ci := 2) (v := .ref (q 16)) (C := zR_U) (T := zT_U) (N := 6) hx hb hts zi_U hown hK.1 hP 2 ga_2 rfl 4 (by decide) (hts _ zw_108) (fun _ h9 => h9) rfl zd_U_fire_82 ?_
            refine lv_iload_n hx hb zd_U_fire_85 rfl (lv_at hl 3 rfl) ?_
            refine x_iald (v := ((A12 16 i) - (A 12 i)) + (A 11 i)) hx hb hK.1 hP 16 0 ga_16 rfl (by decide) (by omega) (by omega) (by simp [auP, upI]) zd_U_fire_86 ?_
            refine x_mmax hx hb (S.2.2.1.trans hl.1.symm) hown (hts _ zw_290) (hts _ zw_248) (hts _ zw_7) (hts _ zw_249) (by decide) (Nat.le_of_ble_eq_true rfl) (Nat.zero_le _) (Nat.zero_le _) (⟨by omega, by omega⟩) (⟨by omega, by omega⟩) zd_U_fire_87 ?_
            refine x_iast hx hb hK.1 hP hD hS 17 0 ga_17 rfl (by decide) (by omega) (by omega) zd_U_fire_90 (fun H locs hP hD hS => ?_)
            rw [gs_17] at hP hD
            refine lv_iinc (v := iI (i + 1)) (lv' := [(3, .int (iI (i + 1))), (0, .ref (q 2)), (1, .ref (q 1)), (2, .int (iI (a)))]) hx hb zd_U_fire_91 hl (k := 3) rfl (iI_add _ _) (by decide) rfl (fun ls hl => ?_)
            refine lv_goto (tgt := 12) hx hb zd_U_fire_94 (by decide) ?_
            exact ih_12 (i + 1)  (auP (auP (auP A12 16 i ((A12 16 i) - (A 12 i))) 16 i (((A12 16 i) - (A 12 i)) + (A 11 i))) 17 i (max (A12 17 i) (((A12 16 i) - (A 12 i)) + (A 11 i)))) (by first | assumption | omega | (simp_all; done)) (fun k h1 h2 => by simp [auP, h1, h2]; simpa [auP] using hk k h1 h2) (by first | (refine lu_yy hs (by omega) trivial ?_; simp [h_27, h_52, e16]; done) | (refine lu_y hs (by omega) trivial ?_; simp [h_27, h_52, e16]; done) | (refine lu_e hs ?_ (by omega) trivial; simp [auP, h_27, h_52, e16]; done)) (by refine lu_y hp (by omega) trivial ?_; simp [h_27, h_52, e16, e17]) (by omega) _ _ hP hD hS ls (lv_sub hl [1, 2, 3, 0] rfl)
  exact L_12 (((F 101 - (0) : Int) + 1).toNat) (0)  (auP A 15 a ((A 15 a) - 1)) (by first | assumption | omega | (simp_all; done)) (fun k _ _ => rfl) (fun k => by rw [if_neg (by omega)]; rfl) (fun k => by rw [if_neg (by omega)]; rfl) (by omega) _ _ hP hD hS ls (lv_sub hl [1, 2, 3, 0] rfl)

abbrev zr_U_play : Room := ({ frames := 2, cells := 0, slots := 0, locals := 52 } : Room)
set_option maxHeartbeats 4000000 in
set_option maxRecDepth 100000 in
theorem c_U_play (l : Launch) (D : va_G) (q : Nat → Nat) (c : Nat → ClassId) (sz : Nat) (F : Nat → Int) (A : Nat → Int → Int)  (hn : 1 ≤ F 100 ∧ F 100 ≤ 8) (hc : 0 ≤ F 101 ∧ F 101 ≤ 14) (hact : ∀ a, 0 ≤ a → a < 8 → (1 ≤ A 7 a ∧ A 7 a ≤ 4782969) ∧ 0 ≤ A 8 a ∧ A 8 a < 8) (hch : ∀ k, 0 ≤ k → k < F 101 → (0 ≤ A 9 k ∧ A 9 k < F 100) ∧ (0 ≤ A 10 k ∧ A 10 k < F 100) ∧ (1 ≤ A 11 k ∧ A 11 k ≤ 9) ∧ (1 ≤ A 12 k ∧ A 12 k ≤ 9) ∧ 0 ≤ A 13 k ∧ A 13 k ≤ 99) : zMV l zy_U_play zc_U_play 4 none zr_U_play D q c sz [.ref (q 2), .ref (q 1)] F A (fun F1 A1 => F1 200 = 1 ∧ (∀ j, j ≠ 200 → j ≠ 201 → F1 j = F j) ∧ (∀ k, k ≠ 14 → k ≠ 15 → k ≠ 16 → k ≠ 17 → A1 k = A k) ∧ RdOK F1 A1) := by
  refine z_ofV (by decide) (Nat.le_of_ble_eq_true rfl) ?_
  intro p e s m args below meth c0 A0 Q C0 ret hP hD hS ls hl
  obtain ⟨S, hK, hA⟩ := C0
  have hx := S.1
  have hb := S.2.1
  have hown := S.2.2.2.1
  have hts : ∀ w ∈ zG, w.before args s = true := fun w h => S.2.2.2.2 w (List.mem_cons_of_mem _ h)
  have hl : lv_has ls 4 [(0, .ref (q 2)), (1, .ref (q 1))] := hl
  refine lv_aload_n hx hb zd_U_play_0 rfl (lv_at hl 0 rfl) ?_
  refine lv_aload_n hx hb zd_U_play_1 rfl (lv_at hl 1 rfl) ?_
  refine z_gov (z_runV (n := 1) (k := 2) (ci := 2) (As := [.ref (q 1)]) (rest := []) S (c_U_begin l D q c _ F A (by first | assumption | omega | exact ⟨by omega, by omega⟩) (by first | assumption | omega | exact ⟨by omega, by omega⟩)) zw_274 zw_276 zs_11 zw_3 zw_277 ⟨by decide +kernel, by decide, rfl, rfl⟩ hK hP hD ga_2 rfl rfl rfl hl.1 rfl (Nat.le_of_ble_eq_true rfl) zd_U_play_2 ⟨Nat.zero_le _, Nat.zero_le _⟩) hD hS hA (fun F_2 A_2 H locs hq_2 hP hD hS => ?_)
  obtain ⟨hb1, hb2, hb3, hb4⟩ := hq_2
  refine lv_iconst (v := iI (0)) hx hb zd_U_play_5 rfl ?_
  refine lv_istore_n (lv' := [(2, .int (iI (0))), (0, .ref (q 2)), (1, .ref (q 1))]) hx hb zd_U_play_6 rfl hl (by decide) rfl (fun ls hl => ?_)
  have L_7 : ∀ (fu : Nat) (i : Int)  (F7 : Nat → Int) (A7 : Nat → Int → Int), (0 ≤ i ∧ i ≤ 400) → (∀ j, j ≠ 201 → F7 j = F j) → (F7 201 = i) → (∀ k, k ≠ 14 → k ≠ 15 → k ≠ 16 → k ≠ 17 → A7 k = A k) → (rok (F 100) (F 101) (A 9) (A 10) (A 11) (A 12) (A 7, A 13, A 13) (A7 14) i.toNat) → (rat (F 100) (F 101) (rrun (A 9) (A 10) (A 11) (A 12) (A 7, A 13, A 13) (A7 14) i.toNat) (A7 15) (A7 16) (A7 17)) → (400 - i < (fu : Int)) → ∀ (H : Heap) (locs : List Loc), va_P D zcl (gw q c F7 A7) H → va_D A0 (gw q c F7 A7) → va_S A0 s.heap H locs → ∀ ls : Array Slot, lv_has ls 4 [(0, .ref (q 2)), (1, .ref (q 1)), (2, .int (iI (i)))] → W p l e zr_U_play s m args below meth c0 H locs 0 0 Q (F0 m 7 ls []) := by
    intro fu
    induction fu with
    | zero => intro i  F7 A7 hi hF hd hk hr hs hm_7; exact absurd hm_7 (by omega)
    | succ fu ih_7 =>
      intro i  F7 A7 hi hF hd hk hr hs hm_7 H locs hP hD hS ls hl
      have e7 := hk 7 (by decide) (by decide) (by decide) (by decide)
      have e8 := hk 8 (by decide) (by decide) (by decide) (by decide)
      have e9 := hk 9 (by decide) (by decide) (by decide) (by decide)
      have e10 := hk 10 (by decide) (by decide) (by decide) (by decide)
      have e11 := hk 11 (by decide) (by decide) (by decide) (by decide)
      have e12 := hk 12 (by decide) (by decide) (by decide) (by decide)
      have e13 := hk 13 (by decide) (by decide) (by decide) (by decide)
      have e100 := hF 100 (by decide)
      have e101 := hF 101 (by decide)
      obtain ⟨hb1, hb2⟩ := rat_b hi hact hn hch hr hs
      refine lv_iload_n hx hb zd_U_play_7 rfl (lv_at hl 2 rfl) ?_
      refine lv_sipush (v := iI (400)) hx hb zd_U_play_8 (by decide) ?_
      refine x_icmp_ge (tgt := 54) hx hb zd_U_play_11 (by decide) (⟨by omega, by omega⟩) (⟨by omega, by omega⟩) (fun h_11 => ?_) (fun h_11 => ?_)
      · refine lv_aload_n hx hb zd_U_play_54 rfl (lv_at hl 0 rfl) ?_
        refine lv_iconst (v := iI (1)) hx hb zd_U_play_55 rfl ?_
        refine va_put (D := D) (ci := 2) (v := .int (iI (1))) (ty := .boolean) (C := zR_U) (T := zT_U) (N := 6) hx hb hts zi_U zk_U zo_U zn_U hown hK.1 hP hD hS 2 ga_2 rfl 0 (by decide) (hts _ zw_100) (fun _ h9 => h9) rfl (by decide +kernel) (rfl) (rfl) (Nat.le_of_ble_eq_true rfl) zd_U_play_56 (fun H locs hP hD hS => ?_)
        rw [gs_2_0] at hP hD
        exact ret _ _ _ _ _ _ zd_U_play_59 hP hD hS (play_end hd hF hk hr hs hi (by first | (left; omega) | (right; simp only [e7, e8, e9, e10, e11, e12, e13, e100, e101] at hq_16; rcases hq_16 with h | h; (exact h.2); (exact absurd h_22 (by omega)))))
      · refine lv_aload_n hx hb zd_U_play_14 rfl (lv_at hl 0 rfl) ?_
        refine lv_aload_n hx hb zd_U_play_15 rfl (lv_at hl 1 rfl) ?_
        refine z_goi (z_runV (n := 1) (k := 2) (ci := 2) (As := [.ref (q 1)]) (rest := []) S (c_U_leastReady l D q c _ F7 A7 (by simp only [e7, e8, e9, e10, e11, e12, e13, e100, e101]; assumption) (by simp only [e7, e8, e9, e10, e11, e12, e13, e100, e101]; assumption) (by simp only [e7, e8, e9, e10, e11, e12, e13, e100, e101]; assumption) (by simp only [e7, e8, e9, e10, e11, e12, e13, e100, e101]; assumption) (by simp only [e7, e8, e9, e10, e11, e12, e13, e100, e101]; assumption)) zw_278 zw_280 zs_12 zw_3 zw_281 ⟨by decide +kernel, by decide, rfl, rfl⟩ hK hP hD ga_2 rfl rfl rfl hl.1 rfl (Nat.le_of_ble_eq_true rfl) zd_U_play_16 ⟨Nat.zero_le _, Nat.zero_le _⟩) hD hS hA (fun z_16 F_16 A_16 H locs hq_16 hP hD hS => ?_)
        obtain ⟨hf_16, ha_16, hq_16⟩ := hq_16
        rw [hf_16, ha_16] at hP hD
        have hz_ : -1 ≤ z_16 ∧ z_16 < 8 := by (rcases hq_16 with h | h <;> omega)
        refine lv_istore_n (lv' := [(3, .int (iI (z_16))), (0, .ref (q 2)), (1, .ref (q 1)), (2, .int (iI (i)))]) hx hb zd_U_play_19 rfl hl (by decide) rfl (fun ls hl => ?_)
        refine lv_iload_n hx hb zd_U_play_20 rfl (lv_at hl 0 rfl) ?_
        refine lv_iconst (v := iI (-1)) hx hb zd_U_play_21 rfl ?_
        refine x_icmp_ne (tgt := 28) hx hb zd_U_play_22 (by decide) (⟨by omega, by omega⟩) (⟨by omega, by omega⟩) (fun h_22 => ?_) (fun h_22 => ?_)
        · have hz2_ : (0 ≤ z_16 ∧ z_16 < F 100) ∧ (0 < A7 15 z_16 ∧ ∀ k, 0 ≤ k → k < F 101 → A 10 k = z_16 → A 12 k ≤ A7 16 k) ∧ ∀ b, 0 ≤ b → b < z_16 → ¬ (0 < A7 15 b ∧ ∀ k, 0 ≤ k → k < F 101 → A 10 k = b → A 12 k ≤ A7 16 k) := by (simp only [e7, e8, e9, e10, e11, e12, e13, e100, e101] at hq_16; rcases hq_16 with h | h; (exact absurd h.1 h_22); (exact h))
          refine lv_aload_n hx hb zd_U_play_28 rfl (lv_at hl 1 rfl) ?_
          refine lv_aload_n hx hb zd_U_play_29 rfl (lv_at hl 2 rfl) ?_
          refine lv_iload_n hx hb zd_U_play_30 rfl (lv_at hl 0 rfl) ?_
          refine z_gov (z_runV (n := 2) (k := 2) (ci := 2) (As := [.ref (q 1), .int (iI (z_16))]) (rest := []) S (c_U_fire l D q c _ F7 A7 z_16 (by simp only [e7, e8, e9, e10, e11, e12, e13, e100, e101]; assumption) (by simp only [e7, e8, e9, e10, e11, e12, e13, e100, e101]; assumption) (by simp only [e7, e8, e9, e10, e11, e12, e13, e100, e101]; assumption) (by simp only [e7, e8, e9, e10, e11, e12, e13, e100, e101]; assumption) (by simp only [e7, e8, e9, e10, e11, e12, e13, e100, e101]; assumption) (by rw [e100]; exact hz2_.1)) zw_286 zw_288 zs_14 zw_3 zw_289 ⟨by decide +kernel, by decide, rfl, rfl⟩ hK hP hD ga_2 rfl rfl rfl hl.1 rfl (Nat.le_of_ble_eq_true rfl) zd_U_play_31 ⟨Nat.zero_le _, Nat.zero_le _⟩) hD hS hA (fun F_31 A_31 H locs hq_31 hP hD hS => ?_)
          obtain ⟨hf_31, hq_31⟩ := hq_31
          rw [hf_31] at hP hD
          obtain ⟨hg1, hg2, hg3, hg4⟩ := hq_31
          simp only [e7, e8, e9, e10, e11, e12, e13, e100, e101] at hg3 hg4
          have hst_ := play_step (l1 := A7 15) (l2 := A7 16) (l3 := A7 17) (m1 := A_31 15) (m2 := A_31 16) (m3 := A_31 17) hi.1 hr hs hz2_ (fun a _ _ => by rw [hg2]) (fun k h0 h1 => by rw [hg3 k, if_pos ⟨h0, h1, trivial⟩]) (fun k h0 h1 => by rw [hg4 k, if_pos ⟨h0, h1, trivial⟩])
          have e14 := hg1 14 (by decide) (by decide) (by decide)
          refine lv_aload_n hx hb zd_U_play_34 rfl (lv_at hl 1 rfl) ?_
          refine va_get (D := D) (ci := 2) (v := .ref (q 14)) (C := zR_U) (T := zT_U) (N := 6) hx hb hts zi_U hown hK.1 hP 2 ga_2 rfl 2 (by decide) (hts _ zw_104) (fun _ h9 => h9) rfl zd_U_play_35 ?_
          refine lv_iload_n hx hb zd_U_play_38 rfl (lv_at hl 3 rfl) ?_
          refine lv_iload_n hx hb zd_U_play_39 rfl (lv_at hl 0 rfl) ?_
          refine x_iast hx hb hK.1 hP hD hS 14 0 ga_14 rfl (by decide) (by omega) (by omega) zd_U_play_40 (fun H locs hP hD hS => ?_)
          rw [gs_14] at hP hD
          refine lv_aload_n hx hb zd_U_play_41 rfl (lv_at hl 1 rfl) ?_
          refine lv_iload_n hx hb zd_U_play_42 rfl (lv_at hl 3 rfl) ?_
          refine lv_iconst (v := iI (1)) hx hb zd_U_play_43 rfl ?_
          refine x_iadd hx hb zd_U_play_44 ?_
          refine va_put (D := D) (ci := 2) (v := .int (iI (i + 1))) (ty := .int) (C := zR_U) (T := zT_U) (N := 6) hx hb hts zi_U zk_U zo_U zn_U hown hK.1 hP hD hS 2 ga_2 rfl 1 (by decide) (hts _ zw_102) (fun _ h9 => h9) rfl (by decide +kernel) (rfl) (rfl) (Nat.le_of_ble_eq_true rfl) zd_U_play_45 (fun H locs hP hD hS => ?_)
          rw [gs_2_1] at hP hD
          refine lv_iinc (v := iI (i + 1)) (lv' := [(2, .int (iI (i + 1))), (3, .int (iI (z_16))), (0, .ref (q 2)), (1, .ref (q 1))]) hx hb zd_U_play_48 hl (k := 3) rfl (iI_add _ _) (by decide) rfl (fun ls hl => ?_)
          refine lv_goto (tgt := 7) hx hb zd_U_play_51 (by decide) ?_
          exact ih_7 (i + 1)  (fuP F7 201 (i + 1)) (auP A_31 14 i z_16) (by first | assumption | omega | (simp_all; done)) (fun j h => by simp [fuP, h, hF j h]) (by simp [fuP]) (fun k h4 h5 h6 h7 => by simp [auP, h4]; rw [hg1 k h5 h6 h7, hk k h4 h5 h6 h7]) (by have := hst_.1; rw [← e14] at this; exact this) (by have := hst_.2; rw [← e14] at this; exact this) (by omega) _ _ hP hD hS ls (lv_sub hl [2, 3, 0] rfl)
        · refine lv_goto (tgt := 54) hx hb zd_U_play_25 (by decide) ?_
          refine lv_aload_n hx hb zd_U_play_54 rfl (lv_at hl 1 rfl) ?_
          refine lv_iconst (v := iI (1)) hx hb zd_U_play_55 rfl ?_
          refine va_put (D := D) (ci := 2) (v := .int (iI (1))) (ty := .boolean) (C := zR_U) (T := zT_U) (N := 6) hx hb hts zi_U zk_U zo_U zn_U hown hK.1 hP hD hS 2 ga_2 rfl 0 (by decide) (hts _ zw_100) (fun _ h9 => h9) rfl (by decide +kernel) (rfl) (rfl) (Nat.le_of_ble_eq_true rfl) zd_U_play_56 (fun H locs hP hD hS => ?_)
          rw [gs_2_0] at hP hD
          exact ret _ _ _ _ _ _ zd_U_play_59 hP hD hS (play_end hd hF hk hr hs hi (by first | (left; omega) | (right; simp only [e7, e8, e9, e10, e11, e12, e13, e100, e101] at hq_16; rcases hq_16 with h | h; (exact h.2); (exact absurd h_22 (by omega)))))
  exact L_7 (((400 - (0) : Int) + 1).toNat) (0)  F_2 A_2 (by first | assumption | omega | (simp_all; done)) (fun j h => by rw [hb1]; simp [fuP, h]) (by rw [hb1]; simp [fuP]) (fun k h4 h5 h6 h7 => hb2 k h5 h6 h7) (fun k hk => by simp at hk) (⟨fun a h0 h1 => hb3 a h0 h1, fun k h0 h1 => hb4 k h0 h1⟩) (by omega) _ _ hP hD hS ls (lv_sub hl [1, 2, 0] rfl)
