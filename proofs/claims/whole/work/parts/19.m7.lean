section XT
variable {p : Program} {l : Launch} {e : Env} {R : Room} {s : State} {m : MethodId} {args : Array Value} {below : List Frame} {meth : Method} {c : Code} {H : Heap} {locs : List Loc} {cells slots : Nat} {Q : State → Prop}
variable {cc : ByteArray} {pc : Nat} {ls : Array Slot} {rest : List Value}
theorem x_tabIn (hexec : p.tables.exec = Jvm.exec) (hb : c.code = cc) {dflt lo hi : Int} {offs : Array Int} {len : Nat} {x k : Int} {off : Int} {tgt : Nat} (hdg : decode cc pc = .ok (.tableswitch dflt lo hi offs, len)) (hx : x = k) (hk : ib k) (h1 : lo ≤ k) (h2 : k ≤ hi) (ho : offs[(k - lo).toNat]? = some off) (ht : (pc : Int) + off = (tgt : Int))
    (kk : W p l e R s m args below meth c H locs cells slots Q (F0 m tgt ls rest)) : W p l e R s m args below meth c H locs cells slots Q (F0 m pc ls (.int (iI x) :: rest)) := by
  subst hx
  exact lv_tableIn hexec hb hdg (by rw [iI_toInt hk]; omega) (by rw [iI_toInt hk]; omega) (by rw [iI_toInt hk]; exact ho) ht kk
theorem x_tabOut (hexec : p.tables.exec = Jvm.exec) (hb : c.code = cc) {dflt lo hi : Int} {offs : Array Int} {len : Nat} {x : Int} {tgt : Nat} (hdg : decode cc pc = .ok (.tableswitch dflt lo hi offs, len)) (hx : ib x) (h : x < lo ∨ hi < x) (ht : (pc : Int) + dflt = (tgt : Int))
    (kk : W p l e R s m args below meth c H locs cells slots Q (F0 m tgt ls rest)) : W p l e R s m args below meth c H locs cells slots Q (F0 m pc ls (.int (iI x) :: rest)) :=
  lv_tableOut hexec hb hdg (by rw [iI_toInt hx]; exact h) ht kk
end XT
abbrev zr_C_graph : Room := ({ frames := 1, cells := 0, slots := 0, locals := 22 } : Room)
set_option maxHeartbeats 4000000 in
set_option maxRecDepth 100000 in
theorem c_C_graph (l : Launch) (D : va_G) (q : Nat → Nat) (c : Nat → ClassId) (sz : Nat) (F : Nat → Int) (A : Nat → Int → Int) (n : Int) (bn : ib n) : zMI l zy_C_graph zc_C_graph 2 (some .boolean) zr_C_graph D q c sz [.ref (q 0), .int (iI (n))] F A (fun z F1 A1 => (1 ≤ n ∧ n ≤ 8 → z = 1 ∧ F1 = fuP (fuP (fuP (fuP (fuP F 100 n) 101 0) 102 (-1)) 200 0) 300 (-1) ∧ (∀ k, k ≠ 6 → k ≠ 7 → k ≠ 8 → A1 k = A k) ∧ ∀ a, 0 ≤ a → a < 8 → A1 6 a = 1 ∧ A1 7 a = 1 ∧ A1 8 a = a) ∧ (¬ (1 ≤ n ∧ n ≤ 8) → z = 0 ∧ F1 = F ∧ A1 = A)) := by
  refine z_ofB (by decide) (Nat.le_of_ble_eq_true rfl) ?_
  intro p e s m args below meth c0 A0 Q C0 ret hP hD hS ls hl
  obtain ⟨S, hK, hA⟩ := C0
  have hx := S.1
  have hb := S.2.1
  have hown := S.2.2.2.1
  have hts : ∀ w ∈ zG, w.before args s = true := fun w h => S.2.2.2.2 w (List.mem_cons_of_mem _ h)
  have hl : lv_has ls 2 [(0, .ref (q 0)), (1, .int (iI (n)))] := hl
  refine lv_iload_n hx hb zd_C_graph_0 rfl (lv_at hl 1 rfl) ?_
  refine lv_iconst (v := iI (1)) hx hb zd_C_graph_1 rfl ?_
  refine lv_bipush (v := iI (8)) hx hb zd_C_graph_2 (by decide) ?_
  refine z_goi (z_runS (n := 3) (As := [.int (iI (n)), .int (iI (1)), .int (iI (8))]) (rest := []) S (c_C_isWithin l D q c _ F A n 1 8 (by first | assumption | omega | exact ⟨by omega, by omega⟩) (by first | assumption | omega | exact ⟨by omega, by omega⟩) (by first | assumption | omega | exact ⟨by omega, by omega⟩)) zw_202 zw_203 zw_1 zw_204 ⟨by decide +kernel, by decide, rfl, rfl⟩ rfl hK hP hD rfl hl.1 rfl (Nat.le_of_ble_eq_true rfl) zd_C_graph_4 ⟨Nat.zero_le _, Nat.zero_le _⟩) hD hS hA (fun z_4 F_4 A_4 H locs hq_4 hP hD hS => ?_)
  obtain ⟨hf_4, ha_4, hq_4⟩ := hq_4
  rw [hf_4, ha_4] at hP hD
  have b4_ : z_4 = 0 ∨ z_4 = 1 := by rw [hq_4]; split <;> simp
  refine x_if_ne (tgt := 12) hx hb zd_C_graph_7 (by decide) (⟨by omega, by omega⟩) (fun h_7 => ?_) (fun h_7 => ?_)
  · have hn_ : 1 ≤ n ∧ n ≤ 8 := by (rw [hq_4] at h_7; split at h_7 <;> omega)
    refine lv_aload_n hx hb zd_C_graph_12 rfl (lv_at hl 0 rfl) ?_
    refine va_get (D := D) (ci := 0) (v := .ref (q 1)) (C := zR_C) (T := zT_C) (N := 4) hx hb hts zi_C hown hK.1 hP 0 ga_0 rfl 0 (by decide) (hts _ zw_185) (fun _ h9 => h9) rfl zd_C_graph_13 ?_
    refine lv_iload_n hx hb zd_C_graph_16 rfl (lv_at hl 1 rfl) ?_
    refine z_gov (z_runVN (n := 1) (k := 1) (ci := 1) (As := [.int (iI (n))]) (rest := []) S (c_N_begin l D q c _ F A n (by first | assumption | omega | exact ⟨by omega, by omega⟩)) zw_205 zw_30 zs_0 zw_2 zw_31 ⟨by decide +kernel, by decide, rfl, rfl⟩ hK hP hD ga_1 rfl rfl rfl hl.1 rfl (Nat.le_of_ble_eq_true rfl) zd_C_graph_17 ⟨Nat.zero_le _, Nat.zero_le _⟩) hD hS hA (fun F_17 A_17 H locs hq_17 hP hD hS => ?_)
    obtain ⟨g1, g2, g3⟩ := hq_17
    refine lv_aload_n hx hb zd_C_graph_20 rfl (lv_at hl 0 rfl) ?_
    refine z_gov (z_runV (n := 0) (k := 0) (ci := 0) (As := []) (rest := []) S (c_C_forgetAnswers l D q c _ F_17 A_17 ) zw_206 zw_208 zs_1 zw_1 zw_209 ⟨by decide +kernel, by decide, rfl, rfl⟩ hK hP hD ga_0 rfl rfl rfl hl.1 rfl (Nat.le_of_ble_eq_true rfl) zd_C_graph_21 ⟨Nat.zero_le _, Nat.zero_le _⟩) hD hS hA (fun F_21 A_21 H locs hq_21 hP hD hS => ?_)
    obtain ⟨hf_21, ha_21⟩ := hq_21
    rw [hf_21, ha_21] at hP hD
    refine lv_iconst (v := iI (1)) hx hb zd_C_graph_24 rfl ?_
    exact ret _ _ _ _ _ _ _ zd_C_graph_25 hP hD hS (by omega) (⟨fun _ => ⟨rfl, by rw [g1], g2, g3⟩, fun h => absurd hn_ h⟩)
  · have hn_ : ¬ (1 ≤ n ∧ n ≤ 8) := by (rw [hq_4] at h_7; split at h_7 <;> omega)
    refine lv_iconst (v := iI (0)) hx hb zd_C_graph_10 rfl ?_
    exact ret _ _ _ _ _ _ _ zd_C_graph_11 hP hD hS (by omega) (⟨fun h => absurd h hn_, fun _ => ⟨rfl, rfl, rfl⟩⟩)

abbrev zr_C_time : Room := ({ frames := 1, cells := 0, slots := 0, locals := 22 } : Room)
set_option maxHeartbeats 4000000 in
set_option maxRecDepth 100000 in
theorem c_C_time (l : Launch) (D : va_G) (q : Nat → Nat) (c : Nat → ClassId) (sz : Nat) (F : Nat → Int) (A : Nat → Int → Int) (a : Int) (t : Int) (ba : ib a) (bt : ib t) (hn : 1 ≤ F 100 ∧ F 100 ≤ 8) : zMI l zy_C_time zc_C_time 3 (some .boolean) zr_C_time D q c sz [.ref (q 0), .int (iI (a)), .int (iI (t))] F A (fun z F1 A1 => ((0 ≤ a ∧ a < F 100) ∧ 1 ≤ t ∧ t ≤ 9 → z = 1 ∧ F1 = fuP (fuP F 200 0) 300 (-1) ∧ A1 = auP A 6 a t) ∧ (¬ ((0 ≤ a ∧ a < F 100) ∧ 1 ≤ t ∧ t ≤ 9) → z = 0 ∧ F1 = F ∧ A1 = A)) := by
  refine z_ofB (by decide) (Nat.le_of_ble_eq_true rfl) ?_
  intro p e s m args below meth c0 A0 Q C0 ret hP hD hS ls hl
  obtain ⟨S, hK, hA⟩ := C0
  have hx := S.1
  have hb := S.2.1
  have hown := S.2.2.2.1
  have hts : ∀ w ∈ zG, w.before args s = true := fun w h => S.2.2.2.2 w (List.mem_cons_of_mem _ h)
  have hl : lv_has ls 3 [(0, .ref (q 0)), (1, .int (iI (a))), (2, .int (iI (t)))] := hl
  refine lv_aload_n hx hb zd_C_time_0 rfl (lv_at hl 0 rfl) ?_
  refine va_get (D := D) (ci := 0) (v := .ref (q 1)) (C := zR_C) (T := zT_C) (N := 4) hx hb hts zi_C hown hK.1 hP 0 ga_0 rfl 0 (by decide) (hts _ zw_185) (fun _ h9 => h9) rfl zd_C_time_1 ?_
  refine lv_iload_n hx hb zd_C_time_4 rfl (lv_at hl 1 rfl) ?_
  refine z_goi (z_runVN (n := 1) (k := 1) (ci := 1) (As := [.int (iI (a))]) (rest := []) S (c_N_hasActor l D q c _ F A a (by first | assumption | omega | exact ⟨by omega, by omega⟩) (by first | assumption | omega | exact ⟨by omega, by omega⟩)) zw_214 zw_216 zs_2 zw_2 zw_217 ⟨by decide +kernel, by decide, rfl, rfl⟩ hK hP hD ga_1 rfl rfl rfl hl.1 rfl (Nat.le_of_ble_eq_true rfl) zd_C_time_5 ⟨Nat.zero_le _, Nat.zero_le _⟩) hD hS hA (fun z_5 F_5 A_5 H locs hq_5 hP hD hS => ?_)
  obtain ⟨hf_5, ha_5, hq_5⟩ := hq_5
  rw [hf_5, ha_5] at hP hD
  have b5_ : z_5 = 0 ∨ z_5 = 1 := by rw [hq_5]; split <;> simp
  refine x_if_eq (tgt := 21) hx hb zd_C_time_8 (by decide) (⟨by omega, by omega⟩) (fun h_8 => ?_) (fun h_8 => ?_)
  · refine lv_iconst (v := iI (0)) hx hb zd_C_time_21 rfl ?_
    exact ret _ _ _ _ _ _ _ zd_C_time_22 hP hD hS (by omega) (⟨fun h => by first | (rw [if_pos h.1] at hq_5; omega) | (rw [if_pos h.2] at hq_15; omega), fun _ => ⟨rfl, rfl, rfl⟩⟩)
  · have ha_ : 0 ≤ a ∧ a < F 100 := by (rw [hq_5] at h_8; split at h_8 <;> omega)
    refine lv_iload_n hx hb zd_C_time_11 rfl (lv_at hl 2 rfl) ?_
    refine lv_iconst (v := iI (1)) hx hb zd_C_time_12 rfl ?_
    refine lv_bipush (v := iI (9)) hx hb zd_C_time_13 (by decide) ?_
    refine z_goi (z_runS (n := 3) (As := [.int (iI (t)), .int (iI (1)), .int (iI (9))]) (rest := []) S (c_C_isWithin l D q c _ F A t 1 9 (by first | assumption | omega | exact ⟨by omega, by omega⟩) (by first | assumption | omega | exact ⟨by omega, by omega⟩) (by first | assumption | omega | exact ⟨by omega, by omega⟩)) zw_202 zw_203 zw_1 zw_204 ⟨by decide +kernel, by decide, rfl, rfl⟩ rfl hK hP hD rfl hl.1 rfl (Nat.le_of_ble_eq_true rfl) zd_C_time_15 ⟨Nat.zero_le _, Nat.zero_le _⟩) hD hS hA (fun z_15 F_15 A_15 H locs hq_15 hP hD hS => ?_)
    obtain ⟨hf_15, ha_15, hq_15⟩ := hq_15
    rw [hf_15, ha_15] at hP hD
    have b15_ : z_15 = 0 ∨ z_15 = 1 := by rw [hq_15]; split <;> simp
    refine x_if_ne (tgt := 23) hx hb zd_C_time_18 (by decide) (⟨by omega, by omega⟩) (fun h_18 => ?_) (fun h_18 => ?_)
    · have ht_ : 1 ≤ t ∧ t ≤ 9 := by (rw [hq_15] at h_18; split at h_18 <;> omega)
      refine lv_aload_n hx hb zd_C_time_23 rfl (lv_at hl 0 rfl) ?_
      refine va_get (D := D) (ci := 0) (v := .ref (q 1)) (C := zR_C) (T := zT_C) (N := 4) hx hb hts zi_C hown hK.1 hP 0 ga_0 rfl 0 (by decide) (hts _ zw_185) (fun _ h9 => h9) rfl zd_C_time_24 ?_
      refine va_getN (D := D) (ci := 1) (v := .ref (q 6)) (C := zR_N) (T := zT_N) (N := 11) hx hb hts zi_N hown hK.1 hP 1 ga_1 rfl 3 (by decide) (zNW.use hK.2 zw_44) (fun _ h9 => h9) rfl zd_C_time_27 ?_
      refine lv_iload_n hx hb zd_C_time_30 rfl (lv_at hl 1 rfl) ?_
      refine lv_iload_n hx hb zd_C_time_31 rfl (lv_at hl 2 rfl) ?_
      refine x_iast hx hb hK.1 hP hD hS 6 0 ga_6 rfl (by decide) (by omega) (by omega) zd_C_time_32 (fun H locs hP hD hS => ?_)
      rw [gs_6] at hP hD
      refine lv_aload_n hx hb zd_C_time_33 rfl (lv_at hl 0 rfl) ?_
      refine z_gov (z_runV (n := 0) (k := 0) (ci := 0) (As := []) (rest := []) S (c_C_forgetAnswers l D q c _ F (auP A 6 a t) ) zw_206 zw_208 zs_1 zw_1 zw_209 ⟨by decide +kernel, by decide, rfl, rfl⟩ hK hP hD ga_0 rfl rfl rfl hl.1 rfl (Nat.le_of_ble_eq_true rfl) zd_C_time_34 ⟨Nat.zero_le _, Nat.zero_le _⟩) hD hS hA (fun F_34 A_34 H locs hq_34 hP hD hS => ?_)
      obtain ⟨hf_34, ha_34⟩ := hq_34
      rw [hf_34, ha_34] at hP hD
      refine lv_iconst (v := iI (1)) hx hb zd_C_time_37 rfl ?_
      exact ret _ _ _ _ _ _ _ zd_C_time_38 hP hD hS (by omega) (⟨fun _ => ⟨rfl, rfl, rfl⟩, fun h => absurd ⟨ha_, ht_⟩ h⟩)
    · refine lv_iconst (v := iI (0)) hx hb zd_C_time_21 rfl ?_
      exact ret _ _ _ _ _ _ _ zd_C_time_22 hP hD hS (by omega) (⟨fun h => by first | (rw [if_pos h.1] at hq_5; omega) | (rw [if_pos h.2] at hq_15; omega), fun _ => ⟨rfl, rfl, rfl⟩⟩)

abbrev zr_C_channel : Room := ({ frames := 4, cells := 0, slots := 0, locals := 106 } : Room)
set_option maxHeartbeats 4000000 in
set_option maxRecDepth 100000 in
theorem c_C_channel (l : Launch) (D : va_G) (q : Nat → Nat) (c : Nat → ClassId) (sz : Nat) (F : Nat → Int) (A : Nat → Int → Int) (a : Int) (b : Int) (x : Int) (y : Int) (t : Int) (ba : ib a) (bb : ib b) (bx : ib x) (by_ : ib y) (bt : ib t) (hn : 1 ≤ F 100 ∧ F 100 ≤ 8) (hc : 0 ≤ F 101 ∧ F 101 ≤ 14) (hact : ∀ a, 0 ≤ a → a < 8 → (1 ≤ A 7 a ∧ A 7 a ≤ 4782969) ∧ 0 ≤ A 8 a ∧ A 8 a < 8) (hch : ∀ k, 0 ≤ k → k < F 101 → (0 ≤ A 9 k ∧ A 9 k < F 100) ∧ (0 ≤ A 10 k ∧ A 10 k < F 100) ∧ (1 ≤ A 11 k ∧ A 11 k ≤ 9) ∧ (1 ≤ A 12 k ∧ A 12 k ≤ 9) ∧ 0 ≤ A 13 k ∧ A 13 k ≤ 99) (hu : ib (F 102)) : zMI l zy_C_channel zc_C_channel 6 (some .int) zr_C_channel D q c sz [.ref (q 0), .int (iI (a)), .int (iI (b)), .int (iI (x)), .int (iI (y)), .int (iI (t))] F A (fun z F1 A1 => (((0 ≤ a ∧ a < F 100) ∧ (0 ≤ b ∧ b < F 100) ∧ F 101 < 14 ∧ (1 ≤ x ∧ x ≤ 9) ∧ (1 ≤ y ∧ y ≤ 9) ∧ 0 ≤ t ∧ t ≤ 99) → z = F 101 ∧ addP (fuP (fuP F 200 0) 300 (-1)) A a b x y t F1 A1) ∧ (¬ ((0 ≤ a ∧ a < F 100) ∧ (0 ≤ b ∧ b < F 100) ∧ F 101 < 14 ∧ (1 ≤ x ∧ x ≤ 9) ∧ (1 ≤ y ∧ y ≤ 9) ∧ 0 ≤ t ∧ t ≤ 99) → z = -1 ∧ F1 = F ∧ A1 = A)) := by
  refine z_ofI (by decide) (Nat.le_of_ble_eq_true rfl) ?_
  intro p e s m args below meth c0 A0 Q C0 ret hP hD hS ls hl
  obtain ⟨S, hK, hA⟩ := C0
  have hx := S.1
  have hb := S.2.1
  have hown := S.2.2.2.1
  have hts : ∀ w ∈ zG, w.before args s = true := fun w h => S.2.2.2.2 w (List.mem_cons_of_mem _ h)
  have hl : lv_has ls 6 [(0, .ref (q 0)), (1, .int (iI (a))), (2, .int (iI (b))), (3, .int (iI (x))), (4, .int (iI (y))), (5, .int (iI (t)))] := hl
  refine lv_aload_n hx hb zd_C_channel_0 rfl (lv_at hl 0 rfl) ?_
  refine va_get (D := D) (ci := 0) (v := .ref (q 1)) (C := zR_C) (T := zT_C) (N := 4) hx hb hts zi_C hown hK.1 hP 0 ga_0 rfl 0 (by decide) (hts _ zw_185) (fun _ h9 => h9) rfl zd_C_channel_1 ?_
  refine lv_iload_n hx hb zd_C_channel_4 rfl (lv_at hl 1 rfl) ?_
  refine z_goi (z_runVN (n := 1) (k := 1) (ci := 1) (As := [.int (iI (a))]) (rest := []) S (c_N_hasActor l D q c _ F A a (by first | assumption | omega | exact ⟨by omega, by omega⟩) (by first | assumption | omega | exact ⟨by omega, by omega⟩)) zw_214 zw_216 zs_2 zw_2 zw_217 ⟨by decide +kernel, by decide, rfl, rfl⟩ hK hP hD ga_1 rfl rfl rfl hl.1 rfl (Nat.le_of_ble_eq_true rfl) zd_C_channel_5 ⟨Nat.zero_le _, Nat.zero_le _⟩) hD hS hA (fun z_5 F_5 A_5 H locs hq_5 hP hD hS => ?_)
  obtain ⟨hf_5, ha_5, hq_5⟩ := hq_5
  rw [hf_5, ha_5] at hP hD
  have b5_ : z_5 = 0 ∨ z_5 = 1 := by rw [hq_5]; split <;> simp
  refine x_if_eq (tgt := 34) hx hb zd_C_channel_8 (by decide) (⟨by omega, by omega⟩) (fun h_8 => ?_) (fun h_8 => ?_)
  · refine lv_iconst (v := iI (-1)) hx hb zd_C_channel_34 rfl ?_
    exact ret _ _ _ _ _ _ _ zd_C_channel_35 hP hD hS (⟨fun h => by first | (rw [if_pos h.1] at hq_5; omega) | (rw [if_pos h.2.1] at hq_16; omega) | omega, fun _ => ⟨rfl, rfl, rfl⟩⟩)
  · refine lv_aload_n hx hb zd_C_channel_11 rfl (lv_at hl 0 rfl) ?_
    refine va_get (D := D) (ci := 0) (v := .ref (q 1)) (C := zR_C) (T := zT_C) (N := 4) hx hb hts zi_C hown hK.1 hP 0 ga_0 rfl 0 (by decide) (hts _ zw_185) (fun _ h9 => h9) rfl zd_C_channel_12 ?_
    refine lv_iload_n hx hb zd_C_channel_15 rfl (lv_at hl 2 rfl) ?_
    refine z_goi (z_runVN (n := 1) (k := 1) (ci := 1) (As := [.int (iI (b))]) (rest := []) S (c_N_hasActor l D q c _ F A b (by first | assumption | omega | exact ⟨by omega, by omega⟩) (by first | assumption | omega | exact ⟨by omega, by omega⟩)) zw_214 zw_216 zs_2 zw_2 zw_217 ⟨by decide +kernel, by decide, rfl, rfl⟩ hK hP hD ga_1 rfl rfl rfl hl.1 rfl (Nat.le_of_ble_eq_true rfl) zd_C_channel_16 ⟨Nat.zero_le _, Nat.zero_le _⟩) hD hS hA (fun z_16 F_16 A_16 H locs hq_16 hP hD hS => ?_)
    obtain ⟨hf_16, ha_16, hq_16⟩ := hq_16
    rw [hf_16, ha_16] at hP hD
    have b16_ : z_16 = 0 ∨ z_16 = 1 := by rw [hq_16]; split <;> simp
    refine x_if_eq (tgt := 34) hx hb zd_C_channel_19 (by decide) (⟨by omega, by omega⟩) (fun h_19 => ?_) (fun h_19 => ?_)
    · refine lv_iconst (v := iI (-1)) hx hb zd_C_channel_34 rfl ?_
      exact ret _ _ _ _ _ _ _ zd_C_channel_35 hP hD hS (⟨fun h => by first | (rw [if_pos h.1] at hq_5; omega) | (rw [if_pos h.2.1] at hq_16; omega) | omega, fun _ => ⟨rfl, rfl, rfl⟩⟩)
    · refine lv_aload_n hx hb zd_C_channel_22 rfl (lv_at hl 0 rfl) ?_
      refine va_get (D := D) (ci := 0) (v := .ref (q 1)) (C := zR_C) (T := zT_C) (N := 4) hx hb hts zi_C hown hK.1 hP 0 ga_0 rfl 0 (by decide) (hts _ zw_185) (fun _ h9 => h9) rfl zd_C_channel_23 ?_
      refine va_getN (D := D) (ci := 1) (v := .int (iI (F 101))) (C := zR_N) (T := zT_N) (N := 11) hx hb hts zi_N hown hK.1 hP 1 ga_1 rfl 1 (by decide) (zNW.use hK.2 zw_39) (fun _ h9 => h9) rfl zd_C_channel_26 ?_
      refine lv_bipush (v := iI (14)) hx hb zd_C_channel_29 (by decide) ?_
      refine x_icmp_lt (tgt := 36) hx hb zd_C_channel_31 (by decide) (⟨by omega, by omega⟩) (⟨by omega, by omega⟩) (fun h_31 => ?_) (fun h_31 => ?_)
      · refine lv_iload_n hx hb zd_C_channel_36 rfl (lv_at hl 3 rfl) ?_
        refine lv_iconst (v := iI (1)) hx hb zd_C_channel_37 rfl ?_
        refine lv_bipush (v := iI (9)) hx hb zd_C_channel_38 (by decide) ?_
        refine z_goi (z_runS (n := 3) (As := [.int (iI (x)), .int (iI (1)), .int (iI (9))]) (rest := []) S (c_C_isWithin l D q c _ F A x 1 9 (by first | assumption | omega | exact ⟨by omega, by omega⟩) (by first | assumption | omega | exact ⟨by omega, by omega⟩) (by first | assumption | omega | exact ⟨by omega, by omega⟩)) zw_202 zw_203 zw_1 zw_204 ⟨by decide +kernel, by decide, rfl, rfl⟩ rfl hK hP hD rfl hl.1 rfl (Nat.le_of_ble_eq_true rfl) zd_C_channel_40 ⟨Nat.zero_le _, Nat.zero_le _⟩) hD hS hA (fun z_40 F_40 A_40 H locs hq_40 hP hD hS => ?_)
        obtain ⟨hf_40, ha_40, hq_40⟩ := hq_40
        rw [hf_40, ha_40] at hP hD
        have b40_ : z_40 = 0 ∨ z_40 = 1 := by rw [hq_40]; split <;> simp
        refine x_if_eq (tgt := 68) hx hb zd_C_channel_43 (by decide) (⟨by omega, by omega⟩) (fun h_43 => ?_) (fun h_43 => ?_)
        · refine lv_iconst (v := iI (-1)) hx hb zd_C_channel_68 rfl ?_
          exact ret _ _ _ _ _ _ _ zd_C_channel_69 hP hD hS (⟨fun h => by first | (rw [if_pos h.2.2.2.1] at hq_40; omega) | (rw [if_pos h.2.2.2.2.1] at hq_51; omega) | (rw [if_pos h.2.2.2.2.2] at hq_62; omega), fun _ => ⟨rfl, rfl, rfl⟩⟩)
        · refine lv_iload hx hb zd_C_channel_46 (lv_at hl 4 rfl) ?_
          refine lv_iconst (v := iI (1)) hx hb zd_C_channel_48 rfl ?_
          refine lv_bipush (v := iI (9)) hx hb zd_C_channel_49 (by decide) ?_
          refine z_goi (z_runS (n := 3) (As := [.int (iI (y)), .int (iI (1)), .int (iI (9))]) (rest := []) S (c_C_isWithin l D q c _ F A y 1 9 (by first | assumption | omega | exact ⟨by omega, by omega⟩) (by first | assumption | omega | exact ⟨by omega, by omega⟩) (by first | assumption | omega | exact ⟨by omega, by omega⟩)) zw_202 zw_203 zw_1 zw_204 ⟨by decide +kernel, by decide, rfl, rfl⟩ rfl hK hP hD rfl hl.1 rfl (Nat.le_of_ble_eq_true rfl) zd_C_channel_51 ⟨Nat.zero_le _, Nat.zero_le _⟩) hD hS hA (fun z_51 F_51 A_51 H locs hq_51 hP hD hS => ?_)
          obtain ⟨hf_51, ha_51, hq_51⟩ := hq_51
          rw [hf_51, ha_51] at hP hD
          have b51_ : z_51 = 0 ∨ z_51 = 1 := by rw [hq_51]; split <;> simp
          refine x_if_eq (tgt := 68) hx hb zd_C_channel_54 (by decide) (⟨by omega, by omega⟩) (fun h_54 => ?_) (fun h_54 => ?_)
          · refine lv_iconst (v := iI (-1)) hx hb zd_C_channel_68 rfl ?_
            exact ret _ _ _ _ _ _ _ zd_C_channel_69 hP hD hS (⟨fun h => by first | (rw [if_pos h.2.2.2.1] at hq_40; omega) | (rw [if_pos h.2.2.2.2.1] at hq_51; omega) | (rw [if_pos h.2.2.2.2.2] at hq_62; omega), fun _ => ⟨rfl, rfl, rfl⟩⟩)
          · refine lv_iload hx hb zd_C_channel_57 (lv_at hl 5 rfl) ?_
            refine lv_iconst (v := iI (0)) hx hb zd_C_channel_59 rfl ?_
            refine lv_bipush (v := iI (99)) hx hb zd_C_channel_60 (by decide) ?_
            refine z_goi (z_runS (n := 3) (As := [.int (iI (t)), .int (iI (0)), .int (iI (99))]) (rest := []) S (c_C_isWithin l D q c _ F A t 0 99 (by first | assumption | omega | exact ⟨by omega, by omega⟩) (by first | assumption | omega | exact ⟨by omega, by omega⟩) (by first | assumption | omega | exact ⟨by omega, by omega⟩)) zw_202 zw_203 zw_1 zw_204 ⟨by decide +kernel, by decide, rfl, rfl⟩ rfl hK hP hD rfl hl.1 rfl (Nat.le_of_ble_eq_true rfl) zd_C_channel_62 ⟨Nat.zero_le _, Nat.zero_le _⟩) hD hS hA (fun z_62 F_62 A_62 H locs hq_62 hP hD hS => ?_)
            obtain ⟨hf_62, ha_62, hq_62⟩ := hq_62
            rw [hf_62, ha_62] at hP hD
            have b62_ : z_62 = 0 ∨ z_62 = 1 := by rw [hq_62]; split <;> simp
            refine x_if_ne (tgt := 70) hx hb zd_C_channel_65 (by decide) (⟨by omega, by omega⟩) (fun h_65 => ?_) (fun h_65 => ?_)
            · have h1_ : 0 ≤ a ∧ a < F 100 := by (rw [hq_5] at h_8; split at h_8 <;> omega)
              have h2_ : 0 ≤ b ∧ b < F 100 := by (rw [hq_16] at h_19; split at h_19 <;> omega)
              have h3_ : 1 ≤ x ∧ x ≤ 9 := by (rw [hq_40] at h_43; split at h_43 <;> omega)
              have h4_ : 1 ≤ y ∧ y ≤ 9 := by (rw [hq_51] at h_54; split at h_54 <;> omega)
              have h5_ : 0 ≤ t ∧ t ≤ 99 := by (rw [hq_62] at h_65; split at h_65 <;> omega)
              refine lv_aload_n hx hb zd_C_channel_70 rfl (lv_at hl 0 rfl) ?_
              refine z_gov (z_runV (n := 0) (k := 0) (ci := 0) (As := []) (rest := []) S (c_C_forgetAnswers l D q c _ F A ) zw_206 zw_208 zs_1 zw_1 zw_209 ⟨by decide +kernel, by decide, rfl, rfl⟩ hK hP hD ga_0 rfl rfl rfl hl.1 rfl (Nat.le_of_ble_eq_true rfl) zd_C_channel_71 ⟨Nat.zero_le _, Nat.zero_le _⟩) hD hS hA (fun F_71 A_71 H locs hq_71 hP hD hS => ?_)
              obtain ⟨hf_71, ha_71⟩ := hq_71
              rw [hf_71, ha_71] at hP hD
              refine lv_aload_n hx hb zd_C_channel_74 rfl (lv_at hl 0 rfl) ?_
              refine va_get (D := D) (ci := 0) (v := .ref (q 1)) (C := zR_C) (T := zT_C) (N := 4) hx hb hts zi_C hown hK.1 hP 0 ga_0 rfl 0 (by decide) (hts _ zw_185) (fun _ h9 => h9) rfl zd_C_channel_75 ?_
              refine lv_iload_n hx hb zd_C_channel_78 rfl (lv_at hl 1 rfl) ?_
              refine lv_iload_n hx hb zd_C_channel_79 rfl (lv_at hl 2 rfl) ?_
              refine lv_iload_n hx hb zd_C_channel_80 rfl (lv_at hl 3 rfl) ?_
              refine lv_iload hx hb zd_C_channel_81 (lv_at hl 4 rfl) ?_
              refine lv_iload hx hb zd_C_channel_83 (lv_at hl 5 rfl) ?_
              refine z_goi (z_runVN (n := 5) (k := 1) (ci := 1) (As := [.int (iI (a)), .int (iI (b)), .int (iI (x)), .int (iI (y)), .int (iI (t))]) (rest := []) S (c_N_add l D q c _ (fuP (fuP F 200 0) 300 (-1)) A a b x y t (by simp [fuP]; omega) (by simp [fuP]; omega) (hact) (hch) (by simp [fuP]; omega) (hu) (by simp [fuP]; omega) (⟨h3_, h4_, h5_⟩)) zw_222 zw_224 zs_3 zw_2 zw_225 ⟨by decide +kernel, by decide, rfl, rfl⟩ hK hP hD ga_1 rfl rfl rfl hl.1 rfl (Nat.le_of_ble_eq_true rfl) zd_C_channel_85 ⟨Nat.zero_le _, Nat.zero_le _⟩) hD hS hA (fun z_85 F_85 A_85 H locs hq_85 hP hD hS => ?_)
              exact ret _ _ _ _ _ _ _ zd_C_channel_88 hP hD hS (⟨fun _ => hq_85, fun h => absurd ⟨h1_, h2_, by omega, h3_, h4_, h5_⟩ h⟩)
            · refine lv_iconst (v := iI (-1)) hx hb zd_C_channel_68 rfl ?_
              exact ret _ _ _ _ _ _ _ zd_C_channel_69 hP hD hS (⟨fun h => by first | (rw [if_pos h.2.2.2.1] at hq_40; omega) | (rw [if_pos h.2.2.2.2.1] at hq_51; omega) | (rw [if_pos h.2.2.2.2.2] at hq_62; omega), fun _ => ⟨rfl, rfl, rfl⟩⟩)
      · refine lv_iconst (v := iI (-1)) hx hb zd_C_channel_34 rfl ?_
        exact ret _ _ _ _ _ _ _ zd_C_channel_35 hP hD hS (⟨fun h => by first | (rw [if_pos h.1] at hq_5; omega) | (rw [if_pos h.2.1] at hq_16; omega) | omega, fun _ => ⟨rfl, rfl, rfl⟩⟩)

abbrev zr_C_left : Room := ({ frames := 4, cells := 0, slots := 0, locals := 95 } : Room)
set_option maxHeartbeats 4000000 in
set_option maxRecDepth 100000 in
theorem c_C_left (l : Launch) (D : va_G) (q : Nat → Nat) (c : Nat → ClassId) (sz : Nat) (F : Nat → Int) (A : Nat → Int → Int) (a : Int) (ba : ib a) (hn : 1 ≤ F 100 ∧ F 100 ≤ 8) (hc : 0 ≤ F 101 ∧ F 101 ≤ 14) (hact : ∀ a, 0 ≤ a → a < 8 → (1 ≤ A 7 a ∧ A 7 a ≤ 4782969) ∧ 0 ≤ A 8 a ∧ A 8 a < 8) (hch : ∀ k, 0 ≤ k → k < F 101 → (0 ≤ A 9 k ∧ A 9 k < F 100) ∧ (0 ≤ A 10 k ∧ A 10 k < F 100) ∧ (1 ≤ A 11 k ∧ A 11 k ≤ 9) ∧ (1 ≤ A 12 k ∧ A 12 k ≤ 9) ∧ 0 ≤ A 13 k ∧ A 13 k ≤ 99) (hkn : (F 200 = 0 ∨ F 200 = 1) ∧ (F 200 = 1 → RdOK F A)) (hu : ib (F 102)) : zMI l zy_C_left zc_C_left 2 (some .int) zr_C_left D q c sz [.ref (q 0), .int (iI (a))] F A (fun z F1 A1 => ((∀ j, j ≠ 200 → j ≠ 201 → F1 j = F j) ∧ (∀ k, k ≠ 14 → k ≠ 15 → k ≠ 16 → k ≠ 17 → A1 k = A k)) ∧ ((0 ≤ a ∧ a < F 100) ∧ F 102 = -1 ∧ sI (A 7) (F 100) ≤ 400 → F1 200 = 1 ∧ RdOK F1 A1 ∧ z = A1 15 a) ∧ (¬ ((0 ≤ a ∧ a < F 100) ∧ F 102 = -1 ∧ sI (A 7) (F 100) ≤ 400) → z = -1 ∧ F1 = F ∧ A1 = A)) := by
  refine z_ofI (by decide) (Nat.le_of_ble_eq_true rfl) ?_
  intro p e s m args below meth c0 A0 Q C0 ret hP hD hS ls hl
  obtain ⟨S, hK, hA⟩ := C0
  have hx := S.1
  have hb := S.2.1
  have hown := S.2.2.2.1
  have hts : ∀ w ∈ zG, w.before args s = true := fun w h => S.2.2.2.2 w (List.mem_cons_of_mem _ h)
  have hl : lv_has ls 2 [(0, .ref (q 0)), (1, .int (iI (a)))] := hl
  refine lv_aload_n hx hb zd_C_left_0 rfl (lv_at hl 0 rfl) ?_
  refine va_get (D := D) (ci := 0) (v := .ref (q 1)) (C := zR_C) (T := zT_C) (N := 4) hx hb hts zi_C hown hK.1 hP 0 ga_0 rfl 0 (by decide) (hts _ zw_185) (fun _ h9 => h9) rfl zd_C_left_1 ?_
  refine lv_iload_n hx hb zd_C_left_4 rfl (lv_at hl 1 rfl) ?_
  refine z_goi (z_runVN (n := 1) (k := 1) (ci := 1) (As := [.int (iI (a))]) (rest := []) S (c_N_hasActor l D q c _ F A a (by first | assumption | omega | exact ⟨by omega, by omega⟩) (by first | assumption | omega | exact ⟨by omega, by omega⟩)) zw_214 zw_216 zs_2 zw_2 zw_217 ⟨by decide +kernel, by decide, rfl, rfl⟩ hK hP hD ga_1 rfl rfl rfl hl.1 rfl (Nat.le_of_ble_eq_true rfl) zd_C_left_5 ⟨Nat.zero_le _, Nat.zero_le _⟩) hD hS hA (fun z_5 F_5 A_5 H locs hq_5 hP hD hS => ?_)
  obtain ⟨hf_5, ha_5, hq_5⟩ := hq_5
  rw [hf_5, ha_5] at hP hD
  have b5_ : z_5 = 0 ∨ z_5 = 1 := by rw [hq_5]; split <;> simp
  refine x_if_eq (tgt := 30) hx hb zd_C_left_8 (by decide) (⟨by omega, by omega⟩) (fun h_8 => ?_) (fun h_8 => ?_)
  · refine lv_iconst (v := iI (-1)) hx hb zd_C_left_30 rfl ?_
    exact ret _ _ _ _ _ _ _ zd_C_left_31 hP hD hS (by first | exact ⟨r3, fun _ => ⟨(r4 (by omega)).1, (r4 (by omega)).2, rfl⟩, fun h => absurd ⟨ha_, r2.mp (by omega)⟩ h⟩ | exact ⟨r3, fun h => absurd (r2.mpr h.2) (by omega), fun _ => ⟨rfl, (r5 h_15).1, (r5 h_15).2⟩⟩ | exact ⟨⟨fun _ _ _ => rfl, fun _ _ _ _ _ => rfl⟩, fun h => absurd (hq_5.trans (if_pos h.1)) (by omega), fun _ => ⟨rfl, rfl, rfl⟩⟩)
  · have ha_ : 0 ≤ a ∧ a < F 100 := by (rw [hq_5] at h_8; split at h_8 <;> omega)
    refine lv_aload_n hx hb zd_C_left_11 rfl (lv_at hl 0 rfl) ?_
    refine z_goi (z_runV (n := 0) (k := 0) (ci := 0) (As := []) (rest := []) S (c_C_findRound l D q c _ F A (by first | assumption | omega | exact ⟨by omega, by omega⟩) (by first | assumption | omega | exact ⟨by omega, by omega⟩) (by first | assumption | omega | exact ⟨by omega, by omega⟩) (by first | assumption | omega | exact ⟨by omega, by omega⟩) (by first | assumption | omega | exact ⟨by omega, by omega⟩) (by first | assumption | omega | exact ⟨by omega, by omega⟩)) zw_258 zw_260 zs_7 zw_1 zw_261 ⟨by decide +kernel, by decide, rfl, rfl⟩ hK hP hD ga_0 rfl rfl rfl hl.1 rfl (Nat.le_of_ble_eq_true rfl) zd_C_left_12 ⟨Nat.zero_le _, Nat.zero_le _⟩) hD hS hA (fun z_12 F_12 A_12 H locs hq_12 hP hD hS => ?_)
    obtain ⟨r1, r2, r3, r4, r5⟩ := hq_12
    refine x_if_eq (tgt := 30) hx hb zd_C_left_15 (by decide) (⟨by omega, by omega⟩) (fun h_15 => ?_) (fun h_15 => ?_)
    · refine lv_iconst (v := iI (-1)) hx hb zd_C_left_30 rfl ?_
      exact ret _ _ _ _ _ _ _ zd_C_left_31 hP hD hS (by first | exact ⟨r3, fun _ => ⟨(r4 (by omega)).1, (r4 (by omega)).2, rfl⟩, fun h => absurd ⟨ha_, r2.mp (by omega)⟩ h⟩ | exact ⟨r3, fun h => absurd (r2.mpr h.2) (by omega), fun _ => ⟨rfl, (r5 h_15).1, (r5 h_15).2⟩⟩ | exact ⟨⟨fun _ _ _ => rfl, fun _ _ _ _ _ => rfl⟩, fun h => absurd (hq_5.trans (if_pos h.1)) (by omega), fun _ => ⟨rfl, rfl, rfl⟩⟩)
    · refine lv_aload_n hx hb zd_C_left_18 rfl (lv_at hl 0 rfl) ?_
      refine va_get (D := D) (ci := 0) (v := .ref (q 2)) (C := zR_C) (T := zT_C) (N := 4) hx hb hts zi_C hown hK.1 hP 0 ga_0 rfl 1 (by decide) (hts _ zw_186) (fun _ h9 => h9) rfl zd_C_left_19 ?_
      refine va_getN (D := D) (ci := 2) (v := .ref (q 15)) (C := zR_U) (T := zT_U) (N := 6) hx hb hts zi_U hown hK.1 hP 2 ga_2 rfl 3 (by decide) (zNW.use hK.2 zw_107) (fun _ h9 => h9) rfl zd_C_left_22 ?_
      refine lv_iload_n hx hb zd_C_left_25 rfl (lv_at hl 1 rfl) ?_
      refine x_iald (v := A_12 15 a) hx hb hK.1 hP 15 0 ga_15 rfl (by decide) (by omega) (by omega) (rfl) zd_C_left_26 ?_
      refine lv_goto (tgt := 31) hx hb zd_C_left_27 (by decide) ?_
      exact ret _ _ _ _ _ _ _ zd_C_left_31 hP hD hS (by first | exact ⟨r3, fun _ => ⟨(r4 (by omega)).1, (r4 (by omega)).2, rfl⟩, fun h => absurd ⟨ha_, r2.mp (by omega)⟩ h⟩ | exact ⟨r3, fun h => absurd (r2.mpr h.2) (by omega), fun _ => ⟨rfl, (r5 h_15).1, (r5 h_15).2⟩⟩ | exact ⟨⟨fun _ _ _ => rfl, fun _ _ _ _ _ => rfl⟩, fun h => absurd (hq_5.trans (if_pos h.1)) (by omega), fun _ => ⟨rfl, rfl, rfl⟩⟩)

abbrev zr_C_peak : Room := ({ frames := 4, cells := 0, slots := 0, locals := 95 } : Room)
set_option maxHeartbeats 4000000 in
set_option maxRecDepth 100000 in
theorem c_C_peak (l : Launch) (D : va_G) (q : Nat → Nat) (c : Nat → ClassId) (sz : Nat) (F : Nat → Int) (A : Nat → Int → Int) (a : Int) (ba : ib a) (hn : 1 ≤ F 100 ∧ F 100 ≤ 8) (hc : 0 ≤ F 101 ∧ F 101 ≤ 14) (hact : ∀ a, 0 ≤ a → a < 8 → (1 ≤ A 7 a ∧ A 7 a ≤ 4782969) ∧ 0 ≤ A 8 a ∧ A 8 a < 8) (hch : ∀ k, 0 ≤ k → k < F 101 → (0 ≤ A 9 k ∧ A 9 k < F 100) ∧ (0 ≤ A 10 k ∧ A 10 k < F 100) ∧ (1 ≤ A 11 k ∧ A 11 k ≤ 9) ∧ (1 ≤ A 12 k ∧ A 12 k ≤ 9) ∧ 0 ≤ A 13 k ∧ A 13 k ≤ 99) (hkn : (F 200 = 0 ∨ F 200 = 1) ∧ (F 200 = 1 → RdOK F A)) (hu : ib (F 102)) : zMI l zy_C_peak zc_C_peak 2 (some .int) zr_C_peak D q c sz [.ref (q 0), .int (iI (a))] F A (fun z F1 A1 => ((∀ j, j ≠ 200 → j ≠ 201 → F1 j = F j) ∧ (∀ k, k ≠ 14 → k ≠ 15 → k ≠ 16 → k ≠ 17 → A1 k = A k)) ∧ ((0 ≤ a ∧ a < F 101) ∧ F 102 = -1 ∧ sI (A 7) (F 100) ≤ 400 → F1 200 = 1 ∧ RdOK F1 A1 ∧ z = A1 17 a) ∧ (¬ ((0 ≤ a ∧ a < F 101) ∧ F 102 = -1 ∧ sI (A 7) (F 100) ≤ 400) → z = -1 ∧ F1 = F ∧ A1 = A)) := by
  refine z_ofI (by decide) (Nat.le_of_ble_eq_true rfl) ?_
  intro p e s m args below meth c0 A0 Q C0 ret hP hD hS ls hl
  obtain ⟨S, hK, hA⟩ := C0
  have hx := S.1
  have hb := S.2.1
  have hown := S.2.2.2.1
  have hts : ∀ w ∈ zG, w.before args s = true := fun w h => S.2.2.2.2 w (List.mem_cons_of_mem _ h)
  have hl : lv_has ls 2 [(0, .ref (q 0)), (1, .int (iI (a)))] := hl
  refine lv_aload_n hx hb zd_C_peak_0 rfl (lv_at hl 0 rfl) ?_
  refine va_get (D := D) (ci := 0) (v := .ref (q 1)) (C := zR_C) (T := zT_C) (N := 4) hx hb hts zi_C hown hK.1 hP 0 ga_0 rfl 0 (by decide) (hts _ zw_185) (fun _ h9 => h9) rfl zd_C_peak_1 ?_
  refine lv_iload_n hx hb zd_C_peak_4 rfl (lv_at hl 1 rfl) ?_
  refine z_goi (z_runVN (n := 1) (k := 1) (ci := 1) (As := [.int (iI (a))]) (rest := []) S (c_N_hasChannel l D q c _ F A a (by first | assumption | omega | exact ⟨by omega, by omega⟩) (by first | assumption | omega | exact ⟨by omega, by omega⟩)) zw_295 zw_297 zs_15 zw_2 zw_298 ⟨by decide +kernel, by decide, rfl, rfl⟩ hK hP hD ga_1 rfl rfl rfl hl.1 rfl (Nat.le_of_ble_eq_true rfl) zd_C_peak_5 ⟨Nat.zero_le _, Nat.zero_le _⟩) hD hS hA (fun z_5 F_5 A_5 H locs hq_5 hP hD hS => ?_)
  obtain ⟨hf_5, ha_5, hq_5⟩ := hq_5
  rw [hf_5, ha_5] at hP hD
  have b5_ : z_5 = 0 ∨ z_5 = 1 := by rw [hq_5]; split <;> simp
  refine x_if_eq (tgt := 30) hx hb zd_C_peak_8 (by decide) (⟨by omega, by omega⟩) (fun h_8 => ?_) (fun h_8 => ?_)
  · refine lv_iconst (v := iI (-1)) hx hb zd_C_peak_30 rfl ?_
    exact ret _ _ _ _ _ _ _ zd_C_peak_31 hP hD hS (by first | exact ⟨r3, fun _ => ⟨(r4 (by omega)).1, (r4 (by omega)).2, rfl⟩, fun h => absurd ⟨ha_, r2.mp (by omega)⟩ h⟩ | exact ⟨r3, fun h => absurd (r2.mpr h.2) (by omega), fun _ => ⟨rfl, (r5 h_15).1, (r5 h_15).2⟩⟩ | exact ⟨⟨fun _ _ _ => rfl, fun _ _ _ _ _ => rfl⟩, fun h => absurd (hq_5.trans (if_pos h.1)) (by omega), fun _ => ⟨rfl, rfl, rfl⟩⟩)
  · have ha_ : 0 ≤ a ∧ a < F 101 := by (rw [hq_5] at h_8; split at h_8 <;> omega)
    refine lv_aload_n hx hb zd_C_peak_11 rfl (lv_at hl 0 rfl) ?_
    refine z_goi (z_runV (n := 0) (k := 0) (ci := 0) (As := []) (rest := []) S (c_C_findRound l D q c _ F A (by first | assumption | omega | exact ⟨by omega, by omega⟩) (by first | assumption | omega | exact ⟨by omega, by omega⟩) (by first | assumption | omega | exact ⟨by omega, by omega⟩) (by first | assumption | omega | exact ⟨by omega, by omega⟩) (by first | assumption | omega | exact ⟨by omega, by omega⟩) (by first | assumption | omega | exact ⟨by omega, by omega⟩)) zw_258 zw_260 zs_7 zw_1 zw_261 ⟨by decide +kernel, by decide, rfl, rfl⟩ hK hP hD ga_0 rfl rfl rfl hl.1 rfl (Nat.le_of_ble_eq_true rfl) zd_C_peak_12 ⟨Nat.zero_le _, Nat.zero_le _⟩) hD hS hA (fun z_12 F_12 A_12 H locs hq_12 hP hD hS => ?_)
    obtain ⟨r1, r2, r3, r4, r5⟩ := hq_12
    refine x_if_eq (tgt := 30) hx hb zd_C_peak_15 (by decide) (⟨by omega, by omega⟩) (fun h_15 => ?_) (fun h_15 => ?_)
    · refine lv_iconst (v := iI (-1)) hx hb zd_C_peak_30 rfl ?_
      exact ret _ _ _ _ _ _ _ zd_C_peak_31 hP hD hS (by first | exact ⟨r3, fun _ => ⟨(r4 (by omega)).1, (r4 (by omega)).2, rfl⟩, fun h => absurd ⟨ha_, r2.mp (by omega)⟩ h⟩ | exact ⟨r3, fun h => absurd (r2.mpr h.2) (by omega), fun _ => ⟨rfl, (r5 h_15).1, (r5 h_15).2⟩⟩ | exact ⟨⟨fun _ _ _ => rfl, fun _ _ _ _ _ => rfl⟩, fun h => absurd (hq_5.trans (if_pos h.1)) (by omega), fun _ => ⟨rfl, rfl, rfl⟩⟩)
    · refine lv_aload_n hx hb zd_C_peak_18 rfl (lv_at hl 0 rfl) ?_
      refine va_get (D := D) (ci := 0) (v := .ref (q 2)) (C := zR_C) (T := zT_C) (N := 4) hx hb hts zi_C hown hK.1 hP 0 ga_0 rfl 1 (by decide) (hts _ zw_186) (fun _ h9 => h9) rfl zd_C_peak_19 ?_
      refine va_getN (D := D) (ci := 2) (v := .ref (q 17)) (C := zR_U) (T := zT_U) (N := 6) hx hb hts zi_U hown hK.1 hP 2 ga_2 rfl 5 (by decide) (zNW.use hK.2 zw_110) (fun _ h9 => h9) rfl zd_C_peak_22 ?_
      refine lv_iload_n hx hb zd_C_peak_25 rfl (lv_at hl 1 rfl) ?_
      refine x_iald (v := A_12 17 a) hx hb hK.1 hP 17 0 ga_17 rfl (by decide) (by omega) (by omega) (rfl) zd_C_peak_26 ?_
      refine lv_goto (tgt := 31) hx hb zd_C_peak_27 (by decide) ?_
      exact ret _ _ _ _ _ _ _ zd_C_peak_31 hP hD hS (by first | exact ⟨r3, fun _ => ⟨(r4 (by omega)).1, (r4 (by omega)).2, rfl⟩, fun h => absurd ⟨ha_, r2.mp (by omega)⟩ h⟩ | exact ⟨r3, fun h => absurd (r2.mpr h.2) (by omega), fun _ => ⟨rfl, (r5 h_15).1, (r5 h_15).2⟩⟩ | exact ⟨⟨fun _ _ _ => rfl, fun _ _ _ _ _ => rfl⟩, fun h => absurd (hq_5.trans (if_pos h.1)) (by omega), fun _ => ⟨rfl, rfl, rfl⟩⟩)

abbrev zr_C_total : Room := ({ frames := 4, cells := 0, slots := 0, locals := 95 } : Room)
set_option maxHeartbeats 4000000 in
set_option maxRecDepth 100000 in
theorem c_C_total (l : Launch) (D : va_G) (q : Nat → Nat) (c : Nat → ClassId) (sz : Nat) (F : Nat → Int) (A : Nat → Int → Int) (w : Int) (bw : ib w) (hn : 1 ≤ F 100 ∧ F 100 ≤ 8) (hc : 0 ≤ F 101 ∧ F 101 ≤ 14) (hact : ∀ a, 0 ≤ a → a < 8 → (1 ≤ A 7 a ∧ A 7 a ≤ 4782969) ∧ 0 ≤ A 8 a ∧ A 8 a < 8) (hch : ∀ k, 0 ≤ k → k < F 101 → (0 ≤ A 9 k ∧ A 9 k < F 100) ∧ (0 ≤ A 10 k ∧ A 10 k < F 100) ∧ (1 ≤ A 11 k ∧ A 11 k ≤ 9) ∧ (1 ≤ A 12 k ∧ A 12 k ≤ 9) ∧ 0 ≤ A 13 k ∧ A 13 k ≤ 99) (hkn : (F 200 = 0 ∨ F 200 = 1) ∧ (F 200 = 1 → RdOK F A)) (hu : ib (F 102)) : zMI l zy_C_total zc_C_total 2 (some .int) zr_C_total D q c sz [.ref (q 0), .int (iI (w))] F A (fun z F1 A1 => ((∀ j, j ≠ 200 → j ≠ 201 → F1 j = F j) ∧ (∀ k, k ≠ 14 → k ≠ 15 → k ≠ 16 → k ≠ 17 → A1 k = A k)) ∧ (w ≠ 3 → F1 = F ∧ A1 = A) ∧ (w = 0 → z = F 100) ∧ (w = 1 → z = F 101) ∧ (w = 2 → z = sI (fun a => if A 8 a = a then 1 else 0) (F 100)) ∧ (w = 3 → (F 102 = -1 ∧ sI (A 7) (F 100) ≤ 400 → F1 200 = 1 ∧ RdOK F1 A1 ∧ z = F1 201) ∧ (¬ (F 102 = -1 ∧ sI (A 7) (F 100) ≤ 400) → z = 0 ∧ F1 = F ∧ A1 = A)) ∧ (w < 0 ∨ 3 < w → z = -1)) := by
  refine z_ofI (by decide) (Nat.le_of_ble_eq_true rfl) ?_
  intro p e s m args below meth c0 A0 Q C0 ret hP hD hS ls hl
  obtain ⟨S, hK, hA⟩ := C0
  have hx := S.1
  have hb := S.2.1
  have hown := S.2.2.2.1
  have hts : ∀ w ∈ zG, w.before args s = true := fun w h => S.2.2.2.2 w (List.mem_cons_of_mem _ h)
  have hl : lv_has ls 2 [(0, .ref (q 0)), (1, .int (iI (w)))] := hl
  refine lv_iload_n hx hb zd_C_total_0 rfl (lv_at hl 1 rfl) ?_
  by_cases hs_1_0 : w = 0
  · refine x_tabIn (k := 0) (off := 31) (tgt := 32) hx hb zd_C_total_1 hs_1_0 (by decide) (by decide) (by decide) rfl (by decide) ?_
    refine lv_aload_n hx hb zd_C_total_32 rfl (lv_at hl 0 rfl) ?_
    refine va_get (D := D) (ci := 0) (v := .ref (q 1)) (C := zR_C) (T := zT_C) (N := 4) hx hb hts zi_C hown hK.1 hP 0 ga_0 rfl 0 (by decide) (hts _ zw_185) (fun _ h9 => h9) rfl zd_C_total_33 ?_
    refine va_getN (D := D) (ci := 1) (v := .int (iI (F 100))) (C := zR_N) (T := zT_N) (N := 11) hx hb hts zi_N hown hK.1 hP 1 ga_1 rfl 0 (by decide) (zNW.use hK.2 zw_36) (fun _ h9 => h9) rfl zd_C_total_36 ?_
    exact ret _ _ _ _ _ _ _ zd_C_total_39 hP hD hS (⟨⟨fun _ _ _ => rfl, fun _ _ _ _ _ => rfl⟩, fun _ => ⟨rfl, rfl⟩, fun _ => rfl, fun h => by omega, fun h => by omega, fun h => by omega, fun h => by omega⟩)
  by_cases hs_1_1 : w = 1
  · refine x_tabIn (k := 1) (off := 39) (tgt := 40) hx hb zd_C_total_1 hs_1_1 (by decide) (by decide) (by decide) rfl (by decide) ?_
    refine lv_aload_n hx hb zd_C_total_40 rfl (lv_at hl 0 rfl) ?_
    refine va_get (D := D) (ci := 0) (v := .ref (q 1)) (C := zR_C) (T := zT_C) (N := 4) hx hb hts zi_C hown hK.1 hP 0 ga_0 rfl 0 (by decide) (hts _ zw_185) (fun _ h9 => h9) rfl zd_C_total_41 ?_
    refine va_getN (D := D) (ci := 1) (v := .int (iI (F 101))) (C := zR_N) (T := zT_N) (N := 11) hx hb hts zi_N hown hK.1 hP 1 ga_1 rfl 1 (by decide) (zNW.use hK.2 zw_39) (fun _ h9 => h9) rfl zd_C_total_44 ?_
    exact ret _ _ _ _ _ _ _ zd_C_total_47 hP hD hS (⟨⟨fun _ _ _ => rfl, fun _ _ _ _ _ => rfl⟩, fun _ => ⟨rfl, rfl⟩, fun h => by omega, fun _ => rfl, fun h => by omega, fun h => by omega, fun h => by omega⟩)
  by_cases hs_1_2 : w = 2
  · refine x_tabIn (k := 2) (off := 47) (tgt := 48) hx hb zd_C_total_1 hs_1_2 (by decide) (by decide) (by decide) rfl (by decide) ?_
    refine lv_aload_n hx hb zd_C_total_48 rfl (lv_at hl 0 rfl) ?_
    refine va_get (D := D) (ci := 0) (v := .ref (q 1)) (C := zR_C) (T := zT_C) (N := 4) hx hb hts zi_C hown hK.1 hP 0 ga_0 rfl 0 (by decide) (hts _ zw_185) (fun _ h9 => h9) rfl zd_C_total_49 ?_
    refine z_goi (z_runVN (n := 0) (k := 1) (ci := 1) (As := []) (rest := []) S (c_N_parts l D q c _ F A (by first | assumption | omega | exact ⟨by omega, by omega⟩) (by first | assumption | omega | exact ⟨by omega, by omega⟩) (by first | assumption | omega | exact ⟨by omega, by omega⟩)) zw_323 zw_325 zs_19 zw_2 zw_326 ⟨by decide +kernel, by decide, rfl, rfl⟩ hK hP hD ga_1 rfl rfl rfl hl.1 rfl (Nat.le_of_ble_eq_true rfl) zd_C_total_52 ⟨Nat.zero_le _, Nat.zero_le _⟩) hD hS hA (fun z_52 F_52 A_52 H locs hq_52 hP hD hS => ?_)
    obtain ⟨hf_52, ha_52, hq_52⟩ := hq_52
    rw [hf_52, ha_52] at hP hD
    exact ret _ _ _ _ _ _ _ zd_C_total_55 hP hD hS (⟨⟨fun _ _ _ => rfl, fun _ _ _ _ _ => rfl⟩, fun _ => ⟨rfl, rfl⟩, fun h => by omega, fun h => by omega, fun _ => hq_52, fun h => by omega, fun h => by omega⟩)
  by_cases hs_1_3 : w = 3
  · refine x_tabIn (k := 3) (off := 55) (tgt := 56) hx hb zd_C_total_1 hs_1_3 (by decide) (by decide) (by decide) rfl (by decide) ?_
    refine lv_aload_n hx hb zd_C_total_56 rfl (lv_at hl 0 rfl) ?_
    refine z_goi (z_runV (n := 0) (k := 0) (ci := 0) (As := []) (rest := []) S (c_C_findRound l D q c _ F A (by first | assumption | omega | exact ⟨by omega, by omega⟩) (by first | assumption | omega | exact ⟨by omega, by omega⟩) (by first | assumption | omega | exact ⟨by omega, by omega⟩) (by first | assumption | omega | exact ⟨by omega, by omega⟩) (by first | assumption | omega | exact ⟨by omega, by omega⟩) (by first | assumption | omega | exact ⟨by omega, by omega⟩)) zw_258 zw_260 zs_7 zw_1 zw_261 ⟨by decide +kernel, by decide, rfl, rfl⟩ hK hP hD ga_0 rfl rfl rfl hl.1 rfl (Nat.le_of_ble_eq_true rfl) zd_C_total_57 ⟨Nat.zero_le _, Nat.zero_le _⟩) hD hS hA (fun z_57 F_57 A_57 H locs hq_57 hP hD hS => ?_)
    obtain ⟨r1, r2, r3, r4, r5⟩ := hq_57
    refine x_if_eq (tgt := 73) hx hb zd_C_total_60 (by decide) (⟨by omega, by omega⟩) (fun h_60 => ?_) (fun h_60 => ?_)
    · refine lv_iconst (v := iI (0)) hx hb zd_C_total_73 rfl ?_
      exact ret _ _ _ _ _ _ _ zd_C_total_74 hP hD hS (by first | exact ⟨r3, fun h => absurd hs_1_3 h, fun h => by omega, fun h => by omega, fun h => by omega, fun _ => ⟨fun _ => ⟨(r4 (by omega)).1, (r4 (by omega)).2, rfl⟩, fun h => absurd (r2.mp (by omega)) h⟩, fun h => by omega⟩ | exact ⟨r3, fun h => absurd hs_1_3 h, fun h => by omega, fun h => by omega, fun h => by omega, fun _ => ⟨fun h => absurd (r2.mpr h) (by omega), fun _ => ⟨rfl, (r5 h_60).1, (r5 h_60).2⟩⟩, fun h => by omega⟩)
    · refine lv_aload_n hx hb zd_C_total_63 rfl (lv_at hl 0 rfl) ?_
      refine va_get (D := D) (ci := 0) (v := .ref (q 2)) (C := zR_C) (T := zT_C) (N := 4) hx hb hts zi_C hown hK.1 hP 0 ga_0 rfl 1 (by decide) (hts _ zw_186) (fun _ h9 => h9) rfl zd_C_total_64 ?_
      refine va_getN (D := D) (ci := 2) (v := .int (iI (F_57 201))) (C := zR_U) (T := zT_U) (N := 6) hx hb hts zi_U hown hK.1 hP 2 ga_2 rfl 1 (by decide) (zNW.use hK.2 zw_103) (fun _ h9 => h9) rfl zd_C_total_67 ?_
      refine lv_goto (tgt := 74) hx hb zd_C_total_70 (by decide) ?_
      exact ret _ _ _ _ _ _ _ zd_C_total_74 hP hD hS (by first | exact ⟨r3, fun h => absurd hs_1_3 h, fun h => by omega, fun h => by omega, fun h => by omega, fun _ => ⟨fun _ => ⟨(r4 (by omega)).1, (r4 (by omega)).2, rfl⟩, fun h => absurd (r2.mp (by omega)) h⟩, fun h => by omega⟩ | exact ⟨r3, fun h => absurd hs_1_3 h, fun h => by omega, fun h => by omega, fun h => by omega, fun _ => ⟨fun h => absurd (r2.mpr h) (by omega), fun _ => ⟨rfl, (r5 h_60).1, (r5 h_60).2⟩⟩, fun h => by omega⟩)
  refine x_tabOut (tgt := 75) hx hb zd_C_total_1 (⟨by omega, by omega⟩) (by omega) (by decide) ?_
  refine lv_iconst (v := iI (-1)) hx hb zd_C_total_75 rfl ?_
  exact ret _ _ _ _ _ _ _ zd_C_total_76 hP hD hS (⟨⟨fun _ _ _ => rfl, fun _ _ _ _ _ => rfl⟩, fun _ => ⟨rfl, rfl⟩, fun h => by omega, fun h => by omega, fun h => by omega, fun h => by omega, fun _ => rfl⟩)
