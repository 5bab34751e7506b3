set_option maxHeartbeats 8000000 in
set_option maxRecDepth 100000 in
theorem law_loop (l : Launch) (hfl : l.stackTraces = false) (D : va_G) (q : Nat → Nat) (c : Nat → ClassId) {p : Program} {e : Env} {s : State} {m : MethodId} {below : List Frame} {meth : Method} {c0 : Code} {Q : State → Prop} {b L : Nat} {xs : Nat → Int32} {args : Array Value} {A0 : Nat → Prop} {w0 : Cond} (S : CallFix p m c0 zc_L_law 7 s args (w0 :: zG) zR_L) (hK : va_K D zcl (zty c) s ∧ zNW s) (hTH : zTH s) (hAs : zAs s) (hX : va_X b L xs s s.heap) (hbl : b < s.heap.size) (hL : L ≤ 3072) (hA : ∀ x, s.heap.size ≤ x → A0 x) (hA2 : ∀ x, x < s.heap.size → ¬ A0 x)
    (fin : ∀ (H : Heap) (locs : List Loc) (ls : Array Slot) (n1 n2 : Nat), n1 ≤ 700 → n2 ≤ 70000 → va_S A0 s.heap H locs → W p l e room_1 s m args below meth c0 H locs n1 n2 Q (F0 m 523 ls [.int (iI 1)])) :
    ∀ (fu t : Nat) (F : Nat → Int) (A : Nat → Int → Int) (n1 n2 : Nat) (i : Int), i = 6 * (t : Int) → INV F A → n1 ≤ 100 + t → n2 ≤ 60000 + 6 * t → 6 * t ≤ L + 5 → L + 6 < 6 * t + fu → ∀ (H : Heap) (locs : List Loc), va_P D zcl (gw q c F A) H → va_D A0 (gw q c F A) → va_S A0 s.heap H locs → ∀ ls : Array Slot, lv_has ls 7 [(0, .ref b), (1, .ref (q 0)), (2, .ref (q 5)), (3, .ref (q 57)), (4, .int (iI (i)))] → W p l e room_1 s m args below meth c0 H locs n1 n2 Q (F0 m 23 ls []) := by
  have hx := S.1
  have hb := S.2.1
  have hown := S.2.2.2.1
  have hts : ∀ w ∈ zG, w.before args s = true := fun w h => S.2.2.2.2 w (List.mem_cons_of_mem _ h)
  intro fu
  induction fu with
  | zero => intro t F A n1 n2 i hi I hn1 hn2 ht hm; omega
  | succ fu ih =>
    intro t F A n1 n2 i hi I hn1 hn2 ht hm H locs hP hD hS ls hl
    have hH : H[b]? = s.heap[b]? := hS.2.1 b hbl (hA2 b hbl)
    have hn := I.1.1
    have hc := I.1.2.1
    have htm := I.1.2.2.1
    have hact := I.1.2.2.2.1
    have hch := I.1.2.2.2.2.1
    have hkn := I.2.2.1
    have hu : ib (F 102) := by have h9 := INV_un I; exact ⟨by omega, by omega⟩
    have hsame := INV_same I
    have hc1 : n1 ≤ room_1.cells := (by omega : n1 ≤ 601024)
    have hc2 : n2 ≤ room_1.slots := (by omega : n2 ≤ 7293034)
    have hc3 : n1 + 1 ≤ room_1.cells := (by omega : n1 + 1 ≤ 601024)
    have hc4 : n2 + 6 ≤ room_1.slots := (by omega : n2 + 6 ≤ 7293034)
    refine lv_iload hx hb zd_L_law_23 (lv_at hl 4 rfl) ?_
    refine lv_aload_n hx hb zd_L_law_25 rfl (lv_at hl 0 rfl) ?_
    refine x_slen hx hb hX hH zd_L_law_26 ?_
    refine lv_bipush (v := iI (6)) hx hb zd_L_law_27 (by decide) ?_
    refine x_isub hx hb zd_L_law_29 ?_
    refine x_icmp_gt (tgt := 522) hx hb zd_L_law_30 (by decide) (⟨by omega, by omega⟩) (⟨by omega, by omega⟩) (fun h_30 => ?_) (fun h_30 => ?_)
    · refine lv_iconst (v := iI (1)) hx hb zd_L_law_522 rfl ?_
      exact fin _ _ _ _ _ (by omega) (by omega) hS
    · refine lv_aload_n hx hb zd_L_law_33 rfl (lv_at hl 0 rfl) ?_
      refine lv_iload hx hb zd_L_law_34 (lv_at hl 4 rfl) ?_
      refine x_scr hx hb hX hH hL (i := i) (by omega) (by omega) zd_L_law_36 ?_
      refine lv_bipush (v := iI (15)) hx hb zd_L_law_37 (by decide) ?_
      refine x_iand_v hx hb zd_L_law_39 (fun v bv => ?_)
      by_cases hs_0 : v = 0
      · refine x_tabIn (k := 0) (off := 60) (tgt := 100) hx hb zd_L_law_40 hs_0 (by decide) (by decide) (by decide) rfl (by decide) ?_
        refine lv_aload_n hx hb zd_L_law_100 rfl (lv_at hl 1 rfl) ?_
        refine lv_aload_n hx hb zd_L_law_101 rfl (lv_at hl 0 rfl) ?_
        refine lv_iload hx hb zd_L_law_102 (lv_at hl 4 rfl) ?_
        refine lv_iconst (v := iI (1)) hx hb zd_L_law_104 rfl ?_
        refine x_iadd hx hb zd_L_law_105 ?_
        refine x_scr hx hb hX hH hL (i := i + 1) (by omega) (by omega) zd_L_law_106 ?_
        refine z_goi (z_runV (n := 1) (k := 0) (ci := 0) (As := [.int (iI (sc xs (i + 1)))]) (rest := []) S (c_C_graph l D q c _ F A (sc xs (i + 1)) (by first | assumption | exact ib_of _)) zw_198 zw_199 zw_200 zw_1 zw_201 ⟨by decide +kernel, by decide, rfl, rfl⟩ hK hP hD ga_0 rfl rfl rfl hl.1 rfl (Nat.le_of_ble_eq_true rfl) zd_L_law_107 ⟨hc1, hc2⟩) hD hS hA (fun z_107 F_107 A_107 H locs hq_107 hP hD hS => ?_)
        have hH : H[b]? = s.heap[b]? := hS.2.1 b hbl (hA2 b hbl)
        refine lv_aload_n hx hb zd_L_law_110 rfl (lv_at hl 2 rfl) ?_
        refine lv_aload_n hx hb zd_L_law_111 rfl (lv_at hl 0 rfl) ?_
        refine lv_iload hx hb zd_L_law_112 (lv_at hl 4 rfl) ?_
        refine lv_iconst (v := iI (1)) hx hb zd_L_law_114 rfl ?_
        refine x_iadd hx hb zd_L_law_115 ?_
        refine x_scr hx hb hX hH hL (i := i + 1) (by omega) (by omega) zd_L_law_116 ?_
        refine z_goi (z_runV (n := 1) (k := 5) (ci := 5) (As := [.int (iI (sc xs (i + 1)))]) (rest := [.int (iI (z_107))]) S (c_X_graph l D q c _ F_107 A_107 (sc xs (i + 1)) (by first | assumption | exact ib_of _)) zw_642 zw_643 zw_644 zw_6 zw_645 ⟨by decide +kernel, by decide, rfl, rfl⟩ hK hP hD ga_5 rfl rfl rfl hl.1 rfl (Nat.le_of_ble_eq_true rfl) zd_L_law_117 ⟨hc1, hc2⟩) hD hS hA (fun z_117 F_117 A_117 H locs hq_117 hP hD hS => ?_)
        obtain ⟨hz, I2⟩ := o_graph I hq_107 hq_117
        refine x_icmp_sm (tgt := 516) hx hb zd_L_law_120 (by decide) (hz) ?_
        refine lv_iinc (v := iI (i + 6)) (lv' := [(4, .int (iI (i + 6))), (0, .ref b), (1, .ref (q 0)), (2, .ref (q 5)), (3, .ref (q 57))]) hx hb zd_L_law_516 hl (k := 4) rfl (iI_add _ _) (by decide) rfl (fun ls hl => ?_)
        refine lv_goto (tgt := 23) hx hb zd_L_law_519 (by decide) ?_
        exact ih (t + 1) F_117 A_117 _ _ (i + 6) (by omega) I2 (by omega) (by omega) (by omega) (by omega) _ _ hP hD hS ls (lv_sub hl [1, 2, 3, 4, 0] rfl)
      by_cases hs_1 : v = 1
      · refine x_tabIn (k := 1) (off := 85) (tgt := 125) hx hb zd_L_law_40 hs_1 (by decide) (by decide) (by decide) rfl (by decide) ?_
        refine lv_aload_n hx hb zd_L_law_125 rfl (lv_at hl 1 rfl) ?_
        refine lv_aload_n hx hb zd_L_law_126 rfl (lv_at hl 0 rfl) ?_
        refine lv_iload hx hb zd_L_law_127 (lv_at hl 4 rfl) ?_
        refine lv_iconst (v := iI (1)) hx hb zd_L_law_129 rfl ?_
        refine x_iadd hx hb zd_L_law_130 ?_
        refine x_scr hx hb hX hH hL (i := i + 1) (by omega) (by omega) zd_L_law_131 ?_
        refine lv_aload_n hx hb zd_L_law_132 rfl (lv_at hl 0 rfl) ?_
        refine lv_iload hx hb zd_L_law_133 (lv_at hl 4 rfl) ?_
        refine lv_iconst (v := iI (2)) hx hb zd_L_law_135 rfl ?_
        refine x_iadd hx hb zd_L_law_136 ?_
        refine x_scr hx hb hX hH hL (i := i + 2) (by omega) (by omega) zd_L_law_137 ?_
        refine z_goi (z_runV (n := 2) (k := 0) (ci := 0) (As := [.int (iI (sc xs (i + 1))), .int (iI (sc xs (i + 2)))]) (rest := []) S (c_C_time l D q c _ F A (sc xs (i + 1)) (sc xs (i + 2)) (by first | assumption | exact ib_of _) (by first | assumption | exact ib_of _) (by first | assumption | exact ib_of _)) zw_210 zw_211 zw_212 zw_1 zw_213 ⟨by decide +kernel, by decide, rfl, rfl⟩ hK hP hD ga_0 rfl rfl rfl hl.1 rfl (Nat.le_of_ble_eq_true rfl) zd_L_law_138 ⟨hc1, hc2⟩) hD hS hA (fun z_138 F_138 A_138 H locs hq_138 hP hD hS => ?_)
        have hH : H[b]? = s.heap[b]? := hS.2.1 b hbl (hA2 b hbl)
        have kp_ := t_keep hq_138
        refine lv_aload_n hx hb zd_L_law_141 rfl (lv_at hl 2 rfl) ?_
        refine lv_aload_n hx hb zd_L_law_142 rfl (lv_at hl 0 rfl) ?_
        refine lv_iload hx hb zd_L_law_143 (lv_at hl 4 rfl) ?_
        refine lv_iconst (v := iI (1)) hx hb zd_L_law_145 rfl ?_
        refine x_iadd hx hb zd_L_law_146 ?_
        refine x_scr hx hb hX hH hL (i := i + 1) (by omega) (by omega) zd_L_law_147 ?_
        refine lv_aload_n hx hb zd_L_law_148 rfl (lv_at hl 0 rfl) ?_
        refine lv_iload hx hb zd_L_law_149 (lv_at hl 4 rfl) ?_
        refine lv_iconst (v := iI (2)) hx hb zd_L_law_151 rfl ?_
        refine x_iadd hx hb zd_L_law_152 ?_
        refine x_scr hx hb hX hH hL (i := i + 2) (by omega) (by omega) zd_L_law_153 ?_
        refine z_goi (z_runV (n := 2) (k := 5) (ci := 5) (As := [.int (iI (sc xs (i + 1))), .int (iI (sc xs (i + 2)))]) (rest := [.int (iI (z_138))]) S (c_X_time l D q c _ F_138 A_138 (sc xs (i + 1)) (sc xs (i + 2)) (by first | assumption | exact ib_of _) (by first | assumption | exact ib_of _) (by have h8 := I.2.1.1; have h9 := I.1.1; omega)) zw_649 zw_650 zw_651 zw_6 zw_652 ⟨by decide +kernel, by decide, rfl, rfl⟩ hK hP hD ga_5 rfl rfl rfl hl.1 rfl (Nat.le_of_ble_eq_true rfl) zd_L_law_154 ⟨hc1, hc2⟩) hD hS hA (fun z_154 F_154 A_154 H locs hq_154 hP hD hS => ?_)
        obtain ⟨hz, I2⟩ := o_time I hq_138 hq_154
        refine x_icmp_sm (tgt := 516) hx hb zd_L_law_157 (by decide) (hz) ?_
        refine lv_iinc (v := iI (i + 6)) (lv' := [(4, .int (iI (i + 6))), (0, .ref b), (1, .ref (q 0)), (2, .ref (q 5)), (3, .ref (q 57))]) hx hb zd_L_law_516 hl (k := 4) rfl (iI_add _ _) (by decide) rfl (fun ls hl => ?_)
        refine lv_goto (tgt := 23) hx hb zd_L_law_519 (by decide) ?_
        exact ih (t + 1) F_154 A_154 _ _ (i + 6) (by omega) I2 (by omega) (by omega) (by omega) (by omega) _ _ hP hD hS ls (lv_sub hl [1, 2, 3, 4, 0] rfl)
      by_cases hs_2 : v = 2
      · refine x_tabIn (k := 2) (off := 122) (tgt := 162) hx hb zd_L_law_40 hs_2 (by decide) (by decide) (by decide) rfl (by decide) ?_
        refine lv_aload_n hx hb zd_L_law_162 rfl (lv_at hl 1 rfl) ?_
        refine lv_aload_n hx hb zd_L_law_163 rfl (lv_at hl 0 rfl) ?_
        refine lv_iload hx hb zd_L_law_164 (lv_at hl 4 rfl) ?_
        refine lv_iconst (v := iI (1)) hx hb zd_L_law_166 rfl ?_
        refine x_iadd hx hb zd_L_law_167 ?_
        refine x_scr hx hb hX hH hL (i := i + 1) (by omega) (by omega) zd_L_law_168 ?_
        refine lv_aload_n hx hb zd_L_law_169 rfl (lv_at hl 0 rfl) ?_
        refine lv_iload hx hb zd_L_law_170 (lv_at hl 4 rfl) ?_
        refine lv_iconst (v := iI (2)) hx hb zd_L_law_172 rfl ?_
        refine x_iadd hx hb zd_L_law_173 ?_
        refine x_scr hx hb hX hH hL (i := i + 2) (by omega) (by omega) zd_L_law_174 ?_
        refine lv_aload_n hx hb zd_L_law_175 rfl (lv_at hl 0 rfl) ?_
        refine lv_iload hx hb zd_L_law_176 (lv_at hl 4 rfl) ?_
        refine lv_iconst (v := iI (3)) hx hb zd_L_law_178 rfl ?_
        refine x_iadd hx hb zd_L_law_179 ?_
        refine x_scr hx hb hX hH hL (i := i + 3) (by omega) (by omega) zd_L_law_180 ?_
        refine lv_aload_n hx hb zd_L_law_181 rfl (lv_at hl 0 rfl) ?_
        refine lv_iload hx hb zd_L_law_182 (lv_at hl 4 rfl) ?_
        refine lv_iconst (v := iI (4)) hx hb zd_L_law_184 rfl ?_
        refine x_iadd hx hb zd_L_law_185 ?_
        refine x_scr hx hb hX hH hL (i := i + 4) (by omega) (by omega) zd_L_law_186 ?_
        refine lv_aload_n hx hb zd_L_law_187 rfl (lv_at hl 0 rfl) ?_
        refine lv_iload hx hb zd_L_law_188 (lv_at hl 4 rfl) ?_
        refine lv_iconst (v := iI (5)) hx hb zd_L_law_190 rfl ?_
        refine x_iadd hx hb zd_L_law_191 ?_
        refine x_scr hx hb hX hH hL (i := i + 5) (by omega) (by omega) zd_L_law_192 ?_
        refine z_goi (z_runV (n := 5) (k := 0) (ci := 0) (As := [.int (iI (sc xs (i + 1))), .int (iI (sc xs (i + 2))), .int (iI (sc xs (i + 3))), .int (iI (sc xs (i + 4))), .int (iI (sc xs (i + 5)))]) (rest := []) S (c_C_channel l D q c _ F A (sc xs (i + 1)) (sc xs (i + 2)) (sc xs (i + 3)) (sc xs (i + 4)) (sc xs (i + 5)) (by first | assumption | exact ib_of _) (by first | assumption | exact ib_of _) (by first | assumption | exact ib_of _) (by first | assumption | exact ib_of _) (by first | assumption | exact ib_of _) (by first | assumption | exact ib_of _) (by first | assumption | exact ib_of _) (by first | assumption | exact ib_of _) (by first | assumption | exact ib_of _) (by first | assumption | exact ib_of _)) zw_218 zw_219 zw_220 zw_1 zw_221 ⟨by decide +kernel, by decide, rfl, rfl⟩ hK hP hD ga_0 rfl rfl rfl hl.1 rfl (Nat.le_of_ble_eq_true rfl) zd_L_law_193 ⟨hc1, hc2⟩) hD hS hA (fun z_193 F_193 A_193 H locs hq_193 hP hD hS => ?_)
        have hH : H[b]? = s.heap[b]? := hS.2.1 b hbl (hA2 b hbl)
        have kp_ := c_keep hq_193
        refine lv_aload_n hx hb zd_L_law_196 rfl (lv_at hl 2 rfl) ?_
        refine lv_aload_n hx hb zd_L_law_197 rfl (lv_at hl 0 rfl) ?_
        refine lv_iload hx hb zd_L_law_198 (lv_at hl 4 rfl) ?_
        refine lv_iconst (v := iI (1)) hx hb zd_L_law_200 rfl ?_
        refine x_iadd hx hb zd_L_law_201 ?_
        refine x_scr hx hb hX hH hL (i := i + 1) (by omega) (by omega) zd_L_law_202 ?_
        refine lv_aload_n hx hb zd_L_law_203 rfl (lv_at hl 0 rfl) ?_
        refine lv_iload hx hb zd_L_law_204 (lv_at hl 4 rfl) ?_
        refine lv_iconst (v := iI (2)) hx hb zd_L_law_206 rfl ?_
        refine x_iadd hx hb zd_L_law_207 ?_
        refine x_scr hx hb hX hH hL (i := i + 2) (by omega) (by omega) zd_L_law_208 ?_
        refine lv_aload_n hx hb zd_L_law_209 rfl (lv_at hl 0 rfl) ?_
        refine lv_iload hx hb zd_L_law_210 (lv_at hl 4 rfl) ?_
        refine lv_iconst (v := iI (3)) hx hb zd_L_law_212 rfl ?_
        refine x_iadd hx hb zd_L_law_213 ?_
        refine x_scr hx hb hX hH hL (i := i + 3) (by omega) (by omega) zd_L_law_214 ?_
        refine lv_aload_n hx hb zd_L_law_215 rfl (lv_at hl 0 rfl) ?_
        refine lv_iload hx hb zd_L_law_216 (lv_at hl 4 rfl) ?_
        refine lv_iconst (v := iI (4)) hx hb zd_L_law_218 rfl ?_
        refine x_iadd hx hb zd_L_law_219 ?_
        refine x_scr hx hb hX hH hL (i := i + 4) (by omega) (by omega) zd_L_law_220 ?_
        refine lv_aload_n hx hb zd_L_law_221 rfl (lv_at hl 0 rfl) ?_
        refine lv_iload hx hb zd_L_law_222 (lv_at hl 4 rfl) ?_
        refine lv_iconst (v := iI (5)) hx hb zd_L_law_224 rfl ?_
        refine x_iadd hx hb zd_L_law_225 ?_
        refine x_scr hx hb hX hH hL (i := i + 5) (by omega) (by omega) zd_L_law_226 ?_
        refine z_goi (z_runV (n := 5) (k := 5) (ci := 5) (As := [.int (iI (sc xs (i + 1))), .int (iI (sc xs (i + 2))), .int (iI (sc xs (i + 3))), .int (iI (sc xs (i + 4))), .int (iI (sc xs (i + 5)))]) (rest := [.int (iI (z_193))]) S (c_X_channel l D q c _ F_193 A_193 (sc xs (i + 1)) (sc xs (i + 2)) (sc xs (i + 3)) (sc xs (i + 4)) (sc xs (i + 5)) (by first | assumption | exact ib_of _) (by first | assumption | exact ib_of _) (by first | assumption | exact ib_of _) (by first | assumption | exact ib_of _) (by first | assumption | exact ib_of _) (by have h8 := I.2.1.1; have h9 := I.1.1; omega) (by have h8 := I.2.1.2.1; have h9 := I.1.2.1; omega)) zw_653 zw_654 zw_655 zw_6 zw_656 ⟨by decide +kernel, by decide, rfl, rfl⟩ hK hP hD ga_5 rfl rfl rfl hl.1 rfl (Nat.le_of_ble_eq_true rfl) zd_L_law_227 ⟨hc1, hc2⟩) hD hS hA (fun z_227 F_227 A_227 H locs hq_227 hP hD hS => ?_)
        obtain ⟨hz, I2⟩ := o_chan I hq_193 hq_227
        refine x_icmp_sm (tgt := 516) hx hb zd_L_law_230 (by decide) (hz) ?_
        refine lv_iinc (v := iI (i + 6)) (lv' := [(4, .int (iI (i + 6))), (0, .ref b), (1, .ref (q 0)), (2, .ref (q 5)), (3, .ref (q 57))]) hx hb zd_L_law_516 hl (k := 4) rfl (iI_add _ _) (by decide) rfl (fun ls hl => ?_)
        refine lv_goto (tgt := 23) hx hb zd_L_law_519 (by decide) ?_
        exact ih (t + 1) F_227 A_227 _ _ (i + 6) (by omega) I2 (by omega) (by omega) (by omega) (by omega) _ _ hP hD hS ls (lv_sub hl [1, 2, 3, 4, 0] rfl)
      by_cases hs_3 : v = 3
      · refine x_tabIn (k := 3) (off := 195) (tgt := 235) hx hb zd_L_law_40 hs_3 (by decide) (by decide) (by decide) rfl (by decide) ?_
        refine lv_aload_n hx hb zd_L_law_235 rfl (lv_at hl 1 rfl) ?_
        refine z_goi (z_runV (n := 0) (k := 0) (ci := 0) (As := []) (rest := []) S (c_C_uneven l D q c _ F A ) zw_250 zw_251 zw_252 zw_1 zw_253 ⟨by decide +kernel, by decide, rfl, rfl⟩ hK hP hD ga_0 rfl rfl rfl hl.1 rfl (Nat.le_of_ble_eq_true rfl) zd_L_law_236 ⟨hc1, hc2⟩) hD hS hA (fun z_236 F_236 A_236 H locs hq_236 hP hD hS => ?_)
        obtain ⟨hf_236, ha_236, hq_236⟩ := hq_236
        rw [hf_236, ha_236] at hP hD
        have hH : H[b]? = s.heap[b]? := hS.2.1 b hbl (hA2 b hbl)
        have I1 := I
        refine lv_aload_n hx hb zd_L_law_239 rfl (lv_at hl 2 rfl) ?_
        refine z_goi (z_runV (n := 0) (k := 5) (ci := 5) (As := []) (rest := [.int (iI (z_236))]) S (c_X_uneven l D q c _ F A (by have h8 := I1.2.1.1; have h9 := I1.1.1; omega) (by have h8 := I1.2.1.2.1; have h9 := I1.1.2.1; omega) (INV_mch I1) (I1.2.2.2.2)) zw_657 zw_658 zw_659 zw_6 zw_660 ⟨by decide +kernel, by decide, rfl, rfl⟩ hK hP hD ga_5 rfl rfl rfl hl.1 rfl (Nat.le_of_ble_eq_true rfl) zd_L_law_240 ⟨hc1, hc2⟩) hD hS hA (fun z_240 F_240 A_240 H locs hq_240 hP hD hS => ?_)
        obtain ⟨hz, I2⟩ := o_un I hq_240
        refine x_icmp_sm (tgt := 516) hx hb zd_L_law_243 (by decide) (hq_236.trans hz) ?_
        refine lv_iinc (v := iI (i + 6)) (lv' := [(4, .int (iI (i + 6))), (0, .ref b), (1, .ref (q 0)), (2, .ref (q 5)), (3, .ref (q 57))]) hx hb zd_L_law_516 hl (k := 4) rfl (iI_add _ _) (by decide) rfl (fun ls hl => ?_)
        refine lv_goto (tgt := 23) hx hb zd_L_law_519 (by decide) ?_
        exact ih (t + 1) F_240 A_240 _ _ (i + 6) (by omega) I2 (by omega) (by omega) (by omega) (by omega) _ _ hP hD hS ls (lv_sub hl [1, 2, 3, 4, 0] rfl)
      by_cases hs_4 : v = 4
      · refine x_tabIn (k := 4) (off := 208) (tgt := 248) hx hb zd_L_law_40 hs_4 (by decide) (by decide) (by decide) rfl (by decide) ?_
        refine lv_aload_n hx hb zd_L_law_248 rfl (lv_at hl 1 rfl) ?_
        refine lv_aload_n hx hb zd_L_law_249 rfl (lv_at hl 0 rfl) ?_
        refine lv_iload hx hb zd_L_law_250 (lv_at hl 4 rfl) ?_
        refine lv_iconst (v := iI (1)) hx hb zd_L_law_252 rfl ?_
        refine x_iadd hx hb zd_L_law_253 ?_
        refine x_scr hx hb hX hH hL (i := i + 1) (by omega) (by omega) zd_L_law_254 ?_
        refine lv_aload_n hx hb zd_L_law_255 rfl (lv_at hl 3 rfl) ?_
        by_cases g1 : (0 ≤ sc xs (i + 1) ∧ sc xs (i + 1) < F 100) → PLc F A
        · refine z_goh (n := 3) (As := [.ref (q 0), .int (iI (sc xs (i + 1))), .ref (q 57)]) (rest := []) S (c_L_count l hfl D q c _ F A (sc xs (i + 1)) (ib_of _) (hn) (hc) (hact) (hu) (g1)) zw_327 zw_328 zw_0 cw_count ⟨by decide +kernel, by decide, rfl, rfl⟩ hK hP hD hS hA (fun U hU hW => ⟨hTH.move hW (fun x hx9 => by rw [hU]; exact hS.2.1 x hx9 (hA2 x hx9)), hAs.moved hW.alike⟩) rfl hl.1 rfl (Nat.le_of_ble_eq_true rfl) zd_L_law_256 ⟨hc3, hc4⟩ (fun z_256 F_256 A_256 H locs hq_256 hP hD hS => ?_)
          obtain ⟨w1, w2, w3, w4, w5⟩ := hq_256
          have I1 : INV F_256 A_256 := by (rw [w2]; exact x57_inv I w3)
          have hH : H[b]? = s.heap[b]? := hS.2.1 b hbl (hA2 b hbl)
          have hc1 := hc3
          have hc2 := hc4
          refine lv_istore (lv' := [(5, .int (iI (z_256))), (0, .ref b), (1, .ref (q 0)), (2, .ref (q 5)), (3, .ref (q 57)), (4, .int (iI (i)))]) hx hb zd_L_law_259 hl (by decide) rfl (fun ls hl => ?_)
          refine lv_aload_n hx hb zd_L_law_261 rfl (lv_at hl 3 rfl) ?_
          refine lv_aload_n hx hb zd_L_law_262 rfl (lv_at hl 1 rfl) ?_
          refine lv_iload hx hb zd_L_law_263 (lv_at hl 5 rfl) ?_
          refine lv_iconst (v := iI (1)) hx hb zd_L_law_265 rfl ?_
          refine x_iadd hx hb zd_L_law_266 ?_
          refine x_scr hx hb hX hH hL (i := i + 1) (by omega) (by omega) zd_L_law_267 ?_
          refine z_goi (z_runV (n := 1) (k := 5) (ci := 5) (As := [.int (iI (sc xs (i + 1)))]) (rest := []) S (c_X_count l D q c _ F_256 A_256 (sc xs (i + 1)) (by first | assumption | exact ib_of _) (by have h8 := I1.2.1.1; have h9 := I1.1.1; omega) (by have h8 := I1.2.1.2.1; have h9 := I1.1.2.1; omega) (INV_mch I1) (I1.2.2.2.2)) zw_697 zw_698 zw_699 zw_6 zw_700 ⟨by decide +kernel, by decide, rfl, rfl⟩ hK hP hD ga_5 rfl rfl rfl hl.1 rfl (Nat.le_of_ble_eq_true rfl) zd_L_law_268 ⟨hc1, hc2⟩) hD hS hA (fun z_268 F_268 A_268 H locs hq_268 hP hD hS => ?_)
          have hH : H[b]? = s.heap[b]? := hS.2.1 b hbl (hA2 b hbl)
          obtain ⟨y1, y2, y3, I2⟩ := o_cnt0 I g1 w2 w3 w4 w5 hq_268
          refine lv_istore (lv' := [(6, .int (iI (z_268))), (5, .int (iI (z_256))), (0, .ref b), (1, .ref (q 0)), (2, .ref (q 5)), (3, .ref (q 57)), (4, .int (iI (i)))]) hx hb zd_L_law_271 hl (by decide) rfl (fun ls hl => ?_)
          refine lv_aload_n hx hb zd_L_law_273 rfl (lv_at hl 4 rfl) ?_
          refine z_goi (z_runV (n := 0) (k := 5) (ci := 5) (As := []) (rest := []) S (c_X_thrown l D q c _ F_268 A_268 ) zw_638 zw_639 zw_640 zw_6 zw_641 ⟨by decide +kernel, by decide, rfl, rfl⟩ hK hP hD ga_5 rfl rfl rfl hl.1 rfl (Nat.le_of_ble_eq_true rfl) zd_L_law_274 ⟨hc1, hc2⟩) hD hS hA (fun z_274 F_274 A_274 H locs hq_274 hP hD hS => ?_)
          obtain ⟨hf_274, ha_274, hq_274⟩ := hq_274
          rw [hf_274, ha_274] at hP hD
          refine lv_iload hx hb zd_L_law_277 (lv_at hl 1 rfl) ?_
          refine x_icmp_sm (tgt := 284) hx hb zd_L_law_279 (by decide) (by omega) ?_
          refine lv_iload hx hb zd_L_law_284 (lv_at hl 1 rfl) ?_
          refine x_if_ne (tgt := 301) hx hb zd_L_law_286 (by decide) (⟨by omega, by omega⟩) (fun h_286 => ?_) (fun h_286 => ?_)
          · omega
          · refine lv_aload_n hx hb zd_L_law_289 rfl (lv_at hl 5 rfl) ?_
            refine lv_iconst (v := iI (0)) hx hb zd_L_law_290 rfl ?_
            refine x_lald (v := A_268 57 0) hx hb hK.1 hP 57 1 ga_57 rfl (by decide) (by decide) (by decide) rfl zd_L_law_291 ?_
            refine lv_iload hx hb zd_L_law_292 (lv_at hl 0 rfl) ?_
            refine x_i2l hx hb zd_L_law_294 (⟨by omega, by omega⟩) ?_
            refine x_lcmp hx hb zd_L_law_295 (⟨by omega, by omega⟩) (⟨by omega, by omega⟩) ?_
            have hc_295 := cmpI_spec (A_268 57 0) z_268
            refine x_if_eq (tgt := 301) hx hb zd_L_law_296 (by decide) (⟨by omega, by omega⟩) (fun h_296 => ?_) (fun h_296 => ?_)
            · refine lv_goto (tgt := 516) hx hb zd_L_law_301 (by decide) ?_
              refine lv_iinc (v := iI (i + 6)) (lv' := [(4, .int (iI (i + 6))), (6, .int (iI (z_268))), (5, .int (iI (z_256))), (0, .ref b), (1, .ref (q 0)), (2, .ref (q 5)), (3, .ref (q 57))]) hx hb zd_L_law_516 hl (k := 6) rfl (iI_add _ _) (by decide) rfl (fun ls hl => ?_)
              refine lv_goto (tgt := 23) hx hb zd_L_law_519 (by decide) ?_
              exact ih (t + 1) F_268 A_268 _ _ (i + 6) (by omega) I2 (by omega) (by omega) (by omega) (by omega) _ _ hP hD hS ls (lv_sub hl [3, 4, 5, 6, 0] rfl)
            · omega
        have g3 := Classical.not_imp.mp g1
        by_cases g2 : F 102 = -1
        · refine z_goh (n := 3) (As := [.ref (q 0), .int (iI (sc xs (i + 1))), .ref (q 57)]) (rest := []) S (c_L_count_ae l hfl D q c _ F A (sc xs (i + 1)) (ib_of _) (hn) (hc) (hact) (hu) (g3.1) (g2) (Int.lt_of_not_ge (fun h => g3.2 ⟨g2, h⟩))) zw_327 zw_328 zw_0 cw_count ⟨by decide +kernel, by decide, rfl, rfl⟩ hK hP hD hS hA (fun U hU hW => ⟨hTH.move hW (fun x hx9 => by rw [hU]; exact hS.2.1 x hx9 (hA2 x hx9)), hAs.moved hW.alike⟩) rfl hl.1 rfl (Nat.le_of_ble_eq_true rfl) zd_L_law_256 ⟨hc3, hc4⟩ (fun z_256 F_256 A_256 H locs hq_256 hP hD hS => ?_)
          obtain ⟨w1, w2, w3⟩ := hq_256
          have I1 : INV F_256 A_256 := by (rw [w2, w3]; exact I)
          have hH : H[b]? = s.heap[b]? := hS.2.1 b hbl (hA2 b hbl)
          have hc1 := hc3
          have hc2 := hc4
          refine lv_istore (lv' := [(5, .int (iI (z_256))), (0, .ref b), (1, .ref (q 0)), (2, .ref (q 5)), (3, .ref (q 57)), (4, .int (iI (i)))]) hx hb zd_L_law_259 hl (by decide) rfl (fun ls hl => ?_)
          refine lv_aload_n hx hb zd_L_law_261 rfl (lv_at hl 3 rfl) ?_
          refine lv_aload_n hx hb zd_L_law_262 rfl (lv_at hl 1 rfl) ?_
          refine lv_iload hx hb zd_L_law_263 (lv_at hl 5 rfl) ?_
          refine lv_iconst (v := iI (1)) hx hb zd_L_law_265 rfl ?_
          refine x_iadd hx hb zd_L_law_266 ?_
          refine x_scr hx hb hX hH hL (i := i + 1) (by omega) (by omega) zd_L_law_267 ?_
          refine z_goi (z_runV (n := 1) (k := 5) (ci := 5) (As := [.int (iI (sc xs (i + 1)))]) (rest := []) S (c_X_count l D q c _ F_256 A_256 (sc xs (i + 1)) (by first | assumption | exact ib_of _) (by have h8 := I1.2.1.1; have h9 := I1.1.1; omega) (by have h8 := I1.2.1.2.1; have h9 := I1.1.2.1; omega) (INV_mch I1) (I1.2.2.2.2)) zw_697 zw_698 zw_699 zw_6 zw_700 ⟨by decide +kernel, by decide, rfl, rfl⟩ hK hP hD ga_5 rfl rfl rfl hl.1 rfl (Nat.le_of_ble_eq_true rfl) zd_L_law_268 ⟨hc1, hc2⟩) hD hS hA (fun z_268 F_268 A_268 H locs hq_268 hP hD hS => ?_)
          have hH : H[b]? = s.heap[b]? := hS.2.1 b hbl (hA2 b hbl)
          obtain ⟨I2, -, y1⟩ := o_cntx I g3.1 w2 w3 hq_268
          have y1 := y1 g2 (Int.lt_of_not_ge (fun h => g3.2 ⟨g2, h⟩))
          refine lv_istore (lv' := [(6, .int (iI (z_268))), (5, .int (iI (z_256))), (0, .ref b), (1, .ref (q 0)), (2, .ref (q 5)), (3, .ref (q 57)), (4, .int (iI (i)))]) hx hb zd_L_law_271 hl (by decide) rfl (fun ls hl => ?_)
          refine lv_aload_n hx hb zd_L_law_273 rfl (lv_at hl 4 rfl) ?_
          refine z_goi (z_runV (n := 0) (k := 5) (ci := 5) (As := []) (rest := []) S (c_X_thrown l D q c _ F_268 A_268 ) zw_638 zw_639 zw_640 zw_6 zw_641 ⟨by decide +kernel, by decide, rfl, rfl⟩ hK hP hD ga_5 rfl rfl rfl hl.1 rfl (Nat.le_of_ble_eq_true rfl) zd_L_law_274 ⟨hc1, hc2⟩) hD hS hA (fun z_274 F_274 A_274 H locs hq_274 hP hD hS => ?_)
          obtain ⟨hf_274, ha_274, hq_274⟩ := hq_274
          rw [hf_274, ha_274] at hP hD
          refine lv_iload hx hb zd_L_law_277 (lv_at hl 1 rfl) ?_
          refine x_icmp_sm (tgt := 284) hx hb zd_L_law_279 (by decide) (by omega) ?_
          refine lv_iload hx hb zd_L_law_284 (lv_at hl 1 rfl) ?_
          refine x_if_ne (tgt := 301) hx hb zd_L_law_286 (by decide) (⟨by omega, by omega⟩) (fun h_286 => ?_) (fun h_286 => ?_)
          · refine lv_goto (tgt := 516) hx hb zd_L_law_301 (by decide) ?_
            refine lv_iinc (v := iI (i + 6)) (lv' := [(4, .int (iI (i + 6))), (6, .int (iI (z_268))), (5, .int (iI (z_256))), (0, .ref b), (1, .ref (q 0)), (2, .ref (q 5)), (3, .ref (q 57))]) hx hb zd_L_law_516 hl (k := 6) rfl (iI_add _ _) (by decide) rfl (fun ls hl => ?_)
            refine lv_goto (tgt := 23) hx hb zd_L_law_519 (by decide) ?_
            exact ih (t + 1) F_268 A_268 _ _ (i + 6) (by omega) I2 (by omega) (by omega) (by omega) (by omega) _ _ hP hD hS ls (lv_sub hl [3, 4, 5, 6, 0] rfl)
          · omega
        · refine z_goh (n := 3) (As := [.ref (q 0), .int (iI (sc xs (i + 1))), .ref (q 57)]) (rest := []) S (c_L_count_ise l hfl D q c _ F A (sc xs (i + 1)) (ib_of _) (hn) (hc) (hact) (hu) (g3.1) (g2)) zw_327 zw_328 zw_0 cw_count ⟨by decide +kernel, by decide, rfl, rfl⟩ hK hP hD hS hA (fun U hU hW => ⟨hTH.move hW (fun x hx9 => by rw [hU]; exact hS.2.1 x hx9 (hA2 x hx9)), hAs.moved hW.alike⟩) rfl hl.1 rfl (Nat.le_of_ble_eq_true rfl) zd_L_law_256 ⟨hc3, hc4⟩ (fun z_256 F_256 A_256 H locs hq_256 hP hD hS => ?_)
          obtain ⟨w1, w2, w3⟩ := hq_256
          have I1 : INV F_256 A_256 := by (rw [w2, w3]; exact I)
          have hH : H[b]? = s.heap[b]? := hS.2.1 b hbl (hA2 b hbl)
          have hc1 := hc3
          have hc2 := hc4
          refine lv_istore (lv' := [(5, .int (iI (z_256))), (0, .ref b), (1, .ref (q 0)), (2, .ref (q 5)), (3, .ref (q 57)), (4, .int (iI (i)))]) hx hb zd_L_law_259 hl (by decide) rfl (fun ls hl => ?_)
          refine lv_aload_n hx hb zd_L_law_261 rfl (lv_at hl 3 rfl) ?_
          refine lv_aload_n hx hb zd_L_law_262 rfl (lv_at hl 1 rfl) ?_
          refine lv_iload hx hb zd_L_law_263 (lv_at hl 5 rfl) ?_
          refine lv_iconst (v := iI (1)) hx hb zd_L_law_265 rfl ?_
          refine x_iadd hx hb zd_L_law_266 ?_
          refine x_scr hx hb hX hH hL (i := i + 1) (by omega) (by omega) zd_L_law_267 ?_
          refine z_goi (z_runV (n := 1) (k := 5) (ci := 5) (As := [.int (iI (sc xs (i + 1)))]) (rest := []) S (c_X_count l D q c _ F_256 A_256 (sc xs (i + 1)) (by first | assumption | exact ib_of _) (by have h8 := I1.2.1.1; have h9 := I1.1.1; omega) (by have h8 := I1.2.1.2.1; have h9 := I1.1.2.1; omega) (INV_mch I1) (I1.2.2.2.2)) zw_697 zw_698 zw_699 zw_6 zw_700 ⟨by decide +kernel, by decide, rfl, rfl⟩ hK hP hD ga_5 rfl rfl rfl hl.1 rfl (Nat.le_of_ble_eq_true rfl) zd_L_law_268 ⟨hc1, hc2⟩) hD hS hA (fun z_268 F_268 A_268 H locs hq_268 hP hD hS => ?_)
          have hH : H[b]? = s.heap[b]? := hS.2.1 b hbl (hA2 b hbl)
          obtain ⟨I2, y1, -⟩ := o_cntx I g3.1 w2 w3 hq_268
          have y1 := y1 g2
          refine lv_istore (lv' := [(6, .int (iI (z_268))), (5, .int (iI (z_256))), (0, .ref b), (1, .ref (q 0)), (2, .ref (q 5)), (3, .ref (q 57)), (4, .int (iI (i)))]) hx hb zd_L_law_271 hl (by decide) rfl (fun ls hl => ?_)
          refine lv_aload_n hx hb zd_L_law_273 rfl (lv_at hl 4 rfl) ?_
          refine z_goi (z_runV (n := 0) (k := 5) (ci := 5) (As := []) (rest := []) S (c_X_thrown l D q c _ F_268 A_268 ) zw_638 zw_639 zw_640 zw_6 zw_641 ⟨by decide +kernel, by decide, rfl, rfl⟩ hK hP hD ga_5 rfl rfl rfl hl.1 rfl (Nat.le_of_ble_eq_true rfl) zd_L_law_274 ⟨hc1, hc2⟩) hD hS hA (fun z_274 F_274 A_274 H locs hq_274 hP hD hS => ?_)
          obtain ⟨hf_274, ha_274, hq_274⟩ := hq_274
          rw [hf_274, ha_274] at hP hD
          refine lv_iload hx hb zd_L_law_277 (lv_at hl 1 rfl) ?_
          refine x_icmp_sm (tgt := 284) hx hb zd_L_law_279 (by decide) (by omega) ?_
          refine lv_iload hx hb zd_L_law_284 (lv_at hl 1 rfl) ?_
          refine x_if_ne (tgt := 301) hx hb zd_L_law_286 (by decide) (⟨by omega, by omega⟩) (fun h_286 => ?_) (fun h_286 => ?_)
          · refine lv_goto (tgt := 516) hx hb zd_L_law_301 (by decide) ?_
            refine lv_iinc (v := iI (i + 6)) (lv' := [(4, .int (iI (i + 6))), (6, .int (iI (z_268))), (5, .int (iI (z_256))), (0, .ref b), (1, .ref (q 0)), (2, .ref (q 5)), (3, .ref (q 57))]) hx hb zd_L_law_516 hl (k := 6) rfl (iI_add _ _) (by decide) rfl (fun ls hl => ?_)
            refine lv_goto (tgt := 23) hx hb zd_L_law_519 (by decide) ?_
            exact ih (t + 1) F_268 A_268 _ _ (i + 6) (by omega) I2 (by omega) (by omega) (by omega) (by omega) _ _ hP hD hS ls (lv_sub hl [3, 4, 5, 6, 0] rfl)
          · omega
      by_cases hs_5 : v = 5
      · refine x_tabIn (k := 5) (off := 264) (tgt := 304) hx hb zd_L_law_40 hs_5 (by decide) (by decide) (by decide) rfl (by decide) ?_
        refine lv_aload_n hx hb zd_L_law_304 rfl (lv_at hl 1 rfl) ?_
        refine lv_aload_n hx hb zd_L_law_305 rfl (lv_at hl 0 rfl) ?_
        refine lv_iload hx hb zd_L_law_306 (lv_at hl 4 rfl) ?_
        refine lv_iconst (v := iI (1)) hx hb zd_L_law_308 rfl ?_
        refine x_iadd hx hb zd_L_law_309 ?_
        refine x_scr hx hb hX hH hL (i := i + 1) (by omega) (by omega) zd_L_law_310 ?_
        refine lv_aload_n hx hb zd_L_law_311 rfl (lv_at hl 3 rfl) ?_
        rcases ord_dec (a := sc xs (i + 1)) I with g1 | g1
        · refine z_goh (n := 3) (As := [.ref (q 0), .int (iI (sc xs (i + 1))), .ref (q 57)]) (rest := []) S (c_L_order l hfl D q c _ F A (sc xs (i + 1)) (ib_of _) (hn) (hc) (hact) (hch) (hkn) (hu) (g1.1) (g1.2)) zw_420 zw_421 zw_0 cw_order ⟨by decide +kernel, by decide, rfl, rfl⟩ hK hP hD hS hA (fun U hU hW => ⟨hTH.move hW (fun x hx9 => by rw [hU]; exact hS.2.1 x hx9 (hA2 x hx9)), hAs.moved hW.alike⟩) rfl hl.1 rfl (Nat.le_of_ble_eq_true rfl) zd_L_law_312 ⟨hc3, hc4⟩ (fun z_312 F_312 A_312 H locs hq_312 hP hD hS => ?_)
          obtain ⟨w1, w2⟩ := hq_312
          obtain ⟨F9, A9, d1, d2, d3, d4, d5, d6, d7⟩ := id w2
          have I1 : INV F_312 A_312 := by (rw [d5]; exact x57_inv (INV_rd d1 d2 d3 d4 I) d6)
          have hH : H[b]? = s.heap[b]? := hS.2.1 b hbl (hA2 b hbl)
          have hc1 := hc3
          have hc2 := hc4
          refine lv_istore (lv' := [(5, .int (iI (z_312))), (0, .ref b), (1, .ref (q 0)), (2, .ref (q 5)), (3, .ref (q 57)), (4, .int (iI (i)))]) hx hb zd_L_law_315 hl (by decide) rfl (fun ls hl => ?_)
          refine lv_aload_n hx hb zd_L_law_317 rfl (lv_at hl 3 rfl) ?_
          refine lv_aload_n hx hb zd_L_law_318 rfl (lv_at hl 1 rfl) ?_
          refine lv_iload hx hb zd_L_law_319 (lv_at hl 5 rfl) ?_
          refine lv_iconst (v := iI (1)) hx hb zd_L_law_321 rfl ?_
          refine x_iadd hx hb zd_L_law_322 ?_
          refine x_scr hx hb hX hH hL (i := i + 1) (by omega) (by omega) zd_L_law_323 ?_
          refine z_goi (z_runV (n := 1) (k := 5) (ci := 5) (As := [.int (iI (sc xs (i + 1)))]) (rest := []) S (c_X_order l D q c _ F_312 A_312 (sc xs (i + 1)) (by first | assumption | exact ib_of _) (by have h8 := I1.2.1.1; have h9 := I1.1.1; omega) (by have h8 := I1.2.1.2.1; have h9 := I1.1.2.1; omega) (INV_mch I1) (I1.2.2.2.2)) zw_705 zw_706 zw_707 zw_6 zw_708 ⟨by decide +kernel, by decide, rfl, rfl⟩ hK hP hD ga_5 rfl rfl rfl hl.1 rfl (Nat.le_of_ble_eq_true rfl) zd_L_law_324 ⟨hc1, hc2⟩) hD hS hA (fun z_324 F_324 A_324 H locs hq_324 hP hD hS => ?_)
          have hH : H[b]? = s.heap[b]? := hS.2.1 b hbl (hA2 b hbl)
          obtain ⟨y1, y2, y3, I2⟩ := o_ord0 I g1.1 g1.2 w2 hq_324
          refine lv_istore (lv' := [(6, .int (iI (z_324))), (5, .int (iI (z_312))), (0, .ref b), (1, .ref (q 0)), (2, .ref (q 5)), (3, .ref (q 57)), (4, .int (iI (i)))]) hx hb zd_L_law_327 hl (by decide) rfl (fun ls hl => ?_)
          refine lv_aload_n hx hb zd_L_law_329 rfl (lv_at hl 4 rfl) ?_
          refine z_goi (z_runV (n := 0) (k := 5) (ci := 5) (As := []) (rest := []) S (c_X_thrown l D q c _ F_324 A_324 ) zw_638 zw_639 zw_640 zw_6 zw_641 ⟨by decide +kernel, by decide, rfl, rfl⟩ hK hP hD ga_5 rfl rfl rfl hl.1 rfl (Nat.le_of_ble_eq_true rfl) zd_L_law_330 ⟨hc1, hc2⟩) hD hS hA (fun z_330 F_330 A_330 H locs hq_330 hP hD hS => ?_)
          obtain ⟨hf_330, ha_330, hq_330⟩ := hq_330
          rw [hf_330, ha_330] at hP hD
          refine lv_iload hx hb zd_L_law_333 (lv_at hl 1 rfl) ?_
          refine x_icmp_sm (tgt := 340) hx hb zd_L_law_335 (by decide) (by omega) ?_
          refine lv_iload hx hb zd_L_law_340 (lv_at hl 1 rfl) ?_
          refine x_if_ne (tgt := 357) hx hb zd_L_law_342 (by decide) (⟨by omega, by omega⟩) (fun h_342 => ?_) (fun h_342 => ?_)
          · omega
          · refine lv_aload_n hx hb zd_L_law_345 rfl (lv_at hl 5 rfl) ?_
            refine lv_iconst (v := iI (0)) hx hb zd_L_law_346 rfl ?_
            refine x_lald (v := A_324 57 0) hx hb hK.1 hP 57 1 ga_57 rfl (by decide) (by decide) (by decide) rfl zd_L_law_347 ?_
            refine lv_iload hx hb zd_L_law_348 (lv_at hl 0 rfl) ?_
            refine x_i2l hx hb zd_L_law_350 (⟨by omega, by omega⟩) ?_
            refine x_lcmp hx hb zd_L_law_351 (⟨by omega, by omega⟩) (⟨by omega, by omega⟩) ?_
            have hc_351 := cmpI_spec (A_324 57 0) z_324
            refine x_if_eq (tgt := 357) hx hb zd_L_law_352 (by decide) (⟨by omega, by omega⟩) (fun h_352 => ?_) (fun h_352 => ?_)
            · refine lv_goto (tgt := 516) hx hb zd_L_law_357 (by decide) ?_
              refine lv_iinc (v := iI (i + 6)) (lv' := [(4, .int (iI (i + 6))), (6, .int (iI (z_324))), (5, .int (iI (z_312))), (0, .ref b), (1, .ref (q 0)), (2, .ref (q 5)), (3, .ref (q 57))]) hx hb zd_L_law_516 hl (k := 6) rfl (iI_add _ _) (by decide) rfl (fun ls hl => ?_)
              refine lv_goto (tgt := 23) hx hb zd_L_law_519 (by decide) ?_
              exact ih (t + 1) F_324 A_324 _ _ (i + 6) (by omega) I2 (by omega) (by omega) (by omega) (by omega) _ _ hP hD hS ls (lv_sub hl [3, 4, 5, 6, 0] rfl)
            · omega
        · refine z_goh (n := 3) (As := [.ref (q 0), .int (iI (sc xs (i + 1))), .ref (q 57)]) (rest := []) S (c_L_order_nse l hfl D q c _ F A (sc xs (i + 1)) (ib_of _) (hn) (hc) (hact) (hch) (hkn) (hu) (g1)) zw_420 zw_421 zw_0 cw_order ⟨by decide +kernel, by decide, rfl, rfl⟩ hK hP hD hS hA (fun U hU hW => ⟨hTH.move hW (fun x hx9 => by rw [hU]; exact hS.2.1 x hx9 (hA2 x hx9)), hAs.moved hW.alike⟩) rfl hl.1 rfl (Nat.le_of_ble_eq_true rfl) zd_L_law_312 ⟨hc3, hc4⟩ (fun z_312 F_312 A_312 H locs hq_312 hP hD hS => ?_)
          obtain ⟨w1, w2⟩ := hq_312
          have I1 := oz_inv I w2
          have hH : H[b]? = s.heap[b]? := hS.2.1 b hbl (hA2 b hbl)
          have hc1 := hc3
          have hc2 := hc4
          refine lv_istore (lv' := [(5, .int (iI (z_312))), (0, .ref b), (1, .ref (q 0)), (2, .ref (q 5)), (3, .ref (q 57)), (4, .int (iI (i)))]) hx hb zd_L_law_315 hl (by decide) rfl (fun ls hl => ?_)
          refine lv_aload_n hx hb zd_L_law_317 rfl (lv_at hl 3 rfl) ?_
          refine lv_aload_n hx hb zd_L_law_318 rfl (lv_at hl 1 rfl) ?_
          refine lv_iload hx hb zd_L_law_319 (lv_at hl 5 rfl) ?_
          refine lv_iconst (v := iI (1)) hx hb zd_L_law_321 rfl ?_
          refine x_iadd hx hb zd_L_law_322 ?_
          refine x_scr hx hb hX hH hL (i := i + 1) (by omega) (by omega) zd_L_law_323 ?_
          refine z_goi (z_runV (n := 1) (k := 5) (ci := 5) (As := [.int (iI (sc xs (i + 1)))]) (rest := []) S (c_X_order l D q c _ F_312 A_312 (sc xs (i + 1)) (by first | assumption | exact ib_of _) (by have h8 := I1.2.1.1; have h9 := I1.1.1; omega) (by have h8 := I1.2.1.2.1; have h9 := I1.1.2.1; omega) (INV_mch I1) (I1.2.2.2.2)) zw_705 zw_706 zw_707 zw_6 zw_708 ⟨by decide +kernel, by decide, rfl, rfl⟩ hK hP hD ga_5 rfl rfl rfl hl.1 rfl (Nat.le_of_ble_eq_true rfl) zd_L_law_324 ⟨hc1, hc2⟩) hD hS hA (fun z_324 F_324 A_324 H locs hq_324 hP hD hS => ?_)
          have hH : H[b]? = s.heap[b]? := hS.2.1 b hbl (hA2 b hbl)
          obtain ⟨y1, I2⟩ := o_ordx I g1 w2 hq_324
          refine lv_istore (lv' := [(6, .int (iI (z_324))), (5, .int (iI (z_312))), (0, .ref b), (1, .ref (q 0)), (2, .ref (q 5)), (3, .ref (q 57)), (4, .int (iI (i)))]) hx hb zd_L_law_327 hl (by decide) rfl (fun ls hl => ?_)
          refine lv_aload_n hx hb zd_L_law_329 rfl (lv_at hl 4 rfl) ?_
          refine z_goi (z_runV (n := 0) (k := 5) (ci := 5) (As := []) (rest := []) S (c_X_thrown l D q c _ F_324 A_324 ) zw_638 zw_639 zw_640 zw_6 zw_641 ⟨by decide +kernel, by decide, rfl, rfl⟩ hK hP hD ga_5 rfl rfl rfl hl.1 rfl (Nat.le_of_ble_eq_true rfl) zd_L_law_330 ⟨hc1, hc2⟩) hD hS hA (fun z_330 F_330 A_330 H locs hq_330 hP hD hS => ?_)
          obtain ⟨hf_330, ha_330, hq_330⟩ := hq_330
          rw [hf_330, ha_330] at hP hD
          refine lv_iload hx hb zd_L_law_333 (lv_at hl 1 rfl) ?_
          refine x_icmp_sm (tgt := 340) hx hb zd_L_law_335 (by decide) (by omega) ?_
          refine lv_iload hx hb zd_L_law_340 (lv_at hl 1 rfl) ?_
          refine x_if_ne (tgt := 357) hx hb zd_L_law_342 (by decide) (⟨by omega, by omega⟩) (fun h_342 => ?_) (fun h_342 => ?_)
          · refine lv_goto (tgt := 516) hx hb zd_L_law_357 (by decide) ?_
            refine lv_iinc (v := iI (i + 6)) (lv' := [(4, .int (iI (i + 6))), (6, .int (iI (z_324))), (5, .int (iI (z_312))), (0, .ref b), (1, .ref (q 0)), (2, .ref (q 5)), (3, .ref (q 57))]) hx hb zd_L_law_516 hl (k := 6) rfl (iI_add _ _) (by decide) rfl (fun ls hl => ?_)
            refine lv_goto (tgt := 23) hx hb zd_L_law_519 (by decide) ?_
            exact ih (t + 1) F_324 A_324 _ _ (i + 6) (by omega) I2 (by omega) (by omega) (by omega) (by omega) _ _ hP hD hS ls (lv_sub hl [3, 4, 5, 6, 0] rfl)
          · omega
      by_cases hs_6 : v = 6
      · refine x_tabIn (k := 6) (off := 320) (tgt := 360) hx hb zd_L_law_40 hs_6 (by decide) (by decide) (by decide) rfl (by decide) ?_
        refine lv_aload_n hx hb zd_L_law_360 rfl (lv_at hl 1 rfl) ?_
        refine lv_aload_n hx hb zd_L_law_361 rfl (lv_at hl 0 rfl) ?_
        refine lv_iload hx hb zd_L_law_362 (lv_at hl 4 rfl) ?_
        refine lv_iconst (v := iI (1)) hx hb zd_L_law_364 rfl ?_
        refine x_iadd hx hb zd_L_law_365 ?_
        refine x_scr hx hb hX hH hL (i := i + 1) (by omega) (by omega) zd_L_law_366 ?_
        refine z_goi (z_runV (n := 1) (k := 0) (ci := 0) (As := [.int (iI (sc xs (i + 1)))]) (rest := []) S (c_C_left l D q c _ F A (sc xs (i + 1)) (by first | assumption | exact ib_of _) (by first | assumption | exact ib_of _) (by first | assumption | exact ib_of _) (by first | assumption | exact ib_of _) (by first | assumption | exact ib_of _) (by first | assumption | exact ib_of _) (by first | assumption | exact ib_of _)) zw_254 zw_255 zw_256 zw_1 zw_257 ⟨by decide +kernel, by decide, rfl, rfl⟩ hK hP hD ga_0 rfl rfl rfl hl.1 rfl (Nat.le_of_ble_eq_true rfl) zd_L_law_367 ⟨hc1, hc2⟩) hD hS hA (fun z_367 F_367 A_367 H locs hq_367 hP hD hS => ?_)
        have hH : H[b]? = s.heap[b]? := hS.2.1 b hbl (hA2 b hbl)
        have I1 := cq_inv I hq_367
        refine lv_aload_n hx hb zd_L_law_370 rfl (lv_at hl 2 rfl) ?_
        refine lv_aload_n hx hb zd_L_law_371 rfl (lv_at hl 0 rfl) ?_
        refine lv_iload hx hb zd_L_law_372 (lv_at hl 4 rfl) ?_
        refine lv_iconst (v := iI (1)) hx hb zd_L_law_374 rfl ?_
        refine x_iadd hx hb zd_L_law_375 ?_
        refine x_scr hx hb hX hH hL (i := i + 1) (by omega) (by omega) zd_L_law_376 ?_
        refine z_goi (z_runV (n := 1) (k := 5) (ci := 5) (As := [.int (iI (sc xs (i + 1)))]) (rest := [.int (iI (z_367))]) S (c_X_left l D q c _ F_367 A_367 (sc xs (i + 1)) (by first | assumption | exact ib_of _) (by have h8 := I1.2.1.1; have h9 := I1.1.1; omega) (by have h8 := I1.2.1.2.1; have h9 := I1.1.2.1; omega) (INV_mch I1) (I1.2.2.2.2)) zw_713 zw_714 zw_715 zw_6 zw_716 ⟨by decide +kernel, by decide, rfl, rfl⟩ hK hP hD ga_5 rfl rfl rfl hl.1 rfl (Nat.le_of_ble_eq_true rfl) zd_L_law_377 ⟨hc1, hc2⟩) hD hS hA (fun z_377 F_377 A_377 H locs hq_377 hP hD hS => ?_)
        obtain ⟨hz, I2⟩ := o_left I hq_367 hq_377
        refine x_icmp_sm (tgt := 516) hx hb zd_L_law_380 (by decide) (hz) ?_
        refine lv_iinc (v := iI (i + 6)) (lv' := [(4, .int (iI (i + 6))), (0, .ref b), (1, .ref (q 0)), (2, .ref (q 5)), (3, .ref (q 57))]) hx hb zd_L_law_516 hl (k := 4) rfl (iI_add _ _) (by decide) rfl (fun ls hl => ?_)
        refine lv_goto (tgt := 23) hx hb zd_L_law_519 (by decide) ?_
        exact ih (t + 1) F_377 A_377 _ _ (i + 6) (by omega) I2 (by omega) (by omega) (by omega) (by omega) _ _ hP hD hS ls (lv_sub hl [1, 2, 3, 4, 0] rfl)
      by_cases hs_7 : v = 7
      · refine x_tabIn (k := 7) (off := 345) (tgt := 385) hx hb zd_L_law_40 hs_7 (by decide) (by decide) (by decide) rfl (by decide) ?_
        refine lv_aload_n hx hb zd_L_law_385 rfl (lv_at hl 1 rfl) ?_
        refine lv_aload_n hx hb zd_L_law_386 rfl (lv_at hl 0 rfl) ?_
        refine lv_iload hx hb zd_L_law_387 (lv_at hl 4 rfl) ?_
        refine lv_iconst (v := iI (1)) hx hb zd_L_law_389 rfl ?_
        refine x_iadd hx hb zd_L_law_390 ?_
        refine x_scr hx hb hX hH hL (i := i + 1) (by omega) (by omega) zd_L_law_391 ?_
        refine z_goi (z_runV (n := 1) (k := 0) (ci := 0) (As := [.int (iI (sc xs (i + 1)))]) (rest := []) S (c_C_peak l D q c _ F A (sc xs (i + 1)) (by first | assumption | exact ib_of _) (by first | assumption | exact ib_of _) (by first | assumption | exact ib_of _) (by first | assumption | exact ib_of _) (by first | assumption | exact ib_of _) (by first | assumption | exact ib_of _) (by first | assumption | exact ib_of _)) zw_291 zw_292 zw_293 zw_1 zw_294 ⟨by decide +kernel, by decide, rfl, rfl⟩ hK hP hD ga_0 rfl rfl rfl hl.1 rfl (Nat.le_of_ble_eq_true rfl) zd_L_law_392 ⟨hc1, hc2⟩) hD hS hA (fun z_392 F_392 A_392 H locs hq_392 hP hD hS => ?_)
        have hH : H[b]? = s.heap[b]? := hS.2.1 b hbl (hA2 b hbl)
        have I1 := cq_inv I hq_392
        refine lv_aload_n hx hb zd_L_law_395 rfl (lv_at hl 2 rfl) ?_
        refine lv_aload_n hx hb zd_L_law_396 rfl (lv_at hl 0 rfl) ?_
        refine lv_iload hx hb zd_L_law_397 (lv_at hl 4 rfl) ?_
        refine lv_iconst (v := iI (1)) hx hb zd_L_law_399 rfl ?_
        refine x_iadd hx hb zd_L_law_400 ?_
        refine x_scr hx hb hX hH hL (i := i + 1) (by omega) (by omega) zd_L_law_401 ?_
        refine z_goi (z_runV (n := 1) (k := 5) (ci := 5) (As := [.int (iI (sc xs (i + 1)))]) (rest := [.int (iI (z_392))]) S (c_X_peak l D q c _ F_392 A_392 (sc xs (i + 1)) (by first | assumption | exact ib_of _) (by have h8 := I1.2.1.1; have h9 := I1.1.1; omega) (by have h8 := I1.2.1.2.1; have h9 := I1.1.2.1; omega) (INV_mch I1) (I1.2.2.2.2)) zw_717 zw_718 zw_719 zw_6 zw_720 ⟨by decide +kernel, by decide, rfl, rfl⟩ hK hP hD ga_5 rfl rfl rfl hl.1 rfl (Nat.le_of_ble_eq_true rfl) zd_L_law_402 ⟨hc1, hc2⟩) hD hS hA (fun z_402 F_402 A_402 H locs hq_402 hP hD hS => ?_)
        obtain ⟨hz, I2⟩ := o_peak I hq_392 hq_402
        refine x_icmp_sm (tgt := 516) hx hb zd_L_law_405 (by decide) (hz) ?_
        refine lv_iinc (v := iI (i + 6)) (lv' := [(4, .int (iI (i + 6))), (0, .ref b), (1, .ref (q 0)), (2, .ref (q 5)), (3, .ref (q 57))]) hx hb zd_L_law_516 hl (k := 4) rfl (iI_add _ _) (by decide) rfl (fun ls hl => ?_)
        refine lv_goto (tgt := 23) hx hb zd_L_law_519 (by decide) ?_
        exact ih (t + 1) F_402 A_402 _ _ (i + 6) (by omega) I2 (by omega) (by omega) (by omega) (by omega) _ _ hP hD hS ls (lv_sub hl [1, 2, 3, 4, 0] rfl)
      by_cases hs_8 : v = 8
      · refine x_tabIn (k := 8) (off := 370) (tgt := 410) hx hb zd_L_law_40 hs_8 (by decide) (by decide) (by decide) rfl (by decide) ?_
        refine lv_aload_n hx hb zd_L_law_410 rfl (lv_at hl 1 rfl) ?_
        refine lv_aload_n hx hb zd_L_law_411 rfl (lv_at hl 0 rfl) ?_
        refine lv_iload hx hb zd_L_law_412 (lv_at hl 4 rfl) ?_
        refine lv_iconst (v := iI (1)) hx hb zd_L_law_414 rfl ?_
        refine x_iadd hx hb zd_L_law_415 ?_
        refine x_scr hx hb hX hH hL (i := i + 1) (by omega) (by omega) zd_L_law_416 ?_
        refine lv_aload_n hx hb zd_L_law_417 rfl (lv_at hl 0 rfl) ?_
        refine lv_iload hx hb zd_L_law_418 (lv_at hl 4 rfl) ?_
        refine lv_iconst (v := iI (2)) hx hb zd_L_law_420 rfl ?_
        refine x_iadd hx hb zd_L_law_421 ?_
        refine x_scr hx hb hX hH hL (i := i + 2) (by omega) (by omega) zd_L_law_422 ?_
        refine lv_aload_n hx hb zd_L_law_423 rfl (lv_at hl 3 rfl) ?_
        by_cases g0 : ¬ ((0 ≤ sc xs (i + 1) ∧ sc xs (i + 1) < F 100) ∧ 0 ≤ sc xs (i + 2) ∧ sc xs (i + 2) ≤ 1)
        · refine z_goh (n := 4) (As := [.ref (q 0), .int (iI (sc xs (i + 1))), .int (iI (sc xs (i + 2))), .ref (q 57)]) (rest := []) S (c_L_pace_nse l hfl D q c _ F A (sc xs (i + 1)) (sc xs (i + 2)) (ib_of _) (ib_of _) (hn) (hc) (hact) (hch) (hkn) (hu) (hsame) (g0)) zw_444 zw_445 zw_0 cw_pace ⟨by decide +kernel, by decide, rfl, rfl⟩ hK hP hD hS hA (fun U hU hW => ⟨hTH.move hW (fun x hx9 => by rw [hU]; exact hS.2.1 x hx9 (hA2 x hx9)), hAs.moved hW.alike⟩) rfl hl.1 rfl (Nat.le_of_ble_eq_true rfl) zd_L_law_424 ⟨hc3, hc4⟩ (fun z_424 F_424 A_424 H locs hq_424 hP hD hS => ?_)
          obtain ⟨w1, w2, w3⟩ := hq_424
          have I1 : INV F_424 A_424 := by (rw [w2, w3]; exact I)
          have hH : H[b]? = s.heap[b]? := hS.2.1 b hbl (hA2 b hbl)
          have hc1 := hc3
          have hc2 := hc4
          refine lv_istore (lv' := [(5, .int (iI (z_424))), (0, .ref b), (1, .ref (q 0)), (2, .ref (q 5)), (3, .ref (q 57)), (4, .int (iI (i)))]) hx hb zd_L_law_427 hl (by decide) rfl (fun ls hl => ?_)
          refine lv_aload_n hx hb zd_L_law_429 rfl (lv_at hl 3 rfl) ?_
          refine lv_aload_n hx hb zd_L_law_430 rfl (lv_at hl 1 rfl) ?_
          refine lv_iload hx hb zd_L_law_431 (lv_at hl 5 rfl) ?_
          refine lv_iconst (v := iI (1)) hx hb zd_L_law_433 rfl ?_
          refine x_iadd hx hb zd_L_law_434 ?_
          refine x_scr hx hb hX hH hL (i := i + 1) (by omega) (by omega) zd_L_law_435 ?_
          refine lv_aload_n hx hb zd_L_law_436 rfl (lv_at hl 1 rfl) ?_
          refine lv_iload hx hb zd_L_law_437 (lv_at hl 5 rfl) ?_
          refine lv_iconst (v := iI (2)) hx hb zd_L_law_439 rfl ?_
          refine x_iadd hx hb zd_L_law_440 ?_
          refine x_scr hx hb hX hH hL (i := i + 2) (by omega) (by omega) zd_L_law_441 ?_
          refine z_goi (z_runV (n := 2) (k := 5) (ci := 5) (As := [.int (iI (sc xs (i + 1))), .int (iI (sc xs (i + 2)))]) (rest := []) S (c_X_pace_n l D q c _ F_424 A_424 (sc xs (i + 1)) (sc xs (i + 2)) (by first | assumption | exact ib_of _) (by first | assumption | exact ib_of _) (by have h8 := I1.2.1.1; have h9 := I1.1.1; omega) (by have h8 := I1.2.1.2.1; have h9 := I1.1.2.1; omega) (fun h9 => g0 (by rw [w2, I.2.1.1] at h9; exact h9))) zw_721 zw_722 zw_723 zw_6 zw_724 ⟨by decide +kernel, by decide, rfl, rfl⟩ hK hP hD ga_5 rfl rfl rfl hl.1 rfl (Nat.le_of_ble_eq_true rfl) zd_L_law_442 ⟨hc1, hc2⟩) hD hS hA (fun z_442 F_442 A_442 H locs hq_442 hP hD hS => ?_)
          have hH : H[b]? = s.heap[b]? := hS.2.1 b hbl (hA2 b hbl)
          obtain ⟨y0, y9⟩ := hq_442
          have y1 : F_442 500 = 1 := by (rw [y0]; simp [fuP])
          have I2 : INV F_442 A_442 := by (rw [y0, y9]; exact f5_inv I1)
          refine lv_istore (lv' := [(6, .int (iI (z_442))), (5, .int (iI (z_424))), (0, .ref b), (1, .ref (q 0)), (2, .ref (q 5)), (3, .ref (q 57)), (4, .int (iI (i)))]) hx hb zd_L_law_445 hl (by decide) rfl (fun ls hl => ?_)
          refine lv_aload_n hx hb zd_L_law_447 rfl (lv_at hl 4 rfl) ?_
          refine z_goi (z_runV (n := 0) (k := 5) (ci := 5) (As := []) (rest := []) S (c_X_thrown l D q c _ F_442 A_442 ) zw_638 zw_639 zw_640 zw_6 zw_641 ⟨by decide +kernel, by decide, rfl, rfl⟩ hK hP hD ga_5 rfl rfl rfl hl.1 rfl (Nat.le_of_ble_eq_true rfl) zd_L_law_448 ⟨hc1, hc2⟩) hD hS hA (fun z_448 F_448 A_448 H locs hq_448 hP hD hS => ?_)
          obtain ⟨hf_448, ha_448, hq_448⟩ := hq_448
          rw [hf_448, ha_448] at hP hD
          refine lv_iload hx hb zd_L_law_451 (lv_at hl 1 rfl) ?_
          refine x_icmp_sm (tgt := 458) hx hb zd_L_law_453 (by decide) (by omega) ?_
          refine lv_iload hx hb zd_L_law_458 (lv_at hl 1 rfl) ?_
          refine x_if_ne (tgt := 475) hx hb zd_L_law_460 (by decide) (⟨by omega, by omega⟩) (fun h_460 => ?_) (fun h_460 => ?_)
          · refine lv_goto (tgt := 516) hx hb zd_L_law_475 (by decide) ?_
            refine lv_iinc (v := iI (i + 6)) (lv' := [(4, .int (iI (i + 6))), (6, .int (iI (z_442))), (5, .int (iI (z_424))), (0, .ref b), (1, .ref (q 0)), (2, .ref (q 5)), (3, .ref (q 57))]) hx hb zd_L_law_516 hl (k := 6) rfl (iI_add _ _) (by decide) rfl (fun ls hl => ?_)
            refine lv_goto (tgt := 23) hx hb zd_L_law_519 (by decide) ?_
            exact ih (t + 1) F_442 A_442 _ _ (i + 6) (by omega) I2 (by omega) (by omega) (by omega) (by omega) _ _ hP hD hS ls (lv_sub hl [3, 4, 5, 6, 0] rfl)
          · omega
        have g9 := Classical.not_not.mp g0
        by_cases g1 : ¬ (PLc F A ∧ ALv F A ∧ CLc F A (sc xs (i + 1)))
        · refine z_goh (n := 4) (As := [.ref (q 0), .int (iI (sc xs (i + 1))), .int (iI (sc xs (i + 2))), .ref (q 57)]) (rest := []) S (c_L_pace_ise l hfl D q c _ F A (sc xs (i + 1)) (sc xs (i + 2)) (ib_of _) (ib_of _) (hn) (hc) (hact) (hch) (hkn) (hu) (hsame) (g9.1) (g9.2) (fun h1 h2 h3 => g1 ⟨h1, h2, h3⟩) (fun h => alv_dec I h)) zw_444 zw_445 zw_0 cw_pace ⟨by decide +kernel, by decide, rfl, rfl⟩ hK hP hD hS hA (fun U hU hW => ⟨hTH.move hW (fun x hx9 => by rw [hU]; exact hS.2.1 x hx9 (hA2 x hx9)), hAs.moved hW.alike⟩) rfl hl.1 rfl (Nat.le_of_ble_eq_true rfl) zd_L_law_424 ⟨hc3, hc4⟩ (fun z_424 F_424 A_424 H locs hq_424 hP hD hS => ?_)
          obtain ⟨w1, w2⟩ := hq_424
          obtain ⟨I1, u1, u2, u3⟩ := pac_ise I g9.1 g1 w2
          have hH : H[b]? = s.heap[b]? := hS.2.1 b hbl (hA2 b hbl)
          have hc1 := hc3
          have hc2 := hc4
          refine lv_istore (lv' := [(5, .int (iI (z_424))), (0, .ref b), (1, .ref (q 0)), (2, .ref (q 5)), (3, .ref (q 57)), (4, .int (iI (i)))]) hx hb zd_L_law_427 hl (by decide) rfl (fun ls hl => ?_)
          refine lv_aload_n hx hb zd_L_law_429 rfl (lv_at hl 3 rfl) ?_
          refine lv_aload_n hx hb zd_L_law_430 rfl (lv_at hl 1 rfl) ?_
          refine lv_iload hx hb zd_L_law_431 (lv_at hl 5 rfl) ?_
          refine lv_iconst (v := iI (1)) hx hb zd_L_law_433 rfl ?_
          refine x_iadd hx hb zd_L_law_434 ?_
          refine x_scr hx hb hX hH hL (i := i + 1) (by omega) (by omega) zd_L_law_435 ?_
          refine lv_aload_n hx hb zd_L_law_436 rfl (lv_at hl 1 rfl) ?_
          refine lv_iload hx hb zd_L_law_437 (lv_at hl 5 rfl) ?_
          refine lv_iconst (v := iI (2)) hx hb zd_L_law_439 rfl ?_
          refine x_iadd hx hb zd_L_law_440 ?_
          refine x_scr hx hb hX hH hL (i := i + 2) (by omega) (by omega) zd_L_law_441 ?_
          refine z_goi (z_runV (n := 2) (k := 5) (ci := 5) (As := [.int (iI (sc xs (i + 1))), .int (iI (sc xs (i + 2)))]) (rest := []) S (c_X_pace l D q c _ F_424 A_424 (sc xs (i + 1)) (sc xs (i + 2)) (1) (1) (by first | assumption | exact ib_of _) (by first | assumption | exact ib_of _) (by have h8 := I1.2.1.1; have h9 := I1.1.1; omega) (by have h8 := I1.2.1.2.1; have h9 := I1.1.2.1; omega) (INV_mch I1) (I1.2.2.2.2) (p_no I1 u1 u2 (fun h => u3 ⟨h.1, h.2.1, h.2.2.1⟩))) zw_721 zw_722 zw_723 zw_6 zw_724 ⟨by decide +kernel, by decide, rfl, rfl⟩ hK hP hD ga_5 rfl rfl rfl hl.1 rfl (Nat.le_of_ble_eq_true rfl) zd_L_law_442 ⟨hc1, hc2⟩) hD hS hA (fun z_442 F_442 A_442 H locs hq_442 hP hD hS => ?_)
          have hH : H[b]? = s.heap[b]? := hS.2.1 b hbl (hA2 b hbl)
          obtain ⟨x1, x2, x3⟩ := hq_442
          obtain ⟨x4, x5, x6⟩ := x2 (by have h8 := I1.2.1.1; omega)
          obtain ⟨I2, e1_, e2_, e3_⟩ := p_end I1 u1 x1.1 x1.2 x4 x5 x6 u2
          have y1 := e1_ u3
          refine lv_istore (lv' := [(6, .int (iI (z_442))), (5, .int (iI (z_424))), (0, .ref b), (1, .ref (q 0)), (2, .ref (q 5)), (3, .ref (q 57)), (4, .int (iI (i)))]) hx hb zd_L_law_445 hl (by decide) rfl (fun ls hl => ?_)
          refine lv_aload_n hx hb zd_L_law_447 rfl (lv_at hl 4 rfl) ?_
          refine z_goi (z_runV (n := 0) (k := 5) (ci := 5) (As := []) (rest := []) S (c_X_thrown l D q c _ F_442 A_442 ) zw_638 zw_639 zw_640 zw_6 zw_641 ⟨by decide +kernel, by decide, rfl, rfl⟩ hK hP hD ga_5 rfl rfl rfl hl.1 rfl (Nat.le_of_ble_eq_true rfl) zd_L_law_448 ⟨hc1, hc2⟩) hD hS hA (fun z_448 F_448 A_448 H locs hq_448 hP hD hS => ?_)
          obtain ⟨hf_448, ha_448, hq_448⟩ := hq_448
          rw [hf_448, ha_448] at hP hD
          refine lv_iload hx hb zd_L_law_451 (lv_at hl 1 rfl) ?_
          refine x_icmp_sm (tgt := 458) hx hb zd_L_law_453 (by decide) (by omega) ?_
          refine lv_iload hx hb zd_L_law_458 (lv_at hl 1 rfl) ?_
          refine x_if_ne (tgt := 475) hx hb zd_L_law_460 (by decide) (⟨by omega, by omega⟩) (fun h_460 => ?_) (fun h_460 => ?_)
          · refine lv_goto (tgt := 516) hx hb zd_L_law_475 (by decide) ?_
            refine lv_iinc (v := iI (i + 6)) (lv' := [(4, .int (iI (i + 6))), (6, .int (iI (z_442))), (5, .int (iI (z_424))), (0, .ref b), (1, .ref (q 0)), (2, .ref (q 5)), (3, .ref (q 57))]) hx hb zd_L_law_516 hl (k := 6) rfl (iI_add _ _) (by decide) rfl (fun ls hl => ?_)
            refine lv_goto (tgt := 23) hx hb zd_L_law_519 (by decide) ?_
            exact ih (t + 1) F_442 A_442 _ _ (i + 6) (by omega) I2 (by omega) (by omega) (by omega) (by omega) _ _ hP hD hS ls (lv_sub hl [3, 4, 5, 6, 0] rfl)
          · omega
        have g3 := Classical.not_not.mp g1
        by_cases g2 : 40 < SMc F A (sc xs (i + 1))
        · refine z_goh (n := 4) (As := [.ref (q 0), .int (iI (sc xs (i + 1))), .int (iI (sc xs (i + 2))), .ref (q 57)]) (rest := []) S (c_L_pace_ae l hfl D q c _ F A (sc xs (i + 1)) (sc xs (i + 2)) (ib_of _) (ib_of _) (hn) (hc) (hact) (hch) (hkn) (hu) (hsame) (g9.1) (g9.2) (g3.1) (g3.2.1) (g3.2.2) (g2)) zw_444 zw_445 zw_0 cw_pace ⟨by decide +kernel, by decide, rfl, rfl⟩ hK hP hD hS hA (fun U hU hW => ⟨hTH.move hW (fun x hx9 => by rw [hU]; exact hS.2.1 x hx9 (hA2 x hx9)), hAs.moved hW.alike⟩) rfl hl.1 rfl (Nat.le_of_ble_eq_true rfl) zd_L_law_424 ⟨hc3, hc4⟩ (fun z_424 F_424 A_424 H locs hq_424 hP hD hS => ?_)
          obtain ⟨w1, w2⟩ := hq_424
          obtain ⟨I1, u1, u2, u3, u4⟩ := pac_ae I g9.1 g3 w2
          have hH : H[b]? = s.heap[b]? := hS.2.1 b hbl (hA2 b hbl)
          have hc1 := hc3
          have hc2 := hc4
          refine lv_istore (lv' := [(5, .int (iI (z_424))), (0, .ref b), (1, .ref (q 0)), (2, .ref (q 5)), (3, .ref (q 57)), (4, .int (iI (i)))]) hx hb zd_L_law_427 hl (by decide) rfl (fun ls hl => ?_)
          refine lv_aload_n hx hb zd_L_law_429 rfl (lv_at hl 3 rfl) ?_
          refine lv_aload_n hx hb zd_L_law_430 rfl (lv_at hl 1 rfl) ?_
          refine lv_iload hx hb zd_L_law_431 (lv_at hl 5 rfl) ?_
          refine lv_iconst (v := iI (1)) hx hb zd_L_law_433 rfl ?_
          refine x_iadd hx hb zd_L_law_434 ?_
          refine x_scr hx hb hX hH hL (i := i + 1) (by omega) (by omega) zd_L_law_435 ?_
          refine lv_aload_n hx hb zd_L_law_436 rfl (lv_at hl 1 rfl) ?_
          refine lv_iload hx hb zd_L_law_437 (lv_at hl 5 rfl) ?_
          refine lv_iconst (v := iI (2)) hx hb zd_L_law_439 rfl ?_
          refine x_iadd hx hb zd_L_law_440 ?_
          refine x_scr hx hb hX hH hL (i := i + 2) (by omega) (by omega) zd_L_law_441 ?_
          refine z_goi (z_runV (n := 2) (k := 5) (ci := 5) (As := [.int (iI (sc xs (i + 1))), .int (iI (sc xs (i + 2)))]) (rest := []) S (c_X_pace l D q c _ F_424 A_424 (sc xs (i + 1)) (sc xs (i + 2)) (1) (1) (by first | assumption | exact ib_of _) (by first | assumption | exact ib_of _) (by have h8 := I1.2.1.1; have h9 := I1.1.1; omega) (by have h8 := I1.2.1.2.1; have h9 := I1.1.2.1; omega) (INV_mch I1) (I1.2.2.2.2) (p_no I1 u1 (fun _ => u2) (fun h => by have h9 := h.2.2.2; rw [u4] at h9; omega))) zw_721 zw_722 zw_723 zw_6 zw_724 ⟨by decide +kernel, by decide, rfl, rfl⟩ hK hP hD ga_5 rfl rfl rfl hl.1 rfl (Nat.le_of_ble_eq_true rfl) zd_L_law_442 ⟨hc1, hc2⟩) hD hS hA (fun z_442 F_442 A_442 H locs hq_442 hP hD hS => ?_)
          have hH : H[b]? = s.heap[b]? := hS.2.1 b hbl (hA2 b hbl)
          obtain ⟨x1, x2, x3⟩ := hq_442
          obtain ⟨x4, x5, x6⟩ := x2 (by have h8 := I1.2.1.1; omega)
          obtain ⟨I2, e1_, e2_, e3_⟩ := p_end I1 u1 x1.1 x1.2 x4 x5 x6 (fun _ => u2)
          have y1 := e2_ u3 (by rw [u4]; exact g2)
          refine lv_istore (lv' := [(6, .int (iI (z_442))), (5, .int (iI (z_424))), (0, .ref b), (1, .ref (q 0)), (2, .ref (q 5)), (3, .ref (q 57)), (4, .int (iI (i)))]) hx hb zd_L_law_445 hl (by decide) rfl (fun ls hl => ?_)
          refine lv_aload_n hx hb zd_L_law_447 rfl (lv_at hl 4 rfl) ?_
          refine z_goi (z_runV (n := 0) (k := 5) (ci := 5) (As := []) (rest := []) S (c_X_thrown l D q c _ F_442 A_442 ) zw_638 zw_639 zw_640 zw_6 zw_641 ⟨by decide +kernel, by decide, rfl, rfl⟩ hK hP hD ga_5 rfl rfl rfl hl.1 rfl (Nat.le_of_ble_eq_true rfl) zd_L_law_448 ⟨hc1, hc2⟩) hD hS hA (fun z_448 F_448 A_448 H locs hq_448 hP hD hS => ?_)
          obtain ⟨hf_448, ha_448, hq_448⟩ := hq_448
          rw [hf_448, ha_448] at hP hD
          refine lv_iload hx hb zd_L_law_451 (lv_at hl 1 rfl) ?_
          refine x_icmp_sm (tgt := 458) hx hb zd_L_law_453 (by decide) (by omega) ?_
          refine lv_iload hx hb zd_L_law_458 (lv_at hl 1 rfl) ?_
          refine x_if_ne (tgt := 475) hx hb zd_L_law_460 (by decide) (⟨by omega, by omega⟩) (fun h_460 => ?_) (fun h_460 => ?_)
          · refine lv_goto (tgt := 516) hx hb zd_L_law_475 (by decide) ?_
            refine lv_iinc (v := iI (i + 6)) (lv' := [(4, .int (iI (i + 6))), (6, .int (iI (z_442))), (5, .int (iI (z_424))), (0, .ref b), (1, .ref (q 0)), (2, .ref (q 5)), (3, .ref (q 57))]) hx hb zd_L_law_516 hl (k := 6) rfl (iI_add _ _) (by decide) rfl (fun ls hl => ?_)
            refine lv_goto (tgt := 23) hx hb zd_L_law_519 (by decide) ?_
            exact ih (t + 1) F_442 A_442 _ _ (i + 6) (by omega) I2 (by omega) (by omega) (by omega) (by omega) _ _ hP hD hS ls (lv_sub hl [3, 4, 5, 6, 0] rfl)
          · omega
        have g4 := p_ahead I g9.1 g3.1 g3.2.1
        · refine z_goh (n := 4) (As := [.ref (q 0), .int (iI (sc xs (i + 1))), .int (iI (sc xs (i + 2))), .ref (q 57)]) (rest := []) S (c_L_pace l hfl D q c _ F A (sc xs (i + 1)) (sc xs (i + 2)) (ib_of _) (ib_of _) (hn) (hc) (hact) (hch) (hkn) (hu) (hsame) (g9.1) (g9.2) (g3.1) (g3.2.1) (g3.2.2) (Int.le_of_not_gt g2) (htm) (I.2.2.2.1.1) (fun u v s w h => ⟨(g4.1 u v s w h).1, (g4.1 u v s w h).2.1, (g4.1 u v s w h).2.2.2⟩) (g4.2.1) (g4.2.2)) zw_444 zw_445 zw_0 cw_pace ⟨by decide +kernel, by decide, rfl, rfl⟩ hK hP hD hS hA (fun U hU hW => ⟨hTH.move hW (fun x hx9 => by rw [hU]; exact hS.2.1 x hx9 (hA2 x hx9)), hAs.moved hW.alike⟩) rfl hl.1 rfl (Nat.le_of_ble_eq_true rfl) zd_L_law_424 ⟨hc3, hc4⟩ (fun z_424 F_424 A_424 H locs hq_424 hP hD hS => ?_)
          obtain ⟨w1, w2⟩ := hq_424
          obtain ⟨I1, u1, u2, u3, u4, u5, u6, u7, u8⟩ := pac_ret I g9.1 g3 w2
          have hH : H[b]? = s.heap[b]? := hS.2.1 b hbl (hA2 b hbl)
          have hc1 := hc3
          have hc2 := hc4
          refine lv_istore (lv' := [(5, .int (iI (z_424))), (0, .ref b), (1, .ref (q 0)), (2, .ref (q 5)), (3, .ref (q 57)), (4, .int (iI (i)))]) hx hb zd_L_law_427 hl (by decide) rfl (fun ls hl => ?_)
          refine lv_aload_n hx hb zd_L_law_429 rfl (lv_at hl 3 rfl) ?_
          refine lv_aload_n hx hb zd_L_law_430 rfl (lv_at hl 1 rfl) ?_
          refine lv_iload hx hb zd_L_law_431 (lv_at hl 5 rfl) ?_
          refine lv_iconst (v := iI (1)) hx hb zd_L_law_433 rfl ?_
          refine x_iadd hx hb zd_L_law_434 ?_
          refine x_scr hx hb hX hH hL (i := i + 1) (by omega) (by omega) zd_L_law_435 ?_
          refine lv_aload_n hx hb zd_L_law_436 rfl (lv_at hl 1 rfl) ?_
          refine lv_iload hx hb zd_L_law_437 (lv_at hl 5 rfl) ?_
          refine lv_iconst (v := iI (2)) hx hb zd_L_law_439 rfl ?_
          refine x_iadd hx hb zd_L_law_440 ?_
          refine x_scr hx hb hX hH hL (i := i + 2) (by omega) (by omega) zd_L_law_441 ?_
          refine z_goi (z_runV (n := 2) (k := 5) (ci := 5) (As := [.int (iI (sc xs (i + 1))), .int (iI (sc xs (i + 2)))]) (rest := []) S (c_X_pace l D q c _ F_424 A_424 (sc xs (i + 1)) (sc xs (i + 2)) (F_424 301) (F_424 302) (by first | assumption | exact ib_of _) (by first | assumption | exact ib_of _) (by have h8 := I1.2.1.1; have h9 := I1.1.1; omega) (by have h8 := I1.2.1.2.1; have h9 := I1.1.2.1; omega) (INV_mch I1) (I1.2.2.2.2) (p_yes I1 u1 u5 (fun _ => u6))) zw_721 zw_722 zw_723 zw_6 zw_724 ⟨by decide +kernel, by decide, rfl, rfl⟩ hK hP hD ga_5 rfl rfl rfl hl.1 rfl (Nat.le_of_ble_eq_true rfl) zd_L_law_442 ⟨hc1, hc2⟩) hD hS hA (fun z_442 F_442 A_442 H locs hq_442 hP hD hS => ?_)
          have hH : H[b]? = s.heap[b]? := hS.2.1 b hbl (hA2 b hbl)
          obtain ⟨x1, x2, x3⟩ := hq_442
          obtain ⟨x4, x5, x6⟩ := x2 (by have h8 := I1.2.1.1; omega)
          obtain ⟨I2, e1_, e2_, e3_⟩ := p_end I1 u1 x1.1 x1.2 x4 x5 x6 (fun _ => u2)
          obtain ⟨y1, y4, y5⟩ := e3_ u3 (by rw [u4]; exact Int.le_of_not_gt g2)
          have y8 : A_442 57 0 = A_424 57 0 := by rw [x1.2 57 (by decide) (by decide) (by decide) (by decide) (by decide) (by decide) (by decide) (by decide) (by decide) (by decide) (by decide) (by decide) (by decide) (by decide) (by decide)]
          have y2 : A_442 57 0 = z_442 := by (rw [y8]; rcases (show sc xs (i + 2) = 0 ∨ sc xs (i + 2) = 1 by omega) with h | h; (rw [u7 h, y4 h]); (rw [u8 h, y5 h]))
          have y3 : 1 ≤ z_442 ∧ z_442 ≤ 360 := by (have h1 := u5.1; have h2 := u5.2.1; rcases (show sc xs (i + 2) = 0 ∨ sc xs (i + 2) = 1 by omega) with h | h; (rw [y4 h]; omega); (rw [y5 h]; omega))
          refine lv_istore (lv' := [(6, .int (iI (z_442))), (5, .int (iI (z_424))), (0, .ref b), (1, .ref (q 0)), (2, .ref (q 5)), (3, .ref (q 57)), (4, .int (iI (i)))]) hx hb zd_L_law_445 hl (by decide) rfl (fun ls hl => ?_)
          refine lv_aload_n hx hb zd_L_law_447 rfl (lv_at hl 4 rfl) ?_
          refine z_goi (z_runV (n := 0) (k := 5) (ci := 5) (As := []) (rest := []) S (c_X_thrown l D q c _ F_442 A_442 ) zw_638 zw_639 zw_640 zw_6 zw_641 ⟨by decide +kernel, by decide, rfl, rfl⟩ hK hP hD ga_5 rfl rfl rfl hl.1 rfl (Nat.le_of_ble_eq_true rfl) zd_L_law_448 ⟨hc1, hc2⟩) hD hS hA (fun z_448 F_448 A_448 H locs hq_448 hP hD hS => ?_)
          obtain ⟨hf_448, ha_448, hq_448⟩ := hq_448
          rw [hf_448, ha_448] at hP hD
          refine lv_iload hx hb zd_L_law_451 (lv_at hl 1 rfl) ?_
          refine x_icmp_sm (tgt := 458) hx hb zd_L_law_453 (by decide) (by omega) ?_
          refine lv_iload hx hb zd_L_law_458 (lv_at hl 1 rfl) ?_
          refine x_if_ne (tgt := 475) hx hb zd_L_law_460 (by decide) (⟨by omega, by omega⟩) (fun h_460 => ?_) (fun h_460 => ?_)
          · omega
          · refine lv_aload_n hx hb zd_L_law_463 rfl (lv_at hl 5 rfl) ?_
            refine lv_iconst (v := iI (0)) hx hb zd_L_law_464 rfl ?_
            refine x_lald (v := A_442 57 0) hx hb hK.1 hP 57 1 ga_57 rfl (by decide) (by decide) (by decide) rfl zd_L_law_465 ?_
            refine lv_iload hx hb zd_L_law_466 (lv_at hl 0 rfl) ?_
            refine x_i2l hx hb zd_L_law_468 (⟨by omega, by omega⟩) ?_
            refine x_lcmp hx hb zd_L_law_469 (⟨by omega, by omega⟩) (⟨by omega, by omega⟩) ?_
            have hc_469 := cmpI_spec (A_442 57 0) z_442
            refine x_if_eq (tgt := 475) hx hb zd_L_law_470 (by decide) (⟨by omega, by omega⟩) (fun h_470 => ?_) (fun h_470 => ?_)
            · refine lv_goto (tgt := 516) hx hb zd_L_law_475 (by decide) ?_
              refine lv_iinc (v := iI (i + 6)) (lv' := [(4, .int (iI (i + 6))), (6, .int (iI (z_442))), (5, .int (iI (z_424))), (0, .ref b), (1, .ref (q 0)), (2, .ref (q 5)), (3, .ref (q 57))]) hx hb zd_L_law_516 hl (k := 6) rfl (iI_add _ _) (by decide) rfl (fun ls hl => ?_)
              refine lv_goto (tgt := 23) hx hb zd_L_law_519 (by decide) ?_
              exact ih (t + 1) F_442 A_442 _ _ (i + 6) (by omega) I2 (by omega) (by omega) (by omega) (by omega) _ _ hP hD hS ls (lv_sub hl [3, 4, 5, 6, 0] rfl)
            · omega
      by_cases hs_9 : v = 9
      · refine x_tabIn (k := 9) (off := 438) (tgt := 478) hx hb zd_L_law_40 hs_9 (by decide) (by decide) (by decide) rfl (by decide) ?_
        refine lv_aload_n hx hb zd_L_law_478 rfl (lv_at hl 1 rfl) ?_
        refine z_goi (z_runV (n := 0) (k := 0) (ci := 0) (As := []) (rest := []) S (c_C_room l D q c _ F A (by first | assumption | exact ib_of _) (by first | assumption | exact ib_of _) (by first | assumption | exact ib_of _) (by first | assumption | exact ib_of _)) zw_299 zw_300 zw_301 zw_1 zw_302 ⟨by decide +kernel, by decide, rfl, rfl⟩ hK hP hD ga_0 rfl rfl rfl hl.1 rfl (Nat.le_of_ble_eq_true rfl) zd_L_law_479 ⟨hc1, hc2⟩) hD hS hA (fun z_479 F_479 A_479 H locs hq_479 hP hD hS => ?_)
        obtain ⟨hf_479, hq_479⟩ := hq_479
        rw [hf_479] at hP hD
        have hH : H[b]? = s.heap[b]? := hS.2.1 b hbl (hA2 b hbl)
        obtain ⟨m1_, m2_, m3_⟩ := hq_479
        have I1 : INV F A_479 := INV_id (fun _ _ _ _ => rfl) (fun k h _ => m1_ k (by omega)) I
        refine lv_aload_n hx hb zd_L_law_482 rfl (lv_at hl 2 rfl) ?_
        refine z_goi (z_runV (n := 0) (k := 5) (ci := 5) (As := []) (rest := [.int (iI (z_479))]) S (c_X_room l D q c _ F A_479 (by have h8 := I1.2.1.1; have h9 := I1.1.1; omega) (by have h8 := I1.2.1.2.1; have h9 := I1.1.2.1; omega) (INV_mch I1) (I1.2.2.2.2)) zw_749 zw_750 zw_751 zw_6 zw_752 ⟨by decide +kernel, by decide, rfl, rfl⟩ hK hP hD ga_5 rfl rfl rfl hl.1 rfl (Nat.le_of_ble_eq_true rfl) zd_L_law_483 ⟨hc1, hc2⟩) hD hS hA (fun z_483 F_483 A_483 H locs hq_483 hP hD hS => ?_)
        obtain ⟨hz, I2⟩ := o_room I ⟨m1_, m2_, m3_⟩ hq_483
        refine x_icmp_sm (tgt := 516) hx hb zd_L_law_486 (by decide) (hz) ?_
        refine lv_iinc (v := iI (i + 6)) (lv' := [(4, .int (iI (i + 6))), (0, .ref b), (1, .ref (q 0)), (2, .ref (q 5)), (3, .ref (q 57))]) hx hb zd_L_law_516 hl (k := 4) rfl (iI_add _ _) (by decide) rfl (fun ls hl => ?_)
        refine lv_goto (tgt := 23) hx hb zd_L_law_519 (by decide) ?_
        exact ih (t + 1) F_483 A_483 _ _ (i + 6) (by omega) I2 (by omega) (by omega) (by omega) (by omega) _ _ hP hD hS ls (lv_sub hl [1, 2, 3, 4, 0] rfl)
      by_cases hs_10 : v = 10
      · refine x_tabIn (k := 10) (off := 451) (tgt := 491) hx hb zd_L_law_40 hs_10 (by decide) (by decide) (by decide) rfl (by decide) ?_
        refine lv_aload_n hx hb zd_L_law_491 rfl (lv_at hl 1 rfl) ?_
        refine lv_aload_n hx hb zd_L_law_492 rfl (lv_at hl 0 rfl) ?_
        refine lv_iload hx hb zd_L_law_493 (lv_at hl 4 rfl) ?_
        refine lv_iconst (v := iI (1)) hx hb zd_L_law_495 rfl ?_
        refine x_iadd hx hb zd_L_law_496 ?_
        refine x_scr hx hb hX hH hL (i := i + 1) (by omega) (by omega) zd_L_law_497 ?_
        refine z_goi (z_runV (n := 1) (k := 0) (ci := 0) (As := [.int (iI (sc xs (i + 1)))]) (rest := []) S (c_C_total l D q c _ F A (sc xs (i + 1)) (by first | assumption | exact ib_of _) (by first | assumption | exact ib_of _) (by first | assumption | exact ib_of _) (by first | assumption | exact ib_of _) (by first | assumption | exact ib_of _) (by first | assumption | exact ib_of _) (by first | assumption | exact ib_of _)) zw_319 zw_320 zw_321 zw_1 zw_322 ⟨by decide +kernel, by decide, rfl, rfl⟩ hK hP hD ga_0 rfl rfl rfl hl.1 rfl (Nat.le_of_ble_eq_true rfl) zd_L_law_498 ⟨hc1, hc2⟩) hD hS hA (fun z_498 F_498 A_498 H locs hq_498 hP hD hS => ?_)
        have hH : H[b]? = s.heap[b]? := hS.2.1 b hbl (hA2 b hbl)
        have I1 := tq_inv I hq_498
        refine lv_aload_n hx hb zd_L_law_501 rfl (lv_at hl 2 rfl) ?_
        refine lv_aload_n hx hb zd_L_law_502 rfl (lv_at hl 0 rfl) ?_
        refine lv_iload hx hb zd_L_law_503 (lv_at hl 4 rfl) ?_
        refine lv_iconst (v := iI (1)) hx hb zd_L_law_505 rfl ?_
        refine x_iadd hx hb zd_L_law_506 ?_
        refine x_scr hx hb hX hH hL (i := i + 1) (by omega) (by omega) zd_L_law_507 ?_
        refine z_goi (z_runV (n := 1) (k := 5) (ci := 5) (As := [.int (iI (sc xs (i + 1)))]) (rest := [.int (iI (z_498))]) S (c_X_total l D q c _ F_498 A_498 (sc xs (i + 1)) (by first | assumption | exact ib_of _) (by have h8 := I1.2.1.1; have h9 := I1.1.1; omega) (by have h8 := I1.2.1.2.1; have h9 := I1.1.2.1; omega) (INV_mch I1) (I1.2.2.2.2)) zw_761 zw_762 zw_763 zw_6 zw_764 ⟨by decide +kernel, by decide, rfl, rfl⟩ hK hP hD ga_5 rfl rfl rfl hl.1 rfl (Nat.le_of_ble_eq_true rfl) zd_L_law_508 ⟨hc1, hc2⟩) hD hS hA (fun z_508 F_508 A_508 H locs hq_508 hP hD hS => ?_)
        obtain ⟨hz, I2⟩ := o_total I hq_498 hq_508
        refine x_icmp_sm (tgt := 516) hx hb zd_L_law_511 (by decide) (hz) ?_
        refine lv_iinc (v := iI (i + 6)) (lv' := [(4, .int (iI (i + 6))), (0, .ref b), (1, .ref (q 0)), (2, .ref (q 5)), (3, .ref (q 57))]) hx hb zd_L_law_516 hl (k := 4) rfl (iI_add _ _) (by decide) rfl (fun ls hl => ?_)
        refine lv_goto (tgt := 23) hx hb zd_L_law_519 (by decide) ?_
        exact ih (t + 1) F_508 A_508 _ _ (i + 6) (by omega) I2 (by omega) (by omega) (by omega) (by omega) _ _ hP hD hS ls (lv_sub hl [1, 2, 3, 4, 0] rfl)
      refine x_tabOut (tgt := 516) hx hb zd_L_law_40 bv (by omega) (by decide) ?_
      have I2 := I
      refine lv_iinc (v := iI (i + 6)) (lv' := [(4, .int (iI (i + 6))), (0, .ref b), (1, .ref (q 0)), (2, .ref (q 5)), (3, .ref (q 57))]) hx hb zd_L_law_516 hl (k := 4) rfl (iI_add _ _) (by decide) rfl (fun ls hl => ?_)
      refine lv_goto (tgt := 23) hx hb zd_L_law_519 (by decide) ?_
      exact ih (t + 1) F A _ _ (i + 6) (by omega) I2 (by omega) (by omega) (by omega) (by omega) _ _ hP hD hS ls (lv_sub hl [1, 2, 3, 4, 0] rfl)
