section XB
variable {p : Program} {l : Launch} {e : Env} {R : Room} {s : State} {m : MethodId} {args : Array Value} {below : List Frame} {meth : Method} {c : Code} {H : Heap} {locs : List Loc} {cells slots : Nat} {Q : State → Prop}
variable {cc : ByteArray} {pc : Nat} {ls : Array Slot} {rest : List Value}
variable {D : va_G} {cl : List vw_C} {A : Nat → Prop} {a : Nat} {tys : List (ClassId × FieldType)} {ws : va_W} {H0 : Heap}
theorem x_bald (hexec : p.tables.exec = Jvm.exec) (hb : c.code = cc) (hK : va_K D cl tys s) (hP : va_P D cl ws H) (q0 t0 : Nat) {cA : ClassId} {n : Nat} {f : Int → Int} (ha : ws[q0]? = some (a, .inl (cA, n, .inl (aI f)))) (ht : tys[t0]? = some (cA, .boolean)) {i v : Int} (hn : n < 2147483648) (h0 : 0 ≤ i) (h1 : i < (n : Int)) (hv : f i = v) (hdg : decode cc pc = .ok (.baload, 1)) (kk : W p l e R s m args below meth c H locs cells slots Q (F0 m (pc + 1) ls (.int (iI v) :: rest))) : W p l e R s m args below meth c H locs cells slots Q (F0 m pc ls (.int (iI i) :: .ref a :: rest)) :=
  va_zald hexec hb hK hP q0 t0 ha ht (iI_in h0 h1 hn) hdg (by rw [aI_at h0 (by omega), hv]; exact kk)
theorem nar_b {x : Int} (h : x = 0 ∨ x = 1) : vp_nar .boolean (iI x) = iI x := by
  rcases h with rfl | rfl <;> rfl
theorem x_bast (hexec : p.tables.exec = Jvm.exec) (hb : c.code = cc) (hK : va_K D cl tys s) (hP : va_P D cl ws H) (hD : va_D A ws) (hS : va_S A H0 H locs) (q0 t0 : Nat) {cA : ClassId} {n : Nat} {f : Int → Int} (ha : ws[q0]? = some (a, .inl (cA, n, .inl (aI f)))) (ht : tys[t0]? = some (cA, .boolean)) {i x : Int} (hn : n < 2147483648) (h0 : 0 ≤ i) (h1 : i < (n : Int)) (hx : x = 0 ∨ x = 1) (hdg : decode cc pc = .ok (.bastore, 1))
    (kk : ∀ (H1 : Heap) (locs1 : List Loc), va_P D cl (ws.set q0 (a, .inl (cA, n, .inl (aI (upI f i x))))) H1 → va_D A (ws.set q0 (a, .inl (cA, n, .inl (aI (upI f i x))))) → va_S A H0 H1 locs1 → W p l e R s m args below meth c H1 locs1 cells slots Q (F0 m (pc + 1) ls rest)) : W p l e R s m args below meth c H locs cells slots Q (F0 m pc ls (.int (iI x) :: .int (iI i) :: .ref a :: rest)) :=
  va_zast hexec hb hK hP hD hS q0 t0 ha ht (iI_in h0 h1 hn) hdg (by rw [nar_b hx, aI_upd h0 (by omega)]; exact kk)
end XB
/-- b can be reached from a by edges x c to y c -/
def Rch (m : Int) (x y : Int → Int) (a b : Int) : Prop := ∀ S : Int → Prop, S a → (∀ c, 0 ≤ c → c < m → S (x c) → S (y c)) → S b
theorem Rch_s {m : Int} {x y : Int → Int} {a c : Int} (h : Rch m x y a (x c)) (h0 : 0 ≤ c) (h1 : c < m) : Rch m x y a (y c) := fun S ha hc => hc c h0 h1 (h S ha hc)
abbrev zr_X_comesToAll : Room := ({ frames := 0, cells := 0, slots := 0, locals := 0 } : Room)
set_option maxHeartbeats 4000000 in
set_option maxRecDepth 100000 in
theorem c_X_comesToAll (l : Launch) (D : va_G) (q : Nat → Nat) (c : Nat → ClassId) (sz : Nat) (F : Nat → Int) (A : Nat → Int → Int) (a : Int) (ag : Int) (hmn : 1 ≤ F 501 ∧ F 501 ≤ 8) (hmm : 0 ≤ F 502 ∧ F 502 ≤ 14) (hmch : ∀ k, 0 ≤ k → k < F 502 → (0 ≤ A 36 k ∧ A 36 k < F 501) ∧ (0 ≤ A 37 k ∧ A 37 k < F 501) ∧ (1 ≤ A 38 k ∧ A 38 k ≤ 9) ∧ (1 ≤ A 39 k ∧ A 39 k ≤ 9) ∧ 0 ≤ A 40 k ∧ A 40 k ≤ 99) (hmp : ∀ a, 0 ≤ a → a < F 501 → 0 ≤ A 41 a ∧ A 41 a < 8) (ha : 0 ≤ a ∧ a < F 501) (hag : ag = 0 ∨ ag = 1) : zMI l zy_X_comesToAll zc_X_comesToAll 7 (some .boolean) zr_X_comesToAll D q c sz [.ref (q 5), .int (iI (a)), .int (iI (ag))] F A (fun z F1 A1 => F1 = F ∧ (∀ k, k ≠ 49 → A1 k = A k) ∧ (z = 0 ∨ z = 1) ∧ (z = 1 ↔ ∀ b, 0 ≤ b → b < F 501 → A 41 b = A 41 a → Rch (F 502) (if ag = 0 then A 36 else A 37) (if ag = 0 then A 37 else A 36) a b)) := by
  refine z_ofB (by decide) (Nat.le_of_ble_eq_true rfl) ?_
  intro p e s m args below meth c0 A0 Q C0 ret hP hD hS ls hl
  obtain ⟨S, hK, hA⟩ := C0
  have hx := S.1
  have hb := S.2.1
  have hown := S.2.2.2.1
  have hts : ∀ w ∈ zG, w.before args s = true := fun w h => S.2.2.2.2 w (List.mem_cons_of_mem _ h)
  have hl : lv_has ls 7 [(0, .ref (q 5)), (1, .int (iI (a))), (2, .int (iI (ag)))] := hl
  have hpa_ := hmp a ha.1 ha.2
  refine lv_iconst (v := iI (0)) hx hb zd_X_comesToAll_0 rfl ?_
  refine lv_istore_n (lv' := [(3, .int (iI (0))), (0, .ref (q 5)), (1, .int (iI (a))), (2, .int (iI (ag)))]) hx hb zd_X_comesToAll_1 rfl hl (by decide) rfl (fun ls hl => ?_)
  have L_2 : ∀ (fu : Nat) (i : Int)  (A2 : Nat → Int → Int), (0 ≤ i ∧ i ≤ F 501) → (∀ k, k ≠ 49 → A2 k = A k) → (∀ b, 0 ≤ b → b < i → A2 49 b = if b = a then 1 else 0) → (F 501 - i < (fu : Int)) → ∀ (H : Heap) (locs : List Loc), va_P D zcl (gw q c F A2) H → va_D A0 (gw q c F A2) → va_S A0 s.heap H locs → ∀ ls : Array Slot, lv_has ls 7 [(0, .ref (q 5)), (1, .int (iI (a))), (2, .int (iI (ag))), (3, .int (iI (i)))] → W p l e zr_X_comesToAll s m args below meth c0 H locs 0 0 Q (F0 m 2 ls []) := by
    intro fu
    induction fu with
    | zero => intro i  A2 hi hk hs hm_2; exact absurd hm_2 (by omega)
    | succ fu ih_2 =>
      intro i  A2 hi hk hs hm_2 H locs hP hD hS ls hl
      refine lv_iload_n hx hb zd_X_comesToAll_2 rfl (lv_at hl 3 rfl) ?_
      refine lv_aload_n hx hb zd_X_comesToAll_3 rfl (lv_at hl 0 rfl) ?_
      refine va_get (D := D) (ci := 5) (v := .int (iI (F 501))) (C := zR_X) (T := zT_X) (N := 34) hx hb hts zi_X hown hK.1 hP 5 ga_5 rfl 1 (by decide) (hts _ zw_534) (fun _ h9 => h9) rfl zd_X_comesToAll_4 ?_
      refine x_icmp_ge (tgt := 32) hx hb zd_X_comesToAll_7 (by decide) (⟨by omega, by omega⟩) (⟨by omega, by omega⟩) (fun h_7 => ?_) (fun h_7 => ?_)
      · refine lv_iconst (v := iI (1)) hx hb zd_X_comesToAll_32 rfl ?_
        refine lv_istore_n (lv' := [(3, .int (iI (1))), (0, .ref (q 5)), (1, .int (iI (a))), (2, .int (iI (ag)))]) hx hb zd_X_comesToAll_33 rfl hl (by decide) rfl (fun ls hl => ?_)
        have L_34 : ∀ (fu : Nat) (mo : Int)  (A34 : Nat → Int → Int), (mo = 0 ∨ mo = 1) → (∀ k, k ≠ 49 → A34 k = A k) → (∀ b, 0 ≤ b → b < F 501 → A34 49 b = 0 ∨ A34 49 b = 1) → (A34 49 a = 1) → (∀ b, 0 ≤ b → b < F 501 → A34 49 b = 1 → Rch (F 502) (if ag = 0 then A 36 else A 37) (if ag = 0 then A 37 else A 36) a b) → (mo = 0 → ∀ c, 0 ≤ c → c < F 502 → A34 49 ((if ag = 0 then A 36 else A 37) c) = 1 → A34 49 ((if ag = 0 then A 37 else A 36) c) = 1) → (2 * (F 501 - sI (A34 49) (F 501)) + mo < (fu : Int)) → ∀ (H : Heap) (locs : List Loc), va_P D zcl (gw q c F A34) H → va_D A0 (gw q c F A34) → va_S A0 s.heap H locs → ∀ ls : Array Slot, lv_has ls 7 [(0, .ref (q 5)), (1, .int (iI (a))), (2, .int (iI (ag))), (3, .int (iI (mo)))] → W p l e zr_X_comesToAll s m args below meth c0 H locs 0 0 Q (F0 m 34 ls []) := by
          intro fu
          induction fu with
          | zero => intro mo  A34 hmo hk h01 hSa hso hcl hm_34; exact absurd hm_34 (by have := sI_nn (f := A34 49) (B := 1) (n := F 501) (by omega) (fun i h0 h1 => by have := h01 i h0 h1; omega); omega)
          | succ fu ih_34 =>
            intro mo  A34 hmo hk h01 hSa hso hcl hm_34 H locs hP hD hS ls hl
            refine lv_iload_n hx hb zd_X_comesToAll_34 rfl (lv_at hl 3 rfl) ?_
            refine x_if_eq (tgt := 140) hx hb zd_X_comesToAll_35 (by decide) (⟨by omega, by omega⟩) (fun h_35 => ?_) (fun h_35 => ?_)
            · refine lv_iconst (v := iI (0)) hx hb zd_X_comesToAll_140 rfl ?_
              refine lv_istore (lv' := [(4, .int (iI (0))), (0, .ref (q 5)), (1, .int (iI (a))), (2, .int (iI (ag))), (3, .int (iI (mo)))]) hx hb zd_X_comesToAll_141 hl (by decide) rfl (fun ls hl => ?_)
              have L_143 : ∀ (fu : Nat) (i : Int) , (0 ≤ i ∧ i ≤ F 501) → (∀ b, 0 ≤ b → b < i → A 41 b = A 41 a → A34 49 b = 1) → (F 501 - i < (fu : Int)) → ∀ (H : Heap) (locs : List Loc), va_P D zcl (gw q c F A34) H → va_D A0 (gw q c F A34) → va_S A0 s.heap H locs → ∀ ls : Array Slot, lv_has ls 7 [(0, .ref (q 5)), (1, .int (iI (a))), (4, .int (iI (i)))] → W p l e zr_X_comesToAll s m args below meth c0 H locs 0 0 Q (F0 m 143 ls []) := by
                intro fu
                induction fu with
                | zero => intro i   hi hal hm_143; exact absurd hm_143 (by omega)
                | succ fu ih_143 =>
                  intro i   hi hal hm_143 H locs hP hD hS ls hl
                  have e41 := hk 41 (by decide)
                  refine lv_iload hx hb zd_X_comesToAll_143 (lv_at hl 2 rfl) ?_
                  refine lv_aload_n hx hb zd_X_comesToAll_145 rfl (lv_at hl 0 rfl) ?_
                  refine va_get (D := D) (ci := 5) (v := .int (iI (F 501))) (C := zR_X) (T := zT_X) (N := 34) hx hb hts zi_X hown hK.1 hP 5 ga_5 rfl 1 (by decide) (hts _ zw_534) (fun _ h9 => h9) rfl zd_X_comesToAll_146 ?_
                  refine x_icmp_ge (tgt := 186) hx hb zd_X_comesToAll_149 (by decide) (⟨by omega, by omega⟩) (⟨by omega, by omega⟩) (fun h_149 => ?_) (fun h_149 => ?_)
                  · refine lv_iconst (v := iI (1)) hx hb zd_X_comesToAll_186 rfl ?_
                    exact ret _ _ _ _ _ _ _ zd_X_comesToAll_187 hP hD hS (by omega) (⟨rfl, hk, Or.inr rfl, ⟨fun _ b h0 h1 h2 => hso b h0 h1 (hal b h0 (by omega) h2), fun _ => rfl⟩⟩)
                  · have hp_ := hmp i (by omega) (by omega)
                    refine lv_aload_n hx hb zd_X_comesToAll_152 rfl (lv_at hl 0 rfl) ?_
                    refine va_get (D := D) (ci := 5) (v := .ref (q 41)) (C := zR_X) (T := zT_X) (N := 34) hx hb hts zi_X hown hK.1 hP 5 ga_5 rfl 13 (by decide) (hts _ zw_546) (fun _ h9 => h9) rfl zd_X_comesToAll_153 ?_
                    refine lv_iload hx hb zd_X_comesToAll_156 (lv_at hl 2 rfl) ?_
                    refine x_iald (v := A 41 i) hx hb hK.1 hP 41 0 ga_41 rfl (by decide) (by omega) (by omega) (by rw [e41]) zd_X_comesToAll_158 ?_
                    refine lv_aload_n hx hb zd_X_comesToAll_159 rfl (lv_at hl 0 rfl) ?_
                    refine va_get (D := D) (ci := 5) (v := .ref (q 41)) (C := zR_X) (T := zT_X) (N := 34) hx hb hts zi_X hown hK.1 hP 5 ga_5 rfl 13 (by decide) (hts _ zw_546) (fun _ h9 => h9) rfl zd_X_comesToAll_160 ?_
                    refine lv_iload_n hx hb zd_X_comesToAll_163 rfl (lv_at hl 1 rfl) ?_
                    refine x_iald (v := A 41 a) hx hb hK.1 hP 41 0 ga_41 rfl (by decide) (by omega) (by omega) (by rw [e41]) zd_X_comesToAll_164 ?_
                    refine x_icmp_ne (tgt := 180) hx hb zd_X_comesToAll_165 (by decide) (⟨by omega, by omega⟩) (⟨by omega, by omega⟩) (fun h_165 => ?_) (fun h_165 => ?_)
                    · refine lv_iinc (v := iI (i + 1)) (lv' := [(4, .int (iI (i + 1))), (0, .ref (q 5)), (1, .int (iI (a)))]) hx hb zd_X_comesToAll_180 hl (k := 2) rfl (iI_add _ _) (by decide) rfl (fun ls hl => ?_)
                      refine lv_goto (tgt := 143) hx hb zd_X_comesToAll_183 (by decide) ?_
                      exact ih_143 (i + 1)   (by first | assumption | omega | (simp_all; done)) (fun b h0 h1 h2 => by by_cases e_ : b = i; (subst e_; first | omega | exact absurd h2 h_165); (exact hal b h0 (by omega) h2)) (by omega) _ _ hP hD hS ls (lv_sub hl [1, 2, 0] rfl)
                    · have h01i_ := h01 i (by omega) (by omega)
                      refine lv_aload_n hx hb zd_X_comesToAll_168 rfl (lv_at hl 0 rfl) ?_
                      refine va_get (D := D) (ci := 5) (v := .ref (q 49)) (C := zR_X) (T := zT_X) (N := 34) hx hb hts zi_X hown hK.1 hP 5 ga_5 rfl 22 (by decide) (hts _ zw_555) (fun _ h9 => h9) rfl zd_X_comesToAll_169 ?_
                      refine lv_iload hx hb zd_X_comesToAll_172 (lv_at hl 2 rfl) ?_
                      refine x_bald (v := A34 49 i) hx hb hK.1 hP 49 2 ga_49 rfl (by decide) (by omega) (by omega) (rfl) zd_X_comesToAll_174 ?_
                      refine x_if_ne (tgt := 180) hx hb zd_X_comesToAll_175 (by decide) (⟨by omega, by omega⟩) (fun h_175 => ?_) (fun h_175 => ?_)
                      · refine lv_iinc (v := iI (i + 1)) (lv' := [(4, .int (iI (i + 1))), (0, .ref (q 5)), (1, .int (iI (a)))]) hx hb zd_X_comesToAll_180 hl (k := 2) rfl (iI_add _ _) (by decide) rfl (fun ls hl => ?_)
                        refine lv_goto (tgt := 143) hx hb zd_X_comesToAll_183 (by decide) ?_
                        exact ih_143 (i + 1)   (by first | assumption | omega | (simp_all; done)) (fun b h0 h1 h2 => by by_cases e_ : b = i; (subst e_; first | omega | exact absurd h2 h_165); (exact hal b h0 (by omega) h2)) (by omega) _ _ hP hD hS ls (lv_sub hl [1, 2, 0] rfl)
                      · refine lv_iconst (v := iI (0)) hx hb zd_X_comesToAll_178 rfl ?_
                        exact ret _ _ _ _ _ _ _ zd_X_comesToAll_179 hP hD hS (by omega) (⟨rfl, hk, Or.inl rfl, ⟨fun h => by omega, fun h => by have h9 := h i (by omega) (by omega) h_165 (fun b => A34 49 b = 1) hSa (hcl h_35); omega⟩⟩)
              exact L_143 (((F 501 - (0) : Int) + 1).toNat) (0)   (by first | assumption | omega | (simp_all; done)) (fun b h0 h1 => by omega) (by omega) _ _ hP hD hS ls (lv_sub hl [1, 2, 0] rfl)
            · refine lv_iconst (v := iI (0)) hx hb zd_X_comesToAll_38 rfl ?_
              refine lv_istore_n (lv' := [(3, .int (iI (0))), (0, .ref (q 5)), (1, .int (iI (a))), (2, .int (iI (ag)))]) hx hb zd_X_comesToAll_39 rfl hl (by decide) rfl (fun ls hl => ?_)
              refine lv_iconst (v := iI (0)) hx hb zd_X_comesToAll_40 rfl ?_
              refine lv_istore (lv' := [(4, .int (iI (0))), (3, .int (iI (0))), (0, .ref (q 5)), (1, .int (iI (a))), (2, .int (iI (ag)))]) hx hb zd_X_comesToAll_41 hl (by decide) rfl (fun ls hl => ?_)
              have L_43 : ∀ (fu : Nat) (r : Int) (i : Int)  (A43 : Nat → Int → Int), (0 ≤ i ∧ i ≤ F 502) → (r = 0 ∨ r = 1) → (∀ k, k ≠ 49 → A43 k = A k) → (∀ b, 0 ≤ b → b < F 501 → A43 49 b = 0 ∨ A43 49 b = 1) → (A43 49 a = 1) → (∀ b, 0 ≤ b → b < F 501 → A43 49 b = 1 → Rch (F 502) (if ag = 0 then A 36 else A 37) (if ag = 0 then A 37 else A 36) a b) → (r = 0 → ∀ c, 0 ≤ c → c < i → A43 49 ((if ag = 0 then A 36 else A 37) c) = 1 → A43 49 ((if ag = 0 then A 37 else A 36) c) = 1) → (sI (A34 49) (F 501) + r ≤ sI (A43 49) (F 501)) → (F 502 - i < (fu : Int)) → ∀ (H : Heap) (locs : List Loc), va_P D zcl (gw q c F A43) H → va_D A0 (gw q c F A43) → va_S A0 s.heap H locs → ∀ ls : Array Slot, lv_has ls 7 [(0, .ref (q 5)), (1, .int (iI (a))), (2, .int (iI (ag))), (3, .int (iI (r))), (4, .int (iI (i)))] → W p l e zr_X_comesToAll s m args below meth c0 H locs 0 0 Q (F0 m 43 ls []) := by
                intro fu
                induction fu with
                | zero => intro r i  A43 hi hr hk h01 hSa hso hcl hgr hm_43; exact absurd hm_43 (by omega)
                | succ fu ih_43 =>
                  intro r i  A43 hi hr hk h01 hSa hso hcl hgr hm_43 H locs hP hD hS ls hl
                  have e36 := hk 36 (by decide)
                  have e37 := hk 37 (by decide)
                  refine lv_iload hx hb zd_X_comesToAll_43 (lv_at hl 4 rfl) ?_
                  refine lv_aload_n hx hb zd_X_comesToAll_45 rfl (lv_at hl 0 rfl) ?_
                  refine va_get (D := D) (ci := 5) (v := .int (iI (F 502))) (C := zR_X) (T := zT_X) (N := 34) hx hb hts zi_X hown hK.1 hP 5 ga_5 rfl 2 (by decide) (hts _ zw_535) (fun _ h9 => h9) rfl zd_X_comesToAll_46 ?_
                  refine x_icmp_ge (tgt := 137) hx hb zd_X_comesToAll_49 (by decide) (⟨by omega, by omega⟩) (⟨by omega, by omega⟩) (fun h_49 => ?_) (fun h_49 => ?_)
                  · have e_ : i = F 502 := by omega
                    rw [e_] at hcl
                    refine lv_goto (tgt := 34) hx hb zd_X_comesToAll_137 (by decide) ?_
                    exact ih_34 (r)  A43 (by first | assumption | omega | (simp_all; done)) (hk) (h01) (hSa) (hso) (hcl) (by omega) _ _ hP hD hS ls (lv_sub hl [0, 1, 2, 3] rfl)
                  · have hc_ := hmch i (by omega) (by omega)
                    refine lv_iload_n hx hb zd_X_comesToAll_52 rfl (lv_at hl 2 rfl) ?_
                    refine x_if_eq (tgt := 66) hx hb zd_X_comesToAll_53 (by decide) (⟨by omega, by omega⟩) (fun h_53 => ?_) (fun h_53 => ?_)
                    · refine lv_aload_n hx hb zd_X_comesToAll_66 rfl (lv_at hl 0 rfl) ?_
                      refine va_get (D := D) (ci := 5) (v := .ref (q 36)) (C := zR_X) (T := zT_X) (N := 34) hx hb hts zi_X hown hK.1 hP 5 ga_5 rfl 4 (by decide) (hts _ zw_537) (fun _ h9 => h9) rfl zd_X_comesToAll_67 ?_
                      refine lv_iload hx hb zd_X_comesToAll_70 (lv_at hl 4 rfl) ?_
                      refine x_iald (v := A 36 i) hx hb hK.1 hP 36 0 ga_36 rfl (by decide) (by omega) (by omega) (by rw [e36]) zd_X_comesToAll_72 ?_
                      refine lv_istore (lv' := [(5, .int (iI (A 36 i))), (0, .ref (q 5)), (1, .int (iI (a))), (2, .int (iI (ag))), (3, .int (iI (r))), (4, .int (iI (i)))]) hx hb zd_X_comesToAll_73 hl (by decide) rfl (fun ls hl => ?_)
                      refine lv_iload_n hx hb zd_X_comesToAll_75 rfl (lv_at hl 3 rfl) ?_
                      refine x_if_eq (tgt := 89) hx hb zd_X_comesToAll_76 (by decide) (⟨by omega, by omega⟩) (fun h_76 => ?_) (fun h_76 => ?_)
                      · refine lv_aload_n hx hb zd_X_comesToAll_89 rfl (lv_at hl 1 rfl) ?_
                        refine va_get (D := D) (ci := 5) (v := .ref (q 37)) (C := zR_X) (T := zT_X) (N := 34) hx hb hts zi_X hown hK.1 hP 5 ga_5 rfl 5 (by decide) (hts _ zw_538) (fun _ h9 => h9) rfl zd_X_comesToAll_90 ?_
                        refine lv_iload hx hb zd_X_comesToAll_93 (lv_at hl 5 rfl) ?_
                        refine x_iald (v := A 37 i) hx hb hK.1 hP 37 0 ga_37 rfl (by decide) (by omega) (by omega) (by rw [e37]) zd_X_comesToAll_95 ?_
                        refine lv_istore (lv' := [(6, .int (iI (A 37 i))), (5, .int (iI (A 36 i))), (0, .ref (q 5)), (1, .int (iI (a))), (2, .int (iI (ag))), (3, .int (iI (r))), (4, .int (iI (i)))]) hx hb zd_X_comesToAll_96 hl (by decide) rfl (fun ls hl => ?_)
                        have ht1_ := h01 (A 36 i) (by omega) (by omega)
                        have ht2_ := h01 (A 37 i) (by omega) (by omega)
                        refine lv_aload_n hx hb zd_X_comesToAll_98 rfl (lv_at hl 2 rfl) ?_
                        refine va_get (D := D) (ci := 5) (v := .ref (q 49)) (C := zR_X) (T := zT_X) (N := 34) hx hb hts zi_X hown hK.1 hP 5 ga_5 rfl 22 (by decide) (hts _ zw_555) (fun _ h9 => h9) rfl zd_X_comesToAll_99 ?_
                        refine lv_iload hx hb zd_X_comesToAll_102 (lv_at hl 1 rfl) ?_
                        refine x_bald (v := A43 49 (A 36 i)) hx hb hK.1 hP 49 2 ga_49 rfl (by decide) (by omega) (by omega) (rfl) zd_X_comesToAll_104 ?_
                        refine x_if_eq (tgt := 131) hx hb zd_X_comesToAll_105 (by decide) (⟨by omega, by omega⟩) (fun h_105 => ?_) (fun h_105 => ?_)
                        · refine lv_iinc (v := iI (i + 1)) (lv' := [(4, .int (iI (i + 1))), (6, .int (iI (A 37 i))), (5, .int (iI (A 36 i))), (0, .ref (q 5)), (1, .int (iI (a))), (2, .int (iI (ag))), (3, .int (iI (r)))]) hx hb zd_X_comesToAll_131 hl (k := 6) rfl (iI_add _ _) (by decide) rfl (fun ls hl => ?_)
                          refine lv_goto (tgt := 43) hx hb zd_X_comesToAll_134 (by decide) ?_
                          exact ih_43 (r) (i + 1)  A43 (by first | assumption | omega | (simp_all; done)) (by first | assumption | omega | (simp_all; done)) (by first | exact hk | exact fun k h => by simp only [auP, h, if_false]; exact hk k h) (by first | exact h01 | (intro b h0 h1; show upI (A43 49) _ _ b = 0 ∨ upI (A43 49) _ _ b = 1; unfold upI; split; (right; rfl); (exact h01 b h0 h1))) (by first | exact hSa | (show upI (A43 49) _ _ a = 1; unfold upI; split; rfl; exact hSa)) (by first | exact hso | (intro b h0 h1 h2; have h3 : upI (A43 49) _ _ b = 1 := h2; unfold upI at h3; split at h3; (first | (exfalso; omega) | (rename_i e9; rw [e9]; have h8 := hso _ (by omega) (by omega) (by omega : A43 49 ((A 36 i)) = 1); first | (rw [if_pos (by omega : ag = 0), if_pos (by omega : ag = 0)] at h8 ⊢; exact Rch_s h8 hi.1 (by omega)) | (rw [if_neg (by omega : ¬ ag = 0), if_neg (by omega : ¬ ag = 0)] at h8 ⊢; exact Rch_s h8 hi.1 (by omega)))); (exact hso b h0 h1 h3))) (fun h c h0 h1 => by first | omega | (by_cases e_ : c = i; (rw [e_]; first | (exfalso; omega) | (rw [if_pos (by omega : ag = 0), if_pos (by omega : ag = 0)]; omega) | (rw [if_neg (by omega : ¬ ag = 0), if_neg (by omega : ¬ ag = 0)]; omega)); (exact hcl h c h0 (by omega)))) (by first | exact hgr | (show sI (A34 49) (F 501) + 1 ≤ sI (upI (A43 49) _ 1) (F 501); omega)) (by omega) _ _ hP hD hS ls (lv_sub hl [3, 4, 5, 6, 0] rfl)
                        · refine lv_aload_n hx hb zd_X_comesToAll_108 rfl (lv_at hl 2 rfl) ?_
                          refine va_get (D := D) (ci := 5) (v := .ref (q 49)) (C := zR_X) (T := zT_X) (N := 34) hx hb hts zi_X hown hK.1 hP 5 ga_5 rfl 22 (by decide) (hts _ zw_555) (fun _ h9 => h9) rfl zd_X_comesToAll_109 ?_
                          refine lv_iload hx hb zd_X_comesToAll_112 (lv_at hl 0 rfl) ?_
                          refine x_bald (v := A43 49 (A 37 i)) hx hb hK.1 hP 49 2 ga_49 rfl (by decide) (by omega) (by omega) (rfl) zd_X_comesToAll_114 ?_
                          refine x_if_eq (tgt := 121) hx hb zd_X_comesToAll_115 (by decide) (⟨by omega, by omega⟩) (fun h_115 => ?_) (fun h_115 => ?_)
                          · have hup_ := sI_up (f := A43 49) (b := (A 37 i)) (y := 1) (n := F 501) (by omega) (by omega)
                            refine lv_aload_n hx hb zd_X_comesToAll_121 rfl (lv_at hl 2 rfl) ?_
                            refine va_get (D := D) (ci := 5) (v := .ref (q 49)) (C := zR_X) (T := zT_X) (N := 34) hx hb hts zi_X hown hK.1 hP 5 ga_5 rfl 22 (by decide) (hts _ zw_555) (fun _ h9 => h9) rfl zd_X_comesToAll_122 ?_
                            refine lv_iload hx hb zd_X_comesToAll_125 (lv_at hl 0 rfl) ?_
                            refine lv_iconst (v := iI (1)) hx hb zd_X_comesToAll_127 rfl ?_
                            refine x_bast hx hb hK.1 hP hD hS 49 2 ga_49 rfl (by decide) (by omega) (by omega) (by first | exact Or.inl rfl | exact Or.inr rfl | omega) zd_X_comesToAll_128 (fun H locs hP hD hS => ?_)
                            rw [gs_49] at hP hD
                            refine lv_iconst (v := iI (1)) hx hb zd_X_comesToAll_129 rfl ?_
                            refine lv_istore_n (lv' := [(3, .int (iI (1))), (6, .int (iI (A 37 i))), (5, .int (iI (A 36 i))), (0, .ref (q 5)), (1, .int (iI (a))), (2, .int (iI (ag))), (4, .int (iI (i)))]) hx hb zd_X_comesToAll_130 rfl hl (by decide) rfl (fun ls hl => ?_)
                            refine lv_iinc (v := iI (i + 1)) (lv' := [(4, .int (iI (i + 1))), (3, .int (iI (1))), (6, .int (iI (A 37 i))), (5, .int (iI (A 36 i))), (0, .ref (q 5)), (1, .int (iI (a))), (2, .int (iI (ag)))]) hx hb zd_X_comesToAll_131 hl (k := 6) rfl (iI_add _ _) (by decide) rfl (fun ls hl => ?_)
                            refine lv_goto (tgt := 43) hx hb zd_X_comesToAll_134 (by decide) ?_
                            exact ih_43 (1) (i + 1)  (auP A43 49 (A 37 i) 1) (by first | assumption | omega | (simp_all; done)) (by first | assumption | omega | (simp_all; done)) (by first | exact hk | exact fun k h => by simp only [auP, h, if_false]; exact hk k h) (by first | exact h01 | (intro b h0 h1; show upI (A43 49) _ _ b = 0 ∨ upI (A43 49) _ _ b = 1; unfold upI; split; (right; rfl); (exact h01 b h0 h1))) (by first | exact hSa | (show upI (A43 49) _ _ a = 1; unfold upI; split; rfl; exact hSa)) (by first | exact hso | (intro b h0 h1 h2; have h3 : upI (A43 49) _ _ b = 1 := h2; unfold upI at h3; split at h3; (first | (exfalso; omega) | (rename_i e9; rw [e9]; have h8 := hso _ (by omega) (by omega) (by omega : A43 49 ((A 36 i)) = 1); first | (rw [if_pos (by omega : ag = 0), if_pos (by omega : ag = 0)] at h8 ⊢; exact Rch_s h8 hi.1 (by omega)) | (rw [if_neg (by omega : ¬ ag = 0), if_neg (by omega : ¬ ag = 0)] at h8 ⊢; exact Rch_s h8 hi.1 (by omega)))); (exact hso b h0 h1 h3))) (fun h c h0 h1 => by first | omega | (by_cases e_ : c = i; (rw [e_]; first | (exfalso; omega) | (rw [if_pos (by omega : ag = 0), if_pos (by omega : ag = 0)]; omega) | (rw [if_neg (by omega : ¬ ag = 0), if_neg (by omega : ¬ ag = 0)]; omega)); (exact hcl h c h0 (by omega)))) (by first | exact hgr | (show sI (A34 49) (F 501) + 1 ≤ sI (upI (A43 49) _ 1) (F 501); omega)) (by omega) _ _ hP hD hS ls (lv_sub hl [4, 5, 6, 1, 0] rfl)
                          · refine lv_goto (tgt := 131) hx hb zd_X_comesToAll_118 (by decide) ?_
                            refine lv_iinc (v := iI (i + 1)) (lv' := [(4, .int (iI (i + 1))), (6, .int (iI (A 37 i))), (5, .int (iI (A 36 i))), (0, .ref (q 5)), (1, .int (iI (a))), (2, .int (iI (ag))), (3, .int (iI (r)))]) hx hb zd_X_comesToAll_131 hl (k := 6) rfl (iI_add _ _) (by decide) rfl (fun ls hl => ?_)
                            refine lv_goto (tgt := 43) hx hb zd_X_comesToAll_134 (by decide) ?_
                            exact ih_43 (r) (i + 1)  A43 (by first | assumption | omega | (simp_all; done)) (by first | assumption | omega | (simp_all; done)) (by first | exact hk | exact fun k h => by simp only [auP, h, if_false]; exact hk k h) (by first | exact h01 | (intro b h0 h1; show upI (A43 49) _ _ b = 0 ∨ upI (A43 49) _ _ b = 1; unfold upI; split; (right; rfl); (exact h01 b h0 h1))) (by first | exact hSa | (show upI (A43 49) _ _ a = 1; unfold upI; split; rfl; exact hSa)) (by first | exact hso | (intro b h0 h1 h2; have h3 : upI (A43 49) _ _ b = 1 := h2; unfold upI at h3; split at h3; (first | (exfalso; omega) | (rename_i e9; rw [e9]; have h8 := hso _ (by omega) (by omega) (by omega : A43 49 ((A 36 i)) = 1); first | (rw [if_pos (by omega : ag = 0), if_pos (by omega : ag = 0)] at h8 ⊢; exact Rch_s h8 hi.1 (by omega)) | (rw [if_neg (by omega : ¬ ag = 0), if_neg (by omega : ¬ ag = 0)] at h8 ⊢; exact Rch_s h8 hi.1 (by omega)))); (exact hso b h0 h1 h3))) (fun h c h0 h1 => by first | omega | (by_cases e_ : c = i; (rw [e_]; first | (exfalso; omega) | (rw [if_pos (by omega : ag = 0), if_pos (by omega : ag = 0)]; omega) | (rw [if_neg (by omega : ¬ ag = 0), if_neg (by omega : ¬ ag = 0)]; omega)); (exact hcl h c h0 (by omega)))) (by first | exact hgr | (show sI (A34 49) (F 501) + 1 ≤ sI (upI (A43 49) _ 1) (F 501); omega)) (by omega) _ _ hP hD hS ls (lv_sub hl [3, 4, 5, 6, 0] rfl)
                      · refine lv_aload_n hx hb zd_X_comesToAll_79 rfl (lv_at hl 1 rfl) ?_
                        refine va_get (D := D) (ci := 5) (v := .ref (q 36)) (C := zR_X) (T := zT_X) (N := 34) hx hb hts zi_X hown hK.1 hP 5 ga_5 rfl 4 (by decide) (hts _ zw_537) (fun _ h9 => h9) rfl zd_X_comesToAll_80 ?_
                        refine lv_iload hx hb zd_X_comesToAll_83 (lv_at hl 5 rfl) ?_
                        refine x_iald (v := A 36 i) hx hb hK.1 hP 36 0 ga_36 rfl (by decide) (by omega) (by omega) (by rw [e36]) zd_X_comesToAll_85 ?_
                        refine lv_goto (tgt := 96) hx hb zd_X_comesToAll_86 (by decide) ?_
                        refine lv_istore (lv' := [(6, .int (iI (A 36 i))), (5, .int (iI (A 36 i))), (0, .ref (q 5)), (1, .int (iI (a))), (2, .int (iI (ag))), (3, .int (iI (r))), (4, .int (iI (i)))]) hx hb zd_X_comesToAll_96 hl (by decide) rfl (fun ls hl => ?_)
                        have ht1_ := h01 (A 36 i) (by omega) (by omega)
                        have ht2_ := h01 (A 37 i) (by omega) (by omega)
                        refine lv_aload_n hx hb zd_X_comesToAll_98 rfl (lv_at hl 2 rfl) ?_
                        refine va_get (D := D) (ci := 5) (v := .ref (q 49)) (C := zR_X) (T := zT_X) (N := 34) hx hb hts zi_X hown hK.1 hP 5 ga_5 rfl 22 (by decide) (hts _ zw_555) (fun _ h9 => h9) rfl zd_X_comesToAll_99 ?_
                        refine lv_iload hx hb zd_X_comesToAll_102 (lv_at hl 1 rfl) ?_
                        refine x_bald (v := A43 49 (A 36 i)) hx hb hK.1 hP 49 2 ga_49 rfl (by decide) (by omega) (by omega) (rfl) zd_X_comesToAll_104 ?_
                        refine x_if_eq (tgt := 131) hx hb zd_X_comesToAll_105 (by decide) (⟨by omega, by omega⟩) (fun h_105 => ?_) (fun h_105 => ?_)
                        · refine lv_iinc (v := iI (i + 1)) (lv' := [(4, .int (iI (i + 1))), (6, .int (iI (A 36 i))), (5, .int (iI (A 36 i))), (0, .ref (q 5)), (1, .int (iI (a))), (2, .int (iI (ag))), (3, .int (iI (r)))]) hx hb zd_X_comesToAll_131 hl (k := 6) rfl (iI_add _ _) (by decide) rfl (fun ls hl => ?_)
                          refine lv_goto (tgt := 43) hx hb zd_X_comesToAll_134 (by decide) ?_
                          exact ih_43 (r) (i + 1)  A43 (by first | assumption | omega | (simp_all; done)) (by first | assumption | omega | (simp_all; done)) (by first | exact hk | exact fun k h => by simp only [auP, h, if_false]; exact hk k h) (by first | exact h01 | (intro b h0 h1; show upI (A43 49) _ _ b = 0 ∨ upI (A43 49) _ _ b = 1; unfold upI; split; (right; rfl); (exact h01 b h0 h1))) (by first | exact hSa | (show upI (A43 49) _ _ a = 1; unfold upI; split; rfl; exact hSa)) (by first | exact hso | (intro b h0 h1 h2; have h3 : upI (A43 49) _ _ b = 1 := h2; unfold upI at h3; split at h3; (first | (exfalso; omega) | (rename_i e9; rw [e9]; have h8 := hso _ (by omega) (by omega) (by omega : A43 49 ((A 36 i)) = 1); first | (rw [if_pos (by omega : ag = 0), if_pos (by omega : ag = 0)] at h8 ⊢; exact Rch_s h8 hi.1 (by omega)) | (rw [if_neg (by omega : ¬ ag = 0), if_neg (by omega : ¬ ag = 0)] at h8 ⊢; exact Rch_s h8 hi.1 (by omega)))); (exact hso b h0 h1 h3))) (fun h c h0 h1 => by first | omega | (by_cases e_ : c = i; (rw [e_]; first | (exfalso; omega) | (rw [if_pos (by omega : ag = 0), if_pos (by omega : ag = 0)]; omega) | (rw [if_neg (by omega : ¬ ag = 0), if_neg (by omega : ¬ ag = 0)]; omega)); (exact hcl h c h0 (by omega)))) (by first | exact hgr | (show sI (A34 49) (F 501) + 1 ≤ sI (upI (A43 49) _ 1) (F 501); omega)) (by omega) _ _ hP hD hS ls (lv_sub hl [3, 4, 5, 6, 0] rfl)
                        · refine lv_aload_n hx hb zd_X_comesToAll_108 rfl (lv_at hl 2 rfl) ?_
                          refine va_get (D := D) (ci := 5) (v := .ref (q 49)) (C := zR_X) (T := zT_X) (N := 34) hx hb hts zi_X hown hK.1 hP 5 ga_5 rfl 22 (by decide) (hts _ zw_555) (fun _ h9 => h9) rfl zd_X_comesToAll_109 ?_
                          refine lv_iload hx hb zd_X_comesToAll_112 (lv_at hl 0 rfl) ?_
                          refine x_bald (v := A43 49 (A 36 i)) hx hb hK.1 hP 49 2 ga_49 rfl (by decide) (by omega) (by omega) (rfl) zd_X_comesToAll_114 ?_
                          refine x_if_eq (tgt := 121) hx hb zd_X_comesToAll_115 (by decide) (⟨by omega, by omega⟩) (fun h_115 => ?_) (fun h_115 => ?_)
                          · have hup_ := sI_up (f := A43 49) (b := (A 36 i)) (y := 1) (n := F 501) (by omega) (by omega)
                            refine lv_aload_n hx hb zd_X_comesToAll_121 rfl (lv_at hl 2 rfl) ?_
                            refine va_get (D := D) (ci := 5) (v := .ref (q 49)) (C := zR_X) (T := zT_X) (N := 34) hx hb hts zi_X hown hK.1 hP 5 ga_5 rfl 22 (by decide) (hts _ zw_555) (fun _ h9 => h9) rfl zd_X_comesToAll_122 ?_
                            refine lv_iload hx hb zd_X_comesToAll_125 (lv_at hl 0 rfl) ?_
                            refine lv_iconst (v := iI (1)) hx hb zd_X_comesToAll_127 rfl ?_
                            refine x_bast hx hb hK.1 hP hD hS 49 2 ga_49 rfl (by decide) (by omega) (by omega) (by first | exact Or.inl rfl | exact Or.inr rfl | omega) zd_X_comesToAll_128 (fun H locs hP hD hS => ?_)
                            rw [gs_49] at hP hD
                            refine lv_iconst (v := iI (1)) hx hb zd_X_comesToAll_129 rfl ?_
                            refine lv_istore_n (lv' := [(3, .int (iI (1))), (6, .int (iI (A 36 i))), (5, .int (iI (A 36 i))), (0, .ref (q 5)), (1, .int (iI (a))), (2, .int (iI (ag))), (4, .int (iI (i)))]) hx hb zd_X_comesToAll_130 rfl hl (by decide) rfl (fun ls hl => ?_)
                            refine lv_iinc (v := iI (i + 1)) (lv' := [(4, .int (iI (i + 1))), (3, .int (iI (1))), (6, .int (iI (A 36 i))), (5, .int (iI (A 36 i))), (0, .ref (q 5)), (1, .int (iI (a))), (2, .int (iI (ag)))]) hx hb zd_X_comesToAll_131 hl (k := 6) rfl (iI_add _ _) (by decide) rfl (fun ls hl => ?_)
                            refine lv_goto (tgt := 43) hx hb zd_X_comesToAll_134 (by decide) ?_
                            exact ih_43 (1) (i + 1)  (auP A43 49 (A 36 i) 1) (by first | assumption | omega | (simp_all; done)) (by first | assumption | omega | (simp_all; done)) (by first | exact hk | exact fun k h => by simp only [auP, h, if_false]; exact hk k h) (by first | exact h01 | (intro b h0 h1; show upI (A43 49) _ _ b = 0 ∨ upI (A43 49) _ _ b = 1; unfold upI; split; (right; rfl); (exact h01 b h0 h1))) (by first | exact hSa | (show upI (A43 49) _ _ a = 1; unfold upI; split; rfl; exact hSa)) (by first | exact hso | (intro b h0 h1 h2; have h3 : upI (A43 49) _ _ b = 1 := h2; unfold upI at h3; split at h3; (first | (exfalso; omega) | (rename_i e9; rw [e9]; have h8 := hso _ (by omega) (by omega) (by omega : A43 49 ((A 36 i)) = 1); first | (rw [if_pos (by omega : ag = 0), if_pos (by omega : ag = 0)] at h8 ⊢; exact Rch_s h8 hi.1 (by omega)) | (rw [if_neg (by omega : ¬ ag = 0), if_neg (by omega : ¬ ag = 0)] at h8 ⊢; exact Rch_s h8 hi.1 (by omega)))); (exact hso b h0 h1 h3))) (fun h c h0 h1 => by first | omega | (by_cases e_ : c = i; (rw [e_]; first | (exfalso; omega) | (rw [if_pos (by omega : ag = 0), if_pos (by omega : ag = 0)]; omega) | (rw [if_neg (by omega : ¬ ag = 0), if_neg (by omega : ¬ ag = 0)]; omega)); (exact hcl h c h0 (by omega)))) (by first | exact hgr | (show sI (A34 49) (F 501) + 1 ≤ sI (upI (A43 49) _ 1) (F 501); omega)) (by omega) _ _ hP hD hS ls (lv_sub hl [4, 5, 6, 1, 0] rfl)
                          · refine lv_goto (tgt := 131) hx hb zd_X_comesToAll_118 (by decide) ?_
                            refine lv_iinc (v := iI (i + 1)) (lv' := [(4, .int (iI (i + 1))), (6, .int (iI (A 36 i))), (5, .int (iI (A 36 i))), (0, .ref (q 5)), (1, .int (iI (a))), (2, .int (iI (ag))), (3, .int (iI (r)))]) hx hb zd_X_comesToAll_131 hl (k := 6) rfl (iI_add _ _) (by decide) rfl (fun ls hl => ?_)
                            refine lv_goto (tgt := 43) hx hb zd_X_comesToAll_134 (by decide) ?_
                            exact ih_43 (r) (i + 1)  A43 (by first | assumption | omega | (simp_all; done)) (by first | assumption | omega | (simp_all; done)) (by first | exact hk | exact fun k h => by simp only [auP, h, if_false]; exact hk k h) (by first | exact h01 | (intro b h0 h1; show upI (A43 49) _ _ b = 0 ∨ upI (A43 49) _ _ b = 1; unfold upI; split; (right; rfl); (exact h01 b h0 h1))) (by first | exact hSa | (show upI (A43 49) _ _ a = 1; unfold upI; split; rfl; exact hSa)) (by first | exact hso | (intro b h0 h1 h2; have h3 : upI (A43 49) _ _ b = 1 := h2; unfold upI at h3; split at h3; (first | (exfalso; omega) | (rename_i e9; rw [e9]; have h8 := hso _ (by omega) (by omega) (by omega : A43 49 ((A 36 i)) = 1); first | (rw [if_pos (by omega : ag = 0), if_pos (by omega : ag = 0)] at h8 ⊢; exact Rch_s h8 hi.1 (by omega)) | (rw [if_neg (by omega : ¬ ag = 0), if_neg (by omega : ¬ ag = 0)] at h8 ⊢; exact Rch_s h8 hi.1 (by omega)))); (exact hso b h0 h1 h3))) (fun h c h0 h1 => by first | omega | (by_cases e_ : c = i; (rw [e_]; first | (exfalso; omega) | (rw [if_pos (by omega : ag = 0), if_pos (by omega : ag = 0)]; omega) | (rw [if_neg (by omega : ¬ ag = 0), if_neg (by omega : ¬ ag = 0)]; omega)); (exact hcl h c h0 (by omega)))) (by first | exact hgr | (show sI (A34 49) (F 501) + 1 ≤ sI (upI (A43 49) _ 1) (F 501); omega)) (by omega) _ _ hP hD hS ls (lv_sub hl [3, 4, 5, 6, 0] rfl)
                    · refine lv_aload_n hx hb zd_X_comesToAll_56 rfl (lv_at hl 0 rfl) ?_
                      refine va_get (D := D) (ci := 5) (v := .ref (q 37)) (C := zR_X) (T := zT_X) (N := 34) hx hb hts zi_X hown hK.1 hP 5 ga_5 rfl 5 (by decide) (hts _ zw_538) (fun _ h9 => h9) rfl zd_X_comesToAll_57 ?_
                      refine lv_iload hx hb zd_X_comesToAll_60 (lv_at hl 4 rfl) ?_
                      refine x_iald (v := A 37 i) hx hb hK.1 hP 37 0 ga_37 rfl (by decide) (by omega) (by omega) (by rw [e37]) zd_X_comesToAll_62 ?_
                      refine lv_goto (tgt := 73) hx hb zd_X_comesToAll_63 (by decide) ?_
                      refine lv_istore (lv' := [(5, .int (iI (A 37 i))), (0, .ref (q 5)), (1, .int (iI (a))), (2, .int (iI (ag))), (3, .int (iI (r))), (4, .int (iI (i)))]) hx hb zd_X_comesToAll_73 hl (by decide) rfl (fun ls hl => ?_)
                      refine lv_iload_n hx hb zd_X_comesToAll_75 rfl (lv_at hl 3 rfl) ?_
                      refine x_if_eq (tgt := 89) hx hb zd_X_comesToAll_76 (by decide) (⟨by omega, by omega⟩) (fun h_76 => ?_) (fun h_76 => ?_)
                      · refine lv_aload_n hx hb zd_X_comesToAll_89 rfl (lv_at hl 1 rfl) ?_
                        refine va_get (D := D) (ci := 5) (v := .ref (q 37)) (C := zR_X) (T := zT_X) (N := 34) hx hb hts zi_X hown hK.1 hP 5 ga_5 rfl 5 (by decide) (hts _ zw_538) (fun _ h9 => h9) rfl zd_X_comesToAll_90 ?_
                        refine lv_iload hx hb zd_X_comesToAll_93 (lv_at hl 5 rfl) ?_
                        refine x_iald (v := A 37 i) hx hb hK.1 hP 37 0 ga_37 rfl (by decide) (by omega) (by omega) (by rw [e37]) zd_X_comesToAll_95 ?_
                        refine lv_istore (lv' := [(6, .int (iI (A 37 i))), (5, .int (iI (A 37 i))), (0, .ref (q 5)), (1, .int (iI (a))), (2, .int (iI (ag))), (3, .int (iI (r))), (4, .int (iI (i)))]) hx hb zd_X_comesToAll_96 hl (by decide) rfl (fun ls hl => ?_)
                        have ht1_ := h01 (A 36 i) (by omega) (by omega)
                        have ht2_ := h01 (A 37 i) (by omega) (by omega)
                        refine lv_aload_n hx hb zd_X_comesToAll_98 rfl (lv_at hl 2 rfl) ?_
                        refine va_get (D := D) (ci := 5) (v := .ref (q 49)) (C := zR_X) (T := zT_X) (N := 34) hx hb hts zi_X hown hK.1 hP 5 ga_5 rfl 22 (by decide) (hts _ zw_555) (fun _ h9 => h9) rfl zd_X_comesToAll_99 ?_
                        refine lv_iload hx hb zd_X_comesToAll_102 (lv_at hl 1 rfl) ?_
                        refine x_bald (v := A43 49 (A 37 i)) hx hb hK.1 hP 49 2 ga_49 rfl (by decide) (by omega) (by omega) (rfl) zd_X_comesToAll_104 ?_
                        refine x_if_eq (tgt := 131) hx hb zd_X_comesToAll_105 (by decide) (⟨by omega, by omega⟩) (fun h_105 => ?_) (fun h_105 => ?_)
                        · refine lv_iinc (v := iI (i + 1)) (lv' := [(4, .int (iI (i + 1))), (6, .int (iI (A 37 i))), (5, .int (iI (A 37 i))), (0, .ref (q 5)), (1, .int (iI (a))), (2, .int (iI (ag))), (3, .int (iI (r)))]) hx hb zd_X_comesToAll_131 hl (k := 6) rfl (iI_add _ _) (by decide) rfl (fun ls hl => ?_)
                          refine lv_goto (tgt := 43) hx hb zd_X_comesToAll_134 (by decide) ?_
                          exact ih_43 (r) (i + 1)  A43 (by first | assumption | omega | (simp_all; done)) (by first | assumption | omega | (simp_all; done)) (by first | exact hk | exact fun k h => by simp only [auP, h, if_false]; exact hk k h) (by first | exact h01 | (intro b h0 h1; show upI (A43 49) _ _ b = 0 ∨ upI (A43 49) _ _ b = 1; unfold upI; split; (right; rfl); (exact h01 b h0 h1))) (by first | exact hSa | (show upI (A43 49) _ _ a = 1; unfold upI; split; rfl; exact hSa)) (by first | exact hso | (intro b h0 h1 h2; have h3 : upI (A43 49) _ _ b = 1 := h2; unfold upI at h3; split at h3; (first | (exfalso; omega) | (rename_i e9; rw [e9]; have h8 := hso _ (by omega) (by omega) (by omega : A43 49 ((A 37 i)) = 1); first | (rw [if_pos (by omega : ag = 0), if_pos (by omega : ag = 0)] at h8 ⊢; exact Rch_s h8 hi.1 (by omega)) | (rw [if_neg (by omega : ¬ ag = 0), if_neg (by omega : ¬ ag = 0)] at h8 ⊢; exact Rch_s h8 hi.1 (by omega)))); (exact hso b h0 h1 h3))) (fun h c h0 h1 => by first | omega | (by_cases e_ : c = i; (rw [e_]; first | (exfalso; omega) | (rw [if_pos (by omega : ag = 0), if_pos (by omega : ag = 0)]; omega) | (rw [if_neg (by omega : ¬ ag = 0), if_neg (by omega : ¬ ag = 0)]; omega)); (exact hcl h c h0 (by omega)))) (by first | exact hgr | (show sI (A34 49) (F 501) + 1 ≤ sI (upI (A43 49) _ 1) (F 501); omega)) (by omega) _ _ hP hD hS ls (lv_sub hl [3, 4, 5, 6, 0] rfl)
                        · refine lv_aload_n hx hb zd_X_comesToAll_108 rfl (lv_at hl 2 rfl) ?_
                          refine va_get (D := D) (ci := 5) (v := .ref (q 49)) (C := zR_X) (T := zT_X) (N := 34) hx hb hts zi_X hown hK.1 hP 5 ga_5 rfl 22 (by decide) (hts _ zw_555) (fun _ h9 => h9) rfl zd_X_comesToAll_109 ?_
                          refine lv_iload hx hb zd_X_comesToAll_112 (lv_at hl 0 rfl) ?_
                          refine x_bald (v := A43 49 (A 37 i)) hx hb hK.1 hP 49 2 ga_49 rfl (by decide) (by omega) (by omega) (rfl) zd_X_comesToAll_114 ?_
                          refine x_if_eq (tgt := 121) hx hb zd_X_comesToAll_115 (by decide) (⟨by omega, by omega⟩) (fun h_115 => ?_) (fun h_115 => ?_)
                          · have hup_ := sI_up (f := A43 49) (b := (A 37 i)) (y := 1) (n := F 501) (by omega) (by omega)
                            refine lv_aload_n hx hb zd_X_comesToAll_121 rfl (lv_at hl 2 rfl) ?_
                            refine va_get (D := D) (ci := 5) (v := .ref (q 49)) (C := zR_X) (T := zT_X) (N := 34) hx hb hts zi_X hown hK.1 hP 5 ga_5 rfl 22 (by decide) (hts _ zw_555) (fun _ h9 => h9) rfl zd_X_comesToAll_122 ?_
                            refine lv_iload hx hb zd_X_comesToAll_125 (lv_at hl 0 rfl) ?_
                            refine lv_iconst (v := iI (1)) hx hb zd_X_comesToAll_127 rfl ?_
                            refine x_bast hx hb hK.1 hP hD hS 49 2 ga_49 rfl (by decide) (by omega) (by omega) (by first | exact Or.inl rfl | exact Or.inr rfl | omega) zd_X_comesToAll_128 (fun H locs hP hD hS => ?_)
                            rw [gs_49] at hP hD
                            refine lv_iconst (v := iI (1)) hx hb zd_X_comesToAll_129 rfl ?_
                            refine lv_istore_n (lv' := [(3, .int (iI (1))), (6, .int (iI (A 37 i))), (5, .int (iI (A 37 i))), (0, .ref (q 5)), (1, .int (iI (a))), (2, .int (iI (ag))), (4, .int (iI (i)))]) hx hb zd_X_comesToAll_130 rfl hl (by decide) rfl (fun ls hl => ?_)
                            refine lv_iinc (v := iI (i + 1)) (lv' := [(4, .int (iI (i + 1))), (3, .int (iI (1))), (6, .int (iI (A 37 i))), (5, .int (iI (A 37 i))), (0, .ref (q 5)), (1, .int (iI (a))), (2, .int (iI (ag)))]) hx hb zd_X_comesToAll_131 hl (k := 6) rfl (iI_add _ _) (by decide) rfl (fun ls hl => ?_)
                            refine lv_goto (tgt := 43) hx hb zd_X_comesToAll_134 (by decide) ?_
                            exact ih_43 (1) (i + 1)  (auP A43 49 (A 37 i) 1) (by first | assumption | omega | (simp_all; done)) (by first | assumption | omega | (simp_all; done)) (by first | exact hk | exact fun k h => by simp only [auP, h, if_false]; exact hk k h) (by first | exact h01 | (intro b h0 h1; show upI (A43 49) _ _ b = 0 ∨ upI (A43 49) _ _ b = 1; unfold upI; split; (right; rfl); (exact h01 b h0 h1))) (by first | exact hSa | (show upI (A43 49) _ _ a = 1; unfold upI; split; rfl; exact hSa)) (by first | exact hso | (intro b h0 h1 h2; have h3 : upI (A43 49) _ _ b = 1 := h2; unfold upI at h3; split at h3; (first | (exfalso; omega) | (rename_i e9; rw [e9]; have h8 := hso _ (by omega) (by omega) (by omega : A43 49 ((A 37 i)) = 1); first | (rw [if_pos (by omega : ag = 0), if_pos (by omega : ag = 0)] at h8 ⊢; exact Rch_s h8 hi.1 (by omega)) | (rw [if_neg (by omega : ¬ ag = 0), if_neg (by omega : ¬ ag = 0)] at h8 ⊢; exact Rch_s h8 hi.1 (by omega)))); (exact hso b h0 h1 h3))) (fun h c h0 h1 => by first | omega | (by_cases e_ : c = i; (rw [e_]; first | (exfalso; omega) | (rw [if_pos (by omega : ag = 0), if_pos (by omega : ag = 0)]; omega) | (rw [if_neg (by omega : ¬ ag = 0), if_neg (by omega : ¬ ag = 0)]; omega)); (exact hcl h c h0 (by omega)))) (by first | exact hgr | (show sI (A34 49) (F 501) + 1 ≤ sI (upI (A43 49) _ 1) (F 501); omega)) (by omega) _ _ hP hD hS ls (lv_sub hl [4, 5, 6, 1, 0] rfl)
                          · refine lv_goto (tgt := 131) hx hb zd_X_comesToAll_118 (by decide) ?_
                            refine lv_iinc (v := iI (i + 1)) (lv' := [(4, .int (iI (i + 1))), (6, .int (iI (A 37 i))), (5, .int (iI (A 37 i))), (0, .ref (q 5)), (1, .int (iI (a))), (2, .int (iI (ag))), (3, .int (iI (r)))]) hx hb zd_X_comesToAll_131 hl (k := 6) rfl (iI_add _ _) (by decide) rfl (fun ls hl => ?_)
                            refine lv_goto (tgt := 43) hx hb zd_X_comesToAll_134 (by decide) ?_
                            exact ih_43 (r) (i + 1)  A43 (by first | assumption | omega | (simp_all; done)) (by first | assumption | omega | (simp_all; done)) (by first | exact hk | exact fun k h => by simp only [auP, h, if_false]; exact hk k h) (by first | exact h01 | (intro b h0 h1; show upI (A43 49) _ _ b = 0 ∨ upI (A43 49) _ _ b = 1; unfold upI; split; (right; rfl); (exact h01 b h0 h1))) (by first | exact hSa | (show upI (A43 49) _ _ a = 1; unfold upI; split; rfl; exact hSa)) (by first | exact hso | (intro b h0 h1 h2; have h3 : upI (A43 49) _ _ b = 1 := h2; unfold upI at h3; split at h3; (first | (exfalso; omega) | (rename_i e9; rw [e9]; have h8 := hso _ (by omega) (by omega) (by omega : A43 49 ((A 37 i)) = 1); first | (rw [if_pos (by omega : ag = 0), if_pos (by omega : ag = 0)] at h8 ⊢; exact Rch_s h8 hi.1 (by omega)) | (rw [if_neg (by omega : ¬ ag = 0), if_neg (by omega : ¬ ag = 0)] at h8 ⊢; exact Rch_s h8 hi.1 (by omega)))); (exact hso b h0 h1 h3))) (fun h c h0 h1 => by first | omega | (by_cases e_ : c = i; (rw [e_]; first | (exfalso; omega) | (rw [if_pos (by omega : ag = 0), if_pos (by omega : ag = 0)]; omega) | (rw [if_neg (by omega : ¬ ag = 0), if_neg (by omega : ¬ ag = 0)]; omega)); (exact hcl h c h0 (by omega)))) (by first | exact hgr | (show sI (A34 49) (F 501) + 1 ≤ sI (upI (A43 49) _ 1) (F 501); omega)) (by omega) _ _ hP hD hS ls (lv_sub hl [3, 4, 5, 6, 0] rfl)
                      · refine lv_aload_n hx hb zd_X_comesToAll_79 rfl (lv_at hl 1 rfl) ?_
                        refine va_get (D := D) (ci := 5) (v := .ref (q 36)) (C := zR_X) (T := zT_X) (N := 34) hx hb hts zi_X hown hK.1 hP 5 ga_5 rfl 4 (by decide) (hts _ zw_537) (fun _ h9 => h9) rfl zd_X_comesToAll_80 ?_
                        refine lv_iload hx hb zd_X_comesToAll_83 (lv_at hl 5 rfl) ?_
                        refine x_iald (v := A 36 i) hx hb hK.1 hP 36 0 ga_36 rfl (by decide) (by omega) (by omega) (by rw [e36]) zd_X_comesToAll_85 ?_
                        refine lv_goto (tgt := 96) hx hb zd_X_comesToAll_86 (by decide) ?_
                        refine lv_istore (lv' := [(6, .int (iI (A 36 i))), (5, .int (iI (A 37 i))), (0, .ref (q 5)), (1, .int (iI (a))), (2, .int (iI (ag))), (3, .int (iI (r))), (4, .int (iI (i)))]) hx hb zd_X_comesToAll_96 hl (by decide) rfl (fun ls hl => ?_)
                        have ht1_ := h01 (A 36 i) (by omega) (by omega)
                        have ht2_ := h01 (A 37 i) (by omega) (by omega)
                        refine lv_aload_n hx hb zd_X_comesToAll_98 rfl (lv_at hl 2 rfl) ?_
                        refine va_get (D := D) (ci := 5) (v := .ref (q 49)) (C := zR_X) (T := zT_X) (N := 34) hx hb hts zi_X hown hK.1 hP 5 ga_5 rfl 22 (by decide) (hts _ zw_555) (fun _ h9 => h9) rfl zd_X_comesToAll_99 ?_
                        refine lv_iload hx hb zd_X_comesToAll_102 (lv_at hl 1 rfl) ?_
                        refine x_bald (v := A43 49 (A 37 i)) hx hb hK.1 hP 49 2 ga_49 rfl (by decide) (by omega) (by omega) (rfl) zd_X_comesToAll_104 ?_
                        refine x_if_eq (tgt := 131) hx hb zd_X_comesToAll_105 (by decide) (⟨by omega, by omega⟩) (fun h_105 => ?_) (fun h_105 => ?_)
                        · refine lv_iinc (v := iI (i + 1)) (lv' := [(4, .int (iI (i + 1))), (6, .int (iI (A 36 i))), (5, .int (iI (A 37 i))), (0, .ref (q 5)), (1, .int (iI (a))), (2, .int (iI (ag))), (3, .int (iI (r)))]) hx hb zd_X_comesToAll_131 hl (k := 6) rfl (iI_add _ _) (by decide) rfl (fun ls hl => ?_)
                          refine lv_goto (tgt := 43) hx hb zd_X_comesToAll_134 (by decide) ?_
                          exact ih_43 (r) (i + 1)  A43 (by first | assumption | omega | (simp_all; done)) (by first | assumption | omega | (simp_all; done)) (by first | exact hk | exact fun k h => by simp only [auP, h, if_false]; exact hk k h) (by first | exact h01 | (intro b h0 h1; show upI (A43 49) _ _ b = 0 ∨ upI (A43 49) _ _ b = 1; unfold upI; split; (right; rfl); (exact h01 b h0 h1))) (by first | exact hSa | (show upI (A43 49) _ _ a = 1; unfold upI; split; rfl; exact hSa)) (by first | exact hso | (intro b h0 h1 h2; have h3 : upI (A43 49) _ _ b = 1 := h2; unfold upI at h3; split at h3; (first | (exfalso; omega) | (rename_i e9; rw [e9]; have h8 := hso _ (by omega) (by omega) (by omega : A43 49 ((A 37 i)) = 1); first | (rw [if_pos (by omega : ag = 0), if_pos (by omega : ag = 0)] at h8 ⊢; exact Rch_s h8 hi.1 (by omega)) | (rw [if_neg (by omega : ¬ ag = 0), if_neg (by omega : ¬ ag = 0)] at h8 ⊢; exact Rch_s h8 hi.1 (by omega)))); (exact hso b h0 h1 h3))) (fun h c h0 h1 => by first | omega | (by_cases e_ : c = i; (rw [e_]; first | (exfalso; omega) | (rw [if_pos (by omega : ag = 0), if_pos (by omega : ag = 0)]; omega) | (rw [if_neg (by omega : ¬ ag = 0), if_neg (by omega : ¬ ag = 0)]; omega)); (exact hcl h c h0 (by omega)))) (by first | exact hgr | (show sI (A34 49) (F 501) + 1 ≤ sI (upI (A43 49) _ 1) (F 501); omega)) (by omega) _ _ hP hD hS ls (lv_sub hl [3, 4, 5, 6, 0] rfl)
                        · refine lv_aload_n hx hb zd_X_comesToAll_108 rfl (lv_at hl 2 rfl) ?_
                          refine va_get (D := D) (ci := 5) (v := .ref (q 49)) (C := zR_X) (T := zT_X) (N := 34) hx hb hts zi_X hown hK.1 hP 5 ga_5 rfl 22 (by decide) (hts _ zw_555) (fun _ h9 => h9) rfl zd_X_comesToAll_109 ?_
                          refine lv_iload hx hb zd_X_comesToAll_112 (lv_at hl 0 rfl) ?_
                          refine x_bald (v := A43 49 (A 36 i)) hx hb hK.1 hP 49 2 ga_49 rfl (by decide) (by omega) (by omega) (rfl) zd_X_comesToAll_114 ?_
                          refine x_if_eq (tgt := 121) hx hb zd_X_comesToAll_115 (by decide) (⟨by omega, by omega⟩) (fun h_115 => ?_) (fun h_115 => ?_)
                          · have hup_ := sI_up (f := A43 49) (b := (A 36 i)) (y := 1) (n := F 501) (by omega) (by omega)
                            refine lv_aload_n hx hb zd_X_comesToAll_121 rfl (lv_at hl 2 rfl) ?_
                            refine va_get (D := D) (ci := 5) (v := .ref (q 49)) (C := zR_X) (T := zT_X) (N := 34) hx hb hts zi_X hown hK.1 hP 5 ga_5 rfl 22 (by decide) (hts _ zw_555) (fun _ h9 => h9) rfl zd_X_comesToAll_122 ?_
                            refine lv_iload hx hb zd_X_comesToAll_125 (lv_at hl 0 rfl) ?_
                            refine lv_iconst (v := iI (1)) hx hb zd_X_comesToAll_127 rfl ?_
                            refine x_bast hx hb hK.1 hP hD hS 49 2 ga_49 rfl (by decide) (by omega) (by omega) (by first | exact Or.inl rfl | exact Or.inr rfl | omega) zd_X_comesToAll_128 (fun H locs hP hD hS => ?_)
                            rw [gs_49] at hP hD
                            refine lv_iconst (v := iI (1)) hx hb zd_X_comesToAll_129 rfl ?_
                            refine lv_istore_n (lv' := [(3, .int (iI (1))), (6, .int (iI (A 36 i))), (5, .int (iI (A 37 i))), (0, .ref (q 5)), (1, .int (iI (a))), (2, .int (iI (ag))), (4, .int (iI (i)))]) hx hb zd_X_comesToAll_130 rfl hl (by decide) rfl (fun ls hl => ?_)
                            refine lv_iinc (v := iI (i + 1)) (lv' := [(4, .int (iI (i + 1))), (3, .int (iI (1))), (6, .int (iI (A 36 i))), (5, .int (iI (A 37 i))), (0, .ref (q 5)), (1, .int (iI (a))), (2, .int (iI (ag)))]) hx hb zd_X_comesToAll_131 hl (k := 6) rfl (iI_add _ _) (by decide) rfl (fun ls hl => ?_)
                            refine lv_goto (tgt := 43) hx hb zd_X_comesToAll_134 (by decide) ?_
                            exact ih_43 (1) (i + 1)  (auP A43 49 (A 36 i) 1) (by first | assumption | omega | (simp_all; done)) (by first | assumption | omega | (simp_all; done)) (by first | exact hk | exact fun k h => by simp only [auP, h, if_false]; exact hk k h) (by first | exact h01 | (intro b h0 h1; show upI (A43 49) _ _ b = 0 ∨ upI (A43 49) _ _ b = 1; unfold upI; split; (right; rfl); (exact h01 b h0 h1))) (by first | exact hSa | (show upI (A43 49) _ _ a = 1; unfold upI; split; rfl; exact hSa)) (by first | exact hso | (intro b h0 h1 h2; have h3 : upI (A43 49) _ _ b = 1 := h2; unfold upI at h3; split at h3; (first | (exfalso; omega) | (rename_i e9; rw [e9]; have h8 := hso _ (by omega) (by omega) (by omega : A43 49 ((A 37 i)) = 1); first | (rw [if_pos (by omega : ag = 0), if_pos (by omega : ag = 0)] at h8 ⊢; exact Rch_s h8 hi.1 (by omega)) | (rw [if_neg (by omega : ¬ ag = 0), if_neg (by omega : ¬ ag = 0)] at h8 ⊢; exact Rch_s h8 hi.1 (by omega)))); (exact hso b h0 h1 h3))) (fun h c h0 h1 => by first | omega | (by_cases e_ : c = i; (rw [e_]; first | (exfalso; omega) | (rw [if_pos (by omega : ag = 0), if_pos (by omega : ag = 0)]; omega) | (rw [if_neg (by omega : ¬ ag = 0), if_neg (by omega : ¬ ag = 0)]; omega)); (exact hcl h c h0 (by omega)))) (by first | exact hgr | (show sI (A34 49) (F 501) + 1 ≤ sI (upI (A43 49) _ 1) (F 501); omega)) (by omega) _ _ hP hD hS ls (lv_sub hl [4, 5, 6, 1, 0] rfl)
                          · refine lv_goto (tgt := 131) hx hb zd_X_comesToAll_118 (by decide) ?_
                            refine lv_iinc (v := iI (i + 1)) (lv' := [(4, .int (iI (i + 1))), (6, .int (iI (A 36 i))), (5, .int (iI (A 37 i))), (0, .ref (q 5)), (1, .int (iI (a))), (2, .int (iI (ag))), (3, .int (iI (r)))]) hx hb zd_X_comesToAll_131 hl (k := 6) rfl (iI_add _ _) (by decide) rfl (fun ls hl => ?_)
                            refine lv_goto (tgt := 43) hx hb zd_X_comesToAll_134 (by decide) ?_
                            exact ih_43 (r) (i + 1)  A43 (by first | assumption | omega | (simp_all; done)) (by first | assumption | omega | (simp_all; done)) (by first | exact hk | exact fun k h => by simp only [auP, h, if_false]; exact hk k h) (by first | exact h01 | (intro b h0 h1; show upI (A43 49) _ _ b = 0 ∨ upI (A43 49) _ _ b = 1; unfold upI; split; (right; rfl); (exact h01 b h0 h1))) (by first | exact hSa | (show upI (A43 49) _ _ a = 1; unfold upI; split; rfl; exact hSa)) (by first | exact hso | (intro b h0 h1 h2; have h3 : upI (A43 49) _ _ b = 1 := h2; unfold upI at h3; split at h3; (first | (exfalso; omega) | (rename_i e9; rw [e9]; have h8 := hso _ (by omega) (by omega) (by omega : A43 49 ((A 37 i)) = 1); first | (rw [if_pos (by omega : ag = 0), if_pos (by omega : ag = 0)] at h8 ⊢; exact Rch_s h8 hi.1 (by omega)) | (rw [if_neg (by omega : ¬ ag = 0), if_neg (by omega : ¬ ag = 0)] at h8 ⊢; exact Rch_s h8 hi.1 (by omega)))); (exact hso b h0 h1 h3))) (fun h c h0 h1 => by first | omega | (by_cases e_ : c = i; (rw [e_]; first | (exfalso; omega) | (rw [if_pos (by omega : ag = 0), if_pos (by omega : ag = 0)]; omega) | (rw [if_neg (by omega : ¬ ag = 0), if_neg (by omega : ¬ ag = 0)]; omega)); (exact hcl h c h0 (by omega)))) (by first | exact hgr | (show sI (A34 49) (F 501) + 1 ≤ sI (upI (A43 49) _ 1) (F 501); omega)) (by omega) _ _ hP hD hS ls (lv_sub hl [3, 4, 5, 6, 0] rfl)
              exact L_43 (((F 502 - (0) : Int) + 1).toNat) (0) (0)  A34 (by first | assumption | omega | (simp_all; done)) (by first | assumption | omega | (simp_all; done)) (hk) (h01) (hSa) (hso) (fun _ c h0 h1 => by omega) (by omega) (by omega) _ _ hP hD hS ls (lv_sub hl [2, 3, 4, 1, 0] rfl)
        exact L_34 (((2 * (F 501 - sI (A2 49) (F 501)) + (1) : Int) + 1).toNat) (1)  A2 (by first | assumption | omega | (simp_all; done)) (hk) (fun b h0 h1 => by rw [hs b h0 (by omega)]; split <;> simp) (by rw [hs a ha.1 (by omega), if_pos rfl]) (fun b h0 h1 h2 => by rw [hs b h0 (by omega)] at h2; by_cases e_ : b = a; (rw [e_]; exact fun S h _ => h); (rw [if_neg e_] at h2; omega)) (fun h => by omega) (by omega) _ _ hP hD hS ls (lv_sub hl [1, 2, 3, 0] rfl)
      · refine lv_aload_n hx hb zd_X_comesToAll_10 rfl (lv_at hl 0 rfl) ?_
        refine va_get (D := D) (ci := 5) (v := .ref (q 49)) (C := zR_X) (T := zT_X) (N := 34) hx hb hts zi_X hown hK.1 hP 5 ga_5 rfl 22 (by decide) (hts _ zw_555) (fun _ h9 => h9) rfl zd_X_comesToAll_11 ?_
        refine lv_iload_n hx hb zd_X_comesToAll_14 rfl (lv_at hl 3 rfl) ?_
        refine lv_iload_n hx hb zd_X_comesToAll_15 rfl (lv_at hl 3 rfl) ?_
        refine lv_iload_n hx hb zd_X_comesToAll_16 rfl (lv_at hl 1 rfl) ?_
        refine x_icmp_ne (tgt := 24) hx hb zd_X_comesToAll_17 (by decide) (⟨by omega, by omega⟩) (⟨by omega, by omega⟩) (fun h_17 => ?_) (fun h_17 => ?_)
        · refine lv_iconst (v := iI (0)) hx hb zd_X_comesToAll_24 rfl ?_
          refine x_bast hx hb hK.1 hP hD hS 49 2 ga_49 rfl (by decide) (by omega) (by omega) (by first | exact Or.inl rfl | exact Or.inr rfl | omega) zd_X_comesToAll_25 (fun H locs hP hD hS => ?_)
          rw [gs_49] at hP hD
          refine lv_iinc (v := iI (i + 1)) (lv' := [(3, .int (iI (i + 1))), (0, .ref (q 5)), (1, .int (iI (a))), (2, .int (iI (ag)))]) hx hb zd_X_comesToAll_26 hl (k := 3) rfl (iI_add _ _) (by decide) rfl (fun ls hl => ?_)
          refine lv_goto (tgt := 2) hx hb zd_X_comesToAll_29 (by decide) ?_
          exact ih_2 (i + 1)  (auP A2 49 i 0) (by first | assumption | omega | (simp_all; done)) (fun k h => by simp [auP, h, hk k h]) (fun b h0 h1 => by show upI (A2 49) i _ b = _; by_cases e_ : b = i; (rw [e_, upI_s]; first | rw [if_pos h_17] | rw [if_neg h_17]); (rw [upI_n e_]; exact hs b h0 (by omega))) (by omega) _ _ hP hD hS ls (lv_sub hl [1, 2, 3, 0] rfl)
        · refine lv_iconst (v := iI (1)) hx hb zd_X_comesToAll_20 rfl ?_
          refine lv_goto (tgt := 25) hx hb zd_X_comesToAll_21 (by decide) ?_
          refine x_bast hx hb hK.1 hP hD hS 49 2 ga_49 rfl (by decide) (by omega) (by omega) (by first | exact Or.inl rfl | exact Or.inr rfl | omega) zd_X_comesToAll_25 (fun H locs hP hD hS => ?_)
          rw [gs_49] at hP hD
          refine lv_iinc (v := iI (i + 1)) (lv' := [(3, .int (iI (i + 1))), (0, .ref (q 5)), (1, .int (iI (a))), (2, .int (iI (ag)))]) hx hb zd_X_comesToAll_26 hl (k := 3) rfl (iI_add _ _) (by decide) rfl (fun ls hl => ?_)
          refine lv_goto (tgt := 2) hx hb zd_X_comesToAll_29 (by decide) ?_
          exact ih_2 (i + 1)  (auP A2 49 i 1) (by first | assumption | omega | (simp_all; done)) (fun k h => by simp [auP, h, hk k h]) (fun b h0 h1 => by show upI (A2 49) i _ b = _; by_cases e_ : b = i; (rw [e_, upI_s]; first | rw [if_pos h_17] | rw [if_neg h_17]); (rw [upI_n e_]; exact hs b h0 (by omega))) (by omega) _ _ hP hD hS ls (lv_sub hl [1, 2, 3, 0] rfl)
  exact L_2 (((F 501 - (0) : Int) + 1).toNat) (0)  A (by first | assumption | omega | (simp_all; done)) (fun k _ => rfl) (fun b h0 h1 => by omega) (by omega) _ _ hP hD hS ls (lv_sub hl [1, 2, 3, 0] rfl)
