/-! The law's start: the machine's tables as the walk wants them, the three things made, the claim -/
theorem zK_ex {s : State} {args : Array Value} (hts : ∀ w ∈ lw_tbl, w.before args s = true) : ∃ (D : va_G) (c : Nat → ClassId), va_K D zcl (zty c) s := by
  have hz : ∀ w ∈ zG, w.before args s = true := fun w h => hts w (List.mem_filter.mp h).1
  obtain ⟨c0, i0, k0⟩ := u_known (C := zR_C) (T := zT_C) (N := 4) (n := 4) hz zi_C (hz _ zw_15)
  obtain ⟨c1, i1, k1⟩ := u_known (C := zR_N) (T := zT_N) (N := 11) (n := 11) hz zi_N (hz _ zw_23)
  obtain ⟨c2, i2, k2⟩ := u_known (C := zR_U) (T := zT_U) (N := 6) (n := 6) hz zi_U (hz _ zw_95)
  obtain ⟨c3, i3, k3⟩ := u_known (C := zR_P) (T := zT_P) (N := 13) (n := 13) hz zi_P (hz _ zw_125)
  obtain ⟨c4, i4, k4⟩ := u_known (C := zR_M) (T := zT_M) (N := 1) (n := 1) hz zi_M (hz _ zw_174)
  obtain ⟨c5, i5, k5⟩ := u_known (C := zR_X) (T := zT_X) (N := 34) (n := 34) hz zi_X (hz _ zw_528)
  obtain ⟨a0, ka0, co0, f0, g0, h0⟩ := Cond.arrayClass_spec (hz _ zw_93)
  obtain ⟨a1, ka1, co1, f1, g1, h1⟩ := Cond.arrayClass_spec (hz _ zw_636)
  obtain ⟨a2, ka2, co2, f2, g2, h2⟩ := Cond.arrayClass_spec (hz _ zw_637)
  obtain ⟨co3, a3, ka3, -, g3, h3, f3⟩ := Cond.arrayOver_specA (hts (.arrayOver (.array .int)) (by decide +kernel))
  refine ⟨(fun k => match k with | 0 => c0 | 1 => c1 | 2 => c2 | 3 => c3 | 4 => c4 | _ => c5, fun k => match k with | 0 => i0 | 1 => i1 | 2 => i2 | 3 => i3 | 4 => i4 | _ => i5), fun k => match k with | 0 => a0 | 1 => a1 | 2 => a2 | _ => a3, ?_, ?_⟩
  · intro k q hq
    match k, hq with
    | 0, hq => cases hq; exact k0
    | 1, hq => cases hq; exact k1
    | 2, hq => cases hq; exact k2
    | 3, hq => cases hq; exact k3
    | 4, hq => cases hq; exact k4
    | 5, hq => cases hq; exact k5
    | k + 6, hq => simp [zcl] at hq
  · intro k q hq
    match k, hq with
    | 0, hq => cases hq; exact ⟨fun n z => ⟨(fun k h => by cases h), ka0, g0, co0, h0⟩, f0⟩
    | 1, hq => cases hq; exact ⟨fun n z => ⟨(fun k h => by cases h), ka1, g1, co1, h1⟩, f1⟩
    | 2, hq => cases hq; exact ⟨fun n z => ⟨(fun k h => by cases h), ka2, g2, co2, h2⟩, f2⟩
    | 3, hq => cases hq; exact ⟨fun n z => ⟨(fun k h => by cases h), ka3, g3, co3, h3⟩, f3⟩
    | k + 4, hq => simp [zty] at hq
theorem zTH.of {s : State} {args : Array Value} (h : ∀ w ∈ thD ++ thS ++ thL ++ thI, w.before args s = true) : zTH s := by
  intro w hw a
  have hl1 := h (.laysStatic Bundle.tN "UNASSIGNED_STACK" Bundle.steD) (by simp [thL])
  have hl2 := h (.laysStatic Bundle.tN "SUPPRESSED_SENTINEL" Bundle.listD) (by simp [thL])
  have hW := State.WarmedH.refl s
  have hh : ∀ q : Nat, q < s.heap.size → s.heap[q]? = s.heap[q]? := fun _ _ => rfl
  have h0 := h w hw
  simp only [thD, thS, thL, thI, List.cons_append, List.nil_append, List.mem_cons, List.not_mem_nil, or_false] at hw
  rcases hw with rfl | rfl | rfl | rfl | rfl | rfl | rfl | rfl | rfl | rfl | rfl | rfl | rfl
  all_goals first | exact va_Nw.use rfl (va_Nw.warmD hW (va_Nw.of rfl h0)) | exact th_str hW h0 | exact th_lays hW.alike hh h0 | exact th_isref hW.alike hh hl1 h0 | exact th_isref hW.alike hh hl2 h0
theorem zTH_ex {s : State} {args : Array Value} (hts : ∀ w ∈ lw_tbl, w.before args s = true) (hgv : (Jvm.Cond.and given_1 narrow_1).before args s = true) : zTH s := by
  have hs := flat_of_before _ hgv
  refine zTH.of (args := args) (fun w hw => ?_)
  have h1 : ∀ w ∈ thD ++ thS ++ thL, w ∈ lw_tbl := by decide +kernel
  rcases List.mem_append.mp hw with h | h
  · exact hts w (h1 w h)
  · simp only [thI, List.mem_cons, List.not_mem_nil, or_false] at h
    rcases h with rfl | rfl
    · exact hs _ (by decide +kernel)
    · exact hs _ (by decide +kernel)
theorem zAs_ex {s : State} {args : Array Value} (hts : ∀ w ∈ lw_tbl, w.before args s = true) (hgv : (Jvm.Cond.and given_1 narrow_1).before args s = true) : zAs s := by
  have hs := flat_of_before _ hgv
  have one : ∀ X : String, (Cond.castable X X).before args s = true → ∃ c, s.vm.findClass X = some c ∧ s.vm.assignable c c = true := fun X h => by
    obtain ⟨c, t, h1, h2, h3⟩ := Cond.castable_spec h
    obtain rfl := Option.some.inj (h1.symm.trans h2)
    exact ⟨c, h1, h3⟩
  refine ⟨fun X hX => ?_, va_Nc.of (hs (.not (.castable _ _)) (by decide +kernel)), va_Nc.of (hs (.not (.castable _ _)) (by decide +kernel)), va_Nc.of (hs (.not (.castable _ _)) (by decide +kernel))⟩
  simp only [List.mem_cons, List.not_mem_nil, or_false] at hX
  rcases hX with rfl | rfl | rfl
  · exact one _ (hts _ (by decide +kernel))
  · exact one _ (hts _ (by decide +kernel))
  · exact one _ (hts _ (by decide +kernel))
theorem INV_start {F : Nat → Int} {A : Nat → Int → Int} (h1 : F 100 = 1) (h2 : F 101 = 0) (h3 : F 102 = -1) (h4 : F 200 = 0) (h5 : F 300 = -1) (h6 : F 501 = 1) (h7 : F 502 = 0) (h8 : F 509 = 0) (ha : ∀ a, 0 ≤ a → a < 8 → A 6 a = 1 ∧ A 7 a = 1 ∧ A 8 a = a) (hx : ∀ a, 0 ≤ a → a < 8 → A 35 a = 1) : INV F A := by
  refine ⟨⟨by omega, by omega, fun a a0 a1 => ?_, fun a a0 a1 => ?_, fun k k0 k1 => by omega, ?_⟩, ⟨by omega, by omega, fun a a0 a1 => ?_, fun k k0 k1 => by omega⟩, ⟨Or.inl h4, fun h => by omega⟩, ⟨by omega, fun h => by omega⟩, ⟨Or.inl h8, fun h => by omega⟩⟩
  · have h9 := ha a a0 a1; omega
  · have h9 := ha a a0 a1; omega
  · rw [h1, h2, h3]
    exact NET_0 ⟨by decide, by decide⟩ (fun a a0 a1 => (ha a a0 a1).2)
  · rw [hx a a0 a1, (ha a a0 a1).1]
def mgQ (o r : Nat) (qN qU qP qM qX : Nat → Nat) : Nat → Nat := fun k => cond (Nat.ble k 0) o (cond (Nat.ble k 1) (qN k) (cond (Nat.ble k 2) (qU k) (cond (Nat.ble k 3) (qP k) (cond (Nat.ble k 4) (qM k) (cond (Nat.ble k 5) (qX k) (cond (Nat.ble k 13) (qN k) (cond (Nat.ble k 17) (qU k) (cond (Nat.ble k 25) (qP k) (cond (Nat.ble k 34) (qM k) (cond (Nat.ble k 56) (qX k) r))))))))))
def mgF (FN FU FP FX : Nat → Int) : Nat → Int := fun k => cond (Nat.ble k 199) (FN k) (cond (Nat.ble k 299) (FU k) (cond (Nat.ble k 499) (FP k) (FX k)))
def mgA (AN AU AP AM AX : Nat → Int → Int) : Nat → Int → Int := fun k => cond (Nat.ble k 13) (AN k) (cond (Nat.ble k 17) (AU k) (cond (Nat.ble k 25) (AP k) (cond (Nat.ble k 34) (AM k) (cond (Nat.ble k 56) (AX k) (fun _ => 0)))))
section MG
variable {o r : Nat} {c : Nat → ClassId} {qN qU qP qM qX : Nat → Nat} {FN FU FP FM FX : Nat → Int} {AN AU AP AM AX : Nat → Int → Int}
theorem mg_gm : gm qM c FM AM = gm (mgQ o r qN qU qP qM qX) c FM AM := by
  have h : (fun i : Nat => if i < 8 then some (qM (27 + i)) else none) = (fun i : Nat => if i < 8 then some (mgQ o r qN qU qP qM qX (27 + i)) else none) := funext fun i => by
    by_cases h : i < 8
    · rcases (show i = 0 ∨ i = 1 ∨ i = 2 ∨ i = 3 ∨ i = 4 ∨ i = 5 ∨ i = 6 ∨ i = 7 by omega) with rfl | rfl | rfl | rfl | rfl | rfl | rfl | rfl
      all_goals rfl
    · simp only [if_neg h]
  unfold gm
  rw [h]
  rfl
abbrev mgW (o r : Nat) (c : Nat → ClassId) (qN qU qP qM qX : Nat → Nat) (FN FU FP FM FX : Nat → Int) (AN AU AP AM AX : Nat → Int → Int) : va_W := ((((([(o, .inr (0, [.ref (qN 1), .ref (qU 2), .ref (qP 3), .ref (qM 4)]))] ++ gn qN c FN AN) ++ gr qU c FU AU) ++ gp qP c FP AP) ++ gm qM c FM AM) ++ gx qX c FX AX) ++ [(r, .inl (c 1, 1, .inr (.inl (aL (fun _ => 0)))))]
abbrev mgI : List Nat := [0, 1, 10, 15, 24, 34, 2, 3, 4, 5, 6, 7, 8, 9, 11, 12, 13, 14, 16, 17, 18, 19, 20, 21, 22, 23, 25, 26, 27, 28, 29, 30, 31, 32, 33, 35, 36, 37, 38, 39, 40, 41, 42, 43, 44, 45, 46, 47, 48, 49, 50, 51, 52, 53, 54, 55, 56, 57]
set_option maxRecDepth 100000 in
theorem mg_eq : mgI.filterMap (fun i => (mgW o r c qN qU qP qM qX FN FU FP FM FX AN AU AP AM AX)[i]?) = gw (mgQ o r qN qU qP qM qX) c (mgF FN FU FP FX) (mgA AN AU AP AM AX) := by
  unfold mgW
  rw [mg_gm (o := o) (r := r) (qN := qN) (qU := qU) (qP := qP) (qX := qX)]
  rfl
set_option maxRecDepth 100000 in
theorem mg_eqM : mgI.map (fun i => (mgW o r c qN qU qP qM qX FN FU FP FM FX AN AU AP AM AX)[i]?) = (gw (mgQ o r qN qU qP qM qX) c (mgF FN FU FP FX) (mgA AN AU AP AM AX)).map some := by
  unfold mgW
  rw [mg_gm (o := o) (r := r) (qN := qN) (qU := qU) (qP := qP) (qX := qX)]
  rfl
end MG
/-! THE CLAIM OUT OF ONE WALK OF THE LAW'S BODY. Your part is whole_start (and what it stands on); all else here is the same for every law, but numbers. -/
def R_law : String := "RatePlansLaw"
def lw_P (b : Addr) (xs : List Int32) (args : Array Value) (s : State) : Prop := args = #[.ref b] ∧ s.IntsAt b xs ∧ xs.length ≤ 3072 ∧ (Jvm.Cond.and given_1 narrow_1).before args s = true
def lw_Q (_ : Array Value) (s : State) (o : Outcome) (t : State) : Prop := o = .returned (some (.int 1)) ∧ Framed s o t [] 601024 7293034
def lw_Z (below : List Frame) (a : Array Value) (s : State) : State → Prop := fun t => ∃ o, t.status = .running ∧ Ended t below o ∧ lw_Q a s o t
/-- the law's own end, with 1 on the stack, nothing written that was there before, its room as the claim has it -/
theorem lw_ret {p : Program} {l : Launch} {e : Env} {s : State} {m : MethodId} {below : List Frame} {meth : Method} {c : Code} {b : Nat} (hx : p.tables.exec = Jvm.exec) (hb : c.code = code) (hr : meth.sig.returnType = ret) (hlocks : meth.locks = false) {pc : Nat} {H : Heap} {ls : Array Slot} (hdg : decode code pc = .ok (.ireturn, 1)) : W p l e room_1 s m #[Value.ref b] below meth c H [] 601024 7293034 (lw_Z below #[Value.ref b] s) (F0 m pc ls [.int 1]) := by
  intro T hT X
  obtain ⟨fs, hret, hrun, hended, hW, hframe⟩ := X.leave (v := some (.int 1)) (hlocks := hlocks) (fun h => by rw [hr] at h; cases h)
  have hmeth' : T.vm.method? m = some meth := X.method'
  refine ⟨T.setFrames fs, ?_, .returned (some (.int 1)), hrun, hended, rfl, ⟨_, rfl⟩, hW, hframe⟩
  jvm_step X.here [X.here.top, hx, hb, hdg, hmeth', hr, ret, narrow_b1]
  (try refine ⟨rfl, ?_⟩); (try refine ⟨rfl, ?_⟩)
  first | (intro acts; rw [hret _ acts rfl rfl rfl]) | rw [hret _ _ rfl rfl rfl]
  exact Steps.refl _
/-- what holds at the law's entry: the machine, the code, the tables' words (any of lw_tbl by 'hts w (by decide +kernel)'), the script of L ints xs at the cell b, what the Statement gives of the start (any of its parts by flat_of_before) -/
def lw_At (p : Program) (s : State) (m : MethodId) (meth : Method) (c : Code) (b L : Nat) (xs : Nat → Int32) : Prop :=
  p.tables.exec = Jvm.exec ∧ c.code = code ∧ meth.sig.returnType = ret ∧ c.maxLocals = 7 ∧ s.vm.findClass R_law = some m.cls ∧ (∀ w ∈ lw_tbl, w.before #[Value.ref b] s = true) ∧ va_X b L xs s s.heap ∧ b < s.heap.size ∧ meth.locks = false ∧ (Jvm.Cond.and given_1 narrow_1).before #[Value.ref b] s = true
set_option maxHeartbeats 8000000 in
set_option maxRecDepth 100000 in
theorem whole_start {p : Program} {e : Env} {s : State} {m : MethodId} {below : List Frame} {meth : Method} {c : Code} (l : Launch) (hfl : l.stackTraces = false) {b L : Nat} {xs : Nat → Int32} (hL : L ≤ 3072) (C0 : lw_At p s m meth c b L xs) : W p l e room_1 s m #[Value.ref b] below meth c s.heap [] 0 0 (lw_Z below #[Value.ref b] s) (entryFrame m ([Value.ref b] : List Value).toArray 7) := by
  obtain ⟨hx, hb, hr, hml, hown, hts, hX, hbl, hlocks, hgv⟩ := id C0
  have hA : ∀ x : Nat, s.heap.size ≤ x → (fun x : Nat => s.heap.size ≤ x) x := fun _ h => h
  obtain ⟨D, c9, hK0⟩ := zK_ex hts
  have hTH := zTH_ex hts hgv
  have hAs := zAs_ex hts hgv
  have hKK : zKK D c9 s := ⟨⟨hK0, zNW.of hts⟩, zAO.of (hts (.arrayOver (.array .int)) (by decide +kernel))⟩
  have hK := hKK.1
  have hZ : ∀ w ∈ zG, w.before #[Value.ref b] s = true := fun w h => hts w (List.mem_filter.mp h).1
  have S : CallFix p m c zc_L_law 7 s #[Value.ref b] (Cond.initialized "RatePlansLaw" :: zG) zR_L := ⟨hx, hb, hml, hown, fun w hw => by (rcases List.mem_cons.mp hw with h | h; (subst h; exact hZ _ zw_0); (exact hZ w h))⟩
  clear hts
  have hts := hZ
  have hS : va_S (fun x : Nat => s.heap.size ≤ x) s.heap s.heap [] := va_S.rf
  have hP : va_P D zcl [] s.heap := fun k q h => by simp at h
  have hD : va_D (fun x : Nat => s.heap.size ≤ x) [] := ⟨fun i j p q h => by simp at h, fun k q h => by simp at h⟩
  have hl := lv_entry ([.ref b]) (n := 7) (Nat.le_of_ble_eq_true rfl)
  rw [lg_entry_eq]
  generalize (lg_sl ([.ref b]) ++ List.replicate (7 - (lg_sl ([.ref b])).length) Slot.unset).toArray = ls at hl ⊢
  have hl : lv_has ls 7 [(0, .ref b)] := hl
  generalize hA0 : (fun x : Nat => s.heap.size ≤ x) = A0 at hA hS hD
  refine va_new (D := D) (ci := 0) (C := zR_C) (T := zT_C) (N := 4) (fs := [.null, .null, .null, .null]) hx hb hts zi_C zk_C zo_C hown (hts _ zw_14) (hts _ zw_15) (hts _ zw_1) hK.1 hP hD hS hA rfl zf_C (by decide) (by decide) zd_L_law_0 (fun o H hP hD hS => ?_)
  have hP : va_P D zcl [(o, .inr (0, [.null, .null, .null, .null]))] H := hP
  have hD : va_D A0 [(o, .inr (0, [.null, .null, .null, .null]))] := hD
  refine lv_dup hx hb zd_L_law_3 rfl ?_
  have hF0 : ∀ x, va_A [(o, .inr (0, [.null, .null, .null, .null]))] H.size x → A0 x := va_free hD hS hA [0] rfl
  refine va_callv (va_runI (n := 0) (As := []) (rest := [.ref o]) S (c_C_init l D c9 _ o) (cwI 0 S.2.2.2.2 (z_gS zw_18) rfl rfl rfl (hts _ zw_1) (hts _ zw_16) (hts _ zw_17) rfl ⟨by decide, by decide, by decide +kernel⟩ ⟨by decide, by decide⟩) ⟨zk_blind, zk_pre hKK hP hD⟩ rfl rfl hl.1 rfl (lv_room (Nat.le_of_ble_eq_true rfl)) zd_L_law_4 ⟨by decide, by decide⟩) hS (fun q _ h => hF0 q h) hF0 (fun w t H1 locs ht hvm hq hB hz hk hS => ?_)
  obtain ⟨hP, hD⟩ := va_join (wr := []) hP hD [0] [] rfl rfl rfl (by decide) hk hF0 (by rw [← ht]; exact hB.1) hB.2
  clear hF0 hB hk hz
  obtain ⟨qN, FN, AN, qU, FU, AU, qP, FP, AP, qM, FM, AM, rfl, ⟨hN1, hN2⟩, hU, hP9⟩ := hq
  have hP : va_P D zcl ((((([(o, .inr (0, [.ref (qN 1), .ref (qU 2), .ref (qP 3), .ref (qM 4)]))] ++ gn qN c9 FN AN) ++ gr qU c9 FU AU) ++ gp qP c9 FP AP) ++ gm qM c9 FM AM)) H1 := hP
  have hD : va_D A0 ((((([(o, .inr (0, [.ref (qN 1), .ref (qU 2), .ref (qP 3), .ref (qM 4)]))] ++ gn qN c9 FN AN) ++ gr qU c9 FU AU) ++ gp qP c9 FP AP) ++ gm qM c9 FM AM)) := hD
  refine lv_astore_n (lv' := [(1, .ref o), (0, .ref b)]) hx hb zd_L_law_7 rfl hl (by decide) rfl (fun ls hl => ?_)
  refine va_new (D := D) (ci := 5) (C := zR_X) (T := zT_X) (N := 34) (fs := [.int (iI 0), .int (iI 0), .int (iI 0), .null, .null, .null, .null, .null, .null, .int (iI 0), .int (iI 0), .int (iI 0), .int (iI 0), .null, .null, .null, .null, .null, .null, .null, .int (iI 0), .null, .null, .int (iI 0), .null, .int (iI 0), .null, .null, .null, .null, .null, .int (iI 0), .int (iI 0), .null]) hx hb hts zi_X zk_X zo_X hown (hts _ zw_527) (hts _ zw_528) (hts _ zw_6) hK.1 hP hD hS hA rfl zf_X (by decide) (by decide) zd_L_law_8 (fun o_8 H hP hD hS => ?_)
  have hP : va_P D zcl ((((([(o, .inr (0, [.ref (qN 1), .ref (qU 2), .ref (qP 3), .ref (qM 4)]))] ++ gn qN c9 FN AN) ++ gr qU c9 FU AU) ++ gp qP c9 FP AP) ++ gm qM c9 FM AM) ++ [(o_8, .inr (5, [.int (iI 0), .int (iI 0), .int (iI 0), .null, .null, .null, .null, .null, .null, .int (iI 0), .int (iI 0), .int (iI 0), .int (iI 0), .null, .null, .null, .null, .null, .null, .null, .int (iI 0), .null, .null, .int (iI 0), .null, .int (iI 0), .null, .null, .null, .null, .null, .int (iI 0), .int (iI 0), .null]))]) H := hP
  have hD : va_D A0 ((((([(o, .inr (0, [.ref (qN 1), .ref (qU 2), .ref (qP 3), .ref (qM 4)]))] ++ gn qN c9 FN AN) ++ gr qU c9 FU AU) ++ gp qP c9 FP AP) ++ gm qM c9 FM AM) ++ [(o_8, .inr (5, [.int (iI 0), .int (iI 0), .int (iI 0), .null, .null, .null, .null, .null, .null, .int (iI 0), .int (iI 0), .int (iI 0), .int (iI 0), .null, .null, .null, .null, .null, .null, .null, .int (iI 0), .null, .null, .int (iI 0), .null, .int (iI 0), .null, .null, .null, .null, .null, .int (iI 0), .int (iI 0), .null]))]) := hD
  refine lv_dup hx hb zd_L_law_11 rfl ?_
  have hP0 : va_P D zcl [(o_8, .inr (5, [.int (iI 0), .int (iI 0), .int (iI 0), .null, .null, .null, .null, .null, .null, .int (iI 0), .int (iI 0), .int (iI 0), .int (iI 0), .null, .null, .null, .null, .null, .null, .null, .int (iI 0), .null, .null, .int (iI 0), .null, .int (iI 0), .null, .null, .null, .null, .null, .int (iI 0), .int (iI 0), .null]))] H := hP.sub [34] rfl
  have hD0 : va_D A0 [(o_8, .inr (5, [.int (iI 0), .int (iI 0), .int (iI 0), .null, .null, .null, .null, .null, .null, .int (iI 0), .int (iI 0), .int (iI 0), .int (iI 0), .null, .null, .null, .null, .null, .null, .null, .int (iI 0), .null, .null, .int (iI 0), .null, .int (iI 0), .null, .null, .null, .null, .null, .int (iI 0), .int (iI 0), .null]))] := hD.sub [34] rfl rfl
  have hF0 : ∀ x, va_A [(o_8, .inr (5, [.int (iI 0), .int (iI 0), .int (iI 0), .null, .null, .null, .null, .null, .null, .int (iI 0), .int (iI 0), .int (iI 0), .int (iI 0), .null, .null, .null, .null, .null, .null, .null, .int (iI 0), .null, .null, .int (iI 0), .null, .int (iI 0), .null, .null, .null, .null, .null, .int (iI 0), .int (iI 0), .null]))] H.size x → A0 x := va_free hD hS hA [34] rfl
  refine va_callv (va_runI (n := 0) (As := []) (rest := [.ref o_8]) S (c_X_init l D c9 _ o_8) (cwI 0 S.2.2.2.2 (z_gS zw_531) rfl rfl rfl (hts _ zw_6) (hts _ zw_529) (hts _ zw_530) rfl ⟨by decide, by decide, by decide +kernel⟩ ⟨by decide, by decide⟩) ⟨zk_blind, zk_pre hKK hP0 hD0⟩ rfl rfl hl.1 rfl (lv_room (Nat.le_of_ble_eq_true rfl)) zd_L_law_12 ⟨by decide, by decide⟩) hS (fun q _ h => hF0 q h) hF0 (fun w t H1 locs ht hvm hq hB hz hk hS => ?_)
  obtain ⟨hP, hD⟩ := va_join (wr := (((([(o, .inr (0, [.ref (qN 1), .ref (qU 2), .ref (qP 3), .ref (qM 4)]))] ++ gn qN c9 FN AN) ++ gr qU c9 FU AU) ++ gp qP c9 FP AP) ++ gm qM c9 FM AM)) hP hD [34] [0, 1, 2, 3, 4, 5, 6, 7, 8, 9, 10, 11, 12, 13, 14, 15, 16, 17, 18, 19, 20, 21, 22, 23, 24, 25, 26, 27, 28, 29, 30, 31, 32, 33] rfl rfl rfl (by decide) hk hF0 (by rw [← ht]; exact hB.1) hB.2
  clear hP0 hD0 hF0 hB hk hz
  obtain ⟨qX, FX, AX, rfl, eX, ⟨hX1, hX2⟩⟩ := hq
  have hP : va_P D zcl ((((([(o, .inr (0, [.ref (qN 1), .ref (qU 2), .ref (qP 3), .ref (qM 4)]))] ++ gn qN c9 FN AN) ++ gr qU c9 FU AU) ++ gp qP c9 FP AP) ++ gm qM c9 FM AM) ++ gx qX c9 FX AX) H1 := hP
  have hD : va_D A0 ((((([(o, .inr (0, [.ref (qN 1), .ref (qU 2), .ref (qP 3), .ref (qM 4)]))] ++ gn qN c9 FN AN) ++ gr qU c9 FU AU) ++ gp qP c9 FP AP) ++ gm qM c9 FM AM) ++ gx qX c9 FX AX) := hD
  refine lv_astore_n (lv' := [(2, .ref o_8), (1, .ref o), (0, .ref b)]) hx hb zd_L_law_15 rfl hl (by decide) rfl (fun ls hl => ?_)
  refine lv_iconst (v := iI 1) hx hb zd_L_law_16 rfl ?_
  refine x_newJ (n := 1) (N' := 1) hx hb (hts _ zw_636) hK.1 hP hD hS hA (by decide) (by decide) (by decide) (by decide) (by decide) zd_L_law_17 (fun r H hP hD hS => ?_)
  have hP : va_P D zcl (mgW o r c9 qN qU qP qM qX FN FU FP FM FX AN AU AP AM AX) H := hP
  have hD : va_D A0 (mgW o r c9 qN qU qP qM qX FN FU FP FM FX AN AU AP AM AX) := hD
  refine lv_astore_n (lv' := [(3, .ref r), (2, .ref o_8), (1, .ref o), (0, .ref b)]) hx hb zd_L_law_19 rfl hl (by decide) rfl (fun ls hl => ?_)
  refine lv_iconst (v := iI 0) hx hb zd_L_law_20 rfl ?_
  refine lv_istore (lv' := [(4, .int (iI 0)), (3, .ref r), (2, .ref o_8), (1, .ref o), (0, .ref b)]) hx hb zd_L_law_21 hl (by decide) rfl (fun ls hl => ?_)
  have hP := hP.sub mgI mg_eq
  have hD := hD.sub mgI (by decide +kernel) mg_eqM
  have I : INV (mgF FN FU FP FX) (mgA AN AU AP AM AX) := INV_start hN1.1 hN1.2.1 hN1.2.2 hU hP9 hX1.2.1 hX1.2.2.1 hX1.2.2.2 hN2 hX2
  have hl : lv_has ls 7 [(4, .int (iI 0)), (3, .ref r), (2, .ref (qX 5)), (1, .ref o), (0, .ref b)] := by rw [eX]; exact hl
  refine law_loop l hfl D (mgQ o r qN qU qP qM qX) c9 S hK hTH hAs hX hbl hL hA (fun x h => by rw [← hA0]; exact Nat.not_le.mpr h) (fun H locs ls n1 n2 h1 h2 hS => ?_) (L + 7) 0 _ _ _ _ 0 (by decide) I (by decide) (by decide) (by omega) (by omega) H _ hP hD hS ls (lv_sub hl [4, 3, 2, 1, 0] rfl)
  refine W.widen (k := 601024) (n := 7293034) (by omega) (by omega) ?_
  refine va_forget (fun z hz => by have h := hS.2.2 z hz; rw [← hA0] at h; exact h) ?_
  exact lw_ret hx hb hr hlocks zd_L_law_523
set_option maxHeartbeats 4000000 in
theorem lw_walk (l : Launch) (hfl : l.stackTraces = false) (b : Addr) (xs : List Int32) : MetFree l x (headSpec (Jvm.Cond.code x code maxLocals ret :: tables_1) room_1) (lw_P b xs) (fun _ _ _ _ _ => True) lw_Q := by
  refine MetFree.of_bodyS (code := code) (maxLocals := maxLocals) (ret := ret) (by decide) ?_ ?_
  · intro args s m h hn
    obtain ⟨meth, c, h1, h2, h3, h4, h5, h6, -, -⟩ := Cond.code_spec hn (atoms_spec (ws := Jvm.Cond.code x code maxLocals ret :: tables_1) h _ List.mem_cons_self)
    exact ⟨meth, c, h1, h2, h3, h4, h5, h6⟩
  · intro p e s m args below meth c s₁ B hml0 hP _
    obtain ⟨rfl, hx, hbd, hgv⟩ := hP
    obtain ⟨scr, harrAt, hlist, hof, hsmall⟩ := hx
    obtain ⟨hcb, hkn, -, -⟩ := State.arrayAt?_spec harrAt
    have hown : s.vm.findClass R_law = some m.cls := findClass_of_methodNamed B.named
    have hts0 : ∀ c ∈ (Jvm.Cond.code x code maxLocals ret :: tables_1), c.before #[Value.ref b] s = true := atoms_spec (ws := Jvm.Cond.code x code maxLocals ret :: tables_1) B.pre
    have hts : ∀ w ∈ lw_tbl, w.before #[Value.ref b] s = true := k2_hts_sels lw_privs (fun w hw => hts0 w (List.mem_cons_of_mem _ hw)) lw_privs_ok
    have hml : c.maxLocals = 7 := B.maxLocals_eq (hts0 _ List.mem_cons_self)
    have X₀ : Stand p l e room_1 s m #[Value.ref b] below meth c s₁ [] 0 0 := Stand.of_body B
    have hh0 : s₁.heap = s.heap := by rw [B.state]; rfl
    have hsz : scr.slots.size = xs.length := by rw [← Array.length_toList, hlist, List.length_map]
    have hval : ∀ j : Nat, j < xs.length → scr.slots[j]? = some (.int (xs.getD j 0)) := fun j hj => by
      rw [← Array.getElem?_toList, hlist]
      simp [hj]
    have hbl : b < s.heap.size := (Array.getElem?_eq_some_iff.mp hcb).1
    have hX : va_X b xs.length (fun j => xs.getD j 0) s s.heap := ⟨scr, hcb, hof, hkn, hsz, hval⟩
    have K : W p l e room_1 s m #[Value.ref b] below meth c s₁.heap [] 0 0 (lw_Z below #[Value.ref b] s) (entryFrame m ([Value.ref b] : List Value).toArray 7) := by
      rw [hh0]
      exact whole_start l hfl hbd ⟨B.exec, B.bytes, B.returns, hml, hown, hts, hX, hbl, B.notSynchronized, hgv⟩
    obtain ⟨t, a1, o, b1, b2, b3⟩ := K s₁ rfl X₀
    exact ⟨t, o, a1, b1, b2, b3⟩
theorem lw_pre_spec {args : Array Value} {s : State} (h : (Jvm.Cond.and given_1 narrow_1).before args s = true) (hr : rest_1_c.before args s = true) : ∃ (b : Addr) (xs : List Int32), lw_P b xs args s := by
  have hs := flat_of_before _ h
  have hq := flat_of_before _ hr
  have hc : (Cond.count 1).before args s = true := hs _ (by decide +kernel)
  have harr : (Cond.arrayOf (.arg 0) .int).before args s = true := hs _ (by decide +kernel)
  have hle : (Cond.le (.length (.arg 0)) (.int 3072)).before args s = true := hs _ (by decide +kernel)
  have hlen : (Cond.isInt (.length (.arg 0))).before args s = true := hq _ (by decide +kernel)
  have hall : (Cond.all (.arg 0) (.isInt (.elem (.arg 0) (.index 0)))).before args s = true := hq _ (by decide +kernel)
  obtain ⟨b, xs, hb, hx⟩ := State.ints_of_pre rfl harr hlen hall
  have hsm : xs.length < 2 ^ 31 := hx.choose_spec.2.2.2
  have hev : (Term.length (.arg 0)).eval args s none [] s = some (.int xs.length.toInt32) := hx.length_eval hb
  have hv := Cond.le_ints hev (show (Term.int 3072).eval args s none [] s = some (.int 3072) from rfl)
  have hd : xs.length.toInt32 ≤ 3072 := by
    simpa [Cond.before, Cond.holds, hv] using hle
  have hN : xs.length ≤ 3072 := (Int32.ofNat_le_ofNat hsm (by decide)).mp (show Int32.ofNat xs.length ≤ Int32.ofNat 3072 from hd)
  exact ⟨b, xs, Cond.one_arg hc (show args[0]? = some (.ref b) from hb), hx, hN, h⟩
theorem lw_comes (l : Launch) (hfl : l.stackTraces = false) : Comes l x (Jvm.Cond.code x code maxLocals ret :: tables_1) room_1 (fun tb e args s => Calls_1 tb e args s ∧ rest_1 tb e args s ∧ Pre_1 tb e args s)
    (fun _ _ args s o t => lw_Q args s o t) := by
  intro p e ha hc hk s m args below hf hfit hheap happ hpre
  obtain ⟨b, xs, hP⟩ := lw_pre_spec hpre.2.2 hpre.2.1
  obtain ⟨k, o, h1, h2, h3, hQ⟩ := lw_walk l hfl b xs p e ha hc hk s m args below hf ((Spec.applies_iff_loose hf).mp happ).1 hP trivial
  exact ⟨k, o, h1, h2, h3, hQ⟩
theorem lw_frame {s t : State} {o : Outcome} {args : Array Value} (h : Framed s o t [] 601024 7293034) :
    Framed s o t (fieldLocs frame_1_writes args s ++ arrayLocs frame_1_arrays args s ++ staticLocs frame_1_statics s) 601024 7293034 := h
theorem lw_limb (L : Cond) (hL : ∀ (args : Array Value) (s t : State), L.after args s (.returned (some (.int 1))) t = true) :
    ArmFor flags0 classFile x code maxLocals ret World_1 tables_1 room_1 Calls_1 rest_1 Pre_1
      (fun tb e a s o t => postC L tb e a s o t ∧ Framed s o t (fieldLocs frame_1_writes a s ++ arrayLocs frame_1_arrays a s ++ staticLocs frame_1_statics s) 601024 7293034) := by
  intro l hfg _ _ p e ha hc hk s m args below hf hfit hheap happ hpre
  have hfl : l.stackTraces = false := by (unfold Launch.stackTraces; rw [hfg]; decide)
  obtain ⟨k, o, h1, h2, h3, rfl, hF⟩ := lw_comes l hfl p e ha hc hk s m args below hf hfit hheap happ hpre
  exact ⟨k, _, h1, h2, h3, hL args s _, lw_frame hF⟩
theorem i_vc : Claimed_1_1 ∧ Claimed_1_2 := ⟨lw_limb limb_1_1 (fun args s t => by simp [limb_1_1, Cond.after, Cond.holds, Cond.value]), lw_limb limb_1_2 (fun args s t => Cond.after_iff.mpr (by
  first | (rw [show limb_1_2 = Cond.eq .result (.int 1) from rfl, Cond.eq_ints (x := 1) (y := 1) rfl rfl]; simp; done) | (simp [limb_1_2, Cond.value, Term.eval]; done)))⟩
