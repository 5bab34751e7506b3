/-! Masks of eight bits -/
theorem iI_N {x : Int} (h : 0 ≤ x) : iI x = nI x.toNat := by
  obtain ⟨n, rfl⟩ : ∃ n : Nat, x = (n : Int) := ⟨x.toNat, by omega⟩
  rw [Int.toNat_natCast]
  exact Int32.toBitVec_inj.mp (BitVec.ofInt_natCast 32 n)
theorem nI_I (n : Nat) : nI n = iI (n : Int) := by
  rw [iI_N (by omega), Int.toNat_natCast]
theorem nx_or (a b : Nat) : nI a ||| nI b = nI (a ||| b) := by
  apply Int32.toBitVec_inj.1
  show BitVec.ofNat 32 a ||| BitVec.ofNat 32 b = BitVec.ofNat 32 (a ||| b)
  apply BitVec.eq_of_getLsbD_eq
  intro i hi
  simp [hi]
theorem mk_r : ∀ n, n < 256 → ∀ t, t < 8 → nI n >>> (nI t &&& 31) = nI (n / 2 ^ t) := by decide +kernel
theorem mk_a : ∀ n, n < 256 → nI n &&& 1 = nI (n % 2) := by decide +kernel
theorem mk_l : ∀ t, t < 8 → (1 : Int32) <<< (nI t &&& 31) = nI (2 ^ t) := by decide +kernel
theorem mk_o : ∀ n, n < 256 → ∀ t, t < 8 → n ||| 2 ^ t = if n / 2 ^ t % 2 = 1 then n else n + 2 ^ t := by decide +kernel
def shI (z t : Int) : Int := z / ((2 ^ t.toNat : Nat) : Int)
def pwI (t : Int) : Int := ((2 ^ t.toNat : Nat) : Int)
def orI (x y : Int) : Int := ((x.toNat ||| y.toNat : Nat) : Int)
theorem shI_b {z t : Int} (hz : 0 ≤ z ∧ z ≤ 255) : 0 ≤ shI z t ∧ shI z t ≤ 255 := by
  unfold shI
  have : 0 < 2 ^ t.toNat := Nat.pow_pos (by decide)
  refine ⟨Int.ediv_nonneg hz.1 (by omega), Int.ediv_le_of_le_mul (by omega) ?_⟩
  have : (255 : Int) * 1 ≤ 255 * ((2 ^ t.toNat : Nat) : Int) := Int.mul_le_mul_of_nonneg_left (by omega) (by decide)
  omega
section XM8
variable {p : Program} {l : Launch} {e : Env} {R : Room} {s : State} {m : MethodId} {args : Array Value} {below : List Frame} {meth : Method} {c : Code} {H : Heap} {locs : List Loc} {cells slots : Nat} {Q : State → Prop}
variable {cc : ByteArray} {pc : Nat} {ls : Array Slot} {rest : List Value}
theorem x_ishr (hexec : p.tables.exec = Jvm.exec) (hb : c.code = cc) {x t : Int} (hdg : decode cc pc = .ok (.ishr, 1)) (hx : 0 ≤ x ∧ x ≤ 255) (ht : 0 ≤ t ∧ t < 8) (k : W p l e R s m args below meth c H locs cells slots Q (F0 m (pc + 1) ls (.int (iI (shI x t)) :: rest))) : W p l e R s m args below meth c H locs cells slots Q (F0 m pc ls (.int (iI t) :: .int (iI x) :: rest)) :=
  lv_ishr hexec hb hdg (by
    have e : iI x >>> (iI t &&& 31) = iI (shI x t) := by
      rw [iI_N hx.1, iI_N ht.1, mk_r _ (by omega) _ (by omega), nI_I]
      unfold shI
      rw [Int.natCast_ediv, Int.toNat_of_nonneg hx.1]
    rw [e]; exact k)
theorem x_iand1 (hexec : p.tables.exec = Jvm.exec) (hb : c.code = cc) {x : Int} (hdg : decode cc pc = .ok (.iand, 1)) (hx : 0 ≤ x ∧ x ≤ 255) (k : W p l e R s m args below meth c H locs cells slots Q (F0 m (pc + 1) ls (.int (iI (x % 2)) :: rest))) : W p l e R s m args below meth c H locs cells slots Q (F0 m pc ls (.int (iI 1) :: .int (iI x) :: rest)) :=
  lv_iand hexec hb hdg (by
    have e : iI x &&& iI 1 = iI (x % 2) := by
      rw [iI_N hx.1]
      show nI x.toNat &&& 1 = _
      rw [mk_a _ (by omega), nI_I, Int.natCast_emod, Int.toNat_of_nonneg hx.1]; rfl
    rw [e]; exact k)
theorem x_ishl1 (hexec : p.tables.exec = Jvm.exec) (hb : c.code = cc) {t : Int} (hdg : decode cc pc = .ok (.ishl, 1)) (ht : 0 ≤ t ∧ t < 8) (k : W p l e R s m args below meth c H locs cells slots Q (F0 m (pc + 1) ls (.int (iI (pwI t)) :: rest))) : W p l e R s m args below meth c H locs cells slots Q (F0 m pc ls (.int (iI t) :: .int (iI 1) :: rest)) :=
  lv_ishl hexec hb hdg (by
    have e : iI 1 <<< (iI t &&& 31) = iI (pwI t) := by
      rw [iI_N ht.1]
      show (1 : Int32) <<< (nI t.toNat &&& 31) = _
      rw [mk_l _ (by omega), nI_I]; rfl
    rw [e]; exact k)
theorem x_ior (hexec : p.tables.exec = Jvm.exec) (hb : c.code = cc) {x y : Int} (hdg : decode cc pc = .ok (.ior, 1)) (hx : 0 ≤ x) (hy : 0 ≤ y) (k : W p l e R s m args below meth c H locs cells slots Q (F0 m (pc + 1) ls (.int (iI (orI x y)) :: rest))) : W p l e R s m args below meth c H locs cells slots Q (F0 m pc ls (.int (iI y) :: .int (iI x) :: rest)) :=
  lv_ior hexec hb hdg (by rw [iI_N hx, iI_N hy, nx_or, nI_I]; exact k)
end XM8
/-- the mask of f, which is 0 or 1 at 0 .. 7 -/
def mk8 (f : Int → Int) : Int := f 0 + 2 * f 1 + 4 * f 2 + 8 * f 3 + 16 * f 4 + 32 * f 5 + 64 * f 6 + 128 * f 7
section MK
variable {f g : Int → Int} {t : Int}
theorem mk8_b (h : ∀ b, f b = 0 ∨ f b = 1) : 0 ≤ mk8 f ∧ mk8 f ≤ 255 := by
  unfold mk8
  have := h 0; have := h 1; have := h 2; have := h 3; have := h 4; have := h 5; have := h 6; have := h 7
  omega
theorem t8 (ht : 0 ≤ t ∧ t < 8) : t = 0 ∨ t = 1 ∨ t = 2 ∨ t = 3 ∨ t = 4 ∨ t = 5 ∨ t = 6 ∨ t = 7 := by omega
theorem mk8_t (h : ∀ b, f b = 0 ∨ f b = 1) (ht : 0 ≤ t ∧ t < 8) : shI (mk8 f) t % 2 = f t := by
  have := h 0; have := h 1; have := h 2; have := h 3; have := h 4; have := h 5; have := h 6; have := h 7
  unfold shI mk8
  rcases t8 ht with e | e | e | e | e | e | e | e <;> rw [e]
  · show (_ / (1 : Int)) % 2 = _; omega
  · show (_ / (2 : Int)) % 2 = _; omega
  · show (_ / (4 : Int)) % 2 = _; omega
  · show (_ / (8 : Int)) % 2 = _; omega
  · show (_ / (16 : Int)) % 2 = _; omega
  · show (_ / (32 : Int)) % 2 = _; omega
  · show (_ / (64 : Int)) % 2 = _; omega
  · show (_ / (128 : Int)) % 2 = _; omega
theorem mk8_u (ht : 0 ≤ t ∧ t < 8) : mk8 (upI f t 1) = mk8 f + pwI t * (1 - f t) := by
  unfold mk8 upI pwI
  rcases t8 ht with e | e | e | e | e | e | e | e <;> subst e
  · show _ = _ + (1 : Int) * _; simp; omega
  · show _ = _ + (2 : Int) * _; simp; omega
  · show _ = _ + (4 : Int) * _; simp; omega
  · show _ = _ + (8 : Int) * _; simp; omega
  · show _ = _ + (16 : Int) * _; simp; omega
  · show _ = _ + (32 : Int) * _; simp; omega
  · show _ = _ + (64 : Int) * _; simp; omega
  · show _ = _ + (128 : Int) * _; simp; omega
theorem mk8_o (h : ∀ b, f b = 0 ∨ f b = 1) (ht : 0 ≤ t ∧ t < 8) : orI (mk8 f) (pwI t) = mk8 (upI f t 1) := by
  have hb := mk8_b h
  have ht2 := mk8_t h ht
  have hu := mk8_u (f := f) ht
  unfold orI
  have hp : (pwI t).toNat = 2 ^ t.toNat := by unfold pwI; rw [Int.toNat_natCast]
  rw [hp, mk_o _ (by omega) _ (by omega), hu]
  have e : (((mk8 f).toNat / 2 ^ t.toNat % 2 : Nat) : Int) = f t := by
    rw [Int.natCast_emod, Int.natCast_ediv, Int.toNat_of_nonneg hb.1]; exact ht2
  rcases h t with c | c
  · rw [if_neg (by omega), c]
    show (((mk8 f).toNat + 2 ^ t.toNat : Nat) : Int) = mk8 f + ((2 ^ t.toNat : Nat) : Int) * (1 - 0)
    rw [Int.natCast_add, Int.toNat_of_nonneg hb.1]; omega
  · rw [if_pos (by omega), c, Int.toNat_of_nonneg hb.1]; simp
theorem pwI_nn : 0 ≤ pwI t := Int.natCast_nonneg _
theorem mk8_e (hf : ∀ b, f b = 0 ∨ f b = 1) (hg : ∀ b, g b = 0 ∨ g b = 1) : mk8 f = mk8 g ↔ ∀ b, 0 ≤ b → b < 8 → f b = g b := by
  constructor
  · intro h b b0 b1
    rw [← mk8_t hf ⟨b0, b1⟩, ← mk8_t hg ⟨b0, b1⟩, h]
  · intro h
    unfold mk8
    rw [h 0 (by decide) (by decide), h 1 (by decide) (by decide), h 2 (by decide) (by decide), h 3 (by decide) (by decide), h 4 (by decide) (by decide), h 5 (by decide) (by decide), h 6 (by decide) (by decide), h 7 (by decide) (by decide)]
end MK
/-! What can be reached, step by step -/
def rcI (n m : Int) (x y : Int → Int) (a : Int) (f : Int → Int) : Prop := (∀ b, f b = 0 ∨ f b = 1) ∧ f a = 1 ∧ ∀ b, f b = 1 → (0 ≤ b ∧ b < n) ∧ Rch m x y a b
def rcC (m : Int) (x y : Int → Int) (f : Int → Int) : Prop := ∀ c, 0 ≤ c → c < m → f (x c) = 1 → f (y c) = 1
def rcG (n m : Int) (x y : Int → Int) (f g : Int → Int) (i : Int) : Prop := (((∀ b, g b = f b) ∧ ∀ c, 0 ≤ c → c < i → f (x c) = 1 → f (y c) = 1) ∨ sI f n + 1 ≤ sI g n) ∧ (rcC m x y f → ∀ b, g b = f b)
section RC
variable {n m a i : Int} {x y f g : Int → Int}
theorem rc_0 (h0 : 0 ≤ a ∧ a < n) : rcI n m x y a (upI (fun _ => 0) a 1) := by
  refine ⟨fun b => ?_, upI_s, fun b hb => ?_⟩
  · unfold upI; split <;> simp
  · by_cases e : b = a
    · rw [e]; exact ⟨h0, fun S h _ => h⟩
    · rw [upI_n e] at hb; omega
theorem rc_i : rcG n m x y f f 0 := ⟨Or.inl ⟨fun _ => rfl, fun c h0 h1 => by omega⟩, fun _ _ => rfl⟩
theorem rc_yI (h : rcI n m x y a g) (hi : 0 ≤ i ∧ i < m) (hx : g (x i) = 1) (hy : 0 ≤ y i ∧ y i < n) : rcI n m x y a (upI g (y i) 1) := by
  obtain ⟨h1, h2, h3⟩ := h
  refine ⟨fun b => ?_, ?_, fun b hb => ?_⟩
  · unfold upI; split
    · simp
    · exact h1 b
  · unfold upI; split
    · rfl
    · exact h2
  · by_cases e : b = y i
    · rw [e]; exact ⟨hy, Rch_s (h3 _ hx).2 hi.1 hi.2⟩
    · rw [upI_n e] at hb; exact h3 b hb
theorem rc_yG (hI : rcI n m x y a g) (h : rcG n m x y f g i) (hi : 0 ≤ i ∧ i < m) (hx : g (x i) = 1) (hy : 0 ≤ y i ∧ y i < n) : rcG n m x y f (upI g (y i) 1) (i + 1) := by
  obtain ⟨h1, h2⟩ := h
  have hs := sI_up (f := g) (b := y i) (y := 1) (n := n) hy.1 hy.2
  have h01 := hI.1 (y i)
  refine ⟨?_, fun hc b => ?_⟩
  · rcases h1 with ⟨h3, h4⟩ | h3
    · by_cases e : f (y i) = 1
      · left
        refine ⟨fun b => ?_, fun c c0 c1 c2 => ?_⟩
        · by_cases e2 : b = y i
          · rw [e2, upI_s, e]
          · rw [upI_n e2]; exact h3 b
        · by_cases e2 : c = i
          · rw [e2]; exact e
          · exact h4 c c0 (by omega) c2
      · right
        have e3 : sI g n = sI f n := sI_cong (fun b _ _ => h3 b)
        have := h3 (y i)
        omega
    · right; omega
  · have h3 := h2 hc
    by_cases e2 : b = y i
    · rw [e2, upI_s, hc i hi.1 hi.2 (by rw [← h3]; exact hx)]
    · rw [upI_n e2]; exact h3 b
theorem rc_nG (h : rcG n m x y f g i) (hx : ¬ g (x i) = 1) : rcG n m x y f g (i + 1) := by
  obtain ⟨h1, h2⟩ := h
  refine ⟨?_, h2⟩
  rcases h1 with ⟨h3, h4⟩ | h3
  · left
    refine ⟨h3, fun c c0 c1 c2 => ?_⟩
    by_cases e2 : c = i
    · rw [e2, ← h3] at c2; exact absurd c2 hx
    · exact h4 c c0 (by omega) c2
  · exact Or.inr h3
theorem rc_e {st : Int} (h : rcG n m x y f g m) (hf : rcC m x y f ∨ st + 1 ≤ sI f n) : rcC m x y g ∨ st + 1 + 1 ≤ sI g n := by
  obtain ⟨h1, h2⟩ := h
  rcases hf with hf | hf
  · left
    intro c c0 c1 c2
    rw [h2 hf] at c2 ⊢
    exact hf c c0 c1 c2
  · rcases h1 with ⟨h3, h4⟩ | h3
    · left
      intro c c0 c1 c2
      rw [h3] at c2 ⊢
      exact h4 c c0 c1 c2
    · right; omega
theorem rc_fin (hI : rcI n m x y a f) (hn : 0 ≤ n) (h : rcC m x y f ∨ n + 1 ≤ sI f n) : ∀ b, f b = 1 ↔ (0 ≤ b ∧ b < n) ∧ Rch m x y a b := by
  have hc : rcC m x y f := by
    rcases h with h | h
    · exact h
    · have := sI_nn (f := f) (n := n) (B := 1) hn (fun b _ _ => by have := hI.1 b; omega)
      omega
  intro b
  exact ⟨hI.2.2 b, fun h9 => h9.2 (fun b => f b = 1) hI.2.1 hc⟩
end RC
def mbP (p : Int → Int) (a i b : Int) : Int := if 0 ≤ b ∧ b < i ∧ p b = p a then 1 else 0
theorem mbP_01 {p : Int → Int} {a i : Int} (b : Int) : mbP p a i b = 0 ∨ mbP p a i b = 1 := by
  unfold mbP; split <;> simp
theorem Rch_part {m a b : Int} {x y p : Int → Int} (hs : ∀ k, 0 ≤ k → k < m → p (x k) = p (y k)) (h : Rch m x y a b) : p b = p a := h (fun b => p b = p a) rfl (fun c c0 c1 h => by rw [← hs c c0 c1]; exact h)
theorem nc_gen {n m a : Int} {x y p f : Int → Int} (hn : 1 ≤ n ∧ n ≤ 8) (hs : ∀ k, 0 ≤ k → k < m → p (x k) = p (y k)) (h01 : ∀ b, f b = 0 ∨ f b = 1) (h : ∀ b, f b = 1 ↔ (0 ≤ b ∧ b < n) ∧ Rch m x y a b) : mk8 f = mk8 (mbP p a n) ↔ ∀ b, 0 ≤ b → b < n → p b = p a → Rch m x y a b := by
  rw [mk8_e h01 mbP_01]
  unfold mbP
  constructor
  · intro he b b0 b1 b2
    have := he b b0 (by omega)
    rw [if_pos ⟨b0, b1, b2⟩] at this
    exact ((h b).mp this).2
  · intro he b b0 b1
    by_cases c : 0 ≤ b ∧ b < n ∧ p b = p a
    · rw [if_pos c, (h b).mpr ⟨⟨c.1, c.2.1⟩, he b c.1 c.2.1 c.2.2⟩]
    · rw [if_neg c]
      refine (h01 b).resolve_right (fun h1 => c ?_)
      have := (h b).mp h1
      exact ⟨this.1.1, this.1.2, Rch_part hs this.2⟩
theorem nc_eq {F : Nat → Int} {A : Nat → Int → Int} {a : Int} {f : Int → Int} (hn : 1 ≤ F 100 ∧ F 100 ≤ 8) (hs : ∀ k, 0 ≤ k → k < F 101 → A 8 (A 9 k) = A 8 (A 10 k)) (h01 : ∀ b, f b = 0 ∨ f b = 1) (h : ∀ b, f b = 1 ↔ (0 ≤ b ∧ b < F 100) ∧ Rch (F 101) (A 9) (A 10) a b) : mk8 f = mk8 (mbP (A 8) a (F 100)) ↔ ∀ b, 0 ≤ b → b < F 100 → A 8 b = A 8 a → Rch (F 101) (A 9) (A 10) a b := nc_gen hn hs h01 h
theorem nc_eq2 {F : Nat → Int} {A : Nat → Int → Int} {a : Int} {f : Int → Int} (hn : 1 ≤ F 100 ∧ F 100 ≤ 8) (hs : ∀ k, 0 ≤ k → k < F 101 → A 8 (A 9 k) = A 8 (A 10 k)) (h01 : ∀ b, f b = 0 ∨ f b = 1) (h : ∀ b, f b = 1 ↔ (0 ≤ b ∧ b < F 100) ∧ Rch (F 101) (A 10) (A 9) a b) : mk8 f = mk8 (mbP (A 8) a (F 100)) ↔ ∀ b, 0 ≤ b → b < F 100 → A 8 b = A 8 a → Rch (F 101) (A 10) (A 9) a b := nc_gen hn (fun k h0 h1 => (hs k h0 h1).symm) h01 h
abbrev zr_N_reached : Room := ({ frames := 0, cells := 0, slots := 0, locals := 0 } : Room)
set_option maxHeartbeats 4000000 in
set_option maxRecDepth 100000 in
theorem c_N_reached (l : Launch) (D : va_G) (q : Nat → Nat) (c : Nat → ClassId) (sz : Nat) (F : Nat → Int) (A : Nat → Int → Int) (a : Int) (hn : 1 ≤ F 100 ∧ F 100 ≤ 8) (hc : 0 ≤ F 101 ∧ F 101 ≤ 14) (hch : ∀ k, 0 ≤ k → k < F 101 → (0 ≤ A 9 k ∧ A 9 k < F 100) ∧ (0 ≤ A 10 k ∧ A 10 k < F 100) ∧ (1 ≤ A 11 k ∧ A 11 k ≤ 9) ∧ (1 ≤ A 12 k ∧ A 12 k ≤ 9) ∧ 0 ≤ A 13 k ∧ A 13 k ≤ 99) (ha : 0 ≤ a ∧ a < F 100) : zMI l zy_N_reached zc_N_reached 7 (some .int) zr_N_reached D q c sz [.ref (q 1), .int (iI (a)), .ref (q 9), .ref (q 10)] F A (fun z F1 A1 => F1 = F ∧ A1 = A ∧ ∃ f, (∀ b, f b = 0 ∨ f b = 1) ∧ z = mk8 f ∧ ∀ b, f b = 1 ↔ (0 ≤ b ∧ b < F 100) ∧ Rch (F 101) (A 9) (A 10) a b) := by
  refine z_ofI (by decide) (Nat.le_of_ble_eq_true rfl) ?_
  intro p e s m args below meth c0 A0 Q C0 ret hP hD hS ls hl
  obtain ⟨S, hK, hA⟩ := C0
  have hx := S.1
  have hb := S.2.1
  have hown := S.2.2.2.1
  have hts : ∀ w ∈ zG, w.before args s = true := fun w h => S.2.2.2.2 w (List.mem_cons_of_mem _ h)
  have hl : lv_has ls 7 [(0, .ref (q 1)), (1, .int (iI (a))), (2, .ref (q 9)), (3, .ref (q 10))] := hl
  have s0_ := rc_0 (n := F 100) (m := F 101) (x := A 9) (y := A 10) ha
  have s1_ : pwI a = mk8 (upI (fun _ => 0) a 1) := by (rw [mk8_u (by omega)]; show pwI a = 0 + pwI a * (1 - 0); omega)
  have s3_ : sI (upI (fun _ => 0) a 1) (F 100) = 1 := by (rw [sI_up ha.1 ha.2, sI_zero (fun _ _ _ => rfl)]; omega)
  refine lv_iconst (v := iI (1)) hx hb zd_N_reached_0 rfl ?_
  refine lv_iload_n hx hb zd_N_reached_1 rfl (lv_at hl 1 rfl) ?_
  refine x_ishl1 hx hb zd_N_reached_2 (⟨by omega, by omega⟩) ?_
  refine lv_istore (lv' := [(4, .int (iI (pwI a))), (0, .ref (q 1)), (1, .int (iI (a))), (2, .ref (q 9)), (3, .ref (q 10))]) hx hb zd_N_reached_3 hl (by decide) rfl (fun ls hl => ?_)
  refine lv_iconst (v := iI (0)) hx hb zd_N_reached_5 rfl ?_
  refine lv_istore (lv' := [(5, .int (iI (0))), (4, .int (iI (pwI a))), (0, .ref (q 1)), (1, .int (iI (a))), (2, .ref (q 9)), (3, .ref (q 10))]) hx hb zd_N_reached_6 hl (by decide) rfl (fun ls hl => ?_)
  have L_8 : ∀ (fu : Nat) (fd : Int) (st : Int) (f : Int → Int), (0 ≤ st ∧ st ≤ F 100) → (fd = mk8 f) → (rcI (F 100) (F 101) (A 9) (A 10) a f) → (rcC (F 101) (A 9) (A 10) f ∨ st + 1 ≤ sI f (F 100)) → (F 100 - st < (fu : Int)) → ∀ (H : Heap) (locs : List Loc), va_P D zcl (gw q c F A) H → va_D A0 (gw q c F A) → va_S A0 s.heap H locs → ∀ ls : Array Slot, lv_has ls 7 [(0, .ref (q 1)), (1, .int (iI (a))), (2, .ref (q 9)), (3, .ref (q 10)), (4, .int (iI (fd))), (5, .int (iI (st)))] → W p l e zr_N_reached s m args below meth c0 H locs 0 0 Q (F0 m 8 ls []) := by
    intro fu
    induction fu with
    | zero => intro fd st f  hst hfd hI hgr hm_8; exact absurd hm_8 (by omega)
    | succ fu ih_8 =>
      intro fd st f  hst hfd hI hgr hm_8 H locs hP hD hS ls hl
      refine lv_iload hx hb zd_N_reached_8 (lv_at hl 5 rfl) ?_
      refine lv_aload_n hx hb zd_N_reached_10 rfl (lv_at hl 0 rfl) ?_
      refine va_get (D := D) (ci := 1) (v := .int (iI (F 100))) (C := zR_N) (T := zT_N) (N := 11) hx hb hts zi_N hown hK.1 hP 1 ga_1 rfl 0 (by decide) (hts _ zw_33) (fun _ h9 => h9) rfl zd_N_reached_11 ?_
      refine x_icmp_ge (tgt := 65) hx hb zd_N_reached_14 (by decide) (⟨by omega, by omega⟩) (⟨by omega, by omega⟩) (fun h_14 => ?_) (fun h_14 => ?_)
      · have e_ : st = F 100 := by omega
        rw [e_] at hgr
        refine lv_iload hx hb zd_N_reached_65 (lv_at hl 4 rfl) ?_
        exact ret _ _ _ _ _ _ _ zd_N_reached_67 hP hD hS (⟨rfl, rfl, f, hI.1, hfd, rc_fin hI (by omega) hgr⟩)
      · refine lv_iconst (v := iI (0)) hx hb zd_N_reached_17 rfl ?_
        refine lv_istore (lv' := [(6, .int (iI (0))), (0, .ref (q 1)), (1, .int (iI (a))), (2, .ref (q 9)), (3, .ref (q 10)), (4, .int (iI (fd))), (5, .int (iI (st)))]) hx hb zd_N_reached_18 hl (by decide) rfl (fun ls hl => ?_)
        have L_20 : ∀ (fu : Nat) (fe : Int) (i : Int) (g : Int → Int), (0 ≤ i ∧ i ≤ F 101) → (fe = mk8 g) → (rcI (F 100) (F 101) (A 9) (A 10) a g) → (rcG (F 100) (F 101) (A 9) (A 10) f g i) → (F 101 - i < (fu : Int)) → ∀ (H : Heap) (locs : List Loc), va_P D zcl (gw q c F A) H → va_D A0 (gw q c F A) → va_S A0 s.heap H locs → ∀ ls : Array Slot, lv_has ls 7 [(0, .ref (q 1)), (1, .int (iI (a))), (2, .ref (q 9)), (3, .ref (q 10)), (4, .int (iI (fe))), (5, .int (iI (st))), (6, .int (iI (i)))] → W p l e zr_N_reached s m args below meth c0 H locs 0 0 Q (F0 m 20 ls []) := by
          intro fu
          induction fu with
          | zero => intro fe i g  hi hfe hIg hG hm_20; exact absurd hm_20 (by omega)
          | succ fu ih_20 =>
            intro fe i g  hi hfe hIg hG hm_20 H locs hP hD hS ls hl
            have fb_ := mk8_b hIg.1
            rw [← hfe] at fb_
            refine lv_iload hx hb zd_N_reached_20 (lv_at hl 6 rfl) ?_
            refine lv_aload_n hx hb zd_N_reached_22 rfl (lv_at hl 0 rfl) ?_
            refine va_get (D := D) (ci := 1) (v := .int (iI (F 101))) (C := zR_N) (T := zT_N) (N := 11) hx hb hts zi_N hown hK.1 hP 1 ga_1 rfl 1 (by decide) (hts _ zw_37) (fun _ h9 => h9) rfl zd_N_reached_23 ?_
            refine x_icmp_ge (tgt := 59) hx hb zd_N_reached_26 (by decide) (⟨by omega, by omega⟩) (⟨by omega, by omega⟩) (fun h_26 => ?_) (fun h_26 => ?_)
            · have e_ : i = F 101 := by omega
              rw [e_] at hG
              refine lv_iinc (v := iI (st + 1)) (lv' := [(5, .int (iI (st + 1))), (0, .ref (q 1)), (1, .int (iI (a))), (2, .ref (q 9)), (3, .ref (q 10)), (4, .int (iI (fe))), (6, .int (iI (i)))]) hx hb zd_N_reached_59 hl (k := 5) rfl (iI_add _ _) (by decide) rfl (fun ls hl => ?_)
              refine lv_goto (tgt := 8) hx hb zd_N_reached_62 (by decide) ?_
              exact ih_8 (fe) (st + 1) (g)  (by first | assumption | omega | (simp_all; done)) (hfe) (hIg) (rc_e hG hgr) (by omega) _ _ hP hD hS ls (lv_sub hl [1, 2, 3, 4, 5, 0] rfl)
            · have hc_ := hch i (by omega) (by omega)
              have sb_ := shI_b (t := A 9 i) fb_
              have mt_ := mk8_t (t := A 9 i) hIg.1 (by omega)
              rw [← hfe] at mt_
              refine lv_iload hx hb zd_N_reached_29 (lv_at hl 4 rfl) ?_
              refine lv_aload_n hx hb zd_N_reached_31 rfl (lv_at hl 2 rfl) ?_
              refine lv_iload hx hb zd_N_reached_32 (lv_at hl 6 rfl) ?_
              refine x_iald (v := A 9 i) hx hb hK.1 hP 9 0 ga_9 rfl (by decide) (by omega) (by omega) (rfl) zd_N_reached_34 ?_
              refine x_ishr hx hb zd_N_reached_35 (⟨by omega, by omega⟩) (⟨by omega, by omega⟩) ?_
              refine lv_iconst (v := iI (1)) hx hb zd_N_reached_36 rfl ?_
              refine x_iand1 hx hb zd_N_reached_37 (⟨by omega, by omega⟩) ?_
              refine lv_iconst (v := iI (1)) hx hb zd_N_reached_38 rfl ?_
              refine x_icmp_ne (tgt := 53) hx hb zd_N_reached_39 (by decide) (⟨by omega, by omega⟩) (⟨by omega, by omega⟩) (fun h_39 => ?_) (fun h_39 => ?_)
              · refine lv_iinc (v := iI (i + 1)) (lv' := [(6, .int (iI (i + 1))), (0, .ref (q 1)), (1, .int (iI (a))), (2, .ref (q 9)), (3, .ref (q 10)), (4, .int (iI (fe))), (5, .int (iI (st)))]) hx hb zd_N_reached_53 hl (k := 6) rfl (iI_add _ _) (by decide) rfl (fun ls hl => ?_)
                refine lv_goto (tgt := 20) hx hb zd_N_reached_56 (by decide) ?_
                exact ih_20 (fe) (i + 1) (_)  (by first | assumption | omega | (simp_all; done)) (by first | exact ho_ | exact hfe) (by first | exact hIg | exact rc_yI hIg ⟨hi.1, by omega⟩ hx_ (by omega)) (by first | exact rc_nG hG (by omega) | exact rc_yG hIg hG ⟨hi.1, by omega⟩ hx_ (by omega)) (by omega) _ _ hP hD hS ls (lv_sub hl [1, 2, 3, 4, 5, 6, 0] rfl)
              · have hx_ : g (A 9 i) = 1 := by omega
                have hw_ := pwI_nn (t := A 10 i)
                have ho_ := mk8_o (t := A 10 i) hIg.1 (by omega)
                rw [← hfe] at ho_
                refine lv_iload hx hb zd_N_reached_42 (lv_at hl 4 rfl) ?_
                refine lv_iconst (v := iI (1)) hx hb zd_N_reached_44 rfl ?_
                refine lv_aload_n hx hb zd_N_reached_45 rfl (lv_at hl 3 rfl) ?_
                refine lv_iload hx hb zd_N_reached_46 (lv_at hl 6 rfl) ?_
                refine x_iald (v := A 10 i) hx hb hK.1 hP 10 0 ga_10 rfl (by decide) (by omega) (by omega) (rfl) zd_N_reached_48 ?_
                refine x_ishl1 hx hb zd_N_reached_49 (⟨by omega, by omega⟩) ?_
                refine x_ior hx hb zd_N_reached_50 (by omega) (by assumption) ?_
                refine lv_istore (lv' := [(4, .int (iI (orI fe (pwI (A 10 i))))), (0, .ref (q 1)), (1, .int (iI (a))), (2, .ref (q 9)), (3, .ref (q 10)), (5, .int (iI (st))), (6, .int (iI (i)))]) hx hb zd_N_reached_51 hl (by decide) rfl (fun ls hl => ?_)
                refine lv_iinc (v := iI (i + 1)) (lv' := [(6, .int (iI (i + 1))), (4, .int (iI (orI fe (pwI (A 10 i))))), (0, .ref (q 1)), (1, .int (iI (a))), (2, .ref (q 9)), (3, .ref (q 10)), (5, .int (iI (st)))]) hx hb zd_N_reached_53 hl (k := 6) rfl (iI_add _ _) (by decide) rfl (fun ls hl => ?_)
                refine lv_goto (tgt := 20) hx hb zd_N_reached_56 (by decide) ?_
                exact ih_20 (orI fe (pwI (A 10 i))) (i + 1) (_)  (by first | assumption | omega | (simp_all; done)) (by first | exact ho_ | exact hfe) (by first | exact hIg | exact rc_yI hIg ⟨hi.1, by omega⟩ hx_ (by omega)) (by first | exact rc_nG hG (by omega) | exact rc_yG hIg hG ⟨hi.1, by omega⟩ hx_ (by omega)) (by omega) _ _ hP hD hS ls (lv_sub hl [2, 3, 4, 5, 1, 6, 0] rfl)
        exact L_20 (((F 101 - (0) : Int) + 1).toNat) (fd) (0) (f)  (by first | assumption | omega | (simp_all; done)) (hfd) (hI) (rc_i) (by omega) _ _ hP hD hS ls (lv_sub hl [1, 2, 3, 4, 5, 6, 0] rfl)
  exact L_8 (((F 100 - (0) : Int) + 1).toNat) (pwI a) (0) (upI (fun _ => 0) a 1)  (by first | assumption | omega | (simp_all; done)) (s1_) (s0_) (Or.inr (by omega)) (by omega) _ _ hP hD hS ls (lv_sub hl [2, 3, 4, 5, 1, 0] rfl)

set_option maxHeartbeats 4000000 in
set_option maxRecDepth 100000 in
theorem c_N_reached_b (l : Launch) (D : va_G) (q : Nat → Nat) (c : Nat → ClassId) (sz : Nat) (F : Nat → Int) (A : Nat → Int → Int) (a : Int) (hn : 1 ≤ F 100 ∧ F 100 ≤ 8) (hc : 0 ≤ F 101 ∧ F 101 ≤ 14) (hch : ∀ k, 0 ≤ k → k < F 101 → (0 ≤ A 9 k ∧ A 9 k < F 100) ∧ (0 ≤ A 10 k ∧ A 10 k < F 100) ∧ (1 ≤ A 11 k ∧ A 11 k ≤ 9) ∧ (1 ≤ A 12 k ∧ A 12 k ≤ 9) ∧ 0 ≤ A 13 k ∧ A 13 k ≤ 99) (ha : 0 ≤ a ∧ a < F 100) : zMI l zy_N_reached zc_N_reached 7 (some .int) zr_N_reached D q c sz [.ref (q 1), .int (iI (a)), .ref (q 10), .ref (q 9)] F A (fun z F1 A1 => F1 = F ∧ A1 = A ∧ ∃ f, (∀ b, f b = 0 ∨ f b = 1) ∧ z = mk8 f ∧ ∀ b, f b = 1 ↔ (0 ≤ b ∧ b < F 100) ∧ Rch (F 101) (A 10) (A 9) a b) := by
  refine z_ofI (by decide) (Nat.le_of_ble_eq_true rfl) ?_
  intro p e s m args below meth c0 A0 Q C0 ret hP hD hS ls hl
  obtain ⟨S, hK, hA⟩ := C0
  have hx := S.1
  have hb := S.2.1
  have hown := S.2.2.2.1
  have hts : ∀ w ∈ zG, w.before args s = true := fun w h => S.2.2.2.2 w (List.mem_cons_of_mem _ h)
  have hl : lv_has ls 7 [(0, .ref (q 1)), (1, .int (iI (a))), (2, .ref (q 10)), (3, .ref (q 9))] := hl
  have s0_ := rc_0 (n := F 100) (m := F 101) (x := A 10) (y := A 9) ha
  have s1_ : pwI a = mk8 (upI (fun _ => 0) a 1) := by (rw [mk8_u (by omega)]; show pwI a = 0 + pwI a * (1 - 0); omega)
  have s3_ : sI (upI (fun _ => 0) a 1) (F 100) = 1 := by (rw [sI_up ha.1 ha.2, sI_zero (fun _ _ _ => rfl)]; omega)
  refine lv_iconst (v := iI (1)) hx hb zd_N_reached_0 rfl ?_
  refine lv_iload_n hx hb zd_N_reached_1 rfl (lv_at hl 1 rfl) ?_
  refine x_ishl1 hx hb zd_N_reached_2 (⟨by omega, by omega⟩) ?_
  refine lv_istore (lv' := [(4, .int (iI (pwI a))), (0, .ref (q 1)), (1, .int (iI (a))), (2, .ref (q 10)), (3, .ref (q 9))]) hx hb zd_N_reached_3 hl (by decide) rfl (fun ls hl => ?_)
  refine lv_iconst (v := iI (0)) hx hb zd_N_reached_5 rfl ?_
  refine lv_istore (lv' := [(5, .int (iI (0))), (4, .int (iI (pwI a))), (0, .ref (q 1)), (1, .int (iI (a))), (2, .ref (q 10)), (3, .ref (q 9))]) hx hb zd_N_reached_6 hl (by decide) rfl (fun ls hl => ?_)
  have L_8 : ∀ (fu : Nat) (fd : Int) (st : Int) (f : Int → Int), (0 ≤ st ∧ st ≤ F 100) → (fd = mk8 f) → (rcI (F 100) (F 101) (A 10) (A 9) a f) → (rcC (F 101) (A 10) (A 9) f ∨ st + 1 ≤ sI f (F 100)) → (F 100 - st < (fu : Int)) → ∀ (H : Heap) (locs : List Loc), va_P D zcl (gw q c F A) H → va_D A0 (gw q c F A) → va_S A0 s.heap H locs → ∀ ls : Array Slot, lv_has ls 7 [(0, .ref (q 1)), (1, .int (iI (a))), (2, .ref (q 10)), (3, .ref (q 9)), (4, .int (iI (fd))), (5, .int (iI (st)))] → W p l e zr_N_reached s m args below meth c0 H locs 0 0 Q (F0 m 8 ls []) := by
    intro fu
    induction fu with
    | zero => intro fd st f  hst hfd hI hgr hm_8; exact absurd hm_8 (by omega)
    | succ fu ih_8 =>
      intro fd st f  hst hfd hI hgr hm_8 H locs hP hD hS ls hl
      refine lv_iload hx hb zd_N_reached_8 (lv_at hl 5 rfl) ?_
      refine lv_aload_n hx hb zd_N_reached_10 rfl (lv_at hl 0 rfl) ?_
      refine va_get (D := D) (ci := 1) (v := .int (iI (F 100))) (C := zR_N) (T := zT_N) (N := 11) hx hb hts zi_N hown hK.1 hP 1 ga_1 rfl 0 (by decide) (hts _ zw_33) (fun _ h9 => h9) rfl zd_N_reached_11 ?_
      refine x_icmp_ge (tgt := 65) hx hb zd_N_reached_14 (by decide) (⟨by omega, by omega⟩) (⟨by omega, by omega⟩) (fun h_14 => ?_) (fun h_14 => ?_)
      · have e_ : st = F 100 := by omega
        rw [e_] at hgr
        refine lv_iload hx hb zd_N_reached_65 (lv_at hl 4 rfl) ?_
        exact ret _ _ _ _ _ _ _ zd_N_reached_67 hP hD hS (⟨rfl, rfl, f, hI.1, hfd, rc_fin hI (by omega) hgr⟩)
      · refine lv_iconst (v := iI (0)) hx hb zd_N_reached_17 rfl ?_
        refine lv_istore (lv' := [(6, .int (iI (0))), (0, .ref (q 1)), (1, .int (iI (a))), (2, .ref (q 10)), (3, .ref (q 9)), (4, .int (iI (fd))), (5, .int (iI (st)))]) hx hb zd_N_reached_18 hl (by decide) rfl (fun ls hl => ?_)
        have L_20 : ∀ (fu : Nat) (fe : Int) (i : Int) (g : Int → Int), (0 ≤ i ∧ i ≤ F 101) → (fe = mk8 g) → (rcI (F 100) (F 101) (A 10) (A 9) a g) → (rcG (F 100) (F 101) (A 10) (A 9) f g i) → (F 101 - i < (fu : Int)) → ∀ (H : Heap) (locs : List Loc), va_P D zcl (gw q c F A) H → va_D A0 (gw q c F A) → va_S A0 s.heap H locs → ∀ ls : Array Slot, lv_has ls 7 [(0, .ref (q 1)), (1, .int (iI (a))), (2, .ref (q 10)), (3, .ref (q 9)), (4, .int (iI (fe))), (5, .int (iI (st))), (6, .int (iI (i)))] → W p l e zr_N_reached s m args below meth c0 H locs 0 0 Q (F0 m 20 ls []) := by
          intro fu
          induction fu with
          | zero => intro fe i g  hi hfe hIg hG hm_20; exact absurd hm_20 (by omega)
          | succ fu ih_20 =>
            intro fe i g  hi hfe hIg hG hm_20 H locs hP hD hS ls hl
            have fb_ := mk8_b hIg.1
            rw [← hfe] at fb_
            refine lv_iload hx hb zd_N_reached_20 (lv_at hl 6 rfl) ?_
            refine lv_aload_n hx hb zd_N_reached_22 rfl (lv_at hl 0 rfl) ?_
            refine va_get (D := D) (ci := 1) (v := .int (iI (F 101))) (C := zR_N) (T := zT_N) (N := 11) hx hb hts zi_N hown hK.1 hP 1 ga_1 rfl 1 (by decide) (hts _ zw_37) (fun _ h9 => h9) rfl zd_N_reached_23 ?_
            refine x_icmp_ge (tgt := 59) hx hb zd_N_reached_26 (by decide) (⟨by omega, by omega⟩) (⟨by omega, by omega⟩) (fun h_26 => ?_) (fun h_26 => ?_)
            · have e_ : i = F 101 := by omega
              rw [e_] at hG
              refine lv_iinc (v := iI (st + 1)) (lv' := [(5, .int (iI (st + 1))), (0, .ref (q 1)), (1, .int (iI (a))), (2, .ref (q 10)), (3, .ref (q 9)), (4, .int (iI (fe))), (6, .int (iI (i)))]) hx hb zd_N_reached_59 hl (k := 5) rfl (iI_add _ _) (by decide) rfl (fun ls hl => ?_)
              refine lv_goto (tgt := 8) hx hb zd_N_reached_62 (by decide) ?_
              exact ih_8 (fe) (st + 1) (g)  (by first | assumption | omega | (simp_all; done)) (hfe) (hIg) (rc_e hG hgr) (by omega) _ _ hP hD hS ls (lv_sub hl [1, 2, 3, 4, 5, 0] rfl)
            · have hc_ := hch i (by omega) (by omega)
              have sb_ := shI_b (t := A 10 i) fb_
              have mt_ := mk8_t (t := A 10 i) hIg.1 (by omega)
              rw [← hfe] at mt_
              refine lv_iload hx hb zd_N_reached_29 (lv_at hl 4 rfl) ?_
              refine lv_aload_n hx hb zd_N_reached_31 rfl (lv_at hl 2 rfl) ?_
              refine lv_iload hx hb zd_N_reached_32 (lv_at hl 6 rfl) ?_
              refine x_iald (v := A 10 i) hx hb hK.1 hP 10 0 ga_10 rfl (by decide) (by omega) (by omega) (rfl) zd_N_reached_34 ?_
              refine x_ishr hx hb zd_N_reached_35 (⟨by omega, by omega⟩) (⟨by omega, by omega⟩) ?_
              refine lv_iconst (v := iI (1)) hx hb zd_N_reached_36 rfl ?_
              refine x_iand1 hx hb zd_N_reached_37 (⟨by omega, by omega⟩) ?_
              refine lv_iconst (v := iI (1)) hx hb zd_N_reached_38 rfl ?_
              refine x_icmp_ne (tgt := 53) hx hb zd_N_reached_39 (by decide) (⟨by omega, by omega⟩) (⟨by omega, by omega⟩) (fun h_39 => ?_) (fun h_39 => ?_)
              · refine lv_iinc (v := iI (i + 1)) (lv' := [(6, .int (iI (i + 1))), (0, .ref (q 1)), (1, .int (iI (a))), (2, .ref (q 10)), (3, .ref (q 9)), (4, .int (iI (fe))), (5, .int (iI (st)))]) hx hb zd_N_reached_53 hl (k := 6) rfl (iI_add _ _) (by decide) rfl (fun ls hl => ?_)
                refine lv_goto (tgt := 20) hx hb zd_N_reached_56 (by decide) ?_
                exact ih_20 (fe) (i + 1) (_)  (by first | assumption | omega | (simp_all; done)) (by first | exact ho_ | exact hfe) (by first | exact hIg | exact rc_yI hIg ⟨hi.1, by omega⟩ hx_ (by omega)) (by first | exact rc_nG hG (by omega) | exact rc_yG hIg hG ⟨hi.1, by omega⟩ hx_ (by omega)) (by omega) _ _ hP hD hS ls (lv_sub hl [1, 2, 3, 4, 5, 6, 0] rfl)
              · have hx_ : g (A 10 i) = 1 := by omega
                have hw_ := pwI_nn (t := A 9 i)
                have ho_ := mk8_o (t := A 9 i) hIg.1 (by omega)
                rw [← hfe] at ho_
                refine lv_iload hx hb zd_N_reached_42 (lv_at hl 4 rfl) ?_
                refine lv_iconst (v := iI (1)) hx hb zd_N_reached_44 rfl ?_
                refine lv_aload_n hx hb zd_N_reached_45 rfl (lv_at hl 3 rfl) ?_
                refine lv_iload hx hb zd_N_reached_46 (lv_at hl 6 rfl) ?_
                refine x_iald (v := A 9 i) hx hb hK.1 hP 9 0 ga_9 rfl (by decide) (by omega) (by omega) (rfl) zd_N_reached_48 ?_
                refine x_ishl1 hx hb zd_N_reached_49 (⟨by omega, by omega⟩) ?_
                refine x_ior hx hb zd_N_reached_50 (by omega) (by assumption) ?_
                refine lv_istore (lv' := [(4, .int (iI (orI fe (pwI (A 9 i))))), (0, .ref (q 1)), (1, .int (iI (a))), (2, .ref (q 10)), (3, .ref (q 9)), (5, .int (iI (st))), (6, .int (iI (i)))]) hx hb zd_N_reached_51 hl (by decide) rfl (fun ls hl => ?_)
                refine lv_iinc (v := iI (i + 1)) (lv' := [(6, .int (iI (i + 1))), (4, .int (iI (orI fe (pwI (A 9 i))))), (0, .ref (q 1)), (1, .int (iI (a))), (2, .ref (q 10)), (3, .ref (q 9)), (5, .int (iI (st)))]) hx hb zd_N_reached_53 hl (k := 6) rfl (iI_add _ _) (by decide) rfl (fun ls hl => ?_)
                refine lv_goto (tgt := 20) hx hb zd_N_reached_56 (by decide) ?_
                exact ih_20 (orI fe (pwI (A 9 i))) (i + 1) (_)  (by first | assumption | omega | (simp_all; done)) (by first | exact ho_ | exact hfe) (by first | exact hIg | exact rc_yI hIg ⟨hi.1, by omega⟩ hx_ (by omega)) (by first | exact rc_nG hG (by omega) | exact rc_yG hIg hG ⟨hi.1, by omega⟩ hx_ (by omega)) (by omega) _ _ hP hD hS ls (lv_sub hl [2, 3, 4, 5, 1, 6, 0] rfl)
        exact L_20 (((F 101 - (0) : Int) + 1).toNat) (fd) (0) (f)  (by first | assumption | omega | (simp_all; done)) (hfd) (hI) (rc_i) (by omega) _ _ hP hD hS ls (lv_sub hl [1, 2, 3, 4, 5, 6, 0] rfl)
  exact L_8 (((F 100 - (0) : Int) + 1).toNat) (pwI a) (0) (upI (fun _ => 0) a 1)  (by first | assumption | omega | (simp_all; done)) (s1_) (s0_) (Or.inr (by omega)) (by omega) _ _ hP hD hS ls (lv_sub hl [2, 3, 4, 5, 1, 0] rfl)

abbrev zr_N_isClosed : Room := ({ frames := 1, cells := 0, slots := 0, locals := 26 } : Room)
set_option maxHeartbeats 4000000 in
set_option maxRecDepth 100000 in
theorem c_N_isClosed (l : Launch) (D : va_G) (q : Nat → Nat) (c : Nat → ClassId) (sz : Nat) (F : Nat → Int) (A : Nat → Int → Int) (a : Int) (hn : 1 ≤ F 100 ∧ F 100 ≤ 8) (hc : 0 ≤ F 101 ∧ F 101 ≤ 14) (hact : ∀ a, 0 ≤ a → a < 8 → (1 ≤ A 7 a ∧ A 7 a ≤ 4782969) ∧ 0 ≤ A 8 a ∧ A 8 a < 8) (hch : ∀ k, 0 ≤ k → k < F 101 → (0 ≤ A 9 k ∧ A 9 k < F 100) ∧ (0 ≤ A 10 k ∧ A 10 k < F 100) ∧ (1 ≤ A 11 k ∧ A 11 k ≤ 9) ∧ (1 ≤ A 12 k ∧ A 12 k ≤ 9) ∧ 0 ≤ A 13 k ∧ A 13 k ≤ 99) (hsame : ∀ k, 0 ≤ k → k < F 101 → A 8 (A 9 k) = A 8 (A 10 k)) (ha : 0 ≤ a ∧ a < F 100) : zMI l zy_N_isClosed zc_N_isClosed 4 (some .boolean) zr_N_isClosed D q c sz [.ref (q 1), .int (iI (a))] F A (fun z F1 A1 => F1 = F ∧ A1 = A ∧ (z = 0 ∨ z = 1) ∧ (z = 1 ↔ (∀ b, 0 ≤ b → b < F 100 → A 8 b = A 8 a → Rch (F 101) (A 9) (A 10) a b) ∧ ∀ b, 0 ≤ b → b < F 100 → A 8 b = A 8 a → Rch (F 101) (A 10) (A 9) a b)) := by
  refine z_ofB (by decide) (Nat.le_of_ble_eq_true rfl) ?_
  intro p e s m args below meth c0 A0 Q C0 ret hP hD hS ls hl
  obtain ⟨S, hK, hA⟩ := C0
  have hx := S.1
  have hb := S.2.1
  have hown := S.2.2.2.1
  have hts : ∀ w ∈ zG, w.before args s = true := fun w h => S.2.2.2.2 w (List.mem_cons_of_mem _ h)
  have hl : lv_has ls 4 [(0, .ref (q 1)), (1, .int (iI (a)))] := hl
  have pa_ := hact a (by omega) (by omega)
  refine lv_iconst (v := iI (0)) hx hb zd_N_isClosed_0 rfl ?_
  refine lv_istore_n (lv' := [(2, .int (iI (0))), (0, .ref (q 1)), (1, .int (iI (a)))]) hx hb zd_N_isClosed_1 rfl hl (by decide) rfl (fun ls hl => ?_)
  refine lv_iconst (v := iI (0)) hx hb zd_N_isClosed_2 rfl ?_
  refine lv_istore_n (lv' := [(3, .int (iI (0))), (2, .int (iI (0))), (0, .ref (q 1)), (1, .int (iI (a)))]) hx hb zd_N_isClosed_3 rfl hl (by decide) rfl (fun ls hl => ?_)
  have L_4 : ∀ (fu : Nat) (me : Int) (i : Int) , (0 ≤ i ∧ i ≤ F 100) → (me = mk8 (mbP (A 8) a i)) → (F 100 - i < (fu : Int)) → ∀ (H : Heap) (locs : List Loc), va_P D zcl (gw q c F A) H → va_D A0 (gw q c F A) → va_S A0 s.heap H locs → ∀ ls : Array Slot, lv_has ls 4 [(0, .ref (q 1)), (1, .int (iI (a))), (2, .int (iI (me))), (3, .int (iI (i)))] → W p l e zr_N_isClosed s m args below meth c0 H locs 0 0 Q (F0 m 4 ls []) := by
    intro fu
    induction fu with
    | zero => intro me i   hi hme hm_4; exact absurd hm_4 (by omega)
    | succ fu ih_4 =>
      intro me i   hi hme hm_4 H locs hP hD hS ls hl
      have mb_ := mk8_b (f := (mbP (A 8) a i)) mbP_01
      rw [← hme] at mb_
      refine lv_iload_n hx hb zd_N_isClosed_4 rfl (lv_at hl 3 rfl) ?_
      refine lv_aload_n hx hb zd_N_isClosed_5 rfl (lv_at hl 0 rfl) ?_
      refine va_get (D := D) (ci := 1) (v := .int (iI (F 100))) (C := zR_N) (T := zT_N) (N := 11) hx hb hts zi_N hown hK.1 hP 1 ga_1 rfl 0 (by decide) (hts _ zw_33) (fun _ h9 => h9) rfl zd_N_isClosed_6 ?_
      refine x_icmp_ge (tgt := 39) hx hb zd_N_isClosed_9 (by decide) (⟨by omega, by omega⟩) (⟨by omega, by omega⟩) (fun h_9 => ?_) (fun h_9 => ?_)
      · have e_ : i = F 100 := by omega
        rw [e_] at hme
        refine lv_aload_n hx hb zd_N_isClosed_39 rfl (lv_at hl 0 rfl) ?_
        refine lv_iload_n hx hb zd_N_isClosed_40 rfl (lv_at hl 1 rfl) ?_
        refine lv_aload_n hx hb zd_N_isClosed_41 rfl (lv_at hl 0 rfl) ?_
        refine va_get (D := D) (ci := 1) (v := .ref (q 9)) (C := zR_N) (T := zT_N) (N := 11) hx hb hts zi_N hown hK.1 hP 1 ga_1 rfl 6 (by decide) (hts _ zw_54) (fun _ h9 => h9) rfl zd_N_isClosed_42 ?_
        refine lv_aload_n hx hb zd_N_isClosed_45 rfl (lv_at hl 0 rfl) ?_
        refine va_get (D := D) (ci := 1) (v := .ref (q 10)) (C := zR_N) (T := zT_N) (N := 11) hx hb hts zi_N hown hK.1 hP 1 ga_1 rfl 7 (by decide) (hts _ zw_57) (fun _ h9 => h9) rfl zd_N_isClosed_46 ?_
        refine z_goi (z_runV (n := 3) (k := 1) (ci := 1) (As := [.int (iI (a)), .ref (q 9), .ref (q 10)]) (rest := []) S (c_N_reached l D q c _ F A a (by first | assumption | omega | exact ⟨by omega, by omega⟩) (by first | assumption | omega | exact ⟨by omega, by omega⟩) (by first | assumption | omega | exact ⟨by omega, by omega⟩) (by first | assumption | omega | exact ⟨by omega, by omega⟩)) zw_460 zw_462 zs_23 zw_2 zw_463 ⟨by decide +kernel, by decide, rfl, rfl⟩ hK hP hD ga_1 rfl rfl rfl hl.1 rfl (Nat.le_of_ble_eq_true rfl) zd_N_isClosed_49 ⟨Nat.zero_le _, Nat.zero_le _⟩) hD hS hA (fun z_49 F_49 A_49 H locs hq_49 hP hD hS => ?_)
        obtain ⟨hf_49, ha_49, hq_49⟩ := hq_49
        rw [hf_49, ha_49] at hP hD
        obtain ⟨f1, f2, f3, f4⟩ := hq_49
        have fb_ := mk8_b f2
        rw [← f3] at fb_
        have q1_ := nc_eq (F := F) (A := A) (a := a) hn hsame f2 f4
        rw [← f3, ← hme] at q1_
        refine lv_iload_n hx hb zd_N_isClosed_52 rfl (lv_at hl 2 rfl) ?_
        refine x_icmp_ne (tgt := 77) hx hb zd_N_isClosed_53 (by decide) (⟨by omega, by omega⟩) (⟨by omega, by omega⟩) (fun h_53 => ?_) (fun h_53 => ?_)
        · refine lv_iconst (v := iI (0)) hx hb zd_N_isClosed_77 rfl ?_
          exact ret _ _ _ _ _ _ _ zd_N_isClosed_78 hP hD hS (by omega) (by first | exact ⟨rfl, rfl, Or.inr rfl, ⟨fun _ => ⟨q1_.mp h_53, q2_.mp h_70⟩, fun _ => rfl⟩⟩ | exact ⟨rfl, rfl, Or.inl rfl, ⟨fun h => by omega, fun h => absurd (q1_.mpr h.1) h_53⟩⟩ | exact ⟨rfl, rfl, Or.inl rfl, ⟨fun h => by omega, fun h => absurd (q2_.mpr h.2) h_70⟩⟩)
        · refine lv_aload_n hx hb zd_N_isClosed_56 rfl (lv_at hl 0 rfl) ?_
          refine lv_iload_n hx hb zd_N_isClosed_57 rfl (lv_at hl 1 rfl) ?_
          refine lv_aload_n hx hb zd_N_isClosed_58 rfl (lv_at hl 0 rfl) ?_
          refine va_get (D := D) (ci := 1) (v := .ref (q 10)) (C := zR_N) (T := zT_N) (N := 11) hx hb hts zi_N hown hK.1 hP 1 ga_1 rfl 7 (by decide) (hts _ zw_57) (fun _ h9 => h9) rfl zd_N_isClosed_59 ?_
          refine lv_aload_n hx hb zd_N_isClosed_62 rfl (lv_at hl 0 rfl) ?_
          refine va_get (D := D) (ci := 1) (v := .ref (q 9)) (C := zR_N) (T := zT_N) (N := 11) hx hb hts zi_N hown hK.1 hP 1 ga_1 rfl 6 (by decide) (hts _ zw_54) (fun _ h9 => h9) rfl zd_N_isClosed_63 ?_
          refine z_goi (z_runV (n := 3) (k := 1) (ci := 1) (As := [.int (iI (a)), .ref (q 10), .ref (q 9)]) (rest := []) S (c_N_reached_b l D q c _ F A a (by first | assumption | omega | exact ⟨by omega, by omega⟩) (by first | assumption | omega | exact ⟨by omega, by omega⟩) (by first | assumption | omega | exact ⟨by omega, by omega⟩) (by first | assumption | omega | exact ⟨by omega, by omega⟩)) zw_460 zw_462 zs_23 zw_2 zw_463 ⟨by decide +kernel, by decide, rfl, rfl⟩ hK hP hD ga_1 rfl rfl rfl hl.1 rfl (Nat.le_of_ble_eq_true rfl) zd_N_isClosed_66 ⟨Nat.zero_le _, Nat.zero_le _⟩) hD hS hA (fun z_66 F_66 A_66 H locs hq_66 hP hD hS => ?_)
          obtain ⟨hf_66, ha_66, hq_66⟩ := hq_66
          rw [hf_66, ha_66] at hP hD
          obtain ⟨g1, g2, g3, g4⟩ := hq_66
          have gb_ := mk8_b g2
          rw [← g3] at gb_
          have q2_ := nc_eq2 (F := F) (A := A) (a := a) hn hsame g2 g4
          rw [← g3, ← hme] at q2_
          refine lv_iload_n hx hb zd_N_isClosed_69 rfl (lv_at hl 2 rfl) ?_
          refine x_icmp_ne (tgt := 77) hx hb zd_N_isClosed_70 (by decide) (⟨by omega, by omega⟩) (⟨by omega, by omega⟩) (fun h_70 => ?_) (fun h_70 => ?_)
          · refine lv_iconst (v := iI (0)) hx hb zd_N_isClosed_77 rfl ?_
            exact ret _ _ _ _ _ _ _ zd_N_isClosed_78 hP hD hS (by omega) (by first | exact ⟨rfl, rfl, Or.inr rfl, ⟨fun _ => ⟨q1_.mp h_53, q2_.mp h_70⟩, fun _ => rfl⟩⟩ | exact ⟨rfl, rfl, Or.inl rfl, ⟨fun h => by omega, fun h => absurd (q1_.mpr h.1) h_53⟩⟩ | exact ⟨rfl, rfl, Or.inl rfl, ⟨fun h => by omega, fun h => absurd (q2_.mpr h.2) h_70⟩⟩)
          · refine lv_iconst (v := iI (1)) hx hb zd_N_isClosed_73 rfl ?_
            refine lv_goto (tgt := 78) hx hb zd_N_isClosed_74 (by decide) ?_
            exact ret _ _ _ _ _ _ _ zd_N_isClosed_78 hP hD hS (by omega) (by first | exact ⟨rfl, rfl, Or.inr rfl, ⟨fun _ => ⟨q1_.mp h_53, q2_.mp h_70⟩, fun _ => rfl⟩⟩ | exact ⟨rfl, rfl, Or.inl rfl, ⟨fun h => by omega, fun h => absurd (q1_.mpr h.1) h_53⟩⟩ | exact ⟨rfl, rfl, Or.inl rfl, ⟨fun h => by omega, fun h => absurd (q2_.mpr h.2) h_70⟩⟩)
      · have p_ := hact i (by omega) (by omega)
        refine lv_aload_n hx hb zd_N_isClosed_12 rfl (lv_at hl 0 rfl) ?_
        refine va_get (D := D) (ci := 1) (v := .ref (q 8)) (C := zR_N) (T := zT_N) (N := 11) hx hb hts zi_N hown hK.1 hP 1 ga_1 rfl 5 (by decide) (hts _ zw_51) (fun _ h9 => h9) rfl zd_N_isClosed_13 ?_
        refine lv_iload_n hx hb zd_N_isClosed_16 rfl (lv_at hl 3 rfl) ?_
        refine x_iald (v := A 8 i) hx hb hK.1 hP 8 0 ga_8 rfl (by decide) (by omega) (by omega) (rfl) zd_N_isClosed_17 ?_
        refine lv_aload_n hx hb zd_N_isClosed_18 rfl (lv_at hl 0 rfl) ?_
        refine va_get (D := D) (ci := 1) (v := .ref (q 8)) (C := zR_N) (T := zT_N) (N := 11) hx hb hts zi_N hown hK.1 hP 1 ga_1 rfl 5 (by decide) (hts _ zw_51) (fun _ h9 => h9) rfl zd_N_isClosed_19 ?_
        refine lv_iload_n hx hb zd_N_isClosed_22 rfl (lv_at hl 1 rfl) ?_
        refine x_iald (v := A 8 a) hx hb hK.1 hP 8 0 ga_8 rfl (by decide) (by omega) (by omega) (rfl) zd_N_isClosed_23 ?_
        refine x_icmp_ne (tgt := 33) hx hb zd_N_isClosed_24 (by decide) (⟨by omega, by omega⟩) (⟨by omega, by omega⟩) (fun h_24 => ?_) (fun h_24 => ?_)
        · refine lv_iinc (v := iI (i + 1)) (lv' := [(3, .int (iI (i + 1))), (0, .ref (q 1)), (1, .int (iI (a))), (2, .int (iI (me)))]) hx hb zd_N_isClosed_33 hl (k := 3) rfl (iI_add _ _) (by decide) rfl (fun ls hl => ?_)
          refine lv_goto (tgt := 4) hx hb zd_N_isClosed_36 (by decide) ?_
          exact ih_4 (me) (i + 1)   (by first | assumption | omega | (simp_all; done)) (by first | (rw [ho_]; congr 1; funext b; unfold upI mbP; by_cases e9 : b = i; (rw [if_pos e9, e9, if_pos ⟨hi.1, by omega, h_24⟩]); (rw [if_neg e9]; by_cases c9 : 0 ≤ b ∧ b < i ∧ A 8 b = A 8 a; (rw [if_pos c9, if_pos ⟨c9.1, by omega, c9.2.2⟩]); (rw [if_neg c9, if_neg (fun h => c9 ⟨h.1, by omega, h.2.2⟩)]))) | (rw [hme]; congr 1; funext b; unfold mbP; by_cases c9 : 0 ≤ b ∧ b < i ∧ A 8 b = A 8 a; (rw [if_pos c9, if_pos ⟨c9.1, by omega, c9.2.2⟩]); (rw [if_neg c9, if_neg (fun h => by by_cases e9 : b = i; (rw [e9] at h; exact h_24 h.2.2); (exact c9 ⟨h.1, by omega, h.2.2⟩))]))) (by omega) _ _ hP hD hS ls (lv_sub hl [1, 2, 3, 0] rfl)
        · have hw_ := pwI_nn (t := i)
          have ho_ := mk8_o (f := mbP (A 8) a i) (t := i) mbP_01 (by omega)
          rw [← hme] at ho_
          refine lv_iload_n hx hb zd_N_isClosed_27 rfl (lv_at hl 2 rfl) ?_
          refine lv_iconst (v := iI (1)) hx hb zd_N_isClosed_28 rfl ?_
          refine lv_iload_n hx hb zd_N_isClosed_29 rfl (lv_at hl 3 rfl) ?_
          refine x_ishl1 hx hb zd_N_isClosed_30 (⟨by omega, by omega⟩) ?_
          refine x_ior hx hb zd_N_isClosed_31 (by omega) (by assumption) ?_
          refine lv_istore_n (lv' := [(2, .int (iI (orI me (pwI i)))), (0, .ref (q 1)), (1, .int (iI (a))), (3, .int (iI (i)))]) hx hb zd_N_isClosed_32 rfl hl (by decide) rfl (fun ls hl => ?_)
          refine lv_iinc (v := iI (i + 1)) (lv' := [(3, .int (iI (i + 1))), (2, .int (iI (orI me (pwI i)))), (0, .ref (q 1)), (1, .int (iI (a)))]) hx hb zd_N_isClosed_33 hl (k := 3) rfl (iI_add _ _) (by decide) rfl (fun ls hl => ?_)
          refine lv_goto (tgt := 4) hx hb zd_N_isClosed_36 (by decide) ?_
          exact ih_4 (orI me (pwI i)) (i + 1)   (by first | assumption | omega | (simp_all; done)) (by first | (rw [ho_]; congr 1; funext b; unfold upI mbP; by_cases e9 : b = i; (rw [if_pos e9, e9, if_pos ⟨hi.1, by omega, h_24⟩]); (rw [if_neg e9]; by_cases c9 : 0 ≤ b ∧ b < i ∧ A 8 b = A 8 a; (rw [if_pos c9, if_pos ⟨c9.1, by omega, c9.2.2⟩]); (rw [if_neg c9, if_neg (fun h => c9 ⟨h.1, by omega, h.2.2⟩)]))) | (rw [hme]; congr 1; funext b; unfold mbP; by_cases c9 : 0 ≤ b ∧ b < i ∧ A 8 b = A 8 a; (rw [if_pos c9, if_pos ⟨c9.1, by omega, c9.2.2⟩]); (rw [if_neg c9, if_neg (fun h => by by_cases e9 : b = i; (rw [e9] at h; exact h_24 h.2.2); (exact c9 ⟨h.1, by omega, h.2.2⟩))]))) (by omega) _ _ hP hD hS ls (lv_sub hl [2, 3, 1, 0] rfl)
  exact L_4 (((F 100 - (0) : Int) + 1).toNat) (0) (0)   (by first | assumption | omega | (simp_all; done)) (by unfold mk8 mbP; simp; try omega) (by omega) _ _ hP hD hS ls (lv_sub hl [2, 3, 1, 0] rfl)
