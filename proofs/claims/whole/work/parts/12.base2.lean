def sumN (f : Int → Int) : Nat → Int
  | 0 => 0
  | n + 1 => sumN f n + f n
/-- the sum of f below i -/
def sI (f : Int → Int) (i : Int) : Int := sumN f i.toNat
theorem sI_0 {f : Int → Int} : sI f 0 = 0 := rfl
theorem sI_s {f : Int → Int} {i : Int} (h : 0 ≤ i) : sI f (i + 1) = sI f i + f i := by
  unfold sI
  rw [show (i + 1).toNat = i.toNat + 1 by omega]
  show sumN f i.toNat + f (i.toNat : Int) = _
  rw [show ((i.toNat : Nat) : Int) = i by omega]
section XM
variable {p : Program} {l : Launch} {e : Env} {R : Room} {s : State} {m : MethodId} {args : Array Value} {below : List Frame} {meth : Method} {c : Code} {H : Heap} {locs : List Loc} {cells slots : Nat} {Q : State → Prop}
variable {pc : Nat} {ls : Array Slot} {rest : List Value}
theorem x_mmax {cc : ByteArray} (hexec : p.tables.exec = Jvm.exec) (hb : c.code = cc) (hml : c.maxLocals = ls.size) {own : String} {index : Nat} (hown : s.vm.findClass own = some m.cls) (hlink : (Cond.methodLink own index Lib.Math.max.name).before args s = true) (hstat : (Cond.static Lib.Math.max.name).before args s = true) (hini : (Cond.initialized "java/lang/Math").before args s = true) (hcode : (Cond.code Lib.Math.max.name Lib.Math.max.code 2 (some .int)).before args s = true)
    (hframes : 1 ≤ R.frames) (hlocals : (rest.map fun v => v.category).sum + 13 ≤ R.locals) (hc : cells ≤ R.cells) (hs : slots ≤ R.slots) {x y : Int} (hx : ib x) (hy : ib y) (hdg : decode cc pc = .ok (.invokestatic index, 3))
    (kk : W p l e R s m args below meth c H locs cells slots Q (F0 m (pc + 3) ls (.int (iI (max x y)) :: rest))) : W p l e R s m args below meth c H locs cells slots Q (F0 m pc ls (.int (iI y) :: .int (iI x) :: rest)) := by
  refine va_mmax hexec hb hml hown hlink hstat hini hcode hframes hlocals hc hs hdg ?_
  have e1 : (if iI x < iI y then iI y else iI x) = iI (max x y) := by
    by_cases h : x < y
    · rw [if_pos ((iI_lt hx hy).mpr h), show max x y = y by omega]
    · rw [if_neg (fun z => h ((iI_lt hx hy).mp z)), show max x y = x by omega]
  rw [e1]
  exact kk
theorem x_mmin {cc : ByteArray} (hexec : p.tables.exec = Jvm.exec) (hb : c.code = cc) (hml : c.maxLocals = ls.size) {own : String} {index : Nat} (hown : s.vm.findClass own = some m.cls) (hlink : (Cond.methodLink own index Lib.Math.min.name).before args s = true) (hstat : (Cond.static Lib.Math.min.name).before args s = true) (hini : (Cond.initialized "java/lang/Math").before args s = true) (hcode : (Cond.code Lib.Math.min.name Lib.Math.min.code 2 (some .int)).before args s = true)
    (hframes : 1 ≤ R.frames) (hlocals : (rest.map fun v => v.category).sum + 13 ≤ R.locals) (hc : cells ≤ R.cells) (hs : slots ≤ R.slots) {x y : Int} (hx : ib x) (hy : ib y) (hdg : decode cc pc = .ok (.invokestatic index, 3))
    (kk : W p l e R s m args below meth c H locs cells slots Q (F0 m (pc + 3) ls (.int (iI (min x y)) :: rest))) : W p l e R s m args below meth c H locs cells slots Q (F0 m pc ls (.int (iI y) :: .int (iI x) :: rest)) := by
  refine va_mmin hexec hb hml hown hlink hstat hini hcode hframes hlocals hc hs hdg ?_
  have e1 : (if iI y < iI x then iI y else iI x) = iI (min x y) := by
    by_cases h : y < x
    · rw [if_pos ((iI_lt hy hx).mpr h), show min x y = y by omega]
    · rw [if_neg (fun z => h ((iI_lt hy hx).mp z)), show min x y = x by omega]
  rw [e1]
  exact kk
end XM
/-- an array's places below i were changed where P holds: one place more -/
theorem lu_n {g f h : Int → Int} {P : Int → Prop} [DecidablePred P] {i : Int} (he : ∀ a, g a = if 0 ≤ a ∧ a < i ∧ P a then f a else h a) (hp : ¬ P i) : ∀ a, g a = if 0 ≤ a ∧ a < i + 1 ∧ P a then f a else h a := by
  intro a
  rw [he a]
  by_cases e : a = i
  · subst e; rw [if_neg (fun z => hp z.2.2), if_neg (fun z => hp z.2.2)]
  · by_cases hh : 0 ≤ a ∧ a < i ∧ P a
    · rw [if_pos hh, if_pos ⟨hh.1, by omega, hh.2.2⟩]
    · rw [if_neg hh, if_neg (fun z => hh ⟨z.1, by omega, z.2.2⟩)]
theorem lu_y {g f h : Int → Int} {P : Int → Prop} [DecidablePred P] {i v : Int} (he : ∀ a, g a = if 0 ≤ a ∧ a < i ∧ P a then f a else h a) (hi : 0 ≤ i) (hp : P i) (hv : v = f i) : ∀ a, upI g i v a = if 0 ≤ a ∧ a < i + 1 ∧ P a then f a else h a := by
  intro a
  by_cases e : a = i
  · subst e; rw [upI_s, if_pos ⟨hi, by omega, hp⟩]; exact hv
  · rw [upI_n e, he a]
    by_cases hh : 0 ≤ a ∧ a < i ∧ P a
    · rw [if_pos hh, if_pos ⟨hh.1, by omega, hh.2.2⟩]
    · rw [if_neg hh, if_neg (fun z => hh ⟨z.1, by omega, z.2.2⟩)]
theorem lu_o {g f h : Int → Int} {P : Int → Prop} [DecidablePred P] {i : Int} (he : ∀ a, g a = if 0 ≤ a ∧ a < i ∧ P a then f a else h a) : g i = h i := by
  rw [he i, if_neg (fun z => by omega)]
/-- the greatest common divisor of two numbers that aren't below 0 -/
def gI (a b : Int) : Int := (Nat.gcd a.toNat b.toNat : Int)
theorem gI_0 {a : Int} (h : 0 ≤ a) : gI a 0 = a := by
  show ((Nat.gcd a.toNat 0 : Nat) : Int) = a
  rw [Nat.gcd_zero_right]; omega
theorem tm_e {x y : Int} (hx : 0 ≤ x) : x.tmod y = x % y := Int.tmod_eq_emod_of_nonneg hx
theorem tm_lt {x y : Int} (hx : 0 ≤ x) (hy : 0 < y) : 0 ≤ x.tmod y ∧ x.tmod y < y := ⟨Int.tmod_nonneg _ hx, Int.tmod_lt_of_pos _ hy⟩
theorem tm_half {x y : Int} (hy : 0 < y) (h : y < x) : 2 * x.tmod y ≤ x := by
  rw [tm_e (by omega)]
  have h1 := Int.emod_add_mul_ediv x y
  have h2 := Int.emod_lt_of_pos x hy
  have h3 : 1 ≤ x / y := by
    have := Int.ediv_le_ediv hy (Int.le_of_lt h)
    rwa [Int.ediv_self (by omega)] at this
  have h4 : y * 1 ≤ y * (x / y) := Int.mul_le_mul_of_nonneg_left h3 (by omega)
  omega
theorem gI_step {x y : Int} (hx : 0 ≤ x) (hy : 0 < y) : gI y (x.tmod y) = gI x y := by
  obtain ⟨m, rfl⟩ : ∃ m : Nat, x = (m : Int) := ⟨x.toNat, by omega⟩
  obtain ⟨n, rfl⟩ : ∃ n : Nat, y = (n : Int) := ⟨y.toNat, by omega⟩
  unfold gI
  rw [tm_e hx, ← Int.natCast_emod, Int.toNat_natCast, Int.toNat_natCast, Int.toNat_natCast, Nat.gcd_comm n, ← Nat.gcd_rec, Nat.gcd_comm]
theorem gI_pos {a b : Int} (h : 0 < a) : 1 ≤ gI a b := by
  unfold gI
  have := Nat.gcd_pos_of_pos_left b.toNat (show 0 < a.toNat by omega)
  omega
theorem gI_le {a b : Int} (h : 0 < a) : gI a b ≤ a := by
  unfold gI
  have := Nat.le_of_dvd (show 0 < a.toNat by omega) (Nat.gcd_dvd_left a.toNat b.toNat)
  omega
/-- Euclid's steps: how small the numbers are behind i of them -/
def eu_ok (x y i : Int) : Prop := i = 0 ∨ (y < x ∧ x * y * 2 ^ i.toNat ≤ 9223372036854775808)
theorem eu_next {x y i : Int} (h : eu_ok x y i) (hi : 0 ≤ i) (hx : 0 ≤ x ∧ x ≤ 2147483647) (hy : 0 < y ∧ y ≤ 2147483647) : eu_ok y (x.tmod y) (i + 1) := by
  right
  have h1 := tm_lt hx.1 hy.1
  refine ⟨h1.2, ?_⟩
  rw [show (i + 1).toNat = i.toNat + 1 by omega, Int.pow_succ]
  rcases h with rfl | ⟨h2, h3⟩
  · have e1 : y * x.tmod y ≤ 2147483647 * 2147483647 := Int.mul_le_mul hy.2 (by omega) h1.1 (by decide)
    show y * x.tmod y * (2 ^ 0 * 2) ≤ _
    have : (2 : Int) ^ 0 * 2 = 2 := by decide
    rw [this]
    omega
  · have e1 : y * (2 * x.tmod y) ≤ y * x := Int.mul_le_mul_of_nonneg_left (tm_half hy.1 h2) (by omega)
    have e2 : y * x.tmod y * (2 ^ i.toNat * 2) = (y * (2 * x.tmod y)) * 2 ^ i.toNat := by
      rw [Int.mul_comm (2 ^ i.toNat) 2, ← Int.mul_assoc, Int.mul_assoc y, Int.mul_comm (x.tmod y) 2]
    have e3 : (y * (2 * x.tmod y)) * 2 ^ i.toNat ≤ (y * x) * 2 ^ i.toNat := Int.mul_le_mul_of_nonneg_right e1 (Int.le_of_lt (Int.pow_pos (by decide)))
    rw [e2]
    rw [Int.mul_comm y x] at e3
    omega
theorem eu_end {x y i : Int} (h : eu_ok x y i) (hi : 100 ≤ i) (hx : 0 ≤ x) (hy : 0 ≤ y) : y = 0 := by
  rcases h with rfl | ⟨h2, h3⟩
  · omega
  · rcases Int.lt_or_eq_of_le hy with h | h
    · exfalso
      have e1 : 1 * 1 ≤ x * y := Int.mul_le_mul (by omega) (by omega) (by decide) hx
      have e2 : (2 : Int) ^ 100 ≤ 2 ^ i.toNat := by
        have h9 := Nat.pow_le_pow_right (n := 2) (by decide) (show 100 ≤ i.toNat by omega)
        exact_mod_cast h9
      have e3 : (1 * 1) * (2 : Int) ^ 100 ≤ x * y * 2 ^ i.toNat := Int.mul_le_mul e1 e2 (by decide) (by omega)
      have e4 : (9223372036854775808 : Int) < (1 * 1) * (2 : Int) ^ 100 := by decide
      omega
    · exact h.symm
theorem mulb {x y : Int} {X Y : Int} (hx : 1 ≤ x ∧ x ≤ X) (hy : 1 ≤ y ∧ y ≤ Y) : 1 ≤ x * y ∧ x * y ≤ X * Y := by
  have h1 : 1 * 1 ≤ x * y := Int.mul_le_mul hx.1 hy.1 (by decide) (by omega)
  have h2 : x * y ≤ X * Y := Int.mul_le_mul hx.2 hy.2 (by omega) (by omega)
  exact ⟨by omega, h2⟩
