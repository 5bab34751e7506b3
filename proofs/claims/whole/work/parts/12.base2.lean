def sumN (f : Int → Int) : Nat → Int
  | 0 => 0
  | n + 1 => sumN f n + f n
/-- the sum of f below i -/
def sI (f : Int → Int) (i : Int) : Int := sumN f i.toNat
theorem sI_0 {f : Int → Int} : sI f 0 = 0 := rfl
theorem sI_s {f : Int → Int} {i : Int} (h : 0 ≤ i) : sI f (i + 1) = sI f i + f i := by
  unfold sI
  rw [show (i + 1).toNat = i.toNat + 1 by omega]
  show sumN f i.toNat + f (i.toNat : Int) = _
  rw [show ((i.toNat : Nat) : Int) = i by omega]
section XM
variable {p : Program} {l : Launch} {e : Env} {R : Room} {s : State} {m : MethodId} {args : Array Value} {below : List Frame} {meth : Method} {c : Code} {H : Heap} {locs : List Loc} {cells slots : Nat} {Q : State → Prop}
variable {pc : Nat} {ls : Array Slot} {rest : List Value}
theorem x_mmax {cc : ByteArray} (hexec : p.tables.exec = Jvm.exec) (hb : c.code = cc) (hml : c.maxLocals = ls.size) {own : String} {index : Nat} (hown : s.vm.findClass own = some m.cls) (hlink : (Cond.methodLink own index Lib.Math.max.name).before args s = true) (hstat : (Cond.static Lib.Math.max.name).before args s = true) (hini : (Cond.initialized "java/lang/Math").before args s = true) (hcode : (Cond.code Lib.Math.max.name Lib.Math.max.code 2 (some .int)).before args s = true)
    (hframes : 1 ≤ R.frames) (hlocals : (rest.map fun v => v.category).sum + 13 ≤ R.locals) (hc : cells ≤ R.cells) (hs : slots ≤ R.slots) {x y : Int} (hx : ib x) (hy : ib y) (hdg : decode cc pc = .ok (.invokestatic index, 3))
    (kk : W p l e R s m args below meth c H locs cells slots Q (F0 m (pc + 3) ls (.int (iI (max x y)) :: rest))) : W p l e R s m args below meth c H locs cells slots Q (F0 m pc ls (.int (iI y) :: .int (iI x) :: rest)) := by
  refine va_mmax hexec hb hml hown hlink hstat hini hcode hframes hlocals hc hs hdg ?_
  have e1 : (if iI x < iI y then iI y else iI x) = iI (max x y) := by
    by_cases h : x < y
    · rw [if_pos ((iI_lt hx hy).mpr h), show max x y = y by omega]
    · rw [if_neg (fun z => h ((iI_lt hx hy).mp z)), show max x y = x by omega]
  rw [e1]
  exact kk
theorem x_mmin {cc : ByteArray} (hexec : p.tables.exec = Jvm.exec) (hb : c.code = cc) (hml : c.maxLocals = ls.size) {own : String} {index : Nat} (hown : s.vm.findClass own = some m.cls) (hlink : (Cond.methodLink own index Lib.Math.min.name).before args s = true) (hstat : (Cond.static Lib.Math.min.name).before args s = true) (hini : (Cond.initialized "java/lang/Math").before args s = true) (hcode : (Cond.code Lib.Math.min.name Lib.Math.min.code 2 (some .int)).before args s = true)
    (hframes : 1 ≤ R.frames) (hlocals : (rest.map fun v => v.category).sum + 13 ≤ R.locals) (hc : cells ≤ R.cells) (hs : slots ≤ R.slots) {x y : Int} (hx : ib x) (hy : ib y) (hdg : decode cc pc = .ok (.invokestatic index, 3))
    (kk : W p l e R s m args below meth c H locs cells slots Q (F0 m (pc + 3) ls (.int (iI (min x y)) :: rest))) : W p l e R s m args below meth c H locs cells slots Q (F0 m pc ls (.int (iI y) :: .int (iI x) :: rest)) := by
  refine va_mmin hexec hb hml hown hlink hstat hini hcode hframes hlocals hc hs hdg ?_
  have e1 : (if iI y < iI x then iI y else iI x) = iI (min x y) := by
    by_cases h : y < x
    · rw [if_pos ((iI_lt hy hx).mpr h), show min x y = y by omega]
    · rw [if_neg (fun z => h ((iI_lt hy hx).mp z)), show min x y = x by omega]
  rw [e1]
  exact kk
end XM
/-- an array's places below i were changed where P holds: one place more -/
theorem lu_n {g f h : Int → Int} {P : Int → Prop} [DecidablePred P] {i : Int} (he : ∀ a, g a = if 0 ≤ a ∧ a < i ∧ P a then f a else h a) (hp : ¬ P i) : ∀ a, g a = if 0 ≤ a ∧ a < i + 1 ∧ P a then f a else h a := by
  intro a
  rw [he a]
  by_cases e : a = i
  · subst e; rw [if_neg (fun z => hp z.2.2), if_neg (fun z => hp z.2.2)]
  · by_cases hh : 0 ≤ a ∧ a < i ∧ P a
    · rw [if_pos hh, if_pos ⟨hh.1, by omega, hh.2.2⟩]
    · rw [if_neg hh, if_neg (fun z => hh ⟨z.1, by omega, z.2.2⟩)]
theorem lu_y {g f h : Int → Int} {P : Int → Prop} [DecidablePred P] {i v : Int} (he : ∀ a, g a = if 0 ≤ a ∧ a < i ∧ P a then f a else h a) (hi : 0 ≤ i) (hp : P i) (hv : v = f i) : ∀ a, upI g i v a = if 0 ≤ a ∧ a < i + 1 ∧ P a then f a else h a := by
  intro a
  by_cases e : a = i
  · subst e; rw [upI_s, if_pos ⟨hi, by omega, hp⟩]; exact hv
  · rw [upI_n e, he a]
    by_cases hh : 0 ≤ a ∧ a < i ∧ P a
    · rw [if_pos hh, if_pos ⟨hh.1, by omega, hh.2.2⟩]
    · rw [if_neg hh, if_neg (fun z => hh ⟨z.1, by omega, z.2.2⟩)]
theorem lu_o {g f h : Int → Int} {P : Int → Prop} [DecidablePred P] {i : Int} (he : ∀ a, g a = if 0 ≤ a ∧ a < i ∧ P a then f a else h a) : g i = h i := by
  rw [he i, if_neg (fun z => by omega)]
