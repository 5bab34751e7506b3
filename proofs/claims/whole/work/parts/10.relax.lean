/-! Pure: iterates of a parent function, weights along them, and what a raise of one label keeps -/
def rx_it (f : Int → Int) : Nat → Int → Int
  | 0, v => v
  | k + 1, v => rx_it f k (f v)
def rx_pw (f : Int → Int) (g : Int → Int) : Nat → Int → Int
  | 0, _ => 0
  | k + 1, v => g v + rx_pw f g k (f v)
theorem rx_it_add (f : Int → Int) : ∀ (a b : Nat) (v : Int), rx_it f (a + b) v = rx_it f b (rx_it f a v)
  | 0, b, v => by simp [rx_it]
  | a + 1, b, v => by
    rw [show a + 1 + b = (a + b) + 1 by omega]
    show rx_it f (a + b) (f v) = rx_it f b (rx_it f a (f v))
    exact rx_it_add f a b (f v)
theorem rx_it_succ (f : Int → Int) (k : Nat) (v : Int) : rx_it f (k + 1) v = f (rx_it f k v) := by
  rw [rx_it_add f k 1 v]; rfl
theorem rx_pw_add (f : Int → Int) (g : Int → Int) : ∀ (a b : Nat) (v : Int), rx_pw f g (a + b) v = rx_pw f g a v + rx_pw f g b (rx_it f a v)
  | 0, b, v => by simp [rx_pw, rx_it]
  | a + 1, b, v => by
    rw [show a + 1 + b = (a + b) + 1 by omega]
    show g v + rx_pw f g (a + b) (f v) = (g v + rx_pw f g a (f v)) + rx_pw f g b (rx_it f a (f v))
    rw [rx_pw_add f g a b (f v)]; omega
/-- labels along a path of parents -/
theorem rx_tele {N : Int → Prop} {x g : Int → Int} {f : Int → Int} {hv : Int → Prop} (h : ∀ y, N y → hv y → N (f y) ∧ x y ≤ x (f y) + g y) :
    ∀ (k : Nat) (y : Int), N y → (∀ i, i < k → hv (rx_it f i y)) → N (rx_it f k y) ∧ x y ≤ x (rx_it f k y) + rx_pw f g k y := by
  intro k
  induction k with
  | zero => intro y hy _; exact ⟨hy, by simp [rx_it, rx_pw]⟩
  | succ k ih =>
    intro y hy hp
    obtain ⟨h1, h2⟩ := h y hy (hp 0 (by omega))
    obtain ⟨h3, h4⟩ := ih (f y) h1 (fun i hi => hp (i + 1) (by omega))
    refine ⟨h3, ?_⟩
    show x y ≤ x (rx_it f k (f y)) + (g y + rx_pw f g k (f y))
    omega
/-- .. and strictly, if a strict edge lies on it -/
theorem rx_tele_s {N : Int → Prop} {x g : Int → Int} {f : Int → Int} {hv : Int → Prop} {s : Int} (h : ∀ y, N y → hv y → N (f y) ∧ x y ≤ x (f y) + g y) (hs : x s < x (f s) + g s) :
    ∀ (k : Nat) (y : Int), N y → (∀ i, i < k → hv (rx_it f i y)) → (∃ i, i < k ∧ rx_it f i y = s) → x y < x (rx_it f k y) + rx_pw f g k y := by
  intro k y hy hp ⟨i, hi, hs2⟩
  obtain ⟨h1, h2⟩ := rx_tele h i y hy (fun j hj => hp j (by omega))
  have h3 := hp i hi
  rw [hs2] at h1 h2 h3
  obtain ⟨h4, -⟩ := h s h1 h3
  have h5 : ∀ j, j < k - i - 1 → hv (rx_it f j (f s)) := by
    intro j hj
    have := hp (i + (1 + j)) (by omega)
    rw [rx_it_add, hs2, rx_it_add] at this
    exact this
  obtain ⟨h6, h7⟩ := rx_tele h (k - i - 1) (f s) h4 h5
  have e1 : rx_it f k y = rx_it f (k - i - 1) (f s) := by
    rw [show k = i + (1 + (k - i - 1)) by omega, rx_it_add, hs2, rx_it_add]
    rw [show i + (1 + (k - i - 1)) - i - 1 = k - i - 1 by omega]; rfl
  have e2 : rx_pw f g k y = rx_pw f g i y + (g s + rx_pw f g (k - i - 1) (f s)) := by
    have : rx_pw f g (i + (1 + (k - i - 1))) y = rx_pw f g i y + (g s + rx_pw f g (k - i - 1) (f s)) := by
      rw [rx_pw_add, hs2, rx_pw_add]
      show _ + (g s + 0 + rx_pw f g (k - i - 1) (f s)) = _
      omega
    rw [← this, show i + (1 + (k - i - 1)) = k by omega]
  rw [e1, e2]
  omega
/-- the parents' graph of labels: each edge holds, each loop is above 0 -/
def rx_ok (N : Int → Prop) (x : Int → Int) (hv : Int → Prop) (f : Int → Int) (g : Int → Int) : Prop :=
  (∀ y, N y → hv y → N (f y) ∧ x y ≤ x (f y) + g y) ∧
  ∀ y, N y → ∀ k : Nat, 1 ≤ k → (∀ i, i < k → hv (rx_it f i y)) → rx_it f k y = y → 0 < rx_pw f g k y
theorem rx_it_cong {f f' : Int → Int} : ∀ (k : Nat) (y : Int), (∀ i, i < k → f' (rx_it f' i y) = f (rx_it f' i y)) → ∀ i, i ≤ k → rx_it f' i y = rx_it f i y := by
  intro k y h i
  induction i with
  | zero => intro _; rfl
  | succ i ih =>
    intro hi
    rw [rx_it_succ, rx_it_succ, h i (by omega), ih (by omega)]
theorem rx_pw_cong {f f' : Int → Int} {g g' : Int → Int} : ∀ (k : Nat) (y : Int), (∀ i, i < k → f' (rx_it f' i y) = f (rx_it f' i y) ∧ g' (rx_it f' i y) = g (rx_it f' i y)) → rx_pw f' g' k y = rx_pw f g k y := by
  intro k
  induction k with
  | zero => intro y _; rfl
  | succ k ih =>
    intro y h
    have h0 := h 0 (by omega)
    have h0' : f' y = f y ∧ g' y = g y := h0
    show g' y + rx_pw f' g' k (f' y) = g y + rx_pw f g k (f y)
    rw [ih (f' y) (fun i hi => h (i + 1) (by omega)), h0'.1, h0'.2]
/-- a raise of the label of v by an edge from u -/
theorem rx_raise {N : Int → Prop} {x g : Int → Int} {hv : Int → Prop} {f : Int → Int} {u v : Int} {w : Int} {x' g' : Int → Int} {hv' : Int → Prop} {f' : Int → Int} (h : rx_ok N x hv f g) (hu : N u) (hlt : x v < x u + w)
    (hx : ∀ y, x' y = if y = v then x u + w else x y) (hh : ∀ y, y ≠ v → hv' y → hv y) (hf : ∀ y, f' y = if y = v then u else f y) (hg : ∀ y, g' y = if y = v then w else g y) : rx_ok N x' hv' f' g' := by
  have old : ∀ y, N y → hv' y → N (f' y) ∧ x y ≤ x (f' y) + g' y := by
    intro y hy hhy
    by_cases e : y = v
    · subst e; rw [hf, hg, if_pos rfl, if_pos rfl]; exact ⟨hu, by omega⟩
    · rw [hf, hg, if_neg e, if_neg e]; exact h.1 y hy (hh y e hhy)
  refine ⟨fun y hy hhy => ?_, fun y hy k hk hp hc => ?_⟩
  · obtain ⟨h1, h2⟩ := old y hy hhy
    refine ⟨h1, ?_⟩
    have mono : ∀ z, x z ≤ x' z := by
      intro z; rw [hx]; split
      · rename_i e; subst e; omega
      · omega
    by_cases e : y = v
    · subst e
      have := mono (f' y)
      rw [hx y, if_pos rfl]
      rw [hf, if_pos rfl] at this ⊢
      rw [hg, if_pos rfl]
      omega
    · rw [hx y, if_neg e]
      have := mono (f' y)
      omega
  · by_cases hon : ∃ i, i < k ∧ rx_it f' i y = v
    · have hs : x v < x (f' v) + g' v := by rw [hf, hg, if_pos rfl, if_pos rfl]; exact hlt
      have := rx_tele_s old hs k y hy hp hon
      rw [hc] at this
      omega
    · have hne : ∀ i, i < k → rx_it f' i y ≠ v := fun i hi e => hon ⟨i, hi, e⟩
      have e1 : ∀ i, i ≤ k → rx_it f' i y = rx_it f i y := rx_it_cong k y (fun i hi => by rw [hf, if_neg (hne i hi)])
      have e2 : rx_pw f' g' k y = rx_pw f g k y := rx_pw_cong k y (fun i hi => ⟨by rw [hf, if_neg (hne i hi)], by rw [hg, if_neg (hne i hi)]⟩)
      rw [e2]
      refine h.2 y hy k hk (fun i hi => ?_) (by rw [← e1 k (Nat.le_refl k)]; exact hc)
      rw [← e1 i (by omega)]
      exact hh _ (hne i hi) (hp i hi)
/-- pigeons: k + 1 numbers below n, n ≤ k: two are one -/
theorem rx_pigeon : ∀ (n k : Nat) (a : Nat → Nat), (∀ i, i ≤ k → a i < n) → n ≤ k → ∃ i j, i < j ∧ j ≤ k ∧ a i = a j := by
  intro n
  induction n with
  | zero => intro k a h _; exact absurd (h 0 (by omega)) (by omega)
  | succ n ih =>
    intro k a h hk
    by_cases hl : ∃ i, i < k ∧ a i = a k
    · obtain ⟨i, hi, e⟩ := hl; exact ⟨i, k, hi, Nat.le_refl k, e⟩
    · have hne : ∀ i, i < k → a i ≠ a k := fun i hi e => hl ⟨i, hi, e⟩
      have hk0 : a k < n + 1 := h k (Nat.le_refl k)
      obtain ⟨i, j, h1, h2, h3⟩ := ih (k - 1) (fun i => if a i = n then a k else a i) (fun i hi => by
        show (if a i = n then a k else a i) < n
        have := h i (by omega)
        have := hne i (by omega)
        split <;> omega) (by omega)
      refine ⟨i, j, h1, by omega, ?_⟩
      try dsimp only at h3
      have := hne i (by omega)
      have := hne j (by omega)
      by_cases e1 : a i = n <;> by_cases e2 : a j = n <;> simp [e1, e2] at h3 <;> omega
theorem rx_pigeonI {n k : Nat} {a : Nat → Int} (h : ∀ i, i ≤ k → 0 ≤ a i ∧ a i < (n : Int)) (hk : n ≤ k) : ∃ i j, i < j ∧ j ≤ k ∧ a i = a j := by
  obtain ⟨i, j, h1, h2, h3⟩ := rx_pigeon n k (fun i => (a i).toNat) (fun i hi => by have := h i hi; show (a i).toNat < n; omega) hk
  refine ⟨i, j, h1, h2, ?_⟩
  have := h i (by omega)
  have := h j h2
  try dsimp only at h3
  omega
/-! Passes over edges -/
def px_sat (ef et w : Int → Int) (S : (Int → Int) × (Int → Int)) (e : Int) : Prop := S.1 (ef e) + w e ≤ S.1 (et e)
def px_step (ef et w : Int → Int) (S : (Int → Int) × (Int → Int)) (e : Int) : (Int → Int) × (Int → Int) :=
  if S.1 (et e) < S.1 (ef e) + w e then (upI S.1 (et e) (S.1 (ef e) + w e), upI S.2 (et e) e) else S
def px_pass (ef et w : Int → Int) (S : (Int → Int) × (Int → Int)) : Nat → (Int → Int) × (Int → Int)
  | 0 => S
  | j + 1 => px_step ef et w (px_pass ef et w S j) j
/-- has the pass raised a label among its first j edges -/
def px_rai (ef et w : Int → Int) (S : (Int → Int) × (Int → Int)) : Nat → Bool
  | 0 => false
  | j + 1 => px_rai ef et w S j || decide ((px_pass ef et w S j).1 (et j) < (px_pass ef et w S j).1 (ef j) + w j)
def px_N (n : Nat) (v : Int) : Prop := 0 ≤ v ∧ v < (n : Int)
def px_hv (S : (Int → Int) × (Int → Int)) (v : Int) : Prop := S.2 v ≠ -1
def px_f (ef : Int → Int) (S : (Int → Int) × (Int → Int)) (v : Int) : Int := ef (S.2 v)
def px_I (n m : Nat) (ef et w : Int → Int) (S : (Int → Int) × (Int → Int)) : Prop :=
  rx_ok (px_N n) S.1 (px_hv S) (px_f ef S) (fun v => w (S.2 v)) ∧ ∀ v, px_N n v → S.2 v ≠ -1 → px_N m (S.2 v) ∧ et (S.2 v) = v
/-- the pass k has looked at the edges below j; c v: the pass that raised v last -/
def px_J (n m : Nat) (ef et w : Int → Int) (S : (Int → Int) × (Int → Int)) (c : Int → Nat) (k : Nat) (j : Int) : Prop :=
  (∀ v, px_N n v → c v ≤ k ∧ (S.2 v ≠ -1 → c v ≤ c (px_f ef S v) + 1) ∧ (S.2 v = -1 → c v = 0)) ∧
  ∀ e, px_N m e → (e < j → c (ef e) < k → px_sat ef et w S e) ∧ (j ≤ e → c (ef e) + 1 < k → px_sat ef et w S e)
theorem px_step_I {n m : Nat} {ef et w : Int → Int} {S : (Int → Int) × (Int → Int)} {e : Int} (he : px_N m e) (hE : ∀ e, px_N m e → px_N n (ef e) ∧ px_N n (et e)) (h : px_I n m ef et w S) : px_I n m ef et w (px_step ef et w S e) := by
  unfold px_step
  split
  · rename_i hlt
    obtain ⟨h1, h2⟩ := h
    refine ⟨rx_raise (u := ef e) (v := et e) (w := w e) h1 (hE e he).1 hlt (fun y => rfl) (fun y hy hh => ?_) (fun y => ?_) (fun y => ?_), fun v hv hne => ?_⟩
    · simp only [px_hv, upI_n hy] at hh; exact hh
    · by_cases hy : y = et e
      · simp [px_f, hy, upI_s]
      · simp [px_f, upI_n hy, hy]
    · by_cases hy : y = et e
      · simp [hy, upI_s]
      · simp [upI_n hy, hy]
    · by_cases hy : v = et e
      · subst hy; dsimp only; rw [upI_s]; exact ⟨he, rfl⟩
      · dsimp only at hne ⊢; rw [upI_n hy] at hne ⊢; exact h2 v hv hne
  · exact h
theorem px_step_J {n m : Nat} {ef et w : Int → Int} {S : (Int → Int) × (Int → Int)} {c : Int → Nat} {k : Nat} {e : Int} (hk : 1 ≤ k) (he : px_N m e) (hE : ∀ e, px_N m e → px_N n (ef e) ∧ px_N n (et e)) (h : px_J n m ef et w S c k e) :
    ∃ c', px_J n m ef et w (px_step ef et w S e) c' k (e + 1) ∧ ((∃ v, px_N n v ∧ c v = k) → ∃ v, px_N n v ∧ c' v = k) ∧ (S.1 (et e) < S.1 (ef e) + w e → ∃ v, px_N n v ∧ c' v = k) := by
  obtain ⟨h1, h2⟩ := h
  unfold px_step
  split
  · rename_i hlt
    have hek : k ≤ c (ef e) + 1 := by
      refine Nat.le_of_not_lt (fun hc => ?_)
      have := (h2 e he).2 (Int.le_refl e) hc
      unfold px_sat at this
      omega
    refine ⟨fun v => if v = et e then k else c v, ⟨fun v hv => ?_, fun e2 he2 => ?_⟩, fun _ => ⟨et e, (hE e he).2, by simp⟩, fun _ => ⟨et e, (hE e he).2, by simp⟩⟩
    · obtain ⟨a1, a2, a3⟩ := h1 v hv
      by_cases hy : v = et e
      · subst hy
        refine ⟨by simp, fun _ => ?_, fun hz => ?_⟩
        · simp only [px_f, upI_s, if_true]
          by_cases hs : ef e = et e
          · simp [hs]
          · simp only [hs, if_false]; exact hek
        · simp only [upI_s] at hz
          have := he.1
          omega
      · refine ⟨by simp only [hy, if_false]; exact a1, fun hn => ?_, fun hz => ?_⟩
        · simp only [upI_n hy] at hn
          have a2 := a2 hn
          simp only [px_f, upI_n hy, hy, if_false] at a2 ⊢
          by_cases hs : ef (S.2 v) = et e
          · simp only [hs, if_true]; omega
          · simp only [hs, if_false]; exact a2
        · simp only [upI_n hy] at hz
          simp only [hy, if_false]
          exact a3 hz
    · have mono : ∀ v, v ≠ et e → upI S.1 (et e) (S.1 (ef e) + w e) v = S.1 v := fun v hv => upI_n hv
      have mono2 : ∀ v, S.1 v ≤ upI S.1 (et e) (S.1 (ef e) + w e) v := by
        intro v
        by_cases hy : v = et e
        · subst hy; rw [upI_s]; omega
        · rw [upI_n hy]; omega
      have keep : ∀ e3, px_N m e3 → ef e3 ≠ et e → px_sat ef et w S e3 → px_sat ef et w (upI S.1 (et e) (S.1 (ef e) + w e), upI S.2 (et e) e) e3 := by
        intro e3 _ hne hs
        unfold px_sat at hs ⊢
        dsimp only
        rw [mono _ hne]
        have := mono2 (et e3)
        omega
      refine ⟨fun hj hc => ?_, fun hj hc => ?_⟩
      · by_cases hs : ef e2 = et e
        · simp only [hs, if_true] at hc; omega
        · simp only [hs, if_false] at hc
          by_cases hee : e2 = e
          · subst hee
            unfold px_sat
            dsimp only
            rw [mono _ hs, upI_s]
            exact Int.le_refl _
          · exact keep e2 he2 hs ((h2 e2 he2).1 (by omega) hc)
      · by_cases hs : ef e2 = et e
        · simp only [hs, if_true] at hc; omega
        · simp only [hs, if_false] at hc
          exact keep e2 he2 hs ((h2 e2 he2).2 (by omega) hc)
  · rename_i hlt
    refine ⟨c, ⟨h1, fun e2 he2 => ⟨fun hj hc => ?_, fun hj hc => (h2 e2 he2).2 (by omega) hc⟩⟩, id, fun hc => absurd hc hlt⟩
    by_cases hee : e2 = e
    · subst hee; unfold px_sat; omega
    · exact (h2 e2 he2).1 (by omega) hc
theorem px_pass_ok {n m : Nat} {ef et w : Int → Int} {S : (Int → Int) × (Int → Int)} {c : Int → Nat} {k : Nat} (hk : 1 ≤ k) (hE : ∀ e, px_N m e → px_N n (ef e) ∧ px_N n (et e)) (hI : px_I n m ef et w S) (hJ : px_J n m ef et w S c k 0) :
    ∀ j : Nat, j ≤ m → px_I n m ef et w (px_pass ef et w S j) ∧ ∃ c', px_J n m ef et w (px_pass ef et w S j) c' k j ∧ (px_rai ef et w S j = true → ∃ v, px_N n v ∧ c' v = k) := by
  intro j
  induction j with
  | zero => intro _; exact ⟨hI, c, hJ, fun h => by simp [px_rai] at h⟩
  | succ j ih =>
    intro hj
    obtain ⟨i1, c1, i2, i3⟩ := ih (by omega)
    have he : px_N m (j : Int) := ⟨by omega, by omega⟩
    refine ⟨px_step_I he hE i1, ?_⟩
    obtain ⟨c2, j1, j2, j3⟩ := px_step_J hk he hE i2
    refine ⟨c2, by rw [show ((j + 1 : Nat) : Int) = (j : Int) + 1 by omega]; exact j1, fun hr => ?_⟩
    simp only [px_rai, Bool.or_eq_true, decide_eq_true_eq] at hr
    rcases hr with hr | hr
    · exact j2 (i3 hr)
    · exact j3 hr
/-- a pass that raises nothing: all edges hold -/
theorem px_still {ef et w : Int → Int} {S : (Int → Int) × (Int → Int)} : ∀ j : Nat, px_rai ef et w S j = false → px_pass ef et w S j = S ∧ ∀ e : Nat, e < j → px_sat ef et w S e := by
  intro j
  induction j with
  | zero => intro _; exact ⟨rfl, fun e he => by omega⟩
  | succ j ih =>
    intro hr
    simp only [px_rai, Bool.or_eq_false_iff, decide_eq_false_iff_not] at hr
    obtain ⟨i1, i2⟩ := ih hr.1
    have hlt := hr.2
    rw [i1] at hlt
    refine ⟨by simp only [px_pass, i1, px_step, hlt, if_false], fun e he => ?_⟩
    by_cases hee : e = j
    · subst hee; unfold px_sat; omega
    · exact i2 e (by omega)
/-- at the end of pass k that raised something, k at least the nodes' number: there is a loop of parents -/
theorem px_loop {n m : Nat} {ef et w : Int → Int} {S : (Int → Int) × (Int → Int)} {c : Int → Nat} {k : Nat} (hI : px_I n m ef et w S) (hJ : ∀ v, px_N n v → (S.2 v ≠ -1 → c v ≤ c (px_f ef S v) + 1) ∧ (S.2 v = -1 → c v = 0)) (hr : ∃ v, px_N n v ∧ c v = k) (hn : n ≤ k) :
    ∃ y, px_N n y ∧ ∃ i : Nat, 1 ≤ i ∧ (∀ j, j < i → px_hv S (rx_it (px_f ef S) j y)) ∧ rx_it (px_f ef S) i y = y := by
  obtain ⟨v, hv, hc⟩ := hr
  have key : ∀ i, i ≤ k → px_N n (rx_it (px_f ef S) i v) ∧ k ≤ c (rx_it (px_f ef S) i v) + i ∧ ∀ j, j < i → px_hv S (rx_it (px_f ef S) j v) := by
    intro i
    induction i with
    | zero => intro _; exact ⟨hv, by simp only [rx_it]; omega, fun j hj => by omega⟩
    | succ i ih =>
      intro hi
      obtain ⟨a1, a2, a3⟩ := ih (by omega)
      obtain ⟨b1, b2⟩ := hJ _ a1
      have hne : S.2 (rx_it (px_f ef S) i v) ≠ -1 := fun h => by have := b2 h; omega
      have b1 := b1 hne
      rw [rx_it_succ]
      refine ⟨(hI.1.1 _ a1 hne).1, by omega, fun j hj => ?_⟩
      by_cases h : j = i
      · subst h; exact hne
      · exact a3 j (by omega)
  obtain ⟨i, j, h1, h2, h3⟩ := rx_pigeonI (n := n) (k := k) (a := fun i => rx_it (px_f ef S) i v) (fun i hi => (key i hi).1) hn
  refine ⟨rx_it (px_f ef S) i v, (key i (by omega)).1, j - i, by omega, fun t ht => ?_, ?_⟩
  · rw [← rx_it_add]; exact (key j h2).2.2 (i + t) (by omega)
  · rw [← rx_it_add, show i + (j - i) = j by omega]; exact h3.symm
