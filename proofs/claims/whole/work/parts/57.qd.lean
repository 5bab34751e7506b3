theorem dvN_co {f g : Int → Int} {i : Int} : ∀ t : Nat, (∀ k, i ≤ k → k ≤ i + t → f k = g k) → dvN f i t = dvN g i t
  | 0, h => by
    show f i = g i
    exact h i (Int.le_refl _) (by omega)
  | t + 1, h => by
    show gI (dvN f i t) (f (i + t + 1)) = gI (dvN g i t) (g (i + t + 1))
    rw [dvN_co t (fun k k0 k1 => h k k0 (by omega)), h (i + t + 1) (by omega) (by omega)]
theorem RM_co {cn pu cn' pu' : Int → Int} : ∀ (t : Nat) (i : Int), (∀ k, i ≤ k → k ≤ i + t → cn k = cn' k) → (∀ k, i ≤ k → k < i + t → pu k = pu' k) → RM cn pu i t = RM cn' pu' i t := by
  intro t
  induction t using Nat.strongRecOn with
  | ind t ih =>
    intro i h1 h2
    cases t with
    | zero => rfl
    | succ s =>
      rw [RM_s, RM_s]
      refine mnN_c s (fun k hk => ?_)
      unfold rmV
      rw [ih k (by omega) i (fun x x0 x1 => h1 x x0 (by omega)) (fun x x0 x1 => h2 x x0 (by omega)), ih (s - k) (by omega) (i + k + 1) (fun x x0 x1 => h1 x (by omega) (by omega)) (fun x x0 x1 => h2 x (by omega) (by omega)), dvN_co (s + 1) (fun x x0 x1 => h1 x x0 (by omega)), h1 (i + k) (by omega) (by omega), h2 (i + k) (by omega) (by omega)]
theorem Rch_co {m : Int} {x y x' y' : Int → Int} {a b : Int} (hf : ∀ k, 0 ≤ k → k < m → x' k = x k ∧ y' k = y k) (h : Rch m x y a b) : Rch m x' y' a b := fun S s1 s2 => h S s1 (fun c c0 c1 hx => by
  have := s2 c c0 c1
  rw [(hf c c0 c1).1, (hf c c0 c1).2] at this
  exact this hx)
/-- a chain has counts -/
def prU (f : Int → Int) : Nat → Int
  | 0 => 1
  | k + 1 => prU f k * f k
def prD (f : Int → Int) (m : Nat) : Nat → Int
  | 0 => 1
  | j + 1 => prD f m j * f ((m - (j + 1) : Nat) : Int)
theorem pr_pos {f : Int → Int} {m : Nat} (h : ∀ k : Nat, k < m → 1 ≤ f k) : ∀ j : Nat, j ≤ m → 1 ≤ prU f j ∧ 1 ≤ prD f m j := by
  intro j
  induction j with
  | zero => intro _; exact ⟨by show (1 : Int) ≤ 1; omega, by show (1 : Int) ≤ 1; omega⟩
  | succ j ih =>
    intro hj
    obtain ⟨h1, h2⟩ := ih (by omega)
    exact ⟨(mulb ⟨h1, Int.le_refl _⟩ ⟨h j (by omega), Int.le_refl _⟩).1, (mulb ⟨h2, Int.le_refl _⟩ ⟨h (m - (j + 1)) (by omega), Int.le_refl _⟩).1⟩
theorem chain_sol {n m : Int} {fr to pu tk : Int → Int} (hm : 0 ≤ m) (hmn : m = n - 1) (hf : ∀ k, 0 ≤ k → k < m → fr k = k ∧ to k = k + 1) (hp : ∀ k, 0 ≤ k → k < m → 1 ≤ pu k ∧ 1 ≤ tk k) : Solv n m fr to pu tk := by
  have pu' := pr_pos (f := pu) (m := m.toNat) (fun k hk => (hp k (by omega) (by omega)).1)
  have tk' := pr_pos (f := tk) (m := m.toNat) (fun k hk => (hp k (by omega) (by omega)).2)
  refine ⟨fun y => prU pu y.toNat * prD tk m.toNat (m.toNat - y.toNat), fun y y0 y1 => ?_, fun k k0 k1 => ?_⟩
  · exact (mulb ⟨(pu' y.toNat (by omega)).1, Int.le_refl _⟩ ⟨(tk' (m.toNat - y.toNat) (by omega)).2, Int.le_refl _⟩).1
  · obtain ⟨e1, e2⟩ := hf k k0 k1
    show prU pu (fr k).toNat * prD tk m.toNat (m.toNat - (fr k).toNat) * pu k = prU pu (to k).toNat * prD tk m.toNat (m.toNat - (to k).toNat) * tk k
    rw [e1, e2, show (k + 1).toNat = k.toNat + 1 by omega, show m.toNat - k.toNat = (m.toNat - (k.toNat + 1)) + 1 by omega]
    show prU pu k.toNat * (prD tk m.toNat (m.toNat - (k.toNat + 1)) * tk ((m.toNat - (m.toNat - (k.toNat + 1) + 1) : Nat) : Int)) * pu k = (prU pu k.toNat * pu (k.toNat : Int)) * prD tk m.toNat (m.toNat - (k.toNat + 1)) * tk k
    rw [show ((m.toNat - (m.toNat - (k.toNat + 1) + 1) : Nat) : Int) = k by omega, show ((k.toNat : Nat) : Int) = k by omega, Int.mul_assoc, Int.mul_assoc, Int.mul_assoc, Int.mul_assoc, Int.mul_comm (tk k) (pu k), Int.mul_left_comm (prD tk m.toNat (m.toNat - (k.toNat + 1)))]
theorem chain_un {n m u : Int} {fr to pu tk : Int → Int} (hm : 0 ≤ m) (hmn : m = n - 1) (hf : ∀ k, 0 ≤ k → k < m → fr k = k ∧ to k = k + 1) (hp : ∀ k, 0 ≤ k → k < m → 1 ≤ pu k ∧ 1 ≤ tk k) (h : UN n m u fr to pu tk) : u = -1 := by
  rcases h with ⟨h1, -⟩ | ⟨h1, -, h3⟩
  · exact h1
  · obtain ⟨K, k1, k2⟩ := chain_sol (n := n) hm hmn hf hp
    exact absurd ⟨K, k1, fun k k0 k9 => k2 k k0 (by omega)⟩ h3
