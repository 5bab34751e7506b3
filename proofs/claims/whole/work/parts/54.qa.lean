/-! The net: parts, counts, the first uneven channel; what a new channel keeps -/
theorem cop_of {X Y t1 t2 : Int} (hX : 1 ≤ X) (hY : 1 ≤ Y) (h1 : 1 ≤ t1) (h2 : 1 ≤ t2) (h : t1 * X.tdiv (gI X Y) = t2 * Y.tdiv (gI X Y)) : ∃ t, 1 ≤ t ∧ t1 = t * Y.tdiv (gI X Y) ∧ t2 = t * X.tdiv (gI X Y) := by
  obtain ⟨e1, e2, e3, e4, e5, -⟩ := rat_low hX hY
  generalize hg : gI X Y = g at *
  generalize hG : X.tdiv g = G at *
  generalize hH : Y.tdiv g = H at *
  have hd : H ∣ t1 := by
    have k1 : Nat.Coprime G.toNat H.toNat := by
      have k2 := Nat.coprime_div_gcd_div_gcd (m := X.toNat) (n := Y.toNat) (Nat.gcd_pos_of_pos_left _ (by omega))
      have k3 : (Nat.gcd X.toNat Y.toNat : Int) = g := by rw [← hg]; rfl
      have k4 : X.toNat / Nat.gcd X.toNat Y.toNat = G.toNat := by
        have : ((X.toNat / Nat.gcd X.toNat Y.toNat : Nat) : Int) = (G.toNat : Int) := by
          rw [Int.natCast_ediv, k3, show ((X.toNat : Nat) : Int) = X by omega, show ((G.toNat : Nat) : Int) = G by omega, e1]
          exact Int.mul_ediv_cancel_left _ (by omega)
        exact_mod_cast this
      have k5 : Y.toNat / Nat.gcd X.toNat Y.toNat = H.toNat := by
        have : ((Y.toNat / Nat.gcd X.toNat Y.toNat : Nat) : Int) = (H.toNat : Int) := by
          rw [Int.natCast_ediv, k3, show ((Y.toNat : Nat) : Int) = Y by omega, show ((H.toNat : Nat) : Int) = H by omega, e2]
          exact Int.mul_ediv_cancel_left _ (by omega)
        exact_mod_cast this
      rw [k4, k5] at k2
      exact k2
    have k6 : H.toNat ∣ t1.toNat * G.toNat := by
      have : (H : Int) ∣ t1 * G := ⟨t2, by rw [h, Int.mul_comm]⟩
      have k7 : ((H.toNat : Nat) : Int) ∣ ((t1.toNat * G.toNat : Nat) : Int) := by
        rw [Int.natCast_mul, show ((H.toNat : Nat) : Int) = H by omega, show ((t1.toNat : Nat) : Int) = t1 by omega, show ((G.toNat : Nat) : Int) = G by omega]
        exact this
      exact Int.natCast_dvd_natCast.mp k7
    have k8 : H.toNat ∣ t1.toNat := (Nat.Coprime.symm k1).dvd_of_dvd_mul_right k6
    have k9 := Int.natCast_dvd_natCast.mpr k8
    rwa [show ((H.toNat : Nat) : Int) = H by omega, show ((t1.toNat : Nat) : Int) = t1 by omega] at k9
  obtain ⟨t, ht⟩ := hd
  have h9 : t2 = t * G := by
    have : t2 * H = t * G * H := by rw [← h, ht, Int.mul_comm H t, Int.mul_assoc, Int.mul_assoc, Int.mul_comm H G]
    exact Int.eq_of_mul_eq_mul_right (by omega) this
  refine ⟨t, ?_, by rw [ht, Int.mul_comm], h9⟩
  refine Int.le_of_not_gt (fun hc => ?_)
  have : H * t ≤ H * 0 := Int.mul_le_mul_of_nonneg_left (by omega) (by omega)
  omega
theorem conn_rf {m : Int} {fr to : Int → Int} {a : Int} : conn m fr to a a := fun S _ => Iff.rfl
theorem conn_sy {m : Int} {fr to : Int → Int} {a b : Int} (h : conn m fr to a b) : conn m fr to b a := fun S hS => (h S hS).symm
theorem conn_up {m m' : Int} {fr to : Int → Int} {a b : Int} (h : conn m fr to a b) (hm : m ≤ m') : conn m' fr to a b := fun S hS => h S (fun k k0 k1 => hS k k0 (by omega))
theorem conn_co {m : Int} {fr to fr' to' : Int → Int} {a b : Int} (h : conn m fr to a b) (hf : ∀ k, 0 ≤ k → k < m → fr' k = fr k ∧ to' k = to k) : conn m fr' to' a b := fun S hS => h S (fun k k0 k1 => by have := hS k k0 k1; rwa [(hf k k0 k1).1, (hf k k0 k1).2] at this)
/-- a function that is one along the channels is one on what they connect -/
theorem conn_eq {m : Int} {fr to f : Int → Int} {a b : Int} (hf : ∀ k, 0 ≤ k → k < m → f (fr k) = f (to k)) (h : conn m fr to a b) : f b = f a := ((h (fun x => f x = f a) (fun k k0 k1 => by show f (fr k) = f a ↔ f (to k) = f a; rw [hf k k0 k1])).mp rfl)
theorem sol_co {m : Int} {fr to pu tk fr' to' pu' tk' K : Int → Int} (hf : ∀ k, 0 ≤ k → k < m → fr' k = fr k ∧ to' k = to k ∧ pu' k = pu k ∧ tk' k = tk k) (h : sol m fr to pu tk K) : sol m fr' to' pu' tk' K := fun k k0 k1 => by
  obtain ⟨h1, h2, h3, h4⟩ := hf k k0 k1
  rw [h1, h2, h3, h4]
  exact h k k0 k1
theorem Solv_co {n m : Int} {fr to pu tk fr' to' pu' tk' : Int → Int} (hf : ∀ k, 0 ≤ k → k < m → fr' k = fr k ∧ to' k = to k ∧ pu' k = pu k ∧ tk' k = tk k) (h : Solv n m fr to pu tk) : Solv n m fr' to' pu' tk' := by
  obtain ⟨K, k1, k2⟩ := h
  exact ⟨K, k1, sol_co hf k2⟩
theorem UN_co {n m u : Int} {fr to pu tk fr' to' pu' tk' : Int → Int} (hf : ∀ k, 0 ≤ k → k < m → fr' k = fr k ∧ to' k = to k ∧ pu' k = pu k ∧ tk' k = tk k) (h : UN n m u fr to pu tk) : UN n m u fr' to' pu' tk' := by
  have hs : ∀ k, 0 ≤ k → k < m → fr k = fr' k ∧ to k = to' k ∧ pu k = pu' k ∧ tk k = tk' k := fun k k0 k1 => ⟨(hf k k0 k1).1.symm, (hf k k0 k1).2.1.symm, (hf k k0 k1).2.2.1.symm, (hf k k0 k1).2.2.2.symm⟩
  rcases h with ⟨h1, h2⟩ | ⟨h1, h2, h3⟩
  · exact Or.inl ⟨h1, fun j j0 j1 => Solv_co (fun k k0 k1 => hf k k0 (by omega)) (h2 j j0 j1)⟩
  · exact Or.inr ⟨h1, fun j j0 j1 => Solv_co (fun k k0 k1 => hf k k0 (by omega)) (h2 j j0 j1), fun h => h3 (Solv_co (fun k k0 k1 => hs k k0 (by omega)) h)⟩
theorem UN_one {n m u u' : Int} {fr to pu tk : Int → Int} (h : UN n m u fr to pu tk) (h' : UN n m u' fr to pu tk) : u = u' := by
  rcases h with ⟨h1, h2⟩ | ⟨h1, h2, h3⟩
  · rcases h' with ⟨g1, g2⟩ | ⟨g1, g2, g3⟩
    · omega
    · exact absurd (h2 (u' + 1) (by omega) (by omega)) g3
  · rcases h' with ⟨g1, g2⟩ | ⟨g1, g2, g3⟩
    · exact absurd (g2 (u + 1) (by omega) (by omega)) h3
    · by_cases c : u < u'
      · exact absurd (g2 (u + 1) (by omega) (by omega)) h3
      · by_cases d : u' < u
        · exact absurd (h2 (u' + 1) (by omega) (by omega)) g3
        · omega
/-- how many are of the part r -/
def szP (n : Int) (pt : Int → Int) (r : Int) : Int := sI (fun x => if pt x = r then 1 else 0) n
def NET (n m u : Int) (fr to pu tk ct pt : Int → Int) : Prop :=
  (∀ a, 0 ≤ a → a < n → (0 ≤ pt a ∧ pt a ≤ a) ∧ pt (pt a) = pt a ∧ conn m fr to a (pt a) ∧ 1 ≤ ct a ∧ ct a ≤ 9 ^ (szP n pt (pt a) - 1).toNat) ∧ (∀ k, 0 ≤ k → k < m → pt (fr k) = pt (to k)) ∧
  (u = -1 → sol m fr to pu tk ct ∧ ∀ K : Int → Int, (∀ y, 0 ≤ y → y < n → 1 ≤ K y) → sol m fr to pu tk K → ∀ r, 0 ≤ r → r < n → pt r = r → ∃ t, 1 ≤ t ∧ ∀ a, 0 ≤ a → a < n → pt a = r → K a = t * ct a) ∧ UN n m u fr to pu tk
theorem NET_co {n m u : Int} {fr to pu tk fr' to' pu' tk' ct pt : Int → Int} (hf : ∀ k, 0 ≤ k → k < m → fr' k = fr k ∧ to' k = to k ∧ pu' k = pu k ∧ tk' k = tk k) (h : NET n m u fr to pu tk ct pt) : NET n m u fr' to' pu' tk' ct pt := by
  have hs : ∀ k, 0 ≤ k → k < m → fr k = fr' k ∧ to k = to' k ∧ pu k = pu' k ∧ tk k = tk' k := fun k k0 k1 => ⟨(hf k k0 k1).1.symm, (hf k k0 k1).2.1.symm, (hf k k0 k1).2.2.1.symm, (hf k k0 k1).2.2.2.symm⟩
  obtain ⟨h1, h2, h3, h4⟩ := h
  refine ⟨fun a a0 a1 => ?_, fun k k0 k1 => by rw [(hf k k0 k1).1, (hf k k0 k1).2.1]; exact h2 k k0 k1, fun hu => ⟨sol_co hf (h3 hu).1, fun K kp ks => (h3 hu).2 K kp (sol_co hs ks)⟩, UN_co hf h4⟩
  obtain ⟨g1, g2, g3, g4⟩ := h1 a a0 a1
  exact ⟨g1, g2, conn_co g3 (fun k k0 k1 => ⟨(hf k k0 k1).1, (hf k k0 k1).2.1⟩), g4⟩
theorem szP_le {n : Int} {pt : Int → Int} {r : Int} (hn : 0 ≤ n) : 0 ≤ szP n pt r ∧ szP n pt r ≤ n := by
  have h := sI_nn (f := fun x => if pt x = r then 1 else 0) (n := n) (B := 1) hn (fun a _ _ => by
    show 0 ≤ (if pt a = r then (1 : Int) else 0) ∧ (if pt a = r then (1 : Int) else 0) ≤ 1
    split <;> omega)
  unfold szP
  omega
theorem szP_pos {n : Int} {pt : Int → Int} {r a : Int} (a0 : 0 ≤ a) (a1 : a < n) (h : pt a = r) : 1 ≤ szP n pt r := by
  have h1 := sI_le (f := fun x => if pt x = r then 1 else 0) (n := n) (fun b _ _ => by
    show 0 ≤ (if pt b = r then (1 : Int) else 0)
    split <;> omega) a a0 a1
  have h2 : (if pt a = r then (1 : Int) else 0) ≤ szP n pt r := h1
  rw [if_pos h] at h2
  exact h2
/-- a count is within 9 to the 7th -/
theorem NET_b {n m u : Int} {fr to pu tk ct pt : Int → Int} (hn : 1 ≤ n ∧ n ≤ 8) (h : NET n m u fr to pu tk ct pt) : ∀ a, 0 ≤ a → a < n → (1 ≤ ct a ∧ ct a ≤ 4782969) ∧ 0 ≤ pt a ∧ pt a < 8 := by
  intro a a0 a1
  obtain ⟨g1, g2, g3, g4, g5⟩ := h.1 a a0 a1
  have h1 := szP_le (n := n) (pt := pt) (r := pt a) (by omega)
  have h2 : (9 : Int) ^ (szP n pt (pt a) - 1).toNat ≤ 9 ^ 7 := by
    have := Nat.pow_le_pow_right (n := 9) (by decide) (show (szP n pt (pt a) - 1).toNat ≤ 7 by omega)
    exact_mod_cast this
  have h3 : (9 : Int) ^ 7 = 4782969 := by decide
  exact ⟨⟨g4, by omega⟩, g1.1, by omega⟩
theorem NET_0 {n : Int} {fr to pu tk ct pt : Int → Int} (hn : 1 ≤ n ∧ n ≤ 8) (h : ∀ a, 0 ≤ a → a < 8 → ct a = 1 ∧ pt a = a) : NET n 0 (-1) fr to pu tk ct pt := by
  refine ⟨fun a a0 a1 => ?_, fun k k0 k1 => by omega, fun _ => ⟨fun k k0 k1 => by omega, fun K kp _ r r0 r1 hr => ⟨K r, kp r r0 r1, fun a a0 a1 ha => ?_⟩⟩, Or.inl ⟨rfl, fun j j0 j1 => by omega⟩⟩
  · obtain ⟨h1, h2⟩ := h a a0 (by omega)
    have h3 := Int.pow_pos (n := 9) (m := (szP n pt (pt a) - 1).toNat) (by decide)
    refine ⟨by omega, by rw [h2, h2], by rw [h2]; exact conn_rf, by omega, by omega⟩
  · obtain ⟨h1, h2⟩ := h a a0 (by omega)
    rw [h2] at ha
    rw [h1, ha, Int.mul_one]
section NA
variable {n m u : Int} {fr to pu tk ct pt : Int → Int}
theorem UN_keep (hm : 0 ≤ m) (h : UN n m u fr to pu tk) (hs : u = -1 → Solv n (m + 1) fr to pu tk) : UN n (m + 1) u fr to pu tk := by
  rcases h with ⟨h1, h2⟩ | ⟨h1, h2, h3⟩
  · refine Or.inl ⟨h1, fun j j0 j1 => ?_⟩
    by_cases e : j = m + 1
    · rw [e]; exact hs h1
    · exact h2 j j0 (by omega)
  · exact Or.inr ⟨by omega, h2, h3⟩
theorem sol_dn {K : Int → Int} (h : sol (m + 1) fr to pu tk K) : sol m fr to pu tk K := fun k k0 k1 => h k k0 (by omega)
/-- a channel within a part -/
theorem NET_in (hm : 0 ≤ m) (hn : 1 ≤ n ∧ n ≤ 8) (h : NET n m u fr to pu tk ct pt) (ha : (0 ≤ fr m ∧ fr m < n) ∧ 0 ≤ to m ∧ to m < n) (hp : pt (fr m) = pt (to m)) : NET n (m + 1) (if ct (fr m) * pu m ≠ ct (to m) * tk m ∧ u = -1 then m else u) fr to pu tk ct pt := by
  obtain ⟨h1, h2, h3, h4⟩ := h
  have k1 : ∀ a, 0 ≤ a → a < n → (0 ≤ pt a ∧ pt a ≤ a) ∧ pt (pt a) = pt a ∧ conn (m + 1) fr to a (pt a) ∧ 1 ≤ ct a ∧ ct a ≤ 9 ^ (szP n pt (pt a) - 1).toNat := fun a a0 a1 => by
    obtain ⟨g1, g2, g3, g4⟩ := h1 a a0 a1
    exact ⟨g1, g2, conn_up g3 (by omega), g4⟩
  have k2 : ∀ k, 0 ≤ k → k < m + 1 → pt (fr k) = pt (to k) := fun k k0 k1 => by
    by_cases e : k = m
    · rw [e]; exact hp
    · exact h2 k k0 (by omega)
  have pos : ∀ y, 0 ≤ y → y < n → 1 ≤ ct y := fun y y0 y1 => (h1 y y0 y1).2.2.2.1
  by_cases c : ct (fr m) * pu m ≠ ct (to m) * tk m ∧ u = -1
  · rw [if_pos c]
    refine ⟨k1, k2, fun e => by omega, Or.inr ⟨by omega, ?_, ?_⟩⟩
    · rcases h4 with ⟨-, g2⟩ | ⟨g1, -⟩
      · exact g2
      · omega
    · rintro ⟨K, kp, ks⟩
      have hr := h1 (fr m) ha.1.1 ha.1.2
      obtain ⟨t, t0, t1⟩ := (h3 c.2).2 K kp (sol_dn ks) (pt (fr m)) (by omega) (by omega) hr.2.1
      have e := ks m hm (by omega)
      rw [t1 (fr m) ha.1.1 ha.1.2 rfl, t1 (to m) ha.2.1 ha.2.2 hp.symm, Int.mul_assoc, Int.mul_assoc] at e
      exact c.1 (Int.eq_of_mul_eq_mul_left (by omega) e)
  · rw [if_neg c]
    have s1 : u = -1 → sol (m + 1) fr to pu tk ct := fun hu k k0 k1 => by
      by_cases e : k = m
      · rw [e]
        refine Classical.byContradiction (fun h => c ⟨h, hu⟩)
      · exact (h3 hu).1 k k0 (by omega)
    exact ⟨k1, k2, fun hu => ⟨s1 hu, fun K kp ks => (h3 hu).2 K kp (sol_dn ks)⟩, UN_keep hm h4 (fun hu => ⟨ct, pos, s1 hu⟩)⟩
/-- the sizes of parts that are joined -/
theorem szP_join {pt' : Int → Int} {lo hi : Int} (hne : lo ≠ hi) (hp : ∀ a, 0 ≤ a → a < n → pt' a = if pt a = hi then lo else pt a) : szP n pt' lo = szP n pt lo + szP n pt hi ∧ ∀ r, r ≠ lo → r ≠ hi → szP n pt' r = szP n pt r := by
  refine ⟨?_, fun r r1 r2 => ?_⟩
  · unfold szP
    rw [sI_addf]
    refine sI_cong (fun a a0 a1 => ?_)
    show (if pt' a = lo then (1 : Int) else 0) = (if pt a = lo then 1 else 0) + if pt a = hi then 1 else 0
    rw [hp a a0 a1]
    by_cases e : pt a = hi
    · rw [if_pos e, if_pos rfl, if_neg (by rw [e]; exact Ne.symm hne), if_pos e]; rfl
    · rw [if_neg e, if_neg e, Int.add_zero]
  · unfold szP
    refine sI_cong (fun a a0 a1 => ?_)
    show (if pt' a = r then (1 : Int) else 0) = if pt a = r then 1 else 0
    rw [hp a a0 a1]
    by_cases e : pt a = hi
    · rw [if_pos e, if_neg (Ne.symm r1), if_neg (by rw [e]; exact Ne.symm r2)]
    · rw [if_neg e]
theorem pow_b {x y : Int} {i j : Nat} (hx : 1 ≤ x ∧ x ≤ 9 ^ i) (hy : 1 ≤ y ∧ y ≤ 9 ^ j) : 1 ≤ x * y ∧ x * y ≤ 9 ^ (i + j) := by
  have h := mulb hx hy
  rw [Int.pow_add]
  exact h
/-- a channel between two parts -/
theorem NET_ou {ct' pt' : Int → Int} {G T : Int} (hm : 0 ≤ m) (hn : 1 ≤ n ∧ n ≤ 8) (h : NET n m u fr to pu tk ct pt) (hch : ∀ k, 0 ≤ k → k < m + 1 → (0 ≤ fr k ∧ fr k < n) ∧ (0 ≤ to k ∧ to k < n) ∧ (1 ≤ pu k ∧ pu k ≤ 9) ∧ (1 ≤ tk k ∧ tk k ≤ 9)) (hp : pt (fr m) ≠ pt (to m))
    (hG : G = (ct (fr m) * pu m).tdiv (gI (ct (fr m) * pu m) (ct (to m) * tk m))) (hT : T = (ct (to m) * tk m).tdiv (gI (ct (fr m) * pu m) (ct (to m) * tk m)))
    (hc : ∀ a, 0 ≤ a → a < n → ct' a = if pt a = pt (to m) then ct a * G else if pt a = pt (fr m) then ct a * T else ct a)
    (hq : ∀ a, 0 ≤ a → a < n → pt' a = if pt a = max (pt (fr m)) (pt (to m)) then min (pt (fr m)) (pt (to m)) else pt a) : NET n (m + 1) u fr to pu tk ct' pt' := by
  obtain ⟨h1, h2, h3, h4⟩ := h
  obtain ⟨⟨f0, f1⟩, ⟨t0, t1⟩, px, ty⟩ := hch m hm (by omega)
  obtain ⟨a1, a2, a3, a4, a5⟩ := h1 _ f0 f1
  obtain ⟨b1, b2, b3, b4, b5⟩ := h1 _ t0 t1
  generalize hs : pt (fr m) = s at *
  generalize ht : pt (to m) = t at *
  have hlh : min s t ≠ max s t := by omega
  have hmm : (min s t = s ∧ max s t = t) ∨ (min s t = t ∧ max s t = s) := by omega
  have hlo : pt (min s t) = min s t ∧ 0 ≤ min s t ∧ min s t < n := by
    rcases hmm with ⟨e, -⟩ | ⟨e, -⟩
    · rw [e]; exact ⟨a2, by omega, by omega⟩
    · rw [e]; exact ⟨b2, by omega, by omega⟩
  obtain ⟨z1, z2⟩ := szP_join (n := n) (pt := pt) (pt' := pt') hlh hq
  have zs := szP_pos f0 f1 hs
  have zt := szP_pos t0 t1 ht
  have zsum : szP n pt' (min s t) = szP n pt s + szP n pt t := by
    rcases hmm with ⟨e1, e2⟩ | ⟨e1, e2⟩
    · rw [z1, e1, e2]
    · rw [z1, e1, e2, Int.add_comm]
  have gv := pow_b (i := (szP n pt s - 1).toNat) (j := 1) ⟨a4, a5⟩ ⟨px.1, by have : (9 : Int) ^ 1 = 9 := by decide
                                                                             omega⟩
  have tv := pow_b (i := (szP n pt t - 1).toNat) (j := 1) ⟨b4, b5⟩ ⟨ty.1, by have : (9 : Int) ^ 1 = 9 := by decide
                                                                             omega⟩
  obtain ⟨e1, e2, e3, e4, e5, -⟩ := rat_low gv.1 tv.1
  rw [← hG] at e1 e4
  rw [← hT] at e2 e5
  have G9 : 1 ≤ G ∧ G ≤ 9 ^ ((szP n pt s - 1).toNat + 1) := ⟨e4, Int.le_trans (by
    have : 1 * G ≤ gI (ct (fr m) * pu m) (ct (to m) * tk m) * G := Int.mul_le_mul_of_nonneg_right e3 (by omega)
    omega) gv.2⟩
  have T9 : 1 ≤ T ∧ T ≤ 9 ^ ((szP n pt t - 1).toNat + 1) := ⟨e5, Int.le_trans (by
    have : 1 * T ≤ gI (ct (fr m) * pu m) (ct (to m) * tk m) * T := Int.mul_le_mul_of_nonneg_right e3 (by omega)
    omega) tv.2⟩
  have hroot : ∀ r, pt r = r → r ≠ max s t → 0 ≤ r → r < n → pt' r = r := fun r hr hx r0 r1 => by rw [hq r r0 r1, if_neg (by rw [hr]; exact hx), hr]
  have hst : ∀ a, 0 ≤ a → a < n → (pt a = s ∨ pt a = t) → pt' a = min s t := fun a x0 x1 hx => by
    rw [hq a x0 x1]
    by_cases c : pt a = max s t
    · rw [if_pos c]
    · rw [if_neg c]; omega
  have hno : ∀ a, 0 ≤ a → a < n → pt a ≠ s → pt a ≠ t → pt' a = pt a ∧ ct' a = ct a := fun a x0 x1 y1 y2 => ⟨by rw [hq a x0 x1, if_neg (by omega)], by rw [hc a x0 x1, if_neg y2, if_neg y1]⟩
  have hcs : ∀ a, 0 ≤ a → a < n → pt a = s → ct' a = ct a * T := fun a x0 x1 hx => by rw [hc a x0 x1, if_neg (by omega), if_pos hx]
  have hct : ∀ a, 0 ≤ a → a < n → pt a = t → ct' a = ct a * G := fun a x0 x1 hx => by rw [hc a x0 x1, if_pos hx]
  have cst : conn (m + 1) fr to s t := conn_tr (conn_sy (conn_up a3 (by omega))) (conn_tr (conn_edge hm (by omega)).1 (conn_up b3 (by omega)))
  have k1 : ∀ a, 0 ≤ a → a < n → (0 ≤ pt' a ∧ pt' a ≤ a) ∧ pt' (pt' a) = pt' a ∧ conn (m + 1) fr to a (pt' a) ∧ 1 ≤ ct' a ∧ ct' a ≤ 9 ^ (szP n pt' (pt' a) - 1).toNat := by
    intro a x0 x1
    obtain ⟨g1, g2, g3, g4, g5⟩ := h1 a x0 x1
    by_cases c : pt a = s ∨ pt a = t
    · rw [hst a x0 x1 c]
      refine ⟨by omega, hroot _ hlo.1 hlh hlo.2.1 hlo.2.2, ?_, ?_⟩
      · have c2 := conn_up (m' := m + 1) g3 (by omega)
        rcases c with c | c
        · rw [c] at c2
          rcases hmm with ⟨e, -⟩ | ⟨e, -⟩
          · rw [e]; exact c2
          · rw [e]; exact conn_tr c2 cst
        · rw [c] at c2
          rcases hmm with ⟨e, -⟩ | ⟨e, -⟩
          · rw [e]; exact conn_tr c2 (conn_sy cst)
          · rw [e]; exact c2
      · rw [zsum]
        rcases c with c | c
        · rw [hcs a x0 x1 c]
          rw [c] at g5
          have h9 := pow_b ⟨g4, g5⟩ T9
          rw [show (szP n pt s - 1).toNat + ((szP n pt t - 1).toNat + 1) = (szP n pt s + szP n pt t - 1).toNat by omega] at h9
          exact h9
        · rw [hct a x0 x1 c]
          rw [c] at g5
          have h9 := pow_b ⟨g4, g5⟩ G9
          rw [show (szP n pt t - 1).toNat + ((szP n pt s - 1).toNat + 1) = (szP n pt s + szP n pt t - 1).toNat by omega] at h9
          exact h9
    · obtain ⟨d1, d2⟩ := hno a x0 x1 (fun e => c (Or.inl e)) (fun e => c (Or.inr e))
      rw [d1, d2]
      refine ⟨g1, hroot _ g2 (fun e => c (by omega)) (by omega) (by omega), conn_up g3 (by omega), g4, ?_⟩
      rw [z2 _ (fun e => c (by omega)) (fun e => c (by omega))]
      exact g5
  have k2 : ∀ k, 0 ≤ k → k < m + 1 → pt' (fr k) = pt' (to k) := fun k x0 x1 => by
    obtain ⟨⟨p0, p1⟩, ⟨q0, q1⟩, -⟩ := hch k x0 x1
    by_cases e : k = m
    · subst e
      rw [hst _ p0 p1 (Or.inl hs), hst _ q0 q1 (Or.inr ht)]
    · have e9 := h2 k x0 (by omega)
      rw [hq _ p0 p1, hq _ q0 q1, e9]
  have pos : ∀ y, 0 ≤ y → y < n → 1 ≤ ct' y := fun y y0 y1 => (k1 y y0 y1).2.2.2.1
  have s1 : u = -1 → sol (m + 1) fr to pu tk ct' := fun hu k x0 x1 => by
    obtain ⟨⟨p0, p1⟩, ⟨q0, q1⟩, -⟩ := hch k x0 x1
    by_cases e : k = m
    · subst e
      have x1 := congrArg (fun z => z * T) e1
      have x2 := congrArg (fun z => z * G) e2
      try simp only at x1 x2
      rw [hcs _ p0 p1 hs, hct _ q0 q1 ht, Int.mul_right_comm, Int.mul_right_comm (ct (to k)), x1, x2, Int.mul_right_comm]
    · have e9 := h2 k x0 (by omega)
      have e8 := (h3 hu).1 k x0 (by omega)
      by_cases c1 : pt (fr k) = t
      · rw [hct _ p0 p1 c1, hct _ q0 q1 (by omega), Int.mul_right_comm, e8, Int.mul_right_comm]
      · by_cases c2 : pt (fr k) = s
        · rw [hcs _ p0 p1 c2, hcs _ q0 q1 (by omega), Int.mul_right_comm, e8, Int.mul_right_comm]
        · rw [(hno _ p0 p1 c2 c1).2, (hno _ q0 q1 (by omega) (by omega)).2]
          exact e8
  refine ⟨k1, k2, fun hu => ⟨s1 hu, fun K kp ks r r0 r1 hr => ?_⟩, UN_keep hm h4 (fun hu => ⟨ct', pos, s1 hu⟩)⟩
  have lst := (h3 hu).2 K kp (sol_dn ks)
  by_cases c : r = min s t
  · obtain ⟨ts, us, vs⟩ := lst s (by omega) (by omega) a2
    obtain ⟨tt, ut, vt⟩ := lst t (by omega) (by omega) b2
    have e := ks m hm (by omega)
    rw [vs _ f0 f1 hs, vt _ t0 t1 ht, Int.mul_assoc, Int.mul_assoc] at e
    have e' : ts * G = tt * T := by
      have : (ts * G) * gI (ct (fr m) * pu m) (ct (to m) * tk m) = (tt * T) * gI (ct (fr m) * pu m) (ct (to m) * tk m) := by
        rw [Int.mul_assoc, Int.mul_comm G, ← e1, Int.mul_assoc, Int.mul_comm T, ← e2]
        exact e
      exact Int.eq_of_mul_eq_mul_right (by omega) this
    rw [hG, hT] at e'
    obtain ⟨w, w1, w2, w3⟩ := cop_of gv.1 tv.1 us ut e'
    rw [← hT] at w2
    rw [← hG] at w3
    refine ⟨w, w1, fun a x0 x1 ha => ?_⟩
    by_cases c1 : pt a = s
    · rw [hcs a x0 x1 c1, vs a x0 x1 c1, w2, Int.mul_assoc, Int.mul_comm T]
    · by_cases c2 : pt a = t
      · rw [hct a x0 x1 c2, vt a x0 x1 c2, w3, Int.mul_assoc, Int.mul_comm G]
      · exfalso
        rw [(hno a x0 x1 c1 c2).1, c] at ha
        omega
  · have c' : r ≠ max s t := fun e => by
      have := hst r r0 r1 (by
        by_cases d : pt r = s ∨ pt r = t
        · exact d
        · exfalso
          obtain ⟨d1, -⟩ := hno r r0 r1 (fun e => d (Or.inl e)) (fun e => d (Or.inr e))
          rw [d1] at hr
          omega)
      omega
    have hr' : pt r = r := by
      by_cases d : pt r = s ∨ pt r = t
      · have := hst r r0 r1 d
        omega
      · rw [(hno r r0 r1 (fun e => d (Or.inl e)) (fun e => d (Or.inr e))).1] at hr
        exact hr
    obtain ⟨w, w1, w2⟩ := lst r r0 r1 hr'
    refine ⟨w, w1, fun a x0 x1 ha => ?_⟩
    have hd : pt a ≠ s ∧ pt a ≠ t := by
      refine ⟨fun e => ?_, fun e => ?_⟩
      · have := hst a x0 x1 (Or.inl e); omega
      · have := hst a x0 x1 (Or.inr e); omega
    obtain ⟨d1, d2⟩ := hno a x0 x1 hd.1 hd.2
    rw [d2]
    exact w2 a x0 x1 (by rw [← d1]; exact ha)
end NA
