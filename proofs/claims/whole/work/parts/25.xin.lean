/-! WHAT IS TRUE OF A TREE AS IT GROWS. gh: 0 the knot that came by a step, 1 the whole, 2 by which step joined, 3 by which step gone; L: leaves -/
section
variable {s gh : Nat → Int → Int} {L : Int → BitVec 64}
/-- how many of the first steps joined -/
def jn (s : Nat → Int → Int) (u : Int) : Int := isum (fun v => if s 10 v = -1 then 0 else 1) u.toNat
def XA (n : Int) (s gh : Nat → Int → Int) (L : Int → BitVec 64) : Prop := ∀ k, 0 ≤ k → k < n → s 6 k = -1 ∧ s 7 k = -1 ∧ gh 2 k = -1 ∧ L k = 1#64 <<< k.toNat
def XB (n t : Int) (s gh : Nat → Int → Int) (L : Int → BitVec 64) : Prop := ∀ k, n ≤ k → k < s 0 10 → (0 ≤ s 6 k ∧ s 6 k < k) ∧ (0 ≤ s 7 k ∧ s 7 k < k) ∧ s 6 k ≠ s 7 k ∧ (0 ≤ gh 2 k ∧ gh 2 k < t) ∧ s 9 (gh 2 k) = s 6 k ∧ s 10 (gh 2 k) = s 7 k ∧ gh 0 (gh 2 k) = k ∧ L k = L (s 6 k) ||| L (s 7 k) ∧ s 5 k = s 5 (s 6 k) + s 5 (s 7 k)
def XC (t : Int) (s gh : Nat → Int → Int) : Prop := ∀ k, 0 ≤ k → k < s 0 10 → (s 8 k = 1 → gh 3 k = -1 ∧ gh 1 k = -1) ∧ (s 8 k = 0 → (0 ≤ gh 3 k ∧ gh 3 k < t) ∧ (s 9 (gh 3 k) = k ∨ s 10 (gh 3 k) = k) ∧ gh 1 k = gh 0 (gh 3 k))
def XD (n t : Int) (s gh : Nat → Int → Int) : Prop := ∀ u, 0 ≤ u → u < t → ((0 ≤ s 9 u ∧ s 9 u < s 0 10) ∧ gh 3 (s 9 u) = u) ∧ ((s 10 u = -1 ∧ gh 0 u = -1) ∨ (((0 ≤ s 10 u ∧ s 10 u < s 0 10) ∧ gh 3 (s 10 u) = u ∧ s 9 u ≠ s 10 u) ∧ gh 0 u = n + jn s u ∧ gh 0 u < s 0 10 ∧ s 9 u < gh 0 u ∧ s 10 u < gh 0 u ∧ gh 2 (gh 0 u) = u ∧ s 6 (gh 0 u) = s 9 u ∧ s 7 (gh 0 u) = s 10 u))
def XE (n t : Int) (s : Nat → Int → Int) : Prop := s 0 10 = n + jn s t
def XF (s gh : Nat → Int → Int) (L : Int → BitVec 64) : Prop := ∀ k e, 0 ≤ k → k < s 0 10 → 0 ≤ e → e < s 0 10 → k ≠ e → gh 1 k = -1 → gh 1 e = -1 → L k &&& L e = 0#64
def XG (n : Int) (s : Nat → Int → Int) (L : Int → BitVec 64) : Prop := ∀ k, 0 ≤ k → k < s 0 10 → L k ≠ 0#64 ∧ ∀ i : Nat, n ≤ i → (L k).getLsbD i = false
def XI (n t : Int) (s gh : Nat → Int → Int) (L : Int → BitVec 64) : Prop := XA n s gh L ∧ XB n t s gh L ∧ XC t s gh ∧ XD n t s gh ∧ XE n t s ∧ XF s gh L ∧ XG n s L
theorem jn_s {u : Int} (h : 0 ≤ u) : jn s (u + 1) = jn s u + if s 10 u = -1 then 0 else 1 := by
  unfold jn
  rw [show (u + 1).toNat = u.toNat + 1 by omega]
  show isum _ u.toNat + (if s 10 ((u.toNat : Nat) : Int) = -1 then 0 else 1) = _
  rw [show ((u.toNat : Nat) : Int) = u by omega]
theorem jn_ext {s2 : Nat → Int → Int} {u : Int} (h : ∀ v, 0 ≤ v → v < u → s2 10 v = s 10 v) : jn s2 u = jn s u := by
  unfold jn
  exact isum_ext fun i h1 h2 => by rw [h i h1 (by omega)]
theorem jn_nn {u : Int} : 0 ≤ jn s u := isum_nn fun i _ _ => by split <;> omega
theorem jn_mono {u v : Int} (h0 : 0 ≤ u) (h : u ≤ v) : jn s u ≤ jn s v := by
  obtain ⟨d, rfl⟩ : ∃ d : Nat, v = u + d := ⟨(v - u).toNat, by omega⟩
  clear h
  induction d with
  | zero => simp
  | succ d ih =>
    have := @jn_s s (u + d) (by omega)
    rw [show u + ((d + 1 : Nat) : Int) = u + d + 1 by omega, this]
    split <;> omega
theorem XI_beam {n t k : Int} (g : GI n t s) (x : XI n t s gh L) (ht : t < n) (hc : cnd s k (-1)) : XI n (t + 1) (sStep s k (-1)) (us (us gh 0 t (-1)) 3 k t) L := by
  obtain ⟨g1, g2, g3, -, -, g6, -, -⟩ := g
  obtain ⟨a, b, c, d, e, f, gg⟩ := x
  obtain ⟨c1, c2, c3⟩ := hc.1
  have f8 : ∀ j, sStep s k (-1) 8 j = if j = k then 0 else s 8 j := fun j => by simp [sStep, us]
  have f5 : ∀ j, sStep s k (-1) 5 j = s 5 j := fun j => by simp [sStep, us]
  have f6 : ∀ j, sStep s k (-1) 6 j = s 6 j := fun j => by simp [sStep, us]
  have f7 : ∀ j, sStep s k (-1) 7 j = s 7 j := fun j => by simp [sStep, us]
  have f9 : ∀ j, sStep s k (-1) 9 j = if j = t then k else s 9 j := fun j => by simp [sStep, us, g2]
  have f10 : ∀ j, sStep s k (-1) 10 j = if j = t then -1 else s 10 j := fun j => by simp [sStep, us, g2]
  have f0 : sStep s k (-1) 0 10 = s 0 10 := by simp [sStep, us]
  have h0 : ∀ j, us (us gh 0 t (-1)) 3 k t 0 j = if j = t then -1 else gh 0 j := fun j => by simp [us]
  have h1 : ∀ j, us (us gh 0 t (-1)) 3 k t 1 j = gh 1 j := fun j => by simp [us]
  have h2 : ∀ j, us (us gh 0 t (-1)) 3 k t 2 j = gh 2 j := fun j => by simp [us]
  have h3 : ∀ j, us (us gh 0 t (-1)) 3 k t 3 j = if j = k then t else gh 3 j := fun j => by simp [us]
  have hj : ∀ u, u ≤ t → jn (sStep s k (-1)) u = jn s u := fun u hu => jn_ext fun v _ hv => by rw [f10, if_neg (by omega)]
  generalize sStep s k (-1) = s2 at *
  generalize us (us gh 0 t (-1)) 3 k t = gh2 at *
  refine ⟨?_, ?_, ?_, ?_, ?_, ?_, ?_⟩
  · intro j j0 j1
    rw [f6, f7, h2]
    exact a j j0 j1
  · intro j j0 j1
    rw [f0] at j1
    obtain ⟨b1, b2, b3, b4, b5, b6, b7, b8, b9⟩ := b j j0 j1
    rw [f6, f7, h2, f9, f10, h0, f5, f5, f5, if_neg (by omega), if_neg (by omega), if_neg (by omega)]
    exact ⟨b1, b2, b3, by omega, b5, b6, b7, b8, b9⟩
  · intro j j0 j1
    rw [f0] at j1
    have hc1 := c j j0 j1
    rw [f8, h3, h1, f9, f10, h0]
    by_cases q : j = k
    · subst q
      rw [if_pos rfl, if_pos rfl, if_pos rfl, if_pos rfl, if_pos rfl]
      exact ⟨fun z => by omega, fun _ => ⟨by omega, Or.inl rfl, (hc1.1 c3).2⟩⟩
    · rw [if_neg q, if_neg q]
      refine ⟨hc1.1, fun z => ?_⟩
      have := hc1.2 z
      rw [if_neg (by omega), if_neg (by omega), if_neg (by omega)]
      exact ⟨by omega, this.2⟩
  · intro u u0 u1
    rw [f9, f10, h0, f0]
    by_cases q : u = t
    · subst q
      rw [if_pos rfl, if_pos rfl, if_pos rfl, h3, if_pos rfl]
      exact ⟨⟨⟨c1, c2⟩, rfl⟩, Or.inl ⟨rfl, rfl⟩⟩
    · obtain ⟨d1, d2⟩ := d u u0 (by omega)
      have nk : ∀ z, gh 3 z = u → z ≠ k := fun z hz hk => by
        rw [hk] at hz
        have := (c k c1 c2).1 c3
        omega
      rw [if_neg q, if_neg q, if_neg q, h3, h3, if_neg (nk _ d1.2), hj u (by omega)]
      refine ⟨d1, ?_⟩
      rcases d2 with d2 | ⟨d2, d3⟩
      · exact Or.inl d2
      · rw [if_neg (nk _ d2.2.1), h2, f6, f7]
        exact Or.inr ⟨d2, d3⟩
  · show s2 0 10 = n + jn s2 (t + 1)
    rw [jn_s (by omega), f10, if_pos rfl, if_pos rfl, hj t (by omega), f0]
    have : s 0 10 = n + jn s t := e
    omega
  · intro p q p0 p1 q0 q1
    rw [f0] at p1 q1
    rw [h1, h1]
    exact f p q p0 p1 q0 q1
  · intro j j0 j1
    rw [f0] at j1
    exact gg j j0 j1
end
