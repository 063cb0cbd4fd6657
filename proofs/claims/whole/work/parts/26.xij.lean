/-! .. two are joined -/
section
variable {s gh : Nat → Int → Int} {L : Int → BitVec 64}
def ghJ (gh : Nat → Int → Int) (t kn k e : Int) : Nat → Int → Int := us (us (us (us (us (us (us (us gh 0 t kn) 1 kn (-1)) 2 kn t) 3 kn (-1)) 1 k kn) 1 e kn) 3 k t) 3 e t
theorem XI_join {n t k e : Int} (g : GI n t s) (x : XI n t s gh L) (ht : t < n) (hc : cnd s k e) (he : e ≠ -1) : XI n (t + 1) (sStep s k e) (ghJ gh t (s 0 10) k e) (up L (s 0 10) (L k ||| L e)) := by
  obtain ⟨g1, g2, g3, -, -, g6, -, -⟩ := g
  obtain ⟨a, b, c, d, ee, f, gg⟩ := x
  obtain ⟨⟨c1, c2, c3⟩, c4⟩ := hc
  obtain ⟨⟨d1, d2, d3⟩, d4, -⟩ : (0 ≤ e ∧ e < s 0 10 ∧ s 8 e = 1) ∧ e ≠ k ∧ ahS s k e := by rcases c4 with h | h; exact absurd h he; exact h
  have f8 : ∀ j, sStep s k e 8 j = if j = s 0 10 then 1 else if j = e then 0 else if j = k then 0 else s 8 j := fun j => by
    by_cases c : s 0 14 = 1 <;> simp [sStep, he, sJoin, sCome, us, c]
  have f5 : ∀ j, sStep s k e 5 j = if j = s 0 10 then s 5 k + s 5 e else s 5 j := fun j => by
    by_cases c : s 0 14 = 1 <;> simp [sStep, he, sJoin, sCome, us, c]
  have f6 : ∀ j, sStep s k e 6 j = if j = s 0 10 then k else s 6 j := fun j => by
    by_cases c : s 0 14 = 1 <;> simp [sStep, he, sJoin, sCome, us, c]
  have f7 : ∀ j, sStep s k e 7 j = if j = s 0 10 then e else s 7 j := fun j => by
    by_cases c : s 0 14 = 1 <;> simp [sStep, he, sJoin, sCome, us, c]
  have f9 : ∀ j, sStep s k e 9 j = if j = t then k else s 9 j := fun j => by
    by_cases c : s 0 14 = 1 <;> simp [sStep, he, sJoin, sCome, us, c, g2]
  have f10 : ∀ j, sStep s k e 10 j = if j = t then e else s 10 j := fun j => by
    by_cases c : s 0 14 = 1 <;> simp [sStep, he, sJoin, sCome, us, c, g2]
  have f0 : sStep s k e 0 10 = s 0 10 + 1 := by
    by_cases c : s 0 14 = 1 <;> simp [sStep, he, sJoin, sCome, us, c]
  have h0 : ∀ j, ghJ gh t (s 0 10) k e 0 j = if j = t then s 0 10 else gh 0 j := fun j => by simp [ghJ, us]
  have h1 : ∀ j, ghJ gh t (s 0 10) k e 1 j = if j = e then s 0 10 else if j = k then s 0 10 else if j = s 0 10 then -1 else gh 1 j := fun j => by simp [ghJ, us]
  have h2 : ∀ j, ghJ gh t (s 0 10) k e 2 j = if j = s 0 10 then t else gh 2 j := fun j => by simp [ghJ, us]
  have h3 : ∀ j, ghJ gh t (s 0 10) k e 3 j = if j = e then t else if j = k then t else if j = s 0 10 then -1 else gh 3 j := fun j => by simp [ghJ, us]
  have hj : ∀ u, u ≤ t → jn (sStep s k e) u = jn s u := fun u hu => jn_ext fun v _ hv => by rw [f10, if_neg (by omega)]
  have hL : up L (s 0 10) (L k ||| L e) (s 0 10) = L k ||| L e := up_s
  have hM : ∀ j, j ≠ s 0 10 → up L (s 0 10) (L k ||| L e) j = L j := fun j h => up_n h
  have ck := (c k c1 c2).1 c3
  have ce := (c e d1 d2).1 d3
  have hkn : s 0 10 = n + jn s t := ee
  generalize up L (s 0 10) (L k ||| L e) = L2 at *
  generalize sStep s k e = s2 at *
  generalize ghJ gh t (s 0 10) k e = gh2 at *
  generalize hK : s 0 10 = K at *
  refine ⟨?_, ?_, ?_, ?_, ?_, ?_, ?_⟩
  · intro j j0 j1
    rw [f6, f7, h2, hM j (by omega), if_neg (by omega), if_neg (by omega), if_neg (by omega)]
    exact a j j0 j1
  · intro j j0 j1
    rw [f0] at j1
    by_cases q : j = K
    · subst q
      rw [f6, f7, h2, hL, f5, f5, f5, if_pos rfl, if_pos rfl, if_pos rfl, if_pos rfl, f9, f10, h0, if_pos rfl, if_pos rfl, if_pos rfl, hM k (by omega), hM e (by omega), if_neg (by omega), if_neg (by omega)]
      exact ⟨by omega, by omega, fun z => d4 z.symm, by omega, rfl, rfl, rfl, rfl, rfl⟩
    · obtain ⟨b1, b2, b3, b4, b5, b6, b7, b8, b9⟩ := b j j0 (by omega)
      rw [f6, f7, h2, if_neg q, if_neg q, if_neg q, f9, f10, h0, if_neg (by omega), if_neg (by omega), if_neg (by omega), hM j q, hM _ (by omega), hM _ (by omega), f5, f5, f5, if_neg q, if_neg (by omega), if_neg (by omega)]
      exact ⟨b1, b2, b3, by omega, b5, b6, b7, b8, b9⟩
  · intro j j0 j1
    rw [f0] at j1
    rw [f8, h3, h1, f9, f10, h0]
    by_cases q : j = K
    · subst q
      rw [if_pos rfl, if_neg (by omega), if_neg (by omega), if_pos rfl, if_neg (by omega), if_neg (by omega), if_pos rfl]
      exact ⟨fun _ => ⟨rfl, rfl⟩, fun z => by omega⟩
    · have hc1 := c j j0 (by omega)
      rw [if_neg q, if_neg q, if_neg q]
      by_cases qe : j = e
      · rw [if_pos qe, if_pos qe, if_pos qe, if_pos rfl, if_pos rfl, if_pos rfl]
        exact ⟨fun z => by omega, fun _ => ⟨by omega, Or.inr qe.symm, rfl⟩⟩
      · rw [if_neg qe, if_neg qe, if_neg qe]
        by_cases qk : j = k
        · rw [if_pos qk, if_pos qk, if_pos qk, if_pos rfl, if_pos rfl, if_pos rfl]
          exact ⟨fun z => by omega, fun _ => ⟨by omega, Or.inl qk.symm, rfl⟩⟩
        · rw [if_neg qk, if_neg qk, if_neg qk]
          refine ⟨hc1.1, fun z => ?_⟩
          have := hc1.2 z
          rw [if_neg (by omega), if_neg (by omega), if_neg (by omega)]
          exact ⟨by omega, this.2⟩
  · intro u u0 u1
    rw [f9, f10, h0, f0]
    by_cases q : u = t
    · subst q
      rw [if_pos rfl, if_pos rfl, if_pos rfl, h3, h3, h2, f6, f7, hj u (by omega), if_pos rfl, if_pos rfl, if_pos rfl, if_pos rfl, if_neg (fun z => d4 z.symm), if_pos rfl]
      exact ⟨⟨by omega, rfl⟩, Or.inr ⟨⟨by omega, rfl, fun z => d4 z.symm⟩, by omega, by omega, by omega, by omega, rfl, rfl, rfl⟩⟩
    · obtain ⟨x1, x2⟩ := d u u0 (by omega)
      have nk : ∀ z, gh 3 z = u → z ≠ k ∧ z ≠ e := fun z hz => ⟨fun w => by rw [w] at hz; omega, fun w => by rw [w] at hz; omega⟩
      rw [if_neg q, if_neg q, if_neg q, h3, if_neg (nk _ x1.2).2, if_neg (nk _ x1.2).1, if_neg (by omega), hj u (by omega)]
      refine ⟨⟨by omega, x1.2⟩, ?_⟩
      rcases x2 with x2 | ⟨x2, x3⟩
      · exact Or.inl x2
      · rw [h3, if_neg (nk _ x2.2.1).2, if_neg (nk _ x2.2.1).1, if_neg (by omega), h2, f6, f7, if_neg (by omega), if_neg (by omega), if_neg (by omega)]
        exact Or.inr ⟨⟨by omega, x2.2⟩, x3.1, by omega, x3.2.2⟩
  · show s2 0 10 = n + jn s2 (t + 1)
    rw [jn_s (by omega), f10, if_pos rfl, if_neg he, hj t (by omega), f0]
    omega
  · intro p q p0 p1 q0 q1 hpq
    rw [f0] at p1 q1
    rw [h1, h1]
    by_cases pe : p = e
    · rw [if_pos pe]
      intro z; omega
    · by_cases pk : p = k
      · rw [if_neg pe, if_pos pk]
        intro z; omega
      · by_cases qe : q = e
        · rw [if_pos qe]
          intro _ z; omega
        · by_cases qk : q = k
          · rw [if_neg qe, if_pos qk]
            intro _ z; omega
          · rw [if_neg pe, if_neg pk, if_neg qe, if_neg qk]
            by_cases pK : p = K
            · rw [if_pos pK, if_neg (by omega), pK, hL, hM q (by omega)]
              intro _ hq
              have u1 := f k q c1 (by omega) q0 (by omega) (fun z => qk z.symm) ck.2 hq
              have u2 := f e q d1 (by omega) q0 (by omega) (fun z => qe z.symm) ce.2 hq
              rw [BitVec.and_comm, BitVec.and_or_distrib_left, BitVec.and_comm, u1, BitVec.and_comm, u2]
              rfl
            · by_cases qK : q = K
              · rw [if_neg pK, if_pos qK, qK, hL, hM p pK]
                intro hp _
                have u1 := f p k p0 (by omega) c1 (by omega) pk hp ck.2
                have u2 := f p e p0 (by omega) d1 (by omega) pe hp ce.2
                rw [BitVec.and_or_distrib_left, u1, u2]
                rfl
              · rw [if_neg pK, if_neg qK, hM p pK, hM q qK]
                exact f p q p0 (by omega) q0 (by omega) hpq
  · intro j j0 j1
    rw [f0] at j1
    by_cases q : j = K
    · subst q
      rw [hL]
      have u1 := gg k c1 (by omega)
      have u2 := gg e d1 (by omega)
      refine ⟨fun z => u1.1 ?_, fun i hi => by rw [BitVec.getLsbD_or, u1.2 i hi, u2.2 i hi]; rfl⟩
      apply BitVec.eq_of_getLsbD_eq
      intro i hi
      have := congrArg (fun y => BitVec.getLsbD y i) z
      simp only [BitVec.getLsbD_or, BitVec.getLsbD_zero, Bool.or_eq_false_iff] at this
      rw [this.1]
      simp
    · rw [hM j q]
      exact gg j j0 (by omega)
end
