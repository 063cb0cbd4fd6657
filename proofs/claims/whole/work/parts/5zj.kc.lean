/-! how many stand in a cut -/
theorem cnt_all {P : Int → Bool} : ∀ n : Nat, (∀ i : Int, 0 ≤ i → i < n → P i = true) → cnt P n = n
  | 0, _ => rfl
  | n + 1, h => by
    have e := cnt_s (P := P) (show (0 : Int) ≤ (n : Int) by omega)
    rw [show ((n + 1 : Nat) : Int) = (n : Int) + 1 by omega, e, cnt_all n fun i a b => h i a (by omega), h n (by omega) (by omega)]
    simp
theorem cnt_u {P P' : Int → Bool} {x k : Int} (x0 : 0 ≤ x) (x1 : x < k) (h : ∀ i, 0 ≤ i → i < k → i ≠ x → P' i = P i) : cnt P' k = cnt P k + ((if P' x = true then 1 else 0) - (if P x = true then 1 else 0)) := by
  unfold cnt
  refine isum_set (f := fun e => if P e = true then 1 else 0) (g := fun e => if P' e = true then 1 else 0) x0 (by omega) (fun i i0 i1 hn => ?_) rfl
  show (if P' i = true then (1 : Int) else 0) = (if P i = true then 1 else 0)
  rw [h i i0 (by omega) hn]
theorem cnt_ex {P P' : Int → Bool} {k : Int} (h : ∀ i, 0 ≤ i → i < k → P' i = P i) : cnt P' k = cnt P k := by
  unfold cnt
  refine isum_ext fun i i0 i1 => ?_
  rw [h i i0 (by omega)]
theorem stB_i {gh : Nat → Int → Int} {u k : Int} : stB gh u true k = true ↔ gh 2 k < u ∧ (u ≤ gh 3 k ∨ gh 1 k = -1) := by
  unfold stB
  simp
theorem stB_f {gh : Nat → Int → Int} {u k : Int} : stB gh u true k = false ↔ ¬ (gh 2 k < u ∧ (u ≤ gh 3 k ∨ gh 1 k = -1)) := by
  rw [← stB_i, Bool.not_eq_true]
section
variable {n : Nat} {T gh : Nat → Int → Int} {L : Int → BitVec 64} {J : Int → Int}
theorem std_cnt (tf : TF n T gh L J) : ∀ v : Nat, v ≤ n → cnt (stB gh (v : Int) true) (T 0 10) = n - jn T v
  | 0, _ => by
    have nn := tf_n tf
    have e : cnt (stB gh ((0 : Nat) : Int) true) n = n := cnt_all n fun i i0 i1 => stB_i.mpr ⟨by have := (tf_leaf tf i0 i1).2.2.1; omega, Or.inl (by have := (tf_went tf i0 (by omega)).1.1; omega)⟩
    have e2 : cnt (stB gh ((0 : Nat) : Int) true) (T 0 10) = cnt (stB gh ((0 : Nat) : Int) true) n := cnt_eq (by omega) nn.2.1.1 fun i i0 i1 => stB_f.mpr fun z => by
      have := (tf_join tf i0 i1).2.1.1.1
      have := z.1
      omega
    rw [e2, e]
    show (n : Int) = n - 0
    omega
  | v + 1, hv => by
    have nn := tf_n tf
    have ih := std_cnt tf v (by omega)
    have es := jn_s (s := T) (show (0 : Int) ≤ (v : Int) by omega)
    rw [show ((v + 1 : Nat) : Int) = (v : Int) + 1 by omega, es]
    obtain ⟨⟨⟨a0, a1⟩, a2⟩, h⟩ := tf_step tf (u := (v : Int)) (by omega) (by omega)
    have k2 : ∀ k, 0 ≤ k → k < T 0 10 → gh 0 (v : Int) ≠ k → gh 2 k ≠ (v : Int) := fun k k0 k1 hn z => by
      by_cases c : k < n
      · have := (tf_leaf tf k0 c).2.2.1
        omega
      · have := (tf_join tf (k := k) (by omega) k1).2.1.2.2.2
        rw [z] at this
        exact hn this
    have k3 : ∀ k, 0 ≤ k → k < T 0 10 → T 9 (v : Int) ≠ k → T 10 (v : Int) ≠ k → gh 3 k ≠ (v : Int) := fun k k0 k1 h1 h2 z => by
      have := (tf_went tf k0 k1).2.1
      rw [z] at this
      rcases this with q | q
      · exact h1 q
      · exact h2 q
    have up : ∀ k, 0 ≤ k → k < T 0 10 → gh 3 k = (v : Int) → gh 1 k = gh 0 (v : Int) := fun k k0 k1 z => by
      have := (tf_went tf k0 k1).2.2
      rw [z] at this
      exact this
    rcases h with ⟨e1, e2⟩ | ⟨⟨⟨b0, b1⟩, b2, b3⟩, w1, w2, w3, w4, w5, -, -⟩
    · rw [if_pos e1, Int.add_zero, ← ih]
      refine cnt_ex fun k k0 k1 => ?_
      have n2 := k2 k k0 k1 (by omega)
      have u1 := up k k0 k1
      rw [e2] at u1
      rw [Bool.eq_iff_iff, stB_i, stB_i]
      by_cases z : gh 3 k = (v : Int)
      · have := u1 z
        omega
      · omega
    · have ne : ¬ T 10 (v : Int) = -1 := by omega
      rw [if_neg ne]
      generalize hw : gh 0 (v : Int) = w at *
      generalize ha : T 9 (v : Int) = a at *
      generalize hb : T 10 (v : Int) = b at *
      have low : ∀ k, 0 ≤ k → k < w → k < T 0 10 → gh 2 k < (v : Int) := fun k k0 k1 kK => by
        by_cases c : k < n
        · have := (tf_leaf tf k0 c).2.2.1
          omega
        · obtain ⟨y1, y2, y3, y4⟩ := (tf_join tf (k := k) (by omega) kK).2.1
          have y5 := tf_step tf y1.1 y1.2
          rcases y5.2 with q | q
          · omega
          · have q2 := q.2.1
            rw [y4] at q2
            by_cases z : gh 2 k < (v : Int)
            · exact z
            · have := jn_mono (s := T) (u := (v : Int)) (v := gh 2 k) (by omega) (by omega)
              omega
      have Pa : stB gh (v : Int) true a = true := stB_i.mpr ⟨low a a0 w3 a1, Or.inl (by omega)⟩
      have Pb : stB gh (v : Int) true b = true := stB_i.mpr ⟨low b b0 w4 b1, Or.inl (by omega)⟩
      have Pw : stB gh (v : Int) true w = false := stB_f.mpr fun z => by omega
      have Qa : stB gh ((v : Int) + 1) true a = false := stB_f.mpr fun z => by
        have := up a a0 a1 a2
        omega
      have Qb : stB gh ((v : Int) + 1) true b = false := stB_f.mpr fun z => by
        have := up b b0 b1 b2
        omega
      have Qw : stB gh ((v : Int) + 1) true w = true := stB_i.mpr ⟨by omega, by
        have y := tf_went tf (k := w) (by omega) w2
        have y2 := (tf_step tf y.1.1 y.1.2)
        by_cases z : gh 1 w = -1
        · exact Or.inr z
        · refine Or.inl ?_
          rcases y2.2 with q | q
          · exact absurd (y.2.2.trans q.2) z
          · have q1 := q.2.1
            have q3 := q.2.2.2.1
            have q4 := q.2.2.2.2.1
            have lt : w < gh 0 (gh 3 w) := by rcases y.2.1 with q5 | q5 <;> omega
            by_cases z2 : (v : Int) + 1 ≤ gh 3 w
            · exact z2
            · have := jn_mono (s := T) (u := gh 3 w) (v := (v : Int)) y.1.1 (by omega)
              omega⟩
      let P1 : Int → Bool := fun k => if k = a then false else stB gh (v : Int) true k
      let P2 : Int → Bool := fun k => if k = b then false else P1 k
      have c1 := cnt_u (P := stB gh (v : Int) true) (P' := P1) a0 a1 (fun i _ _ hn => if_neg hn)
      have c2 := cnt_u (P := P1) (P' := P2) b0 b1 (fun i _ _ hn => if_neg hn)
      have c3 := cnt_u (P := P2) (P' := stB gh ((v : Int) + 1) true) (x := w) (k := T 0 10) (by omega) w2 (fun i i0 i1 hn => by
        show _ = (if i = b then false else if i = a then false else stB gh (v : Int) true i)
        by_cases z1 : i = b
        · rw [if_pos z1, z1]; exact Qb
        · rw [if_neg z1]
          by_cases z2 : i = a
          · rw [if_pos z2, z2]; exact Qa
          · rw [if_neg z2, Bool.eq_iff_iff, stB_i, stB_i]
            have n2 := k2 i i0 i1 (fun z => hn z.symm)
            have n3 := k3 i i0 i1 (fun z => z2 z.symm) (fun z => z1 z.symm)
            omega)
      have f1 : P1 a = false := if_pos rfl
      have f2 : P1 b = true := (if_neg (fun z => b3 z.symm)).trans Pb
      have f3 : P2 b = false := if_pos rfl
      have f4 : P2 w = false := (if_neg (by omega)).trans ((if_neg (by omega)).trans Pw)
      rw [f1, Pa] at c1
      rw [f2, f3] at c2
      rw [f4, Qw] at c3
      simp only [Bool.false_eq_true, if_false, if_true] at c1 c2 c3
      omega
theorem std_n (tf : TF n T gh L J) {v : Int} (v0 : 0 ≤ v) (v1 : v ≤ n) : ∃ N : Nat, cnt (stB gh v true) (T 0 10) = N ∧ 1 ≤ N ∧ N ≤ n := by
  have e := std_cnt tf v.toNat (by omega)
  rw [show ((v.toNat : Nat) : Int) = v by omega] at e
  have nn := tf_n tf
  have nj := tf_jets tf
  have n1 : 1 ≤ n := tf.2.2.2.1
  have m1 := jn_mono (s := T) v0 v1
  have m2 := jn_nn (s := T) (u := v)
  have nj1 := nj.2.2 n1
  exact ⟨(n - jn T v).toNat, by omega, by omega, by omega⟩
theorem StV_ext {T' : Nat → Int → Int} (h : agr n T T') {q v : Int} (hv : StV n T q v) : StV n T' q v := by
  have e : ∀ w : Int, w ≤ n → jn T' w = jn T w := fun w hw => jn_ext fun u u0 u1 => h.2.2 10 u (by decide) (by decide) u0 (by omega)
  rcases hv with ⟨a, b, c⟩ | ⟨a, b⟩
  · refine Or.inl ⟨a, by rw [e v a.2]; exact b, fun w w0 w1 => by rw [e w (by omega)]; exact c w w0 w1⟩
  · refine Or.inr ⟨a, fun w w0 w1 => by rw [e w w1]; exact b w w0 w1⟩
end
