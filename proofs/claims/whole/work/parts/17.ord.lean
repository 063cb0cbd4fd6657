/-! FRACTIONS: how two of them compare, lowest terms -/
theorem z_lin {a b c : Int} (h : a < b) (hc : 0 < c) : a * c < b * c := Int.mul_lt_mul_of_pos_right h hc
/-- whole parts first -/
theorem fr_lt {x y z w : Int} (y0 : 0 < y) (w0 : 0 < w) (h : x / y < z / w) : x * w < z * y := by
  have h1 := Int.mul_ediv_add_emod x y
  have h2 := Int.emod_lt_of_pos x y0
  have h3 := Int.mul_ediv_add_emod z w
  have h4 := Int.emod_nonneg z (by omega : w ≠ 0)
  have h5 : x < y * (z / w) := by
    have : y * (x / y + 1) ≤ y * (z / w) := Int.mul_le_mul_of_nonneg_left (by omega) (by omega)
    rw [Int.mul_add, Int.mul_one] at this
    omega
  have h6 := z_lin h5 w0
  have h7 : y * (z / w) * w ≤ z * y := by
    have : w * (z / w) * y ≤ z * y := Int.mul_le_mul_of_nonneg_right (by omega) (by omega)
    have e : y * (z / w) * w = w * (z / w) * y := by rw [Int.mul_comm y, Int.mul_comm w, Int.mul_assoc, Int.mul_assoc, Int.mul_comm y]
    omega
  omega
/-- like whole parts: the rests turned over -/
theorem fr_eq {x y z w : Int} (h : x / y = z / w) : x * w - z * y = x % y * w - z % w * y := by
  have h1 := Int.mul_ediv_add_emod x y
  have h3 := Int.mul_ediv_add_emod z w
  have e1 : x * w = y * (x / y) * w + x % y * w := by rw [← Int.add_mul]; rw [h1]
  have e2 : z * y = w * (z / w) * y + z % w * y := by rw [← Int.add_mul]; rw [h3]
  have e3 : y * (x / y) * w = w * (z / w) * y := by
    rw [h, Int.mul_comm y, Int.mul_comm w, Int.mul_assoc, Int.mul_assoc, Int.mul_comm y]
  omega
/-- a over b against c over d -/
def ordI (a b c d : Int) : Int := if a * d < c * b then -1 else if a * d = c * b then 0 else 1
theorem oL {a b c d : Int} (h : a * d < c * b) : ordI a b c d = -1 := if_pos h
theorem oE {a b c d : Int} (h : a * d = c * b) : ordI a b c d = 0 := by unfold ordI; rw [if_neg (by omega), if_pos h]
theorem oG {a b c d : Int} (h : c * b < a * d) : ordI a b c d = 1 := by unfold ordI; rw [if_neg (by omega), if_neg (by omega)]
theorem fr_turn {x y z w : Int} (h : x / y = z / w) : ordI x y z w = - ordI y (x % y) w (z % w) := by
  have h1 := fr_eq h
  have e1 : y * (z % w) = z % w * y := Int.mul_comm _ _
  have e2 : w * (x % y) = x % y * w := Int.mul_comm _ _
  unfold ordI
  by_cases c1 : x * w < z * y
  · rw [if_pos c1, if_neg (by omega), if_neg (by omega)]
  · by_cases c2 : x * w = z * y
    · rw [if_neg c1, if_pos c2, if_neg (by omega), if_pos (by omega)]; rfl
    · rw [if_neg c1, if_neg c2, if_pos (by omega)]; rfl
theorem fr_half {x y : Int} (y0 : 0 < y) (h : y ≤ x) : 2 * (x % y) < x := by
  have h1 := Int.mul_ediv_add_emod x y
  have h2 := Int.emod_lt_of_pos x y0
  have h3 : 1 ≤ x / y := by rw [Int.le_ediv_iff_mul_le y0]; omega
  have h4 : y * 1 ≤ y * (x / y) := Int.mul_le_mul_of_nonneg_left h3 (by omega)
  omega
/-- one turn: the rests of it are lesser -/
theorem fr_step {x y : Int} {k : Nat} (y0 : 0 < y) (h : y ≤ x) (hk : x * y < 2 ^ (k + 1)) : x % y ≤ y ∧ y * (x % y) < 2 ^ k := by
  have h1 := fr_half y0 h
  have h2 := Int.emod_lt_of_pos x y0
  refine ⟨by omega, ?_⟩
  have h3 := z_lin h1 y0
  rw [Int.pow_succ] at hk
  have e1 : 2 * (x % y) * y = 2 * (y * (x % y)) := by rw [Int.mul_assoc, Int.mul_comm (x % y)]
  omega
theorem mul_pos {a b : Int} (h1 : 0 < a) (h2 : 0 < b) : 0 < a * b := Int.mul_pos h1 h2
abbrev lR (x : Int) : Prop := x < 4611686018427387904
theorem e_order {a b c d : Int} {h : zHp} (a0 : 0 ≤ a) (a1 : lR a) (b0 : 0 < b) (b1 : b < 1099511627776) (c0 : 0 ≤ c) (c1 : lR c) (d0 : 0 < d) (d1 : lR d) : F_Mo_order [vl a, vl b, vl c, vl d] h = some (some (vi (ordI a b c d)), h) := by
  refine zMeq rfl ?_
  simp (disch := first | assumption | omega | exact zTy_0 | exact zTy_3 | exact zTy_3n | exact zTy_1 | exact zTy_B | exact zTy_b0 | exact zTy_4 | exact zEl_n | exact zEz4 | exact zEz9 | exact hz _ _ | exact hz2 _ _ | exact zI0 | exact zI1 | exact zI2 | exact zI3 | exact zI4 | exact zI5 | exact zI6 | exact zI7 | exact zI8 | exact zI9 | exact zI10 | (simp only [zl_21, zl_22, zs_2, ne_eq]; omega) | ((repeat (refine Eq.trans (us_r (by decide)) ?_)); assumption) | ((simp (decide := true) only [us_k, us_s]); omega)) only [↓rKi, ↓rKl, ↓rKn, ↓rKd, ↓rL, ↓r2, ↓r1, ↓rC2, ↓rC1, ↓rCn, ↓rNot, ↓rAnd, ↓rOr, ↓rCi, ↓rBx, ↓rIte, ↓rGf, ↓rLen, ↓rAx, ↓rNa, ↓rA0, ↓rA1, ↓rCs, ↓rCv, ↓rAn, ↓rNew, ↓rSeq, ↓rSkip, ↓rBrk, ↓rCnt, ↓rRetV, ↓rAsg, ↓rRet, ↓rIf, ↓rPf, ↓rPfo, ↓rAs, ↓rAso, ↓rDo, ↓rObj, ↓rBl, ↓rSw, ↓rCopy, ↓zSq_0, ↓zSq_r, ↓zSq_1, ↓zSq_2, ↓zBq_l, ↓zBq_r, ↓zWq_0, ↓zWq_1, ↓zWq_2, ↓zWq_r, ↓zLo_0, ↓zLo_1, ↓zLo_2, ↓zLo_r, ↓zLt_0, ↓rTr, ↓zFin_s, ↓zFin_n, wX_r, wO_s, wI_t, wI_f, zLk_0, zLk_s, zTv_vi, zTv_vb, zTv_vl, zTv_d, zTv_r, zTv_n, zTv_4, zTo_s, zCl_n, zCl_0, zCl_s, Int32.reduceToInt, Int64.reduceToInt, e_add, e_sub, e_mul, e_neg, e_ladd, e_lsub, e_lmul, e_lneg, q_0, q_1, q_2, q_3, q_4, q_5, q_b0, q_b1, p_0, p_1, p_2, p_3, p_4, p_5, p_b0, p_b1, e_lcmp, pl_0, pl_1, pl_2, pl_3, pl_4, pl_5, e_i2l, e_l2i, e_idiv, e_irem, e_ldiv, e_lrem, List.set_cons_zero, List.set_cons_succ, List.getD_cons_zero, List.getD_cons_succ, List.getD_nil, dT, dF, decide_true, decide_false, not_true_eq_false, not_false_eq_true, Bool.not_true, Bool.not_false, zLay_1, zLay_c1, zLay_c2, zLay_n, zWds_n, zWds_c, zCat_0, zCat_1, zCat_3, zCat_4, zLay_4, List.nil_append, List.cons_append, List.replicate_succ, List.replicate_zero, zTy_0, zTy_b0, zTy_1, zTy_3, zTy_3n, zTy_4, and_true, true_and, Option.bind_some, zNul_n, zNul_r, List.getElem?_cons_zero, List.getElem?_cons_succ, Int.add_zero, zTv_B, zTy_B, b_and, b_or, b_andn, b_not, b_shl, b_cmp, b_cmp0, b_cmp0l, b_eq0, b_eq1, zs_2, zl_21, zl_22, gf_s, gf_l, pf_s, pf_l, zl_z, zs_z, nA, and_self, Nat.le_refl, Option.some.injEq, eq_self, Nat.reduceAdd, Nat.reduceSub, S_Mo_order, L_Mo_order_0]
  refine wLp (fun k env h1 => h1 = h ∧ ∃ x y z w sg : Int, env = [vl a, .null, vl b, .null, vl c, .null, vl d, .null, vl x, .null, vl y, .null, vl z, .null, vl w, .null, vi sg, .null, .null, .null, .null] ∧ (0 ≤ x ∧ lR x) ∧ (0 < y ∧ y < 1099511627776) ∧ (0 ≤ z ∧ lR z) ∧ (0 < w ∧ lR w) ∧ (sg = 1 ∨ sg = -1) ∧ ordI a b c d = sg * ordI x y z w ∧ (k = 101 ∨ (y ≤ x ∧ x * y < 2 ^ k))) 101 (by decide) ⟨rfl, a, b, c, d, 1, rfl, ⟨a0, a1⟩, ⟨b0, b1⟩, ⟨c0, c1⟩, ⟨d0, d1⟩, Or.inl rfl, by omega, Or.inl rfl⟩ ?_ ?_
  · intro env h1 ⟨_, x, y, z, w, sg, _, hx, hy, _, _, _, _, hk⟩
    have := mul_pos (a := x) (b := y)
    rcases hk with hk | ⟨h2, h3⟩
    · omega
    · have := this (by omega) (by omega)
      simp at h3
      omega
  · intro k env h1 ⟨hh, x, y, z, w, sg, he, hx, hy, hz, hw, hs, ho, hk⟩
    subst hh
    subst he
    have q1 := Int.ediv_le_self y hx.1
    have q2 := Int.ediv_nonneg hx.1 (Int.le_of_lt hy.1)
    have q3 := Int.ediv_le_self w hz.1
    have q4 := Int.ediv_nonneg hz.1 (Int.le_of_lt hw.1)
    have p1 := Int.emod_nonneg x (by omega : y ≠ 0)
    have p2 := Int.emod_lt_of_pos x hy.1
    have p3 := Int.emod_nonneg z (by omega : w ≠ 0)
    have p4 := Int.emod_lt_of_pos z hw.1
    have f1 := @fr_lt x y z w hy.1 hw.1
    have f2 := @fr_lt z w x y hw.1 hy.1
    have f3 := @fr_eq x y z w
    have g1 := mul_pos (a := x % y) (b := w)
    have g2 := mul_pos (a := z % w) (b := y)
    have f4 : x / y = z / w → x % y = 0 → z % w = 0 → x * w = z * y := fun q1 q2 q3 => by have := f3 q1; rw [q2, q3, Int.zero_mul, Int.zero_mul] at this; omega
    have f5 : x / y = z / w → x % y = 0 → 0 < z % w → x * w < z * y := fun q1 q2 q3 => by have := f3 q1; rw [q2, Int.zero_mul] at this; have := g2 q3 hy.1; omega
    have f6 : x / y = z / w → 0 < x % y → z % w = 0 → z * y < x * w := fun q1 q2 q3 => by have := f3 q1; rw [q3, Int.zero_mul] at this; have := g1 q2 hw.1; omega
    (simp (disch := first | assumption | omega | exact zTy_0 | exact zTy_3 | exact zTy_3n | exact zTy_1 | exact zTy_B | exact zTy_b0 | exact zTy_4 | exact zEl_n | exact zEz4 | exact zEz9 | exact hz _ _ | exact hz2 _ _ | exact zI0 | exact zI1 | exact zI2 | exact zI3 | exact zI4 | exact zI5 | exact zI6 | exact zI7 | exact zI8 | exact zI9 | exact zI10 | (simp only [zl_21, zl_22, zs_2, ne_eq]; omega) | ((repeat (refine Eq.trans (us_r (by decide)) ?_)); assumption) | ((simp (decide := true) only [us_k, us_s]); omega)) only [↓rKi, ↓rKl, ↓rKn, ↓rKd, ↓rL, ↓r2, ↓r1, ↓rC2, ↓rC1, ↓rCn, ↓rNot, ↓rAnd, ↓rOr, ↓rCi, ↓rBx, ↓rIte, ↓rGf, ↓rLen, ↓rAx, ↓rNa, ↓rA0, ↓rA1, ↓rCs, ↓rCv, ↓rAn, ↓rNew, ↓rSeq, ↓rSkip, ↓rBrk, ↓rCnt, ↓rRetV, ↓rAsg, ↓rRet, ↓rIf, ↓rPf, ↓rPfo, ↓rAs, ↓rAso, ↓rDo, ↓rObj, ↓rBl, ↓rSw, ↓rCopy, ↓zSq_0, ↓zSq_r, ↓zSq_1, ↓zSq_2, ↓zBq_l, ↓zBq_r, ↓zWq_0, ↓zWq_1, ↓zWq_2, ↓zWq_r, ↓zLo_0, ↓zLo_1, ↓zLo_2, ↓zLo_r, ↓zLt_0, ↓rTr, ↓zFin_s, ↓zFin_n, wX_r, wO_s, wI_t, wI_f, zLk_0, zLk_s, zTv_vi, zTv_vb, zTv_vl, zTv_d, zTv_r, zTv_n, zTv_4, zTo_s, zCl_n, zCl_0, zCl_s, Int32.reduceToInt, Int64.reduceToInt, e_add, e_sub, e_mul, e_neg, e_ladd, e_lsub, e_lmul, e_lneg, q_0, q_1, q_2, q_3, q_4, q_5, q_b0, q_b1, p_0, p_1, p_2, p_3, p_4, p_5, p_b0, p_b1, e_lcmp, pl_0, pl_1, pl_2, pl_3, pl_4, pl_5, e_i2l, e_l2i, e_idiv, e_irem, e_ldiv, e_lrem, List.set_cons_zero, List.set_cons_succ, List.getD_cons_zero, List.getD_cons_succ, List.getD_nil, dT, dF, decide_true, decide_false, not_true_eq_false, not_false_eq_true, Bool.not_true, Bool.not_false, zLay_1, zLay_c1, zLay_c2, zLay_n, zWds_n, zWds_c, zCat_0, zCat_1, zCat_3, zCat_4, zLay_4, List.nil_append, List.cons_append, List.replicate_succ, List.replicate_zero, zTy_0, zTy_b0, zTy_1, zTy_3, zTy_3n, zTy_4, and_true, true_and, Option.bind_some, zNul_n, zNul_r, List.getElem?_cons_zero, List.getElem?_cons_succ, Int.add_zero, zTv_B, zTy_B, b_and, b_or, b_andn, b_not, b_shl, b_cmp, b_cmp0, b_cmp0l, b_eq0, b_eq1, zs_2, zl_21, zl_22, gf_s, gf_l, pf_s, pf_l, zl_z, zs_z, nA, and_self, Nat.le_refl, Option.some.injEq, eq_self, Nat.reduceAdd, Nat.reduceSub, C_Mo_order_0, B_Mo_order_0, T_Mo_order_0]; repeat' ((refine wI_i ?_ ?_ <;> intro hc <;> (try simp only [decide_eq_true_eq, decide_eq_false_iff_not, Bool.not_eq_true', Bool.not_eq_false', Bool.not_eq_true, Bool.not_eq_false, decide_eq_true_eq, decide_eq_false_iff_not, bne_iff_ne, beq_iff_eq, bne_eq_false_iff_eq, beq_eq_false_iff_ne, decide_eq_decide, Classical.not_not, Int.not_lt, Int.not_le, ne_eq] at hc) <;> dsimp only) <;> (try simp (disch := first | assumption | omega | exact zTy_0 | exact zTy_3 | exact zTy_3n | exact zTy_1 | exact zTy_B | exact zTy_b0 | exact zTy_4 | exact zEl_n | exact zEz4 | exact zEz9 | exact hz _ _ | exact hz2 _ _ | exact zI0 | exact zI1 | exact zI2 | exact zI3 | exact zI4 | exact zI5 | exact zI6 | exact zI7 | exact zI8 | exact zI9 | exact zI10 | (simp only [zl_21, zl_22, zs_2, ne_eq]; omega) | ((repeat (refine Eq.trans (us_r (by decide)) ?_)); assumption) | ((simp (decide := true) only [us_k, us_s]); omega)) only [↓rKi, ↓rKl, ↓rKn, ↓rKd, ↓rL, ↓r2, ↓r1, ↓rC2, ↓rC1, ↓rCn, ↓rNot, ↓rAnd, ↓rOr, ↓rCi, ↓rBx, ↓rIte, ↓rGf, ↓rLen, ↓rAx, ↓rNa, ↓rA0, ↓rA1, ↓rCs, ↓rCv, ↓rAn, ↓rNew, ↓rSeq, ↓rSkip, ↓rBrk, ↓rCnt, ↓rRetV, ↓rAsg, ↓rRet, ↓rIf, ↓rPf, ↓rPfo, ↓rAs, ↓rAso, ↓rDo, ↓rObj, ↓rBl, ↓rSw, ↓rCopy, ↓zSq_0, ↓zSq_r, ↓zSq_1, ↓zSq_2, ↓zBq_l, ↓zBq_r, ↓zWq_0, ↓zWq_1, ↓zWq_2, ↓zWq_r, ↓zLo_0, ↓zLo_1, ↓zLo_2, ↓zLo_r, ↓zLt_0, ↓rTr, ↓zFin_s, ↓zFin_n, wX_r, wO_s, wI_t, wI_f, zLk_0, zLk_s, zTv_vi, zTv_vb, zTv_vl, zTv_d, zTv_r, zTv_n, zTv_4, zTo_s, zCl_n, zCl_0, zCl_s, Int32.reduceToInt, Int64.reduceToInt, e_add, e_sub, e_mul, e_neg, e_ladd, e_lsub, e_lmul, e_lneg, q_0, q_1, q_2, q_3, q_4, q_5, q_b0, q_b1, p_0, p_1, p_2, p_3, p_4, p_5, p_b0, p_b1, e_lcmp, pl_0, pl_1, pl_2, pl_3, pl_4, pl_5, e_i2l, e_l2i, e_idiv, e_irem, e_ldiv, e_lrem, List.set_cons_zero, List.set_cons_succ, List.getD_cons_zero, List.getD_cons_succ, List.getD_nil, dT, dF, decide_true, decide_false, not_true_eq_false, not_false_eq_true, Bool.not_true, Bool.not_false, zLay_1, zLay_c1, zLay_c2, zLay_n, zWds_n, zWds_c, zCat_0, zCat_1, zCat_3, zCat_4, zLay_4, List.nil_append, List.cons_append, List.replicate_succ, List.replicate_zero, zTy_0, zTy_b0, zTy_1, zTy_3, zTy_3n, zTy_4, and_true, true_and, Option.bind_some, zNul_n, zNul_r, List.getElem?_cons_zero, List.getElem?_cons_succ, Int.add_zero, zTv_B, zTy_B, b_and, b_or, b_andn, b_not, b_shl, b_cmp, b_cmp0, b_cmp0l, b_eq0, b_eq1, zs_2, zl_21, zl_22, gf_s, gf_l, pf_s, pf_l, zl_z, zs_z, nA, and_self, Nat.le_refl, Option.some.injEq, eq_self, Nat.reduceAdd, Nat.reduceSub, C_Mo_order_0, B_Mo_order_0, T_Mo_order_0])))
    all_goals first
      | (rw [ho, oL (f1 (by omega))]; refine congrArg vi ?_; omega)
      | (rw [ho, oG (f2 (by omega))]; refine congrArg vi ?_; omega)
      | (rw [ho, oE (f4 (by omega) (by omega) (by omega))]; refine congrArg vi ?_; omega)
      | (rw [ho, oL (f5 (by omega) (by omega) (by omega))]; refine congrArg vi ?_; omega)
      | (rw [ho, oG (f6 (by omega) (by omega) (by omega))]; refine congrArg vi ?_; omega)
      | skip
    refine ⟨y, x % y, w, z % w, -sg, rfl, ⟨by omega, by omega⟩, ⟨by omega, by omega⟩, ⟨by omega, by omega⟩, ⟨by omega, by omega⟩, by omega, ?_, Or.inr ?_⟩
    · rw [ho, fr_turn (by omega), Int.mul_neg, Int.neg_mul]
    · rcases hk with hk | ⟨h2, h3⟩
      · refine ⟨by omega, ?_⟩
        have e : k = 100 := by omega
        subst e
        have q5 : y * (x % y) < y * y := Int.mul_lt_mul_of_pos_left (by omega) hy.1
        have q6 : y * y < 1099511627776 * 1099511627776 := by
          have q7 : y * y ≤ 1099511627776 * y := Int.mul_le_mul_of_nonneg_right (by omega) (by omega)
          omega
        have q8 : (2 : Int) ^ 100 = 1099511627776 * 1152921504606846976 := by decide
        omega
      · exact fr_step hy.1 h2 h3
