/-! the lowest bit; how many bits -/
theorem n_low : ∀ v : Nat, v ≠ 0 → ∃ i q : Nat, v = 2 ^ i * (2 * q + 1) := by
  intro v
  induction v using Nat.strongRecOn with
  | ind v ih =>
    intro h
    by_cases c : v % 2 = 1
    · exact ⟨0, v / 2, by omega⟩
    · obtain ⟨i, q, e⟩ := ih (v / 2) (by omega) (by omega)
      refine ⟨i + 1, q, ?_⟩
      rw [Nat.pow_succ, Nat.mul_right_comm, ← e]
      omega
theorem n_lowb {v i q : Nat} (e : v = 2 ^ i * (2 * q + 1)) : v.testBit i = true ∧ (∀ j, j < i → v.testBit j = false) ∧ ∀ j, (v.testBit j && (v - 1).testBit j) = (v.testBit j && decide (j ≠ i)) := by
  have p : 0 < 2 ^ i := Nat.two_pow_pos i
  have e0 : v = 2 ^ i * (2 * q + 1) + 0 := e
  have e1 : v - 1 = 2 ^ i * (2 * q) + (2 ^ i - 1) := by
    have : 2 ^ i * (2 * q + 1) = 2 ^ i * (2 * q) + 2 ^ i := by rw [Nat.mul_add, Nat.mul_one]
    omega
  have t0 : ∀ j, v.testBit j = if j < i then false else (2 * q + 1).testBit (j - i) := fun j => by
    rw [e0, Nat.testBit_two_pow_mul_add _ p]
    split
    · exact Nat.zero_testBit j
    · rfl
  have t1 : ∀ j, (v - 1).testBit j = if j < i then (2 ^ i - 1).testBit j else (2 * q).testBit (j - i) := fun j => by
    rw [e1, Nat.testBit_two_pow_mul_add _ (by omega)]
  refine ⟨?_, fun j hj => by rw [t0, if_pos hj], fun j => ?_⟩
  · rw [t0, if_neg (by omega), Nat.sub_self, Nat.testBit_zero]
    exact decide_eq_true (by omega)
  · rw [t0, t1]
    by_cases c : j < i
    · rw [if_pos c, Bool.false_and, Bool.false_and]
    · rw [if_neg c, if_neg c]
      by_cases d : j = i
      · subst d
        rw [Nat.sub_self, Nat.testBit_zero, Nat.testBit_zero]
        have : (2 * q) % 2 = 0 := by omega
        simp [this]
      · obtain ⟨k, hk⟩ : ∃ k, j - i = k + 1 := ⟨j - i - 1, by omega⟩
        rw [hk, Nat.testBit_succ, Nat.testBit_succ, show (2 * q + 1) / 2 = q by omega, show 2 * q / 2 = q by omega, Bool.and_self, decide_eq_true d, Bool.and_true]
theorem b_low {x : BitVec 64} (h : x ≠ 0#64) : ∃ i : Int, (0 ≤ i ∧ i < 64) ∧ bHas x i = true ∧ (∀ j, j < i → bHas x j = false) ∧ ∀ j, bHas (x &&& (x - 1#64)) j = (bHas x j && decide (j ≠ i)) := by
  have hn : x.toNat ≠ 0 := fun z => h (BitVec.eq_of_toNat_eq (by rw [z]; rfl))
  obtain ⟨i, q, e⟩ := n_low x.toNat hn
  obtain ⟨b1, b2, b3⟩ := n_lowb e
  have s1 : (x - 1#64).toNat = x.toNat - 1 := by
    rw [BitVec.toNat_sub]
    have := x.isLt
    show (2 ^ 64 - 1 + x.toNat) % 2 ^ 64 = _
    omega
  have i64 : i < 64 := by
    by_cases z : i < 64
    · exact z
    · have : x.toNat.testBit i = false := Nat.testBit_lt_two_pow (Nat.lt_of_lt_of_le x.isLt (Nat.pow_le_pow_right (by decide) (by omega)))
      rw [this] at b1
      exact absurd b1 (by decide)
  have g : ∀ (y : BitVec 64) (j : Int), bHas y j = (decide (0 ≤ j) && y.toNat.testBit j.toNat) := fun _ _ => rfl
  refine ⟨i, ⟨by omega, by omega⟩, ?_, fun j hj => ?_, fun j => ?_⟩
  · rw [g, decide_eq_true (by omega), Bool.true_and]
    exact b1
  · rw [g]
    by_cases z : 0 ≤ j
    · rw [b2 j.toNat (by omega), Bool.and_false]
    · rw [decide_eq_false z, Bool.false_and]
  · rw [bHas_and, g, g, s1]
    by_cases z : 0 ≤ j
    · rw [decide_eq_true z, Bool.true_and, Bool.true_and, b3]
      congr 1
      exact decide_eq_decide.mpr (by omega)
    · rw [decide_eq_false z, Bool.false_and, Bool.false_and, Bool.false_and]
theorem pc_low {x : BitVec 64} (h : x ≠ 0#64) : pc (x &&& (x - 1#64)) = pc x - 1 := by
  obtain ⟨i, ⟨i0, i1⟩, hi, -, hb⟩ := b_low h
  have e := isum_set (f := fun j => if bHas x j = true then 1 else 0) (g := fun j => if bHas (x &&& (x - 1#64)) j = true then 1 else 0) (x := i) (v := 0) (n := 64) i0 i1 (fun j _ _ hn => by
    show (if bHas (x &&& (x - 1#64)) j = true then (1 : Int) else 0) = (if bHas x j = true then 1 else 0)
    rw [hb, decide_eq_true hn, Bool.and_true]) (by
    show (if bHas (x &&& (x - 1#64)) i = true then (1 : Int) else 0) = 0
    rw [hb, decide_eq_false (fun z => z rfl), Bool.and_false]
    rfl)
  unfold pc
  rw [e]
  show _ + (0 - (if bHas x i = true then (1 : Int) else 0)) = _
  rw [hi]
  show _ + (0 - 1) = _ - 1
  omega
section
variable {h : zHp}
theorem u_and {a b : BitVec 64} : oL2 (fun x y => x &&& y) (vB a) (vB b) = some (vB (a &&& b)) := rfl
theorem pc_64 {x : BitVec 64} : pc x ≤ 64 := pc_le (m := 64) (by decide) (fun i hi => bHas_ge (by omega))
theorem m_many {S : BitVec 64} : F_Mo_many [vB S] h = some (some (vi (pc S)), h) := by
  have p0 := pc_nn (x := S)
  have p1 := pc_64 (x := S)
  refine zMeq rfl ?_
  simp (disch := first | assumption | omega | exact zTy_0 | exact zTy_3 | exact zTy_3n | exact zTy_1 | exact zTy_B | exact zTy_b0 | exact zTy_4 | exact zEl_n | exact zEz4 | exact zEz9 | exact hz _ _ | exact hz2 _ _ | exact zI0 | exact zI1 | exact zI2 | exact zI3 | exact zI4 | exact zI5 | exact zI6 | exact zI7 | exact zI8 | exact zI9 | exact zI10 | (simp only [zl_21, zl_22, zs_2, ne_eq]; omega) | ((repeat (refine Eq.trans (us_r (by decide)) ?_)); assumption) | ((simp (decide := true) only [us_k, us_s]); omega)) only [↓rKi, ↓rKl, ↓rKn, ↓rKd, ↓rL, ↓r2, ↓r1, ↓rC2, ↓rC1, ↓rCn, ↓rNot, ↓rAnd, ↓rOr, ↓rCi, ↓rBx, ↓rIte, ↓rGf, ↓rLen, ↓rAx, ↓rNa, ↓rA0, ↓rA1, ↓rCs, ↓rCv, ↓rAn, ↓rNew, ↓rSeq, ↓rSkip, ↓rBrk, ↓rCnt, ↓rRetV, ↓rAsg, ↓rRet, ↓rIf, ↓rPf, ↓rPfo, ↓rAs, ↓rAso, ↓rDo, ↓rObj, ↓rBl, ↓rSw, ↓rCopy, ↓zSq_0, ↓zSq_r, ↓zSq_1, ↓zSq_2, ↓zBq_l, ↓zBq_r, ↓zWq_0, ↓zWq_1, ↓zWq_2, ↓zWq_r, ↓zLo_0, ↓zLo_1, ↓zLo_2, ↓zLo_r, ↓zLt_0, ↓rTr, ↓zFin_s, ↓zFin_n, wX_r, wO_s, wI_t, wI_f, zLk_0, zLk_s, zTv_vi, zTv_vb, zTv_vl, zTv_d, zTv_r, zTv_n, zTv_4, zTo_s, zCl_n, zCl_0, zCl_s, Int32.reduceToInt, Int64.reduceToInt, e_add, e_sub, e_mul, e_neg, e_ladd, e_lsub, e_lmul, e_lneg, q_0, q_1, q_2, q_3, q_4, q_5, q_b0, q_b1, p_0, p_1, p_2, p_3, p_4, p_5, p_b0, p_b1, e_lcmp, pl_0, pl_1, pl_2, pl_3, pl_4, pl_5, e_i2l, e_l2i, e_idiv, e_irem, e_ldiv, e_lrem, List.set_cons_zero, List.set_cons_succ, List.getD_cons_zero, List.getD_cons_succ, List.getD_nil, dT, dF, decide_true, decide_false, not_true_eq_false, not_false_eq_true, Bool.not_true, Bool.not_false, zLay_1, zLay_c1, zLay_c2, zLay_n, zWds_n, zWds_c, zCat_0, zCat_1, zCat_3, zCat_4, zLay_4, List.nil_append, List.cons_append, List.replicate_succ, List.replicate_zero, zTy_0, zTy_b0, zTy_1, zTy_3, zTy_3n, zTy_4, and_true, true_and, Option.bind_some, zNul_n, zNul_r, List.getElem?_cons_zero, List.getElem?_cons_succ, Int.add_zero, zTv_B, zTy_B, b_and, b_or, b_andn, b_not, b_shl, b_cmp, b_cmp0, b_cmp0l, b_eq0, b_eq1, zs_2, zl_21, zl_22, gf_s, gf_l, pf_s, pf_l, zl_z, zs_z, nA, and_self, Nat.le_refl, Option.some.injEq, eq_self, Nat.reduceAdd, Nat.reduceSub, S_Mo_many, L_Mo_many_0]
  refine wLp (fun K env h' => h' = h ∧ ∃ (x : BitVec 64), env = [vB S, .null, vi (pc S - pc x), vB x, .null] ∧ (0 ≤ pc x ∧ pc x ≤ pc S) ∧ pc x + 1 = K) ((pc S).toNat + 1) (by omega) ⟨rfl, S, by rw [Int.sub_self], by omega, by omega⟩ ?_ ?_
  · intro env h' ⟨hh, x, he, hx, hK⟩
    omega
  · intro K env h' ⟨hh, x, he, hx', hK⟩
    subst hh
    subst he
    by_cases z : x = 0#64
    · have nz : ¬ ¬ x = 0#64 := fun y => y z
      have : pc x = 0 := by rw [z]; decide +kernel
      simp (disch := first | assumption | omega | exact zTy_0 | exact zTy_3 | exact zTy_3n | exact zTy_1 | exact zTy_B | exact zTy_b0 | exact zTy_4 | exact zEl_n | exact zEz4 | exact zEz9 | exact hz _ _ | exact hz2 _ _ | exact zI0 | exact zI1 | exact zI2 | exact zI3 | exact zI4 | exact zI5 | exact zI6 | exact zI7 | exact zI8 | exact zI9 | exact zI10 | (simp only [zl_21, zl_22, zs_2, ne_eq]; omega) | ((repeat (refine Eq.trans (us_r (by decide)) ?_)); assumption) | ((simp (decide := true) only [us_k, us_s]); omega)) only [↓rKi, ↓rKl, ↓rKn, ↓rKd, ↓rL, ↓r2, ↓r1, ↓rC2, ↓rC1, ↓rCn, ↓rNot, ↓rAnd, ↓rOr, ↓rCi, ↓rBx, ↓rIte, ↓rGf, ↓rLen, ↓rAx, ↓rNa, ↓rA0, ↓rA1, ↓rCs, ↓rCv, ↓rAn, ↓rNew, ↓rSeq, ↓rSkip, ↓rBrk, ↓rCnt, ↓rRetV, ↓rAsg, ↓rRet, ↓rIf, ↓rPf, ↓rPfo, ↓rAs, ↓rAso, ↓rDo, ↓rObj, ↓rBl, ↓rSw, ↓rCopy, ↓zSq_0, ↓zSq_r, ↓zSq_1, ↓zSq_2, ↓zBq_l, ↓zBq_r, ↓zWq_0, ↓zWq_1, ↓zWq_2, ↓zWq_r, ↓zLo_0, ↓zLo_1, ↓zLo_2, ↓zLo_r, ↓zLt_0, ↓rTr, ↓zFin_s, ↓zFin_n, wX_r, wO_s, wI_t, wI_f, zLk_0, zLk_s, zTv_vi, zTv_vb, zTv_vl, zTv_d, zTv_r, zTv_n, zTv_4, zTo_s, zCl_n, zCl_0, zCl_s, Int32.reduceToInt, Int64.reduceToInt, e_add, e_sub, e_mul, e_neg, e_ladd, e_lsub, e_lmul, e_lneg, q_0, q_1, q_2, q_3, q_4, q_5, q_b0, q_b1, p_0, p_1, p_2, p_3, p_4, p_5, p_b0, p_b1, e_lcmp, pl_0, pl_1, pl_2, pl_3, pl_4, pl_5, e_i2l, e_l2i, e_idiv, e_irem, e_ldiv, e_lrem, List.set_cons_zero, List.set_cons_succ, List.getD_cons_zero, List.getD_cons_succ, List.getD_nil, dT, dF, decide_true, decide_false, not_true_eq_false, not_false_eq_true, Bool.not_true, Bool.not_false, zLay_1, zLay_c1, zLay_c2, zLay_n, zWds_n, zWds_c, zCat_0, zCat_1, zCat_3, zCat_4, zLay_4, List.nil_append, List.cons_append, List.replicate_succ, List.replicate_zero, zTy_0, zTy_b0, zTy_1, zTy_3, zTy_3n, zTy_4, and_true, true_and, Option.bind_some, zNul_n, zNul_r, List.getElem?_cons_zero, List.getElem?_cons_succ, Int.add_zero, zTv_B, zTy_B, b_and, b_or, b_andn, b_not, b_shl, b_cmp, b_cmp0, b_cmp0l, b_eq0, b_eq1, zs_2, zl_21, zl_22, gf_s, gf_l, pf_s, pf_l, zl_z, zs_z, nA, and_self, Nat.le_refl, Option.some.injEq, eq_self, Nat.reduceAdd, Nat.reduceSub, C_Mo_many_0, B_Mo_many_0, T_Mo_many_0]
      rw [this, Int.sub_zero]
    · have pl := pc_low z
      have pn := pc_nn (x := x &&& (x - 1#64))
      simp (disch := first | assumption | omega | exact zTy_0 | exact zTy_3 | exact zTy_3n | exact zTy_1 | exact zTy_B | exact zTy_b0 | exact zTy_4 | exact zEl_n | exact zEz4 | exact zEz9 | exact hz _ _ | exact hz2 _ _ | exact zI0 | exact zI1 | exact zI2 | exact zI3 | exact zI4 | exact zI5 | exact zI6 | exact zI7 | exact zI8 | exact zI9 | exact zI10 | (simp only [zl_21, zl_22, zs_2, ne_eq]; omega) | ((repeat (refine Eq.trans (us_r (by decide)) ?_)); assumption) | ((simp (decide := true) only [us_k, us_s]); omega)) only [↓rKi, ↓rKl, ↓rKn, ↓rKd, ↓rL, ↓r2, ↓r1, ↓rC2, ↓rC1, ↓rCn, ↓rNot, ↓rAnd, ↓rOr, ↓rCi, ↓rBx, ↓rIte, ↓rGf, ↓rLen, ↓rAx, ↓rNa, ↓rA0, ↓rA1, ↓rCs, ↓rCv, ↓rAn, ↓rNew, ↓rSeq, ↓rSkip, ↓rBrk, ↓rCnt, ↓rRetV, ↓rAsg, ↓rRet, ↓rIf, ↓rPf, ↓rPfo, ↓rAs, ↓rAso, ↓rDo, ↓rObj, ↓rBl, ↓rSw, ↓rCopy, ↓zSq_0, ↓zSq_r, ↓zSq_1, ↓zSq_2, ↓zBq_l, ↓zBq_r, ↓zWq_0, ↓zWq_1, ↓zWq_2, ↓zWq_r, ↓zLo_0, ↓zLo_1, ↓zLo_2, ↓zLo_r, ↓zLt_0, ↓rTr, ↓zFin_s, ↓zFin_n, wX_r, wO_s, wI_t, wI_f, zLk_0, zLk_s, zTv_vi, zTv_vb, zTv_vl, zTv_d, zTv_r, zTv_n, zTv_4, zTo_s, zCl_n, zCl_0, zCl_s, Int32.reduceToInt, Int64.reduceToInt, e_add, e_sub, e_mul, e_neg, e_ladd, e_lsub, e_lmul, e_lneg, q_0, q_1, q_2, q_3, q_4, q_5, q_b0, q_b1, p_0, p_1, p_2, p_3, p_4, p_5, p_b0, p_b1, e_lcmp, pl_0, pl_1, pl_2, pl_3, pl_4, pl_5, e_i2l, e_l2i, e_idiv, e_irem, e_ldiv, e_lrem, List.set_cons_zero, List.set_cons_succ, List.getD_cons_zero, List.getD_cons_succ, List.getD_nil, dT, dF, decide_true, decide_false, not_true_eq_false, not_false_eq_true, Bool.not_true, Bool.not_false, zLay_1, zLay_c1, zLay_c2, zLay_n, zWds_n, zWds_c, zCat_0, zCat_1, zCat_3, zCat_4, zLay_4, List.nil_append, List.cons_append, List.replicate_succ, List.replicate_zero, zTy_0, zTy_b0, zTy_1, zTy_3, zTy_3n, zTy_4, and_true, true_and, Option.bind_some, zNul_n, zNul_r, List.getElem?_cons_zero, List.getElem?_cons_succ, Int.add_zero, zTv_B, zTy_B, b_and, b_or, b_andn, b_not, b_shl, b_cmp, b_cmp0, b_cmp0l, b_eq0, b_eq1, zs_2, zl_21, zl_22, gf_s, gf_l, pf_s, pf_l, zl_z, zs_z, nA, and_self, Nat.le_refl, Option.some.injEq, eq_self, Nat.reduceAdd, Nat.reduceSub, C_Mo_many_0, B_Mo_many_0, T_Mo_many_0, u_sub1, u_and]
      exact ⟨x &&& (x - 1#64), by rw [pl, show pc S - pc x + 1 = pc S - (pc x - 1) by omega], by omega, by omega⟩
end
