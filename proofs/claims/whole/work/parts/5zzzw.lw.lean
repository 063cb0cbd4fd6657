/-! THE LAW -/
section
variable {x m : Nat} {h : zHp} {s : Nat → Int → Int} {b L : Nat} {X : Int → Int} {i : Int}
theorem i_63 (a : Int) : ∃ k : Int, (0 ≤ k ∧ k ≤ 63) ∧ oI2 (fun x y => x &&& y) (vi a) (vi 63) = some (vi k) := by
  refine ⟨(Int32.ofInt a &&& 63).toInt, ?_, by rw [← v_int]; rfl⟩
  have e : (Int32.ofInt a &&& 63).toInt = ((Int32.ofInt a).toBitVec &&& 63#32).toInt := rfl
  rw [e]
  generalize (Int32.ofInt a).toBitVec = v
  have le : (v &&& 63#32).toNat ≤ 63 := by
    rw [BitVec.toNat_and]
    exact Nat.and_le_right
  have : (v &&& 63#32).toInt = (v &&& 63#32).toNat := BitVec.toInt_eq_toNat_of_lt (by omega)
  omega
theorem sw_e {k : Int} (k0 : 0 ≤ k) (k1 : k ≤ 63) : ∃ n : Nat, n ≤ 62 ∧ zSwv (zSwF 0 [0, 1, 2, 3, 4, 5, 6, 7, 8, 9, 10, 11, 12, 13, 14, 15, 16, 17, 18, 19, 20, 21, 22, 23, 24, 25, 26, 27, 28, 29, 30, 31, 32, 33, 34, 35, 36, 37, 38, 39, 40, 41, 42, 43, 44, 45, 46, 47, 48, 49, 50, 51, 52, 53, 54, 55, 56, 57, 58, 59, 60, 61] 62) (vi k) = some n := by
  refine ⟨k.toNat.min 62, Nat.min_le_right _ _, ?_⟩
  have : ∀ j : Nat, j ≤ 63 → zSwv (zSwF 0 [0, 1, 2, 3, 4, 5, 6, 7, 8, 9, 10, 11, 12, 13, 14, 15, 16, 17, 18, 19, 20, 21, 22, 23, 24, 25, 26, 27, 28, 29, 30, 31, 32, 33, 34, 35, 36, 37, 38, 39, 40, 41, 42, 43, 44, 45, 46, 47, 48, 49, 50, 51, 52, 53, 54, 55, 56, 57, 58, 59, 60, 61] 62) (vi j) = some (j.min 62) := by
    intro j hj
    rw [zSwv_i (by omega) (by omega)]
    refine congrArg some ?_
    have q : j = 0 ∨ j = 1 ∨ j = 2 ∨ j = 3 ∨ j = 4 ∨ j = 5 ∨ j = 6 ∨ j = 7 ∨ j = 8 ∨ j = 9 ∨ j = 10 ∨ j = 11 ∨ j = 12 ∨ j = 13 ∨ j = 14 ∨ j = 15 ∨ j = 16 ∨ j = 17 ∨ j = 18 ∨ j = 19 ∨ j = 20 ∨ j = 21 ∨ j = 22 ∨ j = 23 ∨ j = 24 ∨ j = 25 ∨ j = 26 ∨ j = 27 ∨ j = 28 ∨ j = 29 ∨ j = 30 ∨ j = 31 ∨ j = 32 ∨ j = 33 ∨ j = 34 ∨ j = 35 ∨ j = 36 ∨ j = 37 ∨ j = 38 ∨ j = 39 ∨ j = 40 ∨ j = 41 ∨ j = 42 ∨ j = 43 ∨ j = 44 ∨ j = 45 ∨ j = 46 ∨ j = 47 ∨ j = 48 ∨ j = 49 ∨ j = 50 ∨ j = 51 ∨ j = 52 ∨ j = 53 ∨ j = 54 ∨ j = 55 ∨ j = 56 ∨ j = 57 ∨ j = 58 ∨ j = 59 ∨ j = 60 ∨ j = 61 ∨ j = 62 ∨ j = 63 := by omega
    rcases q with q | q | q | q | q | q | q | q | q | q | q | q | q | q | q | q | q | q | q | q | q | q | q | q | q | q | q | q | q | q | q | q | q | q | q | q | q | q | q | q | q | q | q | q | q | q | q | q | q | q | q | q | q | q | q | q | q | q | q | q | q | q | q | q <;> subst q <;> rfl
  have t := this k.toNat (by omega)
  rw [show ((k.toNat : Nat) : Int) = k by omega] at t
  exact t
theorem Z_all {Q : zOut → zHp → Prop} {u : zU Q} (hX : ∀ j, iR (X j)) (wi : WI x m h s) (hb : b < h.2.1) (hS : h.1 b = some (99, ar L fun j => vi (X j))) (hL : L ≤ 3072) (i0 : 0 ≤ i) (i1 : i + 6 ≤ L) (QQ : ∀ h2 s2, WI x m h2 s2 → rs h h2 → h2.1 b = some (99, ar L fun j => vi (X j)) → Q (.inl (0, [.ref b, .ref x, .ref m, vi i])) h2) : wS Q B_La_law_0 [.ref b, .ref x, .ref m, vi i] h u := by
  obtain ⟨k, ⟨k0, k1⟩, ek⟩ := i_63 (X i)
  obtain ⟨n, n1, en⟩ := sw_e k0 k1
  have xi := hX i
  have Q2 : ∀ h2 s2, WI x m h2 s2 → rs h h2 → h2.1 b = some (99, ar L fun j => vi (X j)) → zWq Q (.inl (1, [.ref b, .ref x, .ref m, vi i])) h2 := fun h2 s2 a1 a2 a3 => by
    rw [zWq_1]
    exact QQ h2 s2 a1 a2 a3
  simp (disch := first | assumption | omega | exact zTy_0 | exact zTy_3 | exact zTy_3n | exact zTy_1 | exact zTy_B | exact zTy_b0 | exact zTy_4 | exact zEl_n | exact zEz4 | exact zEz9 | exact hz _ _ | exact hz2 _ _ | exact zI0 | exact zI1 | exact zI2 | exact zI3 | exact zI4 | exact zI5 | exact zI6 | exact zI7 | exact zI8 | exact zI9 | exact zI10 | (simp only [zl_21, zl_22, zs_2, ne_eq]; omega) | ((repeat (refine Eq.trans (us_r (by decide)) ?_)); assumption) | ((simp (decide := true) only [us_k, us_s]); omega)) only [↓rKi, ↓rKl, ↓rKn, ↓rKd, ↓rL, ↓r2, ↓r1, ↓rC2, ↓rC1, ↓rCn, ↓rNot, ↓rAnd, ↓rOr, ↓rCi, ↓rBx, ↓rIte, ↓rGf, ↓rLen, ↓rAx, ↓rNa, ↓rA0, ↓rA1, ↓rCs, ↓rCv, ↓rAn, ↓rNew, ↓rSeq, ↓rSkip, ↓rBrk, ↓rCnt, ↓rRetV, ↓rAsg, ↓rRet, ↓rIf, ↓rPf, ↓rPfo, ↓rAs, ↓rAso, ↓rDo, ↓rObj, ↓rBl, ↓rSw, ↓rCopy, ↓zSq_0, ↓zSq_r, ↓zSq_1, ↓zSq_2, ↓zBq_l, ↓zBq_r, ↓zWq_0, ↓zWq_1, ↓zWq_2, ↓zWq_r, ↓zLo_0, ↓zLo_1, ↓zLo_2, ↓zLo_r, ↓zLt_0, ↓rTr, ↓zFin_s, ↓zFin_n, wX_r, wO_s, wI_t, wI_f, zLk_0, zLk_s, zTv_vi, zTv_vb, zTv_vl, zTv_d, zTv_r, zTv_n, zTv_4, zTo_s, zCl_n, zCl_0, zCl_s, Int32.reduceToInt, Int64.reduceToInt, e_add, e_sub, e_mul, e_neg, e_ladd, e_lsub, e_lmul, e_lneg, q_0, q_1, q_2, q_3, q_4, q_5, q_b0, q_b1, p_0, p_1, p_2, p_3, p_4, p_5, p_b0, p_b1, e_lcmp, pl_0, pl_1, pl_2, pl_3, pl_4, pl_5, e_i2l, e_l2i, e_idiv, e_irem, e_ldiv, e_lrem, List.set_cons_zero, List.set_cons_succ, List.getD_cons_zero, List.getD_cons_succ, List.getD_nil, dT, dF, decide_true, decide_false, not_true_eq_false, not_false_eq_true, Bool.not_true, Bool.not_false, zLay_1, zLay_c1, zLay_c2, zLay_n, zWds_n, zWds_c, zCat_0, zCat_1, zCat_3, zCat_4, zLay_4, List.nil_append, List.cons_append, List.replicate_succ, List.replicate_zero, zTy_0, zTy_b0, zTy_1, zTy_3, zTy_3n, zTy_4, and_true, true_and, Option.bind_some, zNul_n, zNul_r, List.getElem?_cons_zero, List.getElem?_cons_succ, Int.add_zero, zTv_B, zTy_B, b_and, b_or, b_andn, b_not, b_shl, b_cmp, b_cmp0, b_cmp0l, b_eq0, b_eq1, zs_2, zl_21, zl_22, gf_s, gf_l, pf_s, pf_l, zl_z, zs_z, nA, and_self, Nat.le_refl, Option.some.injEq, eq_self, Nat.reduceAdd, Nat.reduceSub, B_La_law_0, g_ar hS, ek, en]
  have q : n = 0 ∨ n = 1 ∨ n = 2 ∨ n = 3 ∨ n = 4 ∨ n = 5 ∨ n = 6 ∨ n = 7 ∨ n = 8 ∨ n = 9 ∨ n = 10 ∨ n = 11 ∨ n = 12 ∨ n = 13 ∨ n = 14 ∨ n = 15 ∨ n = 16 ∨ n = 17 ∨ n = 18 ∨ n = 19 ∨ n = 20 ∨ n = 21 ∨ n = 22 ∨ n = 23 ∨ n = 24 ∨ n = 25 ∨ n = 26 ∨ n = 27 ∨ n = 28 ∨ n = 29 ∨ n = 30 ∨ n = 31 ∨ n = 32 ∨ n = 33 ∨ n = 34 ∨ n = 35 ∨ n = 36 ∨ n = 37 ∨ n = 38 ∨ n = 39 ∨ n = 40 ∨ n = 41 ∨ n = 42 ∨ n = 43 ∨ n = 44 ∨ n = 45 ∨ n = 46 ∨ n = 47 ∨ n = 48 ∨ n = 49 ∨ n = 50 ∨ n = 51 ∨ n = 52 ∨ n = 53 ∨ n = 54 ∨ n = 55 ∨ n = 56 ∨ n = 57 ∨ n = 58 ∨ n = 59 ∨ n = 60 ∨ n = 61 ∨ n = 62 := by omega
  rcases q with q | q | q | q | q | q | q | q | q | q | q | q | q | q | q | q | q | q | q | q | q | q | q | q | q | q | q | q | q | q | q | q | q | q | q | q | q | q | q | q | q | q | q | q | q | q | q | q | q | q | q | q | q | q | q | q | q | q | q | q | q | q | q
  · subst q
    exact Z_0 hX wi hb hS hL i0 i1 Q2
  · subst q
    exact Z_1 hX wi hb hS hL i0 i1 Q2
  · subst q
    exact Z_2 hX wi hb hS hL i0 i1 Q2
  · subst q
    exact Z_3 hX wi hb hS hL i0 i1 Q2
  · subst q
    exact Z_4 hX wi hb hS hL i0 i1 Q2
  · subst q
    exact Z_5 hX wi hb hS hL i0 i1 Q2
  · subst q
    exact Z_6 hX wi hb hS hL i0 i1 Q2
  · subst q
    exact Z_7 hX wi hb hS hL i0 i1 Q2
  · subst q
    exact Z_8 hX wi hb hS hL i0 i1 Q2
  · subst q
    exact Z_9 hX wi hb hS hL i0 i1 Q2
  · subst q
    exact Z_10 hX wi hb hS hL i0 i1 Q2
  · subst q
    exact Z_11 hX wi hb hS hL i0 i1 Q2
  · subst q
    exact Z_12 hX wi hb hS hL i0 i1 Q2
  · subst q
    exact Z_13 hX wi hb hS hL i0 i1 Q2
  · subst q
    exact Z_14 hX wi hb hS hL i0 i1 Q2
  · subst q
    exact Z_15 hX wi hb hS hL i0 i1 Q2
  · subst q
    exact Z_16 hX wi hb hS hL i0 i1 Q2
  · subst q
    exact Z_17 hX wi hb hS hL i0 i1 Q2
  · subst q
    exact Z_18 hX wi hb hS hL i0 i1 Q2
  · subst q
    exact Z_19 hX wi hb hS hL i0 i1 Q2
  · subst q
    exact Z_20 hX wi hb hS hL i0 i1 Q2
  · subst q
    exact Z_21 hX wi hb hS hL i0 i1 Q2
  · subst q
    exact Z_22 hX wi hb hS hL i0 i1 Q2
  · subst q
    exact Z_23 hX wi hb hS hL i0 i1 Q2
  · subst q
    exact Z_24 hX wi hb hS hL i0 i1 Q2
  · subst q
    exact Z_25 hX wi hb hS hL i0 i1 Q2
  · subst q
    exact Z_26 hX wi hb hS hL i0 i1 Q2
  · subst q
    exact Z_27 hX wi hb hS hL i0 i1 Q2
  · subst q
    exact Z_28 hX wi hb hS hL i0 i1 Q2
  · subst q
    exact Z_29 hX wi hb hS hL i0 i1 Q2
  · subst q
    exact Z_30 hX wi hb hS hL i0 i1 Q2
  · subst q
    exact Z_31 hX wi hb hS hL i0 i1 Q2
  · subst q
    exact Z_32 hX wi hb hS hL i0 i1 Q2
  · subst q
    exact Z_33 hX wi hb hS hL i0 i1 Q2
  · subst q
    exact Z_34 hX wi hb hS hL i0 i1 Q2
  · subst q
    exact Z_35 hX wi hb hS hL i0 i1 Q2
  · subst q
    exact Z_36 hX wi hb hS hL i0 i1 Q2
  · subst q
    exact Z_37 hX wi hb hS hL i0 i1 Q2
  · subst q
    exact Z_38 hX wi hb hS hL i0 i1 Q2
  · subst q
    exact Z_39 hX wi hb hS hL i0 i1 Q2
  · subst q
    exact Z_40 hX wi hb hS hL i0 i1 Q2
  · subst q
    exact Z_41 hX wi hb hS hL i0 i1 Q2
  · subst q
    exact Z_42 hX wi hb hS hL i0 i1 Q2
  · subst q
    exact Z_43 hX wi hb hS hL i0 i1 Q2
  · subst q
    exact Z_44 hX wi hb hS hL i0 i1 Q2
  · subst q
    exact Z_45 hX wi hb hS hL i0 i1 Q2
  · subst q
    exact Z_46 hX wi hb hS hL i0 i1 Q2
  · subst q
    exact Z_47 hX wi hb hS hL i0 i1 Q2
  · subst q
    exact Z_48 hX wi hb hS hL i0 i1 Q2
  · subst q
    exact Z_49 hX wi hb hS hL i0 i1 Q2
  · subst q
    exact Z_50 hX wi hb hS hL i0 i1 Q2
  · subst q
    exact Z_51 hX wi hb hS hL i0 i1 Q2
  · subst q
    exact Z_52 hX wi hb hS hL i0 i1 Q2
  · subst q
    exact Z_53 hX wi hb hS hL i0 i1 Q2
  · subst q
    exact Z_54 hX wi hb hS hL i0 i1 Q2
  · subst q
    exact Z_55 hX wi hb hS hL i0 i1 Q2
  · subst q
    exact Z_56 hX wi hb hS hL i0 i1 Q2
  · subst q
    exact Z_57 hX wi hb hS hL i0 i1 Q2
  · subst q
    exact Z_58 hX wi hb hS hL i0 i1 Q2
  · subst q
    exact Z_59 hX wi hb hS hL i0 i1 Q2
  · subst q
    exact Z_60 hX wi hb hS hL i0 i1 Q2
  · subst q
    exact Z_61 hX wi hb hS hL i0 i1 Q2
  · subst q
    show wS (zWq Q) W_La_law_0_62 _ _ _
    simp (disch := first | assumption | omega | exact zTy_0 | exact zTy_3 | exact zTy_3n | exact zTy_1 | exact zTy_B | exact zTy_b0 | exact zTy_4 | exact zEl_n | exact zEz4 | exact zEz9 | exact hz _ _ | exact hz2 _ _ | exact zI0 | exact zI1 | exact zI2 | exact zI3 | exact zI4 | exact zI5 | exact zI6 | exact zI7 | exact zI8 | exact zI9 | exact zI10 | (simp only [zl_21, zl_22, zs_2, ne_eq]; omega) | ((repeat (refine Eq.trans (us_r (by decide)) ?_)); assumption) | ((simp (decide := true) only [us_k, us_s]); omega)) only [↓rKi, ↓rKl, ↓rKn, ↓rKd, ↓rL, ↓r2, ↓r1, ↓rC2, ↓rC1, ↓rCn, ↓rNot, ↓rAnd, ↓rOr, ↓rCi, ↓rBx, ↓rIte, ↓rGf, ↓rLen, ↓rAx, ↓rNa, ↓rA0, ↓rA1, ↓rCs, ↓rCv, ↓rAn, ↓rNew, ↓rSeq, ↓rSkip, ↓rBrk, ↓rCnt, ↓rRetV, ↓rAsg, ↓rRet, ↓rIf, ↓rPf, ↓rPfo, ↓rAs, ↓rAso, ↓rDo, ↓rObj, ↓rBl, ↓rSw, ↓rCopy, ↓zSq_0, ↓zSq_r, ↓zSq_1, ↓zSq_2, ↓zBq_l, ↓zBq_r, ↓zWq_0, ↓zWq_1, ↓zWq_2, ↓zWq_r, ↓zLo_0, ↓zLo_1, ↓zLo_2, ↓zLo_r, ↓zLt_0, ↓rTr, ↓zFin_s, ↓zFin_n, wX_r, wO_s, wI_t, wI_f, zLk_0, zLk_s, zTv_vi, zTv_vb, zTv_vl, zTv_d, zTv_r, zTv_n, zTv_4, zTo_s, zCl_n, zCl_0, zCl_s, Int32.reduceToInt, Int64.reduceToInt, e_add, e_sub, e_mul, e_neg, e_ladd, e_lsub, e_lmul, e_lneg, q_0, q_1, q_2, q_3, q_4, q_5, q_b0, q_b1, p_0, p_1, p_2, p_3, p_4, p_5, p_b0, p_b1, e_lcmp, pl_0, pl_1, pl_2, pl_3, pl_4, pl_5, e_i2l, e_l2i, e_idiv, e_irem, e_ldiv, e_lrem, List.set_cons_zero, List.set_cons_succ, List.getD_cons_zero, List.getD_cons_succ, List.getD_nil, dT, dF, decide_true, decide_false, not_true_eq_false, not_false_eq_true, Bool.not_true, Bool.not_false, zLay_1, zLay_c1, zLay_c2, zLay_n, zWds_n, zWds_c, zCat_0, zCat_1, zCat_3, zCat_4, zLay_4, List.nil_append, List.cons_append, List.replicate_succ, List.replicate_zero, zTy_0, zTy_b0, zTy_1, zTy_3, zTy_3n, zTy_4, and_true, true_and, Option.bind_some, zNul_n, zNul_r, List.getElem?_cons_zero, List.getElem?_cons_succ, Int.add_zero, zTv_B, zTy_B, b_and, b_or, b_andn, b_not, b_shl, b_cmp, b_cmp0, b_cmp0l, b_eq0, b_eq1, zs_2, zl_21, zl_22, gf_s, gf_l, pf_s, pf_l, zl_z, zs_z, nA, and_self, Nat.le_refl, Option.some.injEq, eq_self, Nat.reduceAdd, Nat.reduceSub, W_La_law_0_62]
    exact QQ h s wi rs_rf hS

end
