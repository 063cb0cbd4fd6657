/-! trim: leaves of a lent one -/
section
variable {S : BitVec 64} {m n N : Nat} {s gh : Nat → Int → Int} {r : zHp} {L : Int → BitVec 64} {J : Int → Int}
theorem m_lent (tf : TF N s gh L J) (hn : n ≤ 64) (bz : ∀ i : Int, n ≤ i → bHas S i = false) (hN : cnt (bHas S) n = N) {s0 : Nat → Int → Int} (hs0 : sw s s0) {k : Int} (k0 : 0 ≤ k) (k1 : k < s 0 10) : ∃ s', sw s s' ∧ F_Mo_leavesOfLent [.ref m, vi k, vB S] (hp m s0 r) = some (some (vB (imB S n N (L k))), hp m s' r) := by
  have nn := tf_n tf
  have nj := tf_jets tf
  have bk := tf_bits tf k0 k1
  have key : ∃ r1 h1, F_Mo_leavesOfLent [.ref m, vi k, vB S] (hp m s0 r) = some (r1, h1) ∧ (r1 = some (vB (imB S n N (L k))) ∧ ∃ s' : Nat → Int → Int, sw s s' ∧ h1 = hp m s' r) := by
    refine zMe (Q := fun r1 h1 => r1 = some (vB (imB S n N (L k))) ∧ ∃ s' : Nat → Int → Int, sw s s' ∧ h1 = hp m s' r) rfl ?_
    have v0 : vl 0 = vB 0#64 := rfl
    simp (disch := first | assumption | omega | exact zTy_0 | exact zTy_3 | exact zTy_3n | exact zTy_1 | exact zTy_B | exact zTy_b0 | exact zTy_4 | exact zEl_n | exact zEz4 | exact zEz9 | exact hz _ _ | exact hz2 _ _ | exact zI0 | exact zI1 | exact zI2 | exact zI3 | exact zI4 | exact zI5 | exact zI6 | exact zI7 | exact zI8 | exact zI9 | exact zI10 | (simp only [zl_21, zl_22, zs_2, ne_eq]; omega) | ((repeat (refine Eq.trans (us_r (by decide)) ?_)); assumption) | ((simp (decide := true) only [us_k, us_s]); omega)) only [↓rKi, ↓rKl, ↓rKn, ↓rKd, ↓rL, ↓r2, ↓r1, ↓rC2, ↓rC1, ↓rCn, ↓rNot, ↓rAnd, ↓rOr, ↓rCi, ↓rBx, ↓rIte, ↓rGf, ↓rLen, ↓rAx, ↓rNa, ↓rA0, ↓rA1, ↓rCs, ↓rCv, ↓rAn, ↓rNew, ↓rSeq, ↓rSkip, ↓rBrk, ↓rCnt, ↓rRetV, ↓rAsg, ↓rRet, ↓rIf, ↓rPf, ↓rPfo, ↓rAs, ↓rAso, ↓rDo, ↓rObj, ↓rBl, ↓rSw, ↓rCopy, ↓zSq_0, ↓zSq_r, ↓zSq_1, ↓zSq_2, ↓zBq_l, ↓zBq_r, ↓zWq_0, ↓zWq_1, ↓zWq_2, ↓zWq_r, ↓zLo_0, ↓zLo_1, ↓zLo_2, ↓zLo_r, ↓zLt_0, ↓rTr, ↓zFin_s, ↓zFin_n, wX_r, wO_s, wI_t, wI_f, zLk_0, zLk_s, zTv_vi, zTv_vb, zTv_vl, zTv_d, zTv_r, zTv_n, zTv_4, zTo_s, zCl_n, zCl_0, zCl_s, Int32.reduceToInt, Int64.reduceToInt, e_add, e_sub, e_mul, e_neg, e_ladd, e_lsub, e_lmul, e_lneg, q_0, q_1, q_2, q_3, q_4, q_5, q_b0, q_b1, p_0, p_1, p_2, p_3, p_4, p_5, p_b0, p_b1, e_lcmp, pl_0, pl_1, pl_2, pl_3, pl_4, pl_5, e_i2l, e_l2i, e_idiv, e_irem, e_ldiv, e_lrem, List.set_cons_zero, List.set_cons_succ, List.getD_cons_zero, List.getD_cons_succ, List.getD_nil, dT, dF, decide_true, decide_false, not_true_eq_false, not_false_eq_true, Bool.not_true, Bool.not_false, zLay_1, zLay_c1, zLay_c2, zLay_n, zWds_n, zWds_c, zCat_0, zCat_1, zCat_3, zCat_4, zLay_4, List.nil_append, List.cons_append, List.replicate_succ, List.replicate_zero, zTy_0, zTy_b0, zTy_1, zTy_3, zTy_3n, zTy_4, and_true, true_and, Option.bind_some, zNul_n, zNul_r, List.getElem?_cons_zero, List.getElem?_cons_succ, Int.add_zero, zTv_B, zTy_B, b_and, b_or, b_andn, b_not, b_shl, b_cmp, b_cmp0, b_cmp0l, b_eq0, b_eq1, zs_2, zl_21, zl_22, gf_s, gf_l, pf_s, pf_l, zl_z, zs_z, nA, and_self, Nat.le_refl, Option.some.injEq, eq_self, Nat.reduceAdd, Nat.reduceSub, tg_m, mf_0, mf_1, mf_2, mf_3, mf_4, mf_5, mf_6, mf_7, mf_8, mf_9, mp_10, mf_10, mp_11, mf_11, mp_12, mf_12, mp_13, mf_13, mp_14, mf_14, mf_15, mf_16, mp_17, mf_17, mf_18, mf_19, mp_20, mf_20, mp_21, mf_21, mf_22, mp_23, mf_23, mp_24, mf_24, mf_25, mp_26, mf_26, ax_1, asa_1, aso_1, ax_2, asa_2, aso_2, ax_3, asa_3, aso_3, ax_4, asa_4, aso_4, ax_5, asa_5, aso_5, ax_6, asa_6, aso_6, ax_7, asa_7, aso_7, ax_8, asa_8, aso_8, ax_9, asa_9, aso_9, ax_10, asa_10, aso_10, ax_11, asa_11, aso_11, ax_12, asa_12, aso_12, ax_13, asa_13, aso_13, ax_14, asa_14, aso_14, ax_15, asa_15, aso_15, ax_16, asa_16, aso_16, hp_2, us_s, us_k, us_j, us_r, S_Mo_leavesOfLent, L_Mo_leavesOfLent_0, v0]
    refine wLp (fun K env h' => ∃ (s' : Nat → Int → Int) (A : BitVec 64) (c : Int), (h' = hp m s' r ∧ env = [.ref m, vi k, vB S, .null, vB A, .null, .null]) ∧ (sw s s' ∧ s' 0 17 = c) ∧ (0 ≤ c ∧ (∀ i : Int, 0 ≤ i → i < c → 0 ≤ s' 12 i ∧ s' 12 i < s 0 10)) ∧ (A ||| oS (fun i => imB S n N (L (s' 12 i))) (fun _ => true) c.toNat = imB S n N (L k)) ∧ isum (fun i => 2 * pc (L (s' 12 i)) - 1) c.toNat ≤ K ∧ isum (fun i => 2 * pc (L (s' 12 i)) - 1) c.toNat ≤ 79) 79 (by decide) ⟨us (us s0 0 17 1) 12 0 k, 0#64, 1, ⟨rfl, rfl⟩, ⟨sw_12 (sw_0 hs0), by rw [us_k (by decide), us_s]⟩, ⟨by omega, fun i i0 i1 => ?_⟩, ?_, ?_, ?_⟩ ?_ ?_
    · rw [show i = 0 by omega, us_s]
      exact ⟨k0, k1⟩
    · show 0#64 ||| (0#64 ||| (if true = true then imB S n N (L (us (us s0 0 17 1) 12 0 k 12 ((0 : Nat) : Int))) else 0#64)) = _
      rw [show ((0 : Nat) : Int) = 0 from rfl, us_s, if_pos rfl, BitVec.zero_or, BitVec.zero_or]
    · show (0 : Int) + (2 * pc (L (us (us s0 0 17 1) 12 0 k 12 ((0 : Nat) : Int))) - 1) ≤ (79 : Nat)
      rw [show ((0 : Nat) : Int) = 0 from rfl, us_s]
      omega
    · show (0 : Int) + (2 * pc (L (us (us s0 0 17 1) 12 0 k 12 ((0 : Nat) : Int))) - 1) ≤ 79
      rw [show ((0 : Nat) : Int) = 0 from rfl, us_s]
      omega
    · intro env h' ⟨s', A, c, ⟨hh, he⟩, ⟨hs, hc'⟩, ⟨c0, hv⟩, ho, hm, hm2⟩
      subst hh
      subst he
      have g1 := isum_ge1 (f := fun i => 2 * pc (L (s' 12 i)) - 1) (m := c.toNat) fun i i0 i1 => by
        have vi' := hv i i0 (by omega)
        have := tf_bits tf vi'.1 vi'.2
        show 1 ≤ 2 * pc (L (s' 12 i)) - 1
        omega
      have cz : c = 0 := by omega
      rw [cz] at hc' ho
      have eA : A = imB S n N (L k) := by
        rw [← ho]
        show A = A ||| 0#64
        rw [BitVec.or_zero]
      simp (disch := first | assumption | omega | exact zTy_0 | exact zTy_3 | exact zTy_3n | exact zTy_1 | exact zTy_B | exact zTy_b0 | exact zTy_4 | exact zEl_n | exact zEz4 | exact zEz9 | exact hz _ _ | exact hz2 _ _ | exact zI0 | exact zI1 | exact zI2 | exact zI3 | exact zI4 | exact zI5 | exact zI6 | exact zI7 | exact zI8 | exact zI9 | exact zI10 | (simp only [zl_21, zl_22, zs_2, ne_eq]; omega) | ((repeat (refine Eq.trans (us_r (by decide)) ?_)); assumption) | ((simp (decide := true) only [us_k, us_s]); omega)) only [↓rKi, ↓rKl, ↓rKn, ↓rKd, ↓rL, ↓r2, ↓r1, ↓rC2, ↓rC1, ↓rCn, ↓rNot, ↓rAnd, ↓rOr, ↓rCi, ↓rBx, ↓rIte, ↓rGf, ↓rLen, ↓rAx, ↓rNa, ↓rA0, ↓rA1, ↓rCs, ↓rCv, ↓rAn, ↓rNew, ↓rSeq, ↓rSkip, ↓rBrk, ↓rCnt, ↓rRetV, ↓rAsg, ↓rRet, ↓rIf, ↓rPf, ↓rPfo, ↓rAs, ↓rAso, ↓rDo, ↓rObj, ↓rBl, ↓rSw, ↓rCopy, ↓zSq_0, ↓zSq_r, ↓zSq_1, ↓zSq_2, ↓zBq_l, ↓zBq_r, ↓zWq_0, ↓zWq_1, ↓zWq_2, ↓zWq_r, ↓zLo_0, ↓zLo_1, ↓zLo_2, ↓zLo_r, ↓zLt_0, ↓rTr, ↓zFin_s, ↓zFin_n, wX_r, wO_s, wI_t, wI_f, zLk_0, zLk_s, zTv_vi, zTv_vb, zTv_vl, zTv_d, zTv_r, zTv_n, zTv_4, zTo_s, zCl_n, zCl_0, zCl_s, Int32.reduceToInt, Int64.reduceToInt, e_add, e_sub, e_mul, e_neg, e_ladd, e_lsub, e_lmul, e_lneg, q_0, q_1, q_2, q_3, q_4, q_5, q_b0, q_b1, p_0, p_1, p_2, p_3, p_4, p_5, p_b0, p_b1, e_lcmp, pl_0, pl_1, pl_2, pl_3, pl_4, pl_5, e_i2l, e_l2i, e_idiv, e_irem, e_ldiv, e_lrem, List.set_cons_zero, List.set_cons_succ, List.getD_cons_zero, List.getD_cons_succ, List.getD_nil, dT, dF, decide_true, decide_false, not_true_eq_false, not_false_eq_true, Bool.not_true, Bool.not_false, zLay_1, zLay_c1, zLay_c2, zLay_n, zWds_n, zWds_c, zCat_0, zCat_1, zCat_3, zCat_4, zLay_4, List.nil_append, List.cons_append, List.replicate_succ, List.replicate_zero, zTy_0, zTy_b0, zTy_1, zTy_3, zTy_3n, zTy_4, and_true, true_and, Option.bind_some, zNul_n, zNul_r, List.getElem?_cons_zero, List.getElem?_cons_succ, Int.add_zero, zTv_B, zTy_B, b_and, b_or, b_andn, b_not, b_shl, b_cmp, b_cmp0, b_cmp0l, b_eq0, b_eq1, zs_2, zl_21, zl_22, gf_s, gf_l, pf_s, pf_l, zl_z, zs_z, nA, and_self, Nat.le_refl, Option.some.injEq, eq_self, Nat.reduceAdd, Nat.reduceSub, tg_m, mf_0, mf_1, mf_2, mf_3, mf_4, mf_5, mf_6, mf_7, mf_8, mf_9, mp_10, mf_10, mp_11, mf_11, mp_12, mf_12, mp_13, mf_13, mp_14, mf_14, mf_15, mf_16, mp_17, mf_17, mf_18, mf_19, mp_20, mf_20, mp_21, mf_21, mf_22, mp_23, mf_23, mp_24, mf_24, mf_25, mp_26, mf_26, ax_1, asa_1, aso_1, ax_2, asa_2, aso_2, ax_3, asa_3, aso_3, ax_4, asa_4, aso_4, ax_5, asa_5, aso_5, ax_6, asa_6, aso_6, ax_7, asa_7, aso_7, ax_8, asa_8, aso_8, ax_9, asa_9, aso_9, ax_10, asa_10, aso_10, ax_11, asa_11, aso_11, ax_12, asa_12, aso_12, ax_13, asa_13, aso_13, ax_14, asa_14, aso_14, ax_15, asa_15, aso_15, ax_16, asa_16, aso_16, hp_2, us_s, us_k, us_j, us_r, C_Mo_leavesOfLent_0, B_Mo_leavesOfLent_0, T_Mo_leavesOfLent_0, hc']
      rw [eA]
      exact ⟨rfl, s', hs, rfl⟩
    · intro K env h' ⟨s', A, c, ⟨hh, he⟩, ⟨hs, hc'⟩, ⟨c0, hv⟩, ho, hm, hm2⟩
      subst hh
      subst he
      by_cases cz : c = 0
      · rw [cz] at hc' ho
        have eA : A = imB S n N (L k) := by
          rw [← ho]
          show A = A ||| 0#64
          rw [BitVec.or_zero]
        simp (disch := first | assumption | omega | exact zTy_0 | exact zTy_3 | exact zTy_3n | exact zTy_1 | exact zTy_B | exact zTy_b0 | exact zTy_4 | exact zEl_n | exact zEz4 | exact zEz9 | exact hz _ _ | exact hz2 _ _ | exact zI0 | exact zI1 | exact zI2 | exact zI3 | exact zI4 | exact zI5 | exact zI6 | exact zI7 | exact zI8 | exact zI9 | exact zI10 | (simp only [zl_21, zl_22, zs_2, ne_eq]; omega) | ((repeat (refine Eq.trans (us_r (by decide)) ?_)); assumption) | ((simp (decide := true) only [us_k, us_s]); omega)) only [↓rKi, ↓rKl, ↓rKn, ↓rKd, ↓rL, ↓r2, ↓r1, ↓rC2, ↓rC1, ↓rCn, ↓rNot, ↓rAnd, ↓rOr, ↓rCi, ↓rBx, ↓rIte, ↓rGf, ↓rLen, ↓rAx, ↓rNa, ↓rA0, ↓rA1, ↓rCs, ↓rCv, ↓rAn, ↓rNew, ↓rSeq, ↓rSkip, ↓rBrk, ↓rCnt, ↓rRetV, ↓rAsg, ↓rRet, ↓rIf, ↓rPf, ↓rPfo, ↓rAs, ↓rAso, ↓rDo, ↓rObj, ↓rBl, ↓rSw, ↓rCopy, ↓zSq_0, ↓zSq_r, ↓zSq_1, ↓zSq_2, ↓zBq_l, ↓zBq_r, ↓zWq_0, ↓zWq_1, ↓zWq_2, ↓zWq_r, ↓zLo_0, ↓zLo_1, ↓zLo_2, ↓zLo_r, ↓zLt_0, ↓rTr, ↓zFin_s, ↓zFin_n, wX_r, wO_s, wI_t, wI_f, zLk_0, zLk_s, zTv_vi, zTv_vb, zTv_vl, zTv_d, zTv_r, zTv_n, zTv_4, zTo_s, zCl_n, zCl_0, zCl_s, Int32.reduceToInt, Int64.reduceToInt, e_add, e_sub, e_mul, e_neg, e_ladd, e_lsub, e_lmul, e_lneg, q_0, q_1, q_2, q_3, q_4, q_5, q_b0, q_b1, p_0, p_1, p_2, p_3, p_4, p_5, p_b0, p_b1, e_lcmp, pl_0, pl_1, pl_2, pl_3, pl_4, pl_5, e_i2l, e_l2i, e_idiv, e_irem, e_ldiv, e_lrem, List.set_cons_zero, List.set_cons_succ, List.getD_cons_zero, List.getD_cons_succ, List.getD_nil, dT, dF, decide_true, decide_false, not_true_eq_false, not_false_eq_true, Bool.not_true, Bool.not_false, zLay_1, zLay_c1, zLay_c2, zLay_n, zWds_n, zWds_c, zCat_0, zCat_1, zCat_3, zCat_4, zLay_4, List.nil_append, List.cons_append, List.replicate_succ, List.replicate_zero, zTy_0, zTy_b0, zTy_1, zTy_3, zTy_3n, zTy_4, and_true, true_and, Option.bind_some, zNul_n, zNul_r, List.getElem?_cons_zero, List.getElem?_cons_succ, Int.add_zero, zTv_B, zTy_B, b_and, b_or, b_andn, b_not, b_shl, b_cmp, b_cmp0, b_cmp0l, b_eq0, b_eq1, zs_2, zl_21, zl_22, gf_s, gf_l, pf_s, pf_l, zl_z, zs_z, nA, and_self, Nat.le_refl, Option.some.injEq, eq_self, Nat.reduceAdd, Nat.reduceSub, tg_m, mf_0, mf_1, mf_2, mf_3, mf_4, mf_5, mf_6, mf_7, mf_8, mf_9, mp_10, mf_10, mp_11, mf_11, mp_12, mf_12, mp_13, mf_13, mp_14, mf_14, mf_15, mf_16, mp_17, mf_17, mf_18, mf_19, mp_20, mf_20, mp_21, mf_21, mf_22, mp_23, mf_23, mp_24, mf_24, mf_25, mp_26, mf_26, ax_1, asa_1, aso_1, ax_2, asa_2, aso_2, ax_3, asa_3, aso_3, ax_4, asa_4, aso_4, ax_5, asa_5, aso_5, ax_6, asa_6, aso_6, ax_7, asa_7, aso_7, ax_8, asa_8, aso_8, ax_9, asa_9, aso_9, ax_10, asa_10, aso_10, ax_11, asa_11, aso_11, ax_12, asa_12, aso_12, ax_13, asa_13, aso_13, ax_14, asa_14, aso_14, ax_15, asa_15, aso_15, ax_16, asa_16, aso_16, hp_2, us_s, us_k, us_j, us_r, C_Mo_leavesOfLent_0, B_Mo_leavesOfLent_0, T_Mo_leavesOfLent_0, hc']
        rw [eA]
        exact ⟨rfl, s', hs, rfl⟩
      · obtain ⟨j, hj, j0⟩ : ∃ j : Int, c = j + 1 ∧ 0 ≤ j := ⟨c - 1, by omega, by omega⟩
        subst hj
        have g1 := isum_ge1 (f := fun i => 2 * pc (L (s' 12 i)) - 1) (m := j.toNat) fun i i0 i1 => by
          have vi' := hv i i0 (by omega)
          have := tf_bits tf vi'.1 vi'.2
          show 1 ≤ 2 * pc (L (s' 12 i)) - 1
          omega
        have ms := isum_s (f := fun i => 2 * pc (L (s' 12 i)) - 1) j0
        have vy := hv j j0 (by omega)
        have oss := oS_s (Q := fun i => imB S n N (L (s' 12 i))) (f := fun _ => true) j0
        rw [if_pos rfl] at oss
        rw [oss] at ho
        rw [ms] at hm hm2
        have by' := tf_bits tf vy.1 vy.2
        have jb : j < 79 := by omega
        have ej' : j + 1 - 1 = j := by omega
        have u0 : us s' 0 17 j 0 17 = j := us_s
        have r12 : ∀ x, us s' 0 17 j 12 x = s' 12 x := fun x => us_k (by decide)
        have e6 : s' 6 = s 6 := hs.1 6 (by decide) (by decide)
        have e7 : s' 7 = s 7 := hs.1 7 (by decide) (by decide)
        have f6 : ∀ x, s' 6 x = s 6 x := congrFun e6
        have f7 : ∀ x, s' 7 x = s 7 x := congrFun e7
        have r6 : ∀ x, us s' 0 17 j 6 x = s 6 x := fun x => (us_k (by decide)).trans (congrFun e6 x)
        have r7 : ∀ y v x, us (us s' 0 17 j) 12 y v 7 x = s 7 x := fun y v x => (us_k (by decide)).trans ((us_k (by decide)).trans (congrFun e7 x))
        have r6' : ∀ y v x, us (us s' 0 17 j) 12 y v 6 x = s 6 x := fun y v x => (us_k (by decide)).trans (r6 x)
        have r17 : ∀ y v, us (us s' 0 17 j) 12 y v 0 17 = j := fun y v => (us_k (by decide)).trans us_s
        have r17' : ∀ y v y2 v2, us (us (us s' 0 17 j) 12 y v) 12 y2 v2 0 17 = j := fun y v y2 v2 => (us_k (by decide)).trans (r17 y v)
        have ij := tf_isj tf vy.1 vy.2
        by_cases cy : (n : Int) ≤ 0 ∨ (N : Int) ≤ s' 12 j
        · have cy : (N : Int) ≤ s' 12 j := by
            rcases cy with y | y
            · have := cnt_le (P := bHas S) (show (0 : Int) ≤ n by omega)
              have := tf.2.2.2.1
              omega
            · exact y
          have tj := tf_join tf cy vy.2
          have pcs := tf_pc tf cy vy.2
          have pl1 := tf_bits tf tj.1.1.1 (show s 6 (s' 12 j) < s 0 10 by omega)
          have pl2 := tf_bits tf tj.1.2.1.1 (show s 7 (s' 12 j) < s 0 10 by omega)
          have nm : ¬ s 6 (s' 12 j) = -1 := by omega
          simp (disch := first | assumption | omega | exact zTy_0 | exact zTy_3 | exact zTy_3n | exact zTy_1 | exact zTy_B | exact zTy_b0 | exact zTy_4 | exact zEl_n | exact zEz4 | exact zEz9 | exact hz _ _ | exact hz2 _ _ | exact zI0 | exact zI1 | exact zI2 | exact zI3 | exact zI4 | exact zI5 | exact zI6 | exact zI7 | exact zI8 | exact zI9 | exact zI10 | (simp only [zl_21, zl_22, zs_2, ne_eq]; omega) | ((repeat (refine Eq.trans (us_r (by decide)) ?_)); assumption) | ((simp (decide := true) only [us_k, us_s]); omega)) only [↓rKi, ↓rKl, ↓rKn, ↓rKd, ↓rL, ↓r2, ↓r1, ↓rC2, ↓rC1, ↓rCn, ↓rNot, ↓rAnd, ↓rOr, ↓rCi, ↓rBx, ↓rIte, ↓rGf, ↓rLen, ↓rAx, ↓rNa, ↓rA0, ↓rA1, ↓rCs, ↓rCv, ↓rAn, ↓rNew, ↓rSeq, ↓rSkip, ↓rBrk, ↓rCnt, ↓rRetV, ↓rAsg, ↓rRet, ↓rIf, ↓rPf, ↓rPfo, ↓rAs, ↓rAso, ↓rDo, ↓rObj, ↓rBl, ↓rSw, ↓rCopy, ↓zSq_0, ↓zSq_r, ↓zSq_1, ↓zSq_2, ↓zBq_l, ↓zBq_r, ↓zWq_0, ↓zWq_1, ↓zWq_2, ↓zWq_r, ↓zLo_0, ↓zLo_1, ↓zLo_2, ↓zLo_r, ↓zLt_0, ↓rTr, ↓zFin_s, ↓zFin_n, wX_r, wO_s, wI_t, wI_f, zLk_0, zLk_s, zTv_vi, zTv_vb, zTv_vl, zTv_d, zTv_r, zTv_n, zTv_4, zTo_s, zCl_n, zCl_0, zCl_s, Int32.reduceToInt, Int64.reduceToInt, e_add, e_sub, e_mul, e_neg, e_ladd, e_lsub, e_lmul, e_lneg, q_0, q_1, q_2, q_3, q_4, q_5, q_b0, q_b1, p_0, p_1, p_2, p_3, p_4, p_5, p_b0, p_b1, e_lcmp, pl_0, pl_1, pl_2, pl_3, pl_4, pl_5, e_i2l, e_l2i, e_idiv, e_irem, e_ldiv, e_lrem, List.set_cons_zero, List.set_cons_succ, List.getD_cons_zero, List.getD_cons_succ, List.getD_nil, dT, dF, decide_true, decide_false, not_true_eq_false, not_false_eq_true, Bool.not_true, Bool.not_false, zLay_1, zLay_c1, zLay_c2, zLay_n, zWds_n, zWds_c, zCat_0, zCat_1, zCat_3, zCat_4, zLay_4, List.nil_append, List.cons_append, List.replicate_succ, List.replicate_zero, zTy_0, zTy_b0, zTy_1, zTy_3, zTy_3n, zTy_4, and_true, true_and, Option.bind_some, zNul_n, zNul_r, List.getElem?_cons_zero, List.getElem?_cons_succ, Int.add_zero, zTv_B, zTy_B, b_and, b_or, b_andn, b_not, b_shl, b_cmp, b_cmp0, b_cmp0l, b_eq0, b_eq1, zs_2, zl_21, zl_22, gf_s, gf_l, pf_s, pf_l, zl_z, zs_z, nA, and_self, Nat.le_refl, Option.some.injEq, eq_self, Nat.reduceAdd, Nat.reduceSub, tg_m, mf_0, mf_1, mf_2, mf_3, mf_4, mf_5, mf_6, mf_7, mf_8, mf_9, mp_10, mf_10, mp_11, mf_11, mp_12, mf_12, mp_13, mf_13, mp_14, mf_14, mf_15, mf_16, mp_17, mf_17, mf_18, mf_19, mp_20, mf_20, mp_21, mf_21, mf_22, mp_23, mf_23, mp_24, mf_24, mf_25, mp_26, mf_26, ax_1, asa_1, aso_1, ax_2, asa_2, aso_2, ax_3, asa_3, aso_3, ax_4, asa_4, aso_4, ax_5, asa_5, aso_5, ax_6, asa_6, aso_6, ax_7, asa_7, aso_7, ax_8, asa_8, aso_8, ax_9, asa_9, aso_9, ax_10, asa_10, aso_10, ax_11, asa_11, aso_11, ax_12, asa_12, aso_12, ax_13, asa_13, aso_13, ax_14, asa_14, aso_14, ax_15, asa_15, aso_15, ax_16, asa_16, aso_16, hp_2, us_s, us_k, us_j, us_r, C_Mo_leavesOfLent_0, B_Mo_leavesOfLent_0, T_Mo_leavesOfLent_0, hc', ej', f6, f7]
          generalize hu : us (us (us (us s' 0 17 j) 12 j (s 6 (s' 12 j))) 12 (j + 1) (s 7 (s' 12 j))) 0 17 (j + 2) = u
          have u12 : ∀ i, u 12 i = if i = j + 1 then s 7 (s' 12 j) else if i = j then s 6 (s' 12 j) else s' 12 i := fun i => by
            rw [← hu, us_k (by decide)]
            by_cases f1 : i = j + 1
            · rw [if_pos f1, f1, us_s]
            · rw [if_neg f1, us_j f1]
              by_cases f2 : i = j
              · rw [if_pos f2, f2, us_s]
              · rw [if_neg f2, us_j f2, r12]
          have ua : u 12 (j + 1) = s 7 (s' 12 j) := by rw [u12, if_pos rfl]
          have ub : u 12 j = s 6 (s' 12 j) := by rw [u12, if_neg (by omega), if_pos rfl]
          have uc : ∀ i, i < j → u 12 i = s' 12 i := fun i hi => by rw [u12, if_neg (by omega), if_neg (by omega)]
          have usw : sw s u := by
            rw [← hu]
            exact sw_0 (sw_12 (sw_12 (sw_0 hs)))
          have mm : isum (fun i => 2 * pc (L (u 12 i)) - 1) (j + 1 + 1).toNat = isum (fun i => 2 * pc (L (s' 12 i)) - 1) j.toNat + (2 * pc (L (s 6 (s' 12 j))) - 1) + (2 * pc (L (s 7 (s' 12 j))) - 1) := by
            rw [isum_s (by omega), isum_s j0, ua, ub]
            refine congrArg (fun z => z + _ + _) (isum_ext fun i i0 i1 => ?_)
            show 2 * pc (L (u 12 i)) - 1 = _
            rw [uc i (by omega)]
          have oo : oS (fun i => imB S n N (L (u 12 i))) (fun _ => true) (j + 1 + 1).toNat = oS (fun i => imB S n N (L (s' 12 i))) (fun _ => true) j.toNat ||| imB S n N (L (s 6 (s' 12 j))) ||| imB S n N (L (s 7 (s' 12 j))) := by
            rw [oS_s (by omega), oS_s j0, ua, ub, if_pos rfl, if_pos rfl]
            refine congrArg (fun z => z ||| _ ||| _) (oS_ext fun i i0 i1 => ⟨rfl, fun _ => ?_⟩)
            show imB S n N (L (u 12 i)) = _
            rw [uc i (by omega)]
          refine ⟨u, A, j + 1 + 1, ⟨rfl, rfl⟩, ⟨usw, by rw [← hu, us_s]; omega⟩, ⟨by omega, fun i i0 i1 => ?_⟩, ?_, by rw [mm]; omega, by rw [mm]; omega⟩
          · rw [u12]
            split
            · omega
            · split
              · omega
              · exact hv i i0 (by omega)
          · rw [oo, ← ho, tj.2.2.1, imB_or, BitVec.or_assoc (oS _ _ _)]
        · have cy : s' 12 j < N := by omega
          have em : s 6 (s' 12 j) = -1 := ij.1.mpr cy
          have lf := tf_leaf tf vy.1 cy
          have pl := tf_pcl tf vy.1 cy
          have no := fun h => m_nthOf (h := h) hn bz hN vy.1 cy
          have pb := pkR_f (P := bHas S) n (s' 12 j) vy.1 (by omega)
          have r6z : us s' 0 17 j 6 (s' 12 j) = -1 := (r6 _).trans em
          have f6z : s' 6 (s' 12 j) = -1 := (f6 _).trans em
          simp (disch := first | assumption | omega | exact zTy_0 | exact zTy_3 | exact zTy_3n | exact zTy_1 | exact zTy_B | exact zTy_b0 | exact zTy_4 | exact zEl_n | exact zEz4 | exact zEz9 | exact hz _ _ | exact hz2 _ _ | exact zI0 | exact zI1 | exact zI2 | exact zI3 | exact zI4 | exact zI5 | exact zI6 | exact zI7 | exact zI8 | exact zI9 | exact zI10 | (simp only [zl_21, zl_22, zs_2, ne_eq]; omega) | ((repeat (refine Eq.trans (us_r (by decide)) ?_)); assumption) | ((simp (decide := true) only [us_k, us_s]); omega)) only [↓rKi, ↓rKl, ↓rKn, ↓rKd, ↓rL, ↓r2, ↓r1, ↓rC2, ↓rC1, ↓rCn, ↓rNot, ↓rAnd, ↓rOr, ↓rCi, ↓rBx, ↓rIte, ↓rGf, ↓rLen, ↓rAx, ↓rNa, ↓rA0, ↓rA1, ↓rCs, ↓rCv, ↓rAn, ↓rNew, ↓rSeq, ↓rSkip, ↓rBrk, ↓rCnt, ↓rRetV, ↓rAsg, ↓rRet, ↓rIf, ↓rPf, ↓rPfo, ↓rAs, ↓rAso, ↓rDo, ↓rObj, ↓rBl, ↓rSw, ↓rCopy, ↓zSq_0, ↓zSq_r, ↓zSq_1, ↓zSq_2, ↓zBq_l, ↓zBq_r, ↓zWq_0, ↓zWq_1, ↓zWq_2, ↓zWq_r, ↓zLo_0, ↓zLo_1, ↓zLo_2, ↓zLo_r, ↓zLt_0, ↓rTr, ↓zFin_s, ↓zFin_n, wX_r, wO_s, wI_t, wI_f, zLk_0, zLk_s, zTv_vi, zTv_vb, zTv_vl, zTv_d, zTv_r, zTv_n, zTv_4, zTo_s, zCl_n, zCl_0, zCl_s, Int32.reduceToInt, Int64.reduceToInt, e_add, e_sub, e_mul, e_neg, e_ladd, e_lsub, e_lmul, e_lneg, q_0, q_1, q_2, q_3, q_4, q_5, q_b0, q_b1, p_0, p_1, p_2, p_3, p_4, p_5, p_b0, p_b1, e_lcmp, pl_0, pl_1, pl_2, pl_3, pl_4, pl_5, e_i2l, e_l2i, e_idiv, e_irem, e_ldiv, e_lrem, List.set_cons_zero, List.set_cons_succ, List.getD_cons_zero, List.getD_cons_succ, List.getD_nil, dT, dF, decide_true, decide_false, not_true_eq_false, not_false_eq_true, Bool.not_true, Bool.not_false, zLay_1, zLay_c1, zLay_c2, zLay_n, zWds_n, zWds_c, zCat_0, zCat_1, zCat_3, zCat_4, zLay_4, List.nil_append, List.cons_append, List.replicate_succ, List.replicate_zero, zTy_0, zTy_b0, zTy_1, zTy_3, zTy_3n, zTy_4, and_true, true_and, Option.bind_some, zNul_n, zNul_r, List.getElem?_cons_zero, List.getElem?_cons_succ, Int.add_zero, zTv_B, zTy_B, b_and, b_or, b_andn, b_not, b_shl, b_cmp, b_cmp0, b_cmp0l, b_eq0, b_eq1, zs_2, zl_21, zl_22, gf_s, gf_l, pf_s, pf_l, zl_z, zs_z, nA, and_self, Nat.le_refl, Option.some.injEq, eq_self, Nat.reduceAdd, Nat.reduceSub, tg_m, mf_0, mf_1, mf_2, mf_3, mf_4, mf_5, mf_6, mf_7, mf_8, mf_9, mp_10, mf_10, mp_11, mf_11, mp_12, mf_12, mp_13, mf_13, mp_14, mf_14, mf_15, mf_16, mp_17, mf_17, mf_18, mf_19, mp_20, mf_20, mp_21, mf_21, mf_22, mp_23, mf_23, mp_24, mf_24, mf_25, mp_26, mf_26, ax_1, asa_1, aso_1, ax_2, asa_2, aso_2, ax_3, asa_3, aso_3, ax_4, asa_4, aso_4, ax_5, asa_5, aso_5, ax_6, asa_6, aso_6, ax_7, asa_7, aso_7, ax_8, asa_8, aso_8, ax_9, asa_9, aso_9, ax_10, asa_10, aso_10, ax_11, asa_11, aso_11, ax_12, asa_12, aso_12, ax_13, asa_13, aso_13, ax_14, asa_14, aso_14, ax_15, asa_15, aso_15, ax_16, asa_16, aso_16, hp_2, us_s, us_k, us_j, us_r, C_Mo_leavesOfLent_0, B_Mo_leavesOfLent_0, T_Mo_leavesOfLent_0, hc', ej', f6z, no]
          refine ⟨us s' 0 17 j, A ||| 1#64 <<< (pkR (bHas S) n (s' 12 j)).toNat, j, ⟨rfl, rfl⟩, ⟨sw_0 hs, us_s⟩, ⟨j0, fun i i0 i1 => by rw [r12]; exact hv i i0 (by omega)⟩, ?_, ?_, ?_⟩
          · rw [oS_ext (g := fun _ => true) (Q' := fun i => imB S n N (L (s' 12 i))) fun i _ _ => ⟨rfl, fun _ => by show imB S n N (L (us s' 0 17 j 12 i)) = _; rw [r12]⟩, ← ho, lf.2.2.2, imB_1 vy.1 cy (by omega), or_r, BitVec.or_assoc]
          · simp only [r12]
            omega
          · simp only [r12]
            omega
  obtain ⟨r1, h1, e, rfl, s', hs, rfl⟩ := key
  exact ⟨s', hs, e⟩
end
