/-! APART: the reference; the tree; apart -/
section
variable {m n : Nat} {s gh T : Nat → Int → Int} {r : zHp} {L : Int → BitVec 64} {J : Int → Int} {t : Int}
/-- leaves laid out -/
def layL (s T : Nat → Int → Int) (S : BitVec 64) : Nat → Nat → Int → Int
  | 0 => us s 0 10 0
  | k + 1 => if bHas S k = true then sCome (layL s T S k) (T 3 k) (T 4 k) (T 5 k) (-1) (-1) else layL s T S k
theorem layL_f {S : BitVec 64} : ∀ k : Nat, layL s T S k 0 10 = cnt (bHas S) k ∧ (∀ i : Int, 0 ≤ i → i < k → bHas S i = true → layL s T S k 3 (cnt (bHas S) i) = T 3 i ∧ layL s T S k 4 (cnt (bHas S) i) = T 4 i ∧ layL s T S k 5 (cnt (bHas S) i) = T 5 i ∧ layL s T S k 6 (cnt (bHas S) i) = -1 ∧ layL s T S k 7 (cnt (bHas S) i) = -1 ∧ layL s T S k 8 (cnt (bHas S) i) = 1) ∧ (∀ q, q ≠ 0 → (q < 3 ∨ 8 < q) → layL s T S k q = s q) ∧ ∀ j, j ≠ 10 → layL s T S k 0 j = s 0 j
  | 0 => ⟨us_s, fun i a b => by omega, fun q a _ => us_r a, fun j a => us_j a⟩
  | k + 1 => by
    obtain ⟨a, b, c, d⟩ := layL_f (S := S) k
    have e := cnt_s (P := bHas S) (show (0 : Int) ≤ k by omega)
    rw [show ((k + 1 : Nat) : Int) = (k : Int) + 1 by omega]
    unfold layL
    by_cases hk : bHas S k = true
    · rw [if_pos hk] at e ⊢
      unfold sCome
      rw [a]
      refine ⟨by rw [us_s, e], fun i i0 i1 hi => ?_, fun q q0 q1 => ?_, fun j hj => ?_⟩
      · by_cases z : i = k
        · subst z
          simp [us]
        · have := b i i0 (by omega) hi
          have lt : cnt (bHas S) i < cnt (bHas S) k := cnt_lt i0 (by omega) hi
          have z2 : cnt (bHas S) i ≠ cnt (bHas S) k := by omega
          simp [us, z2]
          exact this
      · rw [us_r q0, us_r (by omega), us_r (by omega), us_r (by omega), us_r (by omega), us_r (by omega), us_r (by omega)]
        exact c q q0 q1
      · rw [us_j hj, us_k (by decide), us_k (by decide), us_k (by decide), us_k (by decide), us_k (by decide), us_k (by decide)]
        exact d j hj
    · rw [if_neg hk] at e ⊢
      refine ⟨by rw [a, e, Int.add_zero], fun i i0 i1 hi => ?_, c, d⟩
      by_cases z : i = k
      · rw [z] at hi
        exact absurd hi hk
      · exact b i i0 (by omega) hi
theorem e_layLeaves {a : Int → Int} {S : BitVec 64} (tf : TF n (tS a (371 + 521 * t)) gh L J) (ha : s 1 = a) (t0 : 0 ≤ t) (t4 : t < 4) : F_Mo_layLeaves [.ref m, vi t, vB S] (hp m s r) = some (none, hp m (layL s (tS a (371 + 521 * t)) S n) r) := by
  have nn := tf_n tf
  have nt : (tS a (371 + 521 * t)) 0 11 = n := nn.1.2
  refine zMeq rfl ?_
  simp (disch := first | assumption | omega | exact zTy_0 | exact zTy_3 | exact zTy_3n | exact zTy_1 | exact zTy_B | exact zTy_b0 | exact zTy_4 | exact zEl_n | exact zEz4 | exact zEz9 | exact hz _ _ | exact hz2 _ _ | exact zI0 | exact zI1 | exact zI2 | exact zI3 | exact zI4 | exact zI5 | exact zI6 | exact zI7 | exact zI8 | exact zI9 | exact zI10 | (simp only [zl_21, zl_22, zs_2, ne_eq]; omega) | ((repeat (refine Eq.trans (us_r (by decide)) ?_)); assumption) | ((simp (decide := true) only [us_k, us_s]); omega)) only [↓rKi, ↓rKl, ↓rKn, ↓rKd, ↓rL, ↓r2, ↓r1, ↓rC2, ↓rC1, ↓rCn, ↓rNot, ↓rAnd, ↓rOr, ↓rCi, ↓rBx, ↓rIte, ↓rGf, ↓rLen, ↓rAx, ↓rNa, ↓rA0, ↓rA1, ↓rCs, ↓rCv, ↓rAn, ↓rNew, ↓rSeq, ↓rSkip, ↓rBrk, ↓rCnt, ↓rRetV, ↓rAsg, ↓rRet, ↓rIf, ↓rPf, ↓rPfo, ↓rAs, ↓rAso, ↓rDo, ↓rObj, ↓rBl, ↓rSw, ↓rCopy, ↓zSq_0, ↓zSq_r, ↓zSq_1, ↓zSq_2, ↓zBq_l, ↓zBq_r, ↓zWq_0, ↓zWq_1, ↓zWq_2, ↓zWq_r, ↓zLo_0, ↓zLo_1, ↓zLo_2, ↓zLo_r, ↓zLt_0, ↓rTr, ↓zFin_s, ↓zFin_n, wX_r, wO_s, wI_t, wI_f, zLk_0, zLk_s, zTv_vi, zTv_vb, zTv_vl, zTv_d, zTv_r, zTv_n, zTv_4, zTo_s, zCl_n, zCl_0, zCl_s, Int32.reduceToInt, Int64.reduceToInt, e_add, e_sub, e_mul, e_neg, e_ladd, e_lsub, e_lmul, e_lneg, q_0, q_1, q_2, q_3, q_4, q_5, q_b0, q_b1, p_0, p_1, p_2, p_3, p_4, p_5, p_b0, p_b1, e_lcmp, pl_0, pl_1, pl_2, pl_3, pl_4, pl_5, e_i2l, e_l2i, e_idiv, e_irem, e_ldiv, e_lrem, List.set_cons_zero, List.set_cons_succ, List.getD_cons_zero, List.getD_cons_succ, List.getD_nil, dT, dF, decide_true, decide_false, not_true_eq_false, not_false_eq_true, Bool.not_true, Bool.not_false, zLay_1, zLay_c1, zLay_c2, zLay_n, zWds_n, zWds_c, zCat_0, zCat_1, zCat_3, zCat_4, zLay_4, List.nil_append, List.cons_append, List.replicate_succ, List.replicate_zero, zTy_0, zTy_b0, zTy_1, zTy_3, zTy_3n, zTy_4, and_true, true_and, Option.bind_some, zNul_n, zNul_r, List.getElem?_cons_zero, List.getElem?_cons_succ, Int.add_zero, zTv_B, zTy_B, b_and, b_or, b_andn, b_not, b_shl, b_cmp, b_cmp0, b_cmp0l, b_eq0, b_eq1, zs_2, zl_21, zl_22, gf_s, gf_l, pf_s, pf_l, zl_z, zs_z, nA, and_self, Nat.le_refl, Option.some.injEq, eq_self, Nat.reduceAdd, Nat.reduceSub, tg_m, mf_0, mf_1, mf_2, mf_3, mf_4, mf_5, mf_6, mf_7, mf_8, mf_9, mp_10, mf_10, mp_11, mf_11, mp_12, mf_12, mp_13, mf_13, mp_14, mf_14, mf_15, mf_16, mp_17, mf_17, mf_18, mf_19, mp_20, mf_20, mp_21, mf_21, mf_22, mp_23, mf_23, mp_24, mf_24, mf_25, mp_26, mf_26, ax_1, asa_1, aso_1, ax_2, asa_2, aso_2, ax_3, asa_3, aso_3, ax_4, asa_4, aso_4, ax_5, asa_5, aso_5, ax_6, asa_6, aso_6, ax_7, asa_7, aso_7, ax_8, asa_8, aso_8, ax_9, asa_9, aso_9, ax_10, asa_10, aso_10, ax_11, asa_11, aso_11, ax_12, asa_12, aso_12, ax_13, asa_13, aso_13, ax_14, asa_14, aso_14, ax_15, asa_15, aso_15, ax_16, asa_16, aso_16, hp_2, us_s, us_k, us_j, us_r, S_Mo_layLeaves, L_Mo_layLeaves_0]
  refine wForI (fun i env h' => h' = hp m (layL s (tS a (371 + 521 * t)) S i.toNat) r ∧ env = [.ref m, vi t, vB S, .null, vi i]) 0 n (by omega) (by omega) ⟨rfl, rfl⟩ ?_ ?_
  · intro i env h' i0 i1 ⟨hh, he⟩
    subst hh
    subst he
    obtain ⟨y0, y1, y2, y3⟩ := layL_f (s := s) (T := (tS a (371 + 521 * t))) (S := S) i.toNat
    have e1 : layL s (tS a (371 + 521 * t)) S i.toNat 1 = a := (y2 1 (by decide) (by decide)).trans ha
    generalize hs1 : layL s (tS a (371 + 521 * t)) S i.toNat = s1 at *
    have tn := q_tN (m := m) (s := s1) (r := r) t0 t4
    rw [e1, nt] at tn
    have kA := q_kA (m := m) (r := r) (s := s1) (t := t) (k := i) t0 t4 i0 (by omega)
    have kR := q_kR (m := m) (r := r) (s := s1) (t := t) (k := i) t0 t4 i0 (by omega)
    have kW := q_wt (m := m) (r := r) (s := s1) (t := t) (k := i) t0 t4 i0 (by omega)
    rw [e1] at kA kR kW
    have cn := cnt_nn (P := bHas S) (k := i)
    have cl := cnt_le (P := bHas S) i0
    rw [show ((i.toNat : Nat) : Int) = i by omega] at y0
    have cm := e_come (m := m) (s := s1) (r := r) (a := (tS a (371 + 521 * t)) 3 i) (b := (tS a (371 + 521 * t)) 4 i) (w := (tS a (371 + 521 * t)) 5 i) (o := -1) (e := -1) (by omega) (by omega)
    have nx : layL s (tS a (371 + 521 * t)) S (i + 1).toNat = if bHas S i = true then sCome s1 ((tS a (371 + 521 * t)) 3 i) ((tS a (371 + 521 * t)) 4 i) ((tS a (371 + 521 * t)) 5 i) (-1) (-1) else s1 := by
      rw [show (i + 1).toNat = i.toNat + 1 by omega, ← hs1]
      show (if bHas S (i.toNat : Int) = true then sCome (layL s (tS a (371 + 521 * t)) S i.toNat) ((tS a (371 + 521 * t)) 3 (i.toNat : Int)) ((tS a (371 + 521 * t)) 4 (i.toNat : Int)) ((tS a (371 + 521 * t)) 5 (i.toNat : Int)) (-1) (-1) else layL s (tS a (371 + 521 * t)) S i.toNat) = _
      rw [show ((i.toNat : Nat) : Int) = i by omega]
    have hs := e_has (a := S) (k := i) (h := hp m s1 r) i0 (by omega)
    by_cases c : bHas S i = true
    · rw [c] at hs
      rw [if_pos c] at nx
      simp (disch := first | assumption | omega | exact zTy_0 | exact zTy_3 | exact zTy_3n | exact zTy_1 | exact zTy_B | exact zTy_b0 | exact zTy_4 | exact zEl_n | exact zEz4 | exact zEz9 | exact hz _ _ | exact hz2 _ _ | exact zI0 | exact zI1 | exact zI2 | exact zI3 | exact zI4 | exact zI5 | exact zI6 | exact zI7 | exact zI8 | exact zI9 | exact zI10 | (simp only [zl_21, zl_22, zs_2, ne_eq]; omega) | ((repeat (refine Eq.trans (us_r (by decide)) ?_)); assumption) | ((simp (decide := true) only [us_k, us_s]); omega)) only [↓rKi, ↓rKl, ↓rKn, ↓rKd, ↓rL, ↓r2, ↓r1, ↓rC2, ↓rC1, ↓rCn, ↓rNot, ↓rAnd, ↓rOr, ↓rCi, ↓rBx, ↓rIte, ↓rGf, ↓rLen, ↓rAx, ↓rNa, ↓rA0, ↓rA1, ↓rCs, ↓rCv, ↓rAn, ↓rNew, ↓rSeq, ↓rSkip, ↓rBrk, ↓rCnt, ↓rRetV, ↓rAsg, ↓rRet, ↓rIf, ↓rPf, ↓rPfo, ↓rAs, ↓rAso, ↓rDo, ↓rObj, ↓rBl, ↓rSw, ↓rCopy, ↓zSq_0, ↓zSq_r, ↓zSq_1, ↓zSq_2, ↓zBq_l, ↓zBq_r, ↓zWq_0, ↓zWq_1, ↓zWq_2, ↓zWq_r, ↓zLo_0, ↓zLo_1, ↓zLo_2, ↓zLo_r, ↓zLt_0, ↓rTr, ↓zFin_s, ↓zFin_n, wX_r, wO_s, wI_t, wI_f, zLk_0, zLk_s, zTv_vi, zTv_vb, zTv_vl, zTv_d, zTv_r, zTv_n, zTv_4, zTo_s, zCl_n, zCl_0, zCl_s, Int32.reduceToInt, Int64.reduceToInt, e_add, e_sub, e_mul, e_neg, e_ladd, e_lsub, e_lmul, e_lneg, q_0, q_1, q_2, q_3, q_4, q_5, q_b0, q_b1, p_0, p_1, p_2, p_3, p_4, p_5, p_b0, p_b1, e_lcmp, pl_0, pl_1, pl_2, pl_3, pl_4, pl_5, e_i2l, e_l2i, e_idiv, e_irem, e_ldiv, e_lrem, List.set_cons_zero, List.set_cons_succ, List.getD_cons_zero, List.getD_cons_succ, List.getD_nil, dT, dF, decide_true, decide_false, not_true_eq_false, not_false_eq_true, Bool.not_true, Bool.not_false, zLay_1, zLay_c1, zLay_c2, zLay_n, zWds_n, zWds_c, zCat_0, zCat_1, zCat_3, zCat_4, zLay_4, List.nil_append, List.cons_append, List.replicate_succ, List.replicate_zero, zTy_0, zTy_b0, zTy_1, zTy_3, zTy_3n, zTy_4, and_true, true_and, Option.bind_some, zNul_n, zNul_r, List.getElem?_cons_zero, List.getElem?_cons_succ, Int.add_zero, zTv_B, zTy_B, b_and, b_or, b_andn, b_not, b_shl, b_cmp, b_cmp0, b_cmp0l, b_eq0, b_eq1, zs_2, zl_21, zl_22, gf_s, gf_l, pf_s, pf_l, zl_z, zs_z, nA, and_self, Nat.le_refl, Option.some.injEq, eq_self, Nat.reduceAdd, Nat.reduceSub, tg_m, mf_0, mf_1, mf_2, mf_3, mf_4, mf_5, mf_6, mf_7, mf_8, mf_9, mp_10, mf_10, mp_11, mf_11, mp_12, mf_12, mp_13, mf_13, mp_14, mf_14, mf_15, mf_16, mp_17, mf_17, mf_18, mf_19, mp_20, mf_20, mp_21, mf_21, mf_22, mp_23, mf_23, mp_24, mf_24, mf_25, mp_26, mf_26, ax_1, asa_1, aso_1, ax_2, asa_2, aso_2, ax_3, asa_3, aso_3, ax_4, asa_4, aso_4, ax_5, asa_5, aso_5, ax_6, asa_6, aso_6, ax_7, asa_7, aso_7, ax_8, asa_8, aso_8, ax_9, asa_9, aso_9, ax_10, asa_10, aso_10, ax_11, asa_11, aso_11, ax_12, asa_12, aso_12, ax_13, asa_13, aso_13, ax_14, asa_14, aso_14, ax_15, asa_15, aso_15, ax_16, asa_16, aso_16, hp_2, us_s, us_k, us_j, us_r, C_Mo_layLeaves_0, B_Mo_layLeaves_0, T_Mo_layLeaves_0, tn, hs, kA, kR, kW, cm, nx]
    · rw [if_neg c] at nx
      have c' : bHas S i = false := by cases z : bHas S i with
        | false => rfl
        | true => exact absurd z c
      rw [c'] at hs
      simp (disch := first | assumption | omega | exact zTy_0 | exact zTy_3 | exact zTy_3n | exact zTy_1 | exact zTy_B | exact zTy_b0 | exact zTy_4 | exact zEl_n | exact zEz4 | exact zEz9 | exact hz _ _ | exact hz2 _ _ | exact zI0 | exact zI1 | exact zI2 | exact zI3 | exact zI4 | exact zI5 | exact zI6 | exact zI7 | exact zI8 | exact zI9 | exact zI10 | (simp only [zl_21, zl_22, zs_2, ne_eq]; omega) | ((repeat (refine Eq.trans (us_r (by decide)) ?_)); assumption) | ((simp (decide := true) only [us_k, us_s]); omega)) only [↓rKi, ↓rKl, ↓rKn, ↓rKd, ↓rL, ↓r2, ↓r1, ↓rC2, ↓rC1, ↓rCn, ↓rNot, ↓rAnd, ↓rOr, ↓rCi, ↓rBx, ↓rIte, ↓rGf, ↓rLen, ↓rAx, ↓rNa, ↓rA0, ↓rA1, ↓rCs, ↓rCv, ↓rAn, ↓rNew, ↓rSeq, ↓rSkip, ↓rBrk, ↓rCnt, ↓rRetV, ↓rAsg, ↓rRet, ↓rIf, ↓rPf, ↓rPfo, ↓rAs, ↓rAso, ↓rDo, ↓rObj, ↓rBl, ↓rSw, ↓rCopy, ↓zSq_0, ↓zSq_r, ↓zSq_1, ↓zSq_2, ↓zBq_l, ↓zBq_r, ↓zWq_0, ↓zWq_1, ↓zWq_2, ↓zWq_r, ↓zLo_0, ↓zLo_1, ↓zLo_2, ↓zLo_r, ↓zLt_0, ↓rTr, ↓zFin_s, ↓zFin_n, wX_r, wO_s, wI_t, wI_f, zLk_0, zLk_s, zTv_vi, zTv_vb, zTv_vl, zTv_d, zTv_r, zTv_n, zTv_4, zTo_s, zCl_n, zCl_0, zCl_s, Int32.reduceToInt, Int64.reduceToInt, e_add, e_sub, e_mul, e_neg, e_ladd, e_lsub, e_lmul, e_lneg, q_0, q_1, q_2, q_3, q_4, q_5, q_b0, q_b1, p_0, p_1, p_2, p_3, p_4, p_5, p_b0, p_b1, e_lcmp, pl_0, pl_1, pl_2, pl_3, pl_4, pl_5, e_i2l, e_l2i, e_idiv, e_irem, e_ldiv, e_lrem, List.set_cons_zero, List.set_cons_succ, List.getD_cons_zero, List.getD_cons_succ, List.getD_nil, dT, dF, decide_true, decide_false, not_true_eq_false, not_false_eq_true, Bool.not_true, Bool.not_false, zLay_1, zLay_c1, zLay_c2, zLay_n, zWds_n, zWds_c, zCat_0, zCat_1, zCat_3, zCat_4, zLay_4, List.nil_append, List.cons_append, List.replicate_succ, List.replicate_zero, zTy_0, zTy_b0, zTy_1, zTy_3, zTy_3n, zTy_4, and_true, true_and, Option.bind_some, zNul_n, zNul_r, List.getElem?_cons_zero, List.getElem?_cons_succ, Int.add_zero, zTv_B, zTy_B, b_and, b_or, b_andn, b_not, b_shl, b_cmp, b_cmp0, b_cmp0l, b_eq0, b_eq1, zs_2, zl_21, zl_22, gf_s, gf_l, pf_s, pf_l, zl_z, zs_z, nA, and_self, Nat.le_refl, Option.some.injEq, eq_self, Nat.reduceAdd, Nat.reduceSub, tg_m, mf_0, mf_1, mf_2, mf_3, mf_4, mf_5, mf_6, mf_7, mf_8, mf_9, mp_10, mf_10, mp_11, mf_11, mp_12, mf_12, mp_13, mf_13, mp_14, mf_14, mf_15, mf_16, mp_17, mf_17, mf_18, mf_19, mp_20, mf_20, mp_21, mf_21, mf_22, mp_23, mf_23, mp_24, mf_24, mf_25, mp_26, mf_26, ax_1, asa_1, aso_1, ax_2, asa_2, aso_2, ax_3, asa_3, aso_3, ax_4, asa_4, aso_4, ax_5, asa_5, aso_5, ax_6, asa_6, aso_6, ax_7, asa_7, aso_7, ax_8, asa_8, aso_8, ax_9, asa_9, aso_9, ax_10, asa_10, aso_10, ax_11, asa_11, aso_11, ax_12, asa_12, aso_12, ax_13, asa_13, aso_13, ax_14, asa_14, aso_14, ax_15, asa_15, aso_15, ax_16, asa_16, aso_16, hp_2, us_s, us_k, us_j, us_r, C_Mo_layLeaves_0, B_Mo_layLeaves_0, T_Mo_layLeaves_0, tn, hs, nx]
  · intro env h' ⟨hh, he⟩
    subst hh
    subst he
    obtain ⟨y0, y1, y2, y3⟩ := layL_f (s := s) (T := (tS a (371 + 521 * t))) (S := S) n
    have e1 : layL s (tS a (371 + 521 * t)) S n 1 = a := (y2 1 (by decide) (by decide)).trans ha
    rw [show ((n : Int)).toNat = n by omega]
    have tn := q_tN (m := m) (s := layL s (tS a (371 + 521 * t)) S n) (r := r) t0 t4
    rw [e1, nt] at tn
    simp (disch := first | assumption | omega | exact zTy_0 | exact zTy_3 | exact zTy_3n | exact zTy_1 | exact zTy_B | exact zTy_b0 | exact zTy_4 | exact zEl_n | exact zEz4 | exact zEz9 | exact hz _ _ | exact hz2 _ _ | exact zI0 | exact zI1 | exact zI2 | exact zI3 | exact zI4 | exact zI5 | exact zI6 | exact zI7 | exact zI8 | exact zI9 | exact zI10 | (simp only [zl_21, zl_22, zs_2, ne_eq]; omega) | ((repeat (refine Eq.trans (us_r (by decide)) ?_)); assumption) | ((simp (decide := true) only [us_k, us_s]); omega)) only [↓rKi, ↓rKl, ↓rKn, ↓rKd, ↓rL, ↓r2, ↓r1, ↓rC2, ↓rC1, ↓rCn, ↓rNot, ↓rAnd, ↓rOr, ↓rCi, ↓rBx, ↓rIte, ↓rGf, ↓rLen, ↓rAx, ↓rNa, ↓rA0, ↓rA1, ↓rCs, ↓rCv, ↓rAn, ↓rNew, ↓rSeq, ↓rSkip, ↓rBrk, ↓rCnt, ↓rRetV, ↓rAsg, ↓rRet, ↓rIf, ↓rPf, ↓rPfo, ↓rAs, ↓rAso, ↓rDo, ↓rObj, ↓rBl, ↓rSw, ↓rCopy, ↓zSq_0, ↓zSq_r, ↓zSq_1, ↓zSq_2, ↓zBq_l, ↓zBq_r, ↓zWq_0, ↓zWq_1, ↓zWq_2, ↓zWq_r, ↓zLo_0, ↓zLo_1, ↓zLo_2, ↓zLo_r, ↓zLt_0, ↓rTr, ↓zFin_s, ↓zFin_n, wX_r, wO_s, wI_t, wI_f, zLk_0, zLk_s, zTv_vi, zTv_vb, zTv_vl, zTv_d, zTv_r, zTv_n, zTv_4, zTo_s, zCl_n, zCl_0, zCl_s, Int32.reduceToInt, Int64.reduceToInt, e_add, e_sub, e_mul, e_neg, e_ladd, e_lsub, e_lmul, e_lneg, q_0, q_1, q_2, q_3, q_4, q_5, q_b0, q_b1, p_0, p_1, p_2, p_3, p_4, p_5, p_b0, p_b1, e_lcmp, pl_0, pl_1, pl_2, pl_3, pl_4, pl_5, e_i2l, e_l2i, e_idiv, e_irem, e_ldiv, e_lrem, List.set_cons_zero, List.set_cons_succ, List.getD_cons_zero, List.getD_cons_succ, List.getD_nil, dT, dF, decide_true, decide_false, not_true_eq_false, not_false_eq_true, Bool.not_true, Bool.not_false, zLay_1, zLay_c1, zLay_c2, zLay_n, zWds_n, zWds_c, zCat_0, zCat_1, zCat_3, zCat_4, zLay_4, List.nil_append, List.cons_append, List.replicate_succ, List.replicate_zero, zTy_0, zTy_b0, zTy_1, zTy_3, zTy_3n, zTy_4, and_true, true_and, Option.bind_some, zNul_n, zNul_r, List.getElem?_cons_zero, List.getElem?_cons_succ, Int.add_zero, zTv_B, zTy_B, b_and, b_or, b_andn, b_not, b_shl, b_cmp, b_cmp0, b_cmp0l, b_eq0, b_eq1, zs_2, zl_21, zl_22, gf_s, gf_l, pf_s, pf_l, zl_z, zs_z, nA, and_self, Nat.le_refl, Option.some.injEq, eq_self, Nat.reduceAdd, Nat.reduceSub, tg_m, mf_0, mf_1, mf_2, mf_3, mf_4, mf_5, mf_6, mf_7, mf_8, mf_9, mp_10, mf_10, mp_11, mf_11, mp_12, mf_12, mp_13, mf_13, mp_14, mf_14, mf_15, mf_16, mp_17, mf_17, mf_18, mf_19, mp_20, mf_20, mp_21, mf_21, mf_22, mp_23, mf_23, mp_24, mf_24, mf_25, mp_26, mf_26, ax_1, asa_1, aso_1, ax_2, asa_2, aso_2, ax_3, asa_3, aso_3, ax_4, asa_4, aso_4, ax_5, asa_5, aso_5, ax_6, asa_6, aso_6, ax_7, asa_7, aso_7, ax_8, asa_8, aso_8, ax_9, asa_9, aso_9, ax_10, asa_10, aso_10, ax_11, asa_11, aso_11, ax_12, asa_12, aso_12, ax_13, asa_13, aso_13, ax_14, asa_14, aso_14, ax_15, asa_15, aso_15, ax_16, asa_16, aso_16, hp_2, us_s, us_k, us_j, us_r, C_Mo_layLeaves_0, B_Mo_layLeaves_0, T_Mo_layLeaves_0, tn]
end
section
variable {G : zG} {h H h1 : zHp} {x m pp ip st im : Nat} {s s1 s2 : Nat → Int → Int} {r : zHp} {fp fi : Int → Value}
theorem TrAt_GC2 {tr n B po on : Nat} {rad pw sm : Int} {s2 gh T : Nat → Int → Int} {L : Int → BitVec 64} {gi : Nat → Int} {ga : Nat → Int → Value} {rz : zHp} {op J : Int → Int} {ka ba sa : Int → Nat} {fo : Int → Value} (n1 : 1 ≤ n) (c : GC B n n s2 gh L gi ga rz op J ka ba sa) (hB : h.2.1 ≤ B) (hs : s2 0 12 = rad ∧ s2 0 13 = pw ∧ s2 0 14 = sm) (fr : ∀ a, a < h.2.1 → rz.1 a = h.1 a) (e1 : ∀ a, h.2.1 ≤ a → a < rz.2.1 → a ≠ B + 1 → h1.1 a = (bg B tr n rad pw sm gi ga rz).1 a) (ht : h1.1 (B + 1) = some (9, [vi rad, vi pw, vi sm, vi (n : Int), .ref (B + 2), vi (gi 5), .ref (B + 3), vi (gi 6), .ref (B + 4), vi (gi 7), .ref po])) (r1' : rz.2.1 ≤ h1.2.1) (w5 : ∀ k : Int, 0 ≤ k → k < n → s2 5 k ≤ 9999) (ag : agr n s2 T) (hpo : gX (gB G h) h h1 po = some (64, ar on fo)) (org : (T 0 5 = 0 ∧ on = 0) ∨ (T 0 5 = 1 ∧ on = n ∧ ∀ k : Int, 0 ≤ k → k < n → fo k = vi (T 11 k))) : TrAt (gX (gB G h) h h1) (B + 1) T := by
  obtain ⟨tf, g7⟩ := tf_GC n1 c
  have nj := tf_jets tf
  have ge : (n : Int) ≤ s2 0 10 := tf.1.2.2.1.1
  obtain ⟨-, ⟨c4, c5, c6, c7, c8⟩, -, -, ⟨kn, -, sn, B8⟩, b0, b1, b2, -⟩ := c
  have ag' := ag
  obtain ⟨a1, b1', c1'⟩ := ag
  have e10 := a1 10 (by decide) (by decide)
  have at' : ∀ k, k < 8 → k ≠ 1 → gX (gB G h) h h1 (B + k) = bgMk B tr n rad pw sm gi ga k := fun k hk hn => by
    rw [gX_n (by omega) (by omega), e1 _ (by omega) (by omega) (by omega), bg_at k hk]
  have ou : ∀ a o, h.2.1 ≤ a → (a < B ∨ B + 8 ≤ a) → a < rz.2.1 → rz.1 a = o → gX (gB G h) h h1 a = o := fun a o h1' h2 h3 e => by
    rw [gX_n (by omega) (by omega), e1 _ (by omega) h3 (by omega), bg_out h2, e]
  refine ⟨n, gh, L, J, B + 2, B + 3, B + 4, po, ga 0, ga 1, ga 2, fo, on, ka, ba, sa, TF_ext ag' tf, ?_, ⟨at' 2 (by decide) (by decide), at' 3 (by decide) (by decide), at' 4 (by decide) (by decide), hpo⟩, fun k x y => ?_, fun u x y => ?_, fun i x y => ?_, org, fun k x y => ?_⟩
  · rw [gX_n (by omega) (by omega), ht, a1 12 (by decide) (by decide), a1 13 (by decide) (by decide), a1 14 (by decide) (by decide), e10, hs.1, hs.2.1, hs.2.2, ← c5, show (2 : Int) * n - gi 5 = gi 7 by omega, c6]
  · rw [e10] at y
    obtain ⟨y1, y2, y3, y4, y5⟩ := kn k x y
    rw [(kV_agr ag' x y).1, (kV_agr (gh := gh) (L := L) (ka := ka) (ba := ba) ag' x y).2]
    refine ⟨b0 k x y, ou _ _ (by omega) (Or.inr y2.1) y2.2 y1, ?_⟩
    by_cases z : ba k < h.2.1
    · rw [gX_o z]
      rw [fr _ z] at y3
      exact gB_0 z y3
    · exact ou _ _ (by omega) y4 y5 y3
  · rw [sV_agr ag' tf x y]
    obtain ⟨y1, y2, y3⟩ := sn u x y
    exact ⟨b1 u x y, ou _ _ (by omega) (Or.inr y2) y3 y1⟩
  · rw [e10] at y
    exact b2 i x (by omega)
  · rw [b1' 5 k (by decide) (by decide) x (by omega)]
    exact w5 k x y
end
