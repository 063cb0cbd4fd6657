/-! GATHER: tracks are laid out, a tree is laid down -/
section
variable {m : Nat} {s : Nat → Int → Int} {r : zHp}
def layN (s : Nat → Int → Int) : Nat → Nat → Int → Int
  | 0 => us s 0 10 0
  | k + 1 => sCome (layN s k) (mT s k 0) (mT s k 1) (mT s k 2) (-1) (-1)
theorem layN_f : ∀ k : Nat, layN s k 0 10 = k ∧ (∀ i : Int, 0 ≤ i → i < k → layN s k 3 i = mT s i 0 ∧ layN s k 4 i = mT s i 1 ∧ layN s k 5 i = mT s i 2 ∧ layN s k 6 i = -1 ∧ layN s k 7 i = -1 ∧ layN s k 8 i = 1) ∧ (∀ q, q ≠ 0 → (q < 3 ∨ 8 < q) → layN s k q = s q) ∧ ∀ j, j ≠ 10 → layN s k 0 j = s 0 j
  | 0 => ⟨us_s, fun i a b => by omega, fun q a _ => us_r a, fun j a => us_j a⟩
  | k + 1 => by
    obtain ⟨a, b, c, d⟩ := layN_f k
    have e : layN s (k + 1) = sCome (layN s k) (mT s k 0) (mT s k 1) (mT s k 2) (-1) (-1) := rfl
    rw [e]
    unfold sCome
    rw [a]
    refine ⟨us_s, fun i i0 i1 => ?_, fun q q0 q1 => ?_, fun j hj => ?_⟩
    · by_cases z : i = k
      · subst z
        simp [us]
      · have := b i i0 (by omega)
        simp [us, z]
        exact this
    · rw [us_r q0, us_r (by omega), us_r (by omega), us_r (by omega), us_r (by omega), us_r (by omega), us_r (by omega)]
      exact c q q0 q1
    · rw [us_j hj, us_k (by decide), us_k (by decide), us_k (by decide), us_k (by decide), us_k (by decide), us_k (by decide)]
      exact d j hj
theorem e_layTracks {n : Nat} (t0 : 0 ≤ s 1 5) (t4 : s 1 5 < 3) (hn : mN s = n) (n4 : n ≤ 40) : F_Mo_layTracks [.ref m] (hp m s r) = some (none, hp m (layN s n) r) := by
  refine zMeq rfl ?_
  simp (disch := first | assumption | omega | exact zTy_0 | exact zTy_3 | exact zTy_3n | exact zTy_1 | exact zTy_B | exact zTy_b0 | exact zTy_4 | exact zEl_n | exact zEz4 | exact zEz9 | exact hz _ _ | exact hz2 _ _ | exact zI0 | exact zI1 | exact zI2 | exact zI3 | exact zI4 | exact zI5 | exact zI6 | exact zI7 | exact zI8 | exact zI9 | exact zI10 | (simp only [zl_21, zl_22, zs_2, ne_eq]; omega) | ((repeat (refine Eq.trans (us_r (by decide)) ?_)); assumption) | ((simp (decide := true) only [us_k, us_s]); omega)) only [↓rKi, ↓rKl, ↓rKn, ↓rKd, ↓rL, ↓r2, ↓r1, ↓rC2, ↓rC1, ↓rCn, ↓rNot, ↓rAnd, ↓rOr, ↓rCi, ↓rBx, ↓rIte, ↓rGf, ↓rLen, ↓rAx, ↓rNa, ↓rA0, ↓rA1, ↓rCs, ↓rCv, ↓rAn, ↓rNew, ↓rSeq, ↓rSkip, ↓rBrk, ↓rCnt, ↓rRetV, ↓rAsg, ↓rRet, ↓rIf, ↓rPf, ↓rPfo, ↓rAs, ↓rAso, ↓rDo, ↓rObj, ↓rBl, ↓rSw, ↓rCopy, ↓zSq_0, ↓zSq_r, ↓zSq_1, ↓zSq_2, ↓zBq_l, ↓zBq_r, ↓zWq_0, ↓zWq_1, ↓zWq_2, ↓zWq_r, ↓zLo_0, ↓zLo_1, ↓zLo_2, ↓zLo_r, ↓zLt_0, ↓rTr, ↓zFin_s, ↓zFin_n, wX_r, wO_s, wI_t, wI_f, zLk_0, zLk_s, zTv_vi, zTv_vb, zTv_vl, zTv_d, zTv_r, zTv_n, zTv_4, zTo_s, zCl_n, zCl_0, zCl_s, Int32.reduceToInt, Int64.reduceToInt, e_add, e_sub, e_mul, e_neg, e_ladd, e_lsub, e_lmul, e_lneg, q_0, q_1, q_2, q_3, q_4, q_5, q_b0, q_b1, p_0, p_1, p_2, p_3, p_4, p_5, p_b0, p_b1, e_lcmp, pl_0, pl_1, pl_2, pl_3, pl_4, pl_5, e_i2l, e_l2i, e_idiv, e_irem, e_ldiv, e_lrem, List.set_cons_zero, List.set_cons_succ, List.getD_cons_zero, List.getD_cons_succ, List.getD_nil, dT, dF, decide_true, decide_false, not_true_eq_false, not_false_eq_true, Bool.not_true, Bool.not_false, zLay_1, zLay_c1, zLay_c2, zLay_n, zWds_n, zWds_c, zCat_0, zCat_1, zCat_3, zCat_4, zLay_4, List.nil_append, List.cons_append, List.replicate_succ, List.replicate_zero, zTy_0, zTy_b0, zTy_1, zTy_3, zTy_3n, zTy_4, and_true, true_and, Option.bind_some, zNul_n, zNul_r, List.getElem?_cons_zero, List.getElem?_cons_succ, Int.add_zero, zTv_B, zTy_B, b_and, b_or, b_andn, b_not, b_shl, b_cmp, b_cmp0, b_cmp0l, b_eq0, b_eq1, zs_2, zl_21, zl_22, gf_s, gf_l, pf_s, pf_l, zl_z, zs_z, nA, and_self, Nat.le_refl, Option.some.injEq, eq_self, Nat.reduceAdd, Nat.reduceSub, tg_m, mf_0, mf_1, mf_2, mf_3, mf_4, mf_5, mf_6, mf_7, mf_8, mf_9, mp_10, mf_10, mp_11, mf_11, mp_12, mf_12, mp_13, mf_13, mp_14, mf_14, mf_15, mf_16, mp_17, mf_17, mf_18, mf_19, mp_20, mf_20, mp_21, mf_21, mf_22, mp_23, mf_23, mp_24, mf_24, mf_25, mp_26, mf_26, ax_1, asa_1, aso_1, ax_2, asa_2, aso_2, ax_3, asa_3, aso_3, ax_4, asa_4, aso_4, ax_5, asa_5, aso_5, ax_6, asa_6, aso_6, ax_7, asa_7, aso_7, ax_8, asa_8, aso_8, ax_9, asa_9, aso_9, ax_10, asa_10, aso_10, ax_11, asa_11, aso_11, ax_12, asa_12, aso_12, ax_13, asa_13, aso_13, ax_14, asa_14, aso_14, ax_15, asa_15, aso_15, ax_16, asa_16, aso_16, hp_2, us_s, us_k, us_j, us_r, S_Mo_layTracks, L_Mo_layTracks_0]
  refine wForI (fun i env h' => h' = hp m (layN s i.toNat) r ∧ env = [.ref m, vi i]) 0 n (by omega) (by omega) ⟨rfl, rfl⟩ ?_ ?_
  · intro i env h' i0 i1 ⟨hh, he⟩
    subst hh
    subst he
    obtain ⟨a, b, c, d⟩ := layN_f (s := s) i.toNat
    have e1 : layN s i.toNat 1 = s 1 := c 1 (by decide) (by decide)
    have tk := e_tracks (m := m) (s := layN s i.toNat) (r := r) (by rw [e1]; exact t0) (by rw [e1]; exact t4)
    have en : mN (layN s i.toNat) = n := by unfold mN; rw [e1]; exact hn
    have et : ∀ w, mT (layN s i.toNat) i w = mT s i w := fun w => by unfold mT; rw [e1]
    rw [en] at tk
    have o := fun w w0 w1 => e_ofTrack (m := m) (s := layN s i.toNat) (r := r) (t := i) (w := w) (by rw [e1]; exact t0) (by rw [e1]; exact t4) i0 (by omega) w0 w1
    have o0 := o 0 (by decide) (by decide)
    have o1 := o 1 (by decide) (by decide)
    have o2 := o 2 (by decide) (by decide)
    rw [et] at o0 o1 o2
    have cm := e_come (m := m) (s := layN s i.toNat) (r := r) (a := mT s i 0) (b := mT s i 1) (w := mT s i 2) (o := -1) (e := -1) (by omega) (by omega)
    have ee : sCome (layN s i.toNat) (mT s i 0) (mT s i 1) (mT s i 2) (-1) (-1) = layN s (i + 1).toNat := by
      rw [show (i + 1).toNat = i.toNat + 1 by omega]
      show _ = sCome (layN s i.toNat) (mT s i.toNat 0) (mT s i.toNat 1) (mT s i.toNat 2) (-1) (-1)
      rw [show ((i.toNat : Nat) : Int) = i by omega]
    rw [ee] at cm
    simp (disch := first | assumption | omega | exact zTy_0 | exact zTy_3 | exact zTy_3n | exact zTy_1 | exact zTy_B | exact zTy_b0 | exact zTy_4 | exact zEl_n | exact zEz4 | exact zEz9 | exact hz _ _ | exact hz2 _ _ | exact zI0 | exact zI1 | exact zI2 | exact zI3 | exact zI4 | exact zI5 | exact zI6 | exact zI7 | exact zI8 | exact zI9 | exact zI10 | (simp only [zl_21, zl_22, zs_2, ne_eq]; omega) | ((repeat (refine Eq.trans (us_r (by decide)) ?_)); assumption) | ((simp (decide := true) only [us_k, us_s]); omega)) only [↓rKi, ↓rKl, ↓rKn, ↓rKd, ↓rL, ↓r2, ↓r1, ↓rC2, ↓rC1, ↓rCn, ↓rNot, ↓rAnd, ↓rOr, ↓rCi, ↓rBx, ↓rIte, ↓rGf, ↓rLen, ↓rAx, ↓rNa, ↓rA0, ↓rA1, ↓rCs, ↓rCv, ↓rAn, ↓rNew, ↓rSeq, ↓rSkip, ↓rBrk, ↓rCnt, ↓rRetV, ↓rAsg, ↓rRet, ↓rIf, ↓rPf, ↓rPfo, ↓rAs, ↓rAso, ↓rDo, ↓rObj, ↓rBl, ↓rSw, ↓rCopy, ↓zSq_0, ↓zSq_r, ↓zSq_1, ↓zSq_2, ↓zBq_l, ↓zBq_r, ↓zWq_0, ↓zWq_1, ↓zWq_2, ↓zWq_r, ↓zLo_0, ↓zLo_1, ↓zLo_2, ↓zLo_r, ↓zLt_0, ↓rTr, ↓zFin_s, ↓zFin_n, wX_r, wO_s, wI_t, wI_f, zLk_0, zLk_s, zTv_vi, zTv_vb, zTv_vl, zTv_d, zTv_r, zTv_n, zTv_4, zTo_s, zCl_n, zCl_0, zCl_s, Int32.reduceToInt, Int64.reduceToInt, e_add, e_sub, e_mul, e_neg, e_ladd, e_lsub, e_lmul, e_lneg, q_0, q_1, q_2, q_3, q_4, q_5, q_b0, q_b1, p_0, p_1, p_2, p_3, p_4, p_5, p_b0, p_b1, e_lcmp, pl_0, pl_1, pl_2, pl_3, pl_4, pl_5, e_i2l, e_l2i, e_idiv, e_irem, e_ldiv, e_lrem, List.set_cons_zero, List.set_cons_succ, List.getD_cons_zero, List.getD_cons_succ, List.getD_nil, dT, dF, decide_true, decide_false, not_true_eq_false, not_false_eq_true, Bool.not_true, Bool.not_false, zLay_1, zLay_c1, zLay_c2, zLay_n, zWds_n, zWds_c, zCat_0, zCat_1, zCat_3, zCat_4, zLay_4, List.nil_append, List.cons_append, List.replicate_succ, List.replicate_zero, zTy_0, zTy_b0, zTy_1, zTy_3, zTy_3n, zTy_4, and_true, true_and, Option.bind_some, zNul_n, zNul_r, List.getElem?_cons_zero, List.getElem?_cons_succ, Int.add_zero, zTv_B, zTy_B, b_and, b_or, b_andn, b_not, b_shl, b_cmp, b_cmp0, b_cmp0l, b_eq0, b_eq1, zs_2, zl_21, zl_22, gf_s, gf_l, pf_s, pf_l, zl_z, zs_z, nA, and_self, Nat.le_refl, Option.some.injEq, eq_self, Nat.reduceAdd, Nat.reduceSub, tg_m, mf_0, mf_1, mf_2, mf_3, mf_4, mf_5, mf_6, mf_7, mf_8, mf_9, mp_10, mf_10, mp_11, mf_11, mp_12, mf_12, mp_13, mf_13, mp_14, mf_14, mf_15, mf_16, mp_17, mf_17, mf_18, mf_19, mp_20, mf_20, mp_21, mf_21, mf_22, mp_23, mf_23, mp_24, mf_24, mf_25, mp_26, mf_26, ax_1, asa_1, aso_1, ax_2, asa_2, aso_2, ax_3, asa_3, aso_3, ax_4, asa_4, aso_4, ax_5, asa_5, aso_5, ax_6, asa_6, aso_6, ax_7, asa_7, aso_7, ax_8, asa_8, aso_8, ax_9, asa_9, aso_9, ax_10, asa_10, aso_10, ax_11, asa_11, aso_11, ax_12, asa_12, aso_12, ax_13, asa_13, aso_13, ax_14, asa_14, aso_14, ax_15, asa_15, aso_15, ax_16, asa_16, aso_16, hp_2, us_s, us_k, us_j, us_r, C_Mo_layTracks_0, B_Mo_layTracks_0, T_Mo_layTracks_0, tk, o0, o1, o2, cm]
  · intro env h' ⟨hh, he⟩
    subst hh
    subst he
    obtain ⟨a, b, c, d⟩ := layN_f (s := s) n
    have e1 : layN s n 1 = s 1 := c 1 (by decide) (by decide)
    have tk := e_tracks (m := m) (s := layN s n) (r := r) (by rw [e1]; exact t0) (by rw [e1]; exact t4)
    have en : mN (layN s n) = n := by unfold mN; rw [e1]; exact hn
    rw [en] at tk
    rw [show ((n : Int)).toNat = n by omega]
    simp (disch := first | assumption | omega | exact zTy_0 | exact zTy_3 | exact zTy_3n | exact zTy_1 | exact zTy_B | exact zTy_b0 | exact zTy_4 | exact zEl_n | exact zEz4 | exact zEz9 | exact hz _ _ | exact hz2 _ _ | exact zI0 | exact zI1 | exact zI2 | exact zI3 | exact zI4 | exact zI5 | exact zI6 | exact zI7 | exact zI8 | exact zI9 | exact zI10 | (simp only [zl_21, zl_22, zs_2, ne_eq]; omega) | ((repeat (refine Eq.trans (us_r (by decide)) ?_)); assumption) | ((simp (decide := true) only [us_k, us_s]); omega)) only [↓rKi, ↓rKl, ↓rKn, ↓rKd, ↓rL, ↓r2, ↓r1, ↓rC2, ↓rC1, ↓rCn, ↓rNot, ↓rAnd, ↓rOr, ↓rCi, ↓rBx, ↓rIte, ↓rGf, ↓rLen, ↓rAx, ↓rNa, ↓rA0, ↓rA1, ↓rCs, ↓rCv, ↓rAn, ↓rNew, ↓rSeq, ↓rSkip, ↓rBrk, ↓rCnt, ↓rRetV, ↓rAsg, ↓rRet, ↓rIf, ↓rPf, ↓rPfo, ↓rAs, ↓rAso, ↓rDo, ↓rObj, ↓rBl, ↓rSw, ↓rCopy, ↓zSq_0, ↓zSq_r, ↓zSq_1, ↓zSq_2, ↓zBq_l, ↓zBq_r, ↓zWq_0, ↓zWq_1, ↓zWq_2, ↓zWq_r, ↓zLo_0, ↓zLo_1, ↓zLo_2, ↓zLo_r, ↓zLt_0, ↓rTr, ↓zFin_s, ↓zFin_n, wX_r, wO_s, wI_t, wI_f, zLk_0, zLk_s, zTv_vi, zTv_vb, zTv_vl, zTv_d, zTv_r, zTv_n, zTv_4, zTo_s, zCl_n, zCl_0, zCl_s, Int32.reduceToInt, Int64.reduceToInt, e_add, e_sub, e_mul, e_neg, e_ladd, e_lsub, e_lmul, e_lneg, q_0, q_1, q_2, q_3, q_4, q_5, q_b0, q_b1, p_0, p_1, p_2, p_3, p_4, p_5, p_b0, p_b1, e_lcmp, pl_0, pl_1, pl_2, pl_3, pl_4, pl_5, e_i2l, e_l2i, e_idiv, e_irem, e_ldiv, e_lrem, List.set_cons_zero, List.set_cons_succ, List.getD_cons_zero, List.getD_cons_succ, List.getD_nil, dT, dF, decide_true, decide_false, not_true_eq_false, not_false_eq_true, Bool.not_true, Bool.not_false, zLay_1, zLay_c1, zLay_c2, zLay_n, zWds_n, zWds_c, zCat_0, zCat_1, zCat_3, zCat_4, zLay_4, List.nil_append, List.cons_append, List.replicate_succ, List.replicate_zero, zTy_0, zTy_b0, zTy_1, zTy_3, zTy_3n, zTy_4, and_true, true_and, Option.bind_some, zNul_n, zNul_r, List.getElem?_cons_zero, List.getElem?_cons_succ, Int.add_zero, zTv_B, zTy_B, b_and, b_or, b_andn, b_not, b_shl, b_cmp, b_cmp0, b_cmp0l, b_eq0, b_eq1, zs_2, zl_21, zl_22, gf_s, gf_l, pf_s, pf_l, zl_z, zs_z, nA, and_self, Nat.le_refl, Option.some.injEq, eq_self, Nat.reduceAdd, Nat.reduceSub, tg_m, mf_0, mf_1, mf_2, mf_3, mf_4, mf_5, mf_6, mf_7, mf_8, mf_9, mp_10, mf_10, mp_11, mf_11, mp_12, mf_12, mp_13, mf_13, mp_14, mf_14, mf_15, mf_16, mp_17, mf_17, mf_18, mf_19, mp_20, mf_20, mp_21, mf_21, mf_22, mp_23, mf_23, mp_24, mf_24, mf_25, mp_26, mf_26, ax_1, asa_1, aso_1, ax_2, asa_2, aso_2, ax_3, asa_3, aso_3, ax_4, asa_4, aso_4, ax_5, asa_5, aso_5, ax_6, asa_6, aso_6, ax_7, asa_7, aso_7, ax_8, asa_8, aso_8, ax_9, asa_9, aso_9, ax_10, asa_10, aso_10, ax_11, asa_11, aso_11, ax_12, asa_12, aso_12, ax_13, asa_13, aso_13, ax_14, asa_14, aso_14, ax_15, asa_15, aso_15, ax_16, asa_16, aso_16, hp_2, us_s, us_k, us_j, us_r, C_Mo_layTracks_0, B_Mo_layTracks_0, T_Mo_layTracks_0, tk]
theorem gSet_f {a b c : Int} : (gSet s a b c 0 10 = s 0 10 ∧ gSet s a b c 0 11 = 0 ∧ gSet s a b c 0 12 = a ∧ gSet s a b c 0 13 = b ∧ gSet s a b c 0 14 = c) ∧ ∀ q, q ≠ 0 → gSet s a b c q = s q := by
  refine ⟨by simp [gSet, us], fun q hq => ?_⟩
  unfold gSet
  rw [us_r hq, us_r hq, us_r hq, us_r hq]
theorem GI_lay {n : Nat} {a b c : Int} (hn : n ≤ 40) (h10 : s 0 10 = n) (rows : ∀ i : Int, 0 ≤ i → i < n → ((-200 ≤ s 3 i ∧ s 3 i ≤ 200) ∧ (0 ≤ s 4 i ∧ s 4 i < 360) ∧ 1 ≤ s 5 i ∧ s 5 i ≤ 9999) ∧ s 8 i = 1) (ha : 1 ≤ a ∧ a ≤ 200) (hb : -1 ≤ b ∧ b ≤ 1) : GI n 0 (gSet s a b c) := by
  obtain ⟨⟨f0, f1, f2, f3, f4⟩, f5⟩ := gSet_f (s := s) (a := a) (b := b) (c := c)
  rw [h10] at f0
  refine ⟨by omega, f1, by omega, fun k k0 k1 => ?_, ⟨by omega, by omega⟩, fun k k0 k1 => ?_, ?_, ?_⟩
  · rw [f5 3 (by decide), f5 4 (by decide), f5 5 (by decide)]
    have := rows k k0 (by omega)
    omega
  · rw [f5 8 (by decide)]
    have := rows k k0 (by omega)
    omega
  · rw [f5 8 (by decide), f0, show ((n : Int)).toNat = n by omega]
    have e : ∀ N : Nat, N ≤ n → isum (s 8) N = N := by
      intro N
      induction N with
      | zero => intro _; rfl
      | succ N ih =>
        intro h
        show isum (s 8) N + s 8 N = _
        rw [ih (by omega), (rows N (by omega) (by omega)).2]
        omega
    rw [e n (Nat.le_refl _)]
    omega
  · rw [f5 8 (by decide), f5 5 (by decide), f0, show ((n : Int)).toNat = n by omega]
    have e : ∀ N : Nat, N ≤ n → isum (fun k => s 8 k * s 5 k) N ≤ 9999 * N := by
      intro N
      induction N with
      | zero => intro _; exact Int.le_refl _
      | succ N ih =>
        intro h
        show isum _ N + s 8 N * s 5 N ≤ _
        have y := rows N (by omega) (by omega)
        have y1 := ih (by omega)
        rw [y.2, Int.one_mul]
        omega
    have := e n (Nat.le_refl _)
    omega
theorem sStep_1 {k e : Int} {q : Nat} (hq : q ≠ 0) (h2 : q < 3 ∨ 10 < q) : sStep s k e q = s q := by
  have sc : ∀ (u : Nat → Int → Int) (a b w o e : Int), sCome u a b w o e q = u q := fun u a b w o e => by
    unfold sCome
    rw [us_r hq, us_r (by omega), us_r (by omega), us_r (by omega), us_r (by omega), us_r (by omega), us_r (by omega)]
  unfold sStep
  split
  · rw [us_r (by omega), us_r hq, us_r (by omega), us_r (by omega)]
  · unfold sJoin
    split <;> rw [sc, us_r (by omega), us_r (by omega), us_r hq, us_r (by omega), us_r (by omega)]
theorem gRun_1 {q : Nat} (hq : q ≠ 0) (h2 : q < 3 ∨ 10 < q) : ∀ {n : Nat} {s s2 : Nat → Int → Int}, gRun n s s2 → s2 q = s q
  | 0, s, s2, h => by
    have h : s2 = s := h
    rw [h]
  | n + 1, s, s2, h => by
    obtain ⟨k, e, -, h⟩ := h
    rw [gRun_1 hq h2 h, sStep_1 hq h2]
/-- rows go down, five words each -/
def lyA (s : Nat → Int → Int) (b k : Int) : Nat → Int → Int := fun q j => if q = 1 ∧ b ≤ j ∧ j < b + 5 * k then s (3 + ((j - b) % 5).toNat) ((j - b) / 5) else s q j
theorem lyA_s {b k : Int} (k0 : 0 ≤ k) : us (us (us (us (us (lyA s b k) 1 (b + 5 * k) (s 3 k)) 1 (b + 5 * k + 1) (s 4 k)) 1 (b + 5 * k + 2) (s 5 k)) 1 (b + 5 * k + 3) (s 6 k)) 1 (b + 5 * k + 4) (s 7 k) = lyA s b (k + 1) := by
  funext q j
  unfold us lyA
  by_cases c : q = 1 ∧ b + 5 * k ≤ j ∧ j < b + 5 * k + 5
  · obtain ⟨c0, c1, c2⟩ := c
    subst c0
    have hj : j = b + 5 * k ∨ j = b + 5 * k + 1 ∨ j = b + 5 * k + 2 ∨ j = b + 5 * k + 3 ∨ j = b + 5 * k + 4 := by omega
    have e2 : (j - b) / 5 = k := by omega
    rw [if_pos (c := (1 = 1 ∧ b ≤ j ∧ j < b + 5 * (k + 1))) ⟨rfl, by omega, by omega⟩, e2]
    rcases hj with q | q | q | q | q
    · rw [if_neg (by omega), if_neg (by omega), if_neg (by omega), if_neg (by omega), if_pos (by omega), show (j - b) % 5 = 0 by omega]; rfl
    · rw [if_neg (by omega), if_neg (by omega), if_neg (by omega), if_pos (by omega), show (j - b) % 5 = 1 by omega]; rfl
    · rw [if_neg (by omega), if_neg (by omega), if_pos (by omega), show (j - b) % 5 = 2 by omega]; rfl
    · rw [if_neg (by omega), if_pos (by omega), show (j - b) % 5 = 3 by omega]; rfl
    · rw [if_pos (by omega), show (j - b) % 5 = 4 by omega]; rfl
  · rw [if_neg (by omega), if_neg (by omega), if_neg (by omega), if_neg (by omega), if_neg (by omega)]
    by_cases d : q = 1 ∧ b ≤ j ∧ j < b + 5 * k
    · rw [if_pos d, if_pos (by omega)]
    · rw [if_neg d, if_neg (by omega)]
def lyB (s : Nat → Int → Int) (b k : Int) : Nat → Int → Int := fun q j => if q = 1 ∧ b ≤ j ∧ j < b + 2 * k then s (9 + ((j - b) % 2).toNat) ((j - b) / 2) else s q j
theorem lyB_s {b k : Int} (k0 : 0 ≤ k) : us (us (lyB s b k) 1 (b + 2 * k) (s 9 k)) 1 (b + 2 * k + 1) (s 10 k) = lyB s b (k + 1) := by
  funext q j
  unfold us lyB
  by_cases c : q = 1 ∧ b + 2 * k ≤ j ∧ j < b + 2 * k + 2
  · obtain ⟨c0, c1, c2⟩ := c
    subst c0
    have hj : j = b + 2 * k ∨ j = b + 2 * k + 1 := by omega
    have e2 : (j - b) / 2 = k := by omega
    rw [if_pos (c := (1 = 1 ∧ b ≤ j ∧ j < b + 2 * (k + 1))) ⟨rfl, by omega, by omega⟩, e2]
    rcases hj with q | q
    · rw [if_neg (by omega), if_pos (by omega), show (j - b) % 2 = 0 by omega]; rfl
    · rw [if_pos (by omega), show (j - b) % 2 = 1 by omega]; rfl
  · rw [if_neg (by omega), if_neg (by omega)]
    by_cases d : q = 1 ∧ b ≤ j ∧ j < b + 2 * k
    · rw [if_pos d, if_pos (by omega)]
    · rw [if_neg d, if_neg (by omega)]
def lyH (s : Nat → Int → Int) (b : Int) : Nat → Int → Int := us (us (us (us (us (clS s b 521) 1 b (s 0 10)) 1 (b + 1) (s 0 11)) 1 (b + 2) (s 0 12)) 1 (b + 3) (s 0 13)) 1 (b + 4) (s 0 14)
def lyTr (s : Nat → Int → Int) (t : Int) : Nat → Int → Int := us (lyB (lyA (lyH s (371 + 521 * t)) (371 + 521 * t + 6) (s 0 10)) (371 + 521 * t + 401) (s 0 11)) 1 7 (sbt (s 1 7) t)
theorem lyH_q {b : Int} {q : Nat} (hq : q ≠ 1) : lyH s b q = s q := by
  unfold lyH
  rw [us_r hq, us_r hq, us_r hq, us_r hq, us_r hq]
  funext j
  exact if_neg (fun z => hq z.1)
theorem lyA_q {b k : Int} {q : Nat} (hq : q ≠ 1) : lyA s b k q = s q := by funext j; exact if_neg (fun z => hq z.1)
theorem lyB_q {b k : Int} {q : Nat} (hq : q ≠ 1) : lyB s b k q = s q := by funext j; exact if_neg (fun z => hq z.1)
theorem m_layTree {t : Int} (t0 : 0 ≤ t) (t4 : t < 4) (k0 : 0 ≤ s 0 10 ∧ s 0 10 ≤ 79) (k1 : 0 ≤ s 0 11 ∧ s 0 11 ≤ 40) (b7 : 0 ≤ s 1 7 ∧ s 1 7 < 16) : F_Mo_layTree [.ref m, vi t] (hp m s r) = some (none, hp m (lyTr s t) r) := by
  have cl := m_clear (m := m) (s := s) (r := r) t0 t4
  have c0 : ∀ j, clS s (371 + 521 * t) 521 0 j = s 0 j := fun j => if_neg (by omega)
  refine zMeq rfl ?_
  simp (disch := first | assumption | omega | exact zTy_0 | exact zTy_3 | exact zTy_3n | exact zTy_1 | exact zTy_B | exact zTy_b0 | exact zTy_4 | exact zEl_n | exact zEz4 | exact zEz9 | exact hz _ _ | exact hz2 _ _ | exact zI0 | exact zI1 | exact zI2 | exact zI3 | exact zI4 | exact zI5 | exact zI6 | exact zI7 | exact zI8 | exact zI9 | exact zI10 | (simp only [zl_21, zl_22, zs_2, ne_eq]; omega) | ((repeat (refine Eq.trans (us_r (by decide)) ?_)); assumption) | ((simp (decide := true) only [us_k, us_s]); omega)) only [↓rKi, ↓rKl, ↓rKn, ↓rKd, ↓rL, ↓r2, ↓r1, ↓rC2, ↓rC1, ↓rCn, ↓rNot, ↓rAnd, ↓rOr, ↓rCi, ↓rBx, ↓rIte, ↓rGf, ↓rLen, ↓rAx, ↓rNa, ↓rA0, ↓rA1, ↓rCs, ↓rCv, ↓rAn, ↓rNew, ↓rSeq, ↓rSkip, ↓rBrk, ↓rCnt, ↓rRetV, ↓rAsg, ↓rRet, ↓rIf, ↓rPf, ↓rPfo, ↓rAs, ↓rAso, ↓rDo, ↓rObj, ↓rBl, ↓rSw, ↓rCopy, ↓zSq_0, ↓zSq_r, ↓zSq_1, ↓zSq_2, ↓zBq_l, ↓zBq_r, ↓zWq_0, ↓zWq_1, ↓zWq_2, ↓zWq_r, ↓zLo_0, ↓zLo_1, ↓zLo_2, ↓zLo_r, ↓zLt_0, ↓rTr, ↓zFin_s, ↓zFin_n, wX_r, wO_s, wI_t, wI_f, zLk_0, zLk_s, zTv_vi, zTv_vb, zTv_vl, zTv_d, zTv_r, zTv_n, zTv_4, zTo_s, zCl_n, zCl_0, zCl_s, Int32.reduceToInt, Int64.reduceToInt, e_add, e_sub, e_mul, e_neg, e_ladd, e_lsub, e_lmul, e_lneg, q_0, q_1, q_2, q_3, q_4, q_5, q_b0, q_b1, p_0, p_1, p_2, p_3, p_4, p_5, p_b0, p_b1, e_lcmp, pl_0, pl_1, pl_2, pl_3, pl_4, pl_5, e_i2l, e_l2i, e_idiv, e_irem, e_ldiv, e_lrem, List.set_cons_zero, List.set_cons_succ, List.getD_cons_zero, List.getD_cons_succ, List.getD_nil, dT, dF, decide_true, decide_false, not_true_eq_false, not_false_eq_true, Bool.not_true, Bool.not_false, zLay_1, zLay_c1, zLay_c2, zLay_n, zWds_n, zWds_c, zCat_0, zCat_1, zCat_3, zCat_4, zLay_4, List.nil_append, List.cons_append, List.replicate_succ, List.replicate_zero, zTy_0, zTy_b0, zTy_1, zTy_3, zTy_3n, zTy_4, and_true, true_and, Option.bind_some, zNul_n, zNul_r, List.getElem?_cons_zero, List.getElem?_cons_succ, Int.add_zero, zTv_B, zTy_B, b_and, b_or, b_andn, b_not, b_shl, b_cmp, b_cmp0, b_cmp0l, b_eq0, b_eq1, zs_2, zl_21, zl_22, gf_s, gf_l, pf_s, pf_l, zl_z, zs_z, nA, and_self, Nat.le_refl, Option.some.injEq, eq_self, Nat.reduceAdd, Nat.reduceSub, tg_m, mf_0, mf_1, mf_2, mf_3, mf_4, mf_5, mf_6, mf_7, mf_8, mf_9, mp_10, mf_10, mp_11, mf_11, mp_12, mf_12, mp_13, mf_13, mp_14, mf_14, mf_15, mf_16, mp_17, mf_17, mf_18, mf_19, mp_20, mf_20, mp_21, mf_21, mf_22, mp_23, mf_23, mp_24, mf_24, mf_25, mp_26, mf_26, ax_1, asa_1, aso_1, ax_2, asa_2, aso_2, ax_3, asa_3, aso_3, ax_4, asa_4, aso_4, ax_5, asa_5, aso_5, ax_6, asa_6, aso_6, ax_7, asa_7, aso_7, ax_8, asa_8, aso_8, ax_9, asa_9, aso_9, ax_10, asa_10, aso_10, ax_11, asa_11, aso_11, ax_12, asa_12, aso_12, ax_13, asa_13, aso_13, ax_14, asa_14, aso_14, ax_15, asa_15, aso_15, ax_16, asa_16, aso_16, hp_2, us_s, us_k, us_j, us_r, S_Mo_layTree, L_Mo_layTree_0, L_Mo_layTree_1, cl, e_treeAt, axo_1, c0]
  generalize hH : us (us (us (us (us (clS s (371 + 521 * t) 521) 1 (371 + 521 * t) (s 0 10)) 1 (371 + 521 * t + 1) (s 0 11)) 1 (371 + 521 * t + 2) (s 0 12)) 1 (371 + 521 * t + 3) (s 0 13)) 1 (371 + 521 * t + 4) (s 0 14) = H
  have hH' : lyH s (371 + 521 * t) = H := hH
  have Hq : ∀ q, q ≠ 1 → H q = s q := fun q hq => by rw [← hH']; exact lyH_q hq
  refine wForI (fun k env h' => h' = hp m (lyA H (371 + 521 * t + 6) k) r ∧ env = [.ref m, vi t, vi (371 + 521 * t), vi k, .null]) 0 (s 0 10) (by omega) (by omega) ⟨?_, rfl⟩ ?_ ?_
  · have : lyA H (371 + 521 * t + 6) 0 = H := by funext q j; exact if_neg (by omega)
    rw [this]
  · intro k env h' i0 i1 ⟨hh, he⟩
    subst hh
    subst he
    have q0 : lyA H (371 + 521 * t + 6) k 0 10 = s 0 10 := by rw [lyA_q (by decide), Hq 0 (by decide)]
    have rd : ∀ (q : Nat) (S : Nat → Int → Int), q ≠ 1 → S q = lyA H (371 + 521 * t + 6) k q → S q k = H q k := fun q S hq e => by rw [e, lyA_q hq]
    have st := lyA_s (s := H) (b := 371 + 521 * t + 6) (k := k) i0
    have a3 : lyA H (371 + 521 * t + 6) k 3 k = H 3 k := by rw [lyA_q (by decide)]
    have a4 : lyA H (371 + 521 * t + 6) k 4 k = H 4 k := by rw [lyA_q (by decide)]
    have a5 : lyA H (371 + 521 * t + 6) k 5 k = H 5 k := by rw [lyA_q (by decide)]
    have a6 : lyA H (371 + 521 * t + 6) k 6 k = H 6 k := by rw [lyA_q (by decide)]
    have a7 : lyA H (371 + 521 * t + 6) k 7 k = H 7 k := by rw [lyA_q (by decide)]
    simp (disch := first | assumption | omega | exact zTy_0 | exact zTy_3 | exact zTy_3n | exact zTy_1 | exact zTy_B | exact zTy_b0 | exact zTy_4 | exact zEl_n | exact zEz4 | exact zEz9 | exact hz _ _ | exact hz2 _ _ | exact zI0 | exact zI1 | exact zI2 | exact zI3 | exact zI4 | exact zI5 | exact zI6 | exact zI7 | exact zI8 | exact zI9 | exact zI10 | (simp only [zl_21, zl_22, zs_2, ne_eq]; omega) | ((repeat (refine Eq.trans (us_r (by decide)) ?_)); assumption) | ((simp (decide := true) only [us_k, us_s]); omega)) only [↓rKi, ↓rKl, ↓rKn, ↓rKd, ↓rL, ↓r2, ↓r1, ↓rC2, ↓rC1, ↓rCn, ↓rNot, ↓rAnd, ↓rOr, ↓rCi, ↓rBx, ↓rIte, ↓rGf, ↓rLen, ↓rAx, ↓rNa, ↓rA0, ↓rA1, ↓rCs, ↓rCv, ↓rAn, ↓rNew, ↓rSeq, ↓rSkip, ↓rBrk, ↓rCnt, ↓rRetV, ↓rAsg, ↓rRet, ↓rIf, ↓rPf, ↓rPfo, ↓rAs, ↓rAso, ↓rDo, ↓rObj, ↓rBl, ↓rSw, ↓rCopy, ↓zSq_0, ↓zSq_r, ↓zSq_1, ↓zSq_2, ↓zBq_l, ↓zBq_r, ↓zWq_0, ↓zWq_1, ↓zWq_2, ↓zWq_r, ↓zLo_0, ↓zLo_1, ↓zLo_2, ↓zLo_r, ↓zLt_0, ↓rTr, ↓zFin_s, ↓zFin_n, wX_r, wO_s, wI_t, wI_f, zLk_0, zLk_s, zTv_vi, zTv_vb, zTv_vl, zTv_d, zTv_r, zTv_n, zTv_4, zTo_s, zCl_n, zCl_0, zCl_s, Int32.reduceToInt, Int64.reduceToInt, e_add, e_sub, e_mul, e_neg, e_ladd, e_lsub, e_lmul, e_lneg, q_0, q_1, q_2, q_3, q_4, q_5, q_b0, q_b1, p_0, p_1, p_2, p_3, p_4, p_5, p_b0, p_b1, e_lcmp, pl_0, pl_1, pl_2, pl_3, pl_4, pl_5, e_i2l, e_l2i, e_idiv, e_irem, e_ldiv, e_lrem, List.set_cons_zero, List.set_cons_succ, List.getD_cons_zero, List.getD_cons_succ, List.getD_nil, dT, dF, decide_true, decide_false, not_true_eq_false, not_false_eq_true, Bool.not_true, Bool.not_false, zLay_1, zLay_c1, zLay_c2, zLay_n, zWds_n, zWds_c, zCat_0, zCat_1, zCat_3, zCat_4, zLay_4, List.nil_append, List.cons_append, List.replicate_succ, List.replicate_zero, zTy_0, zTy_b0, zTy_1, zTy_3, zTy_3n, zTy_4, and_true, true_and, Option.bind_some, zNul_n, zNul_r, List.getElem?_cons_zero, List.getElem?_cons_succ, Int.add_zero, zTv_B, zTy_B, b_and, b_or, b_andn, b_not, b_shl, b_cmp, b_cmp0, b_cmp0l, b_eq0, b_eq1, zs_2, zl_21, zl_22, gf_s, gf_l, pf_s, pf_l, zl_z, zs_z, nA, and_self, Nat.le_refl, Option.some.injEq, eq_self, Nat.reduceAdd, Nat.reduceSub, tg_m, mf_0, mf_1, mf_2, mf_3, mf_4, mf_5, mf_6, mf_7, mf_8, mf_9, mp_10, mf_10, mp_11, mf_11, mp_12, mf_12, mp_13, mf_13, mp_14, mf_14, mf_15, mf_16, mp_17, mf_17, mf_18, mf_19, mp_20, mf_20, mp_21, mf_21, mf_22, mp_23, mf_23, mp_24, mf_24, mf_25, mp_26, mf_26, ax_1, asa_1, aso_1, ax_2, asa_2, aso_2, ax_3, asa_3, aso_3, ax_4, asa_4, aso_4, ax_5, asa_5, aso_5, ax_6, asa_6, aso_6, ax_7, asa_7, aso_7, ax_8, asa_8, aso_8, ax_9, asa_9, aso_9, ax_10, asa_10, aso_10, ax_11, asa_11, aso_11, ax_12, asa_12, aso_12, ax_13, asa_13, aso_13, ax_14, asa_14, aso_14, ax_15, asa_15, aso_15, ax_16, asa_16, aso_16, hp_2, us_s, us_k, us_j, us_r, C_Mo_layTree_0, B_Mo_layTree_0, T_Mo_layTree_0, q0, a3, a4, a5, a6, a7, st]
  · intro env h' ⟨hh, he⟩
    subst hh
    subst he
    have q0 : lyA H (371 + 521 * t + 6) (s 0 10) 0 10 = s 0 10 := by rw [lyA_q (by decide), Hq 0 (by decide)]
    simp (disch := first | assumption | omega | exact zTy_0 | exact zTy_3 | exact zTy_3n | exact zTy_1 | exact zTy_B | exact zTy_b0 | exact zTy_4 | exact zEl_n | exact zEz4 | exact zEz9 | exact hz _ _ | exact hz2 _ _ | exact zI0 | exact zI1 | exact zI2 | exact zI3 | exact zI4 | exact zI5 | exact zI6 | exact zI7 | exact zI8 | exact zI9 | exact zI10 | (simp only [zl_21, zl_22, zs_2, ne_eq]; omega) | ((repeat (refine Eq.trans (us_r (by decide)) ?_)); assumption) | ((simp (decide := true) only [us_k, us_s]); omega)) only [↓rKi, ↓rKl, ↓rKn, ↓rKd, ↓rL, ↓r2, ↓r1, ↓rC2, ↓rC1, ↓rCn, ↓rNot, ↓rAnd, ↓rOr, ↓rCi, ↓rBx, ↓rIte, ↓rGf, ↓rLen, ↓rAx, ↓rNa, ↓rA0, ↓rA1, ↓rCs, ↓rCv, ↓rAn, ↓rNew, ↓rSeq, ↓rSkip, ↓rBrk, ↓rCnt, ↓rRetV, ↓rAsg, ↓rRet, ↓rIf, ↓rPf, ↓rPfo, ↓rAs, ↓rAso, ↓rDo, ↓rObj, ↓rBl, ↓rSw, ↓rCopy, ↓zSq_0, ↓zSq_r, ↓zSq_1, ↓zSq_2, ↓zBq_l, ↓zBq_r, ↓zWq_0, ↓zWq_1, ↓zWq_2, ↓zWq_r, ↓zLo_0, ↓zLo_1, ↓zLo_2, ↓zLo_r, ↓zLt_0, ↓rTr, ↓zFin_s, ↓zFin_n, wX_r, wO_s, wI_t, wI_f, zLk_0, zLk_s, zTv_vi, zTv_vb, zTv_vl, zTv_d, zTv_r, zTv_n, zTv_4, zTo_s, zCl_n, zCl_0, zCl_s, Int32.reduceToInt, Int64.reduceToInt, e_add, e_sub, e_mul, e_neg, e_ladd, e_lsub, e_lmul, e_lneg, q_0, q_1, q_2, q_3, q_4, q_5, q_b0, q_b1, p_0, p_1, p_2, p_3, p_4, p_5, p_b0, p_b1, e_lcmp, pl_0, pl_1, pl_2, pl_3, pl_4, pl_5, e_i2l, e_l2i, e_idiv, e_irem, e_ldiv, e_lrem, List.set_cons_zero, List.set_cons_succ, List.getD_cons_zero, List.getD_cons_succ, List.getD_nil, dT, dF, decide_true, decide_false, not_true_eq_false, not_false_eq_true, Bool.not_true, Bool.not_false, zLay_1, zLay_c1, zLay_c2, zLay_n, zWds_n, zWds_c, zCat_0, zCat_1, zCat_3, zCat_4, zLay_4, List.nil_append, List.cons_append, List.replicate_succ, List.replicate_zero, zTy_0, zTy_b0, zTy_1, zTy_3, zTy_3n, zTy_4, and_true, true_and, Option.bind_some, zNul_n, zNul_r, List.getElem?_cons_zero, List.getElem?_cons_succ, Int.add_zero, zTv_B, zTy_B, b_and, b_or, b_andn, b_not, b_shl, b_cmp, b_cmp0, b_cmp0l, b_eq0, b_eq1, zs_2, zl_21, zl_22, gf_s, gf_l, pf_s, pf_l, zl_z, zs_z, nA, and_self, Nat.le_refl, Option.some.injEq, eq_self, Nat.reduceAdd, Nat.reduceSub, tg_m, mf_0, mf_1, mf_2, mf_3, mf_4, mf_5, mf_6, mf_7, mf_8, mf_9, mp_10, mf_10, mp_11, mf_11, mp_12, mf_12, mp_13, mf_13, mp_14, mf_14, mf_15, mf_16, mp_17, mf_17, mf_18, mf_19, mp_20, mf_20, mp_21, mf_21, mf_22, mp_23, mf_23, mp_24, mf_24, mf_25, mp_26, mf_26, ax_1, asa_1, aso_1, ax_2, asa_2, aso_2, ax_3, asa_3, aso_3, ax_4, asa_4, aso_4, ax_5, asa_5, aso_5, ax_6, asa_6, aso_6, ax_7, asa_7, aso_7, ax_8, asa_8, aso_8, ax_9, asa_9, aso_9, ax_10, asa_10, aso_10, ax_11, asa_11, aso_11, ax_12, asa_12, aso_12, ax_13, asa_13, aso_13, ax_14, asa_14, aso_14, ax_15, asa_15, aso_15, ax_16, asa_16, aso_16, hp_2, us_s, us_k, us_j, us_r, C_Mo_layTree_0, B_Mo_layTree_0, T_Mo_layTree_0, q0]
    have Aq : ∀ q, q ≠ 1 → lyA H (371 + 521 * t + 6) (s 0 10) q = s q := fun q hq => by rw [lyA_q hq, Hq q hq]
    have hT : lyTr s t = us (lyB (lyA H (371 + 521 * t + 6) (s 0 10)) (371 + 521 * t + 401) (s 0 11)) 1 7 (sbt (s 1 7) t) := by unfold lyTr; rw [hH']
    have A7 : lyA H (371 + 521 * t + 6) (s 0 10) 1 7 = s 1 7 := by
      refine (if_neg (by omega)).trans ?_
      rw [← hH', lyH, us_j (by omega), us_j (by omega), us_j (by omega), us_j (by omega), us_j (by omega)]
      exact if_neg (by omega)
    generalize lyA H (371 + 521 * t + 6) (s 0 10) = A at *
    refine wForI (fun k env h' => h' = hp m (lyB A (371 + 521 * t + 401) k) r ∧ env = [.ref m, vi t, vi (371 + 521 * t), vi k, .null]) 0 (s 0 11) (by omega) (by omega) ⟨?_, rfl⟩ ?_ ?_
    · have : lyB A (371 + 521 * t + 401) 0 = A := by funext q j; exact if_neg (by omega)
      rw [this]
    · intro k env h' i0 i1 ⟨hh, he⟩
      subst hh
      subst he
      have q1 : lyB A (371 + 521 * t + 401) k 0 11 = s 0 11 := by rw [lyB_q (by decide), Aq 0 (by decide)]
      have st := lyB_s (s := A) (b := 371 + 521 * t + 401) (k := k) i0
      have a3 : lyB A (371 + 521 * t + 401) k 9 k = A 9 k := by rw [lyB_q (by decide)]
      have a4 : lyB A (371 + 521 * t + 401) k 10 k = A 10 k := by rw [lyB_q (by decide)]
      simp (disch := first | assumption | omega | exact zTy_0 | exact zTy_3 | exact zTy_3n | exact zTy_1 | exact zTy_B | exact zTy_b0 | exact zTy_4 | exact zEl_n | exact zEz4 | exact zEz9 | exact hz _ _ | exact hz2 _ _ | exact zI0 | exact zI1 | exact zI2 | exact zI3 | exact zI4 | exact zI5 | exact zI6 | exact zI7 | exact zI8 | exact zI9 | exact zI10 | (simp only [zl_21, zl_22, zs_2, ne_eq]; omega) | ((repeat (refine Eq.trans (us_r (by decide)) ?_)); assumption) | ((simp (decide := true) only [us_k, us_s]); omega)) only [↓rKi, ↓rKl, ↓rKn, ↓rKd, ↓rL, ↓r2, ↓r1, ↓rC2, ↓rC1, ↓rCn, ↓rNot, ↓rAnd, ↓rOr, ↓rCi, ↓rBx, ↓rIte, ↓rGf, ↓rLen, ↓rAx, ↓rNa, ↓rA0, ↓rA1, ↓rCs, ↓rCv, ↓rAn, ↓rNew, ↓rSeq, ↓rSkip, ↓rBrk, ↓rCnt, ↓rRetV, ↓rAsg, ↓rRet, ↓rIf, ↓rPf, ↓rPfo, ↓rAs, ↓rAso, ↓rDo, ↓rObj, ↓rBl, ↓rSw, ↓rCopy, ↓zSq_0, ↓zSq_r, ↓zSq_1, ↓zSq_2, ↓zBq_l, ↓zBq_r, ↓zWq_0, ↓zWq_1, ↓zWq_2, ↓zWq_r, ↓zLo_0, ↓zLo_1, ↓zLo_2, ↓zLo_r, ↓zLt_0, ↓rTr, ↓zFin_s, ↓zFin_n, wX_r, wO_s, wI_t, wI_f, zLk_0, zLk_s, zTv_vi, zTv_vb, zTv_vl, zTv_d, zTv_r, zTv_n, zTv_4, zTo_s, zCl_n, zCl_0, zCl_s, Int32.reduceToInt, Int64.reduceToInt, e_add, e_sub, e_mul, e_neg, e_ladd, e_lsub, e_lmul, e_lneg, q_0, q_1, q_2, q_3, q_4, q_5, q_b0, q_b1, p_0, p_1, p_2, p_3, p_4, p_5, p_b0, p_b1, e_lcmp, pl_0, pl_1, pl_2, pl_3, pl_4, pl_5, e_i2l, e_l2i, e_idiv, e_irem, e_ldiv, e_lrem, List.set_cons_zero, List.set_cons_succ, List.getD_cons_zero, List.getD_cons_succ, List.getD_nil, dT, dF, decide_true, decide_false, not_true_eq_false, not_false_eq_true, Bool.not_true, Bool.not_false, zLay_1, zLay_c1, zLay_c2, zLay_n, zWds_n, zWds_c, zCat_0, zCat_1, zCat_3, zCat_4, zLay_4, List.nil_append, List.cons_append, List.replicate_succ, List.replicate_zero, zTy_0, zTy_b0, zTy_1, zTy_3, zTy_3n, zTy_4, and_true, true_and, Option.bind_some, zNul_n, zNul_r, List.getElem?_cons_zero, List.getElem?_cons_succ, Int.add_zero, zTv_B, zTy_B, b_and, b_or, b_andn, b_not, b_shl, b_cmp, b_cmp0, b_cmp0l, b_eq0, b_eq1, zs_2, zl_21, zl_22, gf_s, gf_l, pf_s, pf_l, zl_z, zs_z, nA, and_self, Nat.le_refl, Option.some.injEq, eq_self, Nat.reduceAdd, Nat.reduceSub, tg_m, mf_0, mf_1, mf_2, mf_3, mf_4, mf_5, mf_6, mf_7, mf_8, mf_9, mp_10, mf_10, mp_11, mf_11, mp_12, mf_12, mp_13, mf_13, mp_14, mf_14, mf_15, mf_16, mp_17, mf_17, mf_18, mf_19, mp_20, mf_20, mp_21, mf_21, mf_22, mp_23, mf_23, mp_24, mf_24, mf_25, mp_26, mf_26, ax_1, asa_1, aso_1, ax_2, asa_2, aso_2, ax_3, asa_3, aso_3, ax_4, asa_4, aso_4, ax_5, asa_5, aso_5, ax_6, asa_6, aso_6, ax_7, asa_7, aso_7, ax_8, asa_8, aso_8, ax_9, asa_9, aso_9, ax_10, asa_10, aso_10, ax_11, asa_11, aso_11, ax_12, asa_12, aso_12, ax_13, asa_13, aso_13, ax_14, asa_14, aso_14, ax_15, asa_15, aso_15, ax_16, asa_16, aso_16, hp_2, us_s, us_k, us_j, us_r, C_Mo_layTree_1, B_Mo_layTree_1, T_Mo_layTree_1, q1, a3, a4, st]
    · intro env h' ⟨hh, he⟩
      subst hh
      subst he
      have q1 : lyB A (371 + 521 * t + 401) (s 0 11) 0 11 = s 0 11 := by rw [lyB_q (by decide), Aq 0 (by decide)]
      have q7 : lyB A (371 + 521 * t + 401) (s 0 11) 1 7 = s 1 7 := (if_neg (by omega)).trans A7
      simp (disch := first | assumption | omega | exact zTy_0 | exact zTy_3 | exact zTy_3n | exact zTy_1 | exact zTy_B | exact zTy_b0 | exact zTy_4 | exact zEl_n | exact zEz4 | exact zEz9 | exact hz _ _ | exact hz2 _ _ | exact zI0 | exact zI1 | exact zI2 | exact zI3 | exact zI4 | exact zI5 | exact zI6 | exact zI7 | exact zI8 | exact zI9 | exact zI10 | (simp only [zl_21, zl_22, zs_2, ne_eq]; omega) | ((repeat (refine Eq.trans (us_r (by decide)) ?_)); assumption) | ((simp (decide := true) only [us_k, us_s]); omega)) only [↓rKi, ↓rKl, ↓rKn, ↓rKd, ↓rL, ↓r2, ↓r1, ↓rC2, ↓rC1, ↓rCn, ↓rNot, ↓rAnd, ↓rOr, ↓rCi, ↓rBx, ↓rIte, ↓rGf, ↓rLen, ↓rAx, ↓rNa, ↓rA0, ↓rA1, ↓rCs, ↓rCv, ↓rAn, ↓rNew, ↓rSeq, ↓rSkip, ↓rBrk, ↓rCnt, ↓rRetV, ↓rAsg, ↓rRet, ↓rIf, ↓rPf, ↓rPfo, ↓rAs, ↓rAso, ↓rDo, ↓rObj, ↓rBl, ↓rSw, ↓rCopy, ↓zSq_0, ↓zSq_r, ↓zSq_1, ↓zSq_2, ↓zBq_l, ↓zBq_r, ↓zWq_0, ↓zWq_1, ↓zWq_2, ↓zWq_r, ↓zLo_0, ↓zLo_1, ↓zLo_2, ↓zLo_r, ↓zLt_0, ↓rTr, ↓zFin_s, ↓zFin_n, wX_r, wO_s, wI_t, wI_f, zLk_0, zLk_s, zTv_vi, zTv_vb, zTv_vl, zTv_d, zTv_r, zTv_n, zTv_4, zTo_s, zCl_n, zCl_0, zCl_s, Int32.reduceToInt, Int64.reduceToInt, e_add, e_sub, e_mul, e_neg, e_ladd, e_lsub, e_lmul, e_lneg, q_0, q_1, q_2, q_3, q_4, q_5, q_b0, q_b1, p_0, p_1, p_2, p_3, p_4, p_5, p_b0, p_b1, e_lcmp, pl_0, pl_1, pl_2, pl_3, pl_4, pl_5, e_i2l, e_l2i, e_idiv, e_irem, e_ldiv, e_lrem, List.set_cons_zero, List.set_cons_succ, List.getD_cons_zero, List.getD_cons_succ, List.getD_nil, dT, dF, decide_true, decide_false, not_true_eq_false, not_false_eq_true, Bool.not_true, Bool.not_false, zLay_1, zLay_c1, zLay_c2, zLay_n, zWds_n, zWds_c, zCat_0, zCat_1, zCat_3, zCat_4, zLay_4, List.nil_append, List.cons_append, List.replicate_succ, List.replicate_zero, zTy_0, zTy_b0, zTy_1, zTy_3, zTy_3n, zTy_4, and_true, true_and, Option.bind_some, zNul_n, zNul_r, List.getElem?_cons_zero, List.getElem?_cons_succ, Int.add_zero, zTv_B, zTy_B, b_and, b_or, b_andn, b_not, b_shl, b_cmp, b_cmp0, b_cmp0l, b_eq0, b_eq1, zs_2, zl_21, zl_22, gf_s, gf_l, pf_s, pf_l, zl_z, zs_z, nA, and_self, Nat.le_refl, Option.some.injEq, eq_self, Nat.reduceAdd, Nat.reduceSub, tg_m, mf_0, mf_1, mf_2, mf_3, mf_4, mf_5, mf_6, mf_7, mf_8, mf_9, mp_10, mf_10, mp_11, mf_11, mp_12, mf_12, mp_13, mf_13, mp_14, mf_14, mf_15, mf_16, mp_17, mf_17, mf_18, mf_19, mp_20, mf_20, mp_21, mf_21, mf_22, mp_23, mf_23, mp_24, mf_24, mf_25, mp_26, mf_26, ax_1, asa_1, aso_1, ax_2, asa_2, aso_2, ax_3, asa_3, aso_3, ax_4, asa_4, aso_4, ax_5, asa_5, aso_5, ax_6, asa_6, aso_6, ax_7, asa_7, aso_7, ax_8, asa_8, aso_8, ax_9, asa_9, aso_9, ax_10, asa_10, aso_10, ax_11, asa_11, aso_11, ax_12, asa_12, aso_12, ax_13, asa_13, aso_13, ax_14, asa_14, aso_14, ax_15, asa_15, aso_15, ax_16, asa_16, aso_16, hp_2, us_s, us_k, us_j, us_r, C_Mo_layTree_1, B_Mo_layTree_1, T_Mo_layTree_1, q1, axo_1, q7, e_shl1, e_orb]
      rw [hT]
theorem lyTr_f {n : Nat} {t : Int} (t0 : 0 ≤ t) (t4 : t < 4) (k0 : 0 ≤ s 0 10 ∧ s 0 10 ≤ 79) (k1 : s 0 11 = n ∧ n ≤ 40) (z8 : ∀ k, 0 ≤ k → k < s 0 10 → s 8 k = 0) : (∀ q, q ≠ 1 → lyTr s t q = s q) ∧ (∀ j, j ≠ 7 → (j < 371 + 521 * t ∨ 371 + 521 * t + 521 ≤ j) → lyTr s t 1 j = s 1 j) ∧ lyTr s t 1 7 = sbt (s 1 7) t ∧ agr n s (tS (lyTr s t 1) (371 + 521 * t)) ∧ tS (lyTr s t 1) (371 + 521 * t) 0 5 = 0 := by
  have hb : ∀ j, 371 + 521 * t ≤ j → j < 371 + 521 * t + 6 → lyTr s t 1 j = lyH s (371 + 521 * t) 1 j := fun j j0 j1 => by
    unfold lyTr
    rw [us_j (by omega)]
    exact (if_neg (by omega)).trans (if_neg (by omega))
  have hA : ∀ k w : Int, 0 ≤ k → k < s 0 10 → 0 ≤ w → w < 5 → lyTr s t 1 (371 + 521 * t + 6 + 5 * k + w) = s (3 + w.toNat) k := fun k w a b c d => by
    unfold lyTr
    rw [us_j (by omega)]
    refine (if_neg (by omega)).trans ((if_pos ⟨rfl, by omega, by omega⟩).trans ?_)
    rw [show (371 + 521 * t + 6 + 5 * k + w - (371 + 521 * t + 6)) % 5 = w by omega, show (371 + 521 * t + 6 + 5 * k + w - (371 + 521 * t + 6)) / 5 = k by omega, lyH_q (by omega)]
  have hB : ∀ k w : Int, 0 ≤ k → k < n → 0 ≤ w → w < 2 → lyTr s t 1 (371 + 521 * t + 401 + 2 * k + w) = s (9 + w.toNat) k := fun k w a b c d => by
    unfold lyTr
    rw [us_j (by omega)]
    refine (if_pos ⟨rfl, by omega, by omega⟩).trans ?_
    rw [show (371 + 521 * t + 401 + 2 * k + w - (371 + 521 * t + 401)) % 2 = w by omega, show (371 + 521 * t + 401 + 2 * k + w - (371 + 521 * t + 401)) / 2 = k by omega, lyA_q (by omega), lyH_q (by omega)]
  have h0 : ∀ j : Int, 0 ≤ j → j < 5 → lyTr s t 1 (371 + 521 * t + j) = s 0 (10 + j) := fun j j0 j1 => by
    rw [hb _ (by omega) (by omega), lyH]
    have : j = 0 ∨ j = 1 ∨ j = 2 ∨ j = 3 ∨ j = 4 := by omega
    rcases this with q | q | q | q | q <;> subst q
    · rw [us_j (by omega), us_j (by omega), us_j (by omega), us_j (by omega), Int.add_zero, us_s]; rfl
    · rw [us_j (by omega), us_j (by omega), us_j (by omega), us_s]; rfl
    · rw [us_j (by omega), us_j (by omega), us_s]; rfl
    · rw [us_j (by omega), us_s]; rfl
    · rw [us_s]; rfl
  have h00 := h0 0 (by decide) (by decide)
  rw [Int.add_zero] at h00
  refine ⟨fun q hq => ?_, fun j hj h2 => ?_, ?_, ⟨fun j j0 j1 => ?_, fun q k q0 q1 i0 i1 => ?_, fun q u q0 q1 u0 u1 => ?_⟩, ?_⟩
  · unfold lyTr
    rw [us_r hq, lyB_q hq, lyA_q hq, lyH_q hq]
  · unfold lyTr
    rw [us_j hj]
    refine (if_neg (by omega)).trans ((if_neg (by omega)).trans ?_)
    rw [lyH, us_j (by omega), us_j (by omega), us_j (by omega), us_j (by omega), us_j (by omega)]
    exact if_neg (by omega)
  · unfold lyTr
    rw [us_s]
  · have : j = 10 ∨ j = 11 ∨ j = 12 ∨ j = 13 ∨ j = 14 := by omega
    rcases this with q | q | q | q | q <;> subst q
    · exact h00
    · exact h0 1 (by decide) (by decide)
    · exact h0 2 (by decide) (by decide)
    · exact h0 3 (by decide) (by decide)
    · exact h0 4 (by decide) (by decide)
  · have : q = 3 ∨ q = 4 ∨ q = 5 ∨ q = 6 ∨ q = 7 ∨ q = 8 := by omega
    rcases this with z | z | z | z | z | z <;> subst z
    · have := hA k 0 i0 i1 (by decide) (by decide)
      rw [Int.add_zero] at this
      exact this
    · exact hA k 1 i0 i1 (by decide) (by decide)
    · exact hA k 2 i0 i1 (by decide) (by decide)
    · exact hA k 3 i0 i1 (by decide) (by decide)
    · exact hA k 4 i0 i1 (by decide) (by decide)
    · exact (z8 k i0 i1).symm
  · have : q = 9 ∨ q = 10 := by omega
    rcases this with z | z <;> subst z
    · have := hB u 0 u0 u1 (by decide) (by decide)
      rw [Int.add_zero] at this
      exact this
    · exact hB u 1 u0 u1 (by decide) (by decide)
  · show lyTr s t 1 (371 + 521 * t + 5) = 0
    rw [hb _ (by omega) (by omega), lyH, us_j (by omega), us_j (by omega), us_j (by omega), us_j (by omega), us_j (by omega)]
    exact if_pos ⟨rfl, by omega, by omega⟩
end
