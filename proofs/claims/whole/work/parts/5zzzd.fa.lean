/-! fresh: lowest terms; gathering what is at hand -/
theorem low_eq {a b c d : Int} (b0 : 0 < b) (d0 : 0 < d) : (a / gcdI a b = c / gcdI c d ∧ b / gcdI a b = d / gcdI c d) ↔ ordI a b c d = 0 := by
  rw [ordI_0]
  obtain ⟨e1, e2, g0⟩ := gcd_dv (a := a) b0
  obtain ⟨e3, e4, g1⟩ := gcd_dv (a := c) d0
  have eg : a * d = c * b → gcdI a b * d = gcdI c d * b := fun h => by
    have h1 : Int.gcd (a * d) (b * d) = Int.gcd a b * d.natAbs := Int.gcd_mul_right ..
    have h2 : Int.gcd (c * b) (d * b) = Int.gcd c d * b.natAbs := Int.gcd_mul_right ..
    rw [h, Int.mul_comm b d, h2] at h1
    have h3 : ((Int.gcd c d * b.natAbs : Nat) : Int) = ((Int.gcd a b * d.natAbs : Nat) : Int) := congrArg _ h1
    rw [Int.natCast_mul, Int.natCast_mul, Int.natAbs_of_nonneg (by omega), Int.natAbs_of_nonneg (by omega)] at h3
    exact h3.symm
  generalize gcdI a b = g at *
  generalize gcdI c d = g' at *
  generalize a / g = x at *
  generalize b / g = y at *
  generalize c / g' = x' at *
  generalize d / g' = y' at *
  subst e1
  subst e2
  subst e3
  subst e4
  constructor
  · intro ⟨h1, h2⟩
    subst h1
    subst h2
    rw [Int.mul_assoc, Int.mul_assoc, ← Int.mul_assoc x, ← Int.mul_assoc x, Int.mul_comm x g', Int.mul_comm x g, Int.mul_assoc g', Int.mul_assoc g, ← Int.mul_assoc g, ← Int.mul_assoc g', Int.mul_comm g g']
  · intro h
    have k := eg h
    have ey : y = y' := by
      rw [← Int.mul_assoc, ← Int.mul_assoc, Int.mul_comm g g'] at k
      exact (Int.eq_of_mul_eq_mul_left (Int.ne_of_gt (Int.mul_pos g1 g0)) k).symm
    subst ey
    have y0 : y ≠ 0 := fun z => by
      rw [z, Int.mul_zero] at b0
      omega
    have h' : (g * g') * y * x = (g * g') * y * x' := by
      have l : g * x * (g' * y) = (g * g') * y * x := by
        rw [Int.mul_assoc g x, ← Int.mul_assoc x, Int.mul_comm x g', Int.mul_assoc g', ← Int.mul_assoc g, Int.mul_comm x y, ← Int.mul_assoc]
      have l2 : g' * x' * (g * y) = (g * g') * y * x' := by
        rw [Int.mul_assoc g' x', ← Int.mul_assoc x', Int.mul_comm x' g, Int.mul_assoc g, ← Int.mul_assoc g', Int.mul_comm x' y, Int.mul_comm g' g, ← Int.mul_assoc]
      rw [← l, h, l2]
    have nz : g * g' * y ≠ 0 := Int.mul_ne_zero (Int.ne_of_gt (Int.mul_pos g0 g1)) y0
    exact ⟨Int.eq_of_mul_eq_mul_left nz h', rfl⟩
section
variable {m n : Nat} {s s' : Nat → Int → Int} {r : zHp}
/-- tracks laid out, gathered -/
abbrev gnS (s : Nat → Int → Int) (n : Nat) (S0 : Nat → Int → Int) : Prop := GI n 0 S0 ∧ (S0 0 10 = n ∧ S0 0 12 = s 1 2 ∧ S0 0 13 = s 1 3 ∧ S0 0 14 = s 1 4) ∧ ∀ k : Int, 0 ≤ k → k < n → (S0 3 k = mT s k 0 ∧ S0 4 k = mT s k 1 ∧ S0 5 k = mT s k 2) ∧ S0 6 k = -1 ∧ S0 7 k = -1 ∧ S0 8 k = 1
theorem q_gatherNow (hs1 : s' 1 = s 1) (b5 : 0 ≤ s 1 5 ∧ s 1 5 < 3) (hn : mN s = n) (n4 : n ≤ 40) (wr : ∀ i : Int, 0 ≤ i → i < n → (-200 ≤ mT s i 0 ∧ mT s i 0 ≤ 200) ∧ (0 ≤ mT s i 1 ∧ mT s i 1 < 360) ∧ 1 ≤ mT s i 2 ∧ mT s i 2 ≤ 9999) (b2 : 1 ≤ s 1 2 ∧ s 1 2 ≤ 200) (b3 : -1 ≤ s 1 3 ∧ s 1 3 ≤ 1) (b4 : s 1 4 = 0 ∨ s 1 4 = 1) : ∃ S0 s3, gnS s n S0 ∧ gRun n S0 s3 ∧ s3 1 = s 1 ∧ s3 2 = s' 2 ∧ F_Mo_gatherNow [.ref m] (hp m s' r) = some (none, hp m s3 r) := by
  have mT1 : ∀ i w : Int, mT s' i w = mT s i w := fun i w => by unfold mT; rw [hs1]
  have hn1 : mN s' = n := by
    have : mN s' = mN s := by unfold mN; rw [hs1]
    rw [this, hn]
  obtain ⟨l10, lr, lq, l0⟩ := layN_f (s := s') n
  obtain ⟨⟨f0, f1, f2, f3, f4⟩, f5⟩ := gSet_f (s := layN s' n) (a := s 1 2) (b := s 1 3) (c := s 1 4)
  have rows : ∀ i : Int, 0 ≤ i → i < n → ((-200 ≤ layN s' n 3 i ∧ layN s' n 3 i ≤ 200) ∧ (0 ≤ layN s' n 4 i ∧ layN s' n 4 i < 360) ∧ 1 ≤ layN s' n 5 i ∧ layN s' n 5 i ≤ 9999) ∧ layN s' n 8 i = 1 := fun i i0 i1 => by
    obtain ⟨y1, y2, y3, y4, y5, y6⟩ := lr i i0 i1
    rw [y1, y2, y3, mT1, mT1, mT1]
    exact ⟨wr i i0 i1, y6⟩
  have g0 : GI n 0 (gSet (layN s' n) (s 1 2) (s 1 3) (s 1 4)) := GI_lay n4 l10 rows b2 b3
  have ly := e_layTracks (m := m) (s := s') (r := r) (by rw [hs1]; exact b5.1) (by rw [hs1]; exact b5.2) hn1 n4
  have e1 : layN s' n 1 = s 1 := (lq 1 (by decide) (by decide)).trans hs1
  have e2 : layN s' n 1 2 = s 1 2 := by rw [e1]
  have e3 : layN s' n 1 3 = s 1 3 := by rw [e1]
  have e4 : layN s' n 1 4 = s 1 4 := by rw [e1]
  obtain ⟨s3, p1, p2, p3⟩ := e_gatherAll (m := m) (r := r) g0 l10 (by omega) (by omega) (by omega)
  rw [show ((n : Int)).toNat = n by omega] at p1
  refine ⟨gSet (layN s' n) (s 1 2) (s 1 3) (s 1 4), s3, ⟨g0, ⟨by rw [f0, l10], f2, f3, f4⟩, fun k k0 k1 => ?_⟩, p1, ?_, ?_, zMeq rfl ?_⟩
  · obtain ⟨y1, y2, y3, y4, y5, y6⟩ := lr k k0 k1
    rw [f5 3 (by decide), f5 4 (by decide), f5 5 (by decide), f5 6 (by decide), f5 7 (by decide), f5 8 (by decide), y1, y2, y3, mT1, mT1, mT1]
    exact ⟨⟨rfl, rfl, rfl⟩, y4, y5, y6⟩
  · rw [gRun_1 (by decide) (by decide) p1, f5 1 (by decide), e1]
  · rw [gRun_1 (by decide) (by decide) p1, f5 2 (by decide), lq 2 (by decide) (by decide)]
  · simp (disch := first | assumption | omega | exact zTy_0 | exact zTy_3 | exact zTy_3n | exact zTy_1 | exact zTy_B | exact zTy_b0 | exact zTy_4 | exact zEl_n | exact zEz4 | exact zEz9 | exact hz _ _ | exact hz2 _ _ | exact zI0 | exact zI1 | exact zI2 | exact zI3 | exact zI4 | exact zI5 | exact zI6 | exact zI7 | exact zI8 | exact zI9 | exact zI10 | (simp only [zl_21, zl_22, zs_2, ne_eq]; omega) | ((repeat (refine Eq.trans (us_r (by decide)) ?_)); assumption) | ((simp (decide := true) only [us_k, us_s]); omega)) only [↓rKi, ↓rKl, ↓rKn, ↓rKd, ↓rL, ↓r2, ↓r1, ↓rC2, ↓rC1, ↓rCn, ↓rNot, ↓rAnd, ↓rOr, ↓rCi, ↓rBx, ↓rIte, ↓rGf, ↓rLen, ↓rAx, ↓rNa, ↓rA0, ↓rA1, ↓rCs, ↓rCv, ↓rAn, ↓rNew, ↓rSeq, ↓rSkip, ↓rBrk, ↓rCnt, ↓rRetV, ↓rAsg, ↓rRet, ↓rIf, ↓rPf, ↓rPfo, ↓rAs, ↓rAso, ↓rDo, ↓rObj, ↓rBl, ↓rSw, ↓rCopy, ↓zSq_0, ↓zSq_r, ↓zSq_1, ↓zSq_2, ↓zBq_l, ↓zBq_r, ↓zWq_0, ↓zWq_1, ↓zWq_2, ↓zWq_r, ↓zLo_0, ↓zLo_1, ↓zLo_2, ↓zLo_r, ↓zLt_0, ↓rTr, ↓zFin_s, ↓zFin_n, wX_r, wO_s, wI_t, wI_f, zLk_0, zLk_s, zTv_vi, zTv_vb, zTv_vl, zTv_d, zTv_r, zTv_n, zTv_4, zTo_s, zCl_n, zCl_0, zCl_s, Int32.reduceToInt, Int64.reduceToInt, e_add, e_sub, e_mul, e_neg, e_ladd, e_lsub, e_lmul, e_lneg, q_0, q_1, q_2, q_3, q_4, q_5, q_b0, q_b1, p_0, p_1, p_2, p_3, p_4, p_5, p_b0, p_b1, e_lcmp, pl_0, pl_1, pl_2, pl_3, pl_4, pl_5, e_i2l, e_l2i, e_idiv, e_irem, e_ldiv, e_lrem, List.set_cons_zero, List.set_cons_succ, List.getD_cons_zero, List.getD_cons_succ, List.getD_nil, dT, dF, decide_true, decide_false, not_true_eq_false, not_false_eq_true, Bool.not_true, Bool.not_false, zLay_1, zLay_c1, zLay_c2, zLay_n, zWds_n, zWds_c, zCat_0, zCat_1, zCat_3, zCat_4, zLay_4, List.nil_append, List.cons_append, List.replicate_succ, List.replicate_zero, zTy_0, zTy_b0, zTy_1, zTy_3, zTy_3n, zTy_4, and_true, true_and, Option.bind_some, zNul_n, zNul_r, List.getElem?_cons_zero, List.getElem?_cons_succ, Int.add_zero, zTv_B, zTy_B, b_and, b_or, b_andn, b_not, b_shl, b_cmp, b_cmp0, b_cmp0l, b_eq0, b_eq1, zs_2, zl_21, zl_22, gf_s, gf_l, pf_s, pf_l, zl_z, zs_z, nA, and_self, Nat.le_refl, Option.some.injEq, eq_self, Nat.reduceAdd, Nat.reduceSub, tg_m, mf_0, mf_1, mf_2, mf_3, mf_4, mf_5, mf_6, mf_7, mf_8, mf_9, mp_10, mf_10, mp_11, mf_11, mp_12, mf_12, mp_13, mf_13, mp_14, mf_14, mf_15, mf_16, mp_17, mf_17, mf_18, mf_19, mp_20, mf_20, mp_21, mf_21, mf_22, mp_23, mf_23, mp_24, mf_24, mf_25, mp_26, mf_26, ax_1, asa_1, aso_1, ax_2, asa_2, aso_2, ax_3, asa_3, aso_3, ax_4, asa_4, aso_4, ax_5, asa_5, aso_5, ax_6, asa_6, aso_6, ax_7, asa_7, aso_7, ax_8, asa_8, aso_8, ax_9, asa_9, aso_9, ax_10, asa_10, aso_10, ax_11, asa_11, aso_11, ax_12, asa_12, aso_12, ax_13, asa_13, aso_13, ax_14, asa_14, aso_14, ax_15, asa_15, aso_15, ax_16, asa_16, aso_16, hp_2, us_s, us_k, us_j, us_r, S_Mo_gatherNow, ly, axo_1, e2, e3, e4, p3]
end
