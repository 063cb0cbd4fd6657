/-! trim: numbers given back -/
section
variable {S : BitVec 64} {n N : Nat} {h : zHp}
/-- the image of a set of those numbered anew -/
def imB (S : BitVec 64) (n N : Nat) (A : BitVec 64) : BitVec 64 := oS (fun j => 1#64 <<< (pkR (bHas S) n j).toNat) (bHas A) N
theorem oS_or {Q : Int → BitVec 64} {f g : Int → Bool} : ∀ {m : Nat}, oS Q (fun i => f i || g i) m = oS Q f m ||| oS Q g m
  | 0 => by
    show 0#64 = 0#64 ||| 0#64
    rw [BitVec.or_zero]
  | m + 1 => by
    show oS Q (fun i => f i || g i) m ||| (if (f m || g m) = true then Q m else 0#64) = (oS Q f m ||| (if f m = true then Q m else 0#64)) ||| (oS Q g m ||| (if g m = true then Q m else 0#64))
    rw [oS_or]
    generalize oS Q f m = A
    generalize oS Q g m = B
    generalize Q m = C
    cases f m <;> cases g m <;> simp only [Bool.or_self, Bool.or_true, Bool.or_false, Bool.true_or, Bool.false_or, if_true, if_false, Bool.false_eq_true, BitVec.or_zero, BitVec.zero_or]
    · rw [BitVec.or_assoc]
    · rw [or_r]
    · rw [← BitVec.or_assoc, or_r A C B, BitVec.or_assoc (A ||| B), BitVec.or_self]
theorem imB_or {A B : BitVec 64} : imB S n N (A ||| B) = imB S n N A ||| imB S n N B := by
  unfold imB
  rw [← oS_or]
  exact oS_ext fun i _ _ => ⟨bHas_or, fun _ => rfl⟩
theorem imB_0 : imB S n N 0#64 = 0#64 := by
  unfold imB
  refine Eq.trans (oS_ext (g := fun _ => false) (Q' := fun _ => 0#64) fun i i0 _ => ⟨?_, fun hh => ?_⟩) oS_0
  · simp [bHas]
  · have : bHas 0#64 i = false := by simp [bHas]
    rw [this] at hh
    exact absurd hh (by decide)
theorem imB_1 {j : Int} (j0 : 0 ≤ j) (j1 : j < N) (hN : N ≤ 64) : imB S n N (1#64 <<< j.toNat) = 1#64 <<< (pkR (bHas S) n j).toNat := by
  unfold imB
  have e : ∀ i : Int, 0 ≤ i → i < N → bHas (1#64 <<< j.toNat) i = up (fun _ => false) j true i := fun i i0 i1 => by
    rw [bHas_1 j0 (by omega)]
    unfold up
    by_cases c : i = j
    · rw [if_pos c]
      simp [c]
    · rw [if_neg c]
      simp [c]
  rw [oS_ext (g := up (fun _ => false) j true) (Q' := fun j => 1#64 <<< (pkR (bHas S) n j).toNat) fun i i0 i1 => ⟨e i i0 i1, fun _ => rfl⟩, oS_set j0 rfl j1, oS_0, if_pos rfl, BitVec.zero_or]
theorem m_nthOf {j : Int} (hn : n ≤ 64) (bz : ∀ i : Int, n ≤ i → bHas S i = false) (hN : cnt (bHas S) n = N) (j0 : 0 ≤ j) (j1 : j < N) : F_Mo_nthOf [vB S, vi j] h = some (some (vi (pkR (bHas S) n j)), h) := by
  have Nn := cnt_le (P := bHas S) (show (0 : Int) ≤ n by omega)
  obtain ⟨⟨z1, z2⟩, z3, z4⟩ := pkR_f (P := bHas S) n j j0 (by omega)
  refine zMeq rfl ?_
  simp (disch := first | assumption | omega | exact zTy_0 | exact zTy_3 | exact zTy_3n | exact zTy_1 | exact zTy_B | exact zTy_b0 | exact zTy_4 | exact zEl_n | exact zEz4 | exact zEz9 | exact hz _ _ | exact hz2 _ _ | exact zI0 | exact zI1 | exact zI2 | exact zI3 | exact zI4 | exact zI5 | exact zI6 | exact zI7 | exact zI8 | exact zI9 | exact zI10 | (simp only [zl_21, zl_22, zs_2, ne_eq]; omega) | ((repeat (refine Eq.trans (us_r (by decide)) ?_)); assumption) | ((simp (decide := true) only [us_k, us_s]); omega)) only [↓rKi, ↓rKl, ↓rKn, ↓rKd, ↓rL, ↓r2, ↓r1, ↓rC2, ↓rC1, ↓rCn, ↓rNot, ↓rAnd, ↓rOr, ↓rCi, ↓rBx, ↓rIte, ↓rGf, ↓rLen, ↓rAx, ↓rNa, ↓rA0, ↓rA1, ↓rCs, ↓rCv, ↓rAn, ↓rNew, ↓rSeq, ↓rSkip, ↓rBrk, ↓rCnt, ↓rRetV, ↓rAsg, ↓rRet, ↓rIf, ↓rPf, ↓rPfo, ↓rAs, ↓rAso, ↓rDo, ↓rObj, ↓rBl, ↓rSw, ↓rCopy, ↓zSq_0, ↓zSq_r, ↓zSq_1, ↓zSq_2, ↓zBq_l, ↓zBq_r, ↓zWq_0, ↓zWq_1, ↓zWq_2, ↓zWq_r, ↓zLo_0, ↓zLo_1, ↓zLo_2, ↓zLo_r, ↓zLt_0, ↓rTr, ↓zFin_s, ↓zFin_n, wX_r, wO_s, wI_t, wI_f, zLk_0, zLk_s, zTv_vi, zTv_vb, zTv_vl, zTv_d, zTv_r, zTv_n, zTv_4, zTo_s, zCl_n, zCl_0, zCl_s, Int32.reduceToInt, Int64.reduceToInt, e_add, e_sub, e_mul, e_neg, e_ladd, e_lsub, e_lmul, e_lneg, q_0, q_1, q_2, q_3, q_4, q_5, q_b0, q_b1, p_0, p_1, p_2, p_3, p_4, p_5, p_b0, p_b1, e_lcmp, pl_0, pl_1, pl_2, pl_3, pl_4, pl_5, e_i2l, e_l2i, e_idiv, e_irem, e_ldiv, e_lrem, List.set_cons_zero, List.set_cons_succ, List.getD_cons_zero, List.getD_cons_succ, List.getD_nil, dT, dF, decide_true, decide_false, not_true_eq_false, not_false_eq_true, Bool.not_true, Bool.not_false, zLay_1, zLay_c1, zLay_c2, zLay_n, zWds_n, zWds_c, zCat_0, zCat_1, zCat_3, zCat_4, zLay_4, List.nil_append, List.cons_append, List.replicate_succ, List.replicate_zero, zTy_0, zTy_b0, zTy_1, zTy_3, zTy_3n, zTy_4, and_true, true_and, Option.bind_some, zNul_n, zNul_r, List.getElem?_cons_zero, List.getElem?_cons_succ, Int.add_zero, zTv_B, zTy_B, b_and, b_or, b_andn, b_not, b_shl, b_cmp, b_cmp0, b_cmp0l, b_eq0, b_eq1, zs_2, zl_21, zl_22, gf_s, gf_l, pf_s, pf_l, zl_z, zs_z, nA, and_self, Nat.le_refl, Option.some.injEq, eq_self, Nat.reduceAdd, Nat.reduceSub, S_Mo_nthOf, L_Mo_nthOf_0]
  refine wForI (fun e env h' => h' = h ∧ ∃ x : BitVec 64, env = [vB S, .null, vi j, vB x, .null, vi e] ∧ ∀ i, bHas x i = (bHas S i && decide (e ≤ cnt (bHas S) i))) 0 j (by omega) (by omega) ⟨rfl, S, rfl, fun i => ?_⟩ ?_ ?_
  · rw [decide_eq_true cnt_nn, Bool.and_true]
  · intro e env h' e0 e1 ⟨hh, x, he, hx'⟩
    subst hh
    subst he
    obtain ⟨⟨p1, p2⟩, p3, p4⟩ := pkR_f (P := bHas S) n e e0 (by omega)
    have xz : x ≠ 0#64 := fun z => by
      have := hx' (pkR (bHas S) n e)
      rw [z, p3, p4, decide_eq_true (by omega)] at this
      simp [bHas] at this
    obtain ⟨i0, ⟨q1, q2⟩, q3, q4, q5⟩ := b_low xz
    have w := hx' i0
    rw [q3] at w
    have w1 : bHas S i0 = true := by cases y : bHas S i0 with
      | true => rfl
      | false => rw [y, Bool.false_and] at w; exact absurd w (by decide)
    rw [w1, Bool.true_and] at w
    have w2 : e ≤ cnt (bHas S) i0 := of_decide_eq_true w.symm
    have i0n : i0 < n := by
      by_cases y : i0 < n
      · exact y
      · rw [bz i0 (by omega)] at w1
        exact absurd w1 (by decide)
    have ec : cnt (bHas S) i0 = e := by
      by_cases y : i0 ≤ pkR (bHas S) n e
      · have := cnt_mono (P := bHas S) q1 y
        omega
      · have l := q4 (pkR (bHas S) n e) (by omega)
        rw [hx', p3, p4, decide_eq_true (by omega)] at l
        exact absurd l (by decide)
    simp (disch := first | assumption | omega | exact zTy_0 | exact zTy_3 | exact zTy_3n | exact zTy_1 | exact zTy_B | exact zTy_b0 | exact zTy_4 | exact zEl_n | exact zEz4 | exact zEz9 | exact hz _ _ | exact hz2 _ _ | exact zI0 | exact zI1 | exact zI2 | exact zI3 | exact zI4 | exact zI5 | exact zI6 | exact zI7 | exact zI8 | exact zI9 | exact zI10 | (simp only [zl_21, zl_22, zs_2, ne_eq]; omega) | ((repeat (refine Eq.trans (us_r (by decide)) ?_)); assumption) | ((simp (decide := true) only [us_k, us_s]); omega)) only [↓rKi, ↓rKl, ↓rKn, ↓rKd, ↓rL, ↓r2, ↓r1, ↓rC2, ↓rC1, ↓rCn, ↓rNot, ↓rAnd, ↓rOr, ↓rCi, ↓rBx, ↓rIte, ↓rGf, ↓rLen, ↓rAx, ↓rNa, ↓rA0, ↓rA1, ↓rCs, ↓rCv, ↓rAn, ↓rNew, ↓rSeq, ↓rSkip, ↓rBrk, ↓rCnt, ↓rRetV, ↓rAsg, ↓rRet, ↓rIf, ↓rPf, ↓rPfo, ↓rAs, ↓rAso, ↓rDo, ↓rObj, ↓rBl, ↓rSw, ↓rCopy, ↓zSq_0, ↓zSq_r, ↓zSq_1, ↓zSq_2, ↓zBq_l, ↓zBq_r, ↓zWq_0, ↓zWq_1, ↓zWq_2, ↓zWq_r, ↓zLo_0, ↓zLo_1, ↓zLo_2, ↓zLo_r, ↓zLt_0, ↓rTr, ↓zFin_s, ↓zFin_n, wX_r, wO_s, wI_t, wI_f, zLk_0, zLk_s, zTv_vi, zTv_vb, zTv_vl, zTv_d, zTv_r, zTv_n, zTv_4, zTo_s, zCl_n, zCl_0, zCl_s, Int32.reduceToInt, Int64.reduceToInt, e_add, e_sub, e_mul, e_neg, e_ladd, e_lsub, e_lmul, e_lneg, q_0, q_1, q_2, q_3, q_4, q_5, q_b0, q_b1, p_0, p_1, p_2, p_3, p_4, p_5, p_b0, p_b1, e_lcmp, pl_0, pl_1, pl_2, pl_3, pl_4, pl_5, e_i2l, e_l2i, e_idiv, e_irem, e_ldiv, e_lrem, List.set_cons_zero, List.set_cons_succ, List.getD_cons_zero, List.getD_cons_succ, List.getD_nil, dT, dF, decide_true, decide_false, not_true_eq_false, not_false_eq_true, Bool.not_true, Bool.not_false, zLay_1, zLay_c1, zLay_c2, zLay_n, zWds_n, zWds_c, zCat_0, zCat_1, zCat_3, zCat_4, zLay_4, List.nil_append, List.cons_append, List.replicate_succ, List.replicate_zero, zTy_0, zTy_b0, zTy_1, zTy_3, zTy_3n, zTy_4, and_true, true_and, Option.bind_some, zNul_n, zNul_r, List.getElem?_cons_zero, List.getElem?_cons_succ, Int.add_zero, zTv_B, zTy_B, b_and, b_or, b_andn, b_not, b_shl, b_cmp, b_cmp0, b_cmp0l, b_eq0, b_eq1, zs_2, zl_21, zl_22, gf_s, gf_l, pf_s, pf_l, zl_z, zs_z, nA, and_self, Nat.le_refl, Option.some.injEq, eq_self, Nat.reduceAdd, Nat.reduceSub, C_Mo_nthOf_0, B_Mo_nthOf_0, T_Mo_nthOf_0, u_sub1, u_and]
    refine ⟨x &&& (x - 1#64), rfl, fun i => ?_⟩
    rw [q5, hx']
    cases y : bHas S i with
    | false => rw [Bool.false_and, Bool.false_and, Bool.false_and]
    | true =>
      rw [Bool.true_and, Bool.true_and]
      have i0' : 0 ≤ i := by
        by_cases v : 0 ≤ i
        · exact v
        · have : bHas S i = false := by unfold bHas; rw [decide_eq_false v, Bool.false_and]
          rw [this] at y
          exact absurd y (by decide)
      have i1' : i < n := by
        by_cases v : i < n
        · exact v
        · rw [bz i (by omega)] at y
          exact absurd y (by decide)
      have k1 := pk_u i0' i1' y
      have k2 := pk_u q1 i0n w1
      by_cases v : i = i0
      · rw [v, ec, decide_eq_false (show ¬ e + 1 ≤ e by omega), decide_eq_false (show ¬ i0 ≠ i0 from fun t => t rfl), Bool.and_false]
      · rw [decide_eq_true v, Bool.and_true]
        refine decide_eq_decide.mpr ⟨fun t => ?_, fun t => by omega⟩
        have : cnt (bHas S) i ≠ e := fun u => v (by rw [← k1, ← k2, u, ec])
        omega
  · intro env h' ⟨hh, x, he, hx'⟩
    subst hh
    subst he
    simp (disch := first | assumption | omega | exact zTy_0 | exact zTy_3 | exact zTy_3n | exact zTy_1 | exact zTy_B | exact zTy_b0 | exact zTy_4 | exact zEl_n | exact zEz4 | exact zEz9 | exact hz _ _ | exact hz2 _ _ | exact zI0 | exact zI1 | exact zI2 | exact zI3 | exact zI4 | exact zI5 | exact zI6 | exact zI7 | exact zI8 | exact zI9 | exact zI10 | (simp only [zl_21, zl_22, zs_2, ne_eq]; omega) | ((repeat (refine Eq.trans (us_r (by decide)) ?_)); assumption) | ((simp (decide := true) only [us_k, us_s]); omega)) only [↓rKi, ↓rKl, ↓rKn, ↓rKd, ↓rL, ↓r2, ↓r1, ↓rC2, ↓rC1, ↓rCn, ↓rNot, ↓rAnd, ↓rOr, ↓rCi, ↓rBx, ↓rIte, ↓rGf, ↓rLen, ↓rAx, ↓rNa, ↓rA0, ↓rA1, ↓rCs, ↓rCv, ↓rAn, ↓rNew, ↓rSeq, ↓rSkip, ↓rBrk, ↓rCnt, ↓rRetV, ↓rAsg, ↓rRet, ↓rIf, ↓rPf, ↓rPfo, ↓rAs, ↓rAso, ↓rDo, ↓rObj, ↓rBl, ↓rSw, ↓rCopy, ↓zSq_0, ↓zSq_r, ↓zSq_1, ↓zSq_2, ↓zBq_l, ↓zBq_r, ↓zWq_0, ↓zWq_1, ↓zWq_2, ↓zWq_r, ↓zLo_0, ↓zLo_1, ↓zLo_2, ↓zLo_r, ↓zLt_0, ↓rTr, ↓zFin_s, ↓zFin_n, wX_r, wO_s, wI_t, wI_f, zLk_0, zLk_s, zTv_vi, zTv_vb, zTv_vl, zTv_d, zTv_r, zTv_n, zTv_4, zTo_s, zCl_n, zCl_0, zCl_s, Int32.reduceToInt, Int64.reduceToInt, e_add, e_sub, e_mul, e_neg, e_ladd, e_lsub, e_lmul, e_lneg, q_0, q_1, q_2, q_3, q_4, q_5, q_b0, q_b1, p_0, p_1, p_2, p_3, p_4, p_5, p_b0, p_b1, e_lcmp, pl_0, pl_1, pl_2, pl_3, pl_4, pl_5, e_i2l, e_l2i, e_idiv, e_irem, e_ldiv, e_lrem, List.set_cons_zero, List.set_cons_succ, List.getD_cons_zero, List.getD_cons_succ, List.getD_nil, dT, dF, decide_true, decide_false, not_true_eq_false, not_false_eq_true, Bool.not_true, Bool.not_false, zLay_1, zLay_c1, zLay_c2, zLay_n, zWds_n, zWds_c, zCat_0, zCat_1, zCat_3, zCat_4, zLay_4, List.nil_append, List.cons_append, List.replicate_succ, List.replicate_zero, zTy_0, zTy_b0, zTy_1, zTy_3, zTy_3n, zTy_4, and_true, true_and, Option.bind_some, zNul_n, zNul_r, List.getElem?_cons_zero, List.getElem?_cons_succ, Int.add_zero, zTv_B, zTy_B, b_and, b_or, b_andn, b_not, b_shl, b_cmp, b_cmp0, b_cmp0l, b_eq0, b_eq1, zs_2, zl_21, zl_22, gf_s, gf_l, pf_s, pf_l, zl_z, zs_z, nA, and_self, Nat.le_refl, Option.some.injEq, eq_self, Nat.reduceAdd, Nat.reduceSub, C_Mo_nthOf_0, B_Mo_nthOf_0, T_Mo_nthOf_0, L_Mo_nthOf_1]
    have lt : ∀ i, 0 ≤ i → i < pkR (bHas S) n j → bHas x i = false := fun i a b => by
      rw [hx']
      cases y : bHas S i with
      | false => rfl
      | true =>
        have := cnt_lt (P := bHas S) a b y
        rw [decide_eq_false (by omega)]
        rfl
    have at' : bHas x (pkR (bHas S) n j) = true := by
      rw [hx', z3, z4, decide_eq_true (Int.le_refl _)]
      rfl
    refine wLp (fun K env h1 => h1 = h' ∧ ∃ i : Int, env = [vB S, .null, vi j, vB x, .null, vi i] ∧ 0 ≤ i ∧ i + K = pkR (bHas S) n j) (pkR (bHas S) n j).toNat (by omega) ⟨rfl, 0, rfl, by omega, by omega⟩ ?_ ?_
    · intro env h1 ⟨hh, i, he, i0, hK⟩
      subst he
      subst hh
      have hs := e_has (a := x) (k := i) (h := h1) i0 (by omega)
      rw [show i = pkR (bHas S) n j by omega, at'] at hs
      rw [show i = pkR (bHas S) n j by omega]
      simp (disch := first | assumption | omega | exact zTy_0 | exact zTy_3 | exact zTy_3n | exact zTy_1 | exact zTy_B | exact zTy_b0 | exact zTy_4 | exact zEl_n | exact zEz4 | exact zEz9 | exact hz _ _ | exact hz2 _ _ | exact zI0 | exact zI1 | exact zI2 | exact zI3 | exact zI4 | exact zI5 | exact zI6 | exact zI7 | exact zI8 | exact zI9 | exact zI10 | (simp only [zl_21, zl_22, zs_2, ne_eq]; omega) | ((repeat (refine Eq.trans (us_r (by decide)) ?_)); assumption) | ((simp (decide := true) only [us_k, us_s]); omega)) only [↓rKi, ↓rKl, ↓rKn, ↓rKd, ↓rL, ↓r2, ↓r1, ↓rC2, ↓rC1, ↓rCn, ↓rNot, ↓rAnd, ↓rOr, ↓rCi, ↓rBx, ↓rIte, ↓rGf, ↓rLen, ↓rAx, ↓rNa, ↓rA0, ↓rA1, ↓rCs, ↓rCv, ↓rAn, ↓rNew, ↓rSeq, ↓rSkip, ↓rBrk, ↓rCnt, ↓rRetV, ↓rAsg, ↓rRet, ↓rIf, ↓rPf, ↓rPfo, ↓rAs, ↓rAso, ↓rDo, ↓rObj, ↓rBl, ↓rSw, ↓rCopy, ↓zSq_0, ↓zSq_r, ↓zSq_1, ↓zSq_2, ↓zBq_l, ↓zBq_r, ↓zWq_0, ↓zWq_1, ↓zWq_2, ↓zWq_r, ↓zLo_0, ↓zLo_1, ↓zLo_2, ↓zLo_r, ↓zLt_0, ↓rTr, ↓zFin_s, ↓zFin_n, wX_r, wO_s, wI_t, wI_f, zLk_0, zLk_s, zTv_vi, zTv_vb, zTv_vl, zTv_d, zTv_r, zTv_n, zTv_4, zTo_s, zCl_n, zCl_0, zCl_s, Int32.reduceToInt, Int64.reduceToInt, e_add, e_sub, e_mul, e_neg, e_ladd, e_lsub, e_lmul, e_lneg, q_0, q_1, q_2, q_3, q_4, q_5, q_b0, q_b1, p_0, p_1, p_2, p_3, p_4, p_5, p_b0, p_b1, e_lcmp, pl_0, pl_1, pl_2, pl_3, pl_4, pl_5, e_i2l, e_l2i, e_idiv, e_irem, e_ldiv, e_lrem, List.set_cons_zero, List.set_cons_succ, List.getD_cons_zero, List.getD_cons_succ, List.getD_nil, dT, dF, decide_true, decide_false, not_true_eq_false, not_false_eq_true, Bool.not_true, Bool.not_false, zLay_1, zLay_c1, zLay_c2, zLay_n, zWds_n, zWds_c, zCat_0, zCat_1, zCat_3, zCat_4, zLay_4, List.nil_append, List.cons_append, List.replicate_succ, List.replicate_zero, zTy_0, zTy_b0, zTy_1, zTy_3, zTy_3n, zTy_4, and_true, true_and, Option.bind_some, zNul_n, zNul_r, List.getElem?_cons_zero, List.getElem?_cons_succ, Int.add_zero, zTv_B, zTy_B, b_and, b_or, b_andn, b_not, b_shl, b_cmp, b_cmp0, b_cmp0l, b_eq0, b_eq1, zs_2, zl_21, zl_22, gf_s, gf_l, pf_s, pf_l, zl_z, zs_z, nA, and_self, Nat.le_refl, Option.some.injEq, eq_self, Nat.reduceAdd, Nat.reduceSub, C_Mo_nthOf_1, B_Mo_nthOf_1, T_Mo_nthOf_1, hs]
    · intro K env h1 ⟨hh, i, he, i0, hK⟩
      subst he
      subst hh
      have hs := e_has (a := x) (k := i) (h := h1) i0 (by omega)
      rw [lt i i0 (by omega)] at hs
      simp (disch := first | assumption | omega | exact zTy_0 | exact zTy_3 | exact zTy_3n | exact zTy_1 | exact zTy_B | exact zTy_b0 | exact zTy_4 | exact zEl_n | exact zEz4 | exact zEz9 | exact hz _ _ | exact hz2 _ _ | exact zI0 | exact zI1 | exact zI2 | exact zI3 | exact zI4 | exact zI5 | exact zI6 | exact zI7 | exact zI8 | exact zI9 | exact zI10 | (simp only [zl_21, zl_22, zs_2, ne_eq]; omega) | ((repeat (refine Eq.trans (us_r (by decide)) ?_)); assumption) | ((simp (decide := true) only [us_k, us_s]); omega)) only [↓rKi, ↓rKl, ↓rKn, ↓rKd, ↓rL, ↓r2, ↓r1, ↓rC2, ↓rC1, ↓rCn, ↓rNot, ↓rAnd, ↓rOr, ↓rCi, ↓rBx, ↓rIte, ↓rGf, ↓rLen, ↓rAx, ↓rNa, ↓rA0, ↓rA1, ↓rCs, ↓rCv, ↓rAn, ↓rNew, ↓rSeq, ↓rSkip, ↓rBrk, ↓rCnt, ↓rRetV, ↓rAsg, ↓rRet, ↓rIf, ↓rPf, ↓rPfo, ↓rAs, ↓rAso, ↓rDo, ↓rObj, ↓rBl, ↓rSw, ↓rCopy, ↓zSq_0, ↓zSq_r, ↓zSq_1, ↓zSq_2, ↓zBq_l, ↓zBq_r, ↓zWq_0, ↓zWq_1, ↓zWq_2, ↓zWq_r, ↓zLo_0, ↓zLo_1, ↓zLo_2, ↓zLo_r, ↓zLt_0, ↓rTr, ↓zFin_s, ↓zFin_n, wX_r, wO_s, wI_t, wI_f, zLk_0, zLk_s, zTv_vi, zTv_vb, zTv_vl, zTv_d, zTv_r, zTv_n, zTv_4, zTo_s, zCl_n, zCl_0, zCl_s, Int32.reduceToInt, Int64.reduceToInt, e_add, e_sub, e_mul, e_neg, e_ladd, e_lsub, e_lmul, e_lneg, q_0, q_1, q_2, q_3, q_4, q_5, q_b0, q_b1, p_0, p_1, p_2, p_3, p_4, p_5, p_b0, p_b1, e_lcmp, pl_0, pl_1, pl_2, pl_3, pl_4, pl_5, e_i2l, e_l2i, e_idiv, e_irem, e_ldiv, e_lrem, List.set_cons_zero, List.set_cons_succ, List.getD_cons_zero, List.getD_cons_succ, List.getD_nil, dT, dF, decide_true, decide_false, not_true_eq_false, not_false_eq_true, Bool.not_true, Bool.not_false, zLay_1, zLay_c1, zLay_c2, zLay_n, zWds_n, zWds_c, zCat_0, zCat_1, zCat_3, zCat_4, zLay_4, List.nil_append, List.cons_append, List.replicate_succ, List.replicate_zero, zTy_0, zTy_b0, zTy_1, zTy_3, zTy_3n, zTy_4, and_true, true_and, Option.bind_some, zNul_n, zNul_r, List.getElem?_cons_zero, List.getElem?_cons_succ, Int.add_zero, zTv_B, zTy_B, b_and, b_or, b_andn, b_not, b_shl, b_cmp, b_cmp0, b_cmp0l, b_eq0, b_eq1, zs_2, zl_21, zl_22, gf_s, gf_l, pf_s, pf_l, zl_z, zs_z, nA, and_self, Nat.le_refl, Option.some.injEq, eq_self, Nat.reduceAdd, Nat.reduceSub, C_Mo_nthOf_1, B_Mo_nthOf_1, T_Mo_nthOf_1, hs]
      exact ⟨i + 1, rfl, by omega, by omega⟩
end
