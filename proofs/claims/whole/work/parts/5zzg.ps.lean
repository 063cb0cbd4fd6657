/-! patches: all shared out (class) -/
theorem dr_s {α : Type} {T : List α} {k : Nat} {a d : α} {l : List α} (h : T.drop k = a :: l) : T.getD k d = a ∧ T.drop (k + 1) = l ∧ k < T.length := by
  refine ⟨?_, ?_, ?_⟩
  · have : (T.drop k)[0]? = some a := by rw [h]; rfl
    rw [List.getElem?_drop, Nat.add_zero] at this
    simp [List.getD, this]
  · rw [← List.drop_drop, h]
    rfl
  · have : (T.drop k).length = l.length + 1 := by rw [h]; rfl
    rw [List.length_drop] at this
    omega
section
variable {h H : zHp} {B m tr n : Nat} {gi : Nat → Int} {ga : Nat → Int → Value} {r : zHp} {X Y W : Int → Int} {S : BitVec 64} {fb : Int → Value} {ba : Int → Nat} {s : Nat → Int → Int} {p : Int × (Int → BitVec 64)} {f : Int}
theorem c_shareOut (c : CnL r B tr n fb ba X Y W) (rz : RZ p gi ga) (g : GZ n p) (pn : p.1 ≤ n) (f0 : 0 ≤ f ∧ f ≤ 1000) (g1 : gi 1 = 0) : ∃ gi2 ga2, gi2 1 = ((ptL X Y W n f 2000 p).length : Int) ∧ (∀ j : Nat, j < (ptL X Y W n f 2000 p).length → ga2 1 j = vB ((ptL X Y W n f 2000 p).getD j 0#64)) ∧ (ptL X Y W n f 2000 p).length ≤ n ∧ F_Co_shareOut [.ref B, vi f] (bc B tr n gi ga r) = some (none, bc B tr n gi2 ga2 r) := by
  have rx := c.1.2.1
  have n40 := rx.1
  obtain ⟨T, hT⟩ : ∃ T, T = ptL X Y W n f 2000 p := ⟨_, rfl⟩
  rw [← hT]
  have ml := ms_le (c := p.1) (n := n) (Z := p.2) g.1 (fun j a b => (g.2 j a b).2) n40
  let Q : Option Value → zHp → Prop := fun r1 h1 => ∃ gi2 ga2, (gi2 1 = (T.length : Int) ∧ (∀ j : Nat, j < T.length → ga2 1 j = vB (T.getD j 0#64)) ∧ T.length ≤ n) ∧ r1 = none ∧ h1 = bc B tr n gi2 ga2 r
  have tB := fun rest gi ga => bct_0 (B := B) (tr := tr) (n := n) (gi := gi) (ga := ga) (r := r) (rest := rest)
  have key : ∃ r1 h1, zMeth [3, 0] 5 9 S_Co_shareOut [.ref B, vi f] (bc B tr n gi ga r) = some (r1, h1) ∧ Q r1 h1 := by
    refine zMe (Q := Q) rfl ?_
    simp (disch := first | assumption | omega | exact zTy_0 | exact zTy_3 | exact zTy_3n | exact zTy_1 | exact zTy_B | exact zTy_b0 | exact zTy_4 | exact zEl_n | exact zEz4 | exact zEz9 | exact hz _ _ | exact hz2 _ _ | exact zI0 | exact zI1 | exact zI2 | exact zI3 | exact zI4 | exact zI5 | exact zI6 | exact zI7 | exact zI8 | exact zI9 | exact zI10 | (simp only [zl_21, zl_22, zs_2, ne_eq]; omega) | ((repeat (refine Eq.trans (us_r (by decide)) ?_)); assumption) | ((simp (decide := true) only [us_k, us_s]); omega)) only [↓rKi, ↓rKl, ↓rKn, ↓rKd, ↓rL, ↓r2, ↓r1, ↓rC2, ↓rC1, ↓rCn, ↓rNot, ↓rAnd, ↓rOr, ↓rCi, ↓rBx, ↓rIte, ↓rGf, ↓rLen, ↓rAx, ↓rNa, ↓rA0, ↓rA1, ↓rCs, ↓rCv, ↓rAn, ↓rNew, ↓rSeq, ↓rSkip, ↓rBrk, ↓rCnt, ↓rRetV, ↓rAsg, ↓rRet, ↓rIf, ↓rPf, ↓rPfo, ↓rAs, ↓rAso, ↓rDo, ↓rObj, ↓rBl, ↓rSw, ↓rCopy, ↓zSq_0, ↓zSq_r, ↓zSq_1, ↓zSq_2, ↓zBq_l, ↓zBq_r, ↓zWq_0, ↓zWq_1, ↓zWq_2, ↓zWq_r, ↓zLo_0, ↓zLo_1, ↓zLo_2, ↓zLo_r, ↓zLt_0, ↓rTr, ↓zFin_s, ↓zFin_n, wX_r, wO_s, wI_t, wI_f, zLk_0, zLk_s, zTv_vi, zTv_vb, zTv_vl, zTv_d, zTv_r, zTv_n, zTv_4, zTo_s, zCl_n, zCl_0, zCl_s, Int32.reduceToInt, Int64.reduceToInt, e_add, e_sub, e_mul, e_neg, e_ladd, e_lsub, e_lmul, e_lneg, q_0, q_1, q_2, q_3, q_4, q_5, q_b0, q_b1, p_0, p_1, p_2, p_3, p_4, p_5, p_b0, p_b1, e_lcmp, pl_0, pl_1, pl_2, pl_3, pl_4, pl_5, e_i2l, e_l2i, e_idiv, e_irem, e_ldiv, e_lrem, List.set_cons_zero, List.set_cons_succ, List.getD_cons_zero, List.getD_cons_succ, List.getD_nil, dT, dF, decide_true, decide_false, not_true_eq_false, not_false_eq_true, Bool.not_true, Bool.not_false, zLay_1, zLay_c1, zLay_c2, zLay_n, zWds_n, zWds_c, zCat_0, zCat_1, zCat_3, zCat_4, zLay_4, List.nil_append, List.cons_append, List.replicate_succ, List.replicate_zero, zTy_0, zTy_b0, zTy_1, zTy_3, zTy_3n, zTy_4, and_true, true_and, Option.bind_some, zNul_n, zNul_r, List.getElem?_cons_zero, List.getElem?_cons_succ, Int.add_zero, zTv_B, zTy_B, b_and, b_or, b_andn, b_not, b_shl, b_cmp, b_cmp0, b_cmp0l, b_eq0, b_eq1, zs_2, zl_21, zl_22, gf_s, gf_l, pf_s, pf_l, zl_z, zs_z, nA, and_self, Nat.le_refl, Option.some.injEq, eq_self, Nat.reduceAdd, Nat.reduceSub, bc_2, bct_0, bcf_0_0, bcf_0_1, bcf_0_2, bcf_0_3, bcf_0_4, bcp_0_4, bcf_0_5, bcf_0_6, bcp_0_6, bct_1, bcf_1_0, bcp_1_0, bcf_1_1, bcp_1_1, bcf_1_2, bcp_1_2, bct_2, bcf_2_0, bcp_2_0, bcf_2_1, bcp_2_1, bcf_2_2, bcp_2_2, bca_3, bcl_3, bcs_3, bca_4, bcl_4, bcs_4, ug_s, ug_n, ua_s, ua_k, ua_j, zStK_64, zStK_65, zStK_67, zStK_68, zStK_69, zStK_70, zStK_71, zStK_72, zStK_73, S_Co_shareOut, L_Co_shareOut_0]
    refine wLp (fun K env h' => ∃ (gi2 : Nat → Int) (ga2 : Nat → Int → Value) (p2 : Int × (Int → BitVec 64)) (k : Nat) (i : Int), (h' = bc B tr n gi2 ga2 r ∧ env = [.ref B, vi f, vi i, .null, .null]) ∧ (RZ p2 gi2 ga2 ∧ GZ n p2 ∧ ms p2.1 p2.2 ≤ K) ∧ (T.drop k = ptL X Y W n f K p2 ∧ gi2 1 = (k : Int) ∧ (k : Int) + p2.1 ≤ n ∧ k ≤ T.length) ∧ (∀ j : Nat, j < k → ga2 1 j = vB (T.getD j 0#64)) ∧ (0 ≤ i ∧ i + K = 2000)) 2000 (by decide) ⟨gi, ga, p, 0, 0, ⟨rfl, rfl⟩, ⟨rz, g, by omega⟩, ⟨hT, g1, by omega, Nat.zero_le _⟩, fun j hj => by omega, by omega⟩ ?_ ?_
    · intro env h' ⟨gi2, ga2, p2, k, i, ⟨hh, he⟩, ⟨rz2, g2, m2⟩, ⟨t1, t2, t3, t4⟩, t5, i0, i1⟩
      subst hh
      subst he
      have c0 : p2.1 = 0 := by
        by_cases z : 0 < p2.1
        · have s1 := (stP_ok (X := X) (Y := Y) (W := W) (f := f) n40 g2 z).2.1
          have s2 := ms_nn (c := (stP X Y W n f p2).1) (Z := (stP X Y W n f p2).2)
          omega
        · have := g2.1
          omega
      have g0 := rz2.1
      rw [c0] at g0
      have tl : T.length ≤ k := by
        have : (T.drop k).length = 0 := by rw [t1]; rfl
        rw [List.length_drop] at this
        omega
      simp (disch := first | assumption | omega | exact zTy_0 | exact zTy_3 | exact zTy_3n | exact zTy_1 | exact zTy_B | exact zTy_b0 | exact zTy_4 | exact zEl_n | exact zEz4 | exact zEz9 | exact hz _ _ | exact hz2 _ _ | exact zI0 | exact zI1 | exact zI2 | exact zI3 | exact zI4 | exact zI5 | exact zI6 | exact zI7 | exact zI8 | exact zI9 | exact zI10 | (simp only [zl_21, zl_22, zs_2, ne_eq]; omega) | ((repeat (refine Eq.trans (us_r (by decide)) ?_)); assumption) | ((simp (decide := true) only [us_k, us_s]); omega)) only [↓rKi, ↓rKl, ↓rKn, ↓rKd, ↓rL, ↓r2, ↓r1, ↓rC2, ↓rC1, ↓rCn, ↓rNot, ↓rAnd, ↓rOr, ↓rCi, ↓rBx, ↓rIte, ↓rGf, ↓rLen, ↓rAx, ↓rNa, ↓rA0, ↓rA1, ↓rCs, ↓rCv, ↓rAn, ↓rNew, ↓rSeq, ↓rSkip, ↓rBrk, ↓rCnt, ↓rRetV, ↓rAsg, ↓rRet, ↓rIf, ↓rPf, ↓rPfo, ↓rAs, ↓rAso, ↓rDo, ↓rObj, ↓rBl, ↓rSw, ↓rCopy, ↓zSq_0, ↓zSq_r, ↓zSq_1, ↓zSq_2, ↓zBq_l, ↓zBq_r, ↓zWq_0, ↓zWq_1, ↓zWq_2, ↓zWq_r, ↓zLo_0, ↓zLo_1, ↓zLo_2, ↓zLo_r, ↓zLt_0, ↓rTr, ↓zFin_s, ↓zFin_n, wX_r, wO_s, wI_t, wI_f, zLk_0, zLk_s, zTv_vi, zTv_vb, zTv_vl, zTv_d, zTv_r, zTv_n, zTv_4, zTo_s, zCl_n, zCl_0, zCl_s, Int32.reduceToInt, Int64.reduceToInt, e_add, e_sub, e_mul, e_neg, e_ladd, e_lsub, e_lmul, e_lneg, q_0, q_1, q_2, q_3, q_4, q_5, q_b0, q_b1, p_0, p_1, p_2, p_3, p_4, p_5, p_b0, p_b1, e_lcmp, pl_0, pl_1, pl_2, pl_3, pl_4, pl_5, e_i2l, e_l2i, e_idiv, e_irem, e_ldiv, e_lrem, List.set_cons_zero, List.set_cons_succ, List.getD_cons_zero, List.getD_cons_succ, List.getD_nil, dT, dF, decide_true, decide_false, not_true_eq_false, not_false_eq_true, Bool.not_true, Bool.not_false, zLay_1, zLay_c1, zLay_c2, zLay_n, zWds_n, zWds_c, zCat_0, zCat_1, zCat_3, zCat_4, zLay_4, List.nil_append, List.cons_append, List.replicate_succ, List.replicate_zero, zTy_0, zTy_b0, zTy_1, zTy_3, zTy_3n, zTy_4, and_true, true_and, Option.bind_some, zNul_n, zNul_r, List.getElem?_cons_zero, List.getElem?_cons_succ, Int.add_zero, zTv_B, zTy_B, b_and, b_or, b_andn, b_not, b_shl, b_cmp, b_cmp0, b_cmp0l, b_eq0, b_eq1, zs_2, zl_21, zl_22, gf_s, gf_l, pf_s, pf_l, zl_z, zs_z, nA, and_self, Nat.le_refl, Option.some.injEq, eq_self, Nat.reduceAdd, Nat.reduceSub, bc_2, bct_0, bcf_0_0, bcf_0_1, bcf_0_2, bcf_0_3, bcf_0_4, bcp_0_4, bcf_0_5, bcf_0_6, bcp_0_6, bct_1, bcf_1_0, bcp_1_0, bcf_1_1, bcp_1_1, bcf_1_2, bcp_1_2, bct_2, bcf_2_0, bcp_2_0, bcf_2_1, bcp_2_1, bcf_2_2, bcp_2_2, bca_3, bcl_3, bcs_3, bca_4, bcl_4, bcs_4, ug_s, ug_n, ua_s, ua_k, ua_j, zStK_64, zStK_65, zStK_67, zStK_68, zStK_69, zStK_70, zStK_71, zStK_72, zStK_73, C_Co_shareOut_0, B_Co_shareOut_0, T_Co_shareOut_0, g0]
      exact ⟨gi2, ga2, ⟨by omega, fun j hj => t5 j (by omega), by omega⟩, rfl, rfl⟩
    · intro K env h' ⟨gi2, ga2, p2, k, i, ⟨hh, he⟩, ⟨rz2, g2, m2⟩, ⟨t1, t2, t3, t4⟩, t5, i0, i1⟩
      subst hh
      subst he
      have g0 := rz2.1
      have gz := g2.1
      unfold ptL at t1
      by_cases z : p2.1 ≤ 0
      · rw [if_pos z] at t1
        have c0 : p2.1 = 0 := by omega
        rw [c0] at g0
        have tl : T.length ≤ k := by
          have : (T.drop k).length = 0 := by rw [t1]; rfl
          rw [List.length_drop] at this
          omega
        simp (disch := first | assumption | omega | exact zTy_0 | exact zTy_3 | exact zTy_3n | exact zTy_1 | exact zTy_B | exact zTy_b0 | exact zTy_4 | exact zEl_n | exact zEz4 | exact zEz9 | exact hz _ _ | exact hz2 _ _ | exact zI0 | exact zI1 | exact zI2 | exact zI3 | exact zI4 | exact zI5 | exact zI6 | exact zI7 | exact zI8 | exact zI9 | exact zI10 | (simp only [zl_21, zl_22, zs_2, ne_eq]; omega) | ((repeat (refine Eq.trans (us_r (by decide)) ?_)); assumption) | ((simp (decide := true) only [us_k, us_s]); omega)) only [↓rKi, ↓rKl, ↓rKn, ↓rKd, ↓rL, ↓r2, ↓r1, ↓rC2, ↓rC1, ↓rCn, ↓rNot, ↓rAnd, ↓rOr, ↓rCi, ↓rBx, ↓rIte, ↓rGf, ↓rLen, ↓rAx, ↓rNa, ↓rA0, ↓rA1, ↓rCs, ↓rCv, ↓rAn, ↓rNew, ↓rSeq, ↓rSkip, ↓rBrk, ↓rCnt, ↓rRetV, ↓rAsg, ↓rRet, ↓rIf, ↓rPf, ↓rPfo, ↓rAs, ↓rAso, ↓rDo, ↓rObj, ↓rBl, ↓rSw, ↓rCopy, ↓zSq_0, ↓zSq_r, ↓zSq_1, ↓zSq_2, ↓zBq_l, ↓zBq_r, ↓zWq_0, ↓zWq_1, ↓zWq_2, ↓zWq_r, ↓zLo_0, ↓zLo_1, ↓zLo_2, ↓zLo_r, ↓zLt_0, ↓rTr, ↓zFin_s, ↓zFin_n, wX_r, wO_s, wI_t, wI_f, zLk_0, zLk_s, zTv_vi, zTv_vb, zTv_vl, zTv_d, zTv_r, zTv_n, zTv_4, zTo_s, zCl_n, zCl_0, zCl_s, Int32.reduceToInt, Int64.reduceToInt, e_add, e_sub, e_mul, e_neg, e_ladd, e_lsub, e_lmul, e_lneg, q_0, q_1, q_2, q_3, q_4, q_5, q_b0, q_b1, p_0, p_1, p_2, p_3, p_4, p_5, p_b0, p_b1, e_lcmp, pl_0, pl_1, pl_2, pl_3, pl_4, pl_5, e_i2l, e_l2i, e_idiv, e_irem, e_ldiv, e_lrem, List.set_cons_zero, List.set_cons_succ, List.getD_cons_zero, List.getD_cons_succ, List.getD_nil, dT, dF, decide_true, decide_false, not_true_eq_false, not_false_eq_true, Bool.not_true, Bool.not_false, zLay_1, zLay_c1, zLay_c2, zLay_n, zWds_n, zWds_c, zCat_0, zCat_1, zCat_3, zCat_4, zLay_4, List.nil_append, List.cons_append, List.replicate_succ, List.replicate_zero, zTy_0, zTy_b0, zTy_1, zTy_3, zTy_3n, zTy_4, and_true, true_and, Option.bind_some, zNul_n, zNul_r, List.getElem?_cons_zero, List.getElem?_cons_succ, Int.add_zero, zTv_B, zTy_B, b_and, b_or, b_andn, b_not, b_shl, b_cmp, b_cmp0, b_cmp0l, b_eq0, b_eq1, zs_2, zl_21, zl_22, gf_s, gf_l, pf_s, pf_l, zl_z, zs_z, nA, and_self, Nat.le_refl, Option.some.injEq, eq_self, Nat.reduceAdd, Nat.reduceSub, bc_2, bct_0, bcf_0_0, bcf_0_1, bcf_0_2, bcf_0_3, bcf_0_4, bcp_0_4, bcf_0_5, bcf_0_6, bcp_0_6, bct_1, bcf_1_0, bcp_1_0, bcf_1_1, bcp_1_1, bcf_1_2, bcp_1_2, bct_2, bcf_2_0, bcp_2_0, bcf_2_1, bcp_2_1, bcf_2_2, bcp_2_2, bca_3, bcl_3, bcs_3, bca_4, bcl_4, bcs_4, ug_s, ug_n, ua_s, ua_k, ua_j, zStK_64, zStK_65, zStK_67, zStK_68, zStK_69, zStK_70, zStK_71, zStK_72, zStK_73, C_Co_shareOut_0, B_Co_shareOut_0, T_Co_shareOut_0, g0]
        exact ⟨gi2, ga2, ⟨by omega, fun j hj => t5 j (by omega), by omega⟩, rfl, rfl⟩
      · rw [if_neg z] at t1
        have st := stP_ok (X := X) (Y := Y) (W := W) (f := f) n40 g2 (show 0 < p2.1 by omega)
        have ob := hvO_b (W := W) (n := n) (p := p2) (by omega)
        have h1 := c_heaviest (gi := gi2) (ga := ga2) (p := p2) (b := -1) c rz2 gz (by omega) (Or.inl rfl)
        rw [cB_O] at h1
        have h2 := c_heaviest (gi := gi2) (ga := ga2) (p := p2) (b := hvO W n p2) c rz2 gz (by omega) (Or.inr ob)
        rw [cB_T ob.1] at h2
        by_cases ze : hvT W n p2 (hvO W n p2) = -1
        · rw [if_pos ze] at t1
          obtain ⟨d1, d2, d3⟩ := dr_s (d := 0#64) t1
          have es : stP X Y W n f p2 = (p2.1 - 1, rmv p2.2 (hvO W n p2)) := if_pos ze
          obtain ⟨gi3, ga3, rz3, ⟨y1, y2⟩, e3⟩ := c_makePatch (B := B) (tr := tr) (r := r) n40 rz2 (by omega) ob.1 ob.2 t2 (by omega) (by omega)
          rw [ze] at h2
          rw [es] at st d2
          simp (disch := first | assumption | omega | exact zTy_0 | exact zTy_3 | exact zTy_3n | exact zTy_1 | exact zTy_B | exact zTy_b0 | exact zTy_4 | exact zEl_n | exact zEz4 | exact zEz9 | exact hz _ _ | exact hz2 _ _ | exact zI0 | exact zI1 | exact zI2 | exact zI3 | exact zI4 | exact zI5 | exact zI6 | exact zI7 | exact zI8 | exact zI9 | exact zI10 | (simp only [zl_21, zl_22, zs_2, ne_eq]; omega) | ((repeat (refine Eq.trans (us_r (by decide)) ?_)); assumption) | ((simp (decide := true) only [us_k, us_s]); omega)) only [↓rKi, ↓rKl, ↓rKn, ↓rKd, ↓rL, ↓r2, ↓r1, ↓rC2, ↓rC1, ↓rCn, ↓rNot, ↓rAnd, ↓rOr, ↓rCi, ↓rBx, ↓rIte, ↓rGf, ↓rLen, ↓rAx, ↓rNa, ↓rA0, ↓rA1, ↓rCs, ↓rCv, ↓rAn, ↓rNew, ↓rSeq, ↓rSkip, ↓rBrk, ↓rCnt, ↓rRetV, ↓rAsg, ↓rRet, ↓rIf, ↓rPf, ↓rPfo, ↓rAs, ↓rAso, ↓rDo, ↓rObj, ↓rBl, ↓rSw, ↓rCopy, ↓zSq_0, ↓zSq_r, ↓zSq_1, ↓zSq_2, ↓zBq_l, ↓zBq_r, ↓zWq_0, ↓zWq_1, ↓zWq_2, ↓zWq_r, ↓zLo_0, ↓zLo_1, ↓zLo_2, ↓zLo_r, ↓zLt_0, ↓rTr, ↓zFin_s, ↓zFin_n, wX_r, wO_s, wI_t, wI_f, zLk_0, zLk_s, zTv_vi, zTv_vb, zTv_vl, zTv_d, zTv_r, zTv_n, zTv_4, zTo_s, zCl_n, zCl_0, zCl_s, Int32.reduceToInt, Int64.reduceToInt, e_add, e_sub, e_mul, e_neg, e_ladd, e_lsub, e_lmul, e_lneg, q_0, q_1, q_2, q_3, q_4, q_5, q_b0, q_b1, p_0, p_1, p_2, p_3, p_4, p_5, p_b0, p_b1, e_lcmp, pl_0, pl_1, pl_2, pl_3, pl_4, pl_5, e_i2l, e_l2i, e_idiv, e_irem, e_ldiv, e_lrem, List.set_cons_zero, List.set_cons_succ, List.getD_cons_zero, List.getD_cons_succ, List.getD_nil, dT, dF, decide_true, decide_false, not_true_eq_false, not_false_eq_true, Bool.not_true, Bool.not_false, zLay_1, zLay_c1, zLay_c2, zLay_n, zWds_n, zWds_c, zCat_0, zCat_1, zCat_3, zCat_4, zLay_4, List.nil_append, List.cons_append, List.replicate_succ, List.replicate_zero, zTy_0, zTy_b0, zTy_1, zTy_3, zTy_3n, zTy_4, and_true, true_and, Option.bind_some, zNul_n, zNul_r, List.getElem?_cons_zero, List.getElem?_cons_succ, Int.add_zero, zTv_B, zTy_B, b_and, b_or, b_andn, b_not, b_shl, b_cmp, b_cmp0, b_cmp0l, b_eq0, b_eq1, zs_2, zl_21, zl_22, gf_s, gf_l, pf_s, pf_l, zl_z, zs_z, nA, and_self, Nat.le_refl, Option.some.injEq, eq_self, Nat.reduceAdd, Nat.reduceSub, bc_2, bct_0, bcf_0_0, bcf_0_1, bcf_0_2, bcf_0_3, bcf_0_4, bcp_0_4, bcf_0_5, bcf_0_6, bcp_0_6, bct_1, bcf_1_0, bcp_1_0, bcf_1_1, bcp_1_1, bcf_1_2, bcp_1_2, bct_2, bcf_2_0, bcp_2_0, bcf_2_1, bcp_2_1, bcf_2_2, bcp_2_2, bca_3, bcl_3, bcs_3, bca_4, bcl_4, bcs_4, ug_s, ug_n, ua_s, ua_k, ua_j, zStK_64, zStK_65, zStK_67, zStK_68, zStK_69, zStK_70, zStK_71, zStK_72, zStK_73, C_Co_shareOut_0, B_Co_shareOut_0, T_Co_shareOut_0, g0, tB, h1, h2, e3]
          refine ⟨gi3, ga3, (p2.1 - 1, rmv p2.2 (hvO W n p2)), k + 1, i + 1, ⟨rfl, rfl⟩, ⟨rz3, st.1, by omega⟩, ⟨d2, by rw [y1]; omega, by show ((k + 1 : Nat) : Int) + (p2.1 - 1) ≤ n; omega, by omega⟩, fun j hj => ?_, by omega, by omega⟩
          rw [y2]
          by_cases w : j = k
          · rw [if_pos (by omega), w, d1]
          · rw [if_neg (by omega)]
            exact t5 j (by omega)
        · rw [if_neg ze] at t1
          have es : stP X Y W n f p2 = stT X Y W n f p2 (hvO W n p2) (hvT W n p2 (hvO W n p2)) := if_neg ze
          rcases hvT_b (W := W) (n := n) (p := p2) (o := hvO W n p2) with q | ⟨q1, q2, q3⟩
          · exact absurd q ze
          · obtain ⟨gi3, ga3, rz3, ⟨y1, y2⟩, e3⟩ := c_settle (gi := gi2) (ga := ga2) c rz2 (by omega) g2 f0 ob.1 ob.2 q1.1 q1.2 q2
            rw [es] at st t1
            generalize hvT W n p2 (hvO W n p2) = tt at *
            simp (disch := first | assumption | omega | exact zTy_0 | exact zTy_3 | exact zTy_3n | exact zTy_1 | exact zTy_B | exact zTy_b0 | exact zTy_4 | exact zEl_n | exact zEz4 | exact zEz9 | exact hz _ _ | exact hz2 _ _ | exact zI0 | exact zI1 | exact zI2 | exact zI3 | exact zI4 | exact zI5 | exact zI6 | exact zI7 | exact zI8 | exact zI9 | exact zI10 | (simp only [zl_21, zl_22, zs_2, ne_eq]; omega) | ((repeat (refine Eq.trans (us_r (by decide)) ?_)); assumption) | ((simp (decide := true) only [us_k, us_s]); omega)) only [↓rKi, ↓rKl, ↓rKn, ↓rKd, ↓rL, ↓r2, ↓r1, ↓rC2, ↓rC1, ↓rCn, ↓rNot, ↓rAnd, ↓rOr, ↓rCi, ↓rBx, ↓rIte, ↓rGf, ↓rLen, ↓rAx, ↓rNa, ↓rA0, ↓rA1, ↓rCs, ↓rCv, ↓rAn, ↓rNew, ↓rSeq, ↓rSkip, ↓rBrk, ↓rCnt, ↓rRetV, ↓rAsg, ↓rRet, ↓rIf, ↓rPf, ↓rPfo, ↓rAs, ↓rAso, ↓rDo, ↓rObj, ↓rBl, ↓rSw, ↓rCopy, ↓zSq_0, ↓zSq_r, ↓zSq_1, ↓zSq_2, ↓zBq_l, ↓zBq_r, ↓zWq_0, ↓zWq_1, ↓zWq_2, ↓zWq_r, ↓zLo_0, ↓zLo_1, ↓zLo_2, ↓zLo_r, ↓zLt_0, ↓rTr, ↓zFin_s, ↓zFin_n, wX_r, wO_s, wI_t, wI_f, zLk_0, zLk_s, zTv_vi, zTv_vb, zTv_vl, zTv_d, zTv_r, zTv_n, zTv_4, zTo_s, zCl_n, zCl_0, zCl_s, Int32.reduceToInt, Int64.reduceToInt, e_add, e_sub, e_mul, e_neg, e_ladd, e_lsub, e_lmul, e_lneg, q_0, q_1, q_2, q_3, q_4, q_5, q_b0, q_b1, p_0, p_1, p_2, p_3, p_4, p_5, p_b0, p_b1, e_lcmp, pl_0, pl_1, pl_2, pl_3, pl_4, pl_5, e_i2l, e_l2i, e_idiv, e_irem, e_ldiv, e_lrem, List.set_cons_zero, List.set_cons_succ, List.getD_cons_zero, List.getD_cons_succ, List.getD_nil, dT, dF, decide_true, decide_false, not_true_eq_false, not_false_eq_true, Bool.not_true, Bool.not_false, zLay_1, zLay_c1, zLay_c2, zLay_n, zWds_n, zWds_c, zCat_0, zCat_1, zCat_3, zCat_4, zLay_4, List.nil_append, List.cons_append, List.replicate_succ, List.replicate_zero, zTy_0, zTy_b0, zTy_1, zTy_3, zTy_3n, zTy_4, and_true, true_and, Option.bind_some, zNul_n, zNul_r, List.getElem?_cons_zero, List.getElem?_cons_succ, Int.add_zero, zTv_B, zTy_B, b_and, b_or, b_andn, b_not, b_shl, b_cmp, b_cmp0, b_cmp0l, b_eq0, b_eq1, zs_2, zl_21, zl_22, gf_s, gf_l, pf_s, pf_l, zl_z, zs_z, nA, and_self, Nat.le_refl, Option.some.injEq, eq_self, Nat.reduceAdd, Nat.reduceSub, bc_2, bct_0, bcf_0_0, bcf_0_1, bcf_0_2, bcf_0_3, bcf_0_4, bcp_0_4, bcf_0_5, bcf_0_6, bcp_0_6, bct_1, bcf_1_0, bcp_1_0, bcf_1_1, bcp_1_1, bcf_1_2, bcp_1_2, bct_2, bcf_2_0, bcp_2_0, bcf_2_1, bcp_2_1, bcf_2_2, bcp_2_2, bca_3, bcl_3, bcs_3, bca_4, bcl_4, bcs_4, ug_s, ug_n, ua_s, ua_k, ua_j, zStK_64, zStK_65, zStK_67, zStK_68, zStK_69, zStK_70, zStK_71, zStK_72, zStK_73, C_Co_shareOut_0, B_Co_shareOut_0, T_Co_shareOut_0, g0, tB, h1, h2, e3]
            refine ⟨gi3, ga3, stT X Y W n f p2 (hvO W n p2) tt, k, i + 1, ⟨rfl, rfl⟩, ⟨rz3, st.1, by omega⟩, ⟨t1, by rw [y1]; exact t2, by omega, t4⟩, fun j hj => ?_, by omega, by omega⟩
            rw [y2]
            exact t5 j hj
  obtain ⟨r1, h1, e, gi2, ga2, ⟨y1, y2, y3⟩, rfl, rfl⟩ := key
  exact ⟨gi2, ga2, y1, y2, y3, e⟩
end
