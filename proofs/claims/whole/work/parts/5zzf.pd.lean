/-! patches: the class, shared out -/
section
variable {h H : zHp} {B m tr n : Nat} {gi : Nat → Int} {ga : Nat → Int → Value} {r : zHp} {X Y W : Int → Int} {S : BitVec 64} {fb : Int → Value} {ba : Int → Nat} {s : Nat → Int → Int} {p : Int × (Int → BitVec 64)} {f : Int}
theorem c_divide {o t : Int} (c : CnL r B tr n fb ba X Y W) (rz : RZ p gi ga) (pn : p.1 ≤ n) (g : GZ n p) (o0 : 0 ≤ o) (o1 : o < p.1) (t0 : 0 ≤ t) (t1 : t < p.1) (ot : t ≠ o) : ∃ gi2 ga2, RZ (p.1, dvZ X Y W n p.2 o t) gi2 ga2 ∧ (gi2 1 = gi 1 ∧ ga2 1 = ga 1) ∧ F_Co_divide [.ref B, vi o, vi t, vB (p.2 o &&& p.2 t)] (bc B tr n gi ga r) = some (none, bc B tr n gi2 ga2 r) := by
  have rx := c.1.2.1
  have n40 := rx.1
  have ht := c.1.1
  have tl := c.2.1
  have go := g.2 o o0 o1
  have gt := g.2 t t0 t1
  have zo := rz.2 o o0 o1
  have zt := rz.2 t t0 t1
  have a1 := c_addAll1 (S := p.2 o) (gi := gi) (ga := ga) c go.1 go.2
  have a2 := c_addAll2 (S := p.2 t) (gi := sgG gi 2 (mnF X Y W (p.2 o) n)) (ga := ga) c gt.1 gt.2
  have bo := (mnF_b (S := p.2 o) rx n (Nat.le_refl _)).2
  have bt' := (mnF_b (S := p.2 t) rx n (Nat.le_refl _)).2
  obtain ⟨g3, hg3⟩ : ∃ g3, g3 = sgG (sgG gi 2 (mnF X Y W (p.2 o) n)) 5 (mnF X Y W (p.2 t) n) := ⟨_, rfl⟩
  rw [← hg3] at a2
  have q2 : g3 2 = (mnF X Y W (p.2 o) n).1 := by rw [hg3]; rfl
  have q3 : g3 3 = (mnF X Y W (p.2 o) n).2.1 := by rw [hg3]; rfl
  have q5 : g3 5 = (mnF X Y W (p.2 t) n).1 := by rw [hg3]; rfl
  have q6 : g3 6 = (mnF X Y W (p.2 t) n).2.1 := by rw [hg3]; rfl
  have q0 : g3 0 = p.1 := by rw [hg3]; exact rz.1
  have q1 : g3 1 = gi 1 := by rw [hg3]; rfl
  obtain ⟨C, hC⟩ : ∃ C, C = dvC X Y W n (p.2 o) (p.2 t) := ⟨_, rfl⟩
  have tB := fun rest gi ga => bct_0 (B := B) (tr := tr) (n := n) (gi := gi) (ga := ga) (r := r) (rest := rest)
  have tB1 := fun rest gi ga => bct_1 (B := B) (tr := tr) (n := n) (gi := gi) (ga := ga) (r := r) (rest := rest)
  have tB2 := fun rest gi ga => bct_2 (B := B) (tr := tr) (n := n) (gi := gi) (ga := ga) (r := r) (rest := rest)
  let Q : Option Value → zHp → Prop := fun r1 h1 => ∃ gi2 ga2, (RZ (p.1, dvZ X Y W n p.2 o t) gi2 ga2 ∧ (gi2 1 = gi 1 ∧ ga2 1 = ga 1)) ∧ r1 = none ∧ h1 = bc B tr n gi2 ga2 r
  have key : ∃ r1 h1, zMeth [3, 0, 0, 1] 8 9 S_Co_divide [.ref B, vi o, vi t, vB (p.2 o &&& p.2 t)] (bc B tr n gi ga r) = some (r1, h1) ∧ Q r1 h1 := by
    refine zMe (Q := Q) rfl ?_
    simp (disch := first | assumption | omega | exact zTy_0 | exact zTy_3 | exact zTy_3n | exact zTy_1 | exact zTy_B | exact zTy_b0 | exact zTy_4 | exact zEl_n | exact zEz4 | exact zEz9 | exact hz _ _ | exact hz2 _ _ | exact zI0 | exact zI1 | exact zI2 | exact zI3 | exact zI4 | exact zI5 | exact zI6 | exact zI7 | exact zI8 | exact zI9 | exact zI10 | (simp only [zl_21, zl_22, zs_2, ne_eq]; omega) | ((repeat (refine Eq.trans (us_r (by decide)) ?_)); assumption) | ((simp (decide := true) only [us_k, us_s]); omega)) only [↓rKi, ↓rKl, ↓rKn, ↓rKd, ↓rL, ↓r2, ↓r1, ↓rC2, ↓rC1, ↓rCn, ↓rNot, ↓rAnd, ↓rOr, ↓rCi, ↓rBx, ↓rIte, ↓rGf, ↓rLen, ↓rAx, ↓rNa, ↓rA0, ↓rA1, ↓rCs, ↓rCv, ↓rAn, ↓rNew, ↓rSeq, ↓rSkip, ↓rBrk, ↓rCnt, ↓rRetV, ↓rAsg, ↓rRet, ↓rIf, ↓rPf, ↓rPfo, ↓rAs, ↓rAso, ↓rDo, ↓rObj, ↓rBl, ↓rSw, ↓rCopy, ↓zSq_0, ↓zSq_r, ↓zSq_1, ↓zSq_2, ↓zBq_l, ↓zBq_r, ↓zWq_0, ↓zWq_1, ↓zWq_2, ↓zWq_r, ↓zLo_0, ↓zLo_1, ↓zLo_2, ↓zLo_r, ↓zLt_0, ↓rTr, ↓zFin_s, ↓zFin_n, wX_r, wO_s, wI_t, wI_f, zLk_0, zLk_s, zTv_vi, zTv_vb, zTv_vl, zTv_d, zTv_r, zTv_n, zTv_4, zTo_s, zCl_n, zCl_0, zCl_s, Int32.reduceToInt, Int64.reduceToInt, e_add, e_sub, e_mul, e_neg, e_ladd, e_lsub, e_lmul, e_lneg, q_0, q_1, q_2, q_3, q_4, q_5, q_b0, q_b1, p_0, p_1, p_2, p_3, p_4, p_5, p_b0, p_b1, e_lcmp, pl_0, pl_1, pl_2, pl_3, pl_4, pl_5, e_i2l, e_l2i, e_idiv, e_irem, e_ldiv, e_lrem, List.set_cons_zero, List.set_cons_succ, List.getD_cons_zero, List.getD_cons_succ, List.getD_nil, dT, dF, decide_true, decide_false, not_true_eq_false, not_false_eq_true, Bool.not_true, Bool.not_false, zLay_1, zLay_c1, zLay_c2, zLay_n, zWds_n, zWds_c, zCat_0, zCat_1, zCat_3, zCat_4, zLay_4, List.nil_append, List.cons_append, List.replicate_succ, List.replicate_zero, zTy_0, zTy_b0, zTy_1, zTy_3, zTy_3n, zTy_4, and_true, true_and, Option.bind_some, zNul_n, zNul_r, List.getElem?_cons_zero, List.getElem?_cons_succ, Int.add_zero, zTv_B, zTy_B, b_and, b_or, b_andn, b_not, b_shl, b_cmp, b_cmp0, b_cmp0l, b_eq0, b_eq1, zs_2, zl_21, zl_22, gf_s, gf_l, pf_s, pf_l, zl_z, zs_z, nA, and_self, Nat.le_refl, Option.some.injEq, eq_self, Nat.reduceAdd, Nat.reduceSub, bc_2, bct_0, bcf_0_0, bcf_0_1, bcf_0_2, bcf_0_3, bcf_0_4, bcp_0_4, bcf_0_5, bcf_0_6, bcp_0_6, bct_1, bcf_1_0, bcp_1_0, bcf_1_1, bcp_1_1, bcf_1_2, bcp_1_2, bct_2, bcf_2_0, bcp_2_0, bcf_2_1, bcp_2_1, bcf_2_2, bcp_2_2, bca_3, bcl_3, bcs_3, bca_4, bcl_4, bcs_4, ug_s, ug_n, ua_s, ua_k, ua_j, zStK_64, zStK_65, zStK_67, zStK_68, zStK_69, zStK_70, zStK_71, zStK_72, zStK_73, S_Co_divide, L_Co_divide_0, tB1, tB2, zo, zt, a1, a2]
    refine wForI (fun i env h' => ∃ ga2, (h' = bc B tr n g3 ga2 r ∧ env = [.ref B, vi o, vi t, vB (p.2 o &&& p.2 t), .null, vi i, .null, .null]) ∧ ga2 1 = ga 1 ∧ ∀ e, 0 ≤ e → e < p.1 → ga2 0 e = vB (up (up p.2 o (dvF C (p.2 o &&& p.2 t) (p.2 o) (p.2 t) i.toNat).1) t (dvF C (p.2 o &&& p.2 t) (p.2 o) (p.2 t) i.toNat).2 e)) 0 n (by omega) (by omega) ⟨ga, ⟨rfl, rfl⟩, rfl, fun e e0 e1 => ?_⟩ ?_ ?_
    · show ga 0 e = vB (up (up p.2 o (p.2 o)) t (p.2 t) e)
      rw [rz.2 e e0 e1]
      unfold up
      split
      · next z => rw [z]
      · split
        · next z => rw [z]
        · rfl
    · intro i env h' i0 i1 ⟨ga2, ⟨hh, he⟩, k1, k2⟩
      subst hh
      subst he
      obtain ⟨y1, y2⟩ := c.1.2.2 i i0 i1
      have yl := c.2.2 i i0 i1
      have y3 := rx.2 i i0 i1
      have y2' : (bc B tr n g3 ga2 r).1 (ba i) = _ := (bc_out (Or.inl yl)).trans y2
      have sq1 := e_squareToP (x2 := (mnF X Y W (p.2 o) n).1) (y2 := (mnF X Y W (p.2 o) n).2.1) y2' y3.2.1.1 y3.2.1.2 bo.2.1 bo.2.2
      have sq2 := e_squareToP (x2 := (mnF X Y W (p.2 t) n).1) (y2 := (mnF X Y W (p.2 t) n).2.1) y2' y3.2.1.1 y3.2.1.2 bt'.2.1 bt'.2.2
      have sb1 := sqI_b (a := X i) (b := Y i) (c := (mnF X Y W (p.2 o) n).1) (d := (mnF X Y W (p.2 o) n).2.1) y3.1.1 y3.1.2 bo.1.1 bo.1.2
      have sb2 := sqI_b (a := X i) (b := Y i) (c := (mnF X Y W (p.2 t) n).1) (d := (mnF X Y W (p.2 t) n).2.1) y3.1.1 y3.1.2 bt'.1.1 bt'.1.2
      have es := dvF_s (C := C) (S := p.2 o &&& p.2 t) (A := p.2 o) (B := p.2 t) i0
      have bi := e_bitOf (h := bc B tr n g3 ga2 r) i0 (show i < 64 by omega)
      have hsI := e_isInS (h := bc B tr n g3 ga2 r) (a := p.2 o &&& p.2 t) i0 (show i < 64 by omega)
      have eC : C i = decide (sqI (X i) (Y i) (mnF X Y W (p.2 t) n).1 (mnF X Y W (p.2 t) n).2.1 < sqI (X i) (Y i) (mnF X Y W (p.2 o) n).1 (mnF X Y W (p.2 o) n).2.1) := by rw [hC]; rfl
      have ko := k2 o o0 o1
      have kt := k2 t t0 t1
      rw [up_n (fun z => ot z.symm), up_s] at ko
      rw [up_s] at kt
      generalize dvF C (p.2 o &&& p.2 t) (p.2 o) (p.2 t) i.toNat = D at *
      by_cases cs : bHas (p.2 o &&& p.2 t) i = true
      · rw [cs] at hsI
        rw [if_pos cs] at es
        by_cases lt : sqI (X i) (Y i) (mnF X Y W (p.2 t) n).1 (mnF X Y W (p.2 t) n).2.1 < sqI (X i) (Y i) (mnF X Y W (p.2 o) n).1 (mnF X Y W (p.2 o) n).2.1
        · rw [eC, decide_eq_true lt, if_pos rfl] at es
          simp (disch := first | assumption | omega | exact zTy_0 | exact zTy_3 | exact zTy_3n | exact zTy_1 | exact zTy_B | exact zTy_b0 | exact zTy_4 | exact zEl_n | exact zEz4 | exact zEz9 | exact hz _ _ | exact hz2 _ _ | exact zI0 | exact zI1 | exact zI2 | exact zI3 | exact zI4 | exact zI5 | exact zI6 | exact zI7 | exact zI8 | exact zI9 | exact zI10 | (simp only [zl_21, zl_22, zs_2, ne_eq]; omega) | ((repeat (refine Eq.trans (us_r (by decide)) ?_)); assumption) | ((simp (decide := true) only [us_k, us_s]); omega)) only [↓rKi, ↓rKl, ↓rKn, ↓rKd, ↓rL, ↓r2, ↓r1, ↓rC2, ↓rC1, ↓rCn, ↓rNot, ↓rAnd, ↓rOr, ↓rCi, ↓rBx, ↓rIte, ↓rGf, ↓rLen, ↓rAx, ↓rNa, ↓rA0, ↓rA1, ↓rCs, ↓rCv, ↓rAn, ↓rNew, ↓rSeq, ↓rSkip, ↓rBrk, ↓rCnt, ↓rRetV, ↓rAsg, ↓rRet, ↓rIf, ↓rPf, ↓rPfo, ↓rAs, ↓rAso, ↓rDo, ↓rObj, ↓rBl, ↓rSw, ↓rCopy, ↓zSq_0, ↓zSq_r, ↓zSq_1, ↓zSq_2, ↓zBq_l, ↓zBq_r, ↓zWq_0, ↓zWq_1, ↓zWq_2, ↓zWq_r, ↓zLo_0, ↓zLo_1, ↓zLo_2, ↓zLo_r, ↓zLt_0, ↓rTr, ↓zFin_s, ↓zFin_n, wX_r, wO_s, wI_t, wI_f, zLk_0, zLk_s, zTv_vi, zTv_vb, zTv_vl, zTv_d, zTv_r, zTv_n, zTv_4, zTo_s, zCl_n, zCl_0, zCl_s, Int32.reduceToInt, Int64.reduceToInt, e_add, e_sub, e_mul, e_neg, e_ladd, e_lsub, e_lmul, e_lneg, q_0, q_1, q_2, q_3, q_4, q_5, q_b0, q_b1, p_0, p_1, p_2, p_3, p_4, p_5, p_b0, p_b1, e_lcmp, pl_0, pl_1, pl_2, pl_3, pl_4, pl_5, e_i2l, e_l2i, e_idiv, e_irem, e_ldiv, e_lrem, List.set_cons_zero, List.set_cons_succ, List.getD_cons_zero, List.getD_cons_succ, List.getD_nil, dT, dF, decide_true, decide_false, not_true_eq_false, not_false_eq_true, Bool.not_true, Bool.not_false, zLay_1, zLay_c1, zLay_c2, zLay_n, zWds_n, zWds_c, zCat_0, zCat_1, zCat_3, zCat_4, zLay_4, List.nil_append, List.cons_append, List.replicate_succ, List.replicate_zero, zTy_0, zTy_b0, zTy_1, zTy_3, zTy_3n, zTy_4, and_true, true_and, Option.bind_some, zNul_n, zNul_r, List.getElem?_cons_zero, List.getElem?_cons_succ, Int.add_zero, zTv_B, zTy_B, b_and, b_or, b_andn, b_not, b_shl, b_cmp, b_cmp0, b_cmp0l, b_eq0, b_eq1, zs_2, zl_21, zl_22, gf_s, gf_l, pf_s, pf_l, zl_z, zs_z, nA, and_self, Nat.le_refl, Option.some.injEq, eq_self, Nat.reduceAdd, Nat.reduceSub, bc_2, bct_0, bcf_0_0, bcf_0_1, bcf_0_2, bcf_0_3, bcf_0_4, bcp_0_4, bcf_0_5, bcf_0_6, bcp_0_6, bct_1, bcf_1_0, bcp_1_0, bcf_1_1, bcp_1_1, bcf_1_2, bcp_1_2, bct_2, bcf_2_0, bcp_2_0, bcf_2_1, bcp_2_1, bcf_2_2, bcp_2_2, bca_3, bcl_3, bcs_3, bca_4, bcl_4, bcs_4, ug_s, ug_n, ua_s, ua_k, ua_j, zStK_64, zStK_65, zStK_67, zStK_68, zStK_69, zStK_70, zStK_71, zStK_72, zStK_73, C_Co_divide_0, B_Co_divide_0, T_Co_divide_0, bc_ol ht, bc_oa ht, y1, hsI, bc_ot y2, q2, q3, q5, q6, sq1, sq2, ko, bi, b_not, u_and]
          refine ⟨_, rfl, ?_, fun e e0 e1 => ?_⟩
          · funext y
            rw [ua_k (by decide), k1]
          · rw [es]
            by_cases w : e = o
            · rw [w, ua_s, up_n (fun z => ot z.symm), up_s]
            · rw [ua_j w, k2 e e0 e1]
              unfold up
              split
              · rfl
              · rfl
        · rw [eC, decide_eq_false lt, if_neg (by decide)] at es
          simp (disch := first | assumption | omega | exact zTy_0 | exact zTy_3 | exact zTy_3n | exact zTy_1 | exact zTy_B | exact zTy_b0 | exact zTy_4 | exact zEl_n | exact zEz4 | exact zEz9 | exact hz _ _ | exact hz2 _ _ | exact zI0 | exact zI1 | exact zI2 | exact zI3 | exact zI4 | exact zI5 | exact zI6 | exact zI7 | exact zI8 | exact zI9 | exact zI10 | (simp only [zl_21, zl_22, zs_2, ne_eq]; omega) | ((repeat (refine Eq.trans (us_r (by decide)) ?_)); assumption) | ((simp (decide := true) only [us_k, us_s]); omega)) only [↓rKi, ↓rKl, ↓rKn, ↓rKd, ↓rL, ↓r2, ↓r1, ↓rC2, ↓rC1, ↓rCn, ↓rNot, ↓rAnd, ↓rOr, ↓rCi, ↓rBx, ↓rIte, ↓rGf, ↓rLen, ↓rAx, ↓rNa, ↓rA0, ↓rA1, ↓rCs, ↓rCv, ↓rAn, ↓rNew, ↓rSeq, ↓rSkip, ↓rBrk, ↓rCnt, ↓rRetV, ↓rAsg, ↓rRet, ↓rIf, ↓rPf, ↓rPfo, ↓rAs, ↓rAso, ↓rDo, ↓rObj, ↓rBl, ↓rSw, ↓rCopy, ↓zSq_0, ↓zSq_r, ↓zSq_1, ↓zSq_2, ↓zBq_l, ↓zBq_r, ↓zWq_0, ↓zWq_1, ↓zWq_2, ↓zWq_r, ↓zLo_0, ↓zLo_1, ↓zLo_2, ↓zLo_r, ↓zLt_0, ↓rTr, ↓zFin_s, ↓zFin_n, wX_r, wO_s, wI_t, wI_f, zLk_0, zLk_s, zTv_vi, zTv_vb, zTv_vl, zTv_d, zTv_r, zTv_n, zTv_4, zTo_s, zCl_n, zCl_0, zCl_s, Int32.reduceToInt, Int64.reduceToInt, e_add, e_sub, e_mul, e_neg, e_ladd, e_lsub, e_lmul, e_lneg, q_0, q_1, q_2, q_3, q_4, q_5, q_b0, q_b1, p_0, p_1, p_2, p_3, p_4, p_5, p_b0, p_b1, e_lcmp, pl_0, pl_1, pl_2, pl_3, pl_4, pl_5, e_i2l, e_l2i, e_idiv, e_irem, e_ldiv, e_lrem, List.set_cons_zero, List.set_cons_succ, List.getD_cons_zero, List.getD_cons_succ, List.getD_nil, dT, dF, decide_true, decide_false, not_true_eq_false, not_false_eq_true, Bool.not_true, Bool.not_false, zLay_1, zLay_c1, zLay_c2, zLay_n, zWds_n, zWds_c, zCat_0, zCat_1, zCat_3, zCat_4, zLay_4, List.nil_append, List.cons_append, List.replicate_succ, List.replicate_zero, zTy_0, zTy_b0, zTy_1, zTy_3, zTy_3n, zTy_4, and_true, true_and, Option.bind_some, zNul_n, zNul_r, List.getElem?_cons_zero, List.getElem?_cons_succ, Int.add_zero, zTv_B, zTy_B, b_and, b_or, b_andn, b_not, b_shl, b_cmp, b_cmp0, b_cmp0l, b_eq0, b_eq1, zs_2, zl_21, zl_22, gf_s, gf_l, pf_s, pf_l, zl_z, zs_z, nA, and_self, Nat.le_refl, Option.some.injEq, eq_self, Nat.reduceAdd, Nat.reduceSub, bc_2, bct_0, bcf_0_0, bcf_0_1, bcf_0_2, bcf_0_3, bcf_0_4, bcp_0_4, bcf_0_5, bcf_0_6, bcp_0_6, bct_1, bcf_1_0, bcp_1_0, bcf_1_1, bcp_1_1, bcf_1_2, bcp_1_2, bct_2, bcf_2_0, bcp_2_0, bcf_2_1, bcp_2_1, bcf_2_2, bcp_2_2, bca_3, bcl_3, bcs_3, bca_4, bcl_4, bcs_4, ug_s, ug_n, ua_s, ua_k, ua_j, zStK_64, zStK_65, zStK_67, zStK_68, zStK_69, zStK_70, zStK_71, zStK_72, zStK_73, C_Co_divide_0, B_Co_divide_0, T_Co_divide_0, bc_ol ht, bc_oa ht, y1, hsI, bc_ot y2, q2, q3, q5, q6, sq1, sq2, kt, bi, b_not, u_and]
          refine ⟨_, rfl, ?_, fun e e0 e1 => ?_⟩
          · funext y
            rw [ua_k (by decide), k1]
          · rw [es]
            by_cases w : e = t
            · rw [w, ua_s, up_s]
            · rw [ua_j w, k2 e e0 e1, up_n w, up_n w]
      · have cs' : bHas (p.2 o &&& p.2 t) i = false := by cases z : bHas (p.2 o &&& p.2 t) i with
          | false => rfl
          | true => exact absurd z cs
        rw [cs'] at hsI
        rw [if_neg cs] at es
        rw [es]
        simp (disch := first | assumption | omega | exact zTy_0 | exact zTy_3 | exact zTy_3n | exact zTy_1 | exact zTy_B | exact zTy_b0 | exact zTy_4 | exact zEl_n | exact zEz4 | exact zEz9 | exact hz _ _ | exact hz2 _ _ | exact zI0 | exact zI1 | exact zI2 | exact zI3 | exact zI4 | exact zI5 | exact zI6 | exact zI7 | exact zI8 | exact zI9 | exact zI10 | (simp only [zl_21, zl_22, zs_2, ne_eq]; omega) | ((repeat (refine Eq.trans (us_r (by decide)) ?_)); assumption) | ((simp (decide := true) only [us_k, us_s]); omega)) only [↓rKi, ↓rKl, ↓rKn, ↓rKd, ↓rL, ↓r2, ↓r1, ↓rC2, ↓rC1, ↓rCn, ↓rNot, ↓rAnd, ↓rOr, ↓rCi, ↓rBx, ↓rIte, ↓rGf, ↓rLen, ↓rAx, ↓rNa, ↓rA0, ↓rA1, ↓rCs, ↓rCv, ↓rAn, ↓rNew, ↓rSeq, ↓rSkip, ↓rBrk, ↓rCnt, ↓rRetV, ↓rAsg, ↓rRet, ↓rIf, ↓rPf, ↓rPfo, ↓rAs, ↓rAso, ↓rDo, ↓rObj, ↓rBl, ↓rSw, ↓rCopy, ↓zSq_0, ↓zSq_r, ↓zSq_1, ↓zSq_2, ↓zBq_l, ↓zBq_r, ↓zWq_0, ↓zWq_1, ↓zWq_2, ↓zWq_r, ↓zLo_0, ↓zLo_1, ↓zLo_2, ↓zLo_r, ↓zLt_0, ↓rTr, ↓zFin_s, ↓zFin_n, wX_r, wO_s, wI_t, wI_f, zLk_0, zLk_s, zTv_vi, zTv_vb, zTv_vl, zTv_d, zTv_r, zTv_n, zTv_4, zTo_s, zCl_n, zCl_0, zCl_s, Int32.reduceToInt, Int64.reduceToInt, e_add, e_sub, e_mul, e_neg, e_ladd, e_lsub, e_lmul, e_lneg, q_0, q_1, q_2, q_3, q_4, q_5, q_b0, q_b1, p_0, p_1, p_2, p_3, p_4, p_5, p_b0, p_b1, e_lcmp, pl_0, pl_1, pl_2, pl_3, pl_4, pl_5, e_i2l, e_l2i, e_idiv, e_irem, e_ldiv, e_lrem, List.set_cons_zero, List.set_cons_succ, List.getD_cons_zero, List.getD_cons_succ, List.getD_nil, dT, dF, decide_true, decide_false, not_true_eq_false, not_false_eq_true, Bool.not_true, Bool.not_false, zLay_1, zLay_c1, zLay_c2, zLay_n, zWds_n, zWds_c, zCat_0, zCat_1, zCat_3, zCat_4, zLay_4, List.nil_append, List.cons_append, List.replicate_succ, List.replicate_zero, zTy_0, zTy_b0, zTy_1, zTy_3, zTy_3n, zTy_4, and_true, true_and, Option.bind_some, zNul_n, zNul_r, List.getElem?_cons_zero, List.getElem?_cons_succ, Int.add_zero, zTv_B, zTy_B, b_and, b_or, b_andn, b_not, b_shl, b_cmp, b_cmp0, b_cmp0l, b_eq0, b_eq1, zs_2, zl_21, zl_22, gf_s, gf_l, pf_s, pf_l, zl_z, zs_z, nA, and_self, Nat.le_refl, Option.some.injEq, eq_self, Nat.reduceAdd, Nat.reduceSub, bc_2, bct_0, bcf_0_0, bcf_0_1, bcf_0_2, bcf_0_3, bcf_0_4, bcp_0_4, bcf_0_5, bcf_0_6, bcp_0_6, bct_1, bcf_1_0, bcp_1_0, bcf_1_1, bcp_1_1, bcf_1_2, bcp_1_2, bct_2, bcf_2_0, bcp_2_0, bcf_2_1, bcp_2_1, bcf_2_2, bcp_2_2, bca_3, bcl_3, bcs_3, bca_4, bcl_4, bcs_4, ug_s, ug_n, ua_s, ua_k, ua_j, zStK_64, zStK_65, zStK_67, zStK_68, zStK_69, zStK_70, zStK_71, zStK_72, zStK_73, C_Co_divide_0, B_Co_divide_0, T_Co_divide_0, bc_ol ht, hsI]
        exact ⟨ga2, rfl, k1, k2⟩
    · intro env h' ⟨ga2, ⟨hh, he⟩, k1, k2⟩
      subst hh
      subst he
      rw [show ((n : Int)).toNat = n by omega] at k2
      simp (disch := first | assumption | omega | exact zTy_0 | exact zTy_3 | exact zTy_3n | exact zTy_1 | exact zTy_B | exact zTy_b0 | exact zTy_4 | exact zEl_n | exact zEz4 | exact zEz9 | exact hz _ _ | exact hz2 _ _ | exact zI0 | exact zI1 | exact zI2 | exact zI3 | exact zI4 | exact zI5 | exact zI6 | exact zI7 | exact zI8 | exact zI9 | exact zI10 | (simp only [zl_21, zl_22, zs_2, ne_eq]; omega) | ((repeat (refine Eq.trans (us_r (by decide)) ?_)); assumption) | ((simp (decide := true) only [us_k, us_s]); omega)) only [↓rKi, ↓rKl, ↓rKn, ↓rKd, ↓rL, ↓r2, ↓r1, ↓rC2, ↓rC1, ↓rCn, ↓rNot, ↓rAnd, ↓rOr, ↓rCi, ↓rBx, ↓rIte, ↓rGf, ↓rLen, ↓rAx, ↓rNa, ↓rA0, ↓rA1, ↓rCs, ↓rCv, ↓rAn, ↓rNew, ↓rSeq, ↓rSkip, ↓rBrk, ↓rCnt, ↓rRetV, ↓rAsg, ↓rRet, ↓rIf, ↓rPf, ↓rPfo, ↓rAs, ↓rAso, ↓rDo, ↓rObj, ↓rBl, ↓rSw, ↓rCopy, ↓zSq_0, ↓zSq_r, ↓zSq_1, ↓zSq_2, ↓zBq_l, ↓zBq_r, ↓zWq_0, ↓zWq_1, ↓zWq_2, ↓zWq_r, ↓zLo_0, ↓zLo_1, ↓zLo_2, ↓zLo_r, ↓zLt_0, ↓rTr, ↓zFin_s, ↓zFin_n, wX_r, wO_s, wI_t, wI_f, zLk_0, zLk_s, zTv_vi, zTv_vb, zTv_vl, zTv_d, zTv_r, zTv_n, zTv_4, zTo_s, zCl_n, zCl_0, zCl_s, Int32.reduceToInt, Int64.reduceToInt, e_add, e_sub, e_mul, e_neg, e_ladd, e_lsub, e_lmul, e_lneg, q_0, q_1, q_2, q_3, q_4, q_5, q_b0, q_b1, p_0, p_1, p_2, p_3, p_4, p_5, p_b0, p_b1, e_lcmp, pl_0, pl_1, pl_2, pl_3, pl_4, pl_5, e_i2l, e_l2i, e_idiv, e_irem, e_ldiv, e_lrem, List.set_cons_zero, List.set_cons_succ, List.getD_cons_zero, List.getD_cons_succ, List.getD_nil, dT, dF, decide_true, decide_false, not_true_eq_false, not_false_eq_true, Bool.not_true, Bool.not_false, zLay_1, zLay_c1, zLay_c2, zLay_n, zWds_n, zWds_c, zCat_0, zCat_1, zCat_3, zCat_4, zLay_4, List.nil_append, List.cons_append, List.replicate_succ, List.replicate_zero, zTy_0, zTy_b0, zTy_1, zTy_3, zTy_3n, zTy_4, and_true, true_and, Option.bind_some, zNul_n, zNul_r, List.getElem?_cons_zero, List.getElem?_cons_succ, Int.add_zero, zTv_B, zTy_B, b_and, b_or, b_andn, b_not, b_shl, b_cmp, b_cmp0, b_cmp0l, b_eq0, b_eq1, zs_2, zl_21, zl_22, gf_s, gf_l, pf_s, pf_l, zl_z, zs_z, nA, and_self, Nat.le_refl, Option.some.injEq, eq_self, Nat.reduceAdd, Nat.reduceSub, bc_2, bct_0, bcf_0_0, bcf_0_1, bcf_0_2, bcf_0_3, bcf_0_4, bcp_0_4, bcf_0_5, bcf_0_6, bcp_0_6, bct_1, bcf_1_0, bcp_1_0, bcf_1_1, bcp_1_1, bcf_1_2, bcp_1_2, bct_2, bcf_2_0, bcp_2_0, bcf_2_1, bcp_2_1, bcf_2_2, bcp_2_2, bca_3, bcl_3, bcs_3, bca_4, bcl_4, bcs_4, ug_s, ug_n, ua_s, ua_k, ua_j, zStK_64, zStK_65, zStK_67, zStK_68, zStK_69, zStK_70, zStK_71, zStK_72, zStK_73, C_Co_divide_0, B_Co_divide_0, T_Co_divide_0, bc_ol ht]
      refine ⟨g3, ga2, ⟨⟨q0, fun e e0 e1 => ?_⟩, q1, k1⟩, rfl, rfl⟩
      have := k2 e e0 e1
      rw [hC] at this
      exact this
  obtain ⟨r1, h1, e, gi2, ga2, ⟨y1, y2⟩, rfl, rfl⟩ := key
  exact ⟨gi2, ga2, y1, y2, e⟩
theorem c_settle {o t : Int} (c : CnL r B tr n fb ba X Y W) (rz : RZ p gi ga) (pn : p.1 ≤ n) (g : GZ n p) (f0 : 0 ≤ f ∧ f ≤ 1000) (o0 : 0 ≤ o) (o1 : o < p.1) (t0 : 0 ≤ t) (t1 : t < p.1) (ot : t ≠ o) : ∃ gi2 ga2, RZ (stT X Y W n f p o t) gi2 ga2 ∧ (gi2 1 = gi 1 ∧ ga2 1 = ga 1) ∧ F_Co_settle [.ref B, vi o, vi t, vi f] (bc B tr n gi ga r) = some (none, bc B tr n gi2 ga2 r) := by
  have rx := c.1.2.1
  have n40 := rx.1
  have zo := rz.2 o o0 o1
  have zt := rz.2 t t0 t1
  have cw := fun S => c_coWeight (gi := gi) (ga := ga) c S
  have wb := fun S => wsF_b rx S (Nat.le_refl n)
  have w1 := wb (p.2 o)
  have w2 := wb (p.2 t)
  have w3 := wb (p.2 o &&& p.2 t)
  have mn := e_min (h := bc B tr n gi ga r) (x := wsF W (p.2 o) n) (y := wsF W (p.2 t) n) (by omega) (by omega)
  have lb : 0 ≤ (if wsF W (p.2 o) n ≤ wsF W (p.2 t) n then wsF W (p.2 o) n else wsF W (p.2 t) n) ∧ (if wsF W (p.2 o) n ≤ wsF W (p.2 t) n then wsF W (p.2 o) n else wsF W (p.2 t) n) ≤ 399960 := by split <;> omega
  obtain ⟨l, hl⟩ : ∃ l, l = (if wsF W (p.2 o) n ≤ wsF W (p.2 t) n then wsF W (p.2 o) n else wsF W (p.2 t) n) := ⟨_, rfl⟩
  rw [← hl] at mn lb
  have fl : 0 ≤ f * l ∧ f * l ≤ 1000 * 399960 := ⟨Int.mul_nonneg f0.1 lb.1, Int.mul_le_mul f0.2 lb.2 lb.1 (by decide)⟩
  have em : mgB W n f (p.2 o) (p.2 t) = decide (f * l ≤ 1000 * wsF W (p.2 o &&& p.2 t) n) := by rw [hl]; rfl
  have tB := fun rest gi ga => bct_0 (B := B) (tr := tr) (n := n) (gi := gi) (ga := ga) (r := r) (rest := rest)
  unfold stT
  by_cases mg : f * l ≤ 1000 * wsF W (p.2 o &&& p.2 t) n
  · rw [em, decide_eq_true mg, if_pos rfl]
    have mg' : f * l ≤ wsF W (p.2 o &&& p.2 t) n * 1000 := by omega
    have rz2 : RZ (p.1, up p.2 o (p.2 o ||| p.2 t)) gi (ua ga 0 o (vB (p.2 o ||| p.2 t))) := ⟨rz.1, fun e e0 e1 => by
      show ua ga 0 o (vB (p.2 o ||| p.2 t)) 0 e = vB (up p.2 o (p.2 o ||| p.2 t) e)
      by_cases w : e = o
      · rw [w, ua_s, up_s]
      · rw [ua_j w, up_n w]
        exact rz.2 e e0 e1⟩
    obtain ⟨gi2, ga2, y1, ⟨y2, y3⟩, e⟩ := c_removeSet (B := B) (tr := tr) (r := r) n40 rz2 pn t0 t1
    refine ⟨gi2, ga2, y1, ⟨y2, by rw [y3]; funext j; exact ua_k (by decide)⟩, zMeq rfl ?_⟩
    simp (disch := first | assumption | omega | exact zTy_0 | exact zTy_3 | exact zTy_3n | exact zTy_1 | exact zTy_B | exact zTy_b0 | exact zTy_4 | exact zEl_n | exact zEz4 | exact zEz9 | exact hz _ _ | exact hz2 _ _ | exact zI0 | exact zI1 | exact zI2 | exact zI3 | exact zI4 | exact zI5 | exact zI6 | exact zI7 | exact zI8 | exact zI9 | exact zI10 | (simp only [zl_21, zl_22, zs_2, ne_eq]; omega) | ((repeat (refine Eq.trans (us_r (by decide)) ?_)); assumption) | ((simp (decide := true) only [us_k, us_s]); omega)) only [↓rKi, ↓rKl, ↓rKn, ↓rKd, ↓rL, ↓r2, ↓r1, ↓rC2, ↓rC1, ↓rCn, ↓rNot, ↓rAnd, ↓rOr, ↓rCi, ↓rBx, ↓rIte, ↓rGf, ↓rLen, ↓rAx, ↓rNa, ↓rA0, ↓rA1, ↓rCs, ↓rCv, ↓rAn, ↓rNew, ↓rSeq, ↓rSkip, ↓rBrk, ↓rCnt, ↓rRetV, ↓rAsg, ↓rRet, ↓rIf, ↓rPf, ↓rPfo, ↓rAs, ↓rAso, ↓rDo, ↓rObj, ↓rBl, ↓rSw, ↓rCopy, ↓zSq_0, ↓zSq_r, ↓zSq_1, ↓zSq_2, ↓zBq_l, ↓zBq_r, ↓zWq_0, ↓zWq_1, ↓zWq_2, ↓zWq_r, ↓zLo_0, ↓zLo_1, ↓zLo_2, ↓zLo_r, ↓zLt_0, ↓rTr, ↓zFin_s, ↓zFin_n, wX_r, wO_s, wI_t, wI_f, zLk_0, zLk_s, zTv_vi, zTv_vb, zTv_vl, zTv_d, zTv_r, zTv_n, zTv_4, zTo_s, zCl_n, zCl_0, zCl_s, Int32.reduceToInt, Int64.reduceToInt, e_add, e_sub, e_mul, e_neg, e_ladd, e_lsub, e_lmul, e_lneg, q_0, q_1, q_2, q_3, q_4, q_5, q_b0, q_b1, p_0, p_1, p_2, p_3, p_4, p_5, p_b0, p_b1, e_lcmp, pl_0, pl_1, pl_2, pl_3, pl_4, pl_5, e_i2l, e_l2i, e_idiv, e_irem, e_ldiv, e_lrem, List.set_cons_zero, List.set_cons_succ, List.getD_cons_zero, List.getD_cons_succ, List.getD_nil, dT, dF, decide_true, decide_false, not_true_eq_false, not_false_eq_true, Bool.not_true, Bool.not_false, zLay_1, zLay_c1, zLay_c2, zLay_n, zWds_n, zWds_c, zCat_0, zCat_1, zCat_3, zCat_4, zLay_4, List.nil_append, List.cons_append, List.replicate_succ, List.replicate_zero, zTy_0, zTy_b0, zTy_1, zTy_3, zTy_3n, zTy_4, and_true, true_and, Option.bind_some, zNul_n, zNul_r, List.getElem?_cons_zero, List.getElem?_cons_succ, Int.add_zero, zTv_B, zTy_B, b_and, b_or, b_andn, b_not, b_shl, b_cmp, b_cmp0, b_cmp0l, b_eq0, b_eq1, zs_2, zl_21, zl_22, gf_s, gf_l, pf_s, pf_l, zl_z, zs_z, nA, and_self, Nat.le_refl, Option.some.injEq, eq_self, Nat.reduceAdd, Nat.reduceSub, bc_2, bct_0, bcf_0_0, bcf_0_1, bcf_0_2, bcf_0_3, bcf_0_4, bcp_0_4, bcf_0_5, bcf_0_6, bcp_0_6, bct_1, bcf_1_0, bcp_1_0, bcf_1_1, bcp_1_1, bcf_1_2, bcp_1_2, bct_2, bcf_2_0, bcp_2_0, bcf_2_1, bcp_2_1, bcf_2_2, bcp_2_2, bca_3, bcl_3, bcs_3, bca_4, bcl_4, bcs_4, ug_s, ug_n, ua_s, ua_k, ua_j, zStK_64, zStK_65, zStK_67, zStK_68, zStK_69, zStK_70, zStK_71, zStK_72, zStK_73, S_Co_settle, zo, zt, tB, cw, mn, u_and, b_orl, e]
  · rw [em, decide_eq_false mg, if_neg (by decide)]
    have mg' : ¬ f * l ≤ wsF W (p.2 o &&& p.2 t) n * 1000 := by omega
    obtain ⟨gi2, ga2, rz2, ⟨y2, y3⟩, e⟩ := c_divide (gi := gi) (ga := ga) c rz pn g o0 o1 t0 t1 ot
    have mx := fun H => e_max (h := H) (x := o) (y := t) (by omega) (by omega)
    have mi := fun H => e_min (h := H) (x := o) (y := t) (by omega) (by omega)
    unfold clZ
    obtain ⟨be, hbe⟩ : ∃ be, be = (if t ≤ o then o else t) := ⟨_, rfl⟩
    obtain ⟨bf, hbf⟩ : ∃ bf, bf = (if o ≤ t then o else t) := ⟨_, rfl⟩
    rw [← hbe, ← hbf]
    rw [← hbe] at mx
    rw [← hbf] at mi
    have hb : 0 ≤ bf ∧ bf < be ∧ be < p.1 := by
      by_cases y : t ≤ o
      · rw [if_pos y] at hbe
        rw [if_neg (by omega)] at hbf
        omega
      · rw [if_neg y] at hbe
        rw [if_pos (by omega)] at hbf
        omega
    generalize dvZ X Y W n p.2 o t = Z at *
    have zbe := rz2.2 be (by omega) hb.2.2
    have zbf := rz2.2 bf hb.1 (by show bf < p.1; omega)
    try dsimp only at zbe zbf
    by_cases z1 : Z be = 0#64
    · have r1' : pzR (p.1, Z) be = (p.1 - 1, rmv Z be) := if_pos z1
      rw [r1']
      obtain ⟨gi3, ga3, rz3, ⟨y4, y5⟩, e3⟩ := c_removeSet (B := B) (tr := tr) (r := r) n40 rz2 pn (j := be) (by omega) hb.2.2
      have zbf3 := rz3.2 bf hb.1 (by show bf < p.1 - 1; omega)
      have eb : rmv Z be bf = Z bf := rmv_l hb.2.1
      have zbf3 : ga3 0 bf = vB (Z bf) := by rw [← eb]; exact zbf3
      by_cases z2 : Z bf = 0#64
      · have r2' : pzR (p.1 - 1, rmv Z be) bf = (p.1 - 1 - 1, rmv (rmv Z be) bf) := if_pos (by show rmv Z be bf = 0#64; rw [eb]; exact z2)
        rw [r2']
        obtain ⟨gi4, ga4, rz4, ⟨y6, y7⟩, e4⟩ := c_removeSet (B := B) (tr := tr) (r := r) n40 rz3 (by show p.1 - 1 ≤ n; omega) (j := bf) hb.1 (by show bf < p.1 - 1; omega)
        refine ⟨gi4, ga4, rz4, ⟨by rw [y6, y4, y2], by rw [y7, y5, y3]⟩, zMeq rfl ?_⟩
        simp (disch := first | assumption | omega | exact zTy_0 | exact zTy_3 | exact zTy_3n | exact zTy_1 | exact zTy_B | exact zTy_b0 | exact zTy_4 | exact zEl_n | exact zEz4 | exact zEz9 | exact hz _ _ | exact hz2 _ _ | exact zI0 | exact zI1 | exact zI2 | exact zI3 | exact zI4 | exact zI5 | exact zI6 | exact zI7 | exact zI8 | exact zI9 | exact zI10 | (simp only [zl_21, zl_22, zs_2, ne_eq]; omega) | ((repeat (refine Eq.trans (us_r (by decide)) ?_)); assumption) | ((simp (decide := true) only [us_k, us_s]); omega)) only [↓rKi, ↓rKl, ↓rKn, ↓rKd, ↓rL, ↓r2, ↓r1, ↓rC2, ↓rC1, ↓rCn, ↓rNot, ↓rAnd, ↓rOr, ↓rCi, ↓rBx, ↓rIte, ↓rGf, ↓rLen, ↓rAx, ↓rNa, ↓rA0, ↓rA1, ↓rCs, ↓rCv, ↓rAn, ↓rNew, ↓rSeq, ↓rSkip, ↓rBrk, ↓rCnt, ↓rRetV, ↓rAsg, ↓rRet, ↓rIf, ↓rPf, ↓rPfo, ↓rAs, ↓rAso, ↓rDo, ↓rObj, ↓rBl, ↓rSw, ↓rCopy, ↓zSq_0, ↓zSq_r, ↓zSq_1, ↓zSq_2, ↓zBq_l, ↓zBq_r, ↓zWq_0, ↓zWq_1, ↓zWq_2, ↓zWq_r, ↓zLo_0, ↓zLo_1, ↓zLo_2, ↓zLo_r, ↓zLt_0, ↓rTr, ↓zFin_s, ↓zFin_n, wX_r, wO_s, wI_t, wI_f, zLk_0, zLk_s, zTv_vi, zTv_vb, zTv_vl, zTv_d, zTv_r, zTv_n, zTv_4, zTo_s, zCl_n, zCl_0, zCl_s, Int32.reduceToInt, Int64.reduceToInt, e_add, e_sub, e_mul, e_neg, e_ladd, e_lsub, e_lmul, e_lneg, q_0, q_1, q_2, q_3, q_4, q_5, q_b0, q_b1, p_0, p_1, p_2, p_3, p_4, p_5, p_b0, p_b1, e_lcmp, pl_0, pl_1, pl_2, pl_3, pl_4, pl_5, e_i2l, e_l2i, e_idiv, e_irem, e_ldiv, e_lrem, List.set_cons_zero, List.set_cons_succ, List.getD_cons_zero, List.getD_cons_succ, List.getD_nil, dT, dF, decide_true, decide_false, not_true_eq_false, not_false_eq_true, Bool.not_true, Bool.not_false, zLay_1, zLay_c1, zLay_c2, zLay_n, zWds_n, zWds_c, zCat_0, zCat_1, zCat_3, zCat_4, zLay_4, List.nil_append, List.cons_append, List.replicate_succ, List.replicate_zero, zTy_0, zTy_b0, zTy_1, zTy_3, zTy_3n, zTy_4, and_true, true_and, Option.bind_some, zNul_n, zNul_r, List.getElem?_cons_zero, List.getElem?_cons_succ, Int.add_zero, zTv_B, zTy_B, b_and, b_or, b_andn, b_not, b_shl, b_cmp, b_cmp0, b_cmp0l, b_eq0, b_eq1, zs_2, zl_21, zl_22, gf_s, gf_l, pf_s, pf_l, zl_z, zs_z, nA, and_self, Nat.le_refl, Option.some.injEq, eq_self, Nat.reduceAdd, Nat.reduceSub, bc_2, bct_0, bcf_0_0, bcf_0_1, bcf_0_2, bcf_0_3, bcf_0_4, bcp_0_4, bcf_0_5, bcf_0_6, bcp_0_6, bct_1, bcf_1_0, bcp_1_0, bcf_1_1, bcp_1_1, bcf_1_2, bcp_1_2, bct_2, bcf_2_0, bcp_2_0, bcf_2_1, bcp_2_1, bcf_2_2, bcp_2_2, bca_3, bcl_3, bcs_3, bca_4, bcl_4, bcs_4, ug_s, ug_n, ua_s, ua_k, ua_j, zStK_64, zStK_65, zStK_67, zStK_68, zStK_69, zStK_70, zStK_71, zStK_72, zStK_73, S_Co_settle, zo, zt, tB, cw, mn, u_and, e, mx, mi, zbe, z1, e3, zbf3, z2, e4]
      · have r2' : pzR (p.1 - 1, rmv Z be) bf = (p.1 - 1, rmv Z be) := if_neg (by show ¬ rmv Z be bf = 0#64; rw [eb]; exact z2)
        rw [r2']
        refine ⟨gi3, ga3, rz3, ⟨by rw [y4, y2], by rw [y5, y3]⟩, zMeq rfl ?_⟩
        simp (disch := first | assumption | omega | exact zTy_0 | exact zTy_3 | exact zTy_3n | exact zTy_1 | exact zTy_B | exact zTy_b0 | exact zTy_4 | exact zEl_n | exact zEz4 | exact zEz9 | exact hz _ _ | exact hz2 _ _ | exact zI0 | exact zI1 | exact zI2 | exact zI3 | exact zI4 | exact zI5 | exact zI6 | exact zI7 | exact zI8 | exact zI9 | exact zI10 | (simp only [zl_21, zl_22, zs_2, ne_eq]; omega) | ((repeat (refine Eq.trans (us_r (by decide)) ?_)); assumption) | ((simp (decide := true) only [us_k, us_s]); omega)) only [↓rKi, ↓rKl, ↓rKn, ↓rKd, ↓rL, ↓r2, ↓r1, ↓rC2, ↓rC1, ↓rCn, ↓rNot, ↓rAnd, ↓rOr, ↓rCi, ↓rBx, ↓rIte, ↓rGf, ↓rLen, ↓rAx, ↓rNa, ↓rA0, ↓rA1, ↓rCs, ↓rCv, ↓rAn, ↓rNew, ↓rSeq, ↓rSkip, ↓rBrk, ↓rCnt, ↓rRetV, ↓rAsg, ↓rRet, ↓rIf, ↓rPf, ↓rPfo, ↓rAs, ↓rAso, ↓rDo, ↓rObj, ↓rBl, ↓rSw, ↓rCopy, ↓zSq_0, ↓zSq_r, ↓zSq_1, ↓zSq_2, ↓zBq_l, ↓zBq_r, ↓zWq_0, ↓zWq_1, ↓zWq_2, ↓zWq_r, ↓zLo_0, ↓zLo_1, ↓zLo_2, ↓zLo_r, ↓zLt_0, ↓rTr, ↓zFin_s, ↓zFin_n, wX_r, wO_s, wI_t, wI_f, zLk_0, zLk_s, zTv_vi, zTv_vb, zTv_vl, zTv_d, zTv_r, zTv_n, zTv_4, zTo_s, zCl_n, zCl_0, zCl_s, Int32.reduceToInt, Int64.reduceToInt, e_add, e_sub, e_mul, e_neg, e_ladd, e_lsub, e_lmul, e_lneg, q_0, q_1, q_2, q_3, q_4, q_5, q_b0, q_b1, p_0, p_1, p_2, p_3, p_4, p_5, p_b0, p_b1, e_lcmp, pl_0, pl_1, pl_2, pl_3, pl_4, pl_5, e_i2l, e_l2i, e_idiv, e_irem, e_ldiv, e_lrem, List.set_cons_zero, List.set_cons_succ, List.getD_cons_zero, List.getD_cons_succ, List.getD_nil, dT, dF, decide_true, decide_false, not_true_eq_false, not_false_eq_true, Bool.not_true, Bool.not_false, zLay_1, zLay_c1, zLay_c2, zLay_n, zWds_n, zWds_c, zCat_0, zCat_1, zCat_3, zCat_4, zLay_4, List.nil_append, List.cons_append, List.replicate_succ, List.replicate_zero, zTy_0, zTy_b0, zTy_1, zTy_3, zTy_3n, zTy_4, and_true, true_and, Option.bind_some, zNul_n, zNul_r, List.getElem?_cons_zero, List.getElem?_cons_succ, Int.add_zero, zTv_B, zTy_B, b_and, b_or, b_andn, b_not, b_shl, b_cmp, b_cmp0, b_cmp0l, b_eq0, b_eq1, zs_2, zl_21, zl_22, gf_s, gf_l, pf_s, pf_l, zl_z, zs_z, nA, and_self, Nat.le_refl, Option.some.injEq, eq_self, Nat.reduceAdd, Nat.reduceSub, bc_2, bct_0, bcf_0_0, bcf_0_1, bcf_0_2, bcf_0_3, bcf_0_4, bcp_0_4, bcf_0_5, bcf_0_6, bcp_0_6, bct_1, bcf_1_0, bcp_1_0, bcf_1_1, bcp_1_1, bcf_1_2, bcp_1_2, bct_2, bcf_2_0, bcp_2_0, bcf_2_1, bcp_2_1, bcf_2_2, bcp_2_2, bca_3, bcl_3, bcs_3, bca_4, bcl_4, bcs_4, ug_s, ug_n, ua_s, ua_k, ua_j, zStK_64, zStK_65, zStK_67, zStK_68, zStK_69, zStK_70, zStK_71, zStK_72, zStK_73, S_Co_settle, zo, zt, tB, cw, mn, u_and, e, mx, mi, zbe, z1, e3, zbf3]
    · have r1' : pzR (p.1, Z) be = (p.1, Z) := if_neg z1
      rw [r1']
      by_cases z2 : Z bf = 0#64
      · have r2' : pzR (p.1, Z) bf = (p.1 - 1, rmv Z bf) := if_pos z2
        rw [r2']
        obtain ⟨gi4, ga4, rz4, ⟨y6, y7⟩, e4⟩ := c_removeSet (B := B) (tr := tr) (r := r) n40 rz2 pn (j := bf) hb.1 (by show bf < p.1; omega)
        refine ⟨gi4, ga4, rz4, ⟨by rw [y6, y2], by rw [y7, y3]⟩, zMeq rfl ?_⟩
        simp (disch := first | assumption | omega | exact zTy_0 | exact zTy_3 | exact zTy_3n | exact zTy_1 | exact zTy_B | exact zTy_b0 | exact zTy_4 | exact zEl_n | exact zEz4 | exact zEz9 | exact hz _ _ | exact hz2 _ _ | exact zI0 | exact zI1 | exact zI2 | exact zI3 | exact zI4 | exact zI5 | exact zI6 | exact zI7 | exact zI8 | exact zI9 | exact zI10 | (simp only [zl_21, zl_22, zs_2, ne_eq]; omega) | ((repeat (refine Eq.trans (us_r (by decide)) ?_)); assumption) | ((simp (decide := true) only [us_k, us_s]); omega)) only [↓rKi, ↓rKl, ↓rKn, ↓rKd, ↓rL, ↓r2, ↓r1, ↓rC2, ↓rC1, ↓rCn, ↓rNot, ↓rAnd, ↓rOr, ↓rCi, ↓rBx, ↓rIte, ↓rGf, ↓rLen, ↓rAx, ↓rNa, ↓rA0, ↓rA1, ↓rCs, ↓rCv, ↓rAn, ↓rNew, ↓rSeq, ↓rSkip, ↓rBrk, ↓rCnt, ↓rRetV, ↓rAsg, ↓rRet, ↓rIf, ↓rPf, ↓rPfo, ↓rAs, ↓rAso, ↓rDo, ↓rObj, ↓rBl, ↓rSw, ↓rCopy, ↓zSq_0, ↓zSq_r, ↓zSq_1, ↓zSq_2, ↓zBq_l, ↓zBq_r, ↓zWq_0, ↓zWq_1, ↓zWq_2, ↓zWq_r, ↓zLo_0, ↓zLo_1, ↓zLo_2, ↓zLo_r, ↓zLt_0, ↓rTr, ↓zFin_s, ↓zFin_n, wX_r, wO_s, wI_t, wI_f, zLk_0, zLk_s, zTv_vi, zTv_vb, zTv_vl, zTv_d, zTv_r, zTv_n, zTv_4, zTo_s, zCl_n, zCl_0, zCl_s, Int32.reduceToInt, Int64.reduceToInt, e_add, e_sub, e_mul, e_neg, e_ladd, e_lsub, e_lmul, e_lneg, q_0, q_1, q_2, q_3, q_4, q_5, q_b0, q_b1, p_0, p_1, p_2, p_3, p_4, p_5, p_b0, p_b1, e_lcmp, pl_0, pl_1, pl_2, pl_3, pl_4, pl_5, e_i2l, e_l2i, e_idiv, e_irem, e_ldiv, e_lrem, List.set_cons_zero, List.set_cons_succ, List.getD_cons_zero, List.getD_cons_succ, List.getD_nil, dT, dF, decide_true, decide_false, not_true_eq_false, not_false_eq_true, Bool.not_true, Bool.not_false, zLay_1, zLay_c1, zLay_c2, zLay_n, zWds_n, zWds_c, zCat_0, zCat_1, zCat_3, zCat_4, zLay_4, List.nil_append, List.cons_append, List.replicate_succ, List.replicate_zero, zTy_0, zTy_b0, zTy_1, zTy_3, zTy_3n, zTy_4, and_true, true_and, Option.bind_some, zNul_n, zNul_r, List.getElem?_cons_zero, List.getElem?_cons_succ, Int.add_zero, zTv_B, zTy_B, b_and, b_or, b_andn, b_not, b_shl, b_cmp, b_cmp0, b_cmp0l, b_eq0, b_eq1, zs_2, zl_21, zl_22, gf_s, gf_l, pf_s, pf_l, zl_z, zs_z, nA, and_self, Nat.le_refl, Option.some.injEq, eq_self, Nat.reduceAdd, Nat.reduceSub, bc_2, bct_0, bcf_0_0, bcf_0_1, bcf_0_2, bcf_0_3, bcf_0_4, bcp_0_4, bcf_0_5, bcf_0_6, bcp_0_6, bct_1, bcf_1_0, bcp_1_0, bcf_1_1, bcp_1_1, bcf_1_2, bcp_1_2, bct_2, bcf_2_0, bcp_2_0, bcf_2_1, bcp_2_1, bcf_2_2, bcp_2_2, bca_3, bcl_3, bcs_3, bca_4, bcl_4, bcs_4, ug_s, ug_n, ua_s, ua_k, ua_j, zStK_64, zStK_65, zStK_67, zStK_68, zStK_69, zStK_70, zStK_71, zStK_72, zStK_73, S_Co_settle, zo, zt, tB, cw, mn, u_and, e, mx, mi, zbe, zbf, z2, e4]
      · have r2' : pzR (p.1, Z) bf = (p.1, Z) := if_neg z2
        rw [r2']
        refine ⟨gi2, ga2, rz2, ⟨y2, y3⟩, zMeq rfl ?_⟩
        simp (disch := first | assumption | omega | exact zTy_0 | exact zTy_3 | exact zTy_3n | exact zTy_1 | exact zTy_B | exact zTy_b0 | exact zTy_4 | exact zEl_n | exact zEz4 | exact zEz9 | exact hz _ _ | exact hz2 _ _ | exact zI0 | exact zI1 | exact zI2 | exact zI3 | exact zI4 | exact zI5 | exact zI6 | exact zI7 | exact zI8 | exact zI9 | exact zI10 | (simp only [zl_21, zl_22, zs_2, ne_eq]; omega) | ((repeat (refine Eq.trans (us_r (by decide)) ?_)); assumption) | ((simp (decide := true) only [us_k, us_s]); omega)) only [↓rKi, ↓rKl, ↓rKn, ↓rKd, ↓rL, ↓r2, ↓r1, ↓rC2, ↓rC1, ↓rCn, ↓rNot, ↓rAnd, ↓rOr, ↓rCi, ↓rBx, ↓rIte, ↓rGf, ↓rLen, ↓rAx, ↓rNa, ↓rA0, ↓rA1, ↓rCs, ↓rCv, ↓rAn, ↓rNew, ↓rSeq, ↓rSkip, ↓rBrk, ↓rCnt, ↓rRetV, ↓rAsg, ↓rRet, ↓rIf, ↓rPf, ↓rPfo, ↓rAs, ↓rAso, ↓rDo, ↓rObj, ↓rBl, ↓rSw, ↓rCopy, ↓zSq_0, ↓zSq_r, ↓zSq_1, ↓zSq_2, ↓zBq_l, ↓zBq_r, ↓zWq_0, ↓zWq_1, ↓zWq_2, ↓zWq_r, ↓zLo_0, ↓zLo_1, ↓zLo_2, ↓zLo_r, ↓zLt_0, ↓rTr, ↓zFin_s, ↓zFin_n, wX_r, wO_s, wI_t, wI_f, zLk_0, zLk_s, zTv_vi, zTv_vb, zTv_vl, zTv_d, zTv_r, zTv_n, zTv_4, zTo_s, zCl_n, zCl_0, zCl_s, Int32.reduceToInt, Int64.reduceToInt, e_add, e_sub, e_mul, e_neg, e_ladd, e_lsub, e_lmul, e_lneg, q_0, q_1, q_2, q_3, q_4, q_5, q_b0, q_b1, p_0, p_1, p_2, p_3, p_4, p_5, p_b0, p_b1, e_lcmp, pl_0, pl_1, pl_2, pl_3, pl_4, pl_5, e_i2l, e_l2i, e_idiv, e_irem, e_ldiv, e_lrem, List.set_cons_zero, List.set_cons_succ, List.getD_cons_zero, List.getD_cons_succ, List.getD_nil, dT, dF, decide_true, decide_false, not_true_eq_false, not_false_eq_true, Bool.not_true, Bool.not_false, zLay_1, zLay_c1, zLay_c2, zLay_n, zWds_n, zWds_c, zCat_0, zCat_1, zCat_3, zCat_4, zLay_4, List.nil_append, List.cons_append, List.replicate_succ, List.replicate_zero, zTy_0, zTy_b0, zTy_1, zTy_3, zTy_3n, zTy_4, and_true, true_and, Option.bind_some, zNul_n, zNul_r, List.getElem?_cons_zero, List.getElem?_cons_succ, Int.add_zero, zTv_B, zTy_B, b_and, b_or, b_andn, b_not, b_shl, b_cmp, b_cmp0, b_cmp0l, b_eq0, b_eq1, zs_2, zl_21, zl_22, gf_s, gf_l, pf_s, pf_l, zl_z, zs_z, nA, and_self, Nat.le_refl, Option.some.injEq, eq_self, Nat.reduceAdd, Nat.reduceSub, bc_2, bct_0, bcf_0_0, bcf_0_1, bcf_0_2, bcf_0_3, bcf_0_4, bcp_0_4, bcf_0_5, bcf_0_6, bcp_0_6, bct_1, bcf_1_0, bcp_1_0, bcf_1_1, bcp_1_1, bcf_1_2, bcp_1_2, bct_2, bcf_2_0, bcp_2_0, bcf_2_1, bcp_2_1, bcf_2_2, bcp_2_2, bca_3, bcl_3, bcs_3, bca_4, bcl_4, bcs_4, ug_s, ug_n, ua_s, ua_k, ua_j, zStK_64, zStK_65, zStK_67, zStK_68, zStK_69, zStK_70, zStK_71, zStK_72, zStK_73, S_Co_settle, zo, zt, tB, cw, mn, u_and, e, mx, mi, zbe, zbf]
end
