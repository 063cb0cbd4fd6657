/-! A STEP ON BOTH SIDES -/
def gX (G : zG) (h h1 : zHp) : zG := fun a => if a < h.2.1 then G a else if a < h1.2.1 then h1.1 a else none
section
variable {G : zG} {h h1 : zHp} {x m pp ip : Nat} {s s1 s2 : Nat → Int → Int} {r : zHp}
theorem gX_le (hG : ∀ a o, G a = some o → a < h.2.1) : gLe G (gX G h h1) := fun a o q => by
  unfold gX
  rw [if_pos (hG a o q)]; exact q
theorem gX_n {a : Nat} (h0 : h.2.1 ≤ a) (h2 : a < h1.2.1) : gX G h h1 a = h1.1 a := by
  unfold gX
  rw [if_neg (by omega), if_pos h2]
theorem gX_o {a : Nat} (h0 : a < h.2.1) : gX G h h1 a = G a := if_pos h0
theorem gIn_E (g : gIn G x m pp ip h) (e : ∀ a, a < h.2.1 → h1.1 a = h.1 a) (r0 : h.2.1 ≤ h1.2.1) (hx : x < h.2.1) (hp : pp < h.2.1) (hi : ip < h.2.1) (hm : m + 17 ≤ h.2.1) : gIn (gX G h h1) x m pp ip h1 := fun a o q => by
  unfold gX at q
  by_cases c : a < h.2.1
  · rw [if_pos c] at q
    obtain ⟨g1, g2, g3⟩ := g a o q
    exact ⟨by rw [e a c]; exact g1, by omega, g3⟩
  · rw [if_neg c] at q
    by_cases d : a < h1.2.1
    · rw [if_pos d] at q
      exact ⟨q, d, by omega, by omega, by omega, by omega⟩
    · rw [if_neg d] at q; cases q
theorem axo_1 {x : Int} (h1 : 0 ≤ x) (h2 : x < 58319) : zAxv (zStK 64).1 64 (hp m s r) (.ref (m + 1)) (vi x) = some (vi (s 1 x)) := ax_1 h1 h2
theorem axo_16 {x : Int} (h1 : 0 ≤ x) (h2 : x < 40) : zAxv (zStK 65).1 65 (hp m s r) (.ref (m + 16)) (vi x) = some (vl (s 16 x)) := ax_16 h1 h2
/-- what is kept, and where -/
def kpR (s s1 : Nat → Int → Int) : Prop := (s1 1 0 = (if s 1 0 = 20 then 19 else s 1 0) + 1) ∧ (s1 1 1 = if s 1 0 = 20 then (s 1 1 + 1) % 20 else s 1 1) ∧ (∀ j, 2 ≤ j → j < 2779 → s1 1 j = s 1 j) ∧ (∀ j, 2 ≤ j → j < 2779 → s1 1 (j + 2777 * ((s 1 1 + s 1 0) % 20 + 1)) = s 1 j) ∧ (∀ j b, 0 ≤ b → b < 20 → b ≠ (s 1 1 + s 1 0) % 20 → 2 ≤ j → j < 2779 → s1 1 (j + 2777 * (b + 1)) = s 1 (j + 2777 * (b + 1))) ∧ ∀ q, q ≠ 1 → s1 q = s q
/-- a stretch is copied to x on -/
def cpS (sA : Nat → Int → Int) (x k : Int) : Nat → Int → Int := fun q j => if q = 1 ∧ x ≤ j ∧ j < x + k then sA 1 (2 + (j - x)) else sA q j
theorem cpS_s {sA : Nat → Int → Int} {x k : Int} (k0 : 0 ≤ k) (k1 : k < 2777) (x0 : 2779 ≤ x) : us (cpS sA x k) 1 (x + k) (cpS sA x k 1 (2 + k)) = cpS sA x (k + 1) := by
  funext q j
  unfold us cpS
  by_cases c : q = 1 ∧ j = x + k
  · rw [if_pos c, if_neg (by omega), if_pos (by omega), c.2]
    exact congrArg _ (by omega)
  · rw [if_neg c]
    by_cases d : q = 1 ∧ x ≤ j ∧ j < x + k
    · rw [if_pos d, if_pos (by omega)]
    · rw [if_neg d, if_neg (by omega)]
theorem m_keepNow (h0 : 0 ≤ s 1 0 ∧ s 1 0 ≤ 20) (h1 : 0 ≤ s 1 1 ∧ s 1 1 < 20) : ∃ s1, kpR s s1 ∧ ∀ r, F_Mo_keepNow [.ref m] (hp m s r) = some (none, hp m s1 r) := by
  -- where it begins
  let sA : Nat → Int → Int := if s 1 0 = 20 then us (us s 1 1 ((s 1 1 + 1) % 20)) 1 0 19 else s
  have a0 : sA 1 0 = (if s 1 0 = 20 then 19 else s 1 0) := by
    show (if s 1 0 = 20 then us (us s 1 1 ((s 1 1 + 1) % 20)) 1 0 19 else s) 1 0 = _
    split
    · rw [us_s]
    · rfl
  have a1 : sA 1 1 = (if s 1 0 = 20 then (s 1 1 + 1) % 20 else s 1 1) := by
    show (if s 1 0 = 20 then us (us s 1 1 ((s 1 1 + 1) % 20)) 1 0 19 else s) 1 1 = _
    split
    · rw [us_j (by decide), us_s]
    · rfl
  have aj : ∀ j, 2 ≤ j → sA 1 j = s 1 j := fun j hj => by
    show (if s 1 0 = 20 then us (us s 1 1 ((s 1 1 + 1) % 20)) 1 0 19 else s) 1 j = _
    split
    · rw [us_j (by omega), us_j (by omega)]
    · rfl
  have aq : ∀ q, q ≠ 1 → sA q = s q := fun q hq => by
    show (if s 1 0 = 20 then us (us s 1 1 ((s 1 1 + 1) % 20)) 1 0 19 else s) q = _
    split
    · rw [us_r hq, us_r hq]
    · rfl
  have b0 : (sA 1 1 + sA 1 0) % 20 = (s 1 1 + s 1 0) % 20 := by rw [a0, a1]; split <;> omega
  have hA : s 1 0 = 20 → us (us s 1 1 ((s 1 1 + 1) % 20)) 1 0 19 = sA := fun c => (if_pos c).symm
  have hB : ¬ s 1 0 = 20 → s = sA := fun c => (if_neg c).symm
  generalize sA = sA at *
  have ab0 : 0 ≤ sA 1 0 ∧ sA 1 0 ≤ 19 := by rw [a0]; split <;> omega
  have ab1 : 0 ≤ sA 1 1 ∧ sA 1 1 < 20 := by rw [a1]; split <;> omega
  generalize hb : (s 1 1 + s 1 0) % 20 = b at *
  have bb : 0 ≤ b ∧ b < 20 := by omega
  -- the turns
  generalize hsB : cpS sA (2779 + 2777 * b) 2777 = sB
  have c1 : ∀ j, 2779 + 2777 * b ≤ j → j < 2779 + 2777 * b + 2777 → sB 1 j = sA 1 (2 + (j - (2779 + 2777 * b))) := fun j j0 j1 => by rw [← hsB]; exact if_pos ⟨rfl, j0, j1⟩
  have c2 : ∀ j, ¬ (2779 + 2777 * b ≤ j ∧ j < 2779 + 2777 * b + 2777) → sB 1 j = sA 1 j := fun j hj => by rw [← hsB]; exact if_neg (fun z => hj z.2)
  have c3 : ∀ q, q ≠ 1 → sB q = sA q := fun q hq => by rw [← hsB]; funext j; exact if_neg (fun z => hq z.1)
  have eL : ∀ r, L_Mo_keepNow_0 [.ref m, vi (2779 + 2777 * b), vi 0] (hp m sA r) = some (.inl (0, [.ref m, vi (2779 + 2777 * b), vi 2777]), hp m sB r) := fun r => by
    have go : wS (fun o h' => o = .inl (0, [.ref m, vi (2779 + 2777 * b), vi 2777]) ∧ h' = hp m sB r) L_Mo_keepNow_0 [.ref m, vi (2779 + 2777 * b), vi 0] (hp m sA r) (zu _) := by
      refine wFor (fun k => [.ref m, vi (2779 + 2777 * b), vi k]) (fun k => hp m (cpS sA (2779 + 2777 * b) k) r) 0 2777 (by decide) (by decide) rfl ?_ ?_ ?_
      · show hp m sA r = hp m (cpS sA (2779 + 2777 * b) 0) r
        have : cpS sA (2779 + 2777 * b) 0 = sA := by funext q j; exact if_neg (by omega)
        rw [this]
      · intro k k0 k1
        have cs := cpS_s (sA := sA) (x := 2779 + 2777 * b) k0 k1 (by omega)
        simp (disch := first | assumption | omega | exact zTy_0 | exact zTy_3 | exact zTy_3n | exact zTy_1 | exact zTy_B | exact zTy_b0 | exact zTy_4 | exact zEl_n | exact zEz4 | exact zEz9 | exact hz _ _ | exact hz2 _ _ | exact zI0 | exact zI1 | exact zI2 | exact zI3 | exact zI4 | exact zI5 | exact zI6 | exact zI7 | exact zI8 | exact zI9 | exact zI10 | (simp only [zl_21, zl_22, zs_2, ne_eq]; omega) | ((repeat (refine Eq.trans (us_r (by decide)) ?_)); assumption) | ((simp (decide := true) only [us_k, us_s]); omega)) only [↓rKi, ↓rKl, ↓rKn, ↓rKd, ↓rL, ↓r2, ↓r1, ↓rC2, ↓rC1, ↓rCn, ↓rNot, ↓rAnd, ↓rOr, ↓rCi, ↓rBx, ↓rIte, ↓rGf, ↓rLen, ↓rAx, ↓rNa, ↓rA0, ↓rA1, ↓rCs, ↓rCv, ↓rAn, ↓rNew, ↓rSeq, ↓rSkip, ↓rBrk, ↓rCnt, ↓rRetV, ↓rAsg, ↓rRet, ↓rIf, ↓rPf, ↓rPfo, ↓rAs, ↓rAso, ↓rDo, ↓rObj, ↓rBl, ↓rSw, ↓rCopy, ↓zSq_0, ↓zSq_r, ↓zSq_1, ↓zSq_2, ↓zBq_l, ↓zBq_r, ↓zWq_0, ↓zWq_1, ↓zWq_2, ↓zWq_r, ↓zLo_0, ↓zLo_1, ↓zLo_2, ↓zLo_r, ↓zLt_0, ↓rTr, ↓zFin_s, ↓zFin_n, wX_r, wO_s, wI_t, wI_f, zLk_0, zLk_s, zTv_vi, zTv_vb, zTv_vl, zTv_d, zTv_r, zTv_n, zTv_4, zTo_s, zCl_n, zCl_0, zCl_s, Int32.reduceToInt, Int64.reduceToInt, e_add, e_sub, e_mul, e_neg, e_ladd, e_lsub, e_lmul, e_lneg, q_0, q_1, q_2, q_3, q_4, q_5, q_b0, q_b1, p_0, p_1, p_2, p_3, p_4, p_5, p_b0, p_b1, e_lcmp, pl_0, pl_1, pl_2, pl_3, pl_4, pl_5, e_i2l, e_l2i, e_idiv, e_irem, e_ldiv, e_lrem, List.set_cons_zero, List.set_cons_succ, List.getD_cons_zero, List.getD_cons_succ, List.getD_nil, dT, dF, decide_true, decide_false, not_true_eq_false, not_false_eq_true, Bool.not_true, Bool.not_false, zLay_1, zLay_c1, zLay_c2, zLay_n, zWds_n, zWds_c, zCat_0, zCat_1, zCat_3, zCat_4, zLay_4, List.nil_append, List.cons_append, List.replicate_succ, List.replicate_zero, zTy_0, zTy_b0, zTy_1, zTy_3, zTy_3n, zTy_4, and_true, true_and, Option.bind_some, zNul_n, zNul_r, List.getElem?_cons_zero, List.getElem?_cons_succ, Int.add_zero, zTv_B, zTy_B, b_and, b_or, b_andn, b_not, b_shl, b_cmp, b_cmp0, b_cmp0l, b_eq0, b_eq1, zs_2, zl_21, zl_22, gf_s, gf_l, pf_s, pf_l, zl_z, zs_z, nA, and_self, Nat.le_refl, Option.some.injEq, eq_self, Nat.reduceAdd, Nat.reduceSub, tg_m, mf_0, mf_1, mf_2, mf_3, mf_4, mf_5, mf_6, mf_7, mf_8, mf_9, mp_10, mf_10, mp_11, mf_11, mp_12, mf_12, mp_13, mf_13, mp_14, mf_14, mf_15, mf_16, mp_17, mf_17, mf_18, mf_19, mp_20, mf_20, mp_21, mf_21, mf_22, mp_23, mf_23, mp_24, mf_24, mf_25, mp_26, mf_26, ax_1, asa_1, aso_1, ax_2, asa_2, aso_2, ax_3, asa_3, aso_3, ax_4, asa_4, aso_4, ax_5, asa_5, aso_5, ax_6, asa_6, aso_6, ax_7, asa_7, aso_7, ax_8, asa_8, aso_8, ax_9, asa_9, aso_9, ax_10, asa_10, aso_10, ax_11, asa_11, aso_11, ax_12, asa_12, aso_12, ax_13, asa_13, aso_13, ax_14, asa_14, aso_14, ax_15, asa_15, aso_15, ax_16, asa_16, aso_16, hp_2, us_s, us_k, us_j, us_r, C_Mo_keepNow_0, B_Mo_keepNow_0, T_Mo_keepNow_0, cs]
      · simp (disch := first | assumption | omega | exact zTy_0 | exact zTy_3 | exact zTy_3n | exact zTy_1 | exact zTy_B | exact zTy_b0 | exact zTy_4 | exact zEl_n | exact zEz4 | exact zEz9 | exact hz _ _ | exact hz2 _ _ | exact zI0 | exact zI1 | exact zI2 | exact zI3 | exact zI4 | exact zI5 | exact zI6 | exact zI7 | exact zI8 | exact zI9 | exact zI10 | (simp only [zl_21, zl_22, zs_2, ne_eq]; omega) | ((repeat (refine Eq.trans (us_r (by decide)) ?_)); assumption) | ((simp (decide := true) only [us_k, us_s]); omega)) only [↓rKi, ↓rKl, ↓rKn, ↓rKd, ↓rL, ↓r2, ↓r1, ↓rC2, ↓rC1, ↓rCn, ↓rNot, ↓rAnd, ↓rOr, ↓rCi, ↓rBx, ↓rIte, ↓rGf, ↓rLen, ↓rAx, ↓rNa, ↓rA0, ↓rA1, ↓rCs, ↓rCv, ↓rAn, ↓rNew, ↓rSeq, ↓rSkip, ↓rBrk, ↓rCnt, ↓rRetV, ↓rAsg, ↓rRet, ↓rIf, ↓rPf, ↓rPfo, ↓rAs, ↓rAso, ↓rDo, ↓rObj, ↓rBl, ↓rSw, ↓rCopy, ↓zSq_0, ↓zSq_r, ↓zSq_1, ↓zSq_2, ↓zBq_l, ↓zBq_r, ↓zWq_0, ↓zWq_1, ↓zWq_2, ↓zWq_r, ↓zLo_0, ↓zLo_1, ↓zLo_2, ↓zLo_r, ↓zLt_0, ↓rTr, ↓zFin_s, ↓zFin_n, wX_r, wO_s, wI_t, wI_f, zLk_0, zLk_s, zTv_vi, zTv_vb, zTv_vl, zTv_d, zTv_r, zTv_n, zTv_4, zTo_s, zCl_n, zCl_0, zCl_s, Int32.reduceToInt, Int64.reduceToInt, e_add, e_sub, e_mul, e_neg, e_ladd, e_lsub, e_lmul, e_lneg, q_0, q_1, q_2, q_3, q_4, q_5, q_b0, q_b1, p_0, p_1, p_2, p_3, p_4, p_5, p_b0, p_b1, e_lcmp, pl_0, pl_1, pl_2, pl_3, pl_4, pl_5, e_i2l, e_l2i, e_idiv, e_irem, e_ldiv, e_lrem, List.set_cons_zero, List.set_cons_succ, List.getD_cons_zero, List.getD_cons_succ, List.getD_nil, dT, dF, decide_true, decide_false, not_true_eq_false, not_false_eq_true, Bool.not_true, Bool.not_false, zLay_1, zLay_c1, zLay_c2, zLay_n, zWds_n, zWds_c, zCat_0, zCat_1, zCat_3, zCat_4, zLay_4, List.nil_append, List.cons_append, List.replicate_succ, List.replicate_zero, zTy_0, zTy_b0, zTy_1, zTy_3, zTy_3n, zTy_4, and_true, true_and, Option.bind_some, zNul_n, zNul_r, List.getElem?_cons_zero, List.getElem?_cons_succ, Int.add_zero, zTv_B, zTy_B, b_and, b_or, b_andn, b_not, b_shl, b_cmp, b_cmp0, b_cmp0l, b_eq0, b_eq1, zs_2, zl_21, zl_22, gf_s, gf_l, pf_s, pf_l, zl_z, zs_z, nA, and_self, Nat.le_refl, Option.some.injEq, eq_self, Nat.reduceAdd, Nat.reduceSub, tg_m, mf_0, mf_1, mf_2, mf_3, mf_4, mf_5, mf_6, mf_7, mf_8, mf_9, mp_10, mf_10, mp_11, mf_11, mp_12, mf_12, mp_13, mf_13, mp_14, mf_14, mf_15, mf_16, mp_17, mf_17, mf_18, mf_19, mp_20, mf_20, mp_21, mf_21, mf_22, mp_23, mf_23, mp_24, mf_24, mf_25, mp_26, mf_26, ax_1, asa_1, aso_1, ax_2, asa_2, aso_2, ax_3, asa_3, aso_3, ax_4, asa_4, aso_4, ax_5, asa_5, aso_5, ax_6, asa_6, aso_6, ax_7, asa_7, aso_7, ax_8, asa_8, aso_8, ax_9, asa_9, aso_9, ax_10, asa_10, aso_10, ax_11, asa_11, aso_11, ax_12, asa_12, aso_12, ax_13, asa_13, aso_13, ax_14, asa_14, aso_14, ax_15, asa_15, aso_15, ax_16, asa_16, aso_16, hp_2, us_s, us_k, us_j, us_r, C_Mo_keepNow_0, B_Mo_keepNow_0, T_Mo_keepNow_0, hsB]
    obtain ⟨o, h', e, rfl, rfl⟩ := go
    exact e
  have eS : ∀ r, F_Mo_stepAt [vi (sA 1 1), vi (sA 1 0)] (hp m sA r) = some (some (vi (2779 + 2777 * b)), hp m sA r) := fun r => by
    refine zMeq rfl ?_
    simp (disch := first | assumption | omega | exact zTy_0 | exact zTy_3 | exact zTy_3n | exact zTy_1 | exact zTy_B | exact zTy_b0 | exact zTy_4 | exact zEl_n | exact zEz4 | exact zEz9 | exact hz _ _ | exact hz2 _ _ | exact zI0 | exact zI1 | exact zI2 | exact zI3 | exact zI4 | exact zI5 | exact zI6 | exact zI7 | exact zI8 | exact zI9 | exact zI10 | (simp only [zl_21, zl_22, zs_2, ne_eq]; omega) | ((repeat (refine Eq.trans (us_r (by decide)) ?_)); assumption) | ((simp (decide := true) only [us_k, us_s]); omega)) only [↓rKi, ↓rKl, ↓rKn, ↓rKd, ↓rL, ↓r2, ↓r1, ↓rC2, ↓rC1, ↓rCn, ↓rNot, ↓rAnd, ↓rOr, ↓rCi, ↓rBx, ↓rIte, ↓rGf, ↓rLen, ↓rAx, ↓rNa, ↓rA0, ↓rA1, ↓rCs, ↓rCv, ↓rAn, ↓rNew, ↓rSeq, ↓rSkip, ↓rBrk, ↓rCnt, ↓rRetV, ↓rAsg, ↓rRet, ↓rIf, ↓rPf, ↓rPfo, ↓rAs, ↓rAso, ↓rDo, ↓rObj, ↓rBl, ↓rSw, ↓rCopy, ↓zSq_0, ↓zSq_r, ↓zSq_1, ↓zSq_2, ↓zBq_l, ↓zBq_r, ↓zWq_0, ↓zWq_1, ↓zWq_2, ↓zWq_r, ↓zLo_0, ↓zLo_1, ↓zLo_2, ↓zLo_r, ↓zLt_0, ↓rTr, ↓zFin_s, ↓zFin_n, wX_r, wO_s, wI_t, wI_f, zLk_0, zLk_s, zTv_vi, zTv_vb, zTv_vl, zTv_d, zTv_r, zTv_n, zTv_4, zTo_s, zCl_n, zCl_0, zCl_s, Int32.reduceToInt, Int64.reduceToInt, e_add, e_sub, e_mul, e_neg, e_ladd, e_lsub, e_lmul, e_lneg, q_0, q_1, q_2, q_3, q_4, q_5, q_b0, q_b1, p_0, p_1, p_2, p_3, p_4, p_5, p_b0, p_b1, e_lcmp, pl_0, pl_1, pl_2, pl_3, pl_4, pl_5, e_i2l, e_l2i, e_idiv, e_irem, e_ldiv, e_lrem, List.set_cons_zero, List.set_cons_succ, List.getD_cons_zero, List.getD_cons_succ, List.getD_nil, dT, dF, decide_true, decide_false, not_true_eq_false, not_false_eq_true, Bool.not_true, Bool.not_false, zLay_1, zLay_c1, zLay_c2, zLay_n, zWds_n, zWds_c, zCat_0, zCat_1, zCat_3, zCat_4, zLay_4, List.nil_append, List.cons_append, List.replicate_succ, List.replicate_zero, zTy_0, zTy_b0, zTy_1, zTy_3, zTy_3n, zTy_4, and_true, true_and, Option.bind_some, zNul_n, zNul_r, List.getElem?_cons_zero, List.getElem?_cons_succ, Int.add_zero, zTv_B, zTy_B, b_and, b_or, b_andn, b_not, b_shl, b_cmp, b_cmp0, b_cmp0l, b_eq0, b_eq1, zs_2, zl_21, zl_22, gf_s, gf_l, pf_s, pf_l, zl_z, zs_z, nA, and_self, Nat.le_refl, Option.some.injEq, eq_self, Nat.reduceAdd, Nat.reduceSub, S_Mo_stepAt, b0]
  refine ⟨us sB 1 0 (sB 1 0 + 1), ⟨?_, ?_, ?_, ?_, ?_, ?_⟩, fun r => zMeq rfl ?_⟩
  · rw [us_s, c2 0 (by omega), a0]
  · rw [us_j (by decide), c2 1 (by omega), a1]
  · intro j j0 j1
    rw [us_j (by omega), c2 j (by omega), aj j j0]
  · intro j j0 j1
    rw [hb, us_j (by omega), c1 _ (by omega) (by omega), aj _ (by omega)]
    exact congrArg _ (by omega)
  · intro j e e0 e1 e2 j0 j1
    rw [hb] at e2
    rw [us_j (by omega), c2 _ (by omega), aj _ (by omega)]
  · intro q hq
    rw [us_r hq, c3 q hq, aq q hq]
  · by_cases c : s 1 0 = 20
    · have hA' : us (us s 1 1 ((s 1 1 + 1) % 20)) 1 0 (s 1 0 - 1) = sA := by rw [show s 1 0 - 1 = 19 by omega]; exact hA c
      simp (disch := first | assumption | omega | exact zTy_0 | exact zTy_3 | exact zTy_3n | exact zTy_1 | exact zTy_B | exact zTy_b0 | exact zTy_4 | exact zEl_n | exact zEz4 | exact zEz9 | exact hz _ _ | exact hz2 _ _ | exact zI0 | exact zI1 | exact zI2 | exact zI3 | exact zI4 | exact zI5 | exact zI6 | exact zI7 | exact zI8 | exact zI9 | exact zI10 | (simp only [zl_21, zl_22, zs_2, ne_eq]; omega) | ((repeat (refine Eq.trans (us_r (by decide)) ?_)); assumption) | ((simp (decide := true) only [us_k, us_s]); omega)) only [↓rKi, ↓rKl, ↓rKn, ↓rKd, ↓rL, ↓r2, ↓r1, ↓rC2, ↓rC1, ↓rCn, ↓rNot, ↓rAnd, ↓rOr, ↓rCi, ↓rBx, ↓rIte, ↓rGf, ↓rLen, ↓rAx, ↓rNa, ↓rA0, ↓rA1, ↓rCs, ↓rCv, ↓rAn, ↓rNew, ↓rSeq, ↓rSkip, ↓rBrk, ↓rCnt, ↓rRetV, ↓rAsg, ↓rRet, ↓rIf, ↓rPf, ↓rPfo, ↓rAs, ↓rAso, ↓rDo, ↓rObj, ↓rBl, ↓rSw, ↓rCopy, ↓zSq_0, ↓zSq_r, ↓zSq_1, ↓zSq_2, ↓zBq_l, ↓zBq_r, ↓zWq_0, ↓zWq_1, ↓zWq_2, ↓zWq_r, ↓zLo_0, ↓zLo_1, ↓zLo_2, ↓zLo_r, ↓zLt_0, ↓rTr, ↓zFin_s, ↓zFin_n, wX_r, wO_s, wI_t, wI_f, zLk_0, zLk_s, zTv_vi, zTv_vb, zTv_vl, zTv_d, zTv_r, zTv_n, zTv_4, zTo_s, zCl_n, zCl_0, zCl_s, Int32.reduceToInt, Int64.reduceToInt, e_add, e_sub, e_mul, e_neg, e_ladd, e_lsub, e_lmul, e_lneg, q_0, q_1, q_2, q_3, q_4, q_5, q_b0, q_b1, p_0, p_1, p_2, p_3, p_4, p_5, p_b0, p_b1, e_lcmp, pl_0, pl_1, pl_2, pl_3, pl_4, pl_5, e_i2l, e_l2i, e_idiv, e_irem, e_ldiv, e_lrem, List.set_cons_zero, List.set_cons_succ, List.getD_cons_zero, List.getD_cons_succ, List.getD_nil, dT, dF, decide_true, decide_false, not_true_eq_false, not_false_eq_true, Bool.not_true, Bool.not_false, zLay_1, zLay_c1, zLay_c2, zLay_n, zWds_n, zWds_c, zCat_0, zCat_1, zCat_3, zCat_4, zLay_4, List.nil_append, List.cons_append, List.replicate_succ, List.replicate_zero, zTy_0, zTy_b0, zTy_1, zTy_3, zTy_3n, zTy_4, and_true, true_and, Option.bind_some, zNul_n, zNul_r, List.getElem?_cons_zero, List.getElem?_cons_succ, Int.add_zero, zTv_B, zTy_B, b_and, b_or, b_andn, b_not, b_shl, b_cmp, b_cmp0, b_cmp0l, b_eq0, b_eq1, zs_2, zl_21, zl_22, gf_s, gf_l, pf_s, pf_l, zl_z, zs_z, nA, and_self, Nat.le_refl, Option.some.injEq, eq_self, Nat.reduceAdd, Nat.reduceSub, tg_m, mf_0, mf_1, mf_2, mf_3, mf_4, mf_5, mf_6, mf_7, mf_8, mf_9, mp_10, mf_10, mp_11, mf_11, mp_12, mf_12, mp_13, mf_13, mp_14, mf_14, mf_15, mf_16, mp_17, mf_17, mf_18, mf_19, mp_20, mf_20, mp_21, mf_21, mf_22, mp_23, mf_23, mp_24, mf_24, mf_25, mp_26, mf_26, ax_1, asa_1, aso_1, ax_2, asa_2, aso_2, ax_3, asa_3, aso_3, ax_4, asa_4, aso_4, ax_5, asa_5, aso_5, ax_6, asa_6, aso_6, ax_7, asa_7, aso_7, ax_8, asa_8, aso_8, ax_9, asa_9, aso_9, ax_10, asa_10, aso_10, ax_11, asa_11, aso_11, ax_12, asa_12, aso_12, ax_13, asa_13, aso_13, ax_14, asa_14, aso_14, ax_15, asa_15, aso_15, ax_16, asa_16, aso_16, hp_2, us_s, us_k, us_j, us_r, S_Mo_keepNow, axo_1, hA', eS]
      refine wS_of (eL r) ?_
      simp (disch := first | assumption | omega | exact zTy_0 | exact zTy_3 | exact zTy_3n | exact zTy_1 | exact zTy_B | exact zTy_b0 | exact zTy_4 | exact zEl_n | exact zEz4 | exact zEz9 | exact hz _ _ | exact hz2 _ _ | exact zI0 | exact zI1 | exact zI2 | exact zI3 | exact zI4 | exact zI5 | exact zI6 | exact zI7 | exact zI8 | exact zI9 | exact zI10 | (simp only [zl_21, zl_22, zs_2, ne_eq]; omega) | ((repeat (refine Eq.trans (us_r (by decide)) ?_)); assumption) | ((simp (decide := true) only [us_k, us_s]); omega)) only [↓rKi, ↓rKl, ↓rKn, ↓rKd, ↓rL, ↓r2, ↓r1, ↓rC2, ↓rC1, ↓rCn, ↓rNot, ↓rAnd, ↓rOr, ↓rCi, ↓rBx, ↓rIte, ↓rGf, ↓rLen, ↓rAx, ↓rNa, ↓rA0, ↓rA1, ↓rCs, ↓rCv, ↓rAn, ↓rNew, ↓rSeq, ↓rSkip, ↓rBrk, ↓rCnt, ↓rRetV, ↓rAsg, ↓rRet, ↓rIf, ↓rPf, ↓rPfo, ↓rAs, ↓rAso, ↓rDo, ↓rObj, ↓rBl, ↓rSw, ↓rCopy, ↓zSq_0, ↓zSq_r, ↓zSq_1, ↓zSq_2, ↓zBq_l, ↓zBq_r, ↓zWq_0, ↓zWq_1, ↓zWq_2, ↓zWq_r, ↓zLo_0, ↓zLo_1, ↓zLo_2, ↓zLo_r, ↓zLt_0, ↓rTr, ↓zFin_s, ↓zFin_n, wX_r, wO_s, wI_t, wI_f, zLk_0, zLk_s, zTv_vi, zTv_vb, zTv_vl, zTv_d, zTv_r, zTv_n, zTv_4, zTo_s, zCl_n, zCl_0, zCl_s, Int32.reduceToInt, Int64.reduceToInt, e_add, e_sub, e_mul, e_neg, e_ladd, e_lsub, e_lmul, e_lneg, q_0, q_1, q_2, q_3, q_4, q_5, q_b0, q_b1, p_0, p_1, p_2, p_3, p_4, p_5, p_b0, p_b1, e_lcmp, pl_0, pl_1, pl_2, pl_3, pl_4, pl_5, e_i2l, e_l2i, e_idiv, e_irem, e_ldiv, e_lrem, List.set_cons_zero, List.set_cons_succ, List.getD_cons_zero, List.getD_cons_succ, List.getD_nil, dT, dF, decide_true, decide_false, not_true_eq_false, not_false_eq_true, Bool.not_true, Bool.not_false, zLay_1, zLay_c1, zLay_c2, zLay_n, zWds_n, zWds_c, zCat_0, zCat_1, zCat_3, zCat_4, zLay_4, List.nil_append, List.cons_append, List.replicate_succ, List.replicate_zero, zTy_0, zTy_b0, zTy_1, zTy_3, zTy_3n, zTy_4, and_true, true_and, Option.bind_some, zNul_n, zNul_r, List.getElem?_cons_zero, List.getElem?_cons_succ, Int.add_zero, zTv_B, zTy_B, b_and, b_or, b_andn, b_not, b_shl, b_cmp, b_cmp0, b_cmp0l, b_eq0, b_eq1, zs_2, zl_21, zl_22, gf_s, gf_l, pf_s, pf_l, zl_z, zs_z, nA, and_self, Nat.le_refl, Option.some.injEq, eq_self, Nat.reduceAdd, Nat.reduceSub, tg_m, mf_0, mf_1, mf_2, mf_3, mf_4, mf_5, mf_6, mf_7, mf_8, mf_9, mp_10, mf_10, mp_11, mf_11, mp_12, mf_12, mp_13, mf_13, mp_14, mf_14, mf_15, mf_16, mp_17, mf_17, mf_18, mf_19, mp_20, mf_20, mp_21, mf_21, mf_22, mp_23, mf_23, mp_24, mf_24, mf_25, mp_26, mf_26, ax_1, asa_1, aso_1, ax_2, asa_2, aso_2, ax_3, asa_3, aso_3, ax_4, asa_4, aso_4, ax_5, asa_5, aso_5, ax_6, asa_6, aso_6, ax_7, asa_7, aso_7, ax_8, asa_8, aso_8, ax_9, asa_9, aso_9, ax_10, asa_10, aso_10, ax_11, asa_11, aso_11, ax_12, asa_12, aso_12, ax_13, asa_13, aso_13, ax_14, asa_14, aso_14, ax_15, asa_15, aso_15, ax_16, asa_16, aso_16, hp_2, us_s, us_k, us_j, us_r, axo_1]
    · have e := hB c
      rw [← e] at eS eL
      simp (disch := first | assumption | omega | exact zTy_0 | exact zTy_3 | exact zTy_3n | exact zTy_1 | exact zTy_B | exact zTy_b0 | exact zTy_4 | exact zEl_n | exact zEz4 | exact zEz9 | exact hz _ _ | exact hz2 _ _ | exact zI0 | exact zI1 | exact zI2 | exact zI3 | exact zI4 | exact zI5 | exact zI6 | exact zI7 | exact zI8 | exact zI9 | exact zI10 | (simp only [zl_21, zl_22, zs_2, ne_eq]; omega) | ((repeat (refine Eq.trans (us_r (by decide)) ?_)); assumption) | ((simp (decide := true) only [us_k, us_s]); omega)) only [↓rKi, ↓rKl, ↓rKn, ↓rKd, ↓rL, ↓r2, ↓r1, ↓rC2, ↓rC1, ↓rCn, ↓rNot, ↓rAnd, ↓rOr, ↓rCi, ↓rBx, ↓rIte, ↓rGf, ↓rLen, ↓rAx, ↓rNa, ↓rA0, ↓rA1, ↓rCs, ↓rCv, ↓rAn, ↓rNew, ↓rSeq, ↓rSkip, ↓rBrk, ↓rCnt, ↓rRetV, ↓rAsg, ↓rRet, ↓rIf, ↓rPf, ↓rPfo, ↓rAs, ↓rAso, ↓rDo, ↓rObj, ↓rBl, ↓rSw, ↓rCopy, ↓zSq_0, ↓zSq_r, ↓zSq_1, ↓zSq_2, ↓zBq_l, ↓zBq_r, ↓zWq_0, ↓zWq_1, ↓zWq_2, ↓zWq_r, ↓zLo_0, ↓zLo_1, ↓zLo_2, ↓zLo_r, ↓zLt_0, ↓rTr, ↓zFin_s, ↓zFin_n, wX_r, wO_s, wI_t, wI_f, zLk_0, zLk_s, zTv_vi, zTv_vb, zTv_vl, zTv_d, zTv_r, zTv_n, zTv_4, zTo_s, zCl_n, zCl_0, zCl_s, Int32.reduceToInt, Int64.reduceToInt, e_add, e_sub, e_mul, e_neg, e_ladd, e_lsub, e_lmul, e_lneg, q_0, q_1, q_2, q_3, q_4, q_5, q_b0, q_b1, p_0, p_1, p_2, p_3, p_4, p_5, p_b0, p_b1, e_lcmp, pl_0, pl_1, pl_2, pl_3, pl_4, pl_5, e_i2l, e_l2i, e_idiv, e_irem, e_ldiv, e_lrem, List.set_cons_zero, List.set_cons_succ, List.getD_cons_zero, List.getD_cons_succ, List.getD_nil, dT, dF, decide_true, decide_false, not_true_eq_false, not_false_eq_true, Bool.not_true, Bool.not_false, zLay_1, zLay_c1, zLay_c2, zLay_n, zWds_n, zWds_c, zCat_0, zCat_1, zCat_3, zCat_4, zLay_4, List.nil_append, List.cons_append, List.replicate_succ, List.replicate_zero, zTy_0, zTy_b0, zTy_1, zTy_3, zTy_3n, zTy_4, and_true, true_and, Option.bind_some, zNul_n, zNul_r, List.getElem?_cons_zero, List.getElem?_cons_succ, Int.add_zero, zTv_B, zTy_B, b_and, b_or, b_andn, b_not, b_shl, b_cmp, b_cmp0, b_cmp0l, b_eq0, b_eq1, zs_2, zl_21, zl_22, gf_s, gf_l, pf_s, pf_l, zl_z, zs_z, nA, and_self, Nat.le_refl, Option.some.injEq, eq_self, Nat.reduceAdd, Nat.reduceSub, tg_m, mf_0, mf_1, mf_2, mf_3, mf_4, mf_5, mf_6, mf_7, mf_8, mf_9, mp_10, mf_10, mp_11, mf_11, mp_12, mf_12, mp_13, mf_13, mp_14, mf_14, mf_15, mf_16, mp_17, mf_17, mf_18, mf_19, mp_20, mf_20, mp_21, mf_21, mf_22, mp_23, mf_23, mp_24, mf_24, mf_25, mp_26, mf_26, ax_1, asa_1, aso_1, ax_2, asa_2, aso_2, ax_3, asa_3, aso_3, ax_4, asa_4, aso_4, ax_5, asa_5, aso_5, ax_6, asa_6, aso_6, ax_7, asa_7, aso_7, ax_8, asa_8, aso_8, ax_9, asa_9, aso_9, ax_10, asa_10, aso_10, ax_11, asa_11, aso_11, ax_12, asa_12, aso_12, ax_13, asa_13, aso_13, ax_14, asa_14, aso_14, ax_15, asa_15, aso_15, ax_16, asa_16, aso_16, hp_2, us_s, us_k, us_j, us_r, S_Mo_keepNow, eS]
      refine wS_of (eL r) ?_
      simp (disch := first | assumption | omega | exact zTy_0 | exact zTy_3 | exact zTy_3n | exact zTy_1 | exact zTy_B | exact zTy_b0 | exact zTy_4 | exact zEl_n | exact zEz4 | exact zEz9 | exact hz _ _ | exact hz2 _ _ | exact zI0 | exact zI1 | exact zI2 | exact zI3 | exact zI4 | exact zI5 | exact zI6 | exact zI7 | exact zI8 | exact zI9 | exact zI10 | (simp only [zl_21, zl_22, zs_2, ne_eq]; omega) | ((repeat (refine Eq.trans (us_r (by decide)) ?_)); assumption) | ((simp (decide := true) only [us_k, us_s]); omega)) only [↓rKi, ↓rKl, ↓rKn, ↓rKd, ↓rL, ↓r2, ↓r1, ↓rC2, ↓rC1, ↓rCn, ↓rNot, ↓rAnd, ↓rOr, ↓rCi, ↓rBx, ↓rIte, ↓rGf, ↓rLen, ↓rAx, ↓rNa, ↓rA0, ↓rA1, ↓rCs, ↓rCv, ↓rAn, ↓rNew, ↓rSeq, ↓rSkip, ↓rBrk, ↓rCnt, ↓rRetV, ↓rAsg, ↓rRet, ↓rIf, ↓rPf, ↓rPfo, ↓rAs, ↓rAso, ↓rDo, ↓rObj, ↓rBl, ↓rSw, ↓rCopy, ↓zSq_0, ↓zSq_r, ↓zSq_1, ↓zSq_2, ↓zBq_l, ↓zBq_r, ↓zWq_0, ↓zWq_1, ↓zWq_2, ↓zWq_r, ↓zLo_0, ↓zLo_1, ↓zLo_2, ↓zLo_r, ↓zLt_0, ↓rTr, ↓zFin_s, ↓zFin_n, wX_r, wO_s, wI_t, wI_f, zLk_0, zLk_s, zTv_vi, zTv_vb, zTv_vl, zTv_d, zTv_r, zTv_n, zTv_4, zTo_s, zCl_n, zCl_0, zCl_s, Int32.reduceToInt, Int64.reduceToInt, e_add, e_sub, e_mul, e_neg, e_ladd, e_lsub, e_lmul, e_lneg, q_0, q_1, q_2, q_3, q_4, q_5, q_b0, q_b1, p_0, p_1, p_2, p_3, p_4, p_5, p_b0, p_b1, e_lcmp, pl_0, pl_1, pl_2, pl_3, pl_4, pl_5, e_i2l, e_l2i, e_idiv, e_irem, e_ldiv, e_lrem, List.set_cons_zero, List.set_cons_succ, List.getD_cons_zero, List.getD_cons_succ, List.getD_nil, dT, dF, decide_true, decide_false, not_true_eq_false, not_false_eq_true, Bool.not_true, Bool.not_false, zLay_1, zLay_c1, zLay_c2, zLay_n, zWds_n, zWds_c, zCat_0, zCat_1, zCat_3, zCat_4, zLay_4, List.nil_append, List.cons_append, List.replicate_succ, List.replicate_zero, zTy_0, zTy_b0, zTy_1, zTy_3, zTy_3n, zTy_4, and_true, true_and, Option.bind_some, zNul_n, zNul_r, List.getElem?_cons_zero, List.getElem?_cons_succ, Int.add_zero, zTv_B, zTy_B, b_and, b_or, b_andn, b_not, b_shl, b_cmp, b_cmp0, b_cmp0l, b_eq0, b_eq1, zs_2, zl_21, zl_22, gf_s, gf_l, pf_s, pf_l, zl_z, zs_z, nA, and_self, Nat.le_refl, Option.some.injEq, eq_self, Nat.reduceAdd, Nat.reduceSub, tg_m, mf_0, mf_1, mf_2, mf_3, mf_4, mf_5, mf_6, mf_7, mf_8, mf_9, mp_10, mf_10, mp_11, mf_11, mp_12, mf_12, mp_13, mf_13, mp_14, mf_14, mf_15, mf_16, mp_17, mf_17, mf_18, mf_19, mp_20, mf_20, mp_21, mf_21, mf_22, mp_23, mf_23, mp_24, mf_24, mf_25, mp_26, mf_26, ax_1, asa_1, aso_1, ax_2, asa_2, aso_2, ax_3, asa_3, aso_3, ax_4, asa_4, aso_4, ax_5, asa_5, aso_5, ax_6, asa_6, aso_6, ax_7, asa_7, aso_7, ax_8, asa_8, aso_8, ax_9, asa_9, aso_9, ax_10, asa_10, aso_10, ax_11, asa_11, aso_11, ax_12, asa_12, aso_12, ax_13, asa_13, aso_13, ax_14, asa_14, aso_14, ax_15, asa_15, aso_15, ax_16, asa_16, aso_16, hp_2, us_s, us_k, us_j, us_r, axo_1]
/-- a step is taken on both sides -/
theorem WI_step {st im st2 : Nat} {fp fi : Int → Value} {f2 : Int → Int} (w : WO G x m h s st pp im ip fp fi) (e : ∀ a, a < h.2.1 → h1.1 a = h.1 a) (r0 : h.2.1 ≤ h1.2.1) (hst : StAt (gX G h h1) st2 f2) (hk : kpR s s1) (hf : ∀ j, 2 ≤ j → j < 2779 → s2 1 j = f2 j) (ho : ∀ j, (j < 2 ∨ 2779 ≤ j) → s2 1 j = s1 1 j) (h2 : s2 2 = s 2) :
    F_JT_takeStep [.ref x, .ref st2] h1 = some (none, zSet (zSet h1 pp (70, ar 20 (fpN fp (s 1 0) st))) x (10, [.ref st2, .ref pp, vi (pcN (s 1 0)), .ref im, .ref ip, vi (s 2 0)])) ∧ ∀ s3, h1 = hp m s3 h1 → WI x m (hp m s2 (zSet (zSet h1 pp (70, ar 20 (fpN fp (s 1 0) st))) x (10, [.ref st2, .ref pp, vi (pcN (s 1 0)), .ref im, .ref ip, vi (s 2 0)]))) s2 := by
  obtain ⟨⟨a1, a2⟩, b, ⟨c1, c2, c3, c4, c5, c6⟩, d, ⟨f1, f1'⟩, g1, g2, ⟨⟨p1, p2⟩, p3, p4⟩, q0⟩ := w
  have bE := gIn_E b e r0 c1.1 c2.1 c3.1 a2
  have le : gLe G (gX G h h1) := gX_le fun a o q => (b a o q).2.1
  have g1' := StAt_mono le g1
  have sts : ∃ vs, gX G h h1 st = some (5, vs) := by
    obtain ⟨pe, pt, pk, fe, ft, fk, z, -⟩ := g1'
    exact ⟨_, z⟩
  obtain ⟨vs, sts⟩ := sts
  obtain ⟨z1, z2, z3, z4, z5, z6⟩ := bE _ _ sts
  have SOm : ∀ v, SO G v → SO (gX G h h1) v := fun v q => by
    rcases q with q | ⟨a, vs, q1, q2⟩
    · exact Or.inl q
    · exact Or.inr ⟨a, vs, q1, le _ _ q2⟩
  refine ⟨c_takeStep (by rw [e _ c1.1]; exact d) (by rw [e _ c2.1]; exact f1) c4 p1.1 p1.2 z1 z3 z4 (fun i i0 i1 => ?_), fun s3 hm => ?_⟩
  · rcases SOm _ (p4 i i0 i1) with q | ⟨a, vs, q1, q2⟩
    · rw [q]; exact ⟨rfl, zEm_n⟩
    · rw [q1]; exact ⟨rfl, zEm_r (bE _ _ q2).1⟩
  · obtain ⟨k1, k2, k3, k4, k5, k6⟩ := hk
    have s20 : s2 1 0 = s1 1 0 := ho 0 (by omega)
    have s21 : s2 1 1 = s1 1 1 := ho 1 (by omega)
    have hpc : pcN (s 1 0) = s2 1 0 := by unfold pcN; rw [s20, k1]; split <;> rfl
    refine ⟨gX G h h1, st2, pp, im, ip, fpN fp (s 1 0) st, fi, ⟨hp_self, by show m + 17 ≤ h1.2.1; omega⟩, fun a o q => ?_, ⟨⟨by show x < h1.2.1; omega, c1.2⟩, ⟨by show pp < h1.2.1; omega, c2.2⟩, ⟨by show ip < h1.2.1; omega, c3.2⟩, c4, c5, c6⟩, ?_, ⟨?_, ?_⟩, ?_, ?_, ?_, ?_⟩
    · obtain ⟨y1, y2, y3, y4, y5, y6⟩ := bE a o q
      exact ⟨by rw [hp_out y6, zs_n y3, zs_n y4]; exact y1, y2, y3, y4, y5, y6⟩
    · rw [hp_out c1.2, zs_s, hpc, h2]
    · rw [hp_out c2.2, zs_n (fun q => c4 q.symm), zs_s]
    · rw [hp_out c3.2, zs_n (fun q => c5 q.symm), zs_n (fun q => c6 q.symm), e _ c3.1]; exact f1'
    · exact StAt_ext (fun j j0 j1 => hf j j0 j1) hst
    · rw [h2]; exact StAt_mono le g2
    · refine ⟨⟨by rw [s20, k1]; split <;> omega, by rw [s21, k2]; split <;> omega⟩, fun i i0 i1 => ?_, fun i i0 i1 => ?_⟩
      · rw [s20, k1] at i1
        by_cases full : s 1 0 = 20
        · rw [if_pos full] at i1 k2
          by_cases last : i = 19
          · refine ⟨st, by unfold fpN; rw [if_pos full, if_pos last], StAt_ext (fun j j0 j1 => ?_) g1'⟩
            show s2 1 (j + 2777 * ((s2 1 1 + i) % 20 + 1)) = s 1 j
            rw [s21, k2, ho _ (by omega), show ((s 1 1 + 1) % 20 + i) % 20 = (s 1 1 + s 1 0) % 20 by omega]
            exact k4 j j0 j1
          · obtain ⟨a, q1, q2⟩ := p3 (i + 1) (by omega) (by omega)
            refine ⟨a, by unfold fpN; rw [if_pos full, if_neg last]; exact q1, StAt_ext (fun j j0 j1 => ?_) (StAt_mono le q2)⟩
            show s2 1 (j + 2777 * ((s2 1 1 + i) % 20 + 1)) = s 1 (j + 2777 * ((s 1 1 + (i + 1)) % 20 + 1))
            rw [s21, k2, ho _ (by omega), show ((s 1 1 + 1) % 20 + i) % 20 = (s 1 1 + (i + 1)) % 20 by omega]
            exact k5 j _ (by omega) (by omega) (by omega) j0 j1
        · rw [if_neg full] at i1 k2
          by_cases last : i = s 1 0
          · refine ⟨st, by unfold fpN; rw [if_neg full, if_pos last], StAt_ext (fun j j0 j1 => ?_) g1'⟩
            show s2 1 (j + 2777 * ((s2 1 1 + i) % 20 + 1)) = s 1 j
            rw [s21, k2, ho _ (by omega), last]
            exact k4 j j0 j1
          · obtain ⟨a, q1, q2⟩ := p3 i i0 (by omega)
            refine ⟨a, by unfold fpN; rw [if_neg full, if_neg last]; exact q1, StAt_ext (fun j j0 j1 => ?_) (StAt_mono le q2)⟩
            show s2 1 (j + 2777 * ((s2 1 1 + i) % 20 + 1)) = s 1 (j + 2777 * ((s 1 1 + i) % 20 + 1))
            rw [s21, k2, ho _ (by omega)]
            exact k5 j _ (by omega) (by omega) (by omega) j0 j1
      · unfold fpN
        split
        · split
          · exact Or.inr ⟨st, vs, rfl, sts⟩
          · exact SOm _ (p4 _ (by omega) (by omega))
        · split
          · exact Or.inr ⟨st, vs, rfl, sts⟩
          · exact SOm _ (p4 _ i0 i1)
    · rw [h2]
      obtain ⟨q1, q2, q3⟩ := q0
      exact ⟨q1, fun i i0 i1 => by obtain ⟨a, y1, y2⟩ := q2 i i0 i1; exact ⟨a, y1, StAt_mono le y2⟩, fun i i0 i1 => SOm _ (q3 i i0 i1)⟩
end
