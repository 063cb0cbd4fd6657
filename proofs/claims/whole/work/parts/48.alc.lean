/-! WHAT IS MADE AT THE END OF THE HEAP leaves the rest as it was -/
section
variable {h : zHp} {n a : Nat} {o : Nat × List Value}
theorem al_st {o2 : Nat × List Value} (q : a ≠ h.2.1) : zSet (zAl h n o) a o2 = zAl (zSet h a o2) n o := by
  refine Prod.ext (funext fun b => ?_) rfl
  show (if b = a then some o2 else if b = h.2.1 then some o else h.1 b) = (if b = h.2.1 then some o else if b = a then some o2 else h.1 b)
  by_cases c : b = a
  · rw [if_pos c, if_neg (by omega), if_pos c]
  · rw [if_neg c, if_neg c]
theorem al_gf {ty ci k : Nat} (q : a ≠ h.2.1) : zGfv ty ci k (zAl h n o) (.ref a) = zGfv ty ci k h (.ref a) := by simp only [zGfv, zRef, zFld, Option.bind_some, zl_n q]
theorem al_pf {ty ci k : Nat} {v : Value} (q : a ≠ h.2.1) : zPfv ty ci k (zAl h n o) (.ref a) v = (zPfv ty ci k h (.ref a) v).map (fun h' => zAl h' n o) := by
  simp only [zPfv, zRef, Option.bind_some, zPut, zl_n q]
  cases h.1 a with
  | none => rfl
  | some p =>
    simp only [Option.bind_some]
    split
    · rw [al_st q]; rfl
    · rfl
theorem al_tg {ci : Nat} {rest : List Value} (q : a ≠ h.2.1) : zTgo (zAl h n o) (.ref a :: rest) ci = zTgo h (.ref a :: rest) ci := by
  simp only [zTgo, zTag, zl_n q]
  rfl
theorem al_t0 {ci : Nat} {vs rest : List Value} : zTgo (zAl h n (ci, vs)) (.ref h.2.1 :: rest) ci = some () := g_tag zl_s
theorem al_ax {ty t : Nat} {i : Value} (q : a ≠ h.2.1) : zAxv ty t (zAl h n o) (.ref a) i = zAxv ty t h (.ref a) i := by simp only [zAxv, zRef, zArr, Option.bind_some, zl_n q]
theorem al_ln {t : Nat} (q : a ≠ h.2.1) : zLenv t (zAl h n o) (.ref a) = zLenv t h (.ref a) := by simp only [zLenv, zRef, zArr, Option.bind_some, zl_n q]
theorem al_l0 {t m : Nat} {f : Int → Value} : zLenv t (zAl h n (t, ar m f)) (.ref h.2.1) = some (vi (m : Int)) := g_len zl_s
theorem al_x0 {ty t m : Nat} {f : Int → Value} {x : Int} (h1 : 0 ≤ x) (h2 : x < m) (h3 : m ≤ 1000000) : zAxv ty t (zAl h n (t, ar m f)) (.ref h.2.1) (vi x) = zTv ty (f x) := g_ar zl_s h1 h2 h3
theorem al_s0 {ty t m : Nat} {c : Option Nat} {f : Int → Value} {x : Int} {v : Value} (h1 : 0 ≤ x) (h2 : x < m) (h3 : m ≤ 1000000) (hv : zTy ty v = true) (hc : zEl (zAl h n (t, ar m f)) c v = true) : zStv ty t c (zAl h n (t, ar m f)) (.ref h.2.1) (vi x) v = some (zAl h n (t, ar m (up f x v))) := by
  rw [g_set zl_s h1 h2 h3 hv hc, zl_z]
theorem al_el {ci : Nat} {vs : List Value} {m : Nat} (e : h.1 m = some (ci, vs)) (q : m ≠ h.2.1) : zEl (zAl h n o) (some ci) (.ref m) = true := by simp only [zEl, zl_n q, e, beq_self_eq_true]
theorem al_sw {ty t : Nat} {c : Option Nat} {i v : Value} (q : a ≠ h.2.1) (hc : zEl (zAl h n o) c v = zEl h c v) : zStv ty t c (zAl h n o) (.ref a) i v = (zStv ty t c h (.ref a) i v).map (fun h' => zAl h' n o) := by
  simp only [zStv, zRef, Option.bind_some, zStr, zArr, zl_n q, hc]
  cases zInt i with
  | none => rfl
  | some x =>
    cases h.1 a with
    | none => rfl
    | some p =>
      simp only [Option.bind_some]
      by_cases d : p.1 = t
      · simp only [d, if_true, Option.bind_some]
        split
        · rw [al_st q]; rfl
        · rfl
      · simp only [d, if_false]; rfl
end
section
variable {h : zHp} {n : Nat}
theorem n2_t : (2 * (n : Int)).toNat = 2 * n := by omega
theorem n_t : ((n : Int)).toNat = n := by omega
theorem e_trInit {rad pw sm : Int} {v0 v1 v2 v3 v4 v5 v6 v7 v8 v9 v10 : Value} (hn : n ≤ 40) : F_Tr_init [.ref h.2.1, vi (n : Int), vi rad, vi pw, vi sm] (zAl h 11 (9, [v0, v1, v2, v3, v4, v5, v6, v7, v8, v9, v10])) = some (none, zAl (zAl (zAl (zAl (zAl h 11 (9, [vi rad, vi pw, vi sm, vi (n : Int), .ref (h.2.1 + 1), vi 0, .ref (h.2.1 + 1 + 1), vi 0, .ref (h.2.1 + 1 + 1 + 1), vi 0, .ref (h.2.1 + 1 + 1 + 1 + 1)])) (2 * n) (71, ar (2 * n) fun _ => .null)) n (72, ar n fun _ => .null)) n (71, ar n fun _ => .null)) 0 (64, ar 0 fun _ => vi 0)) := by
  refine zMeq rfl ?_
  simp (disch := first | assumption | omega | exact zTy_0 | exact zTy_3 | exact zTy_3n | exact zTy_1 | exact zTy_B | exact zTy_b0 | exact zTy_4 | exact zEl_n | exact zEz4 | exact zEz9 | exact hz _ _ | exact hz2 _ _ | exact zI0 | exact zI1 | exact zI2 | exact zI3 | exact zI4 | exact zI5 | exact zI6 | exact zI7 | exact zI8 | exact zI9 | exact zI10 | (simp only [zl_21, zl_22, zs_2, ne_eq]; omega) | ((repeat (refine Eq.trans (us_r (by decide)) ?_)); assumption) | ((simp (decide := true) only [us_k, us_s]); omega)) only [↓rKi, ↓rKl, ↓rKn, ↓rKd, ↓rL, ↓r2, ↓r1, ↓rC2, ↓rC1, ↓rCn, ↓rNot, ↓rAnd, ↓rOr, ↓rCi, ↓rBx, ↓rIte, ↓rGf, ↓rLen, ↓rAx, ↓rNa, ↓rA0, ↓rA1, ↓rCs, ↓rCv, ↓rAn, ↓rNew, ↓rSeq, ↓rSkip, ↓rBrk, ↓rCnt, ↓rRetV, ↓rAsg, ↓rRet, ↓rIf, ↓rPf, ↓rPfo, ↓rAs, ↓rAso, ↓rDo, ↓rObj, ↓rBl, ↓rSw, ↓rCopy, ↓zSq_0, ↓zSq_r, ↓zSq_1, ↓zSq_2, ↓zBq_l, ↓zBq_r, ↓zWq_0, ↓zWq_1, ↓zWq_2, ↓zWq_r, ↓zLo_0, ↓zLo_1, ↓zLo_2, ↓zLo_r, ↓zLt_0, ↓rTr, ↓zFin_s, ↓zFin_n, wX_r, wO_s, wI_t, wI_f, zLk_0, zLk_s, zTv_vi, zTv_vb, zTv_vl, zTv_d, zTv_r, zTv_n, zTv_4, zTo_s, zCl_n, zCl_0, zCl_s, Int32.reduceToInt, Int64.reduceToInt, e_add, e_sub, e_mul, e_neg, e_ladd, e_lsub, e_lmul, e_lneg, q_0, q_1, q_2, q_3, q_4, q_5, q_b0, q_b1, p_0, p_1, p_2, p_3, p_4, p_5, p_b0, p_b1, e_lcmp, pl_0, pl_1, pl_2, pl_3, pl_4, pl_5, e_i2l, e_l2i, e_idiv, e_irem, e_ldiv, e_lrem, List.set_cons_zero, List.set_cons_succ, List.getD_cons_zero, List.getD_cons_succ, List.getD_nil, dT, dF, decide_true, decide_false, not_true_eq_false, not_false_eq_true, Bool.not_true, Bool.not_false, zLay_1, zLay_c1, zLay_c2, zLay_n, zWds_n, zWds_c, zCat_0, zCat_1, zCat_3, zCat_4, zLay_4, List.nil_append, List.cons_append, List.replicate_succ, List.replicate_zero, zTy_0, zTy_b0, zTy_1, zTy_3, zTy_3n, zTy_4, and_true, true_and, Option.bind_some, zNul_n, zNul_r, List.getElem?_cons_zero, List.getElem?_cons_succ, Int.add_zero, zTv_B, zTy_B, b_and, b_or, b_andn, b_not, b_shl, b_cmp, b_cmp0, b_cmp0l, b_eq0, b_eq1, zs_2, zl_21, zl_22, gf_s, gf_l, pf_s, pf_l, zl_z, zs_z, nA, and_self, Nat.le_refl, Option.some.injEq, eq_self, Nat.reduceAdd, Nat.reduceSub, S_Tr_init, al_pf, g_na, n2_t, n_t, Option.map_some]
  exact ⟨by omega, rfl⟩
theorem e_suInit {a : Nat} {H : zHp} : F_Su_init [.ref a] H = some (none, H) := by
  refine zMeq rfl ?_
  simp (disch := first | assumption | omega | exact zTy_0 | exact zTy_3 | exact zTy_3n | exact zTy_1 | exact zTy_B | exact zTy_b0 | exact zTy_4 | exact zEl_n | exact zEz4 | exact zEz9 | exact hz _ _ | exact hz2 _ _ | exact zI0 | exact zI1 | exact zI2 | exact zI3 | exact zI4 | exact zI5 | exact zI6 | exact zI7 | exact zI8 | exact zI9 | exact zI10 | (simp only [zl_21, zl_22, zs_2, ne_eq]; omega) | ((repeat (refine Eq.trans (us_r (by decide)) ?_)); assumption) | ((simp (decide := true) only [us_k, us_s]); omega)) only [↓rKi, ↓rKl, ↓rKn, ↓rKd, ↓rL, ↓r2, ↓r1, ↓rC2, ↓rC1, ↓rCn, ↓rNot, ↓rAnd, ↓rOr, ↓rCi, ↓rBx, ↓rIte, ↓rGf, ↓rLen, ↓rAx, ↓rNa, ↓rA0, ↓rA1, ↓rCs, ↓rCv, ↓rAn, ↓rNew, ↓rSeq, ↓rSkip, ↓rBrk, ↓rCnt, ↓rRetV, ↓rAsg, ↓rRet, ↓rIf, ↓rPf, ↓rPfo, ↓rAs, ↓rAso, ↓rDo, ↓rObj, ↓rBl, ↓rSw, ↓rCopy, ↓zSq_0, ↓zSq_r, ↓zSq_1, ↓zSq_2, ↓zBq_l, ↓zBq_r, ↓zWq_0, ↓zWq_1, ↓zWq_2, ↓zWq_r, ↓zLo_0, ↓zLo_1, ↓zLo_2, ↓zLo_r, ↓zLt_0, ↓rTr, ↓zFin_s, ↓zFin_n, wX_r, wO_s, wI_t, wI_f, zLk_0, zLk_s, zTv_vi, zTv_vb, zTv_vl, zTv_d, zTv_r, zTv_n, zTv_4, zTo_s, zCl_n, zCl_0, zCl_s, Int32.reduceToInt, Int64.reduceToInt, e_add, e_sub, e_mul, e_neg, e_ladd, e_lsub, e_lmul, e_lneg, q_0, q_1, q_2, q_3, q_4, q_5, q_b0, q_b1, p_0, p_1, p_2, p_3, p_4, p_5, p_b0, p_b1, e_lcmp, pl_0, pl_1, pl_2, pl_3, pl_4, pl_5, e_i2l, e_l2i, e_idiv, e_irem, e_ldiv, e_lrem, List.set_cons_zero, List.set_cons_succ, List.getD_cons_zero, List.getD_cons_succ, List.getD_nil, dT, dF, decide_true, decide_false, not_true_eq_false, not_false_eq_true, Bool.not_true, Bool.not_false, zLay_1, zLay_c1, zLay_c2, zLay_n, zWds_n, zWds_c, zCat_0, zCat_1, zCat_3, zCat_4, zLay_4, List.nil_append, List.cons_append, List.replicate_succ, List.replicate_zero, zTy_0, zTy_b0, zTy_1, zTy_3, zTy_3n, zTy_4, and_true, true_and, Option.bind_some, zNul_n, zNul_r, List.getElem?_cons_zero, List.getElem?_cons_succ, Int.add_zero, zTv_B, zTy_B, b_and, b_or, b_andn, b_not, b_shl, b_cmp, b_cmp0, b_cmp0l, b_eq0, b_eq1, zs_2, zl_21, zl_22, gf_s, gf_l, pf_s, pf_l, zl_z, zs_z, nA, and_self, Nat.le_refl, Option.some.injEq, eq_self, Nat.reduceAdd, Nat.reduceSub, S_Su_init]
/-- the block as it is made -/
def gi0 : Nat → Int := fun j => if j = 1 then -1 else if j = 2 then -1 else if j = 4 then 1 else 0
def ga0 : Nat → Int → Value := fun j _ => if j = 4 then vi 0 else .null
def gh0 (h : zHp) (n : Nat) : zHp := (h.1, h.2.1 + 8, h.2.2 + (23 + 5 * n))
theorem e_gaInit {tr : Nat} {rad pw sm : Int} {f : Int → Value} {v0 v1 v2 v3 v4 v5 v6 v7 v8 : Value} (htr : h.1 tr = some (67, ar n f)) (htl : tr < h.2.1) (hn : n ≤ 40) : F_Ga_init [.ref h.2.1, .ref tr, vi rad, vi pw, vi sm] (zAl h 9 (3, [v0, v1, v2, v3, v4, v5, v6, v7, v8])) = some (none, bg h.2.1 tr n rad pw sm gi0 ga0 (gh0 h n)) := by
  refine zMeq rfl ?_
  have eT := fun (H : zHp) (v0 v1 v2 v3 v4 v5 v6 v7 v8 v9 v10 : Value) => e_trInit (h := H) (n := n) (rad := rad) (pw := pw) (sm := sm) (v0 := v0) (v1 := v1) (v2 := v2) (v3 := v3) (v4 := v4) (v5 := v5) (v6 := v6) (v7 := v7) (v8 := v8) (v9 := v9) (v10 := v10) hn
  have hl : zLenv 67 h (.ref tr) = some (vi (n : Int)) := g_len htr
  have eT' := eT (zAl h 9 (3, [.ref tr, v1, v2, v3, v4, v5, v6, v7, v8]))
  rw [zl_21] at eT'
  simp (disch := first | assumption | omega | exact zTy_0 | exact zTy_3 | exact zTy_3n | exact zTy_1 | exact zTy_B | exact zTy_b0 | exact zTy_4 | exact zEl_n | exact zEz4 | exact zEz9 | exact hz _ _ | exact hz2 _ _ | exact zI0 | exact zI1 | exact zI2 | exact zI3 | exact zI4 | exact zI5 | exact zI6 | exact zI7 | exact zI8 | exact zI9 | exact zI10 | (simp only [zl_21, zl_22, zs_2, ne_eq]; omega) | ((repeat (refine Eq.trans (us_r (by decide)) ?_)); assumption) | ((simp (decide := true) only [us_k, us_s]); omega)) only [↓rKi, ↓rKl, ↓rKn, ↓rKd, ↓rL, ↓r2, ↓r1, ↓rC2, ↓rC1, ↓rCn, ↓rNot, ↓rAnd, ↓rOr, ↓rCi, ↓rBx, ↓rIte, ↓rGf, ↓rLen, ↓rAx, ↓rNa, ↓rA0, ↓rA1, ↓rCs, ↓rCv, ↓rAn, ↓rNew, ↓rSeq, ↓rSkip, ↓rBrk, ↓rCnt, ↓rRetV, ↓rAsg, ↓rRet, ↓rIf, ↓rPf, ↓rPfo, ↓rAs, ↓rAso, ↓rDo, ↓rObj, ↓rBl, ↓rSw, ↓rCopy, ↓zSq_0, ↓zSq_r, ↓zSq_1, ↓zSq_2, ↓zBq_l, ↓zBq_r, ↓zWq_0, ↓zWq_1, ↓zWq_2, ↓zWq_r, ↓zLo_0, ↓zLo_1, ↓zLo_2, ↓zLo_r, ↓zLt_0, ↓rTr, ↓zFin_s, ↓zFin_n, wX_r, wO_s, wI_t, wI_f, zLk_0, zLk_s, zTv_vi, zTv_vb, zTv_vl, zTv_d, zTv_r, zTv_n, zTv_4, zTo_s, zCl_n, zCl_0, zCl_s, Int32.reduceToInt, Int64.reduceToInt, e_add, e_sub, e_mul, e_neg, e_ladd, e_lsub, e_lmul, e_lneg, q_0, q_1, q_2, q_3, q_4, q_5, q_b0, q_b1, p_0, p_1, p_2, p_3, p_4, p_5, p_b0, p_b1, e_lcmp, pl_0, pl_1, pl_2, pl_3, pl_4, pl_5, e_i2l, e_l2i, e_idiv, e_irem, e_ldiv, e_lrem, List.set_cons_zero, List.set_cons_succ, List.getD_cons_zero, List.getD_cons_succ, List.getD_nil, dT, dF, decide_true, decide_false, not_true_eq_false, not_false_eq_true, Bool.not_true, Bool.not_false, zLay_1, zLay_c1, zLay_c2, zLay_n, zWds_n, zWds_c, zCat_0, zCat_1, zCat_3, zCat_4, zLay_4, List.nil_append, List.cons_append, List.replicate_succ, List.replicate_zero, zTy_0, zTy_b0, zTy_1, zTy_3, zTy_3n, zTy_4, and_true, true_and, Option.bind_some, zNul_n, zNul_r, List.getElem?_cons_zero, List.getElem?_cons_succ, Int.add_zero, zTv_B, zTy_B, b_and, b_or, b_andn, b_not, b_shl, b_cmp, b_cmp0, b_cmp0l, b_eq0, b_eq1, zs_2, zl_21, zl_22, gf_s, gf_l, pf_s, pf_l, zl_z, zs_z, nA, and_self, Nat.le_refl, Option.some.injEq, eq_self, Nat.reduceAdd, Nat.reduceSub, S_Ga_init, al_pf, al_ln, hl, eT', e_suInit, g_na, n2_t, n_t, Option.map_some]
  refine ⟨by omega, bg_ext ?_ ?_ ?_⟩
  · refine Prod.ext ?_ ?_
    · show h.2.1 + 1 + 1 + 1 + 1 + 1 + 1 + 1 + 1 = h.2.1 + 8
      omega
    · show h.2.2 + 9 + 11 + 2 * n + n + n + 0 + 3 + n = h.2.2 + (23 + 5 * n)
      omega
  · intro b hb
    rw [zl_n (by (try simp only [zl_21]); omega), zl_n (by (try simp only [zl_21]); omega), zl_n (by (try simp only [zl_21]); omega), zl_n (by (try simp only [zl_21]); omega), zl_n (by (try simp only [zl_21]); omega), zl_n (by (try simp only [zl_21]); omega), zl_n (by (try simp only [zl_21]); omega), zl_n (by (try simp only [zl_21]); omega)]
    rfl
  · intro k hk
    match k, hk with
    | 0, _ => rw [zl_n (by (try simp only [zl_21]); omega), zl_n (by (try simp only [zl_21]); omega), zl_n (by (try simp only [zl_21]); omega), zl_n (by (try simp only [zl_21]); omega), zl_n (by (try simp only [zl_21]); omega), zl_n (by (try simp only [zl_21]); omega), zl_n (by (try simp only [zl_21]); omega)]; exact zl_s
    | 1, _ => rw [zl_n (by (try simp only [zl_21]); omega), zl_n (by (try simp only [zl_21]); omega), zl_n (by (try simp only [zl_21]); omega), zl_n (by (try simp only [zl_21]); omega), zl_n (by (try simp only [zl_21]); omega), zl_n (by (try simp only [zl_21]); omega)]; exact zl_s
    | 2, _ => rw [zl_n (by (try simp only [zl_21]); omega), zl_n (by (try simp only [zl_21]); omega), zl_n (by (try simp only [zl_21]); omega), zl_n (by (try simp only [zl_21]); omega), zl_n (by (try simp only [zl_21]); omega)]; exact zl_s
    | 3, _ => rw [zl_n (by (try simp only [zl_21]); omega), zl_n (by (try simp only [zl_21]); omega), zl_n (by (try simp only [zl_21]); omega), zl_n (by (try simp only [zl_21]); omega)]; exact zl_s
    | 4, _ => rw [zl_n (by (try simp only [zl_21]); omega), zl_n (by (try simp only [zl_21]); omega), zl_n (by (try simp only [zl_21]); omega)]; exact zl_s
    | 5, _ => rw [zl_n (by (try simp only [zl_21]); omega), zl_n (by (try simp only [zl_21]); omega)]; exact zl_s
    | 6, _ => rw [zl_n (by (try simp only [zl_21]); omega)]; exact zl_s
    | 7, _ => exact zl_s
    | k + 8, hk => exact absurd hk (by omega)
end
