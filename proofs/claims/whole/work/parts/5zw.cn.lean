/-! cones -/
def mnF (X Y W : Int → Int) (S : BitVec 64) : Nat → Int × Int × Int
  | 0 => (0, 0, 0)
  | k + 1 => if bHas S k = true then (if (mnF X Y W S k).2.2 = 0 then (X k, Y k, W k) else (meanA (mnF X Y W S k).1 (mnF X Y W S k).2.2 (X k) (W k), meanR (mnF X Y W S k).2.1 (mnF X Y W S k).2.2 (Y k) (W k), (mnF X Y W S k).2.2 + W k)) else mnF X Y W S k
def cnF (X Y : Int → Int) (a rd q : Int) : Nat → BitVec 64
  | 0 => 0#64
  | k + 1 => if sqI (X k) (Y k) a rd ≤ q then cnF X Y a rd q k ||| 1#64 <<< k else cnF X Y a rd q k
def rgX (n : Nat) (X Y W : Int → Int) : Prop := n ≤ 40 ∧ ∀ i : Int, 0 ≤ i → i < n → (-200 ≤ X i ∧ X i ≤ 200) ∧ (0 ≤ Y i ∧ Y i < 360) ∧ 1 ≤ W i ∧ W i ≤ 9999
section
variable {X Y W : Int → Int} {S : BitVec 64} {n : Nat}
theorem mnF_s {i : Int} (i0 : 0 ≤ i) : mnF X Y W S (i + 1).toNat = if bHas S i = true then (if (mnF X Y W S i.toNat).2.2 = 0 then (X i, Y i, W i) else (meanA (mnF X Y W S i.toNat).1 (mnF X Y W S i.toNat).2.2 (X i) (W i), meanR (mnF X Y W S i.toNat).2.1 (mnF X Y W S i.toNat).2.2 (Y i) (W i), (mnF X Y W S i.toNat).2.2 + W i)) else mnF X Y W S i.toNat := by
  rw [show (i + 1).toNat = i.toNat + 1 by omega]
  show (if bHas S ((i.toNat : Nat) : Int) = true then (if (mnF X Y W S i.toNat).2.2 = 0 then (X ((i.toNat : Nat) : Int), Y ((i.toNat : Nat) : Int), W ((i.toNat : Nat) : Int)) else (meanA (mnF X Y W S i.toNat).1 (mnF X Y W S i.toNat).2.2 (X ((i.toNat : Nat) : Int)) (W ((i.toNat : Nat) : Int)), meanR (mnF X Y W S i.toNat).2.1 (mnF X Y W S i.toNat).2.2 (Y ((i.toNat : Nat) : Int)) (W ((i.toNat : Nat) : Int)), (mnF X Y W S i.toNat).2.2 + W ((i.toNat : Nat) : Int))) else mnF X Y W S i.toNat) = _
  rw [show ((i.toNat : Nat) : Int) = i by omega]
theorem mnF_b (hx' : rgX n X Y W) : ∀ k : Nat, k ≤ n → (0 ≤ (mnF X Y W S k).2.2 ∧ (mnF X Y W S k).2.2 ≤ 9999 * k) ∧ (-200 ≤ (mnF X Y W S k).1 ∧ (mnF X Y W S k).1 ≤ 200) ∧ 0 ≤ (mnF X Y W S k).2.1 ∧ (mnF X Y W S k).2.1 < 360
  | 0, _ => by
    show ((0 : Int) ≤ 0 ∧ (0 : Int) ≤ 9999 * 0) ∧ (-200 ≤ (0 : Int) ∧ (0 : Int) ≤ 200) ∧ (0 : Int) ≤ 0 ∧ (0 : Int) < 360
    decide
  | k + 1, hk => by
    have ih := mnF_b hx' k (by omega)
    have y := hx'.2 k (by omega) (by omega)
    unfold mnF
    split
    · split
      · exact ⟨⟨by show 0 ≤ W k; omega, by show W k ≤ 9999 * ((k + 1 : Nat) : Int); omega⟩, y.1, y.2.1⟩
      · have a := mean_b (a := (mnF X Y W S k).1) (w := (mnF X Y W S k).2.2) (b := X k) (v := W k) ih.2.1.1 ih.2.1.2 y.1.1 y.1.2 (by omega) (by omega)
        exact ⟨⟨by show 0 ≤ (mnF X Y W S k).2.2 + W k; omega, by show (mnF X Y W S k).2.2 + W k ≤ 9999 * ((k + 1 : Nat) : Int); omega⟩, a, meanR_b⟩
    · refine ⟨⟨ih.1.1, by omega⟩, ih.2⟩
theorem mnF_w (hx' : rgX n X Y W) {e : Int} (e0 : 0 ≤ e) (he : bHas S e = true) : ∀ k : Nat, k ≤ n → e < k → (mnF X Y W S k).2.2 ≠ 0
  | 0, _, h => by omega
  | k + 1, hk, h => by
    have b := (mnF_b (S := S) hx' k (by omega)).1
    have y := hx'.2 k (by omega) (by omega)
    unfold mnF
    by_cases z : e = k
    · subst z
      rw [if_pos he]
      split
      · show W k ≠ 0
        omega
      · show (mnF X Y W S k).2.2 + W k ≠ 0
        omega
    · have ih := mnF_w hx' e0 he k (by omega) (by omega)
      by_cases c : bHas S k = true
      · rw [if_pos c, if_neg ih]
        show (mnF X Y W S k).2.2 + W k ≠ 0
        omega
      · rw [if_neg c]
        exact ih
theorem mnF_n (hx' : rgX n X Y W) (hS : S ≠ 0#64) (hb : ∀ i : Int, n ≤ i → bHas S i = false) : (mnF X Y W S n).2.2 ≠ 0 := by
  obtain ⟨i, ⟨i0, i1⟩, hi, -⟩ := b_low hS
  refine mnF_w hx' i0 hi n (Nat.le_refl _) ?_
  by_cases z : i < n
  · exact z
  · rw [hb i (by omega)] at hi
    exact absurd hi (by decide)
theorem cnF_s {a rd q i : Int} (i0 : 0 ≤ i) : cnF X Y a rd q (i + 1).toNat = if sqI (X i) (Y i) a rd ≤ q then cnF X Y a rd q i.toNat ||| 1#64 <<< i.toNat else cnF X Y a rd q i.toNat := by
  rw [show (i + 1).toNat = i.toNat + 1 by omega]
  show (if sqI (X ((i.toNat : Nat) : Int)) (Y ((i.toNat : Nat) : Int)) a rd ≤ q then _ else _) = _
  rw [show ((i.toNat : Nat) : Int) = i by omega]
theorem cnF_b {a rd q : Int} : ∀ k : Nat, k ≤ 64 → ∀ i : Int, k ≤ i → bHas (cnF X Y a rd q k) i = false
  | 0, _, i, _ => bHas_0
  | k + 1, hk, i, hi => by
    have ih := cnF_b (a := a) (rd := rd) (q := q) k (by omega) i (by omega)
    unfold cnF
    split
    · have e := bHas_1 (k := (k : Int)) (i := i) (by omega) (by omega)
      rw [show ((k : Int)).toNat = k by omega] at e
      rw [bHas_or, ih, e, Bool.false_or]
      exact decide_eq_false (by omega)
    · exact ih
end
section
variable {h H : zHp} {a tr n : Nat} {X Y W : Int → Int} {S : BitVec 64} {fb : Int → Value} {ba : Int → Nat}
theorem e_suBH {b : Nat} {v0 v1 v2 : Value} {k x y w : Int} (ha : h.1 a = some (7, [v0, v1, v2])) (hb : h.1 b = some (0, [vi k, vi x, vi y, vi w])) (ne : b ≠ a) : F_Su_begin [.ref a, .ref b] h = some (none, zSet h a (7, [vi x, vi y, vi w])) := by
  refine zMeq rfl ?_
  simp (disch := first | assumption | omega | exact zTy_0 | exact zTy_3 | exact zTy_3n | exact zTy_1 | exact zTy_B | exact zTy_b0 | exact zTy_4 | exact zEl_n | exact zEz4 | exact zEz9 | exact hz _ _ | exact hz2 _ _ | exact zI0 | exact zI1 | exact zI2 | exact zI3 | exact zI4 | exact zI5 | exact zI6 | exact zI7 | exact zI8 | exact zI9 | exact zI10 | (simp only [zl_21, zl_22, zs_2, ne_eq]; omega) | ((repeat (refine Eq.trans (us_r (by decide)) ?_)); assumption) | ((simp (decide := true) only [us_k, us_s]); omega)) only [↓rKi, ↓rKl, ↓rKn, ↓rKd, ↓rL, ↓r2, ↓r1, ↓rC2, ↓rC1, ↓rCn, ↓rNot, ↓rAnd, ↓rOr, ↓rCi, ↓rBx, ↓rIte, ↓rGf, ↓rLen, ↓rAx, ↓rNa, ↓rA0, ↓rA1, ↓rCs, ↓rCv, ↓rAn, ↓rNew, ↓rSeq, ↓rSkip, ↓rBrk, ↓rCnt, ↓rRetV, ↓rAsg, ↓rRet, ↓rIf, ↓rPf, ↓rPfo, ↓rAs, ↓rAso, ↓rDo, ↓rObj, ↓rBl, ↓rSw, ↓rCopy, ↓zSq_0, ↓zSq_r, ↓zSq_1, ↓zSq_2, ↓zBq_l, ↓zBq_r, ↓zWq_0, ↓zWq_1, ↓zWq_2, ↓zWq_r, ↓zLo_0, ↓zLo_1, ↓zLo_2, ↓zLo_r, ↓zLt_0, ↓rTr, ↓zFin_s, ↓zFin_n, wX_r, wO_s, wI_t, wI_f, zLk_0, zLk_s, zTv_vi, zTv_vb, zTv_vl, zTv_d, zTv_r, zTv_n, zTv_4, zTo_s, zCl_n, zCl_0, zCl_s, Int32.reduceToInt, Int64.reduceToInt, e_add, e_sub, e_mul, e_neg, e_ladd, e_lsub, e_lmul, e_lneg, q_0, q_1, q_2, q_3, q_4, q_5, q_b0, q_b1, p_0, p_1, p_2, p_3, p_4, p_5, p_b0, p_b1, e_lcmp, pl_0, pl_1, pl_2, pl_3, pl_4, pl_5, e_i2l, e_l2i, e_idiv, e_irem, e_ldiv, e_lrem, List.set_cons_zero, List.set_cons_succ, List.getD_cons_zero, List.getD_cons_succ, List.getD_nil, dT, dF, decide_true, decide_false, not_true_eq_false, not_false_eq_true, Bool.not_true, Bool.not_false, zLay_1, zLay_c1, zLay_c2, zLay_n, zWds_n, zWds_c, zCat_0, zCat_1, zCat_3, zCat_4, zLay_4, List.nil_append, List.cons_append, List.replicate_succ, List.replicate_zero, zTy_0, zTy_b0, zTy_1, zTy_3, zTy_3n, zTy_4, and_true, true_and, Option.bind_some, zNul_n, zNul_r, List.getElem?_cons_zero, List.getElem?_cons_succ, Int.add_zero, zTv_B, zTy_B, b_and, b_or, b_andn, b_not, b_shl, b_cmp, b_cmp0, b_cmp0l, b_eq0, b_eq1, zs_2, zl_21, zl_22, gf_s, gf_l, pf_s, pf_l, zl_z, zs_z, nA, and_self, Nat.le_refl, Option.some.injEq, eq_self, Nat.reduceAdd, Nat.reduceSub, S_Su_begin, g_fld hb, g_pt ha, gf_n ne]
theorem e_suAH {b : Nat} {k x y w p q u : Int} (ha : h.1 a = some (7, [vi p, vi q, vi u])) (hb : h.1 b = some (0, [vi k, vi x, vi y, vi w])) (ne : b ≠ a) (x0 : -200 ≤ x) (x1 : x ≤ 200) (y0 : 0 ≤ y) (y1 : y < 360) (w0 : 1 ≤ w) (w1 : w ≤ 400000) (p0 : -200 ≤ p) (p1' : p ≤ 200) (q0 : 0 ≤ q) (q1 : q < 360) (u0 : 1 ≤ u) (u1 : u ≤ 400000) : F_Su_add [.ref a, .ref b] h = some (none, zSet h a (7, [vi (meanA p u x w), vi (meanR q u y w), vi (u + w)])) := by
  refine zMeq rfl ?_
  have h1 := mul_rng (a := u) (b := p) (A := 400000) (B := 200) (by omega) (by omega) (by omega) (by omega)
  have h2 := mul_rng (a := w) (b := x) (A := 400000) (B := 200) (by omega) (by omega) (by omega) (by omega)
  have h3 := way_b (a := q) (b := y) (v := w) (w := u) (by omega) (by omega) w1
  have h4 := meanR_w (a := q) (b := y) (v := w) (w := u) (by omega) (by omega) (by omega) (by omega)
  simp (disch := first | assumption | omega | exact zTy_0 | exact zTy_3 | exact zTy_3n | exact zTy_1 | exact zTy_B | exact zTy_b0 | exact zTy_4 | exact zEl_n | exact zEz4 | exact zEz9 | exact hz _ _ | exact hz2 _ _ | exact zI0 | exact zI1 | exact zI2 | exact zI3 | exact zI4 | exact zI5 | exact zI6 | exact zI7 | exact zI8 | exact zI9 | exact zI10 | (simp only [zl_21, zl_22, zs_2, ne_eq]; omega) | ((repeat (refine Eq.trans (us_r (by decide)) ?_)); assumption) | ((simp (decide := true) only [us_k, us_s]); omega)) only [↓rKi, ↓rKl, ↓rKn, ↓rKd, ↓rL, ↓r2, ↓r1, ↓rC2, ↓rC1, ↓rCn, ↓rNot, ↓rAnd, ↓rOr, ↓rCi, ↓rBx, ↓rIte, ↓rGf, ↓rLen, ↓rAx, ↓rNa, ↓rA0, ↓rA1, ↓rCs, ↓rCv, ↓rAn, ↓rNew, ↓rSeq, ↓rSkip, ↓rBrk, ↓rCnt, ↓rRetV, ↓rAsg, ↓rRet, ↓rIf, ↓rPf, ↓rPfo, ↓rAs, ↓rAso, ↓rDo, ↓rObj, ↓rBl, ↓rSw, ↓rCopy, ↓zSq_0, ↓zSq_r, ↓zSq_1, ↓zSq_2, ↓zBq_l, ↓zBq_r, ↓zWq_0, ↓zWq_1, ↓zWq_2, ↓zWq_r, ↓zLo_0, ↓zLo_1, ↓zLo_2, ↓zLo_r, ↓zLt_0, ↓rTr, ↓zFin_s, ↓zFin_n, wX_r, wO_s, wI_t, wI_f, zLk_0, zLk_s, zTv_vi, zTv_vb, zTv_vl, zTv_d, zTv_r, zTv_n, zTv_4, zTo_s, zCl_n, zCl_0, zCl_s, Int32.reduceToInt, Int64.reduceToInt, e_add, e_sub, e_mul, e_neg, e_ladd, e_lsub, e_lmul, e_lneg, q_0, q_1, q_2, q_3, q_4, q_5, q_b0, q_b1, p_0, p_1, p_2, p_3, p_4, p_5, p_b0, p_b1, e_lcmp, pl_0, pl_1, pl_2, pl_3, pl_4, pl_5, e_i2l, e_l2i, e_idiv, e_irem, e_ldiv, e_lrem, List.set_cons_zero, List.set_cons_succ, List.getD_cons_zero, List.getD_cons_succ, List.getD_nil, dT, dF, decide_true, decide_false, not_true_eq_false, not_false_eq_true, Bool.not_true, Bool.not_false, zLay_1, zLay_c1, zLay_c2, zLay_n, zWds_n, zWds_c, zCat_0, zCat_1, zCat_3, zCat_4, zLay_4, List.nil_append, List.cons_append, List.replicate_succ, List.replicate_zero, zTy_0, zTy_b0, zTy_1, zTy_3, zTy_3n, zTy_4, and_true, true_and, Option.bind_some, zNul_n, zNul_r, List.getElem?_cons_zero, List.getElem?_cons_succ, Int.add_zero, zTv_B, zTy_B, b_and, b_or, b_andn, b_not, b_shl, b_cmp, b_cmp0, b_cmp0l, b_eq0, b_eq1, zs_2, zl_21, zl_22, gf_s, gf_l, pf_s, pf_l, zl_z, zs_z, nA, and_self, Nat.le_refl, Option.some.injEq, eq_self, Nat.reduceAdd, Nat.reduceSub, S_Su_add, g_fld ha, g_fld hb, g_pt ha, gf_n ne, e_downward, e_wayFromTo, e_floorMod, h4]
  rfl
def mnH (h : zHp) (a : Nat) (p : Int × Int × Int) : zHp := if p.2.2 = 0 then h else zSet h a (7, [vi p.1, vi p.2.1, vi p.2.2])
def CnB (h : zHp) (tr n : Nat) (fb : Int → Value) (ba : Int → Nat) (X Y W : Int → Int) : Prop := h.1 tr = some (67, ar n fb) ∧ rgX n X Y W ∧ ∀ i : Int, 0 ≤ i → i < n → fb i = .ref (ba i) ∧ h.1 (ba i) = some (0, [vi i, vi (X i), vi (Y i), vi (W i)])
theorem e_addAll {v0 v1 v2 : Value} (ha : h.1 a = some (7, [v0, v1, v2])) (cb : CnB h tr n fb ba X Y W) (n1 : tr ≠ a) (n2 : ∀ i : Int, 0 ≤ i → i < n → ba i ≠ a) : F_Su_addAll [.ref a, .ref tr, vB S] h = some (none, mnH h a (mnF X Y W S n)) := by
  obtain ⟨ht, rx, hb⟩ := cb
  have n40 := rx.1
  have mm : ∀ k : Nat, (mnH h a (mnF X Y W S k)).1 tr = some (67, ar n fb) ∧ (∀ i : Int, 0 ≤ i → i < n → (mnH h a (mnF X Y W S k)).1 (ba i) = some (0, [vi i, vi (X i), vi (Y i), vi (W i)])) ∧ (mnH h a (mnF X Y W S k)).2 = h.2 := fun k => by
    unfold mnH
    split
    · exact ⟨ht, fun i i0 i1 => (hb i i0 i1).2, rfl⟩
    · exact ⟨(zs_n n1).trans ht, fun i i0 i1 => (zs_n (n2 i i0 i1)).trans (hb i i0 i1).2, rfl⟩
  refine zMeq rfl ?_
  simp (disch := first | assumption | omega | exact zTy_0 | exact zTy_3 | exact zTy_3n | exact zTy_1 | exact zTy_B | exact zTy_b0 | exact zTy_4 | exact zEl_n | exact zEz4 | exact zEz9 | exact hz _ _ | exact hz2 _ _ | exact zI0 | exact zI1 | exact zI2 | exact zI3 | exact zI4 | exact zI5 | exact zI6 | exact zI7 | exact zI8 | exact zI9 | exact zI10 | (simp only [zl_21, zl_22, zs_2, ne_eq]; omega) | ((repeat (refine Eq.trans (us_r (by decide)) ?_)); assumption) | ((simp (decide := true) only [us_k, us_s]); omega)) only [↓rKi, ↓rKl, ↓rKn, ↓rKd, ↓rL, ↓r2, ↓r1, ↓rC2, ↓rC1, ↓rCn, ↓rNot, ↓rAnd, ↓rOr, ↓rCi, ↓rBx, ↓rIte, ↓rGf, ↓rLen, ↓rAx, ↓rNa, ↓rA0, ↓rA1, ↓rCs, ↓rCv, ↓rAn, ↓rNew, ↓rSeq, ↓rSkip, ↓rBrk, ↓rCnt, ↓rRetV, ↓rAsg, ↓rRet, ↓rIf, ↓rPf, ↓rPfo, ↓rAs, ↓rAso, ↓rDo, ↓rObj, ↓rBl, ↓rSw, ↓rCopy, ↓zSq_0, ↓zSq_r, ↓zSq_1, ↓zSq_2, ↓zBq_l, ↓zBq_r, ↓zWq_0, ↓zWq_1, ↓zWq_2, ↓zWq_r, ↓zLo_0, ↓zLo_1, ↓zLo_2, ↓zLo_r, ↓zLt_0, ↓rTr, ↓zFin_s, ↓zFin_n, wX_r, wO_s, wI_t, wI_f, zLk_0, zLk_s, zTv_vi, zTv_vb, zTv_vl, zTv_d, zTv_r, zTv_n, zTv_4, zTo_s, zCl_n, zCl_0, zCl_s, Int32.reduceToInt, Int64.reduceToInt, e_add, e_sub, e_mul, e_neg, e_ladd, e_lsub, e_lmul, e_lneg, q_0, q_1, q_2, q_3, q_4, q_5, q_b0, q_b1, p_0, p_1, p_2, p_3, p_4, p_5, p_b0, p_b1, e_lcmp, pl_0, pl_1, pl_2, pl_3, pl_4, pl_5, e_i2l, e_l2i, e_idiv, e_irem, e_ldiv, e_lrem, List.set_cons_zero, List.set_cons_succ, List.getD_cons_zero, List.getD_cons_succ, List.getD_nil, dT, dF, decide_true, decide_false, not_true_eq_false, not_false_eq_true, Bool.not_true, Bool.not_false, zLay_1, zLay_c1, zLay_c2, zLay_n, zWds_n, zWds_c, zCat_0, zCat_1, zCat_3, zCat_4, zLay_4, List.nil_append, List.cons_append, List.replicate_succ, List.replicate_zero, zTy_0, zTy_b0, zTy_1, zTy_3, zTy_3n, zTy_4, and_true, true_and, Option.bind_some, zNul_n, zNul_r, List.getElem?_cons_zero, List.getElem?_cons_succ, Int.add_zero, zTv_B, zTy_B, b_and, b_or, b_andn, b_not, b_shl, b_cmp, b_cmp0, b_cmp0l, b_eq0, b_eq1, zs_2, zl_21, zl_22, gf_s, gf_l, pf_s, pf_l, zl_z, zs_z, nA, and_self, Nat.le_refl, Option.some.injEq, eq_self, Nat.reduceAdd, Nat.reduceSub, S_Su_addAll, L_Su_addAll_0]
  refine wForI (fun i env h' => h' = mnH h a (mnF X Y W S i.toNat) ∧ env = [.ref a, .ref tr, vB S, .null, vi (if (mnF X Y W S i.toNat).2.2 = 0 then 0 else 1), vi i]) 0 n (by omega) (by omega) ⟨rfl, rfl⟩ ?_ ?_
  · intro i env h' i0 i1 ⟨hh, he⟩
    subst hh
    subst he
    obtain ⟨m1, m2, m3⟩ := mm i.toNat
    have m2i := m2 i i0 i1
    have fbi := (hb i i0 i1).1
    have es := mnF_s (X := X) (Y := Y) (W := W) (S := S) i0
    have bb := mnF_b (S := S) rx i.toNat (by omega)
    have rxi := rx.2 i i0 i1
    have r40 := rx.1
    have nb := n2 i i0 i1
    have hsI := e_isInS (h := mnH h a (mnF X Y W S i.toNat)) (a := S) i0 (show i < 64 by omega)
    by_cases c : bHas S i = true
    · rw [if_pos c] at es
      rw [c] at hsI
      by_cases z : (mnF X Y W S i.toNat).2.2 = 0
      · rw [if_pos z] at es
        rw [if_pos z]
        have eh : mnH h a (mnF X Y W S i.toNat) = h := if_pos z
        rw [eh] at m1 m2i m3 hsI ⊢
        have sb := e_suBH ha m2i nb
        have tga := fun rest => g_tag (rest := rest) ha
        have en : mnH h a (mnF X Y W S (i + 1).toNat) = zSet h a (7, [vi (X i), vi (Y i), vi (W i)]) := by
          rw [es]
          exact if_neg (by show ¬ W i = 0; omega)
        have ew : (mnF X Y W S (i + 1).toNat).2.2 = W i := by rw [es]
        simp (disch := first | assumption | omega | exact zTy_0 | exact zTy_3 | exact zTy_3n | exact zTy_1 | exact zTy_B | exact zTy_b0 | exact zTy_4 | exact zEl_n | exact zEz4 | exact zEz9 | exact hz _ _ | exact hz2 _ _ | exact zI0 | exact zI1 | exact zI2 | exact zI3 | exact zI4 | exact zI5 | exact zI6 | exact zI7 | exact zI8 | exact zI9 | exact zI10 | (simp only [zl_21, zl_22, zs_2, ne_eq]; omega) | ((repeat (refine Eq.trans (us_r (by decide)) ?_)); assumption) | ((simp (decide := true) only [us_k, us_s]); omega)) only [↓rKi, ↓rKl, ↓rKn, ↓rKd, ↓rL, ↓r2, ↓r1, ↓rC2, ↓rC1, ↓rCn, ↓rNot, ↓rAnd, ↓rOr, ↓rCi, ↓rBx, ↓rIte, ↓rGf, ↓rLen, ↓rAx, ↓rNa, ↓rA0, ↓rA1, ↓rCs, ↓rCv, ↓rAn, ↓rNew, ↓rSeq, ↓rSkip, ↓rBrk, ↓rCnt, ↓rRetV, ↓rAsg, ↓rRet, ↓rIf, ↓rPf, ↓rPfo, ↓rAs, ↓rAso, ↓rDo, ↓rObj, ↓rBl, ↓rSw, ↓rCopy, ↓zSq_0, ↓zSq_r, ↓zSq_1, ↓zSq_2, ↓zBq_l, ↓zBq_r, ↓zWq_0, ↓zWq_1, ↓zWq_2, ↓zWq_r, ↓zLo_0, ↓zLo_1, ↓zLo_2, ↓zLo_r, ↓zLt_0, ↓rTr, ↓zFin_s, ↓zFin_n, wX_r, wO_s, wI_t, wI_f, zLk_0, zLk_s, zTv_vi, zTv_vb, zTv_vl, zTv_d, zTv_r, zTv_n, zTv_4, zTo_s, zCl_n, zCl_0, zCl_s, Int32.reduceToInt, Int64.reduceToInt, e_add, e_sub, e_mul, e_neg, e_ladd, e_lsub, e_lmul, e_lneg, q_0, q_1, q_2, q_3, q_4, q_5, q_b0, q_b1, p_0, p_1, p_2, p_3, p_4, p_5, p_b0, p_b1, e_lcmp, pl_0, pl_1, pl_2, pl_3, pl_4, pl_5, e_i2l, e_l2i, e_idiv, e_irem, e_ldiv, e_lrem, List.set_cons_zero, List.set_cons_succ, List.getD_cons_zero, List.getD_cons_succ, List.getD_nil, dT, dF, decide_true, decide_false, not_true_eq_false, not_false_eq_true, Bool.not_true, Bool.not_false, zLay_1, zLay_c1, zLay_c2, zLay_n, zWds_n, zWds_c, zCat_0, zCat_1, zCat_3, zCat_4, zLay_4, List.nil_append, List.cons_append, List.replicate_succ, List.replicate_zero, zTy_0, zTy_b0, zTy_1, zTy_3, zTy_3n, zTy_4, and_true, true_and, Option.bind_some, zNul_n, zNul_r, List.getElem?_cons_zero, List.getElem?_cons_succ, Int.add_zero, zTv_B, zTy_B, b_and, b_or, b_andn, b_not, b_shl, b_cmp, b_cmp0, b_cmp0l, b_eq0, b_eq1, zs_2, zl_21, zl_22, gf_s, gf_l, pf_s, pf_l, zl_z, zs_z, nA, and_self, Nat.le_refl, Option.some.injEq, eq_self, Nat.reduceAdd, Nat.reduceSub, C_Su_addAll_0, B_Su_addAll_0, T_Su_addAll_0, g_len m1, hsI, g_ar m1, fbi, tga, sb]
        rw [en, ew, if_neg (by omega)]
        exact ⟨rfl, rfl⟩
      · rw [if_neg z] at es
        rw [if_neg z]
        have eh : mnH h a (mnF X Y W S i.toNat) = zSet h a (7, [vi (mnF X Y W S i.toNat).1, vi (mnF X Y W S i.toNat).2.1, vi (mnF X Y W S i.toNat).2.2]) := if_neg z
        rw [eh] at m1 m2i m3 hsI ⊢
        generalize mnF X Y W S i.toNat = p at *
        have hz : (zSet h a (7, [vi p.1, vi p.2.1, vi p.2.2])).1 a = some (7, [vi p.1, vi p.2.1, vi p.2.2]) := zs_s
        have sa := e_suAH hz m2i nb rxi.1.1 rxi.1.2 rxi.2.1.1 rxi.2.1.2 rxi.2.2.1 (by omega) bb.2.1.1 bb.2.1.2 bb.2.2.1 bb.2.2.2 (by omega) (by omega)
        rw [zs_z] at sa
        have tga := fun rest => g_tag (rest := rest) hz
        have en : mnH h a (mnF X Y W S (i + 1).toNat) = zSet h a (7, [vi (meanA p.1 p.2.2 (X i) (W i)), vi (meanR p.2.1 p.2.2 (Y i) (W i)), vi (p.2.2 + W i)]) := by
          rw [es]
          exact if_neg (by show ¬ p.2.2 + W i = 0; omega)
        have ew : (mnF X Y W S (i + 1).toNat).2.2 = p.2.2 + W i := by rw [es]
        simp (disch := first | assumption | omega | exact zTy_0 | exact zTy_3 | exact zTy_3n | exact zTy_1 | exact zTy_B | exact zTy_b0 | exact zTy_4 | exact zEl_n | exact zEz4 | exact zEz9 | exact hz _ _ | exact hz2 _ _ | exact zI0 | exact zI1 | exact zI2 | exact zI3 | exact zI4 | exact zI5 | exact zI6 | exact zI7 | exact zI8 | exact zI9 | exact zI10 | (simp only [zl_21, zl_22, zs_2, ne_eq]; omega) | ((repeat (refine Eq.trans (us_r (by decide)) ?_)); assumption) | ((simp (decide := true) only [us_k, us_s]); omega)) only [↓rKi, ↓rKl, ↓rKn, ↓rKd, ↓rL, ↓r2, ↓r1, ↓rC2, ↓rC1, ↓rCn, ↓rNot, ↓rAnd, ↓rOr, ↓rCi, ↓rBx, ↓rIte, ↓rGf, ↓rLen, ↓rAx, ↓rNa, ↓rA0, ↓rA1, ↓rCs, ↓rCv, ↓rAn, ↓rNew, ↓rSeq, ↓rSkip, ↓rBrk, ↓rCnt, ↓rRetV, ↓rAsg, ↓rRet, ↓rIf, ↓rPf, ↓rPfo, ↓rAs, ↓rAso, ↓rDo, ↓rObj, ↓rBl, ↓rSw, ↓rCopy, ↓zSq_0, ↓zSq_r, ↓zSq_1, ↓zSq_2, ↓zBq_l, ↓zBq_r, ↓zWq_0, ↓zWq_1, ↓zWq_2, ↓zWq_r, ↓zLo_0, ↓zLo_1, ↓zLo_2, ↓zLo_r, ↓zLt_0, ↓rTr, ↓zFin_s, ↓zFin_n, wX_r, wO_s, wI_t, wI_f, zLk_0, zLk_s, zTv_vi, zTv_vb, zTv_vl, zTv_d, zTv_r, zTv_n, zTv_4, zTo_s, zCl_n, zCl_0, zCl_s, Int32.reduceToInt, Int64.reduceToInt, e_add, e_sub, e_mul, e_neg, e_ladd, e_lsub, e_lmul, e_lneg, q_0, q_1, q_2, q_3, q_4, q_5, q_b0, q_b1, p_0, p_1, p_2, p_3, p_4, p_5, p_b0, p_b1, e_lcmp, pl_0, pl_1, pl_2, pl_3, pl_4, pl_5, e_i2l, e_l2i, e_idiv, e_irem, e_ldiv, e_lrem, List.set_cons_zero, List.set_cons_succ, List.getD_cons_zero, List.getD_cons_succ, List.getD_nil, dT, dF, decide_true, decide_false, not_true_eq_false, not_false_eq_true, Bool.not_true, Bool.not_false, zLay_1, zLay_c1, zLay_c2, zLay_n, zWds_n, zWds_c, zCat_0, zCat_1, zCat_3, zCat_4, zLay_4, List.nil_append, List.cons_append, List.replicate_succ, List.replicate_zero, zTy_0, zTy_b0, zTy_1, zTy_3, zTy_3n, zTy_4, and_true, true_and, Option.bind_some, zNul_n, zNul_r, List.getElem?_cons_zero, List.getElem?_cons_succ, Int.add_zero, zTv_B, zTy_B, b_and, b_or, b_andn, b_not, b_shl, b_cmp, b_cmp0, b_cmp0l, b_eq0, b_eq1, zs_2, zl_21, zl_22, gf_s, gf_l, pf_s, pf_l, zl_z, zs_z, nA, and_self, Nat.le_refl, Option.some.injEq, eq_self, Nat.reduceAdd, Nat.reduceSub, C_Su_addAll_0, B_Su_addAll_0, T_Su_addAll_0, g_len m1, hsI, g_ar m1, fbi, tga, sa]
        rw [en, ew, if_neg (by omega)]
        exact ⟨rfl, rfl⟩
    · rw [if_neg c] at es
      have c' : bHas S i = false := by cases z : bHas S i with
        | false => rfl
        | true => exact absurd z c
      rw [c'] at hsI
      rw [es]
      simp (disch := first | assumption | omega | exact zTy_0 | exact zTy_3 | exact zTy_3n | exact zTy_1 | exact zTy_B | exact zTy_b0 | exact zTy_4 | exact zEl_n | exact zEz4 | exact zEz9 | exact hz _ _ | exact hz2 _ _ | exact zI0 | exact zI1 | exact zI2 | exact zI3 | exact zI4 | exact zI5 | exact zI6 | exact zI7 | exact zI8 | exact zI9 | exact zI10 | (simp only [zl_21, zl_22, zs_2, ne_eq]; omega) | ((repeat (refine Eq.trans (us_r (by decide)) ?_)); assumption) | ((simp (decide := true) only [us_k, us_s]); omega)) only [↓rKi, ↓rKl, ↓rKn, ↓rKd, ↓rL, ↓r2, ↓r1, ↓rC2, ↓rC1, ↓rCn, ↓rNot, ↓rAnd, ↓rOr, ↓rCi, ↓rBx, ↓rIte, ↓rGf, ↓rLen, ↓rAx, ↓rNa, ↓rA0, ↓rA1, ↓rCs, ↓rCv, ↓rAn, ↓rNew, ↓rSeq, ↓rSkip, ↓rBrk, ↓rCnt, ↓rRetV, ↓rAsg, ↓rRet, ↓rIf, ↓rPf, ↓rPfo, ↓rAs, ↓rAso, ↓rDo, ↓rObj, ↓rBl, ↓rSw, ↓rCopy, ↓zSq_0, ↓zSq_r, ↓zSq_1, ↓zSq_2, ↓zBq_l, ↓zBq_r, ↓zWq_0, ↓zWq_1, ↓zWq_2, ↓zWq_r, ↓zLo_0, ↓zLo_1, ↓zLo_2, ↓zLo_r, ↓zLt_0, ↓rTr, ↓zFin_s, ↓zFin_n, wX_r, wO_s, wI_t, wI_f, zLk_0, zLk_s, zTv_vi, zTv_vb, zTv_vl, zTv_d, zTv_r, zTv_n, zTv_4, zTo_s, zCl_n, zCl_0, zCl_s, Int32.reduceToInt, Int64.reduceToInt, e_add, e_sub, e_mul, e_neg, e_ladd, e_lsub, e_lmul, e_lneg, q_0, q_1, q_2, q_3, q_4, q_5, q_b0, q_b1, p_0, p_1, p_2, p_3, p_4, p_5, p_b0, p_b1, e_lcmp, pl_0, pl_1, pl_2, pl_3, pl_4, pl_5, e_i2l, e_l2i, e_idiv, e_irem, e_ldiv, e_lrem, List.set_cons_zero, List.set_cons_succ, List.getD_cons_zero, List.getD_cons_succ, List.getD_nil, dT, dF, decide_true, decide_false, not_true_eq_false, not_false_eq_true, Bool.not_true, Bool.not_false, zLay_1, zLay_c1, zLay_c2, zLay_n, zWds_n, zWds_c, zCat_0, zCat_1, zCat_3, zCat_4, zLay_4, List.nil_append, List.cons_append, List.replicate_succ, List.replicate_zero, zTy_0, zTy_b0, zTy_1, zTy_3, zTy_3n, zTy_4, and_true, true_and, Option.bind_some, zNul_n, zNul_r, List.getElem?_cons_zero, List.getElem?_cons_succ, Int.add_zero, zTv_B, zTy_B, b_and, b_or, b_andn, b_not, b_shl, b_cmp, b_cmp0, b_cmp0l, b_eq0, b_eq1, zs_2, zl_21, zl_22, gf_s, gf_l, pf_s, pf_l, zl_z, zs_z, nA, and_self, Nat.le_refl, Option.some.injEq, eq_self, Nat.reduceAdd, Nat.reduceSub, C_Su_addAll_0, B_Su_addAll_0, T_Su_addAll_0, g_len m1, hsI]
  · intro env h' ⟨hh, he⟩
    subst hh
    subst he
    obtain ⟨m1, m2, m3⟩ := mm n
    rw [show ((n : Int)).toNat = n by omega]
    simp (disch := first | assumption | omega | exact zTy_0 | exact zTy_3 | exact zTy_3n | exact zTy_1 | exact zTy_B | exact zTy_b0 | exact zTy_4 | exact zEl_n | exact zEz4 | exact zEz9 | exact hz _ _ | exact hz2 _ _ | exact zI0 | exact zI1 | exact zI2 | exact zI3 | exact zI4 | exact zI5 | exact zI6 | exact zI7 | exact zI8 | exact zI9 | exact zI10 | (simp only [zl_21, zl_22, zs_2, ne_eq]; omega) | ((repeat (refine Eq.trans (us_r (by decide)) ?_)); assumption) | ((simp (decide := true) only [us_k, us_s]); omega)) only [↓rKi, ↓rKl, ↓rKn, ↓rKd, ↓rL, ↓r2, ↓r1, ↓rC2, ↓rC1, ↓rCn, ↓rNot, ↓rAnd, ↓rOr, ↓rCi, ↓rBx, ↓rIte, ↓rGf, ↓rLen, ↓rAx, ↓rNa, ↓rA0, ↓rA1, ↓rCs, ↓rCv, ↓rAn, ↓rNew, ↓rSeq, ↓rSkip, ↓rBrk, ↓rCnt, ↓rRetV, ↓rAsg, ↓rRet, ↓rIf, ↓rPf, ↓rPfo, ↓rAs, ↓rAso, ↓rDo, ↓rObj, ↓rBl, ↓rSw, ↓rCopy, ↓zSq_0, ↓zSq_r, ↓zSq_1, ↓zSq_2, ↓zBq_l, ↓zBq_r, ↓zWq_0, ↓zWq_1, ↓zWq_2, ↓zWq_r, ↓zLo_0, ↓zLo_1, ↓zLo_2, ↓zLo_r, ↓zLt_0, ↓rTr, ↓zFin_s, ↓zFin_n, wX_r, wO_s, wI_t, wI_f, zLk_0, zLk_s, zTv_vi, zTv_vb, zTv_vl, zTv_d, zTv_r, zTv_n, zTv_4, zTo_s, zCl_n, zCl_0, zCl_s, Int32.reduceToInt, Int64.reduceToInt, e_add, e_sub, e_mul, e_neg, e_ladd, e_lsub, e_lmul, e_lneg, q_0, q_1, q_2, q_3, q_4, q_5, q_b0, q_b1, p_0, p_1, p_2, p_3, p_4, p_5, p_b0, p_b1, e_lcmp, pl_0, pl_1, pl_2, pl_3, pl_4, pl_5, e_i2l, e_l2i, e_idiv, e_irem, e_ldiv, e_lrem, List.set_cons_zero, List.set_cons_succ, List.getD_cons_zero, List.getD_cons_succ, List.getD_nil, dT, dF, decide_true, decide_false, not_true_eq_false, not_false_eq_true, Bool.not_true, Bool.not_false, zLay_1, zLay_c1, zLay_c2, zLay_n, zWds_n, zWds_c, zCat_0, zCat_1, zCat_3, zCat_4, zLay_4, List.nil_append, List.cons_append, List.replicate_succ, List.replicate_zero, zTy_0, zTy_b0, zTy_1, zTy_3, zTy_3n, zTy_4, and_true, true_and, Option.bind_some, zNul_n, zNul_r, List.getElem?_cons_zero, List.getElem?_cons_succ, Int.add_zero, zTv_B, zTy_B, b_and, b_or, b_andn, b_not, b_shl, b_cmp, b_cmp0, b_cmp0l, b_eq0, b_eq1, zs_2, zl_21, zl_22, gf_s, gf_l, pf_s, pf_l, zl_z, zs_z, nA, and_self, Nat.le_refl, Option.some.injEq, eq_self, Nat.reduceAdd, Nat.reduceSub, C_Su_addAll_0, B_Su_addAll_0, T_Su_addAll_0, g_len m1, m3]
end
