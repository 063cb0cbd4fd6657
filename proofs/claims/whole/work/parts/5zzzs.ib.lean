/-! a new object of the class -/
section
variable {h H : zHp}
/-- k events without tracks -/
def eI (H : zHp) : Nat → zHp
  | 0 => H
  | k + 1 => zAl (zAl (eI H k) 1 (2, [.ref ((eI H k).2.1 + 1)])) 0 (67, ar 0 fun _ => .null)
theorem eI_2 : ∀ k, (eI H k).2.1 = H.2.1 + 2 * k ∧ (eI H k).2.2 = H.2.2 + k
  | 0 => ⟨rfl, rfl⟩
  | k + 1 => by
    obtain ⟨a, b⟩ := eI_2 k
    show (eI H k).2.1 + 1 + 1 = _ ∧ (eI H k).2.2 + 1 + 0 = _
    omega
theorem eI_o {a : Nat} (ha : a < H.2.1) : ∀ k, (eI H k).1 a = H.1 a
  | 0 => rfl
  | k + 1 => by
    have z := (eI_2 (H := H) k).1
    show (zAl (zAl (eI H k) 1 (2, [.ref ((eI H k).2.1 + 1)])) 0 (67, ar 0 fun _ => .null)).1 a = _
    rw [zl_n (by simp only [zl_21]; omega), zl_n (by omega)]
    exact eI_o ha k
theorem eI_j {j : Nat} : ∀ k, j < k → (eI H k).1 (H.2.1 + 2 * j) = some (2, [.ref (H.2.1 + 2 * j + 1)]) ∧ (eI H k).1 (H.2.1 + 2 * j + 1) = some (67, ar 0 fun _ => .null)
  | 0, h => by omega
  | k + 1, hj => by
    have z := (eI_2 (H := H) k).1
    show (zAl (zAl (eI H k) 1 (2, [.ref ((eI H k).2.1 + 1)])) 0 (67, ar 0 fun _ => .null)).1 _ = _ ∧ (zAl (zAl (eI H k) 1 (2, [.ref ((eI H k).2.1 + 1)])) 0 (67, ar 0 fun _ => .null)).1 _ = _
    by_cases c : j = k
    · subst c
      rw [← z]
      exact ⟨by rw [zl_n (by simp only [zl_21]; omega)]; exact zl_s, zl_s⟩
    · rw [zl_n (by simp only [zl_21]; omega), zl_n (by omega), zl_n (by simp only [zl_21]; omega), zl_n (by omega)]
      exact eI_j k (by omega)
theorem eI_st {a : Nat} {o : Nat × List Value} (ha : a < H.2.1) : ∀ k, zSet (eI H k) a o = eI (zSet H a o) k
  | 0 => rfl
  | k + 1 => by
    have z := (eI_2 (H := H) k).1
    have z2 := (eI_2 (H := zSet H a o) k).1
    have ih : zSet (eI H k) a o = eI (zSet H a o) k := eI_st ha k
    show zSet (zAl (zAl (eI H k) 1 (2, [.ref ((eI H k).2.1 + 1)])) 0 (67, ar 0 fun _ => .null)) a o = zAl (zAl (eI (zSet H a o) k) 1 (2, [.ref ((eI (zSet H a o) k).2.1 + 1)])) 0 (67, ar 0 fun _ => .null)
    rw [al_st (by simp only [zl_21]; omega), al_st (by omega), ih]
    have : (eI (zSet H a o) k).2.1 = (eI H k).2.1 := by rw [z, z2]; rfl
    rw [this]
theorem eI_pf {ty ci k a n : Nat} {v : Value} (ha : a < H.2.1) : zPfv ty ci k (eI H n) (.ref a) v = (zPfv ty ci k H (.ref a) v).map (fun h' => eI h' n) := by
  simp only [zPfv, zRef, zPut, Option.bind_some, eI_o ha]
  cases h1 : H.1 a with
  | none => rfl
  | some o =>
    simp only [Option.bind_some]
    split
    · rw [eI_st ha]; rfl
    · rfl
def feB (B k : Nat) : Int → Value := fun j => if 0 ≤ j ∧ j < k then .ref (B + 2 * j.toNat) else .null
def hB (h : zHp) (fs : List Value) (fe : Int → Value) : zHp := zAl (zAl h 8 (5, fs)) 3 (68, ar 3 fe)
theorem c_evI {trk n : Nat} {v0 : Value} {o : Nat × List Value} : F_Ev_init [.ref H.2.1, .ref trk] (zAl (zAl H 1 (2, [v0])) n o) = some (none, zAl (zAl H 1 (2, [.ref trk])) n o) := by
  refine zMeq rfl ?_
  simp (disch := first | assumption | omega | exact zTy_0 | exact zTy_3 | exact zTy_3n | exact zTy_1 | exact zTy_B | exact zTy_b0 | exact zTy_4 | exact zEl_n | exact zEz4 | exact zEz9 | exact hz _ _ | exact hz2 _ _ | exact zI0 | exact zI1 | exact zI2 | exact zI3 | exact zI4 | exact zI5 | exact zI6 | exact zI7 | exact zI8 | exact zI9 | exact zI10 | (simp only [zl_21, zl_22, zs_2, ne_eq]; omega) | ((repeat (refine Eq.trans (us_r (by decide)) ?_)); assumption) | ((simp (decide := true) only [us_k, us_s]); omega)) only [↓rKi, ↓rKl, ↓rKn, ↓rKd, ↓rL, ↓r2, ↓r1, ↓rC2, ↓rC1, ↓rCn, ↓rNot, ↓rAnd, ↓rOr, ↓rCi, ↓rBx, ↓rIte, ↓rGf, ↓rLen, ↓rAx, ↓rNa, ↓rA0, ↓rA1, ↓rCs, ↓rCv, ↓rAn, ↓rNew, ↓rSeq, ↓rSkip, ↓rBrk, ↓rCnt, ↓rRetV, ↓rAsg, ↓rRet, ↓rIf, ↓rPf, ↓rPfo, ↓rAs, ↓rAso, ↓rDo, ↓rObj, ↓rBl, ↓rSw, ↓rCopy, ↓zSq_0, ↓zSq_r, ↓zSq_1, ↓zSq_2, ↓zBq_l, ↓zBq_r, ↓zWq_0, ↓zWq_1, ↓zWq_2, ↓zWq_r, ↓zLo_0, ↓zLo_1, ↓zLo_2, ↓zLo_r, ↓zLt_0, ↓rTr, ↓zFin_s, ↓zFin_n, wX_r, wO_s, wI_t, wI_f, zLk_0, zLk_s, zTv_vi, zTv_vb, zTv_vl, zTv_d, zTv_r, zTv_n, zTv_4, zTo_s, zCl_n, zCl_0, zCl_s, Int32.reduceToInt, Int64.reduceToInt, e_add, e_sub, e_mul, e_neg, e_ladd, e_lsub, e_lmul, e_lneg, q_0, q_1, q_2, q_3, q_4, q_5, q_b0, q_b1, p_0, p_1, p_2, p_3, p_4, p_5, p_b0, p_b1, e_lcmp, pl_0, pl_1, pl_2, pl_3, pl_4, pl_5, e_i2l, e_l2i, e_idiv, e_irem, e_ldiv, e_lrem, List.set_cons_zero, List.set_cons_succ, List.getD_cons_zero, List.getD_cons_succ, List.getD_nil, dT, dF, decide_true, decide_false, not_true_eq_false, not_false_eq_true, Bool.not_true, Bool.not_false, zLay_1, zLay_c1, zLay_c2, zLay_n, zWds_n, zWds_c, zCat_0, zCat_1, zCat_3, zCat_4, zLay_4, List.nil_append, List.cons_append, List.replicate_succ, List.replicate_zero, zTy_0, zTy_b0, zTy_1, zTy_3, zTy_3n, zTy_4, and_true, true_and, Option.bind_some, zNul_n, zNul_r, List.getElem?_cons_zero, List.getElem?_cons_succ, Int.add_zero, zTv_B, zTy_B, b_and, b_or, b_andn, b_not, b_shl, b_cmp, b_cmp0, b_cmp0l, b_eq0, b_eq1, zs_2, zl_21, zl_22, gf_s, gf_l, pf_s, pf_l, zl_z, zs_z, nA, and_self, Nat.le_refl, Option.some.injEq, eq_self, Nat.reduceAdd, Nat.reduceSub, S_Ev_init, al_pf, Option.map_some]
theorem hB_1 {fs : List Value} {fe : Int → Value} : (hB h fs fe).1 (h.2.1 + 1) = some (68, ar 3 fe) := zl_s
theorem hB_0 {fs : List Value} {fe : Int → Value} : (hB h fs fe).1 h.2.1 = some (5, fs) := (zl_n (by simp only [zl_21]; omega)).trans zl_s
theorem hB_pf {fs : List Value} {fe : Int → Value} {ty k : Nat} {v : Value} (hk : zIn k fs = true) (hv : zTy ty v = true) : zPfv ty 5 k (hB h fs fe) (.ref h.2.1) v = some (hB h (fs.set k v) fe) := by
  unfold hB
  rw [al_pf (by simp only [zl_21]; omega), pf_l hk hv]
  rfl
theorem e_stE {fs : List Value} {k : Nat} (hk : k < 3) : zStv (zStK 68).1 68 (zStK 68).2 (zAl (zAl (eI (hB h fs (feB (h.2.1 + 2) k)) k) 1 (2, [.ref ((eI (hB h fs (feB (h.2.1 + 2) k)) k).2.1 + 1)])) 0 (67, ar 0 fun _ => .null)) (.ref (h.2.1 + 1)) (vi k) (.ref (eI (hB h fs (feB (h.2.1 + 2) k)) k).2.1) = some (eI (hB h fs (feB (h.2.1 + 2) (k + 1))) (k + 1)) := by
  have z := (eI_2 (H := hB h fs (feB (h.2.1 + 2) k)) k).1
  have b2 : (hB h fs (feB (h.2.1 + 2) k)).2.1 = h.2.1 + 2 := rfl
  have e1 : (zAl (zAl (eI (hB h fs (feB (h.2.1 + 2) k)) k) 1 (2, [.ref ((eI (hB h fs (feB (h.2.1 + 2) k)) k).2.1 + 1)])) 0 (67, ar 0 fun _ => .null)).1 (h.2.1 + 1) = some (68, ar 3 (feB (h.2.1 + 2) k)) := by
    rw [zl_n (by simp only [zl_21]; omega), zl_n (by omega), eI_o (by omega)]
    exact hB_1
  have e2 : (zAl (zAl (eI (hB h fs (feB (h.2.1 + 2) k)) k) 1 (2, [.ref ((eI (hB h fs (feB (h.2.1 + 2) k)) k).2.1 + 1)])) 0 (67, ar 0 fun _ => .null)).1 (eI (hB h fs (feB (h.2.1 + 2) k)) k).2.1 = some (2, [.ref ((eI (hB h fs (feB (h.2.1 + 2) k)) k).2.1 + 1)]) := by
    rw [zl_n (by simp only [zl_21]; omega)]
    exact zl_s
  have el : zEl (zAl (zAl (eI (hB h fs (feB (h.2.1 + 2) k)) k) 1 (2, [.ref ((eI (hB h fs (feB (h.2.1 + 2) k)) k).2.1 + 1)])) 0 (67, ar 0 fun _ => .null)) (some 2) (.ref (eI (hB h fs (feB (h.2.1 + 2) k)) k).2.1) = true := by simp [zEl, e2]
  have st : zStK 68 = (3, some 2) := rfl
  rw [st]
  show zStv 3 68 (some 2) _ _ _ _ = _
  rw [g_set e1 (by omega) (by omega) (by decide) rfl el]
  refine congrArg some ?_
  show zSet (eI (hB h fs (feB (h.2.1 + 2) k)) (k + 1)) _ _ = _
  rw [eI_st (by omega)]
  refine congrArg (fun q => eI q (k + 1)) ?_
  show zSet (zAl (zAl h 8 (5, fs)) 3 (68, ar 3 (feB (h.2.1 + 2) k))) (h.2.1 + 1) _ = zAl (zAl h 8 (5, fs)) 3 (68, ar 3 (feB (h.2.1 + 2) (k + 1)))
  rw [zl_z' (b := h.2.1 + 1) rfl]
  refine congrArg (fun q => zAl (zAl h 8 (5, fs)) 3 (68, q)) (ar_ext fun j j0 j1 => ?_)
  by_cases c : j = k
  · rw [c, up_s, z, b2]
    unfold feB
    rw [if_pos (by omega)]
    rw [show ((k : Int)).toNat = k by omega]
  · rw [up_n c]
    unfold feB
    by_cases d : 0 ≤ j ∧ j < k
    · rw [if_pos d, if_pos (by omega)]
    · rw [if_neg d, if_neg (by omega)]
/-- a new state at the end of a heap -/
def stI (h : zHp) : zHp := zAl (zAl (eI (hB h [vi 40, vi (-1), vi 0, vi 701, vi 0, .ref (h.2.1 + 1), .ref (h.2.1 + 8), .ref (h.2.1 + 9)] (feB (h.2.1 + 2) 3)) 3) 4 (69, ar 4 fun _ => .null)) 4 (73, ar 4 fun _ => .null)
theorem c_stI : F_St_init [.ref h.2.1] (zAl h 8 (5, [.int 0, .int 0, .int 0, .int 0, .int 0, .null, .null, .null])) = some (none, stI h) := by
  refine zMeq rfl ?_
  have na3 : ∀ {H : zHp}, zNav 68 .null H (vi 3) = some (.ref H.2.1, zAl H 3 (68, ar 3 fun _ => .null)) := g_na (by decide) (by decide)
  have na4 : ∀ {H : zHp} {t : Nat}, zNav t .null H (vi 4) = some (.ref H.2.1, zAl H 4 (t, ar 4 fun _ => .null)) := g_na (by decide) (by decide)
  have na0 : ∀ {H : zHp}, zNav 67 .null H (vi 0) = some (.ref H.2.1, zAl H 0 (67, ar 0 fun _ => .null)) := g_na (by decide) (by decide)
  simp (disch := first | assumption | omega | exact zTy_0 | exact zTy_3 | exact zTy_3n | exact zTy_1 | exact zTy_B | exact zTy_b0 | exact zTy_4 | exact zEl_n | exact zEz4 | exact zEz9 | exact hz _ _ | exact hz2 _ _ | exact zI0 | exact zI1 | exact zI2 | exact zI3 | exact zI4 | exact zI5 | exact zI6 | exact zI7 | exact zI8 | exact zI9 | exact zI10 | (simp only [zl_21, zl_22, zs_2, ne_eq]; omega) | ((repeat (refine Eq.trans (us_r (by decide)) ?_)); assumption) | ((simp (decide := true) only [us_k, us_s]); omega)) only [↓rKi, ↓rKl, ↓rKn, ↓rKd, ↓rL, ↓r2, ↓r1, ↓rC2, ↓rC1, ↓rCn, ↓rNot, ↓rAnd, ↓rOr, ↓rCi, ↓rBx, ↓rIte, ↓rGf, ↓rLen, ↓rAx, ↓rNa, ↓rA0, ↓rA1, ↓rCs, ↓rCv, ↓rAn, ↓rNew, ↓rSeq, ↓rSkip, ↓rBrk, ↓rCnt, ↓rRetV, ↓rAsg, ↓rRet, ↓rIf, ↓rPf, ↓rPfo, ↓rAs, ↓rAso, ↓rDo, ↓rObj, ↓rBl, ↓rSw, ↓rCopy, ↓zSq_0, ↓zSq_r, ↓zSq_1, ↓zSq_2, ↓zBq_l, ↓zBq_r, ↓zWq_0, ↓zWq_1, ↓zWq_2, ↓zWq_r, ↓zLo_0, ↓zLo_1, ↓zLo_2, ↓zLo_r, ↓zLt_0, ↓rTr, ↓zFin_s, ↓zFin_n, wX_r, wO_s, wI_t, wI_f, zLk_0, zLk_s, zTv_vi, zTv_vb, zTv_vl, zTv_d, zTv_r, zTv_n, zTv_4, zTo_s, zCl_n, zCl_0, zCl_s, Int32.reduceToInt, Int64.reduceToInt, e_add, e_sub, e_mul, e_neg, e_ladd, e_lsub, e_lmul, e_lneg, q_0, q_1, q_2, q_3, q_4, q_5, q_b0, q_b1, p_0, p_1, p_2, p_3, p_4, p_5, p_b0, p_b1, e_lcmp, pl_0, pl_1, pl_2, pl_3, pl_4, pl_5, e_i2l, e_l2i, e_idiv, e_irem, e_ldiv, e_lrem, List.set_cons_zero, List.set_cons_succ, List.getD_cons_zero, List.getD_cons_succ, List.getD_nil, dT, dF, decide_true, decide_false, not_true_eq_false, not_false_eq_true, Bool.not_true, Bool.not_false, zLay_1, zLay_c1, zLay_c2, zLay_n, zWds_n, zWds_c, zCat_0, zCat_1, zCat_3, zCat_4, zLay_4, List.nil_append, List.cons_append, List.replicate_succ, List.replicate_zero, zTy_0, zTy_b0, zTy_1, zTy_3, zTy_3n, zTy_4, and_true, true_and, Option.bind_some, zNul_n, zNul_r, List.getElem?_cons_zero, List.getElem?_cons_succ, Int.add_zero, zTv_B, zTy_B, b_and, b_or, b_andn, b_not, b_shl, b_cmp, b_cmp0, b_cmp0l, b_eq0, b_eq1, zs_2, zl_21, zl_22, gf_s, gf_l, pf_s, pf_l, zl_z, zs_z, nA, and_self, Nat.le_refl, Option.some.injEq, eq_self, Nat.reduceAdd, Nat.reduceSub, S_St_init, na3, al_pf, al_gf, Option.map_some, L_St_init_0]
  refine wForI (fun i env h' => h' = eI (hB h [vi 40, vi (-1), vi 0, vi 701, vi 0, .ref (h.2.1 + 1), .null, .null] (feB (h.2.1 + 2) i.toNat)) i.toNat ∧ env = [.ref h.2.1, vi i]) 0 3 (by omega) (by omega) ⟨?_, rfl⟩ ?_ ?_
  · unfold hB
    refine congrArg (fun q => zAl (zAl h 8 _) 3 (68, q)) (ar_ext fun j j0 j1 => ?_)
    exact (if_neg (by omega)).symm
  · intro i env h' i0 i1 ⟨hh, he⟩
    subst hh
    subst he
    obtain ⟨k, rfl⟩ : ∃ k : Nat, i = k := ⟨i.toNat, by omega⟩
    rw [show ((k : Int)).toNat = k by omega]
    have ss := e_stE (h := h) (fs := [vi 40, vi (-1), vi 0, vi 701, vi 0, .ref (h.2.1 + 1), .null, .null]) (k := k) (by omega)
    have f5 : (eI (hB h [vi 40, vi (-1), vi 0, vi 701, vi 0, .ref (h.2.1 + 1), .null, .null] (feB (h.2.1 + 2) k)) k).1 h.2.1 = _ := (eI_o (by show h.2.1 < h.2.1 + 2; omega) k).trans hB_0
    simp (disch := first | assumption | omega | exact zTy_0 | exact zTy_3 | exact zTy_3n | exact zTy_1 | exact zTy_B | exact zTy_b0 | exact zTy_4 | exact zEl_n | exact zEz4 | exact zEz9 | exact hz _ _ | exact hz2 _ _ | exact zI0 | exact zI1 | exact zI2 | exact zI3 | exact zI4 | exact zI5 | exact zI6 | exact zI7 | exact zI8 | exact zI9 | exact zI10 | (simp only [zl_21, zl_22, zs_2, ne_eq]; omega) | ((repeat (refine Eq.trans (us_r (by decide)) ?_)); assumption) | ((simp (decide := true) only [us_k, us_s]); omega)) only [↓rKi, ↓rKl, ↓rKn, ↓rKd, ↓rL, ↓r2, ↓r1, ↓rC2, ↓rC1, ↓rCn, ↓rNot, ↓rAnd, ↓rOr, ↓rCi, ↓rBx, ↓rIte, ↓rGf, ↓rLen, ↓rAx, ↓rNa, ↓rA0, ↓rA1, ↓rCs, ↓rCv, ↓rAn, ↓rNew, ↓rSeq, ↓rSkip, ↓rBrk, ↓rCnt, ↓rRetV, ↓rAsg, ↓rRet, ↓rIf, ↓rPf, ↓rPfo, ↓rAs, ↓rAso, ↓rDo, ↓rObj, ↓rBl, ↓rSw, ↓rCopy, ↓zSq_0, ↓zSq_r, ↓zSq_1, ↓zSq_2, ↓zBq_l, ↓zBq_r, ↓zWq_0, ↓zWq_1, ↓zWq_2, ↓zWq_r, ↓zLo_0, ↓zLo_1, ↓zLo_2, ↓zLo_r, ↓zLt_0, ↓rTr, ↓zFin_s, ↓zFin_n, wX_r, wO_s, wI_t, wI_f, zLk_0, zLk_s, zTv_vi, zTv_vb, zTv_vl, zTv_d, zTv_r, zTv_n, zTv_4, zTo_s, zCl_n, zCl_0, zCl_s, Int32.reduceToInt, Int64.reduceToInt, e_add, e_sub, e_mul, e_neg, e_ladd, e_lsub, e_lmul, e_lneg, q_0, q_1, q_2, q_3, q_4, q_5, q_b0, q_b1, p_0, p_1, p_2, p_3, p_4, p_5, p_b0, p_b1, e_lcmp, pl_0, pl_1, pl_2, pl_3, pl_4, pl_5, e_i2l, e_l2i, e_idiv, e_irem, e_ldiv, e_lrem, List.set_cons_zero, List.set_cons_succ, List.getD_cons_zero, List.getD_cons_succ, List.getD_nil, dT, dF, decide_true, decide_false, not_true_eq_false, not_false_eq_true, Bool.not_true, Bool.not_false, zLay_1, zLay_c1, zLay_c2, zLay_n, zWds_n, zWds_c, zCat_0, zCat_1, zCat_3, zCat_4, zLay_4, List.nil_append, List.cons_append, List.replicate_succ, List.replicate_zero, zTy_0, zTy_b0, zTy_1, zTy_3, zTy_3n, zTy_4, and_true, true_and, Option.bind_some, zNul_n, zNul_r, List.getElem?_cons_zero, List.getElem?_cons_succ, Int.add_zero, zTv_B, zTy_B, b_and, b_or, b_andn, b_not, b_shl, b_cmp, b_cmp0, b_cmp0l, b_eq0, b_eq1, zs_2, zl_21, zl_22, gf_s, gf_l, pf_s, pf_l, zl_z, zs_z, nA, and_self, Nat.le_refl, Option.some.injEq, eq_self, Nat.reduceAdd, Nat.reduceSub, C_St_init_0, B_St_init_0, T_St_init_0, g_fld f5, na0, c_evI, ss]
    rw [show ((k : Int) + 1).toNat = k + 1 by omega]
  · intro env h' ⟨hh, he⟩
    subst hh
    subst he
    rw [show Int.toNat 3 = 3 from rfl]
    have z1 := fun fs => (eI_2 (H := hB h fs (feB (h.2.1 + 2) 3)) 3).1
    have b1 : ∀ fs, (hB h fs (feB (h.2.1 + 2) 3)).2.1 = h.2.1 + 2 := fun fs => rfl
    have e8 : ∀ fs, (eI (hB h fs (feB (h.2.1 + 2) 3)) 3).2.1 = h.2.1 + 8 := fun fs => by rw [z1, b1]
    have x1 := e8 [vi 40, vi (-1), vi 0, vi 701, vi 0, .ref (h.2.1 + 1), .null, .null]
    have x2 := e8 [vi 40, vi (-1), vi 0, vi 701, vi 0, .ref (h.2.1 + 1), .ref (h.2.1 + 8), .null]
    have y1 := b1 [vi 40, vi (-1), vi 0, vi 701, vi 0, .ref (h.2.1 + 1), .null, .null]
    have y2 := b1 [vi 40, vi (-1), vi 0, vi 701, vi 0, .ref (h.2.1 + 1), .ref (h.2.1 + 8), .null]
    have ep : ∀ {ty ci k a n : Nat} {v : Value} {fs : List Value}, a < h.2.1 + 2 → zPfv ty ci k (eI (hB h fs (feB (h.2.1 + 2) 3)) n) (.ref a) v = (zPfv ty ci k (hB h fs (feB (h.2.1 + 2) 3)) (.ref a) v).map (fun h' => eI h' n) := fun ha => eI_pf ha
    simp (disch := first | assumption | omega | exact zTy_0 | exact zTy_3 | exact zTy_3n | exact zTy_1 | exact zTy_B | exact zTy_b0 | exact zTy_4 | exact zEl_n | exact zEz4 | exact zEz9 | exact hz _ _ | exact hz2 _ _ | exact zI0 | exact zI1 | exact zI2 | exact zI3 | exact zI4 | exact zI5 | exact zI6 | exact zI7 | exact zI8 | exact zI9 | exact zI10 | (simp only [zl_21, zl_22, zs_2, ne_eq]; omega) | ((repeat (refine Eq.trans (us_r (by decide)) ?_)); assumption) | ((simp (decide := true) only [us_k, us_s]); omega)) only [↓rKi, ↓rKl, ↓rKn, ↓rKd, ↓rL, ↓r2, ↓r1, ↓rC2, ↓rC1, ↓rCn, ↓rNot, ↓rAnd, ↓rOr, ↓rCi, ↓rBx, ↓rIte, ↓rGf, ↓rLen, ↓rAx, ↓rNa, ↓rA0, ↓rA1, ↓rCs, ↓rCv, ↓rAn, ↓rNew, ↓rSeq, ↓rSkip, ↓rBrk, ↓rCnt, ↓rRetV, ↓rAsg, ↓rRet, ↓rIf, ↓rPf, ↓rPfo, ↓rAs, ↓rAso, ↓rDo, ↓rObj, ↓rBl, ↓rSw, ↓rCopy, ↓zSq_0, ↓zSq_r, ↓zSq_1, ↓zSq_2, ↓zBq_l, ↓zBq_r, ↓zWq_0, ↓zWq_1, ↓zWq_2, ↓zWq_r, ↓zLo_0, ↓zLo_1, ↓zLo_2, ↓zLo_r, ↓zLt_0, ↓rTr, ↓zFin_s, ↓zFin_n, wX_r, wO_s, wI_t, wI_f, zLk_0, zLk_s, zTv_vi, zTv_vb, zTv_vl, zTv_d, zTv_r, zTv_n, zTv_4, zTo_s, zCl_n, zCl_0, zCl_s, Int32.reduceToInt, Int64.reduceToInt, e_add, e_sub, e_mul, e_neg, e_ladd, e_lsub, e_lmul, e_lneg, q_0, q_1, q_2, q_3, q_4, q_5, q_b0, q_b1, p_0, p_1, p_2, p_3, p_4, p_5, p_b0, p_b1, e_lcmp, pl_0, pl_1, pl_2, pl_3, pl_4, pl_5, e_i2l, e_l2i, e_idiv, e_irem, e_ldiv, e_lrem, List.set_cons_zero, List.set_cons_succ, List.getD_cons_zero, List.getD_cons_succ, List.getD_nil, dT, dF, decide_true, decide_false, not_true_eq_false, not_false_eq_true, Bool.not_true, Bool.not_false, zLay_1, zLay_c1, zLay_c2, zLay_n, zWds_n, zWds_c, zCat_0, zCat_1, zCat_3, zCat_4, zLay_4, List.nil_append, List.cons_append, List.replicate_succ, List.replicate_zero, zTy_0, zTy_b0, zTy_1, zTy_3, zTy_3n, zTy_4, and_true, true_and, Option.bind_some, zNul_n, zNul_r, List.getElem?_cons_zero, List.getElem?_cons_succ, Int.add_zero, zTv_B, zTy_B, b_and, b_or, b_andn, b_not, b_shl, b_cmp, b_cmp0, b_cmp0l, b_eq0, b_eq1, zs_2, zl_21, zl_22, gf_s, gf_l, pf_s, pf_l, zl_z, zs_z, nA, and_self, Nat.le_refl, Option.some.injEq, eq_self, Nat.reduceAdd, Nat.reduceSub, C_St_init_0, B_St_init_0, T_St_init_0, na4, al_pf, ep, hB_pf, e8, Option.map_some]
    refine ⟨⟨by omega, ?_⟩, rfl⟩
    rw [(eI_2 3).2]
    show h.2.2 + 8 ≤ h.2.2 + 8 + 3 + 3 + 4 + 4
    omega
end
