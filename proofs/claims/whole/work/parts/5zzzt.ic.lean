/-! a new object of the class, whole -/
section
variable {h H : zHp}
theorem stI_2 : (stI h).2.1 = h.2.1 + 10 ∧ (stI h).2.2 = h.2.2 + 22 := by
  obtain ⟨a, b⟩ := eI_2 (H := hB h [vi 40, vi (-1), vi 0, vi 701, vi 0, .ref (h.2.1 + 1), .ref (h.2.1 + 8), .ref (h.2.1 + 9)] (feB (h.2.1 + 2) 3)) 3
  have c : ∀ fs, (hB h fs (feB (h.2.1 + 2) 3)).2.1 = h.2.1 + 2 ∧ (hB h fs (feB (h.2.1 + 2) 3)).2.2 = h.2.2 + 8 + 3 := fun fs => ⟨rfl, rfl⟩
  rw [(c _).1] at a
  rw [(c _).2] at b
  unfold stI
  simp only [zl_21, zl_22]
  rw [a, b]
  omega
theorem stI_o {a : Nat} (ha : a < h.2.1) : (stI h).1 a = h.1 a := by
  have z := (eI_2 (H := hB h [vi 40, vi (-1), vi 0, vi 701, vi 0, .ref (h.2.1 + 1), .ref (h.2.1 + 8), .ref (h.2.1 + 9)] (feB (h.2.1 + 2) 3)) 3).1
  have c : ∀ fs, (hB h fs (feB (h.2.1 + 2) 3)).2.1 = h.2.1 + 2 := fun fs => rfl
  rw [c] at z
  unfold stI
  rw [zl_n (by simp only [zl_21]; omega), zl_n (by omega), eI_o (by rw [c]; omega)]
  unfold hB
  rw [zl_n (by simp only [zl_21]; omega), zl_n (by omega)]
theorem stI_st {a : Nat} {o : Nat × List Value} (ha : a < h.2.1) : zSet (stI h) a o = stI (zSet h a o) := by
  have z := (eI_2 (H := hB h [vi 40, vi (-1), vi 0, vi 701, vi 0, .ref (h.2.1 + 1), .ref (h.2.1 + 8), .ref (h.2.1 + 9)] (feB (h.2.1 + 2) 3)) 3).1
  have c : ∀ fs, (hB h fs (feB (h.2.1 + 2) 3)).2.1 = h.2.1 + 2 := fun fs => rfl
  rw [c] at z
  unfold stI
  rw [al_st (by simp only [zl_21]; omega), al_st (by omega), eI_st (by rw [c]; omega)]
  unfold hB
  rw [al_st (by simp only [zl_21]; omega), al_st (by omega)]
  rfl
theorem stI_at : (stI h).1 h.2.1 = some (5, [vi 40, vi (-1), vi 0, vi 701, vi 0, .ref (h.2.1 + 1), .ref (h.2.1 + 8), .ref (h.2.1 + 9)]) ∧ (stI h).1 (h.2.1 + 1) = some (68, ar 3 (feB (h.2.1 + 2) 3)) ∧ (stI h).1 (h.2.1 + 8) = some (69, ar 4 fun _ => .null) ∧ (stI h).1 (h.2.1 + 9) = some (73, ar 4 fun _ => .null) ∧ ∀ j, j < 3 → (stI h).1 (h.2.1 + 2 + 2 * j) = some (2, [.ref (h.2.1 + 2 + 2 * j + 1)]) ∧ (stI h).1 (h.2.1 + 2 + 2 * j + 1) = some (67, ar 0 fun _ => .null) := by
  have z := (eI_2 (H := hB h [vi 40, vi (-1), vi 0, vi 701, vi 0, .ref (h.2.1 + 1), .ref (h.2.1 + 8), .ref (h.2.1 + 9)] (feB (h.2.1 + 2) 3)) 3).1
  have c : ∀ fs, (hB h fs (feB (h.2.1 + 2) 3)).2.1 = h.2.1 + 2 := fun fs => rfl
  rw [c] at z
  unfold stI
  refine ⟨?_, ?_, ?_, ?_, fun j hj => ?_⟩
  · rw [zl_n (by simp only [zl_21]; omega), zl_n (by omega), eI_o (by rw [c]; omega)]
    exact hB_0
  · rw [zl_n (by simp only [zl_21]; omega), zl_n (by omega), eI_o (by rw [c]; omega)]
    exact hB_1
  · rw [zl_n (by simp only [zl_21]; omega)]
    have : h.2.1 + 8 = (eI (hB h [vi 40, vi (-1), vi 0, vi 701, vi 0, .ref (h.2.1 + 1), .ref (h.2.1 + 8), .ref (h.2.1 + 9)] (feB (h.2.1 + 2) 3)) 3).2.1 := by omega
    rw (occs := .pos [1]) [this]
    exact zl_s
  · have : h.2.1 + 9 = (zAl (eI (hB h [vi 40, vi (-1), vi 0, vi 701, vi 0, .ref (h.2.1 + 1), .ref (h.2.1 + 8), .ref (h.2.1 + 9)] (feB (h.2.1 + 2) 3)) 3) 4 (69, ar 4 fun _ => .null)).2.1 := by simp only [zl_21]; omega
    rw (occs := .pos [1]) [this]
    exact zl_s
  · have ej := eI_j (H := hB h [vi 40, vi (-1), vi 0, vi 701, vi 0, .ref (h.2.1 + 1), .ref (h.2.1 + 8), .ref (h.2.1 + 9)] (feB (h.2.1 + 2) 3)) 3 hj
    rw [c] at ej
    rw [zl_n (by simp only [zl_21]; omega), zl_n (by omega), zl_n (by simp only [zl_21]; omega), zl_n (by omega)]
    exact ej
def jtL (b : Nat) : List Value := [.ref (b + 1), .ref (b + 11), vi 0, .ref (b + 1), .ref (b + 12), vi 0]
def jtI (h : zHp) : zHp := zAl (zAl (stI (zAl h 6 (10, jtL h.2.1))) 20 (70, ar 20 fun _ => .null)) 20 (70, ar 20 fun _ => .null)
theorem c_jtInit : F_JT_init [.ref h.2.1] (zAl h 6 (10, [.null, .null, .int 0, .null, .null, .int 0])) = some (none, jtI h) := by
  have na : ∀ {H : zHp}, zNav 70 .null H (vi 20) = some (.ref H.2.1, zAl H 20 (70, ar 20 fun _ => .null)) := g_na (by decide) (by decide)
  have si : ∀ o, F_St_init [.ref (h.2.1 + 1)] (zAl (zAl h 6 o) 8 (5, [.int 0, .int 0, .int 0, .int 0, .int 0, .null, .null, .null])) = some (none, stI (zAl h 6 o)) := fun o => c_stI
  have s2 : ∀ o, (stI (zAl h 6 o)).2.1 = h.2.1 + 11 := fun o => by rw [stI_2.1]; rfl
  have at0 : ∀ L, (stI (zAl h 6 (10, L))).1 h.2.1 = some (10, L) := fun L => (stI_o (by simp only [zl_21]; omega)).trans zl_s
  have at1 : ∀ L n o, (zAl (stI (zAl h 6 (10, L))) n o).1 h.2.1 = some (10, L) := fun L n o => (zl_n (by rw [s2]; omega)).trans (at0 L)
  have set0 : ∀ L o, zSet (stI (zAl h 6 (10, L))) h.2.1 o = stI (zAl h 6 o) := fun L o => by rw [stI_st (by simp only [zl_21]; omega), zl_z]
  have p0 : ∀ {ty k : Nat} {L : List Value} {v : Value}, zIn k L = true → zTy ty v = true → zPfv ty 10 k (stI (zAl h 6 (10, L))) (.ref h.2.1) v = some (stI (zAl h 6 (10, L.set k v))) := fun hk hv => by rw [g_put (at0 _) (zIn_lt hk) hv, set0]
  have p1 : ∀ {ty k n : Nat} {L : List Value} {v : Value} {o : Nat × List Value}, zIn k L = true → zTy ty v = true → zPfv ty 10 k (zAl (stI (zAl h 6 (10, L))) n o) (.ref h.2.1) v = some (zAl (stI (zAl h 6 (10, L.set k v))) n o) := fun hk hv => by rw [al_pf (by rw [s2]; omega), p0 hk hv]; rfl
  have p2 : ∀ {ty k n n2 : Nat} {L : List Value} {v : Value} {o o2 : Nat × List Value}, zIn k L = true → zTy ty v = true → zPfv ty 10 k (zAl (zAl (stI (zAl h 6 (10, L))) n o) n2 o2) (.ref h.2.1) v = some (zAl (zAl (stI (zAl h 6 (10, L.set k v))) n o) n2 o2) := fun hk hv => by rw [al_pf (by simp only [zl_21]; rw [s2]; omega), p1 hk hv]; rfl
  have gt := fun L n o => g_fld (ty := 3) (k := 0) (at1 L n o)
  refine zMeq rfl ?_
  simp (disch := first | assumption | omega | exact zTy_0 | exact zTy_3 | exact zTy_3n | exact zTy_1 | exact zTy_B | exact zTy_b0 | exact zTy_4 | exact zEl_n | exact zEz4 | exact zEz9 | exact hz _ _ | exact hz2 _ _ | exact zI0 | exact zI1 | exact zI2 | exact zI3 | exact zI4 | exact zI5 | exact zI6 | exact zI7 | exact zI8 | exact zI9 | exact zI10 | (simp only [zl_21, zl_22, zs_2, ne_eq]; omega) | ((repeat (refine Eq.trans (us_r (by decide)) ?_)); assumption) | ((simp (decide := true) only [us_k, us_s]); omega)) only [↓rKi, ↓rKl, ↓rKn, ↓rKd, ↓rL, ↓r2, ↓r1, ↓rC2, ↓rC1, ↓rCn, ↓rNot, ↓rAnd, ↓rOr, ↓rCi, ↓rBx, ↓rIte, ↓rGf, ↓rLen, ↓rAx, ↓rNa, ↓rA0, ↓rA1, ↓rCs, ↓rCv, ↓rAn, ↓rNew, ↓rSeq, ↓rSkip, ↓rBrk, ↓rCnt, ↓rRetV, ↓rAsg, ↓rRet, ↓rIf, ↓rPf, ↓rPfo, ↓rAs, ↓rAso, ↓rDo, ↓rObj, ↓rBl, ↓rSw, ↓rCopy, ↓zSq_0, ↓zSq_r, ↓zSq_1, ↓zSq_2, ↓zBq_l, ↓zBq_r, ↓zWq_0, ↓zWq_1, ↓zWq_2, ↓zWq_r, ↓zLo_0, ↓zLo_1, ↓zLo_2, ↓zLo_r, ↓zLt_0, ↓rTr, ↓zFin_s, ↓zFin_n, wX_r, wO_s, wI_t, wI_f, zLk_0, zLk_s, zTv_vi, zTv_vb, zTv_vl, zTv_d, zTv_r, zTv_n, zTv_4, zTo_s, zCl_n, zCl_0, zCl_s, Int32.reduceToInt, Int64.reduceToInt, e_add, e_sub, e_mul, e_neg, e_ladd, e_lsub, e_lmul, e_lneg, q_0, q_1, q_2, q_3, q_4, q_5, q_b0, q_b1, p_0, p_1, p_2, p_3, p_4, p_5, p_b0, p_b1, e_lcmp, pl_0, pl_1, pl_2, pl_3, pl_4, pl_5, e_i2l, e_l2i, e_idiv, e_irem, e_ldiv, e_lrem, List.set_cons_zero, List.set_cons_succ, List.getD_cons_zero, List.getD_cons_succ, List.getD_nil, dT, dF, decide_true, decide_false, not_true_eq_false, not_false_eq_true, Bool.not_true, Bool.not_false, zLay_1, zLay_c1, zLay_c2, zLay_n, zWds_n, zWds_c, zCat_0, zCat_1, zCat_3, zCat_4, zLay_4, List.nil_append, List.cons_append, List.replicate_succ, List.replicate_zero, zTy_0, zTy_b0, zTy_1, zTy_3, zTy_3n, zTy_4, and_true, true_and, Option.bind_some, zNul_n, zNul_r, List.getElem?_cons_zero, List.getElem?_cons_succ, Int.add_zero, zTv_B, zTy_B, b_and, b_or, b_andn, b_not, b_shl, b_cmp, b_cmp0, b_cmp0l, b_eq0, b_eq1, zs_2, zl_21, zl_22, gf_s, gf_l, pf_s, pf_l, zl_z, zs_z, nA, and_self, Nat.le_refl, Option.some.injEq, eq_self, Nat.reduceAdd, Nat.reduceSub, S_JT_init, si, na, p0, p1, p2, gt, s2]
  refine ⟨⟨by omega, ?_⟩, rfl⟩
  rw [stI_2.2]
  show h.2.2 + 6 ≤ h.2.2 + 6 + 22 + 20 + 20
  omega
theorem jtI_2 : (jtI h).2.1 = h.2.1 + 13 ∧ (jtI h).2.2 = h.2.2 + 68 := by
  have a := (stI_2 (h := zAl h 6 (10, jtL h.2.1)))
  have e1 : (zAl h 6 (10, jtL h.2.1)).2.1 = h.2.1 + 1 := rfl
  have e2 : (zAl h 6 (10, jtL h.2.1)).2.2 = h.2.2 + 6 := rfl
  rw [e1, e2] at a
  have e3 : (jtI h).2.1 = (stI (zAl h 6 (10, jtL h.2.1))).2.1 + 1 + 1 := rfl
  have e4 : (jtI h).2.2 = (stI (zAl h 6 (10, jtL h.2.1))).2.2 + 20 + 20 := rfl
  omega
theorem jtI_s {a : Nat} (h0 : h.2.1 < a) (h1 : a < h.2.1 + 11) : (jtI h).1 a = (stI (zAl h 6 (10, jtL h.2.1))).1 a := by
  have z := (stI_2 (h := zAl h 6 (10, jtL h.2.1))).1
  simp only [zl_21] at z
  unfold jtI
  rw [zl_n (by simp only [zl_21]; omega), zl_n (by omega)]
theorem jtI_x : (jtI h).1 h.2.1 = some (10, jtL h.2.1) := by
  have z := (stI_2 (h := zAl h 6 (10, jtL h.2.1))).1
  simp only [zl_21] at z
  unfold jtI
  rw [zl_n (by simp only [zl_21]; omega), zl_n (by omega), stI_o (by simp only [zl_21]; omega)]
  exact zl_s
theorem jtI_o {a : Nat} (ha : a < h.2.1) : (jtI h).1 a = h.1 a := by
  have z := (stI_2 (h := zAl h 6 (10, jtL h.2.1))).1
  simp only [zl_21] at z
  unfold jtI
  rw [zl_n (by simp only [zl_21]; omega), zl_n (by omega), stI_o (by simp only [zl_21]; omega)]
  exact zl_n (by omega)
theorem jtI_p : (jtI h).1 (h.2.1 + 11) = some (70, ar 20 fun _ => .null) ∧ (jtI h).1 (h.2.1 + 12) = some (70, ar 20 fun _ => .null) := by
  have z := (stI_2 (h := zAl h 6 (10, jtL h.2.1))).1
  simp only [zl_21] at z
  have e1 : h.2.1 + 11 = (stI (zAl h 6 (10, jtL h.2.1))).2.1 := by omega
  have e2 : h.2.1 + 12 = (zAl (stI (zAl h 6 (10, jtL h.2.1))) 20 (70, ar 20 fun _ => .null)).2.1 := by simp only [zl_21]; omega
  unfold jtI
  refine ⟨?_, ?_⟩
  · rw [zl_n (by simp only [zl_21]; omega), e1]
    exact zl_s
  · rw [e2]
    exact zl_s
end
