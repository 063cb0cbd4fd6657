/-! drawn -/
def lcg (x : Int) : Int := (x * 821 + 631) % 30091
def lcgN (x : Int) : Nat → Int
  | 0 => x
  | k + 1 => lcg (lcgN x k)
theorem lcg_b {x : Int} : 0 ≤ lcg x ∧ lcg x < 30091 := by unfold lcg; omega
theorem lcgN_b {x : Int} (h : 0 ≤ x ∧ x < 30091) : ∀ k : Nat, 0 ≤ lcgN x k ∧ lcgN x k < 30091
  | 0 => h
  | _ + 1 => lcg_b
section
variable {G : zG} {h H h1 HT : zHp} {x m pp ip st im pe pt pk : Nat} {s s1 s2 : Nat → Int → Int} {r : zHp} {fp fi fe ft fk : Int → Value}
theorem c_nextX {y : Int} (y0 : 0 ≤ y) (y1 : y < 30091) : F_JT_nextX [vi y] H = some (some (vi (lcg y)), H) := by
  refine zMeq rfl ?_
  simp (disch := first | assumption | omega | exact zTy_0 | exact zTy_3 | exact zTy_3n | exact zTy_1 | exact zTy_B | exact zTy_b0 | exact zTy_4 | exact zEl_n | exact zEz4 | exact zEz9 | exact hz _ _ | exact hz2 _ _ | exact zI0 | exact zI1 | exact zI2 | exact zI3 | exact zI4 | exact zI5 | exact zI6 | exact zI7 | exact zI8 | exact zI9 | exact zI10 | (simp only [zl_21, zl_22, zs_2, ne_eq]; omega) | ((repeat (refine Eq.trans (us_r (by decide)) ?_)); assumption) | ((simp (decide := true) only [us_k, us_s]); omega)) only [↓rKi, ↓rKl, ↓rKn, ↓rKd, ↓rL, ↓r2, ↓r1, ↓rC2, ↓rC1, ↓rCn, ↓rNot, ↓rAnd, ↓rOr, ↓rCi, ↓rBx, ↓rIte, ↓rGf, ↓rLen, ↓rAx, ↓rNa, ↓rA0, ↓rA1, ↓rCs, ↓rCv, ↓rAn, ↓rNew, ↓rSeq, ↓rSkip, ↓rBrk, ↓rCnt, ↓rRetV, ↓rAsg, ↓rRet, ↓rIf, ↓rPf, ↓rPfo, ↓rAs, ↓rAso, ↓rDo, ↓rObj, ↓rBl, ↓rSw, ↓rCopy, ↓zSq_0, ↓zSq_r, ↓zSq_1, ↓zSq_2, ↓zBq_l, ↓zBq_r, ↓zWq_0, ↓zWq_1, ↓zWq_2, ↓zWq_r, ↓zLo_0, ↓zLo_1, ↓zLo_2, ↓zLo_r, ↓zLt_0, ↓rTr, ↓zFin_s, ↓zFin_n, wX_r, wO_s, wI_t, wI_f, zLk_0, zLk_s, zTv_vi, zTv_vb, zTv_vl, zTv_d, zTv_r, zTv_n, zTv_4, zTo_s, zCl_n, zCl_0, zCl_s, Int32.reduceToInt, Int64.reduceToInt, e_add, e_sub, e_mul, e_neg, e_ladd, e_lsub, e_lmul, e_lneg, q_0, q_1, q_2, q_3, q_4, q_5, q_b0, q_b1, p_0, p_1, p_2, p_3, p_4, p_5, p_b0, p_b1, e_lcmp, pl_0, pl_1, pl_2, pl_3, pl_4, pl_5, e_i2l, e_l2i, e_idiv, e_irem, e_ldiv, e_lrem, List.set_cons_zero, List.set_cons_succ, List.getD_cons_zero, List.getD_cons_succ, List.getD_nil, dT, dF, decide_true, decide_false, not_true_eq_false, not_false_eq_true, Bool.not_true, Bool.not_false, zLay_1, zLay_c1, zLay_c2, zLay_n, zWds_n, zWds_c, zCat_0, zCat_1, zCat_3, zCat_4, zLay_4, List.nil_append, List.cons_append, List.replicate_succ, List.replicate_zero, zTy_0, zTy_b0, zTy_1, zTy_3, zTy_3n, zTy_4, and_true, true_and, Option.bind_some, zNul_n, zNul_r, List.getElem?_cons_zero, List.getElem?_cons_succ, Int.add_zero, zTv_B, zTy_B, b_and, b_or, b_andn, b_not, b_shl, b_cmp, b_cmp0, b_cmp0l, b_eq0, b_eq1, zs_2, zl_21, zl_22, gf_s, gf_l, pf_s, pf_l, zl_z, zs_z, nA, and_self, Nat.le_refl, Option.some.injEq, eq_self, Nat.reduceAdd, Nat.reduceSub, S_JT_nextX]
  rfl
theorem us_66 {y z : Int} : us (us s 1 6 y) 1 6 z = us s 1 6 z := by
  funext q j
  unfold us
  split <;> rfl
theorem us_c {p q y z : Int} (n : p ≠ q) : us (us s 1 p y) 1 q z = us (us s 1 q z) 1 p y := by
  funext k j
  unfold us
  by_cases c : k = 1 ∧ j = q
  · rw [if_pos c, if_neg (by omega), if_pos c]
  · rw [if_neg c, if_neg c]
theorem m_draw {y v : Int} (e6 : s 1 6 = y) (y0 : 0 ≤ y) (y1 : y < 30091) (v0 : 0 < v) (v1 : v < 100000) : F_Mo_draw [.ref m, vi v] (hp m s r) = some (some (vi (lcg y % v)), hp m (us s 1 6 (lcg y)) r) := by
  have b := @lcg_b y
  have e : us s 1 6 ((y * 821 + 631) % 30091) 1 6 = lcg y := us_s
  have e' : lcg y = (y * 821 + 631) % 30091 := rfl
  refine zMeq rfl ?_
  simp (disch := first | assumption | omega | exact zTy_0 | exact zTy_3 | exact zTy_3n | exact zTy_1 | exact zTy_B | exact zTy_b0 | exact zTy_4 | exact zEl_n | exact zEz4 | exact zEz9 | exact hz _ _ | exact hz2 _ _ | exact zI0 | exact zI1 | exact zI2 | exact zI3 | exact zI4 | exact zI5 | exact zI6 | exact zI7 | exact zI8 | exact zI9 | exact zI10 | (simp only [zl_21, zl_22, zs_2, ne_eq]; omega) | ((repeat (refine Eq.trans (us_r (by decide)) ?_)); assumption) | ((simp (decide := true) only [us_k, us_s]); omega)) only [↓rKi, ↓rKl, ↓rKn, ↓rKd, ↓rL, ↓r2, ↓r1, ↓rC2, ↓rC1, ↓rCn, ↓rNot, ↓rAnd, ↓rOr, ↓rCi, ↓rBx, ↓rIte, ↓rGf, ↓rLen, ↓rAx, ↓rNa, ↓rA0, ↓rA1, ↓rCs, ↓rCv, ↓rAn, ↓rNew, ↓rSeq, ↓rSkip, ↓rBrk, ↓rCnt, ↓rRetV, ↓rAsg, ↓rRet, ↓rIf, ↓rPf, ↓rPfo, ↓rAs, ↓rAso, ↓rDo, ↓rObj, ↓rBl, ↓rSw, ↓rCopy, ↓zSq_0, ↓zSq_r, ↓zSq_1, ↓zSq_2, ↓zBq_l, ↓zBq_r, ↓zWq_0, ↓zWq_1, ↓zWq_2, ↓zWq_r, ↓zLo_0, ↓zLo_1, ↓zLo_2, ↓zLo_r, ↓zLt_0, ↓rTr, ↓zFin_s, ↓zFin_n, wX_r, wO_s, wI_t, wI_f, zLk_0, zLk_s, zTv_vi, zTv_vb, zTv_vl, zTv_d, zTv_r, zTv_n, zTv_4, zTo_s, zCl_n, zCl_0, zCl_s, Int32.reduceToInt, Int64.reduceToInt, e_add, e_sub, e_mul, e_neg, e_ladd, e_lsub, e_lmul, e_lneg, q_0, q_1, q_2, q_3, q_4, q_5, q_b0, q_b1, p_0, p_1, p_2, p_3, p_4, p_5, p_b0, p_b1, e_lcmp, pl_0, pl_1, pl_2, pl_3, pl_4, pl_5, e_i2l, e_l2i, e_idiv, e_irem, e_ldiv, e_lrem, List.set_cons_zero, List.set_cons_succ, List.getD_cons_zero, List.getD_cons_succ, List.getD_nil, dT, dF, decide_true, decide_false, not_true_eq_false, not_false_eq_true, Bool.not_true, Bool.not_false, zLay_1, zLay_c1, zLay_c2, zLay_n, zWds_n, zWds_c, zCat_0, zCat_1, zCat_3, zCat_4, zLay_4, List.nil_append, List.cons_append, List.replicate_succ, List.replicate_zero, zTy_0, zTy_b0, zTy_1, zTy_3, zTy_3n, zTy_4, and_true, true_and, Option.bind_some, zNul_n, zNul_r, List.getElem?_cons_zero, List.getElem?_cons_succ, Int.add_zero, zTv_B, zTy_B, b_and, b_or, b_andn, b_not, b_shl, b_cmp, b_cmp0, b_cmp0l, b_eq0, b_eq1, zs_2, zl_21, zl_22, gf_s, gf_l, pf_s, pf_l, zl_z, zs_z, nA, and_self, Nat.le_refl, Option.some.injEq, eq_self, Nat.reduceAdd, Nat.reduceSub, tg_m, mf_0, mf_1, mf_2, mf_3, mf_4, mf_5, mf_6, mf_7, mf_8, mf_9, mp_10, mf_10, mp_11, mf_11, mp_12, mf_12, mp_13, mf_13, mp_14, mf_14, mf_15, mf_16, mp_17, mf_17, mf_18, mf_19, mp_20, mf_20, mp_21, mf_21, mf_22, mp_23, mf_23, mp_24, mf_24, mf_25, mp_26, mf_26, ax_1, asa_1, aso_1, ax_2, asa_2, aso_2, ax_3, asa_3, aso_3, ax_4, asa_4, aso_4, ax_5, asa_5, aso_5, ax_6, asa_6, aso_6, ax_7, asa_7, aso_7, ax_8, asa_8, aso_8, ax_9, asa_9, aso_9, ax_10, asa_10, aso_10, ax_11, asa_11, aso_11, ax_12, asa_12, aso_12, ax_13, asa_13, aso_13, ax_14, asa_14, aso_14, ax_15, asa_15, aso_15, ax_16, asa_16, aso_16, hp_2, us_s, us_k, us_j, us_r, S_Mo_draw, axo_1, e6, ← e']
theorem add_at2 {n K : Nat} {trk : Nat} {A B C : Int → Int} {ev tr : Nat} {fb f : Int → Value} {ba bn : Int → Nat} {hd y : Int} (so : StO G st (s 1) pe pt pk fe ft fk) (hG : ∀ a o, G a = some o → h.1 a = some o ∧ a < h.2.1) (eo : EvO G ev (s 1) (8 + 121 * hd) n tr fb ba) (hh : s 1 5 = hd) (nK : n + K ≤ 40) (y0 : 0 ≤ y ∧ y < 30091) (k3 : ∀ j, 2 ≤ j → j < 2779 → s1 1 j = s 1 j) (r0 : h.2.1 ≤ trk ∧ trk < HT.2.1) (hle : h.2.1 ≤ HT.2.1) (T1 : HT.1 trk = some (67, ar (n + K) f)) (hf : ∀ i : Int, 0 ≤ i → i < n → f i = fb i) (hj : ∀ j : Int, 0 ≤ j → j < K → f (n + j) = .ref (bn j) ∧ (h.2.1 ≤ bn j ∧ bn j < HT.2.1) ∧ HT.1 (bn j) = some (0, [vi (n + j), vi (A j), vi (B j), vi (C j)])) (hv : ∀ j : Int, 0 ≤ j → j < K → (-200 ≤ A j ∧ A j ≤ 200) ∧ (0 ≤ B j ∧ B j < 360) ∧ (1 ≤ C j ∧ C j ≤ 9999)) : StAt (gX G h (evH HT (ug (v5 (s 1)) 3 y) fe ft fk hd trk)) HT.2.1 (us (adS s1 hd n A B C K) 1 6 y 1) := by
  have n4 := eo.1
  have b5 := so.2.1.2.2.2.2.1
  rw [hh] at b5
  have s1n : s1 1 (8 + 121 * hd) = n := by rw [k3 _ (by omega) (by omega)]; exact n4.1
  have same : ∀ j, 2 ≤ j → j < 2779 → j ≠ 6 → (j < 8 + 121 * hd ∨ 8 + 121 * hd + 121 ≤ j) → us (adS s1 hd n A B C K) 1 6 y 1 j = s 1 j := fun j j0 j1 j6 hj => by rw [us_j j6, adS_o (by omega) hj K (by omega), k3 j j0 j1]
  obtain ⟨e1, e2⟩ := adS_e (s1 := s1) (hd := hd) (A := A) (B := B) (C := C) (n := n) (by omega) K
  have e6 : us (adS s1 hd n A B C K) 1 6 y 1 6 = y := us_s
  have eE : ∀ i w : Int, 0 ≤ i → 0 ≤ w → eT (us (adS s1 hd n A B C K) 1 6 y 1) (8 + 121 * hd) i w = eT (adS s1 hd n A B C K 1) (8 + 121 * hd) i w := fun i w i0 w0 => by
    unfold eT
    exact us_j (by omega)
  subst hh
  refine ev_at (n := n + K) (fb := f) (ba := fun i => if i < n then ba i else bn (i - n)) so (fun a o q => (hG a o q).2) r0 ⟨(same 2 (by decide) (by decide) (by decide) (by omega)).symm, (same 3 (by decide) (by decide) (by decide) (by omega)).symm, (same 4 (by decide) (by decide) (by decide) (by omega)).symm, e6.symm, (same 5 (by decide) (by decide) (by decide) (by omega)).symm⟩ (same 5 (by decide) (by decide) (by decide) (by omega)) (by rw [e6]; exact y0) ⟨by rw [us_j (by omega), adS_n s1n]; omega, by omega⟩ T1 (fun i i0 i1 => ?_) (fun j j0 j1 j6 hj => same j j0 j1 j6 hj) hle
  rw [eE i 0 i0 (by decide), eE i 1 i0 (by decide), eE i 2 i0 (by decide)]
  by_cases z : i < n
  · have y := eo.2.2.2 i i0 z
    have kk : ∀ w', 0 ≤ w' → w' < 3 → eT (adS s1 (s 1 5) n A B C K 1) (8 + 121 * s 1 5) i w' = eT (s 1) (8 + 121 * s 1 5) i w' := fun w' w0 w1 => by
      rw [e1 i w' i0 z w0 w1]
      unfold eT
      exact k3 _ (by omega) (by omega)
    rw [kk 0 (by decide) (by decide), kk 1 (by decide) (by decide), kk 2 (by decide) (by decide), if_pos z, hf i i0 z]
    exact ⟨⟨y.1.1, gX_le (fun a o q => (hG a o q).2) _ _ y.1.2⟩, y.2⟩
  · have q := e2 (i - n) (by omega) (by omega)
    have y := hj (i - n) (by omega) (by omega)
    rw [show (n : Int) + (i - n) = i by omega] at q y
    rw [q.1, q.2.1, q.2.2, if_neg z]
    exact ⟨⟨y.1, by rw [gX_n y.2.1.1 y.2.1.2]; exact y.2.2⟩, hv (i - n) (by omega) (by omega)⟩
theorem evH_pf {v : Nat → Int} {hd y : Int} {trk : Nat} : zPfv 0 5 3 (evH HT v fe ft fk hd trk) (.ref HT.2.1) (vi y) = some (evH HT (ug v 3 y) fe ft fk hd trk) := by
  unfold evH
  rw [al_pf (by rw [stN_2.1]; omega), stN_pf (by decide)]
  rfl
/-- one turn of the reference -/
theorem m_drw {hd n y w : Int} {A B C : Int → Int} {k : Nat} (h5 : s1 1 5 = hd) (h0 : s1 1 (8 + 121 * hd) = n) (hd0 : 0 ≤ hd ∧ hd < 3) (n0 : 0 ≤ n) (hk : n + k < 40) : F_Mo_tracks [.ref m] (hp m (us (adS s1 hd n A B C k) 1 6 y) r) = some (some (vi (n + k)), hp m (us (adS s1 hd n A B C k) 1 6 y) r) ∧ F_Mo_layTrack [.ref m, vi (n + k), vi (A k), vi (B k), vi (C k)] (hp m (us (adS s1 hd n A B C k) 1 6 y) r) = some (none, hp m (us (sTr (adS s1 hd n A B C k) hd (n + k) (A k) (B k) (C k)) 1 6 y) r) ∧ F_Mo_counted [.ref m, vi 1] (hp m (us (sTr (adS s1 hd n A B C k) hd (n + k) (A k) (B k) (C k)) 1 6 y) r) = some (some (vi (n + k + 1)), hp m (us (adS s1 hd n A B C (k + 1)) 1 6 y) r) := by
  have d5 : us (adS s1 hd n A B C k) 1 6 y 1 5 = hd := by rw [us_j (by decide), adS_o n0 (by omega) k (by omega), h5]
  have dn := adS_n (A := A) (B := B) (C := C) h0 k
  have tk := e_tracks (m := m) (s := us (adS s1 hd n A B C k) 1 6 y) (r := r) (by omega) (by omega)
  have en : mN (us (adS s1 hd n A B C k) 1 6 y) = n + k := by unfold mN; rw [d5, us_j (by omega)]; exact dn
  rw [en] at tk
  have ly := m_layTrack (m := m) (s := us (adS s1 hd n A B C k) 1 6 y) (r := r) (t := n + k) (a := A k) (b := B k) (w := C k) (by omega) (by omega) (by omega)
  rw [d5, us_c (p := 6) (by omega), us_c (p := 6) (by omega), us_c (p := 6) (by omega)] at ly
  have t5 : us (sTr (adS s1 hd n A B C k) hd (n + k) (A k) (B k) (C k)) 1 6 y 1 5 = hd := by rw [us_j (by decide), sTr_o (by omega), adS_o n0 (by omega) k (by omega), h5]
  have cn := m_counted (m := m) (s := us (sTr (adS s1 hd n A B C k) hd (n + k) (A k) (B k) (C k)) 1 6 y) (r := r) (b := 1) (by omega)
  rw [t5, us_j (x := 6) (by omega), sTr_o (j := 8 + 121 * hd) (by omega), dn, us_c (p := 6) (by omega)] at cn
  exact ⟨tk, ly, cn⟩
end
