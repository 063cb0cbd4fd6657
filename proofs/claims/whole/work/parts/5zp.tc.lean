/-! tiles: the most, the middle one -/
def mxI (f : Int → Int) : Nat → Int
  | 0 => 0
  | k + 1 => if f k ≤ mxI f k then mxI f k else f k
theorem mxI_s {f : Int → Int} {i : Int} (i0 : 0 ≤ i) : mxI f (i + 1).toNat = if f i ≤ mxI f i.toNat then mxI f i.toNat else f i := by
  rw [show (i + 1).toNat = i.toNat + 1 by omega]
  show (if f ((i.toNat : Nat) : Int) ≤ _ then _ else f ((i.toNat : Nat) : Int)) = _
  rw [show ((i.toNat : Nat) : Int) = i by omega]
theorem mxI_f {f : Int → Int} : ∀ k : Nat, 0 ≤ mxI f k ∧ (∀ i : Int, 0 ≤ i → i < k → f i ≤ mxI f k) ∧ (mxI f k = 0 ∨ ∃ i : Int, (0 ≤ i ∧ i < k) ∧ f i = mxI f k)
  | 0 => ⟨Int.le_refl _, fun i a b => by omega, Or.inl rfl⟩
  | k + 1 => by
    obtain ⟨h1, h2, h3⟩ := mxI_f (f := f) k
    unfold mxI
    split
    · next c =>
      refine ⟨h1, fun i a b => ?_, ?_⟩
      · by_cases z : i = k
        · rw [z]; exact c
        · exact h2 i a (by omega)
      · rcases h3 with q | ⟨i, a, b⟩
        · exact Or.inl q
        · exact Or.inr ⟨i, by omega, b⟩
    · next c =>
      refine ⟨by omega, fun i a b => ?_, Or.inr ⟨k, by omega, rfl⟩⟩
      by_cases z : i = k
      · rw [z]; omega
      · have := h2 i a (by omega)
        omega
theorem mxI_eq {f g : Int → Int} {k l : Nat} (h1 : ∀ i : Int, 0 ≤ i → i < k → ∃ j : Int, (0 ≤ j ∧ j < l) ∧ g j = f i) (h2 : ∀ i : Int, 0 ≤ i → i < l → ∃ j : Int, (0 ≤ j ∧ j < k) ∧ f j = g i) : mxI f k = mxI g l := by
  obtain ⟨a1, a2, a3⟩ := mxI_f (f := f) k
  obtain ⟨b1, b2, b3⟩ := mxI_f (f := g) l
  have le1 : mxI f k ≤ mxI g l := by
    rcases a3 with q | ⟨i, ⟨i0, i1⟩, q⟩
    · omega
    · obtain ⟨j, ⟨j0, j1⟩, e⟩ := h1 i i0 i1
      have := b2 j j0 j1
      omega
  have le2 : mxI g l ≤ mxI f k := by
    rcases b3 with q | ⟨i, ⟨i0, i1⟩, q⟩
    · omega
    · obtain ⟨j, ⟨j0, j1⟩, e⟩ := h2 i i0 i1
      have := a2 j j0 j1
      omega
  omega
def bfV (V : Int → Int) (j e : Int) : Bool := decide (V e < V j ∨ (V e = V j ∧ e < j))
theorem cnt_sub {P Q : Int → Bool} {k : Int} (h : ∀ i, 0 ≤ i → i < k → P i = true → Q i = true) : cnt P k ≤ cnt Q k := by
  unfold cnt
  refine isum_le fun i i0 i1 => ?_
  by_cases c : P i = true
  · rw [if_pos c, if_pos (h i i0 (by omega) c)]
    exact Int.le_refl _
  · rw [if_neg c]
    split <;> omega
theorem cnt_sub1 {P Q : Int → Bool} {k x : Int} (x0 : 0 ≤ x) (x1 : x < k) (hP : P x = false) (hQ : Q x = true) (h : ∀ i, 0 ≤ i → i < k → P i = true → Q i = true) : cnt P k + 1 ≤ cnt Q k := by
  have e := cnt_u (P := P) (P' := fun i => if i = x then true else P i) x0 x1 (fun i _ _ hn => if_neg hn)
  have e1 : (if x = x then true else P x) = true := if_pos rfl
  rw [hP] at e
  simp only [if_true, Bool.false_eq_true, if_false] at e
  have l := cnt_sub (P := fun i => if i = x then true else P i) (Q := Q) (k := k) (fun i i0 i1 hp => by
    by_cases z : i = x
    · rw [z]; exact hQ
    · exact h i i0 i1 (by simpa [z] using hp))
  omega
theorem bfV_lt {V : Int → Int} {k i j : Int} (i0 : 0 ≤ i) (i1 : i < k) (h : V i < V j ∨ (V i = V j ∧ i < j)) : cnt (bfV V i) k + 1 ≤ cnt (bfV V j) k := by
  refine cnt_sub1 i0 i1 (decide_eq_false (by omega)) (decide_eq_true h) fun e _ _ he => ?_
  have := of_decide_eq_true he
  exact decide_eq_true (by omega)
theorem bfV_inj {V : Int → Int} {k i j : Int} (i0 : 0 ≤ i) (i1 : i < k) (j0 : 0 ≤ j) (j1 : j < k) (h : cnt (bfV V i) k = cnt (bfV V j) k) : i = j := by
  by_cases c : V i < V j ∨ (V i = V j ∧ i < j)
  · have := bfV_lt i0 i1 c
    omega
  · by_cases d : V j < V i ∨ (V j = V i ∧ j < i)
    · have := bfV_lt j0 j1 d
      omega
    · omega
/-- the middle one of all tiles -/
def midV (sz : Int) : Int := (200 / sz - (-200) / sz + 1) * (359 / sz + 1)
theorem midV_b {sz : Int} (h1 : 1 ≤ sz) : 1 ≤ midV sz ∧ midV sz ≤ 144360 := by
  have a := tl_b (sz := sz) (x := 200) (y := 359) h1 (by decide) (by decide) (by decide) (by decide)
  have b := tl_b (sz := sz) (x := -200) (y := 0) h1 (by decide) (by decide) (by decide) (by decide)
  have c0 : 0 ≤ 200 / sz := Int.ediv_nonneg (by decide) (by omega)
  have c1 : -200 / sz < 0 := Int.ediv_neg_of_neg_of_pos (by decide) (by omega)
  have e1 : 1 * 1 ≤ (200 / sz - (-200) / sz + 1) * (359 / sz + 1) := Int.mul_le_mul (by omega) (by omega) (by decide) (by omega)
  have e2 : (200 / sz - (-200) / sz + 1) * (359 / sz + 1) ≤ 401 * 360 := Int.mul_le_mul (by omega) (by omega) (by omega) (by decide)
  unfold midV
  omega
def MidP (sz : Int) (V : Int → Int) (u M : Int) : Prop := ((midV sz - 1) / 2 - (midV sz - u) < 0 ∧ M = 0) ∨ (0 ≤ (midV sz - 1) / 2 - (midV sz - u) ∧ ∃ j, (0 ≤ j ∧ j < u) ∧ cnt (bfV V j) u = (midV sz - 1) / 2 - (midV sz - u) ∧ M = V j)
section
variable {G : zG} {h H h1 : zHp} {x m pp ip st im : Nat} {s s1 s2 : Nat → Int → Int} {r : zHp} {fp fi : Int → Value} {B : Nat} {gi : Nat → Int} {ga : Nat → Int → Value} {sz : Int} {N : Nat} {In : Int → Bool} {X Y W : Int → Int}
/-- what the i-th tile weighs, how many tracks it has -/
def tlV (sz : Int) (In : Int → Bool) (X Y W : Int → Int) (N : Nat) (j : Int) : Int := tlW In (tlE sz X Y) W (tlE sz X Y (pkR (tlS In (tlE sz X Y)) N j)) N
theorem tlV_b (hx : ∀ e : Int, 0 ≤ e → e < N → 0 ≤ W e ∧ W e ≤ 9999) (N40 : N ≤ 40) (j : Int) : 0 ≤ tlV sz In X Y W N j ∧ tlV sz In X Y W N j ≤ 399960 := by
  have := tlW_b (In := In) (T := tlE sz X Y) (W := W) (C := 9999) (v := tlE sz X Y (pkR (tlS In (tlE sz X Y)) N j)) (by decide) hx (Nat.le_refl _)
  unfold tlV
  omega
theorem c_mostTracks (N40 : N ≤ 40) (ti : TLI sz In X Y W N N gi ga) : F_Ti_mostTracks [.ref B] (bt B sz gi ga r) = some (some (vi (mxI (tlV sz In X Y (fun _ => 1) N) (cnt (tlS In (tlE sz X Y)) N).toNat)), bt B sz gi ga r) := by
  obtain ⟨g1, g2, g3⟩ := ti
  have cn := cnt_nn (P := tlS In (tlE sz X Y)) (k := N)
  have cl := cnt_le (P := tlS In (tlE sz X Y)) (show (0 : Int) ≤ (N : Int) by omega)
  have vb := tlV_b (sz := sz) (In := In) (X := X) (Y := Y) (W := fun _ => 1) (N := N) (fun e _ _ => ⟨by show (0 : Int) ≤ 1; decide, by show (1 : Int) ≤ 9999; decide⟩) N40
  have g4 : ∀ j, 0 ≤ j → j < cnt (tlS In (tlE sz X Y)) N → ga 3 j = vi (tlV sz In X Y (fun _ => 1) N j) := fun j a b => by
    have := (g2 j a b).2.2.2
    rw [show ((N : Int)).toNat = N by omega] at this
    exact this
  clear g2 g3
  generalize tlV sz In X Y (fun _ => 1) N = C at *
  generalize cnt (tlS In (tlE sz X Y)) N = u at *
  refine zMeq rfl ?_
  simp (disch := first | assumption | omega | exact zTy_0 | exact zTy_3 | exact zTy_3n | exact zTy_1 | exact zTy_B | exact zTy_b0 | exact zTy_4 | exact zEl_n | exact zEz4 | exact zEz9 | exact hz _ _ | exact hz2 _ _ | exact zI0 | exact zI1 | exact zI2 | exact zI3 | exact zI4 | exact zI5 | exact zI6 | exact zI7 | exact zI8 | exact zI9 | exact zI10 | (simp only [zl_21, zl_22, zs_2, ne_eq]; omega) | ((repeat (refine Eq.trans (us_r (by decide)) ?_)); assumption) | ((simp (decide := true) only [us_k, us_s]); omega)) only [↓rKi, ↓rKl, ↓rKn, ↓rKd, ↓rL, ↓r2, ↓r1, ↓rC2, ↓rC1, ↓rCn, ↓rNot, ↓rAnd, ↓rOr, ↓rCi, ↓rBx, ↓rIte, ↓rGf, ↓rLen, ↓rAx, ↓rNa, ↓rA0, ↓rA1, ↓rCs, ↓rCv, ↓rAn, ↓rNew, ↓rSeq, ↓rSkip, ↓rBrk, ↓rCnt, ↓rRetV, ↓rAsg, ↓rRet, ↓rIf, ↓rPf, ↓rPfo, ↓rAs, ↓rAso, ↓rDo, ↓rObj, ↓rBl, ↓rSw, ↓rCopy, ↓zSq_0, ↓zSq_r, ↓zSq_1, ↓zSq_2, ↓zBq_l, ↓zBq_r, ↓zWq_0, ↓zWq_1, ↓zWq_2, ↓zWq_r, ↓zLo_0, ↓zLo_1, ↓zLo_2, ↓zLo_r, ↓zLt_0, ↓rTr, ↓zFin_s, ↓zFin_n, wX_r, wO_s, wI_t, wI_f, zLk_0, zLk_s, zTv_vi, zTv_vb, zTv_vl, zTv_d, zTv_r, zTv_n, zTv_4, zTo_s, zCl_n, zCl_0, zCl_s, Int32.reduceToInt, Int64.reduceToInt, e_add, e_sub, e_mul, e_neg, e_ladd, e_lsub, e_lmul, e_lneg, q_0, q_1, q_2, q_3, q_4, q_5, q_b0, q_b1, p_0, p_1, p_2, p_3, p_4, p_5, p_b0, p_b1, e_lcmp, pl_0, pl_1, pl_2, pl_3, pl_4, pl_5, e_i2l, e_l2i, e_idiv, e_irem, e_ldiv, e_lrem, List.set_cons_zero, List.set_cons_succ, List.getD_cons_zero, List.getD_cons_succ, List.getD_nil, dT, dF, decide_true, decide_false, not_true_eq_false, not_false_eq_true, Bool.not_true, Bool.not_false, zLay_1, zLay_c1, zLay_c2, zLay_n, zWds_n, zWds_c, zCat_0, zCat_1, zCat_3, zCat_4, zLay_4, List.nil_append, List.cons_append, List.replicate_succ, List.replicate_zero, zTy_0, zTy_b0, zTy_1, zTy_3, zTy_3n, zTy_4, and_true, true_and, Option.bind_some, zNul_n, zNul_r, List.getElem?_cons_zero, List.getElem?_cons_succ, Int.add_zero, zTv_B, zTy_B, b_and, b_or, b_andn, b_not, b_shl, b_cmp, b_cmp0, b_cmp0l, b_eq0, b_eq1, zs_2, zl_21, zl_22, gf_s, gf_l, pf_s, pf_l, zl_z, zs_z, nA, and_self, Nat.le_refl, Option.some.injEq, eq_self, Nat.reduceAdd, Nat.reduceSub, bt_2, btt_0, btf_0_0, btf_0_1, btf_0_2, btf_0_3, btf_0_4, btf_0_5, btp_0_5, bta_1, btl_1, bts_1, bta_2, btl_2, bts_2, bta_3, btl_3, bts_3, bta_4, btl_4, bts_4, ug_s, ug_n, ua_s, ua_k, ua_j, zStK_64, zStK_65, zStK_67, zStK_68, zStK_69, zStK_70, zStK_71, zStK_72, zStK_73, S_Ti_mostTracks, L_Ti_mostTracks_0]
  refine wForI (fun i env h' => h' = bt B sz gi ga r ∧ env = [.ref B, vi (mxI C i.toNat), vi i]) 0 u (by omega) (by omega) ⟨rfl, rfl⟩ ?_ ?_
  · intro i env h' i0 i1 ⟨hh, he⟩
    subst hh
    subst he
    have es := mxI_s (f := C) i0
    have vi' := vb i
    have mb : 0 ≤ mxI C i.toNat ∧ mxI C i.toNat ≤ 399960 := by
      obtain ⟨a, -, c⟩ := mxI_f (f := C) i.toNat
      rcases c with c | ⟨k, -, c⟩
      · omega
      · have := vb k
        omega
    have g5 := g4 i i0 i1
    have em := e_max (h := bt B sz gi ga r) (x := mxI C i.toNat) (y := C i) (by omega) (by omega)
    rw [← es] at em
    simp (disch := first | assumption | omega | exact zTy_0 | exact zTy_3 | exact zTy_3n | exact zTy_1 | exact zTy_B | exact zTy_b0 | exact zTy_4 | exact zEl_n | exact zEz4 | exact zEz9 | exact hz _ _ | exact hz2 _ _ | exact zI0 | exact zI1 | exact zI2 | exact zI3 | exact zI4 | exact zI5 | exact zI6 | exact zI7 | exact zI8 | exact zI9 | exact zI10 | (simp only [zl_21, zl_22, zs_2, ne_eq]; omega) | ((repeat (refine Eq.trans (us_r (by decide)) ?_)); assumption) | ((simp (decide := true) only [us_k, us_s]); omega)) only [↓rKi, ↓rKl, ↓rKn, ↓rKd, ↓rL, ↓r2, ↓r1, ↓rC2, ↓rC1, ↓rCn, ↓rNot, ↓rAnd, ↓rOr, ↓rCi, ↓rBx, ↓rIte, ↓rGf, ↓rLen, ↓rAx, ↓rNa, ↓rA0, ↓rA1, ↓rCs, ↓rCv, ↓rAn, ↓rNew, ↓rSeq, ↓rSkip, ↓rBrk, ↓rCnt, ↓rRetV, ↓rAsg, ↓rRet, ↓rIf, ↓rPf, ↓rPfo, ↓rAs, ↓rAso, ↓rDo, ↓rObj, ↓rBl, ↓rSw, ↓rCopy, ↓zSq_0, ↓zSq_r, ↓zSq_1, ↓zSq_2, ↓zBq_l, ↓zBq_r, ↓zWq_0, ↓zWq_1, ↓zWq_2, ↓zWq_r, ↓zLo_0, ↓zLo_1, ↓zLo_2, ↓zLo_r, ↓zLt_0, ↓rTr, ↓zFin_s, ↓zFin_n, wX_r, wO_s, wI_t, wI_f, zLk_0, zLk_s, zTv_vi, zTv_vb, zTv_vl, zTv_d, zTv_r, zTv_n, zTv_4, zTo_s, zCl_n, zCl_0, zCl_s, Int32.reduceToInt, Int64.reduceToInt, e_add, e_sub, e_mul, e_neg, e_ladd, e_lsub, e_lmul, e_lneg, q_0, q_1, q_2, q_3, q_4, q_5, q_b0, q_b1, p_0, p_1, p_2, p_3, p_4, p_5, p_b0, p_b1, e_lcmp, pl_0, pl_1, pl_2, pl_3, pl_4, pl_5, e_i2l, e_l2i, e_idiv, e_irem, e_ldiv, e_lrem, List.set_cons_zero, List.set_cons_succ, List.getD_cons_zero, List.getD_cons_succ, List.getD_nil, dT, dF, decide_true, decide_false, not_true_eq_false, not_false_eq_true, Bool.not_true, Bool.not_false, zLay_1, zLay_c1, zLay_c2, zLay_n, zWds_n, zWds_c, zCat_0, zCat_1, zCat_3, zCat_4, zLay_4, List.nil_append, List.cons_append, List.replicate_succ, List.replicate_zero, zTy_0, zTy_b0, zTy_1, zTy_3, zTy_3n, zTy_4, and_true, true_and, Option.bind_some, zNul_n, zNul_r, List.getElem?_cons_zero, List.getElem?_cons_succ, Int.add_zero, zTv_B, zTy_B, b_and, b_or, b_andn, b_not, b_shl, b_cmp, b_cmp0, b_cmp0l, b_eq0, b_eq1, zs_2, zl_21, zl_22, gf_s, gf_l, pf_s, pf_l, zl_z, zs_z, nA, and_self, Nat.le_refl, Option.some.injEq, eq_self, Nat.reduceAdd, Nat.reduceSub, bt_2, btt_0, btf_0_0, btf_0_1, btf_0_2, btf_0_3, btf_0_4, btf_0_5, btp_0_5, bta_1, btl_1, bts_1, bta_2, btl_2, bts_2, bta_3, btl_3, bts_3, bta_4, btl_4, bts_4, ug_s, ug_n, ua_s, ua_k, ua_j, zStK_64, zStK_65, zStK_67, zStK_68, zStK_69, zStK_70, zStK_71, zStK_72, zStK_73, C_Ti_mostTracks_0, B_Ti_mostTracks_0, T_Ti_mostTracks_0, g1, g5, em]
  · intro env h' ⟨hh, he⟩
    subst hh
    subst he
    simp (disch := first | assumption | omega | exact zTy_0 | exact zTy_3 | exact zTy_3n | exact zTy_1 | exact zTy_B | exact zTy_b0 | exact zTy_4 | exact zEl_n | exact zEz4 | exact zEz9 | exact hz _ _ | exact hz2 _ _ | exact zI0 | exact zI1 | exact zI2 | exact zI3 | exact zI4 | exact zI5 | exact zI6 | exact zI7 | exact zI8 | exact zI9 | exact zI10 | (simp only [zl_21, zl_22, zs_2, ne_eq]; omega) | ((repeat (refine Eq.trans (us_r (by decide)) ?_)); assumption) | ((simp (decide := true) only [us_k, us_s]); omega)) only [↓rKi, ↓rKl, ↓rKn, ↓rKd, ↓rL, ↓r2, ↓r1, ↓rC2, ↓rC1, ↓rCn, ↓rNot, ↓rAnd, ↓rOr, ↓rCi, ↓rBx, ↓rIte, ↓rGf, ↓rLen, ↓rAx, ↓rNa, ↓rA0, ↓rA1, ↓rCs, ↓rCv, ↓rAn, ↓rNew, ↓rSeq, ↓rSkip, ↓rBrk, ↓rCnt, ↓rRetV, ↓rAsg, ↓rRet, ↓rIf, ↓rPf, ↓rPfo, ↓rAs, ↓rAso, ↓rDo, ↓rObj, ↓rBl, ↓rSw, ↓rCopy, ↓zSq_0, ↓zSq_r, ↓zSq_1, ↓zSq_2, ↓zBq_l, ↓zBq_r, ↓zWq_0, ↓zWq_1, ↓zWq_2, ↓zWq_r, ↓zLo_0, ↓zLo_1, ↓zLo_2, ↓zLo_r, ↓zLt_0, ↓rTr, ↓zFin_s, ↓zFin_n, wX_r, wO_s, wI_t, wI_f, zLk_0, zLk_s, zTv_vi, zTv_vb, zTv_vl, zTv_d, zTv_r, zTv_n, zTv_4, zTo_s, zCl_n, zCl_0, zCl_s, Int32.reduceToInt, Int64.reduceToInt, e_add, e_sub, e_mul, e_neg, e_ladd, e_lsub, e_lmul, e_lneg, q_0, q_1, q_2, q_3, q_4, q_5, q_b0, q_b1, p_0, p_1, p_2, p_3, p_4, p_5, p_b0, p_b1, e_lcmp, pl_0, pl_1, pl_2, pl_3, pl_4, pl_5, e_i2l, e_l2i, e_idiv, e_irem, e_ldiv, e_lrem, List.set_cons_zero, List.set_cons_succ, List.getD_cons_zero, List.getD_cons_succ, List.getD_nil, dT, dF, decide_true, decide_false, not_true_eq_false, not_false_eq_true, Bool.not_true, Bool.not_false, zLay_1, zLay_c1, zLay_c2, zLay_n, zWds_n, zWds_c, zCat_0, zCat_1, zCat_3, zCat_4, zLay_4, List.nil_append, List.cons_append, List.replicate_succ, List.replicate_zero, zTy_0, zTy_b0, zTy_1, zTy_3, zTy_3n, zTy_4, and_true, true_and, Option.bind_some, zNul_n, zNul_r, List.getElem?_cons_zero, List.getElem?_cons_succ, Int.add_zero, zTv_B, zTy_B, b_and, b_or, b_andn, b_not, b_shl, b_cmp, b_cmp0, b_cmp0l, b_eq0, b_eq1, zs_2, zl_21, zl_22, gf_s, gf_l, pf_s, pf_l, zl_z, zs_z, nA, and_self, Nat.le_refl, Option.some.injEq, eq_self, Nat.reduceAdd, Nat.reduceSub, bt_2, btt_0, btf_0_0, btf_0_1, btf_0_2, btf_0_3, btf_0_4, btf_0_5, btp_0_5, bta_1, btl_1, bts_1, bta_2, btl_2, bts_2, bta_3, btl_3, bts_3, bta_4, btl_4, bts_4, ug_s, ug_n, ua_s, ua_k, ua_j, zStK_64, zStK_65, zStK_67, zStK_68, zStK_69, zStK_70, zStK_71, zStK_72, zStK_73, C_Ti_mostTracks_0, B_Ti_mostTracks_0, T_Ti_mostTracks_0, g1]
theorem c_lessThan {j : Int} (hx : ∀ e : Int, 0 ≤ e → e < N → 0 ≤ W e ∧ W e ≤ 9999) (N40 : N ≤ 40) (ti : TLI sz In X Y W N N gi ga) (j0 : 0 ≤ j) (j1 : j < cnt (tlS In (tlE sz X Y)) N) : F_Ti_lessThan [.ref B, vi j] (bt B sz gi ga r) = some (some (vi (cnt (bfV (tlV sz In X Y W N) j) (cnt (tlS In (tlE sz X Y)) N))), bt B sz gi ga r) := by
  obtain ⟨g1, g2, g3⟩ := ti
  have cn := cnt_nn (P := tlS In (tlE sz X Y)) (k := N)
  have cl := cnt_le (P := tlS In (tlE sz X Y)) (show (0 : Int) ≤ (N : Int) by omega)
  have vb := tlV_b (sz := sz) (In := In) (X := X) (Y := Y) (W := W) (N := N) hx N40
  have g4 : ∀ j, 0 ≤ j → j < cnt (tlS In (tlE sz X Y)) N → ga 2 j = vi (tlV sz In X Y W N j) := fun j a b => by
    have := (g2 j a b).2.2.1
    rw [show ((N : Int)).toNat = N by omega] at this
    exact this
  clear g2 g3
  generalize tlV sz In X Y W N = V at *
  generalize cnt (tlS In (tlE sz X Y)) N = u at *
  have gj := g4 j j0 j1
  have vj := vb j
  refine zMeq rfl ?_
  simp (disch := first | assumption | omega | exact zTy_0 | exact zTy_3 | exact zTy_3n | exact zTy_1 | exact zTy_B | exact zTy_b0 | exact zTy_4 | exact zEl_n | exact zEz4 | exact zEz9 | exact hz _ _ | exact hz2 _ _ | exact zI0 | exact zI1 | exact zI2 | exact zI3 | exact zI4 | exact zI5 | exact zI6 | exact zI7 | exact zI8 | exact zI9 | exact zI10 | (simp only [zl_21, zl_22, zs_2, ne_eq]; omega) | ((repeat (refine Eq.trans (us_r (by decide)) ?_)); assumption) | ((simp (decide := true) only [us_k, us_s]); omega)) only [↓rKi, ↓rKl, ↓rKn, ↓rKd, ↓rL, ↓r2, ↓r1, ↓rC2, ↓rC1, ↓rCn, ↓rNot, ↓rAnd, ↓rOr, ↓rCi, ↓rBx, ↓rIte, ↓rGf, ↓rLen, ↓rAx, ↓rNa, ↓rA0, ↓rA1, ↓rCs, ↓rCv, ↓rAn, ↓rNew, ↓rSeq, ↓rSkip, ↓rBrk, ↓rCnt, ↓rRetV, ↓rAsg, ↓rRet, ↓rIf, ↓rPf, ↓rPfo, ↓rAs, ↓rAso, ↓rDo, ↓rObj, ↓rBl, ↓rSw, ↓rCopy, ↓zSq_0, ↓zSq_r, ↓zSq_1, ↓zSq_2, ↓zBq_l, ↓zBq_r, ↓zWq_0, ↓zWq_1, ↓zWq_2, ↓zWq_r, ↓zLo_0, ↓zLo_1, ↓zLo_2, ↓zLo_r, ↓zLt_0, ↓rTr, ↓zFin_s, ↓zFin_n, wX_r, wO_s, wI_t, wI_f, zLk_0, zLk_s, zTv_vi, zTv_vb, zTv_vl, zTv_d, zTv_r, zTv_n, zTv_4, zTo_s, zCl_n, zCl_0, zCl_s, Int32.reduceToInt, Int64.reduceToInt, e_add, e_sub, e_mul, e_neg, e_ladd, e_lsub, e_lmul, e_lneg, q_0, q_1, q_2, q_3, q_4, q_5, q_b0, q_b1, p_0, p_1, p_2, p_3, p_4, p_5, p_b0, p_b1, e_lcmp, pl_0, pl_1, pl_2, pl_3, pl_4, pl_5, e_i2l, e_l2i, e_idiv, e_irem, e_ldiv, e_lrem, List.set_cons_zero, List.set_cons_succ, List.getD_cons_zero, List.getD_cons_succ, List.getD_nil, dT, dF, decide_true, decide_false, not_true_eq_false, not_false_eq_true, Bool.not_true, Bool.not_false, zLay_1, zLay_c1, zLay_c2, zLay_n, zWds_n, zWds_c, zCat_0, zCat_1, zCat_3, zCat_4, zLay_4, List.nil_append, List.cons_append, List.replicate_succ, List.replicate_zero, zTy_0, zTy_b0, zTy_1, zTy_3, zTy_3n, zTy_4, and_true, true_and, Option.bind_some, zNul_n, zNul_r, List.getElem?_cons_zero, List.getElem?_cons_succ, Int.add_zero, zTv_B, zTy_B, b_and, b_or, b_andn, b_not, b_shl, b_cmp, b_cmp0, b_cmp0l, b_eq0, b_eq1, zs_2, zl_21, zl_22, gf_s, gf_l, pf_s, pf_l, zl_z, zs_z, nA, and_self, Nat.le_refl, Option.some.injEq, eq_self, Nat.reduceAdd, Nat.reduceSub, bt_2, btt_0, btf_0_0, btf_0_1, btf_0_2, btf_0_3, btf_0_4, btf_0_5, btp_0_5, bta_1, btl_1, bts_1, bta_2, btl_2, bts_2, bta_3, btl_3, bts_3, bta_4, btl_4, bts_4, ug_s, ug_n, ua_s, ua_k, ua_j, zStK_64, zStK_65, zStK_67, zStK_68, zStK_69, zStK_70, zStK_71, zStK_72, zStK_73, S_Ti_lessThan, L_Ti_lessThan_0]
  refine wForI (fun i env h' => h' = bt B sz gi ga r ∧ env = [.ref B, vi j, vi (cnt (bfV V j) i), vi i, .null]) 0 u (by omega) (by omega) ⟨rfl, rfl⟩ ?_ ?_
  · intro i env h' i0 i1 ⟨hh, he⟩
    subst hh
    subst he
    have es := cnt_s (P := bfV V j) i0
    have g5 := g4 i i0 i1
    have v5 := vb i
    have c1 := cnt_nn (P := bfV V j) (k := i)
    have c2 := cnt_le (P := bfV V j) i0
    by_cases z1 : V i < V j
    · rw [show bfV V j i = true from decide_eq_true (Or.inl z1), if_pos rfl] at es
      simp (disch := first | assumption | omega | exact zTy_0 | exact zTy_3 | exact zTy_3n | exact zTy_1 | exact zTy_B | exact zTy_b0 | exact zTy_4 | exact zEl_n | exact zEz4 | exact zEz9 | exact hz _ _ | exact hz2 _ _ | exact zI0 | exact zI1 | exact zI2 | exact zI3 | exact zI4 | exact zI5 | exact zI6 | exact zI7 | exact zI8 | exact zI9 | exact zI10 | (simp only [zl_21, zl_22, zs_2, ne_eq]; omega) | ((repeat (refine Eq.trans (us_r (by decide)) ?_)); assumption) | ((simp (decide := true) only [us_k, us_s]); omega)) only [↓rKi, ↓rKl, ↓rKn, ↓rKd, ↓rL, ↓r2, ↓r1, ↓rC2, ↓rC1, ↓rCn, ↓rNot, ↓rAnd, ↓rOr, ↓rCi, ↓rBx, ↓rIte, ↓rGf, ↓rLen, ↓rAx, ↓rNa, ↓rA0, ↓rA1, ↓rCs, ↓rCv, ↓rAn, ↓rNew, ↓rSeq, ↓rSkip, ↓rBrk, ↓rCnt, ↓rRetV, ↓rAsg, ↓rRet, ↓rIf, ↓rPf, ↓rPfo, ↓rAs, ↓rAso, ↓rDo, ↓rObj, ↓rBl, ↓rSw, ↓rCopy, ↓zSq_0, ↓zSq_r, ↓zSq_1, ↓zSq_2, ↓zBq_l, ↓zBq_r, ↓zWq_0, ↓zWq_1, ↓zWq_2, ↓zWq_r, ↓zLo_0, ↓zLo_1, ↓zLo_2, ↓zLo_r, ↓zLt_0, ↓rTr, ↓zFin_s, ↓zFin_n, wX_r, wO_s, wI_t, wI_f, zLk_0, zLk_s, zTv_vi, zTv_vb, zTv_vl, zTv_d, zTv_r, zTv_n, zTv_4, zTo_s, zCl_n, zCl_0, zCl_s, Int32.reduceToInt, Int64.reduceToInt, e_add, e_sub, e_mul, e_neg, e_ladd, e_lsub, e_lmul, e_lneg, q_0, q_1, q_2, q_3, q_4, q_5, q_b0, q_b1, p_0, p_1, p_2, p_3, p_4, p_5, p_b0, p_b1, e_lcmp, pl_0, pl_1, pl_2, pl_3, pl_4, pl_5, e_i2l, e_l2i, e_idiv, e_irem, e_ldiv, e_lrem, List.set_cons_zero, List.set_cons_succ, List.getD_cons_zero, List.getD_cons_succ, List.getD_nil, dT, dF, decide_true, decide_false, not_true_eq_false, not_false_eq_true, Bool.not_true, Bool.not_false, zLay_1, zLay_c1, zLay_c2, zLay_n, zWds_n, zWds_c, zCat_0, zCat_1, zCat_3, zCat_4, zLay_4, List.nil_append, List.cons_append, List.replicate_succ, List.replicate_zero, zTy_0, zTy_b0, zTy_1, zTy_3, zTy_3n, zTy_4, and_true, true_and, Option.bind_some, zNul_n, zNul_r, List.getElem?_cons_zero, List.getElem?_cons_succ, Int.add_zero, zTv_B, zTy_B, b_and, b_or, b_andn, b_not, b_shl, b_cmp, b_cmp0, b_cmp0l, b_eq0, b_eq1, zs_2, zl_21, zl_22, gf_s, gf_l, pf_s, pf_l, zl_z, zs_z, nA, and_self, Nat.le_refl, Option.some.injEq, eq_self, Nat.reduceAdd, Nat.reduceSub, bt_2, btt_0, btf_0_0, btf_0_1, btf_0_2, btf_0_3, btf_0_4, btf_0_5, btp_0_5, bta_1, btl_1, bts_1, bta_2, btl_2, bts_2, bta_3, btl_3, bts_3, bta_4, btl_4, bts_4, ug_s, ug_n, ua_s, ua_k, ua_j, zStK_64, zStK_65, zStK_67, zStK_68, zStK_69, zStK_70, zStK_71, zStK_72, zStK_73, C_Ti_lessThan_0, B_Ti_lessThan_0, T_Ti_lessThan_0, g1, g5, gj]
      rw [es]
    · by_cases z2 : V i = V j
      · by_cases z3 : i < j
        · rw [show bfV V j i = true from decide_eq_true (Or.inr ⟨z2, z3⟩), if_pos rfl] at es
          simp (disch := first | assumption | omega | exact zTy_0 | exact zTy_3 | exact zTy_3n | exact zTy_1 | exact zTy_B | exact zTy_b0 | exact zTy_4 | exact zEl_n | exact zEz4 | exact zEz9 | exact hz _ _ | exact hz2 _ _ | exact zI0 | exact zI1 | exact zI2 | exact zI3 | exact zI4 | exact zI5 | exact zI6 | exact zI7 | exact zI8 | exact zI9 | exact zI10 | (simp only [zl_21, zl_22, zs_2, ne_eq]; omega) | ((repeat (refine Eq.trans (us_r (by decide)) ?_)); assumption) | ((simp (decide := true) only [us_k, us_s]); omega)) only [↓rKi, ↓rKl, ↓rKn, ↓rKd, ↓rL, ↓r2, ↓r1, ↓rC2, ↓rC1, ↓rCn, ↓rNot, ↓rAnd, ↓rOr, ↓rCi, ↓rBx, ↓rIte, ↓rGf, ↓rLen, ↓rAx, ↓rNa, ↓rA0, ↓rA1, ↓rCs, ↓rCv, ↓rAn, ↓rNew, ↓rSeq, ↓rSkip, ↓rBrk, ↓rCnt, ↓rRetV, ↓rAsg, ↓rRet, ↓rIf, ↓rPf, ↓rPfo, ↓rAs, ↓rAso, ↓rDo, ↓rObj, ↓rBl, ↓rSw, ↓rCopy, ↓zSq_0, ↓zSq_r, ↓zSq_1, ↓zSq_2, ↓zBq_l, ↓zBq_r, ↓zWq_0, ↓zWq_1, ↓zWq_2, ↓zWq_r, ↓zLo_0, ↓zLo_1, ↓zLo_2, ↓zLo_r, ↓zLt_0, ↓rTr, ↓zFin_s, ↓zFin_n, wX_r, wO_s, wI_t, wI_f, zLk_0, zLk_s, zTv_vi, zTv_vb, zTv_vl, zTv_d, zTv_r, zTv_n, zTv_4, zTo_s, zCl_n, zCl_0, zCl_s, Int32.reduceToInt, Int64.reduceToInt, e_add, e_sub, e_mul, e_neg, e_ladd, e_lsub, e_lmul, e_lneg, q_0, q_1, q_2, q_3, q_4, q_5, q_b0, q_b1, p_0, p_1, p_2, p_3, p_4, p_5, p_b0, p_b1, e_lcmp, pl_0, pl_1, pl_2, pl_3, pl_4, pl_5, e_i2l, e_l2i, e_idiv, e_irem, e_ldiv, e_lrem, List.set_cons_zero, List.set_cons_succ, List.getD_cons_zero, List.getD_cons_succ, List.getD_nil, dT, dF, decide_true, decide_false, not_true_eq_false, not_false_eq_true, Bool.not_true, Bool.not_false, zLay_1, zLay_c1, zLay_c2, zLay_n, zWds_n, zWds_c, zCat_0, zCat_1, zCat_3, zCat_4, zLay_4, List.nil_append, List.cons_append, List.replicate_succ, List.replicate_zero, zTy_0, zTy_b0, zTy_1, zTy_3, zTy_3n, zTy_4, and_true, true_and, Option.bind_some, zNul_n, zNul_r, List.getElem?_cons_zero, List.getElem?_cons_succ, Int.add_zero, zTv_B, zTy_B, b_and, b_or, b_andn, b_not, b_shl, b_cmp, b_cmp0, b_cmp0l, b_eq0, b_eq1, zs_2, zl_21, zl_22, gf_s, gf_l, pf_s, pf_l, zl_z, zs_z, nA, and_self, Nat.le_refl, Option.some.injEq, eq_self, Nat.reduceAdd, Nat.reduceSub, bt_2, btt_0, btf_0_0, btf_0_1, btf_0_2, btf_0_3, btf_0_4, btf_0_5, btp_0_5, bta_1, btl_1, bts_1, bta_2, btl_2, bts_2, bta_3, btl_3, bts_3, bta_4, btl_4, bts_4, ug_s, ug_n, ua_s, ua_k, ua_j, zStK_64, zStK_65, zStK_67, zStK_68, zStK_69, zStK_70, zStK_71, zStK_72, zStK_73, C_Ti_lessThan_0, B_Ti_lessThan_0, T_Ti_lessThan_0, g1, g5, gj]
          rw [es]
        · rw [show bfV V j i = false from decide_eq_false (by omega)] at es
          simp only [Bool.false_eq_true, if_false, Int.add_zero] at es
          simp (disch := first | assumption | omega | exact zTy_0 | exact zTy_3 | exact zTy_3n | exact zTy_1 | exact zTy_B | exact zTy_b0 | exact zTy_4 | exact zEl_n | exact zEz4 | exact zEz9 | exact hz _ _ | exact hz2 _ _ | exact zI0 | exact zI1 | exact zI2 | exact zI3 | exact zI4 | exact zI5 | exact zI6 | exact zI7 | exact zI8 | exact zI9 | exact zI10 | (simp only [zl_21, zl_22, zs_2, ne_eq]; omega) | ((repeat (refine Eq.trans (us_r (by decide)) ?_)); assumption) | ((simp (decide := true) only [us_k, us_s]); omega)) only [↓rKi, ↓rKl, ↓rKn, ↓rKd, ↓rL, ↓r2, ↓r1, ↓rC2, ↓rC1, ↓rCn, ↓rNot, ↓rAnd, ↓rOr, ↓rCi, ↓rBx, ↓rIte, ↓rGf, ↓rLen, ↓rAx, ↓rNa, ↓rA0, ↓rA1, ↓rCs, ↓rCv, ↓rAn, ↓rNew, ↓rSeq, ↓rSkip, ↓rBrk, ↓rCnt, ↓rRetV, ↓rAsg, ↓rRet, ↓rIf, ↓rPf, ↓rPfo, ↓rAs, ↓rAso, ↓rDo, ↓rObj, ↓rBl, ↓rSw, ↓rCopy, ↓zSq_0, ↓zSq_r, ↓zSq_1, ↓zSq_2, ↓zBq_l, ↓zBq_r, ↓zWq_0, ↓zWq_1, ↓zWq_2, ↓zWq_r, ↓zLo_0, ↓zLo_1, ↓zLo_2, ↓zLo_r, ↓zLt_0, ↓rTr, ↓zFin_s, ↓zFin_n, wX_r, wO_s, wI_t, wI_f, zLk_0, zLk_s, zTv_vi, zTv_vb, zTv_vl, zTv_d, zTv_r, zTv_n, zTv_4, zTo_s, zCl_n, zCl_0, zCl_s, Int32.reduceToInt, Int64.reduceToInt, e_add, e_sub, e_mul, e_neg, e_ladd, e_lsub, e_lmul, e_lneg, q_0, q_1, q_2, q_3, q_4, q_5, q_b0, q_b1, p_0, p_1, p_2, p_3, p_4, p_5, p_b0, p_b1, e_lcmp, pl_0, pl_1, pl_2, pl_3, pl_4, pl_5, e_i2l, e_l2i, e_idiv, e_irem, e_ldiv, e_lrem, List.set_cons_zero, List.set_cons_succ, List.getD_cons_zero, List.getD_cons_succ, List.getD_nil, dT, dF, decide_true, decide_false, not_true_eq_false, not_false_eq_true, Bool.not_true, Bool.not_false, zLay_1, zLay_c1, zLay_c2, zLay_n, zWds_n, zWds_c, zCat_0, zCat_1, zCat_3, zCat_4, zLay_4, List.nil_append, List.cons_append, List.replicate_succ, List.replicate_zero, zTy_0, zTy_b0, zTy_1, zTy_3, zTy_3n, zTy_4, and_true, true_and, Option.bind_some, zNul_n, zNul_r, List.getElem?_cons_zero, List.getElem?_cons_succ, Int.add_zero, zTv_B, zTy_B, b_and, b_or, b_andn, b_not, b_shl, b_cmp, b_cmp0, b_cmp0l, b_eq0, b_eq1, zs_2, zl_21, zl_22, gf_s, gf_l, pf_s, pf_l, zl_z, zs_z, nA, and_self, Nat.le_refl, Option.some.injEq, eq_self, Nat.reduceAdd, Nat.reduceSub, bt_2, btt_0, btf_0_0, btf_0_1, btf_0_2, btf_0_3, btf_0_4, btf_0_5, btp_0_5, bta_1, btl_1, bts_1, bta_2, btl_2, bts_2, bta_3, btl_3, bts_3, bta_4, btl_4, bts_4, ug_s, ug_n, ua_s, ua_k, ua_j, zStK_64, zStK_65, zStK_67, zStK_68, zStK_69, zStK_70, zStK_71, zStK_72, zStK_73, C_Ti_lessThan_0, B_Ti_lessThan_0, T_Ti_lessThan_0, g1, g5, gj]
          rw [es]
      · rw [show bfV V j i = false from decide_eq_false (by omega)] at es
        simp only [Bool.false_eq_true, if_false, Int.add_zero] at es
        simp (disch := first | assumption | omega | exact zTy_0 | exact zTy_3 | exact zTy_3n | exact zTy_1 | exact zTy_B | exact zTy_b0 | exact zTy_4 | exact zEl_n | exact zEz4 | exact zEz9 | exact hz _ _ | exact hz2 _ _ | exact zI0 | exact zI1 | exact zI2 | exact zI3 | exact zI4 | exact zI5 | exact zI6 | exact zI7 | exact zI8 | exact zI9 | exact zI10 | (simp only [zl_21, zl_22, zs_2, ne_eq]; omega) | ((repeat (refine Eq.trans (us_r (by decide)) ?_)); assumption) | ((simp (decide := true) only [us_k, us_s]); omega)) only [↓rKi, ↓rKl, ↓rKn, ↓rKd, ↓rL, ↓r2, ↓r1, ↓rC2, ↓rC1, ↓rCn, ↓rNot, ↓rAnd, ↓rOr, ↓rCi, ↓rBx, ↓rIte, ↓rGf, ↓rLen, ↓rAx, ↓rNa, ↓rA0, ↓rA1, ↓rCs, ↓rCv, ↓rAn, ↓rNew, ↓rSeq, ↓rSkip, ↓rBrk, ↓rCnt, ↓rRetV, ↓rAsg, ↓rRet, ↓rIf, ↓rPf, ↓rPfo, ↓rAs, ↓rAso, ↓rDo, ↓rObj, ↓rBl, ↓rSw, ↓rCopy, ↓zSq_0, ↓zSq_r, ↓zSq_1, ↓zSq_2, ↓zBq_l, ↓zBq_r, ↓zWq_0, ↓zWq_1, ↓zWq_2, ↓zWq_r, ↓zLo_0, ↓zLo_1, ↓zLo_2, ↓zLo_r, ↓zLt_0, ↓rTr, ↓zFin_s, ↓zFin_n, wX_r, wO_s, wI_t, wI_f, zLk_0, zLk_s, zTv_vi, zTv_vb, zTv_vl, zTv_d, zTv_r, zTv_n, zTv_4, zTo_s, zCl_n, zCl_0, zCl_s, Int32.reduceToInt, Int64.reduceToInt, e_add, e_sub, e_mul, e_neg, e_ladd, e_lsub, e_lmul, e_lneg, q_0, q_1, q_2, q_3, q_4, q_5, q_b0, q_b1, p_0, p_1, p_2, p_3, p_4, p_5, p_b0, p_b1, e_lcmp, pl_0, pl_1, pl_2, pl_3, pl_4, pl_5, e_i2l, e_l2i, e_idiv, e_irem, e_ldiv, e_lrem, List.set_cons_zero, List.set_cons_succ, List.getD_cons_zero, List.getD_cons_succ, List.getD_nil, dT, dF, decide_true, decide_false, not_true_eq_false, not_false_eq_true, Bool.not_true, Bool.not_false, zLay_1, zLay_c1, zLay_c2, zLay_n, zWds_n, zWds_c, zCat_0, zCat_1, zCat_3, zCat_4, zLay_4, List.nil_append, List.cons_append, List.replicate_succ, List.replicate_zero, zTy_0, zTy_b0, zTy_1, zTy_3, zTy_3n, zTy_4, and_true, true_and, Option.bind_some, zNul_n, zNul_r, List.getElem?_cons_zero, List.getElem?_cons_succ, Int.add_zero, zTv_B, zTy_B, b_and, b_or, b_andn, b_not, b_shl, b_cmp, b_cmp0, b_cmp0l, b_eq0, b_eq1, zs_2, zl_21, zl_22, gf_s, gf_l, pf_s, pf_l, zl_z, zs_z, nA, and_self, Nat.le_refl, Option.some.injEq, eq_self, Nat.reduceAdd, Nat.reduceSub, bt_2, btt_0, btf_0_0, btf_0_1, btf_0_2, btf_0_3, btf_0_4, btf_0_5, btp_0_5, bta_1, btl_1, bts_1, bta_2, btl_2, bts_2, bta_3, btl_3, bts_3, bta_4, btl_4, bts_4, ug_s, ug_n, ua_s, ua_k, ua_j, zStK_64, zStK_65, zStK_67, zStK_68, zStK_69, zStK_70, zStK_71, zStK_72, zStK_73, C_Ti_lessThan_0, B_Ti_lessThan_0, T_Ti_lessThan_0, g1, g5, gj]
        rw [es]
  · intro env h' ⟨hh, he⟩
    subst hh
    subst he
    simp (disch := first | assumption | omega | exact zTy_0 | exact zTy_3 | exact zTy_3n | exact zTy_1 | exact zTy_B | exact zTy_b0 | exact zTy_4 | exact zEl_n | exact zEz4 | exact zEz9 | exact hz _ _ | exact hz2 _ _ | exact zI0 | exact zI1 | exact zI2 | exact zI3 | exact zI4 | exact zI5 | exact zI6 | exact zI7 | exact zI8 | exact zI9 | exact zI10 | (simp only [zl_21, zl_22, zs_2, ne_eq]; omega) | ((repeat (refine Eq.trans (us_r (by decide)) ?_)); assumption) | ((simp (decide := true) only [us_k, us_s]); omega)) only [↓rKi, ↓rKl, ↓rKn, ↓rKd, ↓rL, ↓r2, ↓r1, ↓rC2, ↓rC1, ↓rCn, ↓rNot, ↓rAnd, ↓rOr, ↓rCi, ↓rBx, ↓rIte, ↓rGf, ↓rLen, ↓rAx, ↓rNa, ↓rA0, ↓rA1, ↓rCs, ↓rCv, ↓rAn, ↓rNew, ↓rSeq, ↓rSkip, ↓rBrk, ↓rCnt, ↓rRetV, ↓rAsg, ↓rRet, ↓rIf, ↓rPf, ↓rPfo, ↓rAs, ↓rAso, ↓rDo, ↓rObj, ↓rBl, ↓rSw, ↓rCopy, ↓zSq_0, ↓zSq_r, ↓zSq_1, ↓zSq_2, ↓zBq_l, ↓zBq_r, ↓zWq_0, ↓zWq_1, ↓zWq_2, ↓zWq_r, ↓zLo_0, ↓zLo_1, ↓zLo_2, ↓zLo_r, ↓zLt_0, ↓rTr, ↓zFin_s, ↓zFin_n, wX_r, wO_s, wI_t, wI_f, zLk_0, zLk_s, zTv_vi, zTv_vb, zTv_vl, zTv_d, zTv_r, zTv_n, zTv_4, zTo_s, zCl_n, zCl_0, zCl_s, Int32.reduceToInt, Int64.reduceToInt, e_add, e_sub, e_mul, e_neg, e_ladd, e_lsub, e_lmul, e_lneg, q_0, q_1, q_2, q_3, q_4, q_5, q_b0, q_b1, p_0, p_1, p_2, p_3, p_4, p_5, p_b0, p_b1, e_lcmp, pl_0, pl_1, pl_2, pl_3, pl_4, pl_5, e_i2l, e_l2i, e_idiv, e_irem, e_ldiv, e_lrem, List.set_cons_zero, List.set_cons_succ, List.getD_cons_zero, List.getD_cons_succ, List.getD_nil, dT, dF, decide_true, decide_false, not_true_eq_false, not_false_eq_true, Bool.not_true, Bool.not_false, zLay_1, zLay_c1, zLay_c2, zLay_n, zWds_n, zWds_c, zCat_0, zCat_1, zCat_3, zCat_4, zLay_4, List.nil_append, List.cons_append, List.replicate_succ, List.replicate_zero, zTy_0, zTy_b0, zTy_1, zTy_3, zTy_3n, zTy_4, and_true, true_and, Option.bind_some, zNul_n, zNul_r, List.getElem?_cons_zero, List.getElem?_cons_succ, Int.add_zero, zTv_B, zTy_B, b_and, b_or, b_andn, b_not, b_shl, b_cmp, b_cmp0, b_cmp0l, b_eq0, b_eq1, zs_2, zl_21, zl_22, gf_s, gf_l, pf_s, pf_l, zl_z, zs_z, nA, and_self, Nat.le_refl, Option.some.injEq, eq_self, Nat.reduceAdd, Nat.reduceSub, bt_2, btt_0, btf_0_0, btf_0_1, btf_0_2, btf_0_3, btf_0_4, btf_0_5, btp_0_5, bta_1, btl_1, bts_1, bta_2, btl_2, bts_2, bta_3, btl_3, bts_3, bta_4, btl_4, bts_4, ug_s, ug_n, ua_s, ua_k, ua_j, zStK_64, zStK_65, zStK_67, zStK_68, zStK_69, zStK_70, zStK_71, zStK_72, zStK_73, C_Ti_lessThan_0, B_Ti_lessThan_0, T_Ti_lessThan_0, g1]
theorem c_middle {M : Int} (hx : ∀ e : Int, 0 ≤ e → e < N → 0 ≤ W e ∧ W e ≤ 9999) (N40 : N ≤ 40) (hs : 1 ≤ sz ∧ sz ≤ 100) (ti : TLI sz In X Y W N N gi ga) (hM : MidP sz (tlV sz In X Y W N) (cnt (tlS In (tlE sz X Y)) N) M) : F_Ti_middleWeight [.ref B] (bt B sz gi ga r) = some (some (vi M), bt B sz gi ga r) := by
  have lt := fun j (j0 : 0 ≤ j) (j1 : j < cnt (tlS In (tlE sz X Y)) N) => c_lessThan (B := B) (r := r) hx N40 ti j0 j1
  obtain ⟨g1, g2, g3⟩ := ti
  have cn := cnt_nn (P := tlS In (tlE sz X Y)) (k := N)
  have cl := cnt_le (P := tlS In (tlE sz X Y)) (show (0 : Int) ≤ (N : Int) by omega)
  have vb := tlV_b (sz := sz) (In := In) (X := X) (Y := Y) (W := W) (N := N) hx N40
  have g4 : ∀ j, 0 ≤ j → j < cnt (tlS In (tlE sz X Y)) N → ga 2 j = vi (tlV sz In X Y W N j) := fun j a b => by
    have := (g2 j a b).2.2.1
    rw [show ((N : Int)).toNat = N by omega] at this
    exact this
  clear g2 g3
  generalize tlV sz In X Y W N = V at *
  generalize cnt (tlS In (tlE sz X Y)) N = u at *
  have mb := midV_b hs.1
  have a := tl_b (sz := sz) (x := 200) (y := 359) hs.1 (by decide) (by decide) (by decide) (by decide)
  have b := tl_b (sz := sz) (x := -200) (y := 0) hs.1 (by decide) (by decide) (by decide) (by decide)
  have em : (200 / sz - (-200) / sz + 1) * (359 / sz + 1) = midV sz := rfl
  refine zMeq rfl ?_
  rcases hM with ⟨q1, q2⟩ | ⟨q1, j, ⟨j0, j1⟩, j2, j3⟩
  · simp (disch := first | assumption | omega | exact zTy_0 | exact zTy_3 | exact zTy_3n | exact zTy_1 | exact zTy_B | exact zTy_b0 | exact zTy_4 | exact zEl_n | exact zEz4 | exact zEz9 | exact hz _ _ | exact hz2 _ _ | exact zI0 | exact zI1 | exact zI2 | exact zI3 | exact zI4 | exact zI5 | exact zI6 | exact zI7 | exact zI8 | exact zI9 | exact zI10 | (simp only [zl_21, zl_22, zs_2, ne_eq]; omega) | ((repeat (refine Eq.trans (us_r (by decide)) ?_)); assumption) | ((simp (decide := true) only [us_k, us_s]); omega)) only [↓rKi, ↓rKl, ↓rKn, ↓rKd, ↓rL, ↓r2, ↓r1, ↓rC2, ↓rC1, ↓rCn, ↓rNot, ↓rAnd, ↓rOr, ↓rCi, ↓rBx, ↓rIte, ↓rGf, ↓rLen, ↓rAx, ↓rNa, ↓rA0, ↓rA1, ↓rCs, ↓rCv, ↓rAn, ↓rNew, ↓rSeq, ↓rSkip, ↓rBrk, ↓rCnt, ↓rRetV, ↓rAsg, ↓rRet, ↓rIf, ↓rPf, ↓rPfo, ↓rAs, ↓rAso, ↓rDo, ↓rObj, ↓rBl, ↓rSw, ↓rCopy, ↓zSq_0, ↓zSq_r, ↓zSq_1, ↓zSq_2, ↓zBq_l, ↓zBq_r, ↓zWq_0, ↓zWq_1, ↓zWq_2, ↓zWq_r, ↓zLo_0, ↓zLo_1, ↓zLo_2, ↓zLo_r, ↓zLt_0, ↓rTr, ↓zFin_s, ↓zFin_n, wX_r, wO_s, wI_t, wI_f, zLk_0, zLk_s, zTv_vi, zTv_vb, zTv_vl, zTv_d, zTv_r, zTv_n, zTv_4, zTo_s, zCl_n, zCl_0, zCl_s, Int32.reduceToInt, Int64.reduceToInt, e_add, e_sub, e_mul, e_neg, e_ladd, e_lsub, e_lmul, e_lneg, q_0, q_1, q_2, q_3, q_4, q_5, q_b0, q_b1, p_0, p_1, p_2, p_3, p_4, p_5, p_b0, p_b1, e_lcmp, pl_0, pl_1, pl_2, pl_3, pl_4, pl_5, e_i2l, e_l2i, e_idiv, e_irem, e_ldiv, e_lrem, List.set_cons_zero, List.set_cons_succ, List.getD_cons_zero, List.getD_cons_succ, List.getD_nil, dT, dF, decide_true, decide_false, not_true_eq_false, not_false_eq_true, Bool.not_true, Bool.not_false, zLay_1, zLay_c1, zLay_c2, zLay_n, zWds_n, zWds_c, zCat_0, zCat_1, zCat_3, zCat_4, zLay_4, List.nil_append, List.cons_append, List.replicate_succ, List.replicate_zero, zTy_0, zTy_b0, zTy_1, zTy_3, zTy_3n, zTy_4, and_true, true_and, Option.bind_some, zNul_n, zNul_r, List.getElem?_cons_zero, List.getElem?_cons_succ, Int.add_zero, zTv_B, zTy_B, b_and, b_or, b_andn, b_not, b_shl, b_cmp, b_cmp0, b_cmp0l, b_eq0, b_eq1, zs_2, zl_21, zl_22, gf_s, gf_l, pf_s, pf_l, zl_z, zs_z, nA, and_self, Nat.le_refl, Option.some.injEq, eq_self, Nat.reduceAdd, Nat.reduceSub, bt_2, btt_0, btf_0_0, btf_0_1, btf_0_2, btf_0_3, btf_0_4, btf_0_5, btp_0_5, bta_1, btl_1, bts_1, bta_2, btl_2, bts_2, bta_3, btl_3, bts_3, bta_4, btl_4, bts_4, ug_s, ug_n, ua_s, ua_k, ua_j, zStK_64, zStK_65, zStK_67, zStK_68, zStK_69, zStK_70, zStK_71, zStK_72, zStK_73, S_Ti_middleWeight, e_downward, em, g1]
    rw [q2]
  · simp (disch := first | assumption | omega | exact zTy_0 | exact zTy_3 | exact zTy_3n | exact zTy_1 | exact zTy_B | exact zTy_b0 | exact zTy_4 | exact zEl_n | exact zEz4 | exact zEz9 | exact hz _ _ | exact hz2 _ _ | exact zI0 | exact zI1 | exact zI2 | exact zI3 | exact zI4 | exact zI5 | exact zI6 | exact zI7 | exact zI8 | exact zI9 | exact zI10 | (simp only [zl_21, zl_22, zs_2, ne_eq]; omega) | ((repeat (refine Eq.trans (us_r (by decide)) ?_)); assumption) | ((simp (decide := true) only [us_k, us_s]); omega)) only [↓rKi, ↓rKl, ↓rKn, ↓rKd, ↓rL, ↓r2, ↓r1, ↓rC2, ↓rC1, ↓rCn, ↓rNot, ↓rAnd, ↓rOr, ↓rCi, ↓rBx, ↓rIte, ↓rGf, ↓rLen, ↓rAx, ↓rNa, ↓rA0, ↓rA1, ↓rCs, ↓rCv, ↓rAn, ↓rNew, ↓rSeq, ↓rSkip, ↓rBrk, ↓rCnt, ↓rRetV, ↓rAsg, ↓rRet, ↓rIf, ↓rPf, ↓rPfo, ↓rAs, ↓rAso, ↓rDo, ↓rObj, ↓rBl, ↓rSw, ↓rCopy, ↓zSq_0, ↓zSq_r, ↓zSq_1, ↓zSq_2, ↓zBq_l, ↓zBq_r, ↓zWq_0, ↓zWq_1, ↓zWq_2, ↓zWq_r, ↓zLo_0, ↓zLo_1, ↓zLo_2, ↓zLo_r, ↓zLt_0, ↓rTr, ↓zFin_s, ↓zFin_n, wX_r, wO_s, wI_t, wI_f, zLk_0, zLk_s, zTv_vi, zTv_vb, zTv_vl, zTv_d, zTv_r, zTv_n, zTv_4, zTo_s, zCl_n, zCl_0, zCl_s, Int32.reduceToInt, Int64.reduceToInt, e_add, e_sub, e_mul, e_neg, e_ladd, e_lsub, e_lmul, e_lneg, q_0, q_1, q_2, q_3, q_4, q_5, q_b0, q_b1, p_0, p_1, p_2, p_3, p_4, p_5, p_b0, p_b1, e_lcmp, pl_0, pl_1, pl_2, pl_3, pl_4, pl_5, e_i2l, e_l2i, e_idiv, e_irem, e_ldiv, e_lrem, List.set_cons_zero, List.set_cons_succ, List.getD_cons_zero, List.getD_cons_succ, List.getD_nil, dT, dF, decide_true, decide_false, not_true_eq_false, not_false_eq_true, Bool.not_true, Bool.not_false, zLay_1, zLay_c1, zLay_c2, zLay_n, zWds_n, zWds_c, zCat_0, zCat_1, zCat_3, zCat_4, zLay_4, List.nil_append, List.cons_append, List.replicate_succ, List.replicate_zero, zTy_0, zTy_b0, zTy_1, zTy_3, zTy_3n, zTy_4, and_true, true_and, Option.bind_some, zNul_n, zNul_r, List.getElem?_cons_zero, List.getElem?_cons_succ, Int.add_zero, zTv_B, zTy_B, b_and, b_or, b_andn, b_not, b_shl, b_cmp, b_cmp0, b_cmp0l, b_eq0, b_eq1, zs_2, zl_21, zl_22, gf_s, gf_l, pf_s, pf_l, zl_z, zs_z, nA, and_self, Nat.le_refl, Option.some.injEq, eq_self, Nat.reduceAdd, Nat.reduceSub, bt_2, btt_0, btf_0_0, btf_0_1, btf_0_2, btf_0_3, btf_0_4, btf_0_5, btp_0_5, bta_1, btl_1, bts_1, bta_2, btl_2, bts_2, bta_3, btl_3, bts_3, bta_4, btl_4, bts_4, ug_s, ug_n, ua_s, ua_k, ua_j, zStK_64, zStK_65, zStK_67, zStK_68, zStK_69, zStK_70, zStK_71, zStK_72, zStK_73, S_Ti_middleWeight, L_Ti_middleWeight_0, e_downward, em, g1]
    refine wForI (fun i env h' => h' = bt B sz gi ga r ∧ (∃ v1 v2 v3, env = [.ref B, v1, v2, v3, vi ((midV sz - 1) / 2 - (midV sz - u)), vi i]) ∧ i ≤ j) 0 u (by omega) (by omega) ⟨rfl, ⟨_, _, _, rfl⟩, j0⟩ ?_ ?_
    · intro i env h' i0 i1 ⟨hh, ⟨v1, v2, v3, he⟩, hi⟩
      subst hh
      subst he
      have l := lt i i0 i1
      have g5 := g4 i i0 i1
      have c1 := cnt_nn (P := bfV V i) (k := u)
      have c2 := cnt_le (P := bfV V i) cn
      by_cases z : cnt (bfV V i) u = (midV sz - 1) / 2 - (midV sz - u)
      · have e : i = j := bfV_inj i0 i1 j0 j1 (z.trans j2.symm)
        subst e
        simp (disch := first | assumption | omega | exact zTy_0 | exact zTy_3 | exact zTy_3n | exact zTy_1 | exact zTy_B | exact zTy_b0 | exact zTy_4 | exact zEl_n | exact zEz4 | exact zEz9 | exact hz _ _ | exact hz2 _ _ | exact zI0 | exact zI1 | exact zI2 | exact zI3 | exact zI4 | exact zI5 | exact zI6 | exact zI7 | exact zI8 | exact zI9 | exact zI10 | (simp only [zl_21, zl_22, zs_2, ne_eq]; omega) | ((repeat (refine Eq.trans (us_r (by decide)) ?_)); assumption) | ((simp (decide := true) only [us_k, us_s]); omega)) only [↓rKi, ↓rKl, ↓rKn, ↓rKd, ↓rL, ↓r2, ↓r1, ↓rC2, ↓rC1, ↓rCn, ↓rNot, ↓rAnd, ↓rOr, ↓rCi, ↓rBx, ↓rIte, ↓rGf, ↓rLen, ↓rAx, ↓rNa, ↓rA0, ↓rA1, ↓rCs, ↓rCv, ↓rAn, ↓rNew, ↓rSeq, ↓rSkip, ↓rBrk, ↓rCnt, ↓rRetV, ↓rAsg, ↓rRet, ↓rIf, ↓rPf, ↓rPfo, ↓rAs, ↓rAso, ↓rDo, ↓rObj, ↓rBl, ↓rSw, ↓rCopy, ↓zSq_0, ↓zSq_r, ↓zSq_1, ↓zSq_2, ↓zBq_l, ↓zBq_r, ↓zWq_0, ↓zWq_1, ↓zWq_2, ↓zWq_r, ↓zLo_0, ↓zLo_1, ↓zLo_2, ↓zLo_r, ↓zLt_0, ↓rTr, ↓zFin_s, ↓zFin_n, wX_r, wO_s, wI_t, wI_f, zLk_0, zLk_s, zTv_vi, zTv_vb, zTv_vl, zTv_d, zTv_r, zTv_n, zTv_4, zTo_s, zCl_n, zCl_0, zCl_s, Int32.reduceToInt, Int64.reduceToInt, e_add, e_sub, e_mul, e_neg, e_ladd, e_lsub, e_lmul, e_lneg, q_0, q_1, q_2, q_3, q_4, q_5, q_b0, q_b1, p_0, p_1, p_2, p_3, p_4, p_5, p_b0, p_b1, e_lcmp, pl_0, pl_1, pl_2, pl_3, pl_4, pl_5, e_i2l, e_l2i, e_idiv, e_irem, e_ldiv, e_lrem, List.set_cons_zero, List.set_cons_succ, List.getD_cons_zero, List.getD_cons_succ, List.getD_nil, dT, dF, decide_true, decide_false, not_true_eq_false, not_false_eq_true, Bool.not_true, Bool.not_false, zLay_1, zLay_c1, zLay_c2, zLay_n, zWds_n, zWds_c, zCat_0, zCat_1, zCat_3, zCat_4, zLay_4, List.nil_append, List.cons_append, List.replicate_succ, List.replicate_zero, zTy_0, zTy_b0, zTy_1, zTy_3, zTy_3n, zTy_4, and_true, true_and, Option.bind_some, zNul_n, zNul_r, List.getElem?_cons_zero, List.getElem?_cons_succ, Int.add_zero, zTv_B, zTy_B, b_and, b_or, b_andn, b_not, b_shl, b_cmp, b_cmp0, b_cmp0l, b_eq0, b_eq1, zs_2, zl_21, zl_22, gf_s, gf_l, pf_s, pf_l, zl_z, zs_z, nA, and_self, Nat.le_refl, Option.some.injEq, eq_self, Nat.reduceAdd, Nat.reduceSub, bt_2, btt_0, btf_0_0, btf_0_1, btf_0_2, btf_0_3, btf_0_4, btf_0_5, btp_0_5, bta_1, btl_1, bts_1, bta_2, btl_2, bts_2, bta_3, btl_3, bts_3, bta_4, btl_4, bts_4, ug_s, ug_n, ua_s, ua_k, ua_j, zStK_64, zStK_65, zStK_67, zStK_68, zStK_69, zStK_70, zStK_71, zStK_72, zStK_73, C_Ti_middleWeight_0, B_Ti_middleWeight_0, T_Ti_middleWeight_0, g1, l, g5]
        rw [j3]
      · simp (disch := first | assumption | omega | exact zTy_0 | exact zTy_3 | exact zTy_3n | exact zTy_1 | exact zTy_B | exact zTy_b0 | exact zTy_4 | exact zEl_n | exact zEz4 | exact zEz9 | exact hz _ _ | exact hz2 _ _ | exact zI0 | exact zI1 | exact zI2 | exact zI3 | exact zI4 | exact zI5 | exact zI6 | exact zI7 | exact zI8 | exact zI9 | exact zI10 | (simp only [zl_21, zl_22, zs_2, ne_eq]; omega) | ((repeat (refine Eq.trans (us_r (by decide)) ?_)); assumption) | ((simp (decide := true) only [us_k, us_s]); omega)) only [↓rKi, ↓rKl, ↓rKn, ↓rKd, ↓rL, ↓r2, ↓r1, ↓rC2, ↓rC1, ↓rCn, ↓rNot, ↓rAnd, ↓rOr, ↓rCi, ↓rBx, ↓rIte, ↓rGf, ↓rLen, ↓rAx, ↓rNa, ↓rA0, ↓rA1, ↓rCs, ↓rCv, ↓rAn, ↓rNew, ↓rSeq, ↓rSkip, ↓rBrk, ↓rCnt, ↓rRetV, ↓rAsg, ↓rRet, ↓rIf, ↓rPf, ↓rPfo, ↓rAs, ↓rAso, ↓rDo, ↓rObj, ↓rBl, ↓rSw, ↓rCopy, ↓zSq_0, ↓zSq_r, ↓zSq_1, ↓zSq_2, ↓zBq_l, ↓zBq_r, ↓zWq_0, ↓zWq_1, ↓zWq_2, ↓zWq_r, ↓zLo_0, ↓zLo_1, ↓zLo_2, ↓zLo_r, ↓zLt_0, ↓rTr, ↓zFin_s, ↓zFin_n, wX_r, wO_s, wI_t, wI_f, zLk_0, zLk_s, zTv_vi, zTv_vb, zTv_vl, zTv_d, zTv_r, zTv_n, zTv_4, zTo_s, zCl_n, zCl_0, zCl_s, Int32.reduceToInt, Int64.reduceToInt, e_add, e_sub, e_mul, e_neg, e_ladd, e_lsub, e_lmul, e_lneg, q_0, q_1, q_2, q_3, q_4, q_5, q_b0, q_b1, p_0, p_1, p_2, p_3, p_4, p_5, p_b0, p_b1, e_lcmp, pl_0, pl_1, pl_2, pl_3, pl_4, pl_5, e_i2l, e_l2i, e_idiv, e_irem, e_ldiv, e_lrem, List.set_cons_zero, List.set_cons_succ, List.getD_cons_zero, List.getD_cons_succ, List.getD_nil, dT, dF, decide_true, decide_false, not_true_eq_false, not_false_eq_true, Bool.not_true, Bool.not_false, zLay_1, zLay_c1, zLay_c2, zLay_n, zWds_n, zWds_c, zCat_0, zCat_1, zCat_3, zCat_4, zLay_4, List.nil_append, List.cons_append, List.replicate_succ, List.replicate_zero, zTy_0, zTy_b0, zTy_1, zTy_3, zTy_3n, zTy_4, and_true, true_and, Option.bind_some, zNul_n, zNul_r, List.getElem?_cons_zero, List.getElem?_cons_succ, Int.add_zero, zTv_B, zTy_B, b_and, b_or, b_andn, b_not, b_shl, b_cmp, b_cmp0, b_cmp0l, b_eq0, b_eq1, zs_2, zl_21, zl_22, gf_s, gf_l, pf_s, pf_l, zl_z, zs_z, nA, and_self, Nat.le_refl, Option.some.injEq, eq_self, Nat.reduceAdd, Nat.reduceSub, bt_2, btt_0, btf_0_0, btf_0_1, btf_0_2, btf_0_3, btf_0_4, btf_0_5, btp_0_5, bta_1, btl_1, bts_1, bta_2, btl_2, bts_2, bta_3, btl_3, bts_3, bta_4, btl_4, bts_4, ug_s, ug_n, ua_s, ua_k, ua_j, zStK_64, zStK_65, zStK_67, zStK_68, zStK_69, zStK_70, zStK_71, zStK_72, zStK_73, C_Ti_middleWeight_0, B_Ti_middleWeight_0, T_Ti_middleWeight_0, g1, l, g5]
        refine ⟨⟨_, _, _, rfl⟩, ?_⟩
        by_cases z2 : i = j
        · subst z2
          exact absurd j2 z
        · omega
    · intro env h' ⟨hh, ⟨v1, v2, v3, he⟩, hi⟩
      omega
end
