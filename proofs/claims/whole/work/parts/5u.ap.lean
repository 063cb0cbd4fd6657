/-! GATHERED APART: leaves of a knot, numbered anew -/
def pkR (P : Int → Bool) : Nat → Int → Int
  | 0, _ => 0
  | n + 1, j => if P n = true ∧ cnt P n = j then n else pkR P n j
section
variable {P : Int → Bool}
theorem pkR_f : ∀ (n : Nat) (j : Int), 0 ≤ j → j < cnt P n → (0 ≤ pkR P n j ∧ pkR P n j < n) ∧ P (pkR P n j) = true ∧ cnt P (pkR P n j) = j
  | 0, j, h0, h1 => by
    have : cnt P ((0 : Nat) : Int) = 0 := cnt_0
    omega
  | n + 1, j, h0, h1 => by
    have e := cnt_s (P := P) (show (0 : Int) ≤ n by omega)
    rw [show ((n + 1 : Nat) : Int) = (n : Int) + 1 by omega] at h1
    by_cases c : P n = true ∧ cnt P n = j
    · show _ ∧ _
      unfold pkR
      rw [if_pos c]
      exact ⟨⟨by omega, by omega⟩, c.1, c.2⟩
    · have : j < cnt P n := by
        by_cases d : P n = true
        · rw [if_pos d] at e
          have : cnt P n ≠ j := fun z => c ⟨d, z⟩
          omega
        · rw [if_neg d] at e
          omega
      have y := pkR_f n j h0 this
      unfold pkR
      rw [if_neg c]
      exact ⟨⟨y.1.1, by omega⟩, y.2⟩
theorem cnt_eq {a b : Int} (h0 : 0 ≤ a) (h : a ≤ b) (hp : ∀ i, a ≤ i → i < b → P i = false) : cnt P b = cnt P a := by
  obtain ⟨d, rfl⟩ : ∃ d : Nat, b = a + d := ⟨(b - a).toNat, by omega⟩
  clear h
  induction d with
  | zero => simp
  | succ d ih =>
    have e := cnt_s (P := P) (show (0 : Int) ≤ a + d by omega)
    rw [show a + ((d + 1 : Nat) : Int) = a + d + 1 by omega, e, hp (a + d) (by omega) (by omega), ih fun i x y => hp i x (by omega)]
    simp
theorem pk_u {n : Nat} {i : Int} (i0 : 0 ≤ i) (i1 : i < n) (hi : P i = true) : pkR P n (cnt P i) = i := by
  have l : cnt P i < cnt P n := cnt_lt i0 i1 hi
  obtain ⟨⟨y1, y2⟩, y3, y4⟩ := pkR_f n (cnt P i) cnt_nn l
  by_cases c : pkR P n (cnt P i) < i
  · have := cnt_lt (P := P) y1 c y3
    omega
  · by_cases d : i < pkR P n (cnt P i)
    · have := cnt_lt (P := P) i0 d hi
      omega
    · omega
end
theorem pc_cnt {S : BitVec 64} {n : Nat} (hn : n ≤ 64) (h : ∀ i : Int, n ≤ i → bHas S i = false) : pc S = cnt (bHas S) n := by
  have e : pc S = cnt (bHas S) 64 := rfl
  rw [e]
  exact cnt_eq (by omega) (by omega) fun i a _ => h i a
/-- two rows at the end of a heap, then bodies -/
def GA (h H : zHp) (N : Nat) (f g : Int → Value) (c : Nat) : Prop := H.1 h.2.1 = some (67, ar N f) ∧ H.1 (h.2.1 + 1) = some (64, ar N g) ∧ (∀ a, a < h.2.1 → H.1 a = h.1 a) ∧ H.2.1 = h.2.1 + 2 + c ∧ H.2.2 = h.2.2 + 2 * N + 4 * c
section
variable {G : zG} {h H h1 : zHp} {x m pp ip st im : Nat} {s s1 s2 : Nat → Int → Int} {r : zHp} {fp fi : Int → Value}
theorem GA_put {N c : Nat} {f g : Int → Value} {i y : Int} {vs : List Value} (l : GA h H N f g c) (i0 : 0 ≤ i) (i1 : i < N) (hN : N ≤ 40) : ∃ H1 H2, zStv 3 67 (some 0) (zAl H 4 (0, vs)) (.ref h.2.1) (vi i) (.ref H.2.1) = some H1 ∧ zStv 0 64 none H1 (.ref (h.2.1 + 1)) (vi i) (vi y) = some H2 ∧ H1.2 = H2.2 ∧ GA h H2 N (up f i (.ref H.2.1)) (up g i (vi y)) (c + 1) ∧ H2.1 H.2.1 = some (0, vs) ∧ ∀ a, h.2.1 + 1 < a → a < H.2.1 → H2.1 a = H.1 a := by
  obtain ⟨l1, l2, l3, l4, l5⟩ := l
  have q1 : (zSet (zAl H 4 (0, vs)) h.2.1 (67, ar N (up f i (.ref H.2.1)))).1 (h.2.1 + 1) = some (64, ar N g) := by rw [zs_n (by omega), zl_n (by omega), l2]
  refine ⟨zSet (zAl H 4 (0, vs)) h.2.1 (67, ar N (up f i (.ref H.2.1))), zSet (zSet (zAl H 4 (0, vs)) h.2.1 (67, ar N (up f i (.ref H.2.1)))) (h.2.1 + 1) (64, ar N (up g i (vi y))), ?_, ?_, rfl, ⟨?_, zs_s, fun a ha => ?_, by show H.2.1 + 1 = _; omega, by show H.2.2 + 4 = _; omega⟩, ?_, fun a a0 a1 => ?_⟩
  · exact g_set ((zl_n (by omega)).trans l1) i0 i1 (by omega) rfl (by simp [zEl, zl_s])
  · exact g_set q1 i0 i1 (by omega) rfl rfl
  · rw [zs_n (by omega), zs_s]
  · rw [zs_n (by omega), zs_n (by omega), zl_n (by omega), l3 a ha]
  · rw [zs_n (by omega), zs_n (by omega), zl_s]
  · rw [zs_n (by omega), zs_n (by omega), zl_n (by omega)]
theorem TrO_h {t n : Nat} {T gh : Nat → Int → Int} {L : Int → BitVec 64} {J : Int → Int} {pk ps pj po on : Nat} {fk fs fj fo : Int → Value} {ka ba sa : Int → Nat} {G' : zG} (q : TrO G t n T gh L J pk ps pj po fk fs fj fo on ka ba sa) (hh : gLe G G') : TrO G' t n T gh L J pk ps pj po fk fs fj fo on ka ba sa := by
  obtain ⟨a, ⟨b1, b2, b3, b4⟩, c, d, e, f⟩ := q
  exact ⟨hh _ _ a, ⟨hh _ _ b1, hh _ _ b2, hh _ _ b3, hh _ _ b4⟩, fun k x y => ⟨(c k x y).1, hh _ _ (c k x y).2.1, hh _ _ (c k x y).2.2⟩, fun u x y => ⟨(d u x y).1, hh _ _ (d u x y).2⟩, e, f⟩
theorem WO_tr (w : WO G x m h s st pp im ip fp fi) {t : Int} (ht : iR t) : (isT s t ∧ ∃ a n gh L J pk ps pj po fk fs fj fo on ka ba sa, F_JT_treeAt [.ref x, vi t] h = some (some (.ref a), h) ∧ TF n (tS (s 1) (371 + 521 * t)) gh L J ∧ TrO G a n (tS (s 1) (371 + 521 * t)) gh L J pk ps pj po fk fs fj fo on ka ba sa) ∨ (¬ isT s t ∧ F_JT_treeAt [.ref x, vi t] h = some (some .null, h)) := by
  obtain ⟨hG, ⟨rest, ex⟩, ⟨pe, pt, pk0, fe, ft, fk0, a, b, ⟨c1, c2, c3⟩, d, e, k⟩, -⟩ := WO_ev w
  have a' := (hG _ _ a).1
  have c2' := (hG _ _ c2).1
  by_cases c : 0 ≤ t ∧ t < 4
  · rcases e t c.1 c.2 with ⟨q1, q2⟩ | ⟨q1, a2, q2, n, gh, L, J, pk, ps, pj, po, fk, fs, fj, fo, on, ka, ba, sa, q3, q4⟩
    · refine Or.inr ⟨fun z => by have := z.2; omega, zMeq rfl ?_⟩
      simp (disch := first | assumption | omega | exact zTy_0 | exact zTy_3 | exact zTy_3n | exact zTy_1 | exact zTy_B | exact zTy_b0 | exact zTy_4 | exact zEl_n | exact zEz4 | exact zEz9 | exact hz _ _ | exact hz2 _ _ | exact zI0 | exact zI1 | exact zI2 | exact zI3 | exact zI4 | exact zI5 | exact zI6 | exact zI7 | exact zI8 | exact zI9 | exact zI10 | (simp only [zl_21, zl_22, zs_2, ne_eq]; omega) | ((repeat (refine Eq.trans (us_r (by decide)) ?_)); assumption) | ((simp (decide := true) only [us_k, us_s]); omega)) only [↓rKi, ↓rKl, ↓rKn, ↓rKd, ↓rL, ↓r2, ↓r1, ↓rC2, ↓rC1, ↓rCn, ↓rNot, ↓rAnd, ↓rOr, ↓rCi, ↓rBx, ↓rIte, ↓rGf, ↓rLen, ↓rAx, ↓rNa, ↓rA0, ↓rA1, ↓rCs, ↓rCv, ↓rAn, ↓rNew, ↓rSeq, ↓rSkip, ↓rBrk, ↓rCnt, ↓rRetV, ↓rAsg, ↓rRet, ↓rIf, ↓rPf, ↓rPfo, ↓rAs, ↓rAso, ↓rDo, ↓rObj, ↓rBl, ↓rSw, ↓rCopy, ↓zSq_0, ↓zSq_r, ↓zSq_1, ↓zSq_2, ↓zBq_l, ↓zBq_r, ↓zWq_0, ↓zWq_1, ↓zWq_2, ↓zWq_r, ↓zLo_0, ↓zLo_1, ↓zLo_2, ↓zLo_r, ↓zLt_0, ↓rTr, ↓zFin_s, ↓zFin_n, wX_r, wO_s, wI_t, wI_f, zLk_0, zLk_s, zTv_vi, zTv_vb, zTv_vl, zTv_d, zTv_r, zTv_n, zTv_4, zTo_s, zCl_n, zCl_0, zCl_s, Int32.reduceToInt, Int64.reduceToInt, e_add, e_sub, e_mul, e_neg, e_ladd, e_lsub, e_lmul, e_lneg, q_0, q_1, q_2, q_3, q_4, q_5, q_b0, q_b1, p_0, p_1, p_2, p_3, p_4, p_5, p_b0, p_b1, e_lcmp, pl_0, pl_1, pl_2, pl_3, pl_4, pl_5, e_i2l, e_l2i, e_idiv, e_irem, e_ldiv, e_lrem, List.set_cons_zero, List.set_cons_succ, List.getD_cons_zero, List.getD_cons_succ, List.getD_nil, dT, dF, decide_true, decide_false, not_true_eq_false, not_false_eq_true, Bool.not_true, Bool.not_false, zLay_1, zLay_c1, zLay_c2, zLay_n, zWds_n, zWds_c, zCat_0, zCat_1, zCat_3, zCat_4, zLay_4, List.nil_append, List.cons_append, List.replicate_succ, List.replicate_zero, zTy_0, zTy_b0, zTy_1, zTy_3, zTy_3n, zTy_4, and_true, true_and, Option.bind_some, zNul_n, zNul_r, List.getElem?_cons_zero, List.getElem?_cons_succ, Int.add_zero, zTv_B, zTy_B, b_and, b_or, b_andn, b_not, b_shl, b_cmp, b_cmp0, b_cmp0l, b_eq0, b_eq1, zs_2, zl_21, zl_22, gf_s, gf_l, pf_s, pf_l, zl_z, zs_z, nA, and_self, Nat.le_refl, Option.some.injEq, eq_self, Nat.reduceAdd, Nat.reduceSub, S_JT_treeAt, c_isTree, g_fld ex, g_fld a', g_ar c2', q2]
    · refine Or.inl ⟨⟨c, q1⟩, a2, n, gh, L, J, pk, ps, pj, po, fk, fs, fj, fo, on, ka, ba, sa, zMeq rfl ?_, q3, q4⟩
      simp (disch := first | assumption | omega | exact zTy_0 | exact zTy_3 | exact zTy_3n | exact zTy_1 | exact zTy_B | exact zTy_b0 | exact zTy_4 | exact zEl_n | exact zEz4 | exact zEz9 | exact hz _ _ | exact hz2 _ _ | exact zI0 | exact zI1 | exact zI2 | exact zI3 | exact zI4 | exact zI5 | exact zI6 | exact zI7 | exact zI8 | exact zI9 | exact zI10 | (simp only [zl_21, zl_22, zs_2, ne_eq]; omega) | ((repeat (refine Eq.trans (us_r (by decide)) ?_)); assumption) | ((simp (decide := true) only [us_k, us_s]); omega)) only [↓rKi, ↓rKl, ↓rKn, ↓rKd, ↓rL, ↓r2, ↓r1, ↓rC2, ↓rC1, ↓rCn, ↓rNot, ↓rAnd, ↓rOr, ↓rCi, ↓rBx, ↓rIte, ↓rGf, ↓rLen, ↓rAx, ↓rNa, ↓rA0, ↓rA1, ↓rCs, ↓rCv, ↓rAn, ↓rNew, ↓rSeq, ↓rSkip, ↓rBrk, ↓rCnt, ↓rRetV, ↓rAsg, ↓rRet, ↓rIf, ↓rPf, ↓rPfo, ↓rAs, ↓rAso, ↓rDo, ↓rObj, ↓rBl, ↓rSw, ↓rCopy, ↓zSq_0, ↓zSq_r, ↓zSq_1, ↓zSq_2, ↓zBq_l, ↓zBq_r, ↓zWq_0, ↓zWq_1, ↓zWq_2, ↓zWq_r, ↓zLo_0, ↓zLo_1, ↓zLo_2, ↓zLo_r, ↓zLt_0, ↓rTr, ↓zFin_s, ↓zFin_n, wX_r, wO_s, wI_t, wI_f, zLk_0, zLk_s, zTv_vi, zTv_vb, zTv_vl, zTv_d, zTv_r, zTv_n, zTv_4, zTo_s, zCl_n, zCl_0, zCl_s, Int32.reduceToInt, Int64.reduceToInt, e_add, e_sub, e_mul, e_neg, e_ladd, e_lsub, e_lmul, e_lneg, q_0, q_1, q_2, q_3, q_4, q_5, q_b0, q_b1, p_0, p_1, p_2, p_3, p_4, p_5, p_b0, p_b1, e_lcmp, pl_0, pl_1, pl_2, pl_3, pl_4, pl_5, e_i2l, e_l2i, e_idiv, e_irem, e_ldiv, e_lrem, List.set_cons_zero, List.set_cons_succ, List.getD_cons_zero, List.getD_cons_succ, List.getD_nil, dT, dF, decide_true, decide_false, not_true_eq_false, not_false_eq_true, Bool.not_true, Bool.not_false, zLay_1, zLay_c1, zLay_c2, zLay_n, zWds_n, zWds_c, zCat_0, zCat_1, zCat_3, zCat_4, zLay_4, List.nil_append, List.cons_append, List.replicate_succ, List.replicate_zero, zTy_0, zTy_b0, zTy_1, zTy_3, zTy_3n, zTy_4, and_true, true_and, Option.bind_some, zNul_n, zNul_r, List.getElem?_cons_zero, List.getElem?_cons_succ, Int.add_zero, zTv_B, zTy_B, b_and, b_or, b_andn, b_not, b_shl, b_cmp, b_cmp0, b_cmp0l, b_eq0, b_eq1, zs_2, zl_21, zl_22, gf_s, gf_l, pf_s, pf_l, zl_z, zs_z, nA, and_self, Nat.le_refl, Option.some.injEq, eq_self, Nat.reduceAdd, Nat.reduceSub, S_JT_treeAt, c_isTree, g_fld ex, g_fld a', g_ar c2', q2]
  · refine Or.inr ⟨fun z => c z.1, zMeq rfl ?_⟩
    simp (disch := first | assumption | omega | exact zTy_0 | exact zTy_3 | exact zTy_3n | exact zTy_1 | exact zTy_B | exact zTy_b0 | exact zTy_4 | exact zEl_n | exact zEz4 | exact zEz9 | exact hz _ _ | exact hz2 _ _ | exact zI0 | exact zI1 | exact zI2 | exact zI3 | exact zI4 | exact zI5 | exact zI6 | exact zI7 | exact zI8 | exact zI9 | exact zI10 | (simp only [zl_21, zl_22, zs_2, ne_eq]; omega) | ((repeat (refine Eq.trans (us_r (by decide)) ?_)); assumption) | ((simp (decide := true) only [us_k, us_s]); omega)) only [↓rKi, ↓rKl, ↓rKn, ↓rKd, ↓rL, ↓r2, ↓r1, ↓rC2, ↓rC1, ↓rCn, ↓rNot, ↓rAnd, ↓rOr, ↓rCi, ↓rBx, ↓rIte, ↓rGf, ↓rLen, ↓rAx, ↓rNa, ↓rA0, ↓rA1, ↓rCs, ↓rCv, ↓rAn, ↓rNew, ↓rSeq, ↓rSkip, ↓rBrk, ↓rCnt, ↓rRetV, ↓rAsg, ↓rRet, ↓rIf, ↓rPf, ↓rPfo, ↓rAs, ↓rAso, ↓rDo, ↓rObj, ↓rBl, ↓rSw, ↓rCopy, ↓zSq_0, ↓zSq_r, ↓zSq_1, ↓zSq_2, ↓zBq_l, ↓zBq_r, ↓zWq_0, ↓zWq_1, ↓zWq_2, ↓zWq_r, ↓zLo_0, ↓zLo_1, ↓zLo_2, ↓zLo_r, ↓zLt_0, ↓rTr, ↓zFin_s, ↓zFin_n, wX_r, wO_s, wI_t, wI_f, zLk_0, zLk_s, zTv_vi, zTv_vb, zTv_vl, zTv_d, zTv_r, zTv_n, zTv_4, zTo_s, zCl_n, zCl_0, zCl_s, Int32.reduceToInt, Int64.reduceToInt, e_add, e_sub, e_mul, e_neg, e_ladd, e_lsub, e_lmul, e_lneg, q_0, q_1, q_2, q_3, q_4, q_5, q_b0, q_b1, p_0, p_1, p_2, p_3, p_4, p_5, p_b0, p_b1, e_lcmp, pl_0, pl_1, pl_2, pl_3, pl_4, pl_5, e_i2l, e_l2i, e_idiv, e_irem, e_ldiv, e_lrem, List.set_cons_zero, List.set_cons_succ, List.getD_cons_zero, List.getD_cons_succ, List.getD_nil, dT, dF, decide_true, decide_false, not_true_eq_false, not_false_eq_true, Bool.not_true, Bool.not_false, zLay_1, zLay_c1, zLay_c2, zLay_n, zWds_n, zWds_c, zCat_0, zCat_1, zCat_3, zCat_4, zLay_4, List.nil_append, List.cons_append, List.replicate_succ, List.replicate_zero, zTy_0, zTy_b0, zTy_1, zTy_3, zTy_3n, zTy_4, and_true, true_and, Option.bind_some, zNul_n, zNul_r, List.getElem?_cons_zero, List.getElem?_cons_succ, Int.add_zero, zTv_B, zTy_B, b_and, b_or, b_andn, b_not, b_shl, b_cmp, b_cmp0, b_cmp0l, b_eq0, b_eq1, zs_2, zl_21, zl_22, gf_s, gf_l, pf_s, pf_l, zl_z, zs_z, nA, and_self, Nat.le_refl, Option.some.injEq, eq_self, Nat.reduceAdd, Nat.reduceSub, S_JT_treeAt, c_isTree, g_fld ex, g_fld a']
/-- the class: leaves of a knot, gathered anew -/
theorem c_gathA {a n : Nat} {T gh : Nat → Int → Int} {L : Int → BitVec 64} {J : Int → Int} {pk ps pj po on : Nat} {fk fs fj fo : Int → Value} {ka ba sa : Int → Nat} {k pw rad : Int} (hG : ∀ b o, G b = some o → h.1 b = some o ∧ b < h.2.1) (tf : TF n T gh L J) (to : TrO G a n T gh L J pk ps pj po fk fs fj fo on ka ba sa) (k0 : 0 ≤ k) (k1 : k < T 0 10) {N : Nat} (hN : pc (L k) = N) (S0 : Nat → Int → Int) (g : GI N 0 S0) (hS : S0 0 10 = N ∧ S0 0 12 = rad ∧ S0 0 13 = pw ∧ S0 0 14 = T 0 14) (lay : ∀ j : Int, 0 ≤ j → j < N → (S0 3 j = T 3 (pkR (bHas (L k)) n j) ∧ S0 4 j = T 4 (pkR (bHas (L k)) n j) ∧ S0 5 j = T 5 (pkR (bHas (L k)) n j)) ∧ S0 6 j = -1 ∧ S0 7 j = -1 ∧ S0 8 j = 1) :
    ∃ (B : Nat) (fo2 : Int → Value) (s2 gh2 : Nat → Int → Int) (L2 : Int → BitVec 64) (gi2 : Nat → Int) (ga2 : Nat → Int → Value) (rz : zHp) (op2 J2 : Int → Int) (ka2 ba2 sa2 : Int → Nat), (B = h.2.1 + 2 + N ∧ ∀ j : Int, 0 ≤ j → j < N → fo2 j = vi (pkR (bHas (L k)) n j)) ∧ gRun N S0 s2 ∧ GC B N N s2 gh2 L2 gi2 ga2 rz op2 J2 ka2 ba2 sa2 ∧ (s2 0 12 = rad ∧ s2 0 13 = pw ∧ s2 0 14 = T 0 14) ∧ ((∀ b, b < h.2.1 → rz.1 b = h.1 b) ∧ rz.1 (h.2.1 + 1) = some (64, ar N fo2) ∧ (B + 8 ≤ rz.2.1 ∧ rz.2.1 ≤ B + 8 + 4 * N) ∧ h.2.2 ≤ rz.2.2 ∧ rz.2.2 ≤ h.2.2 + 23 + 34 * N) ∧ F_Br_gatheredApart [.ref a, .ref (ka k), vi pw, vi rad] h = some (some (.ref (B + 1)), zSet (bg B h.2.1 N rad pw (T 0 14) gi2 ga2 rz) (B + 1) (9, [vi rad, vi pw, vi (T 0 14), vi (N : Int), .ref (B + 2), vi (gi2 5), .ref (B + 3), vi (gi2 6), .ref (B + 4), vi (gi2 7), .ref (h.2.1 + 1)])) := by
  have toh : TrO h.1 a n T gh L J pk ps pj po fk fs fj fo on ka ba sa := TrO_h to fun b o q => (hG b o q).1
  have nn := tf_n tf
  have nj := tf_jets tf
  obtain ⟨bz1, bz2, bz3, bz4⟩ := tf_bits tf k0 k1
  have pcn : pc (L k) = cnt (bHas (L k)) n := pc_cnt (by omega) bz2
  obtain ⟨-, y2, -⟩ := kn_f toh k0 k1
  have kal := (hG _ _ (to.2.2.1 k k0 k1).2.1).2
  have al := (hG _ _ to.1).2
  have pkl := (hG _ _ to.2.1.1).2
  have bc := fun H => e_bitCount (b := L k) (h := H)
  -- where the turns end
  obtain ⟨⟨z1, z2⟩, z3, z4⟩ := pkR_f (P := bHas (L k)) n (N - 1) (by omega) (by omega)
  generalize hq : pkR (bHas (L k)) n (N - 1) = q at *
  have cq := cnt_s (P := bHas (L k)) z1
  rw [if_pos z3] at cq
  have cend : cnt (bHas (L k)) (q + 1) = N := by omega
  -- the heap before the turns
  let h0 := zAl (zAl h N (67, ar N (fun _ => .null))) N (64, ar N (fun _ => vi 0))
  have old : ∀ (H : zHp), (∀ b, b < h.2.1 → H.1 b = h.1 b) → H.1 a = h.1 a ∧ H.1 (ka k) = h.1 (ka k) ∧ H.1 pk = h.1 pk ∧ ∀ i : Int, 0 ≤ i → i < n → H.1 (ka i) = h.1 (ka i) ∧ H.1 (ba i) = h.1 (ba i) ∧ ba i < h.2.1 := fun H e => by
    refine ⟨e _ al, e _ kal, e _ pkl, fun i i0 i1 => ?_⟩
    obtain ⟨w1, w2, w3⟩ := to.2.2.1 i i0 (by omega)
    exact ⟨e _ (hG _ _ w2).2, e _ (hG _ _ w3).2, (hG _ _ w3).2⟩
  have loop : ∃ H f g, L_Br_gatheredApart_0 [.ref a, .ref (ka k), vi pw, vi rad, vi N, .ref h.2.1, .ref (h.2.1 + 1), vi 0, vi 0] h0 = some (.inl (0, [.ref a, .ref (ka k), vi pw, vi rad, vi N, .ref h.2.1, .ref (h.2.1 + 1), vi N, vi (q + 1)]), H) ∧ GA h H N f g N ∧ ∀ j : Int, 0 ≤ j → j < N → f j = .ref (h.2.1 + 2 + j.toNat) ∧ g j = vi (pkR (bHas (L k)) n j) ∧ H.1 (h.2.1 + 2 + j.toNat) = some (0, [vi j, vi (T 3 (pkR (bHas (L k)) n j)), vi (T 4 (pkR (bHas (L k)) n j)), vi (T 5 (pkR (bHas (L k)) n j))]) := by
    have go : wS (fun o h' => ∃ f g, (GA h h' N f g N ∧ ∀ j : Int, 0 ≤ j → j < N → f j = .ref (h.2.1 + 2 + j.toNat) ∧ g j = vi (pkR (bHas (L k)) n j) ∧ h'.1 (h.2.1 + 2 + j.toNat) = some (0, [vi j, vi (T 3 (pkR (bHas (L k)) n j)), vi (T 4 (pkR (bHas (L k)) n j)), vi (T 5 (pkR (bHas (L k)) n j))])) ∧ o = .inl (0, [.ref a, .ref (ka k), vi pw, vi rad, vi N, .ref h.2.1, .ref (h.2.1 + 1), vi N, vi (q + 1)])) L_Br_gatheredApart_0 [.ref a, .ref (ka k), vi pw, vi rad, vi N, .ref h.2.1, .ref (h.2.1 + 1), vi 0, vi 0] h0 (zu _) := by
      refine wForI (fun i env h' => ∃ f g, (GA h h' N f g (cnt (bHas (L k)) i).toNat ∧ ∀ j : Int, 0 ≤ j → j < cnt (bHas (L k)) i → f j = .ref (h.2.1 + 2 + j.toNat) ∧ g j = vi (pkR (bHas (L k)) n j) ∧ h'.1 (h.2.1 + 2 + j.toNat) = some (0, [vi j, vi (T 3 (pkR (bHas (L k)) n j)), vi (T 4 (pkR (bHas (L k)) n j)), vi (T 5 (pkR (bHas (L k)) n j))])) ∧ env = [.ref a, .ref (ka k), vi pw, vi rad, vi N, .ref h.2.1, .ref (h.2.1 + 1), vi (cnt (bHas (L k)) i), vi i]) 0 (q + 1) (by omega) (by omega) ⟨fun _ => .null, fun _ => vi 0, ⟨⟨?_, zl_s, fun b hb => ?_, rfl, ?_⟩, fun j j0 j1 => by rw [cnt_0] at j1; omega⟩, rfl⟩ ?_ ?_
      · exact (zl_n (by rw [zl_21]; omega)).trans zl_s
      · exact (zl_n (by rw [zl_21]; omega)).trans (zl_n (by omega))
      · show h.2.2 + N + N = h.2.2 + 2 * N + 4 * 0
        omega
      · intro i env h' i0 i1 ⟨f, g, ⟨ga, hj⟩, he⟩
        subst he
        obtain ⟨o1, o2, o3, o4⟩ := old h' ga.2.2.1
        have t1 := o1.trans toh.1
        have kk := o2.trans y2
        have pp' := o3.trans toh.2.1.1
        have cs := cnt_s (P := bHas (L k)) i0
        have cm := cnt_mono (P := bHas (L k)) i0 (show i ≤ q by omega)
        have cc := cnt_nn (P := bHas (L k)) (k := i)
        have isn := e_isInS (h := h') (a := L k) i0 (show i < 64 by omega)
        by_cases c : bHas (L k) i = true
        · rw [if_pos c] at cs
          rw [c] at isn
          obtain ⟨w1, w2, w3⟩ := kn_f toh i0 (by omega)
          obtain ⟨o5, o6, o7⟩ := o4 i i0 (by omega)
          have kn := o5.trans w2
          have bn := o6.trans w3
          have nb := c_numbered (i := cnt (bHas (L k)) i) bn (by rw [ga.2.2.2.1]; omega)
          have tgb := fun rest => g_tag (rest := rest) bn
          have ga' := ga
          obtain ⟨H1, H2, p1, p2, p3, p4, p5, p6⟩ := GA_put (i := cnt (bHas (L k)) i) (y := i) (vs := [vi (cnt (bHas (L k)) i), vi (T 3 i), vi (T 4 i), vi (T 5 i)]) ga cc (by omega) (by omega)
          have st67 : zStK 67 = (3, some 0) := rfl
          have st64 : zStK 64 = (0, none) := rfl
          simp (disch := first | assumption | omega | exact zTy_0 | exact zTy_3 | exact zTy_3n | exact zTy_1 | exact zTy_B | exact zTy_b0 | exact zTy_4 | exact zEl_n | exact zEz4 | exact zEz9 | exact hz _ _ | exact hz2 _ _ | exact zI0 | exact zI1 | exact zI2 | exact zI3 | exact zI4 | exact zI5 | exact zI6 | exact zI7 | exact zI8 | exact zI9 | exact zI10 | (simp only [zl_21, zl_22, zs_2, ne_eq]; omega) | ((repeat (refine Eq.trans (us_r (by decide)) ?_)); assumption) | ((simp (decide := true) only [us_k, us_s]); omega)) only [↓rKi, ↓rKl, ↓rKn, ↓rKd, ↓rL, ↓r2, ↓r1, ↓rC2, ↓rC1, ↓rCn, ↓rNot, ↓rAnd, ↓rOr, ↓rCi, ↓rBx, ↓rIte, ↓rGf, ↓rLen, ↓rAx, ↓rNa, ↓rA0, ↓rA1, ↓rCs, ↓rCv, ↓rAn, ↓rNew, ↓rSeq, ↓rSkip, ↓rBrk, ↓rCnt, ↓rRetV, ↓rAsg, ↓rRet, ↓rIf, ↓rPf, ↓rPfo, ↓rAs, ↓rAso, ↓rDo, ↓rObj, ↓rBl, ↓rSw, ↓rCopy, ↓zSq_0, ↓zSq_r, ↓zSq_1, ↓zSq_2, ↓zBq_l, ↓zBq_r, ↓zWq_0, ↓zWq_1, ↓zWq_2, ↓zWq_r, ↓zLo_0, ↓zLo_1, ↓zLo_2, ↓zLo_r, ↓zLt_0, ↓rTr, ↓zFin_s, ↓zFin_n, wX_r, wO_s, wI_t, wI_f, zLk_0, zLk_s, zTv_vi, zTv_vb, zTv_vl, zTv_d, zTv_r, zTv_n, zTv_4, zTo_s, zCl_n, zCl_0, zCl_s, Int32.reduceToInt, Int64.reduceToInt, e_add, e_sub, e_mul, e_neg, e_ladd, e_lsub, e_lmul, e_lneg, q_0, q_1, q_2, q_3, q_4, q_5, q_b0, q_b1, p_0, p_1, p_2, p_3, p_4, p_5, p_b0, p_b1, e_lcmp, pl_0, pl_1, pl_2, pl_3, pl_4, pl_5, e_i2l, e_l2i, e_idiv, e_irem, e_ldiv, e_lrem, List.set_cons_zero, List.set_cons_succ, List.getD_cons_zero, List.getD_cons_succ, List.getD_nil, dT, dF, decide_true, decide_false, not_true_eq_false, not_false_eq_true, Bool.not_true, Bool.not_false, zLay_1, zLay_c1, zLay_c2, zLay_n, zWds_n, zWds_c, zCat_0, zCat_1, zCat_3, zCat_4, zLay_4, List.nil_append, List.cons_append, List.replicate_succ, List.replicate_zero, zTy_0, zTy_b0, zTy_1, zTy_3, zTy_3n, zTy_4, and_true, true_and, Option.bind_some, zNul_n, zNul_r, List.getElem?_cons_zero, List.getElem?_cons_succ, Int.add_zero, zTv_B, zTy_B, b_and, b_or, b_andn, b_not, b_shl, b_cmp, b_cmp0, b_cmp0l, b_eq0, b_eq1, zs_2, zl_21, zl_22, gf_s, gf_l, pf_s, pf_l, zl_z, zs_z, nA, and_self, Nat.le_refl, Option.some.injEq, eq_self, Nat.reduceAdd, Nat.reduceSub, C_Br_gatheredApart_0, B_Br_gatheredApart_0, T_Br_gatheredApart_0, g_fld t1, g_fld kk, isn, g_ar pp', w1, g_fld kn, tgb, nb, st67, p1, st64, p2]
          rw [cs]
          refine ⟨_, _, ⟨by rw [show (cnt (bHas (L k)) i + 1).toNat = (cnt (bHas (L k)) i).toNat + 1 by omega]; exact p4, fun j j0 j1 => ?_⟩, rfl⟩
          by_cases z : j = cnt (bHas (L k)) i
          · have e : h.2.1 + 2 + j.toNat = h'.2.1 := by rw [ga'.2.2.2.1, z]
            have pu := pk_u (P := bHas (L k)) (n := n) i0 (by omega) c
            rw [e, p5, z, up_s, up_s, pu]
            exact ⟨rfl, rfl, rfl⟩
          · have y := hj j j0 (by omega)
            rw [up_n z, up_n z, p6 _ (by omega) (by rw [ga'.2.2.2.1]; omega)]
            exact y
        · have c' : bHas (L k) i = false := by cases z : bHas (L k) i with
            | false => rfl
            | true => exact absurd z c
          rw [if_neg c, Int.add_zero] at cs
          rw [c'] at isn
          simp (disch := first | assumption | omega | exact zTy_0 | exact zTy_3 | exact zTy_3n | exact zTy_1 | exact zTy_B | exact zTy_b0 | exact zTy_4 | exact zEl_n | exact zEz4 | exact zEz9 | exact hz _ _ | exact hz2 _ _ | exact zI0 | exact zI1 | exact zI2 | exact zI3 | exact zI4 | exact zI5 | exact zI6 | exact zI7 | exact zI8 | exact zI9 | exact zI10 | (simp only [zl_21, zl_22, zs_2, ne_eq]; omega) | ((repeat (refine Eq.trans (us_r (by decide)) ?_)); assumption) | ((simp (decide := true) only [us_k, us_s]); omega)) only [↓rKi, ↓rKl, ↓rKn, ↓rKd, ↓rL, ↓r2, ↓r1, ↓rC2, ↓rC1, ↓rCn, ↓rNot, ↓rAnd, ↓rOr, ↓rCi, ↓rBx, ↓rIte, ↓rGf, ↓rLen, ↓rAx, ↓rNa, ↓rA0, ↓rA1, ↓rCs, ↓rCv, ↓rAn, ↓rNew, ↓rSeq, ↓rSkip, ↓rBrk, ↓rCnt, ↓rRetV, ↓rAsg, ↓rRet, ↓rIf, ↓rPf, ↓rPfo, ↓rAs, ↓rAso, ↓rDo, ↓rObj, ↓rBl, ↓rSw, ↓rCopy, ↓zSq_0, ↓zSq_r, ↓zSq_1, ↓zSq_2, ↓zBq_l, ↓zBq_r, ↓zWq_0, ↓zWq_1, ↓zWq_2, ↓zWq_r, ↓zLo_0, ↓zLo_1, ↓zLo_2, ↓zLo_r, ↓zLt_0, ↓rTr, ↓zFin_s, ↓zFin_n, wX_r, wO_s, wI_t, wI_f, zLk_0, zLk_s, zTv_vi, zTv_vb, zTv_vl, zTv_d, zTv_r, zTv_n, zTv_4, zTo_s, zCl_n, zCl_0, zCl_s, Int32.reduceToInt, Int64.reduceToInt, e_add, e_sub, e_mul, e_neg, e_ladd, e_lsub, e_lmul, e_lneg, q_0, q_1, q_2, q_3, q_4, q_5, q_b0, q_b1, p_0, p_1, p_2, p_3, p_4, p_5, p_b0, p_b1, e_lcmp, pl_0, pl_1, pl_2, pl_3, pl_4, pl_5, e_i2l, e_l2i, e_idiv, e_irem, e_ldiv, e_lrem, List.set_cons_zero, List.set_cons_succ, List.getD_cons_zero, List.getD_cons_succ, List.getD_nil, dT, dF, decide_true, decide_false, not_true_eq_false, not_false_eq_true, Bool.not_true, Bool.not_false, zLay_1, zLay_c1, zLay_c2, zLay_n, zWds_n, zWds_c, zCat_0, zCat_1, zCat_3, zCat_4, zLay_4, List.nil_append, List.cons_append, List.replicate_succ, List.replicate_zero, zTy_0, zTy_b0, zTy_1, zTy_3, zTy_3n, zTy_4, and_true, true_and, Option.bind_some, zNul_n, zNul_r, List.getElem?_cons_zero, List.getElem?_cons_succ, Int.add_zero, zTv_B, zTy_B, b_and, b_or, b_andn, b_not, b_shl, b_cmp, b_cmp0, b_cmp0l, b_eq0, b_eq1, zs_2, zl_21, zl_22, gf_s, gf_l, pf_s, pf_l, zl_z, zs_z, nA, and_self, Nat.le_refl, Option.some.injEq, eq_self, Nat.reduceAdd, Nat.reduceSub, C_Br_gatheredApart_0, B_Br_gatheredApart_0, T_Br_gatheredApart_0, g_fld t1, g_fld kk, isn]
          rw [cs]
          exact ⟨f, g, ⟨ga, hj⟩, rfl⟩
      · intro env h' ⟨f, g, ⟨ga, hj⟩, he⟩
        subst he
        obtain ⟨o1, o2, o3, o4⟩ := old h' ga.2.2.1
        have t1 := o1.trans toh.1
        rw [cend] at ga hj ⊢
        rw [show ((N : Int)).toNat = N by omega] at ga
        by_cases e : q + 1 < n
        · simp (disch := first | assumption | omega | exact zTy_0 | exact zTy_3 | exact zTy_3n | exact zTy_1 | exact zTy_B | exact zTy_b0 | exact zTy_4 | exact zEl_n | exact zEz4 | exact zEz9 | exact hz _ _ | exact hz2 _ _ | exact zI0 | exact zI1 | exact zI2 | exact zI3 | exact zI4 | exact zI5 | exact zI6 | exact zI7 | exact zI8 | exact zI9 | exact zI10 | (simp only [zl_21, zl_22, zs_2, ne_eq]; omega) | ((repeat (refine Eq.trans (us_r (by decide)) ?_)); assumption) | ((simp (decide := true) only [us_k, us_s]); omega)) only [↓rKi, ↓rKl, ↓rKn, ↓rKd, ↓rL, ↓r2, ↓r1, ↓rC2, ↓rC1, ↓rCn, ↓rNot, ↓rAnd, ↓rOr, ↓rCi, ↓rBx, ↓rIte, ↓rGf, ↓rLen, ↓rAx, ↓rNa, ↓rA0, ↓rA1, ↓rCs, ↓rCv, ↓rAn, ↓rNew, ↓rSeq, ↓rSkip, ↓rBrk, ↓rCnt, ↓rRetV, ↓rAsg, ↓rRet, ↓rIf, ↓rPf, ↓rPfo, ↓rAs, ↓rAso, ↓rDo, ↓rObj, ↓rBl, ↓rSw, ↓rCopy, ↓zSq_0, ↓zSq_r, ↓zSq_1, ↓zSq_2, ↓zBq_l, ↓zBq_r, ↓zWq_0, ↓zWq_1, ↓zWq_2, ↓zWq_r, ↓zLo_0, ↓zLo_1, ↓zLo_2, ↓zLo_r, ↓zLt_0, ↓rTr, ↓zFin_s, ↓zFin_n, wX_r, wO_s, wI_t, wI_f, zLk_0, zLk_s, zTv_vi, zTv_vb, zTv_vl, zTv_d, zTv_r, zTv_n, zTv_4, zTo_s, zCl_n, zCl_0, zCl_s, Int32.reduceToInt, Int64.reduceToInt, e_add, e_sub, e_mul, e_neg, e_ladd, e_lsub, e_lmul, e_lneg, q_0, q_1, q_2, q_3, q_4, q_5, q_b0, q_b1, p_0, p_1, p_2, p_3, p_4, p_5, p_b0, p_b1, e_lcmp, pl_0, pl_1, pl_2, pl_3, pl_4, pl_5, e_i2l, e_l2i, e_idiv, e_irem, e_ldiv, e_lrem, List.set_cons_zero, List.set_cons_succ, List.getD_cons_zero, List.getD_cons_succ, List.getD_nil, dT, dF, decide_true, decide_false, not_true_eq_false, not_false_eq_true, Bool.not_true, Bool.not_false, zLay_1, zLay_c1, zLay_c2, zLay_n, zWds_n, zWds_c, zCat_0, zCat_1, zCat_3, zCat_4, zLay_4, List.nil_append, List.cons_append, List.replicate_succ, List.replicate_zero, zTy_0, zTy_b0, zTy_1, zTy_3, zTy_3n, zTy_4, and_true, true_and, Option.bind_some, zNul_n, zNul_r, List.getElem?_cons_zero, List.getElem?_cons_succ, Int.add_zero, zTv_B, zTy_B, b_and, b_or, b_andn, b_not, b_shl, b_cmp, b_cmp0, b_cmp0l, b_eq0, b_eq1, zs_2, zl_21, zl_22, gf_s, gf_l, pf_s, pf_l, zl_z, zs_z, nA, and_self, Nat.le_refl, Option.some.injEq, eq_self, Nat.reduceAdd, Nat.reduceSub, C_Br_gatheredApart_0, B_Br_gatheredApart_0, T_Br_gatheredApart_0, g_fld t1]
          exact ⟨f, g, ga, hj⟩
        · simp (disch := first | assumption | omega | exact zTy_0 | exact zTy_3 | exact zTy_3n | exact zTy_1 | exact zTy_B | exact zTy_b0 | exact zTy_4 | exact zEl_n | exact zEz4 | exact zEz9 | exact hz _ _ | exact hz2 _ _ | exact zI0 | exact zI1 | exact zI2 | exact zI3 | exact zI4 | exact zI5 | exact zI6 | exact zI7 | exact zI8 | exact zI9 | exact zI10 | (simp only [zl_21, zl_22, zs_2, ne_eq]; omega) | ((repeat (refine Eq.trans (us_r (by decide)) ?_)); assumption) | ((simp (decide := true) only [us_k, us_s]); omega)) only [↓rKi, ↓rKl, ↓rKn, ↓rKd, ↓rL, ↓r2, ↓r1, ↓rC2, ↓rC1, ↓rCn, ↓rNot, ↓rAnd, ↓rOr, ↓rCi, ↓rBx, ↓rIte, ↓rGf, ↓rLen, ↓rAx, ↓rNa, ↓rA0, ↓rA1, ↓rCs, ↓rCv, ↓rAn, ↓rNew, ↓rSeq, ↓rSkip, ↓rBrk, ↓rCnt, ↓rRetV, ↓rAsg, ↓rRet, ↓rIf, ↓rPf, ↓rPfo, ↓rAs, ↓rAso, ↓rDo, ↓rObj, ↓rBl, ↓rSw, ↓rCopy, ↓zSq_0, ↓zSq_r, ↓zSq_1, ↓zSq_2, ↓zBq_l, ↓zBq_r, ↓zWq_0, ↓zWq_1, ↓zWq_2, ↓zWq_r, ↓zLo_0, ↓zLo_1, ↓zLo_2, ↓zLo_r, ↓zLt_0, ↓rTr, ↓zFin_s, ↓zFin_n, wX_r, wO_s, wI_t, wI_f, zLk_0, zLk_s, zTv_vi, zTv_vb, zTv_vl, zTv_d, zTv_r, zTv_n, zTv_4, zTo_s, zCl_n, zCl_0, zCl_s, Int32.reduceToInt, Int64.reduceToInt, e_add, e_sub, e_mul, e_neg, e_ladd, e_lsub, e_lmul, e_lneg, q_0, q_1, q_2, q_3, q_4, q_5, q_b0, q_b1, p_0, p_1, p_2, p_3, p_4, p_5, p_b0, p_b1, e_lcmp, pl_0, pl_1, pl_2, pl_3, pl_4, pl_5, e_i2l, e_l2i, e_idiv, e_irem, e_ldiv, e_lrem, List.set_cons_zero, List.set_cons_succ, List.getD_cons_zero, List.getD_cons_succ, List.getD_nil, dT, dF, decide_true, decide_false, not_true_eq_false, not_false_eq_true, Bool.not_true, Bool.not_false, zLay_1, zLay_c1, zLay_c2, zLay_n, zWds_n, zWds_c, zCat_0, zCat_1, zCat_3, zCat_4, zLay_4, List.nil_append, List.cons_append, List.replicate_succ, List.replicate_zero, zTy_0, zTy_b0, zTy_1, zTy_3, zTy_3n, zTy_4, and_true, true_and, Option.bind_some, zNul_n, zNul_r, List.getElem?_cons_zero, List.getElem?_cons_succ, Int.add_zero, zTv_B, zTy_B, b_and, b_or, b_andn, b_not, b_shl, b_cmp, b_cmp0, b_cmp0l, b_eq0, b_eq1, zs_2, zl_21, zl_22, gf_s, gf_l, pf_s, pf_l, zl_z, zs_z, nA, and_self, Nat.le_refl, Option.some.injEq, eq_self, Nat.reduceAdd, Nat.reduceSub, C_Br_gatheredApart_0, B_Br_gatheredApart_0, T_Br_gatheredApart_0, g_fld t1]
          exact ⟨f, g, ga, hj⟩
    obtain ⟨o, h', e, f, g, q1, rfl⟩ := go
    exact ⟨h', f, g, e, q1.1, q1.2⟩
  obtain ⟨H, f, fo2, eL, ⟨a1, a2, a3, a4, a5⟩, hj⟩ := loop
  have st := tf_set tf
  have hba : ∀ j : Int, 0 ≤ j → j < N → f j = .ref (h.2.1 + 2 + j.toNat) ∧ H.1 (h.2.1 + 2 + j.toNat) = some (0, bV S0 j) ∧ h.2.1 + 2 + j.toNat < H.2.1 := fun j j0 j1 => by
    obtain ⟨w1, w2, w3⟩ := hj j j0 j1
    obtain ⟨⟨l1, l2, l3⟩, -⟩ := lay j j0 j1
    refine ⟨w1, ?_, by omega⟩
    rw [w3, bV, l1, l2, l3]
  obtain ⟨s2, gh2, L2, gi2, ga2, rz, op2, J2, ka2, ba2, sa2, q1, q2, q3, q4, q5⟩ := e_gathered (h := H) (tr := h.2.1) (n := N) (f := f) (ba := fun j => h.2.1 + 2 + j.toNat) a1 (by omega) hba (by omega) g hS.1 hS.2 (by rw [hS.2.2.2]; exact st.2.2) (fun j j0 j1 => (lay j j0 j1).2)
  refine ⟨H.2.1, fo2, s2, gh2, L2, gi2, ga2, rz, op2, J2, ka2, ba2, sa2, ⟨a4, fun j j0 j1 => (hj j j0 j1).2.1⟩, q1, q2, q3, ⟨fun b hb => (q4.1 b (by omega)).trans (a3 b hb), (q4.1 _ (by omega)).trans a2, q4.2.1, by omega, by omega⟩, zMeq rfl ?_⟩
  have gi := fun v0 v1 v2 v3 v4 v5 v6 v7 v8 => e_gaInit (h := H) (tr := h.2.1) (n := N) (rad := rad) (pw := pw) (sm := T 0 14) (v0 := v0) (v1 := v1) (v2 := v2) (v3 := v3) (v4 := v4) (v5 := v5) (v6 := v6) (v7 := v7) (v8 := v8) a1 (by omega) (by omega)
  obtain ⟨o1, o2, o3, o4⟩ := old H a3
  have t1 := toh.1
  have t1H := o1.trans toh.1
  have t1A : ∀ k o, (zAl H k o).1 a = _ := fun k o => (zl_n (by omega)).trans t1H
  have bt : ∀ rest gi ga r, zTgo (bg H.2.1 h.2.1 N rad pw (T 0 14) gi ga r) (.ref H.2.1 :: rest) 3 = some () := fun rest gi ga r => g_tag (vs := _) (by have := bg_at (B := H.2.1) (tr := h.2.1) (n := N) (rad := rad) (pw := pw) (sm := T 0 14) (gi := gi) (ga := ga) (r := r) 0 (by decide); rw [Nat.add_zero] at this; exact this)
  have b1 : (bg H.2.1 h.2.1 N rad pw (T 0 14) gi2 ga2 rz).1 (H.2.1 + 1) = some (9, bgF1 H.2.1 h.2.1 N rad pw (T 0 14) gi2) := bg_at 1 (by decide)
  have pf : zPfv 3 9 10 (bg H.2.1 h.2.1 N rad pw (T 0 14) gi2 ga2 rz) (.ref (H.2.1 + 1)) (.ref (h.2.1 + 1)) = some (zSet (bg H.2.1 h.2.1 N rad pw (T 0 14) gi2 ga2 rz) (H.2.1 + 1) (9, [vi rad, vi pw, vi (T 0 14), vi (N : Int), .ref (H.2.1 + 2), vi (gi2 5), .ref (H.2.1 + 3), vi (gi2 6), .ref (H.2.1 + 4), vi (gi2 7), .ref (h.2.1 + 1)])) := by
    rw [g_put b1 (by unfold bgF1; simp) rfl]
    rfl
  have g2 : (gh0 H N).2 = (H.2.1 + 8, H.2.2 + (23 + 5 * N)) := rfl
  have na := fun (d : Value) (tg : Nat) (H : zHp) => g_na (t := tg) (d := d) (h := H) (x := (N : Int)) (by omega) (by omega)
  rw [show ((N : Int)).toNat = N by omega] at na
  simp (disch := first | assumption | omega | exact zTy_0 | exact zTy_3 | exact zTy_3n | exact zTy_1 | exact zTy_B | exact zTy_b0 | exact zTy_4 | exact zEl_n | exact zEz4 | exact zEz9 | exact hz _ _ | exact hz2 _ _ | exact zI0 | exact zI1 | exact zI2 | exact zI3 | exact zI4 | exact zI5 | exact zI6 | exact zI7 | exact zI8 | exact zI9 | exact zI10 | (simp only [zl_21, zl_22, zs_2, ne_eq]; omega) | ((repeat (refine Eq.trans (us_r (by decide)) ?_)); assumption) | ((simp (decide := true) only [us_k, us_s]); omega)) only [↓rKi, ↓rKl, ↓rKn, ↓rKd, ↓rL, ↓r2, ↓r1, ↓rC2, ↓rC1, ↓rCn, ↓rNot, ↓rAnd, ↓rOr, ↓rCi, ↓rBx, ↓rIte, ↓rGf, ↓rLen, ↓rAx, ↓rNa, ↓rA0, ↓rA1, ↓rCs, ↓rCv, ↓rAn, ↓rNew, ↓rSeq, ↓rSkip, ↓rBrk, ↓rCnt, ↓rRetV, ↓rAsg, ↓rRet, ↓rIf, ↓rPf, ↓rPfo, ↓rAs, ↓rAso, ↓rDo, ↓rObj, ↓rBl, ↓rSw, ↓rCopy, ↓zSq_0, ↓zSq_r, ↓zSq_1, ↓zSq_2, ↓zBq_l, ↓zBq_r, ↓zWq_0, ↓zWq_1, ↓zWq_2, ↓zWq_r, ↓zLo_0, ↓zLo_1, ↓zLo_2, ↓zLo_r, ↓zLt_0, ↓rTr, ↓zFin_s, ↓zFin_n, wX_r, wO_s, wI_t, wI_f, zLk_0, zLk_s, zTv_vi, zTv_vb, zTv_vl, zTv_d, zTv_r, zTv_n, zTv_4, zTo_s, zCl_n, zCl_0, zCl_s, Int32.reduceToInt, Int64.reduceToInt, e_add, e_sub, e_mul, e_neg, e_ladd, e_lsub, e_lmul, e_lneg, q_0, q_1, q_2, q_3, q_4, q_5, q_b0, q_b1, p_0, p_1, p_2, p_3, p_4, p_5, p_b0, p_b1, e_lcmp, pl_0, pl_1, pl_2, pl_3, pl_4, pl_5, e_i2l, e_l2i, e_idiv, e_irem, e_ldiv, e_lrem, List.set_cons_zero, List.set_cons_succ, List.getD_cons_zero, List.getD_cons_succ, List.getD_nil, dT, dF, decide_true, decide_false, not_true_eq_false, not_false_eq_true, Bool.not_true, Bool.not_false, zLay_1, zLay_c1, zLay_c2, zLay_n, zWds_n, zWds_c, zCat_0, zCat_1, zCat_3, zCat_4, zLay_4, List.nil_append, List.cons_append, List.replicate_succ, List.replicate_zero, zTy_0, zTy_b0, zTy_1, zTy_3, zTy_3n, zTy_4, and_true, true_and, Option.bind_some, zNul_n, zNul_r, List.getElem?_cons_zero, List.getElem?_cons_succ, Int.add_zero, zTv_B, zTy_B, b_and, b_or, b_andn, b_not, b_shl, b_cmp, b_cmp0, b_cmp0l, b_eq0, b_eq1, zs_2, zl_21, zl_22, gf_s, gf_l, pf_s, pf_l, zl_z, zs_z, nA, and_self, Nat.le_refl, Option.some.injEq, eq_self, Nat.reduceAdd, Nat.reduceSub, S_Br_gatheredApart, g_fld t1, g_fld y2, bc, hN, na]
  refine wS_of eL ?_
  simp (disch := first | assumption | omega | exact zTy_0 | exact zTy_3 | exact zTy_3n | exact zTy_1 | exact zTy_B | exact zTy_b0 | exact zTy_4 | exact zEl_n | exact zEz4 | exact zEz9 | exact hz _ _ | exact hz2 _ _ | exact zI0 | exact zI1 | exact zI2 | exact zI3 | exact zI4 | exact zI5 | exact zI6 | exact zI7 | exact zI8 | exact zI9 | exact zI10 | (simp only [zl_21, zl_22, zs_2, ne_eq]; omega) | ((repeat (refine Eq.trans (us_r (by decide)) ?_)); assumption) | ((simp (decide := true) only [us_k, us_s]); omega)) only [↓rKi, ↓rKl, ↓rKn, ↓rKd, ↓rL, ↓r2, ↓r1, ↓rC2, ↓rC1, ↓rCn, ↓rNot, ↓rAnd, ↓rOr, ↓rCi, ↓rBx, ↓rIte, ↓rGf, ↓rLen, ↓rAx, ↓rNa, ↓rA0, ↓rA1, ↓rCs, ↓rCv, ↓rAn, ↓rNew, ↓rSeq, ↓rSkip, ↓rBrk, ↓rCnt, ↓rRetV, ↓rAsg, ↓rRet, ↓rIf, ↓rPf, ↓rPfo, ↓rAs, ↓rAso, ↓rDo, ↓rObj, ↓rBl, ↓rSw, ↓rCopy, ↓zSq_0, ↓zSq_r, ↓zSq_1, ↓zSq_2, ↓zBq_l, ↓zBq_r, ↓zWq_0, ↓zWq_1, ↓zWq_2, ↓zWq_r, ↓zLo_0, ↓zLo_1, ↓zLo_2, ↓zLo_r, ↓zLt_0, ↓rTr, ↓zFin_s, ↓zFin_n, wX_r, wO_s, wI_t, wI_f, zLk_0, zLk_s, zTv_vi, zTv_vb, zTv_vl, zTv_d, zTv_r, zTv_n, zTv_4, zTo_s, zCl_n, zCl_0, zCl_s, Int32.reduceToInt, Int64.reduceToInt, e_add, e_sub, e_mul, e_neg, e_ladd, e_lsub, e_lmul, e_lneg, q_0, q_1, q_2, q_3, q_4, q_5, q_b0, q_b1, p_0, p_1, p_2, p_3, p_4, p_5, p_b0, p_b1, e_lcmp, pl_0, pl_1, pl_2, pl_3, pl_4, pl_5, e_i2l, e_l2i, e_idiv, e_irem, e_ldiv, e_lrem, List.set_cons_zero, List.set_cons_succ, List.getD_cons_zero, List.getD_cons_succ, List.getD_nil, dT, dF, decide_true, decide_false, not_true_eq_false, not_false_eq_true, Bool.not_true, Bool.not_false, zLay_1, zLay_c1, zLay_c2, zLay_n, zWds_n, zWds_c, zCat_0, zCat_1, zCat_3, zCat_4, zLay_4, List.nil_append, List.cons_append, List.replicate_succ, List.replicate_zero, zTy_0, zTy_b0, zTy_1, zTy_3, zTy_3n, zTy_4, and_true, true_and, Option.bind_some, zNul_n, zNul_r, List.getElem?_cons_zero, List.getElem?_cons_succ, Int.add_zero, zTv_B, zTy_B, b_and, b_or, b_andn, b_not, b_shl, b_cmp, b_cmp0, b_cmp0l, b_eq0, b_eq1, zs_2, zl_21, zl_22, gf_s, gf_l, pf_s, pf_l, zl_z, zs_z, nA, and_self, Nat.le_refl, Option.some.injEq, eq_self, Nat.reduceAdd, Nat.reduceSub, g_fld t1H, g_fld (t1A _ _), gi, bt, q5, pf, bg_2, g2]
  have := q4.2
  omega
end
