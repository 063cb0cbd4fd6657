/-! jets apart: the class -/
section
variable {G : zG} {x m a n : Nat} {h h1 H : zHp} {s T gh : Nat → Int → Int} {r : zHp} {L : Int → BitVec 64} {J : Int → Int} {pk ps pj po on : Nat} {fk fs fj fo : Int → Value} {ka ba sa : Int → Nat} {t : Int}
def axV (ka : Int → Nat) (p : (Int → Int) × Int) (i : Int) : Value := if i < p.2 then .ref (ka (p.1 i)) else .null
def axH (h : zHp) (ka : Int → Nat) (p : (Int → Int) × Int) : zHp := zAl h 9 (71, ar 9 (axV ka p))
theorem ax_o (hG : ∀ a o, G a = some o → h.1 a = some o ∧ a < h.2.1) {f : Int → Value} : ∀ a o, G a = some o → (zAl h 9 (71, ar 9 f)).1 a = some o := fun a o q => by
  have := hG a o q
  exact (zl_n (by omega)).trans this.1
theorem ax_put (hG : ∀ a o, G a = some o → h.1 a = some o ∧ a < h.2.1) {f : Int → Value} {b : Nat} {vs : List Value} (e : G b = some (4, vs)) {i : Int} (i0 : 0 ≤ i) (i9 : i < 9) : zStv 3 71 (some 4) (zAl h 9 (71, ar 9 f)) (.ref h.2.1) (vi i) (.ref b) = some (zAl h 9 (71, ar 9 (up f i (.ref b)))) := by
  have e' := ax_o (f := f) hG _ _ e
  rw [g_set zl_s i0 (by omega) (by decide) rfl (by simp [zEl, e']), zl_z]
theorem c_axes (tf : TF n T gh L J) (q : TrO G a n T gh L J pk ps pj po fk fs fj fo on ka ba sa) (hG : ∀ a o, G a = some o → h.1 a = some o ∧ a < h.2.1) {k N : Int} (k0 : 0 ≤ k) (k1 : k < T 0 10) (n0 : 1 ≤ N) (n9 : N ≤ 9) : ∃ v5 v6 v7 v8, L_Br_tauBits_0 [.ref a, .ref (ka k), vi N, .ref h.2.1, vi 1, vi 1, .null, .null, .null] (axH h ka (tx T n k 0)) = some (.inl (0, [.ref a, .ref (ka k), vi N, .ref h.2.1, vi (tx T n k (N - 1).toNat).2, v5, v6, v7, v8]), axH h ka (tx T n k (N - 1).toNat)) := by
  have key : wS (fun o h1 => (∃ v5 v6 v7 v8, o = .inl (0, [.ref a, .ref (ka k), vi N, .ref h.2.1, vi (tx T n k (N - 1).toNat).2, v5, v6, v7, v8])) ∧ h1 = axH h ka (tx T n k (N - 1).toNat)) L_Br_tauBits_0 [.ref a, .ref (ka k), vi N, .ref h.2.1, vi 1, vi 1, .null, .null, .null] (axH h ka (tx T n k 0)) (zu _) := by
    unfold L_Br_tauBits_0
    refine wForI (fun e env h' => h' = axH h ka (tx T n k (e - 1).toNat) ∧ env = [.ref a, .ref (ka k), vi N, .ref h.2.1, vi (tx T n k (e - 1).toNat).2, vi e, .null, .null, .null]) 1 N (by omega) (by omega) ⟨rfl, rfl⟩ ?_ ?_
    · intro e env h' e0 e1 ⟨hh, he⟩
      subst hh
      subst he
      have es := tx_s (T := T) (n := n) (k := k) e0
      obtain ⟨⟨c1, c2⟩, v⟩ := tx_ok (k := k) tf k0 k1 (e - 1).toNat
      have stop := tx_stop (T := T) (n := n) (k := k) (e := (e - 1).toNat)
      generalize hp' : tx T n k (e - 1).toNat = p at *
      have e9 : (axH h ka p).1 h.2.1 = some (71, ar 9 (axV ka p)) := zl_s
      have qH := TrO_h q (ax_o (f := axV ka p) hG)
      have lt := c_latest tf qH v e9 c1 (by omega) (fun i i0 i1 => if_pos i1)
      have ca := cl_ax tf v (p.2 - 1).toNat
      rw [show (p.2 - 1).toNat + 1 = p.2.toNat by omega] at ca
      have ab := axI_b (W := p.1) (p.2 - 1).toNat
      have eI : axI p.1 (p.2 - 1).toNat = txI p := rfl
      rw [eI] at ca ab
      by_cases z : (n : Int) ≤ p.1 (txI p)
      · have ec : clI gh n p.1 p.2.toNat = txI p := by omega
        rw [ec] at lt
        have vi' := v (txI p)
        obtain ⟨-, y2, -⟩ := kn_f qH vi'.1 vi'.2
        have jn' := (tf_join tf z vi'.2).1
        have q6 : rN ka (T 6 (p.1 (txI p))) = .ref (ka (T 6 (p.1 (txI p)))) := if_neg (by omega)
        have q7 : rN ka (T 7 (p.1 (txI p))) = .ref (ka (T 7 (p.1 (txI p)))) := if_neg (by omega)
        rw [q6, q7] at y2
        have y2G := (q.2.2.1 _ vi'.1 vi'.2).2.1
        have g6 := (q.2.2.1 (T 6 (p.1 (txI p))) (by omega) (by omega)).2.1
        have g7 := (q.2.2.1 (T 7 (p.1 (txI p))) (by omega) (by omega)).2.1
        have p1 := ax_put hG (f := axV ka p) g6 (i := txI p) (by omega) (by omega)
        have p2 := ax_put hG (f := up (axV ka p) (txI p) (.ref (ka (T 6 (p.1 (txI p)))))) g7 (i := p.2) (by omega) (by omega)
        have en : txN T n p = (up (up p.1 (txI p) (T 6 (p.1 (txI p)))) p.2 (T 7 (p.1 (txI p))), p.2 + 1) := if_pos z
        have hE : ar 9 (up (up (axV ka p) (txI p) (.ref (ka (T 6 (p.1 (txI p)))))) p.2 (.ref (ka (T 7 (p.1 (txI p)))))) = ar 9 (axV ka (txN T n p)) := ar_ext fun i i0 i1 => by
          rw [en]
          unfold axV
          show _ = if i < p.2 + 1 then Value.ref (ka (up (up p.1 (txI p) (T 6 (p.1 (txI p)))) p.2 (T 7 (p.1 (txI p))) i)) else .null
          by_cases f1 : i = p.2
          · rw [f1, up_s, up_s, if_pos (by omega)]
          · rw [up_n f1, up_n f1]
            by_cases f2 : i = txI p
            · rw [f2, up_s, up_s, if_pos (by omega)]
            · rw [up_n f2, up_n f2]
              by_cases f3 : i < p.2
              · rw [if_pos f3, if_pos (by omega)]
              · rw [if_neg f3, if_neg (by omega)]
        have ni : ¬ txI p = -1 := by omega
        have f1 : axV ka p (txI p) = .ref (ka (p.1 (txI p))) := if_pos (by omega)
        have y2' : ∀ g, (zAl h 9 (71, ar 9 g)).1 (ka (p.1 (txI p))) = _ := fun g => (ax_o (f := g) hG _ _ y2G)
        unfold kV at y2'
        rw [q6, q7] at y2'
        unfold axH at *
        simp (disch := first | assumption | omega | exact zTy_0 | exact zTy_3 | exact zTy_3n | exact zTy_1 | exact zTy_B | exact zTy_b0 | exact zTy_4 | exact zEl_n | exact zEz4 | exact zEz9 | exact hz _ _ | exact hz2 _ _ | exact zI0 | exact zI1 | exact zI2 | exact zI3 | exact zI4 | exact zI5 | exact zI6 | exact zI7 | exact zI8 | exact zI9 | exact zI10 | (simp only [zl_21, zl_22, zs_2, ne_eq]; omega) | ((repeat (refine Eq.trans (us_r (by decide)) ?_)); assumption) | ((simp (decide := true) only [us_k, us_s]); omega)) only [↓rKi, ↓rKl, ↓rKn, ↓rKd, ↓rL, ↓r2, ↓r1, ↓rC2, ↓rC1, ↓rCn, ↓rNot, ↓rAnd, ↓rOr, ↓rCi, ↓rBx, ↓rIte, ↓rGf, ↓rLen, ↓rAx, ↓rNa, ↓rA0, ↓rA1, ↓rCs, ↓rCv, ↓rAn, ↓rNew, ↓rSeq, ↓rSkip, ↓rBrk, ↓rCnt, ↓rRetV, ↓rAsg, ↓rRet, ↓rIf, ↓rPf, ↓rPfo, ↓rAs, ↓rAso, ↓rDo, ↓rObj, ↓rBl, ↓rSw, ↓rCopy, ↓zSq_0, ↓zSq_r, ↓zSq_1, ↓zSq_2, ↓zBq_l, ↓zBq_r, ↓zWq_0, ↓zWq_1, ↓zWq_2, ↓zWq_r, ↓zLo_0, ↓zLo_1, ↓zLo_2, ↓zLo_r, ↓zLt_0, ↓rTr, ↓zFin_s, ↓zFin_n, wX_r, wO_s, wI_t, wI_f, zLk_0, zLk_s, zTv_vi, zTv_vb, zTv_vl, zTv_d, zTv_r, zTv_n, zTv_4, zTo_s, zCl_n, zCl_0, zCl_s, Int32.reduceToInt, Int64.reduceToInt, e_add, e_sub, e_mul, e_neg, e_ladd, e_lsub, e_lmul, e_lneg, q_0, q_1, q_2, q_3, q_4, q_5, q_b0, q_b1, p_0, p_1, p_2, p_3, p_4, p_5, p_b0, p_b1, e_lcmp, pl_0, pl_1, pl_2, pl_3, pl_4, pl_5, e_i2l, e_l2i, e_idiv, e_irem, e_ldiv, e_lrem, List.set_cons_zero, List.set_cons_succ, List.getD_cons_zero, List.getD_cons_succ, List.getD_nil, dT, dF, decide_true, decide_false, not_true_eq_false, not_false_eq_true, Bool.not_true, Bool.not_false, zLay_1, zLay_c1, zLay_c2, zLay_n, zWds_n, zWds_c, zCat_0, zCat_1, zCat_3, zCat_4, zLay_4, List.nil_append, List.cons_append, List.replicate_succ, List.replicate_zero, zTy_0, zTy_b0, zTy_1, zTy_3, zTy_3n, zTy_4, and_true, true_and, Option.bind_some, zNul_n, zNul_r, List.getElem?_cons_zero, List.getElem?_cons_succ, Int.add_zero, zTv_B, zTy_B, b_and, b_or, b_andn, b_not, b_shl, b_cmp, b_cmp0, b_cmp0l, b_eq0, b_eq1, zs_2, zl_21, zl_22, gf_s, gf_l, pf_s, pf_l, zl_z, zs_z, nA, and_self, Nat.le_refl, Option.some.injEq, eq_self, Nat.reduceAdd, Nat.reduceSub, C_Br_tauBits_0, B_Br_tauBits_0, T_Br_tauBits_0, g_len e9, lt, g_ar e9, f1, g_fld (y2' _), zStK_71, p1, p2]
        rw [es, ← hE, en]
        exact ⟨rfl, rfl⟩
      · have ec : clI gh n p.1 p.2.toNat = -1 := by omega
        rw [ec] at lt
        have sp := stop z (N - e).toNat
        rw [show (e - 1).toNat + (N - e).toNat = (N - 1).toNat by omega] at sp
        rw [sp]
        unfold axH at *
        simp (disch := first | assumption | omega | exact zTy_0 | exact zTy_3 | exact zTy_3n | exact zTy_1 | exact zTy_B | exact zTy_b0 | exact zTy_4 | exact zEl_n | exact zEz4 | exact zEz9 | exact hz _ _ | exact hz2 _ _ | exact zI0 | exact zI1 | exact zI2 | exact zI3 | exact zI4 | exact zI5 | exact zI6 | exact zI7 | exact zI8 | exact zI9 | exact zI10 | (simp only [zl_21, zl_22, zs_2, ne_eq]; omega) | ((repeat (refine Eq.trans (us_r (by decide)) ?_)); assumption) | ((simp (decide := true) only [us_k, us_s]); omega)) only [↓rKi, ↓rKl, ↓rKn, ↓rKd, ↓rL, ↓r2, ↓r1, ↓rC2, ↓rC1, ↓rCn, ↓rNot, ↓rAnd, ↓rOr, ↓rCi, ↓rBx, ↓rIte, ↓rGf, ↓rLen, ↓rAx, ↓rNa, ↓rA0, ↓rA1, ↓rCs, ↓rCv, ↓rAn, ↓rNew, ↓rSeq, ↓rSkip, ↓rBrk, ↓rCnt, ↓rRetV, ↓rAsg, ↓rRet, ↓rIf, ↓rPf, ↓rPfo, ↓rAs, ↓rAso, ↓rDo, ↓rObj, ↓rBl, ↓rSw, ↓rCopy, ↓zSq_0, ↓zSq_r, ↓zSq_1, ↓zSq_2, ↓zBq_l, ↓zBq_r, ↓zWq_0, ↓zWq_1, ↓zWq_2, ↓zWq_r, ↓zLo_0, ↓zLo_1, ↓zLo_2, ↓zLo_r, ↓zLt_0, ↓rTr, ↓zFin_s, ↓zFin_n, wX_r, wO_s, wI_t, wI_f, zLk_0, zLk_s, zTv_vi, zTv_vb, zTv_vl, zTv_d, zTv_r, zTv_n, zTv_4, zTo_s, zCl_n, zCl_0, zCl_s, Int32.reduceToInt, Int64.reduceToInt, e_add, e_sub, e_mul, e_neg, e_ladd, e_lsub, e_lmul, e_lneg, q_0, q_1, q_2, q_3, q_4, q_5, q_b0, q_b1, p_0, p_1, p_2, p_3, p_4, p_5, p_b0, p_b1, e_lcmp, pl_0, pl_1, pl_2, pl_3, pl_4, pl_5, e_i2l, e_l2i, e_idiv, e_irem, e_ldiv, e_lrem, List.set_cons_zero, List.set_cons_succ, List.getD_cons_zero, List.getD_cons_succ, List.getD_nil, dT, dF, decide_true, decide_false, not_true_eq_false, not_false_eq_true, Bool.not_true, Bool.not_false, zLay_1, zLay_c1, zLay_c2, zLay_n, zWds_n, zWds_c, zCat_0, zCat_1, zCat_3, zCat_4, zLay_4, List.nil_append, List.cons_append, List.replicate_succ, List.replicate_zero, zTy_0, zTy_b0, zTy_1, zTy_3, zTy_3n, zTy_4, and_true, true_and, Option.bind_some, zNul_n, zNul_r, List.getElem?_cons_zero, List.getElem?_cons_succ, Int.add_zero, zTv_B, zTy_B, b_and, b_or, b_andn, b_not, b_shl, b_cmp, b_cmp0, b_cmp0l, b_eq0, b_eq1, zs_2, zl_21, zl_22, gf_s, gf_l, pf_s, pf_l, zl_z, zs_z, nA, and_self, Nat.le_refl, Option.some.injEq, eq_self, Nat.reduceAdd, Nat.reduceSub, C_Br_tauBits_0, B_Br_tauBits_0, T_Br_tauBits_0, g_len e9, lt]
        exact ⟨_, _, _, _, rfl⟩
    · intro env h' ⟨hh, he⟩
      subst hh
      subst he
      have e9 : (axH h ka (tx T n k (N - 1).toNat)).1 h.2.1 = some (71, ar 9 (axV ka (tx T n k (N - 1).toNat))) := zl_s
      simp (disch := first | assumption | omega | exact zTy_0 | exact zTy_3 | exact zTy_3n | exact zTy_1 | exact zTy_B | exact zTy_b0 | exact zTy_4 | exact zEl_n | exact zEz4 | exact zEz9 | exact hz _ _ | exact hz2 _ _ | exact zI0 | exact zI1 | exact zI2 | exact zI3 | exact zI4 | exact zI5 | exact zI6 | exact zI7 | exact zI8 | exact zI9 | exact zI10 | (simp only [zl_21, zl_22, zs_2, ne_eq]; omega) | ((repeat (refine Eq.trans (us_r (by decide)) ?_)); assumption) | ((simp (decide := true) only [us_k, us_s]); omega)) only [↓rKi, ↓rKl, ↓rKn, ↓rKd, ↓rL, ↓r2, ↓r1, ↓rC2, ↓rC1, ↓rCn, ↓rNot, ↓rAnd, ↓rOr, ↓rCi, ↓rBx, ↓rIte, ↓rGf, ↓rLen, ↓rAx, ↓rNa, ↓rA0, ↓rA1, ↓rCs, ↓rCv, ↓rAn, ↓rNew, ↓rSeq, ↓rSkip, ↓rBrk, ↓rCnt, ↓rRetV, ↓rAsg, ↓rRet, ↓rIf, ↓rPf, ↓rPfo, ↓rAs, ↓rAso, ↓rDo, ↓rObj, ↓rBl, ↓rSw, ↓rCopy, ↓zSq_0, ↓zSq_r, ↓zSq_1, ↓zSq_2, ↓zBq_l, ↓zBq_r, ↓zWq_0, ↓zWq_1, ↓zWq_2, ↓zWq_r, ↓zLo_0, ↓zLo_1, ↓zLo_2, ↓zLo_r, ↓zLt_0, ↓rTr, ↓zFin_s, ↓zFin_n, wX_r, wO_s, wI_t, wI_f, zLk_0, zLk_s, zTv_vi, zTv_vb, zTv_vl, zTv_d, zTv_r, zTv_n, zTv_4, zTo_s, zCl_n, zCl_0, zCl_s, Int32.reduceToInt, Int64.reduceToInt, e_add, e_sub, e_mul, e_neg, e_ladd, e_lsub, e_lmul, e_lneg, q_0, q_1, q_2, q_3, q_4, q_5, q_b0, q_b1, p_0, p_1, p_2, p_3, p_4, p_5, p_b0, p_b1, e_lcmp, pl_0, pl_1, pl_2, pl_3, pl_4, pl_5, e_i2l, e_l2i, e_idiv, e_irem, e_ldiv, e_lrem, List.set_cons_zero, List.set_cons_succ, List.getD_cons_zero, List.getD_cons_succ, List.getD_nil, dT, dF, decide_true, decide_false, not_true_eq_false, not_false_eq_true, Bool.not_true, Bool.not_false, zLay_1, zLay_c1, zLay_c2, zLay_n, zWds_n, zWds_c, zCat_0, zCat_1, zCat_3, zCat_4, zLay_4, List.nil_append, List.cons_append, List.replicate_succ, List.replicate_zero, zTy_0, zTy_b0, zTy_1, zTy_3, zTy_3n, zTy_4, and_true, true_and, Option.bind_some, zNul_n, zNul_r, List.getElem?_cons_zero, List.getElem?_cons_succ, Int.add_zero, zTv_B, zTy_B, b_and, b_or, b_andn, b_not, b_shl, b_cmp, b_cmp0, b_cmp0l, b_eq0, b_eq1, zs_2, zl_21, zl_22, gf_s, gf_l, pf_s, pf_l, zl_z, zs_z, nA, and_self, Nat.le_refl, Option.some.injEq, eq_self, Nat.reduceAdd, Nat.reduceSub, C_Br_tauBits_0, B_Br_tauBits_0, T_Br_tauBits_0]
      exact ⟨_, _, _, _, rfl⟩
  obtain ⟨o, h', e, ⟨v5, v6, v7, v8, rfl⟩, rfl⟩ := key
  exact ⟨v5, v6, v7, v8, e⟩
/-- the least of some numbers -/
def mnQ (D : Int → Int) : Nat → Int
  | 0 => D 0
  | e + 1 => if D ((e : Int) + 1) < mnQ D e then D ((e : Int) + 1) else mnQ D e
theorem mnQ_s {D : Int → Int} {e : Int} (e1 : 1 ≤ e) : mnQ D (e + 1 - 1).toNat = if D e < mnQ D (e - 1).toNat then D e else mnQ D (e - 1).toNat := by
  rw [show (e + 1 - 1).toNat = (e - 1).toNat + 1 by omega]
  show (if D (((e - 1).toNat : Int) + 1) < mnQ D (e - 1).toNat then D (((e - 1).toNat : Int) + 1) else _) = _
  rw [show ((e - 1).toNat : Int) + 1 = e by omega]
theorem mnQ_b {D : Int → Int} {C : Int} (hD : ∀ i, 0 ≤ D i ∧ D i ≤ C) : ∀ e : Nat, 0 ≤ mnQ D e ∧ mnQ D e ≤ C
  | 0 => hD 0
  | e + 1 => by
    have := mnQ_b hD e
    have := hD ((e : Int) + 1)
    unfold mnQ
    split <;> omega
def sqR (T : Nat → Int → Int) (p : (Int → Int) × Int) (i e : Int) : Int := sqI (T 3 i) (T 4 i) (T 3 (p.1 e)) (T 4 (p.1 e))
theorem sqR_b (tf : TF n T gh L J) {p : (Int → Int) × Int} (v : ∀ i, 0 ≤ p.1 i ∧ p.1 i < T 0 10) {i : Int} (i0 : 0 ≤ i) (i1 : i < T 0 10) (e : Int) : 0 ≤ sqR T p i e ∧ sqR T p i e ≤ 192400 := by
  have o := tf_ok tf i0 i1
  have o' := tf_ok tf (v e).1 (v e).2
  exact sqI_b o.1.1 o.1.2 o'.1.1 o'.1.2
theorem c_least (tf : TF n T gh L J) (q : TrO H.1 a n T gh L J pk ps pj po fk fs fj fo on ka ba sa) {p : (Int → Int) × Int} (v : ∀ i, 0 ≤ p.1 i ∧ p.1 i < T 0 10) {ax : Nat} (e9 : H.1 ax = some (71, ar 9 (axV ka p))) (c0 : 1 ≤ p.2) (c9 : p.2 ≤ 9) {i : Int} (i0 : 0 ≤ i) (i1 : i < T 0 10) : F_Br_leastSquare [.ref (ba i), .ref ax, vi p.2] H = some (some (vi (mnQ (sqR T p i) (p.2 - 1).toNat)), H) := by
  obtain ⟨-, y2, y3⟩ := kn_f q i0 i1
  have o := tf_ok tf i0 i1
  have tb := fun rest => g_tag (rest := rest) y3
  have sq := fun e : Int => e_squareToB y3 (kn_f q (v e).1 (v e).2).2.2 o.2.1.1 o.2.1.2 (tf_ok tf (v e).1 (v e).2).2.1.1 (tf_ok tf (v e).1 (v e).2).2.1.2
  have kn := fun e : Int => (kn_f q (v e).1 (v e).2).2.1
  have f1 : ∀ e : Int, e < p.2 → axV ka p e = .ref (ka (p.1 e)) := fun e he => if_pos he
  have f10 := f1 0 (by omega)
  have sb := sqR_b tf v i0 i1
  have mb := mnQ_b sb
  have eD : ∀ e, sqI (T 3 i) (T 4 i) (T 3 (p.1 e)) (T 4 (p.1 e)) = sqR T p i e := fun _ => rfl
  simp only [eD] at sq
  refine zMeq rfl ?_
  simp (disch := first | assumption | omega | exact zTy_0 | exact zTy_3 | exact zTy_3n | exact zTy_1 | exact zTy_B | exact zTy_b0 | exact zTy_4 | exact zEl_n | exact zEz4 | exact zEz9 | exact hz _ _ | exact hz2 _ _ | exact zI0 | exact zI1 | exact zI2 | exact zI3 | exact zI4 | exact zI5 | exact zI6 | exact zI7 | exact zI8 | exact zI9 | exact zI10 | (simp only [zl_21, zl_22, zs_2, ne_eq]; omega) | ((repeat (refine Eq.trans (us_r (by decide)) ?_)); assumption) | ((simp (decide := true) only [us_k, us_s]); omega)) only [↓rKi, ↓rKl, ↓rKn, ↓rKd, ↓rL, ↓r2, ↓r1, ↓rC2, ↓rC1, ↓rCn, ↓rNot, ↓rAnd, ↓rOr, ↓rCi, ↓rBx, ↓rIte, ↓rGf, ↓rLen, ↓rAx, ↓rNa, ↓rA0, ↓rA1, ↓rCs, ↓rCv, ↓rAn, ↓rNew, ↓rSeq, ↓rSkip, ↓rBrk, ↓rCnt, ↓rRetV, ↓rAsg, ↓rRet, ↓rIf, ↓rPf, ↓rPfo, ↓rAs, ↓rAso, ↓rDo, ↓rObj, ↓rBl, ↓rSw, ↓rCopy, ↓zSq_0, ↓zSq_r, ↓zSq_1, ↓zSq_2, ↓zBq_l, ↓zBq_r, ↓zWq_0, ↓zWq_1, ↓zWq_2, ↓zWq_r, ↓zLo_0, ↓zLo_1, ↓zLo_2, ↓zLo_r, ↓zLt_0, ↓rTr, ↓zFin_s, ↓zFin_n, wX_r, wO_s, wI_t, wI_f, zLk_0, zLk_s, zTv_vi, zTv_vb, zTv_vl, zTv_d, zTv_r, zTv_n, zTv_4, zTo_s, zCl_n, zCl_0, zCl_s, Int32.reduceToInt, Int64.reduceToInt, e_add, e_sub, e_mul, e_neg, e_ladd, e_lsub, e_lmul, e_lneg, q_0, q_1, q_2, q_3, q_4, q_5, q_b0, q_b1, p_0, p_1, p_2, p_3, p_4, p_5, p_b0, p_b1, e_lcmp, pl_0, pl_1, pl_2, pl_3, pl_4, pl_5, e_i2l, e_l2i, e_idiv, e_irem, e_ldiv, e_lrem, List.set_cons_zero, List.set_cons_succ, List.getD_cons_zero, List.getD_cons_succ, List.getD_nil, dT, dF, decide_true, decide_false, not_true_eq_false, not_false_eq_true, Bool.not_true, Bool.not_false, zLay_1, zLay_c1, zLay_c2, zLay_n, zWds_n, zWds_c, zCat_0, zCat_1, zCat_3, zCat_4, zLay_4, List.nil_append, List.cons_append, List.replicate_succ, List.replicate_zero, zTy_0, zTy_b0, zTy_1, zTy_3, zTy_3n, zTy_4, and_true, true_and, Option.bind_some, zNul_n, zNul_r, List.getElem?_cons_zero, List.getElem?_cons_succ, Int.add_zero, zTv_B, zTy_B, b_and, b_or, b_andn, b_not, b_shl, b_cmp, b_cmp0, b_cmp0l, b_eq0, b_eq1, zs_2, zl_21, zl_22, gf_s, gf_l, pf_s, pf_l, zl_z, zs_z, nA, and_self, Nat.le_refl, Option.some.injEq, eq_self, Nat.reduceAdd, Nat.reduceSub, S_Br_leastSquare, L_Br_leastSquare_0, g_ar e9, f10, g_fld (kn _), tb, sq]
  refine wForI (fun e env h' => h' = H ∧ env = [.ref (ba i), .ref ax, vi p.2, vi (mnQ (sqR T p i) (e - 1).toNat), vi e]) 1 p.2 (by omega) (by omega) ⟨rfl, rfl⟩ ?_ ?_
  · intro e env h' e0 e1 ⟨hh, he⟩
    subst he
    subst hh
    have es := mnQ_s (D := sqR T p i) e0
    have fe := f1 e e1
    have b1 := mb (e - 1).toNat
    have b2 := sb e
    have mn := e_min (h := h') (x := mnQ (sqR T p i) (e - 1).toNat) (y := sqR T p i e) (by omega) (by omega)
    simp (disch := first | assumption | omega | exact zTy_0 | exact zTy_3 | exact zTy_3n | exact zTy_1 | exact zTy_B | exact zTy_b0 | exact zTy_4 | exact zEl_n | exact zEz4 | exact zEz9 | exact hz _ _ | exact hz2 _ _ | exact zI0 | exact zI1 | exact zI2 | exact zI3 | exact zI4 | exact zI5 | exact zI6 | exact zI7 | exact zI8 | exact zI9 | exact zI10 | (simp only [zl_21, zl_22, zs_2, ne_eq]; omega) | ((repeat (refine Eq.trans (us_r (by decide)) ?_)); assumption) | ((simp (decide := true) only [us_k, us_s]); omega)) only [↓rKi, ↓rKl, ↓rKn, ↓rKd, ↓rL, ↓r2, ↓r1, ↓rC2, ↓rC1, ↓rCn, ↓rNot, ↓rAnd, ↓rOr, ↓rCi, ↓rBx, ↓rIte, ↓rGf, ↓rLen, ↓rAx, ↓rNa, ↓rA0, ↓rA1, ↓rCs, ↓rCv, ↓rAn, ↓rNew, ↓rSeq, ↓rSkip, ↓rBrk, ↓rCnt, ↓rRetV, ↓rAsg, ↓rRet, ↓rIf, ↓rPf, ↓rPfo, ↓rAs, ↓rAso, ↓rDo, ↓rObj, ↓rBl, ↓rSw, ↓rCopy, ↓zSq_0, ↓zSq_r, ↓zSq_1, ↓zSq_2, ↓zBq_l, ↓zBq_r, ↓zWq_0, ↓zWq_1, ↓zWq_2, ↓zWq_r, ↓zLo_0, ↓zLo_1, ↓zLo_2, ↓zLo_r, ↓zLt_0, ↓rTr, ↓zFin_s, ↓zFin_n, wX_r, wO_s, wI_t, wI_f, zLk_0, zLk_s, zTv_vi, zTv_vb, zTv_vl, zTv_d, zTv_r, zTv_n, zTv_4, zTo_s, zCl_n, zCl_0, zCl_s, Int32.reduceToInt, Int64.reduceToInt, e_add, e_sub, e_mul, e_neg, e_ladd, e_lsub, e_lmul, e_lneg, q_0, q_1, q_2, q_3, q_4, q_5, q_b0, q_b1, p_0, p_1, p_2, p_3, p_4, p_5, p_b0, p_b1, e_lcmp, pl_0, pl_1, pl_2, pl_3, pl_4, pl_5, e_i2l, e_l2i, e_idiv, e_irem, e_ldiv, e_lrem, List.set_cons_zero, List.set_cons_succ, List.getD_cons_zero, List.getD_cons_succ, List.getD_nil, dT, dF, decide_true, decide_false, not_true_eq_false, not_false_eq_true, Bool.not_true, Bool.not_false, zLay_1, zLay_c1, zLay_c2, zLay_n, zWds_n, zWds_c, zCat_0, zCat_1, zCat_3, zCat_4, zLay_4, List.nil_append, List.cons_append, List.replicate_succ, List.replicate_zero, zTy_0, zTy_b0, zTy_1, zTy_3, zTy_3n, zTy_4, and_true, true_and, Option.bind_some, zNul_n, zNul_r, List.getElem?_cons_zero, List.getElem?_cons_succ, Int.add_zero, zTv_B, zTy_B, b_and, b_or, b_andn, b_not, b_shl, b_cmp, b_cmp0, b_cmp0l, b_eq0, b_eq1, zs_2, zl_21, zl_22, gf_s, gf_l, pf_s, pf_l, zl_z, zs_z, nA, and_self, Nat.le_refl, Option.some.injEq, eq_self, Nat.reduceAdd, Nat.reduceSub, C_Br_leastSquare_0, B_Br_leastSquare_0, T_Br_leastSquare_0, g_ar e9, fe, g_fld (kn _), tb, sq, mn]
    rw [es]
    have em : (if mnQ (sqR T p i) (e - 1).toNat ≤ sqR T p i e then mnQ (sqR T p i) (e - 1).toNat else sqR T p i e) = if sqR T p i e < mnQ (sqR T p i) (e - 1).toNat then sqR T p i e else mnQ (sqR T p i) (e - 1).toNat := by
      split <;> split <;> omega
    rw [em]
  · intro env h' ⟨hh, he⟩
    subst he
    subst hh
    simp (disch := first | assumption | omega | exact zTy_0 | exact zTy_3 | exact zTy_3n | exact zTy_1 | exact zTy_B | exact zTy_b0 | exact zTy_4 | exact zEl_n | exact zEz4 | exact zEz9 | exact hz _ _ | exact hz2 _ _ | exact zI0 | exact zI1 | exact zI2 | exact zI3 | exact zI4 | exact zI5 | exact zI6 | exact zI7 | exact zI8 | exact zI9 | exact zI10 | (simp only [zl_21, zl_22, zs_2, ne_eq]; omega) | ((repeat (refine Eq.trans (us_r (by decide)) ?_)); assumption) | ((simp (decide := true) only [us_k, us_s]); omega)) only [↓rKi, ↓rKl, ↓rKn, ↓rKd, ↓rL, ↓r2, ↓r1, ↓rC2, ↓rC1, ↓rCn, ↓rNot, ↓rAnd, ↓rOr, ↓rCi, ↓rBx, ↓rIte, ↓rGf, ↓rLen, ↓rAx, ↓rNa, ↓rA0, ↓rA1, ↓rCs, ↓rCv, ↓rAn, ↓rNew, ↓rSeq, ↓rSkip, ↓rBrk, ↓rCnt, ↓rRetV, ↓rAsg, ↓rRet, ↓rIf, ↓rPf, ↓rPfo, ↓rAs, ↓rAso, ↓rDo, ↓rObj, ↓rBl, ↓rSw, ↓rCopy, ↓zSq_0, ↓zSq_r, ↓zSq_1, ↓zSq_2, ↓zBq_l, ↓zBq_r, ↓zWq_0, ↓zWq_1, ↓zWq_2, ↓zWq_r, ↓zLo_0, ↓zLo_1, ↓zLo_2, ↓zLo_r, ↓zLt_0, ↓rTr, ↓zFin_s, ↓zFin_n, wX_r, wO_s, wI_t, wI_f, zLk_0, zLk_s, zTv_vi, zTv_vb, zTv_vl, zTv_d, zTv_r, zTv_n, zTv_4, zTo_s, zCl_n, zCl_0, zCl_s, Int32.reduceToInt, Int64.reduceToInt, e_add, e_sub, e_mul, e_neg, e_ladd, e_lsub, e_lmul, e_lneg, q_0, q_1, q_2, q_3, q_4, q_5, q_b0, q_b1, p_0, p_1, p_2, p_3, p_4, p_5, p_b0, p_b1, e_lcmp, pl_0, pl_1, pl_2, pl_3, pl_4, pl_5, e_i2l, e_l2i, e_idiv, e_irem, e_ldiv, e_lrem, List.set_cons_zero, List.set_cons_succ, List.getD_cons_zero, List.getD_cons_succ, List.getD_nil, dT, dF, decide_true, decide_false, not_true_eq_false, not_false_eq_true, Bool.not_true, Bool.not_false, zLay_1, zLay_c1, zLay_c2, zLay_n, zWds_n, zWds_c, zCat_0, zCat_1, zCat_3, zCat_4, zLay_4, List.nil_append, List.cons_append, List.replicate_succ, List.replicate_zero, zTy_0, zTy_b0, zTy_1, zTy_3, zTy_3n, zTy_4, and_true, true_and, Option.bind_some, zNul_n, zNul_r, List.getElem?_cons_zero, List.getElem?_cons_succ, Int.add_zero, zTv_B, zTy_B, b_and, b_or, b_andn, b_not, b_shl, b_cmp, b_cmp0, b_cmp0l, b_eq0, b_eq1, zs_2, zl_21, zl_22, gf_s, gf_l, pf_s, pf_l, zl_z, zs_z, nA, and_self, Nat.le_refl, Option.some.injEq, eq_self, Nat.reduceAdd, Nat.reduceSub, C_Br_leastSquare_0, B_Br_leastSquare_0, T_Br_leastSquare_0]
end
