/-! span: the class's loop -/
section
variable {G : zG} {m n : Nat} {h H : zHp} {s : Nat → Int → Int} {fb : Int → Value} {ba : Int → Nat}
theorem ly_A {a b : Int} (a0 : 0 ≤ a) (a1 : a < n) (b0 : 0 ≤ b) (b1 : b < n) : ahS (layN s n) a b ↔ aT s a b := by
  obtain ⟨-, lr, -, -⟩ := layN_f (s := s) n
  obtain ⟨x1, x2, x3, -⟩ := lr a a0 a1
  obtain ⟨y1, y2, y3, -⟩ := lr b b0 b1
  unfold ahS aT
  rw [x1, x2, x3, y1, y2, y3]
theorem ly_q {a b : Int} : sqT (layN s n) a b = sqT s a b := by
  obtain ⟨-, -, lq, -⟩ := layN_f (s := s) n
  have e1 : layN s n 1 = s 1 := lq 1 (by decide) (by decide)
  unfold sqT mT
  rw [e1]
theorem jn_iff {σ g P : Int → Int} {i j : Int} (hg : ∀ a b : Int, 0 ≤ a → a < n → 0 ≤ b → b < n → (g a = g b ↔ P (σ a) = P (σ b))) (i0 : 0 ≤ i) (i1 : i < n) (j0 : 0 ≤ j) (j1 : j < n) : ∀ a b : Int, 0 ≤ a → a < n → 0 ≤ b → b < n → ((if g a = g j then g i else g a) = (if g b = g j then g i else g b) ↔ (if P (σ a) = P (σ j) then P (σ i) else P (σ a)) = (if P (σ b) = P (σ j) then P (σ i) else P (σ b))) := fun a b a0 a1 b0 b1 => by
  have A := hg a j a0 a1 j0 j1
  have B := hg b j b0 b1 j0 j1
  by_cases ca : g a = g j
  · rw [if_pos ca, if_pos (A.mp ca)]
    by_cases cb : g b = g j
    · rw [if_pos cb, if_pos (B.mp cb)]
      exact ⟨fun _ => rfl, fun _ => rfl⟩
    · rw [if_neg cb, if_neg (fun z => cb (B.mpr z))]
      exact hg i b i0 i1 b0 b1
  · rw [if_neg ca, if_neg (fun z => ca (A.mpr z))]
    by_cases cb : g b = g j
    · rw [if_pos cb, if_pos (B.mp cb)]
      exact hg a i a0 a1 i0 i1
    · rw [if_neg cb, if_neg (fun z => cb (B.mpr z))]
      exact hg a b a0 a1 b0 b1
theorem c_spanned {ev tr : Nat} (eo : EvO G ev (s 1) (8 + 121 * s 1 5) n tr fb ba) (hG : ∀ a o, G a = some o → h.1 a = some o ∧ a < h.2.1) {u w : Int} (u0 : 0 ≤ u) (u2 : u + 2 ≤ n) (w0 : 0 ≤ w ∧ w ≤ 2) : ∃ (σ g P : Int → Int) (p q : Int), Kr (layN s n) n u.toNat P ∧ bst2 (layN s n) n P p q ∧ F_Ev_spanned [.ref ev, vi u, vi w] h = some (some (vi (if w = 0 then p else if w = 1 then q else sqT (layN s n) p q)), grH (soH h n (soV ba σ n)) n g) := by
  have n4 := eo.1.2
  obtain ⟨σ, hs, so⟩ := c_sorted eo hG
  have evh := (hG _ _ eo.2.1).1
  have tg := fun rest => g_tag (rest := rest) evh
  obtain ⟨H, hH⟩ : ∃ H, H = soH h n (soV ba σ n) := ⟨_, rfl⟩
  rw [← hH] at so
  have H2 : H.2.1 = h.2.1 + 1 := by rw [hH]; rfl
  have H3 : H.2.2 = h.2.2 + n := by rw [hH]; rfl
  have en : ∀ g, h.2.1 ≤ (grH H n g).2.1 ∧ h.2.2 ≤ (grH H n g).2.2 := fun g => by show h.2.1 ≤ H.2.1 + 1 ∧ h.2.2 ≤ H.2.2 + n; omega
  have HA : ∀ g, (grH H n g).1 h.2.1 = some (67, ar n (soV ba σ n)) := fun g => (zl_n (by omega)).trans (by rw [hH]; exact zl_s)
  have HA0 : H.1 h.2.1 = some (67, ar n (soV ba σ n)) := by rw [hH]; exact zl_s
  have HB : ∀ g, (grH H n g).1 H.2.1 = some (64, ar n (fun i => vi (g i))) := fun g => zl_s
  have HG : ∀ g a o, G a = some o → (grH H n g).1 a = some o := fun g a o q => by
    have := hG a o q
    refine (zl_n (by omega)).trans ?_
    rw [hH]
    exact (zl_n (by omega)).trans this.1
  have bo := fun (k : Int) (k0 : 0 ≤ k) (k1 : k < n) => (eo.2.2.2 k k0 k1).1.2
  have bh : ∀ g (k : Int), 0 ≤ k → k < n → (grH H n g).1 (ba k) = some (0, [vi k, vi (mT s k 0), vi (mT s k 1), vi (mT s k 2)]) := fun g k k0 k1 => HG g _ _ (bo k k0 k1)
  have wr : ∀ k : Int, 0 ≤ k → k < n → (-200 ≤ mT s k 0 ∧ mT s k 0 ≤ 200) ∧ (0 ≤ mT s k 1 ∧ mT s k 1 < 360) ∧ 1 ≤ mT s k 2 ∧ mT s k 2 ≤ 9999 := fun (k : Int) (k0 : 0 ≤ k) (k1 : k < n) => (eo.2.2.2 k k0 k1).2
  have fi : ∀ i : Int, i < n → soV ba σ n i = .ref (ba (σ i)) := fun i hi => if_pos hi
  have na : zNav 64 (.int 0) H (vi n) = some (.ref H.2.1, grH H n (fun _ => 0)) := by
    have := g_na (t := 64) (d := .int 0) (h := H) (x := (n : Int)) (by omega) (by omega)
    rw [show ((n : Int)).toNat = n by omega] at this
    exact this
  let Q : Option Value → zHp → Prop := fun r1 h1 => ∃ (g P : Int → Int) (p q : Int), Kr (layN s n) n u.toNat P ∧ bst2 (layN s n) n P p q ∧ r1 = some (vi (if w = 0 then p else if w = 1 then q else sqT (layN s n) p q)) ∧ h1 = grH H n g
  have key : ∃ r1 h1, F_Ev_spanned [.ref ev, vi u, vi w] h = some (r1, h1) ∧ Q r1 h1 := by
    refine zMe (Q := Q) rfl ?_
    have st64 : zStK 64 = (0, none) := rfl
    simp (disch := first | assumption | omega | exact zTy_0 | exact zTy_3 | exact zTy_3n | exact zTy_1 | exact zTy_B | exact zTy_b0 | exact zTy_4 | exact zEl_n | exact zEz4 | exact zEz9 | exact hz _ _ | exact hz2 _ _ | exact zI0 | exact zI1 | exact zI2 | exact zI3 | exact zI4 | exact zI5 | exact zI6 | exact zI7 | exact zI8 | exact zI9 | exact zI10 | (simp only [zl_21, zl_22, zs_2, ne_eq]; omega) | ((repeat (refine Eq.trans (us_r (by decide)) ?_)); assumption) | ((simp (decide := true) only [us_k, us_s]); omega)) only [↓rKi, ↓rKl, ↓rKn, ↓rKd, ↓rL, ↓r2, ↓r1, ↓rC2, ↓rC1, ↓rCn, ↓rNot, ↓rAnd, ↓rOr, ↓rCi, ↓rBx, ↓rIte, ↓rGf, ↓rLen, ↓rAx, ↓rNa, ↓rA0, ↓rA1, ↓rCs, ↓rCv, ↓rAn, ↓rNew, ↓rSeq, ↓rSkip, ↓rBrk, ↓rCnt, ↓rRetV, ↓rAsg, ↓rRet, ↓rIf, ↓rPf, ↓rPfo, ↓rAs, ↓rAso, ↓rDo, ↓rObj, ↓rBl, ↓rSw, ↓rCopy, ↓zSq_0, ↓zSq_r, ↓zSq_1, ↓zSq_2, ↓zBq_l, ↓zBq_r, ↓zWq_0, ↓zWq_1, ↓zWq_2, ↓zWq_r, ↓zLo_0, ↓zLo_1, ↓zLo_2, ↓zLo_r, ↓zLt_0, ↓rTr, ↓zFin_s, ↓zFin_n, wX_r, wO_s, wI_t, wI_f, zLk_0, zLk_s, zTv_vi, zTv_vb, zTv_vl, zTv_d, zTv_r, zTv_n, zTv_4, zTo_s, zCl_n, zCl_0, zCl_s, Int32.reduceToInt, Int64.reduceToInt, e_add, e_sub, e_mul, e_neg, e_ladd, e_lsub, e_lmul, e_lneg, q_0, q_1, q_2, q_3, q_4, q_5, q_b0, q_b1, p_0, p_1, p_2, p_3, p_4, p_5, p_b0, p_b1, e_lcmp, pl_0, pl_1, pl_2, pl_3, pl_4, pl_5, e_i2l, e_l2i, e_idiv, e_irem, e_ldiv, e_lrem, List.set_cons_zero, List.set_cons_succ, List.getD_cons_zero, List.getD_cons_succ, List.getD_nil, dT, dF, decide_true, decide_false, not_true_eq_false, not_false_eq_true, Bool.not_true, Bool.not_false, zLay_1, zLay_c1, zLay_c2, zLay_n, zWds_n, zWds_c, zCat_0, zCat_1, zCat_3, zCat_4, zLay_4, List.nil_append, List.cons_append, List.replicate_succ, List.replicate_zero, zTy_0, zTy_b0, zTy_1, zTy_3, zTy_3n, zTy_4, and_true, true_and, Option.bind_some, zNul_n, zNul_r, List.getElem?_cons_zero, List.getElem?_cons_succ, Int.add_zero, zTv_B, zTy_B, b_and, b_or, b_andn, b_not, b_shl, b_cmp, b_cmp0, b_cmp0l, b_eq0, b_eq1, zs_2, zl_21, zl_22, gf_s, gf_l, pf_s, pf_l, zl_z, zs_z, nA, and_self, Nat.le_refl, Option.some.injEq, eq_self, Nat.reduceAdd, Nat.reduceSub, S_Ev_spanned, tg, so, g_len HA0, na, L_Ev_spanned_0]
    refine wForI (fun i env h' => h' = grH H n (fun j => if j < i then j else 0) ∧ env = [.ref ev, vi u, vi w, .ref h.2.1, .ref H.2.1, vi i, .null, .null, .null]) 0 n (by omega) (by omega) ⟨grH_ext fun i i0 i1 => by rw [if_neg (by omega)], rfl⟩ ?_ ?_
    · intro i env h' i0 i1 ⟨hh, he⟩
      subst hh
      subst he
      have pu := gro_put (h := H) (n := n) (g := fun j => if j < i then j else 0) (i := i) (v := i) i0 i1 n4
      simp (disch := first | assumption | omega | exact zTy_0 | exact zTy_3 | exact zTy_3n | exact zTy_1 | exact zTy_B | exact zTy_b0 | exact zTy_4 | exact zEl_n | exact zEz4 | exact zEz9 | exact hz _ _ | exact hz2 _ _ | exact zI0 | exact zI1 | exact zI2 | exact zI3 | exact zI4 | exact zI5 | exact zI6 | exact zI7 | exact zI8 | exact zI9 | exact zI10 | (simp only [zl_21, zl_22, zs_2, ne_eq]; omega) | ((repeat (refine Eq.trans (us_r (by decide)) ?_)); assumption) | ((simp (decide := true) only [us_k, us_s]); omega)) only [↓rKi, ↓rKl, ↓rKn, ↓rKd, ↓rL, ↓r2, ↓r1, ↓rC2, ↓rC1, ↓rCn, ↓rNot, ↓rAnd, ↓rOr, ↓rCi, ↓rBx, ↓rIte, ↓rGf, ↓rLen, ↓rAx, ↓rNa, ↓rA0, ↓rA1, ↓rCs, ↓rCv, ↓rAn, ↓rNew, ↓rSeq, ↓rSkip, ↓rBrk, ↓rCnt, ↓rRetV, ↓rAsg, ↓rRet, ↓rIf, ↓rPf, ↓rPfo, ↓rAs, ↓rAso, ↓rDo, ↓rObj, ↓rBl, ↓rSw, ↓rCopy, ↓zSq_0, ↓zSq_r, ↓zSq_1, ↓zSq_2, ↓zBq_l, ↓zBq_r, ↓zWq_0, ↓zWq_1, ↓zWq_2, ↓zWq_r, ↓zLo_0, ↓zLo_1, ↓zLo_2, ↓zLo_r, ↓zLt_0, ↓rTr, ↓zFin_s, ↓zFin_n, wX_r, wO_s, wI_t, wI_f, zLk_0, zLk_s, zTv_vi, zTv_vb, zTv_vl, zTv_d, zTv_r, zTv_n, zTv_4, zTo_s, zCl_n, zCl_0, zCl_s, Int32.reduceToInt, Int64.reduceToInt, e_add, e_sub, e_mul, e_neg, e_ladd, e_lsub, e_lmul, e_lneg, q_0, q_1, q_2, q_3, q_4, q_5, q_b0, q_b1, p_0, p_1, p_2, p_3, p_4, p_5, p_b0, p_b1, e_lcmp, pl_0, pl_1, pl_2, pl_3, pl_4, pl_5, e_i2l, e_l2i, e_idiv, e_irem, e_ldiv, e_lrem, List.set_cons_zero, List.set_cons_succ, List.getD_cons_zero, List.getD_cons_succ, List.getD_nil, dT, dF, decide_true, decide_false, not_true_eq_false, not_false_eq_true, Bool.not_true, Bool.not_false, zLay_1, zLay_c1, zLay_c2, zLay_n, zWds_n, zWds_c, zCat_0, zCat_1, zCat_3, zCat_4, zLay_4, List.nil_append, List.cons_append, List.replicate_succ, List.replicate_zero, zTy_0, zTy_b0, zTy_1, zTy_3, zTy_3n, zTy_4, and_true, true_and, Option.bind_some, zNul_n, zNul_r, List.getElem?_cons_zero, List.getElem?_cons_succ, Int.add_zero, zTv_B, zTy_B, b_and, b_or, b_andn, b_not, b_shl, b_cmp, b_cmp0, b_cmp0l, b_eq0, b_eq1, zs_2, zl_21, zl_22, gf_s, gf_l, pf_s, pf_l, zl_z, zs_z, nA, and_self, Nat.le_refl, Option.some.injEq, eq_self, Nat.reduceAdd, Nat.reduceSub, C_Ev_spanned_0, B_Ev_spanned_0, T_Ev_spanned_0, g_len (HA _), st64, pu]
      refine grH_ext fun j j0 j1 => ?_
      by_cases e : j = i
      · rw [e, up_s, if_pos (by omega)]
      · rw [up_n e]
        by_cases c : j < i
        · rw [if_pos c, if_pos (by omega)]
        · rw [if_neg c, if_neg (by omega)]
    · intro env h' ⟨hh, he⟩
      subst hh
      subst he
      have e0 : grH H n (fun j => if j < (n : Int) then j else 0) = grH H n (fun j => j) := grH_ext fun j j0 j1 => if_pos j1
      rw [e0]
      simp (disch := first | assumption | omega | exact zTy_0 | exact zTy_3 | exact zTy_3n | exact zTy_1 | exact zTy_B | exact zTy_b0 | exact zTy_4 | exact zEl_n | exact zEz4 | exact zEz9 | exact hz _ _ | exact hz2 _ _ | exact zI0 | exact zI1 | exact zI2 | exact zI3 | exact zI4 | exact zI5 | exact zI6 | exact zI7 | exact zI8 | exact zI9 | exact zI10 | (simp only [zl_21, zl_22, zs_2, ne_eq]; omega) | ((repeat (refine Eq.trans (us_r (by decide)) ?_)); assumption) | ((simp (decide := true) only [us_k, us_s]); omega)) only [↓rKi, ↓rKl, ↓rKn, ↓rKd, ↓rL, ↓r2, ↓r1, ↓rC2, ↓rC1, ↓rCn, ↓rNot, ↓rAnd, ↓rOr, ↓rCi, ↓rBx, ↓rIte, ↓rGf, ↓rLen, ↓rAx, ↓rNa, ↓rA0, ↓rA1, ↓rCs, ↓rCv, ↓rAn, ↓rNew, ↓rSeq, ↓rSkip, ↓rBrk, ↓rCnt, ↓rRetV, ↓rAsg, ↓rRet, ↓rIf, ↓rPf, ↓rPfo, ↓rAs, ↓rAso, ↓rDo, ↓rObj, ↓rBl, ↓rSw, ↓rCopy, ↓zSq_0, ↓zSq_r, ↓zSq_1, ↓zSq_2, ↓zBq_l, ↓zBq_r, ↓zWq_0, ↓zWq_1, ↓zWq_2, ↓zWq_r, ↓zLo_0, ↓zLo_1, ↓zLo_2, ↓zLo_r, ↓zLt_0, ↓rTr, ↓zFin_s, ↓zFin_n, wX_r, wO_s, wI_t, wI_f, zLk_0, zLk_s, zTv_vi, zTv_vb, zTv_vl, zTv_d, zTv_r, zTv_n, zTv_4, zTo_s, zCl_n, zCl_0, zCl_s, Int32.reduceToInt, Int64.reduceToInt, e_add, e_sub, e_mul, e_neg, e_ladd, e_lsub, e_lmul, e_lneg, q_0, q_1, q_2, q_3, q_4, q_5, q_b0, q_b1, p_0, p_1, p_2, p_3, p_4, p_5, p_b0, p_b1, e_lcmp, pl_0, pl_1, pl_2, pl_3, pl_4, pl_5, e_i2l, e_l2i, e_idiv, e_irem, e_ldiv, e_lrem, List.set_cons_zero, List.set_cons_succ, List.getD_cons_zero, List.getD_cons_succ, List.getD_nil, dT, dF, decide_true, decide_false, not_true_eq_false, not_false_eq_true, Bool.not_true, Bool.not_false, zLay_1, zLay_c1, zLay_c2, zLay_n, zWds_n, zWds_c, zCat_0, zCat_1, zCat_3, zCat_4, zLay_4, List.nil_append, List.cons_append, List.replicate_succ, List.replicate_zero, zTy_0, zTy_b0, zTy_1, zTy_3, zTy_3n, zTy_4, and_true, true_and, Option.bind_some, zNul_n, zNul_r, List.getElem?_cons_zero, List.getElem?_cons_succ, Int.add_zero, zTv_B, zTy_B, b_and, b_or, b_andn, b_not, b_shl, b_cmp, b_cmp0, b_cmp0l, b_eq0, b_eq1, zs_2, zl_21, zl_22, gf_s, gf_l, pf_s, pf_l, zl_z, zs_z, nA, and_self, Nat.le_refl, Option.some.injEq, eq_self, Nat.reduceAdd, Nat.reduceSub, C_Ev_spanned_0, B_Ev_spanned_0, T_Ev_spanned_0, g_len (HA _), L_Ev_spanned_1]
      refine wForI (fun i env h' => ∃ g P : Int → Int, (h' = grH H n g ∧ env = [.ref ev, vi u, vi w, .ref h.2.1, .ref H.2.1, vi i, .null, .null, .null]) ∧ (∀ k : Int, 0 ≤ k → k < n → 0 ≤ g k ∧ g k < n) ∧ Kr (layN s n) n i.toNat P ∧ (∀ a b : Int, 0 ≤ a → a < n → 0 ≤ b → b < n → (g a = g b ↔ P (σ a) = P (σ b))) ∧ i ≤ u) 0 n (by omega) (by omega) ⟨fun j => j, fun j => j, ⟨rfl, rfl⟩, fun k k0 k1 => ⟨k0, k1⟩, fun i _ _ => rfl, fun a b a0 a1 b0 b1 => ⟨fun z => congrArg σ z, fun z => hs.2.1 a b a0 a1 b0 b1 z⟩, u0⟩ ?_ ?_
      · intro i env h' i0 i1 ⟨g, P, ⟨hh, he⟩, hgr, hK, hgi, iu⟩
        subst hh
        subst he
        obtain ⟨c, v, hl, lw⟩ := c_leastWay (s := s) (ba := ba) (σ := σ) (g := g) (H := grH H n g) n4 (HA g) (HB g) (fun i i0 i1 => by have := hgr i i0 i1; exact ⟨by omega, by omega⟩) (fun k k0 k1 => bh g (σ k) (hs.1 k k0 k1).1 (hs.1 k k0 k1).2) (fun k k0 k1 => by have := wr (σ k) (hs.1 k k0 k1).1 (hs.1 k k0 k1).2; exact ⟨this.1, this.2.1⟩)
        rcases lw_bst (l := layN s n) (P := P) hs (fun a b a0 a1 b0 b1 => ly_A a0 a1 b0 b1) (fun a b => ly_q) hgi hl with ⟨-, no⟩ | ⟨a, b, ec, ⟨a0, ab, bn⟩, hb⟩
        · have := Kr_end hK no
          omega
        · have mn := mul_bd a0 (show a ≤ 39 by omega) (show (0 : Int) ≤ n by omega) (show (n : Int) ≤ 40 by omega)
          have c0 : 0 ≤ c ∧ c < 1600 := by omega
          have dc : c / (n : Int) = a := by
            rw [ec, Int.add_comm, Int.add_mul_ediv_right _ _ (by omega), Int.ediv_eq_zero_of_lt (by omega) bn]
            omega
          have mc : c % (n : Int) = b := by
            rw [ec, Int.add_comm, Int.add_mul_emod_self_right, Int.emod_eq_of_lt (by omega) bn]
          have f1 := fi a (by omega)
          have f2 := fi b bn
          have sa := hs.1 a a0 (by omega)
          have sb := hs.1 b (by omega) bn
          have b1 := bh g (σ a) sa.1 sa.2
          have b2 := bh g (σ b) sb.1 sb.2
          have w1 := wr (σ a) sa.1 sa.2
          have w2 := wr (σ b) sb.1 sb.2
          have tgb := fun rest => g_tag (rest := rest) b1
          have sq := e_squareToB b1 b2 w1.2.1.1 w1.2.1.2 w2.2.1.1 w2.2.1.2
          have sbd := sqI_b (b := mT s (σ a) 1) (d := mT s (σ b) 1) w1.1.1 w1.1.2 w2.1.1 w2.1.2
          have eD : sqI (mT s (σ a) 0) (mT s (σ a) 1) (mT s (σ b) 0) (mT s (σ b) 1) = sqT (layN s n) (σ a) (σ b) := ly_q.symm
          rw [eD] at sq sbd
          have ga := hgr a a0 (by omega)
          have gb := hgr b (by omega) bn
          by_cases cu : i = u
          · subst cu
            by_cases cw : w = 0
            · simp (disch := first | assumption | omega | exact zTy_0 | exact zTy_3 | exact zTy_3n | exact zTy_1 | exact zTy_B | exact zTy_b0 | exact zTy_4 | exact zEl_n | exact zEz4 | exact zEz9 | exact hz _ _ | exact hz2 _ _ | exact zI0 | exact zI1 | exact zI2 | exact zI3 | exact zI4 | exact zI5 | exact zI6 | exact zI7 | exact zI8 | exact zI9 | exact zI10 | (simp only [zl_21, zl_22, zs_2, ne_eq]; omega) | ((repeat (refine Eq.trans (us_r (by decide)) ?_)); assumption) | ((simp (decide := true) only [us_k, us_s]); omega)) only [↓rKi, ↓rKl, ↓rKn, ↓rKd, ↓rL, ↓r2, ↓r1, ↓rC2, ↓rC1, ↓rCn, ↓rNot, ↓rAnd, ↓rOr, ↓rCi, ↓rBx, ↓rIte, ↓rGf, ↓rLen, ↓rAx, ↓rNa, ↓rA0, ↓rA1, ↓rCs, ↓rCv, ↓rAn, ↓rNew, ↓rSeq, ↓rSkip, ↓rBrk, ↓rCnt, ↓rRetV, ↓rAsg, ↓rRet, ↓rIf, ↓rPf, ↓rPfo, ↓rAs, ↓rAso, ↓rDo, ↓rObj, ↓rBl, ↓rSw, ↓rCopy, ↓zSq_0, ↓zSq_r, ↓zSq_1, ↓zSq_2, ↓zBq_l, ↓zBq_r, ↓zWq_0, ↓zWq_1, ↓zWq_2, ↓zWq_r, ↓zLo_0, ↓zLo_1, ↓zLo_2, ↓zLo_r, ↓zLt_0, ↓rTr, ↓zFin_s, ↓zFin_n, wX_r, wO_s, wI_t, wI_f, zLk_0, zLk_s, zTv_vi, zTv_vb, zTv_vl, zTv_d, zTv_r, zTv_n, zTv_4, zTo_s, zCl_n, zCl_0, zCl_s, Int32.reduceToInt, Int64.reduceToInt, e_add, e_sub, e_mul, e_neg, e_ladd, e_lsub, e_lmul, e_lneg, q_0, q_1, q_2, q_3, q_4, q_5, q_b0, q_b1, p_0, p_1, p_2, p_3, p_4, p_5, p_b0, p_b1, e_lcmp, pl_0, pl_1, pl_2, pl_3, pl_4, pl_5, e_i2l, e_l2i, e_idiv, e_irem, e_ldiv, e_lrem, List.set_cons_zero, List.set_cons_succ, List.getD_cons_zero, List.getD_cons_succ, List.getD_nil, dT, dF, decide_true, decide_false, not_true_eq_false, not_false_eq_true, Bool.not_true, Bool.not_false, zLay_1, zLay_c1, zLay_c2, zLay_n, zWds_n, zWds_c, zCat_0, zCat_1, zCat_3, zCat_4, zLay_4, List.nil_append, List.cons_append, List.replicate_succ, List.replicate_zero, zTy_0, zTy_b0, zTy_1, zTy_3, zTy_3n, zTy_4, and_true, true_and, Option.bind_some, zNul_n, zNul_r, List.getElem?_cons_zero, List.getElem?_cons_succ, Int.add_zero, zTv_B, zTy_B, b_and, b_or, b_andn, b_not, b_shl, b_cmp, b_cmp0, b_cmp0l, b_eq0, b_eq1, zs_2, zl_21, zl_22, gf_s, gf_l, pf_s, pf_l, zl_z, zs_z, nA, and_self, Nat.le_refl, Option.some.injEq, eq_self, Nat.reduceAdd, Nat.reduceSub, C_Ev_spanned_1, B_Ev_spanned_1, T_Ev_spanned_1, g_len (HA g), lw, dc, mc, g_ar (HA g), f1, f2, g_fld b1]
              exact ⟨en g, g, P, σ a, σ b, hK, hb, by rw [if_pos cw], rfl⟩
            · by_cases cw1 : w = 1
              · simp (disch := first | assumption | omega | exact zTy_0 | exact zTy_3 | exact zTy_3n | exact zTy_1 | exact zTy_B | exact zTy_b0 | exact zTy_4 | exact zEl_n | exact zEz4 | exact zEz9 | exact hz _ _ | exact hz2 _ _ | exact zI0 | exact zI1 | exact zI2 | exact zI3 | exact zI4 | exact zI5 | exact zI6 | exact zI7 | exact zI8 | exact zI9 | exact zI10 | (simp only [zl_21, zl_22, zs_2, ne_eq]; omega) | ((repeat (refine Eq.trans (us_r (by decide)) ?_)); assumption) | ((simp (decide := true) only [us_k, us_s]); omega)) only [↓rKi, ↓rKl, ↓rKn, ↓rKd, ↓rL, ↓r2, ↓r1, ↓rC2, ↓rC1, ↓rCn, ↓rNot, ↓rAnd, ↓rOr, ↓rCi, ↓rBx, ↓rIte, ↓rGf, ↓rLen, ↓rAx, ↓rNa, ↓rA0, ↓rA1, ↓rCs, ↓rCv, ↓rAn, ↓rNew, ↓rSeq, ↓rSkip, ↓rBrk, ↓rCnt, ↓rRetV, ↓rAsg, ↓rRet, ↓rIf, ↓rPf, ↓rPfo, ↓rAs, ↓rAso, ↓rDo, ↓rObj, ↓rBl, ↓rSw, ↓rCopy, ↓zSq_0, ↓zSq_r, ↓zSq_1, ↓zSq_2, ↓zBq_l, ↓zBq_r, ↓zWq_0, ↓zWq_1, ↓zWq_2, ↓zWq_r, ↓zLo_0, ↓zLo_1, ↓zLo_2, ↓zLo_r, ↓zLt_0, ↓rTr, ↓zFin_s, ↓zFin_n, wX_r, wO_s, wI_t, wI_f, zLk_0, zLk_s, zTv_vi, zTv_vb, zTv_vl, zTv_d, zTv_r, zTv_n, zTv_4, zTo_s, zCl_n, zCl_0, zCl_s, Int32.reduceToInt, Int64.reduceToInt, e_add, e_sub, e_mul, e_neg, e_ladd, e_lsub, e_lmul, e_lneg, q_0, q_1, q_2, q_3, q_4, q_5, q_b0, q_b1, p_0, p_1, p_2, p_3, p_4, p_5, p_b0, p_b1, e_lcmp, pl_0, pl_1, pl_2, pl_3, pl_4, pl_5, e_i2l, e_l2i, e_idiv, e_irem, e_ldiv, e_lrem, List.set_cons_zero, List.set_cons_succ, List.getD_cons_zero, List.getD_cons_succ, List.getD_nil, dT, dF, decide_true, decide_false, not_true_eq_false, not_false_eq_true, Bool.not_true, Bool.not_false, zLay_1, zLay_c1, zLay_c2, zLay_n, zWds_n, zWds_c, zCat_0, zCat_1, zCat_3, zCat_4, zLay_4, List.nil_append, List.cons_append, List.replicate_succ, List.replicate_zero, zTy_0, zTy_b0, zTy_1, zTy_3, zTy_3n, zTy_4, and_true, true_and, Option.bind_some, zNul_n, zNul_r, List.getElem?_cons_zero, List.getElem?_cons_succ, Int.add_zero, zTv_B, zTy_B, b_and, b_or, b_andn, b_not, b_shl, b_cmp, b_cmp0, b_cmp0l, b_eq0, b_eq1, zs_2, zl_21, zl_22, gf_s, gf_l, pf_s, pf_l, zl_z, zs_z, nA, and_self, Nat.le_refl, Option.some.injEq, eq_self, Nat.reduceAdd, Nat.reduceSub, C_Ev_spanned_1, B_Ev_spanned_1, T_Ev_spanned_1, g_len (HA g), lw, dc, mc, g_ar (HA g), f1, f2, g_fld b2]
                exact ⟨en g, g, P, σ a, σ b, hK, hb, by rw [if_neg cw, if_pos cw1], rfl⟩
              · simp (disch := first | assumption | omega | exact zTy_0 | exact zTy_3 | exact zTy_3n | exact zTy_1 | exact zTy_B | exact zTy_b0 | exact zTy_4 | exact zEl_n | exact zEz4 | exact zEz9 | exact hz _ _ | exact hz2 _ _ | exact zI0 | exact zI1 | exact zI2 | exact zI3 | exact zI4 | exact zI5 | exact zI6 | exact zI7 | exact zI8 | exact zI9 | exact zI10 | (simp only [zl_21, zl_22, zs_2, ne_eq]; omega) | ((repeat (refine Eq.trans (us_r (by decide)) ?_)); assumption) | ((simp (decide := true) only [us_k, us_s]); omega)) only [↓rKi, ↓rKl, ↓rKn, ↓rKd, ↓rL, ↓r2, ↓r1, ↓rC2, ↓rC1, ↓rCn, ↓rNot, ↓rAnd, ↓rOr, ↓rCi, ↓rBx, ↓rIte, ↓rGf, ↓rLen, ↓rAx, ↓rNa, ↓rA0, ↓rA1, ↓rCs, ↓rCv, ↓rAn, ↓rNew, ↓rSeq, ↓rSkip, ↓rBrk, ↓rCnt, ↓rRetV, ↓rAsg, ↓rRet, ↓rIf, ↓rPf, ↓rPfo, ↓rAs, ↓rAso, ↓rDo, ↓rObj, ↓rBl, ↓rSw, ↓rCopy, ↓zSq_0, ↓zSq_r, ↓zSq_1, ↓zSq_2, ↓zBq_l, ↓zBq_r, ↓zWq_0, ↓zWq_1, ↓zWq_2, ↓zWq_r, ↓zLo_0, ↓zLo_1, ↓zLo_2, ↓zLo_r, ↓zLt_0, ↓rTr, ↓zFin_s, ↓zFin_n, wX_r, wO_s, wI_t, wI_f, zLk_0, zLk_s, zTv_vi, zTv_vb, zTv_vl, zTv_d, zTv_r, zTv_n, zTv_4, zTo_s, zCl_n, zCl_0, zCl_s, Int32.reduceToInt, Int64.reduceToInt, e_add, e_sub, e_mul, e_neg, e_ladd, e_lsub, e_lmul, e_lneg, q_0, q_1, q_2, q_3, q_4, q_5, q_b0, q_b1, p_0, p_1, p_2, p_3, p_4, p_5, p_b0, p_b1, e_lcmp, pl_0, pl_1, pl_2, pl_3, pl_4, pl_5, e_i2l, e_l2i, e_idiv, e_irem, e_ldiv, e_lrem, List.set_cons_zero, List.set_cons_succ, List.getD_cons_zero, List.getD_cons_succ, List.getD_nil, dT, dF, decide_true, decide_false, not_true_eq_false, not_false_eq_true, Bool.not_true, Bool.not_false, zLay_1, zLay_c1, zLay_c2, zLay_n, zWds_n, zWds_c, zCat_0, zCat_1, zCat_3, zCat_4, zLay_4, List.nil_append, List.cons_append, List.replicate_succ, List.replicate_zero, zTy_0, zTy_b0, zTy_1, zTy_3, zTy_3n, zTy_4, and_true, true_and, Option.bind_some, zNul_n, zNul_r, List.getElem?_cons_zero, List.getElem?_cons_succ, Int.add_zero, zTv_B, zTy_B, b_and, b_or, b_andn, b_not, b_shl, b_cmp, b_cmp0, b_cmp0l, b_eq0, b_eq1, zs_2, zl_21, zl_22, gf_s, gf_l, pf_s, pf_l, zl_z, zs_z, nA, and_self, Nat.le_refl, Option.some.injEq, eq_self, Nat.reduceAdd, Nat.reduceSub, C_Ev_spanned_1, B_Ev_spanned_1, T_Ev_spanned_1, g_len (HA g), lw, dc, mc, g_ar (HA g), f1, f2, tgb, sq]
                exact ⟨en g, g, P, σ a, σ b, hK, hb, by rw [if_neg cw, if_neg cw1], rfl⟩
          · have pt := c_putTogether (h := H) (n := n) (g := g) (p := g a) (q := g b) n4 (fun i i0 i1 => by have := hgr i i0 i1; exact ⟨by omega, by omega⟩) ⟨by omega, by omega⟩ ⟨by omega, by omega⟩
            simp (disch := first | assumption | omega | exact zTy_0 | exact zTy_3 | exact zTy_3n | exact zTy_1 | exact zTy_B | exact zTy_b0 | exact zTy_4 | exact zEl_n | exact zEz4 | exact zEz9 | exact hz _ _ | exact hz2 _ _ | exact zI0 | exact zI1 | exact zI2 | exact zI3 | exact zI4 | exact zI5 | exact zI6 | exact zI7 | exact zI8 | exact zI9 | exact zI10 | (simp only [zl_21, zl_22, zs_2, ne_eq]; omega) | ((repeat (refine Eq.trans (us_r (by decide)) ?_)); assumption) | ((simp (decide := true) only [us_k, us_s]); omega)) only [↓rKi, ↓rKl, ↓rKn, ↓rKd, ↓rL, ↓r2, ↓r1, ↓rC2, ↓rC1, ↓rCn, ↓rNot, ↓rAnd, ↓rOr, ↓rCi, ↓rBx, ↓rIte, ↓rGf, ↓rLen, ↓rAx, ↓rNa, ↓rA0, ↓rA1, ↓rCs, ↓rCv, ↓rAn, ↓rNew, ↓rSeq, ↓rSkip, ↓rBrk, ↓rCnt, ↓rRetV, ↓rAsg, ↓rRet, ↓rIf, ↓rPf, ↓rPfo, ↓rAs, ↓rAso, ↓rDo, ↓rObj, ↓rBl, ↓rSw, ↓rCopy, ↓zSq_0, ↓zSq_r, ↓zSq_1, ↓zSq_2, ↓zBq_l, ↓zBq_r, ↓zWq_0, ↓zWq_1, ↓zWq_2, ↓zWq_r, ↓zLo_0, ↓zLo_1, ↓zLo_2, ↓zLo_r, ↓zLt_0, ↓rTr, ↓zFin_s, ↓zFin_n, wX_r, wO_s, wI_t, wI_f, zLk_0, zLk_s, zTv_vi, zTv_vb, zTv_vl, zTv_d, zTv_r, zTv_n, zTv_4, zTo_s, zCl_n, zCl_0, zCl_s, Int32.reduceToInt, Int64.reduceToInt, e_add, e_sub, e_mul, e_neg, e_ladd, e_lsub, e_lmul, e_lneg, q_0, q_1, q_2, q_3, q_4, q_5, q_b0, q_b1, p_0, p_1, p_2, p_3, p_4, p_5, p_b0, p_b1, e_lcmp, pl_0, pl_1, pl_2, pl_3, pl_4, pl_5, e_i2l, e_l2i, e_idiv, e_irem, e_ldiv, e_lrem, List.set_cons_zero, List.set_cons_succ, List.getD_cons_zero, List.getD_cons_succ, List.getD_nil, dT, dF, decide_true, decide_false, not_true_eq_false, not_false_eq_true, Bool.not_true, Bool.not_false, zLay_1, zLay_c1, zLay_c2, zLay_n, zWds_n, zWds_c, zCat_0, zCat_1, zCat_3, zCat_4, zLay_4, List.nil_append, List.cons_append, List.replicate_succ, List.replicate_zero, zTy_0, zTy_b0, zTy_1, zTy_3, zTy_3n, zTy_4, and_true, true_and, Option.bind_some, zNul_n, zNul_r, List.getElem?_cons_zero, List.getElem?_cons_succ, Int.add_zero, zTv_B, zTy_B, b_and, b_or, b_andn, b_not, b_shl, b_cmp, b_cmp0, b_cmp0l, b_eq0, b_eq1, zs_2, zl_21, zl_22, gf_s, gf_l, pf_s, pf_l, zl_z, zs_z, nA, and_self, Nat.le_refl, Option.some.injEq, eq_self, Nat.reduceAdd, Nat.reduceSub, C_Ev_spanned_1, B_Ev_spanned_1, T_Ev_spanned_1, g_len (HA g), lw, dc, mc, g_ar (HA g), g_ar (HB g), f1, f2, pt]
            refine ⟨fun x => if g x = g b then g a else g x, fun y => if P y = P (σ b) then P (σ a) else P y, rfl, fun k k0 k1 => ?_, ?_, jn_iff hgi a0 (by omega) (by omega) bn, by omega⟩
            · have := hgr k k0 k1
              show 0 ≤ (if g k = g b then g a else g k) ∧ (if g k = g b then g a else g k) < n
              split
              · exact ga
              · exact this
            · rw [show (i + 1).toNat = i.toNat + 1 by omega]
              exact ⟨P, σ a, σ b, hK, hb, fun _ _ _ => rfl⟩
      · intro env h' ⟨_, _, _, _, _, _, iu⟩
        omega
  obtain ⟨r1, h1, e, g, P, p, q, hK, hb, rfl, rfl⟩ := key
  subst hH
  exact ⟨σ, g, P, p, q, hK, hb, e⟩
end
