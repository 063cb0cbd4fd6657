/-! span: the class, tracks as they come ahead -/
section
variable {G : zG} {m n : Nat} {h H : zHp} {s : Nat → Int → Int} {fb : Int → Value} {ba : Int → Nat}
def shF (σ : Int → Int) (p i : Int) : Int → Int := fun j => if j < p then σ j else if j = p then σ i else if j ≤ i then σ (j - 1) else σ j
/-- a row of positions, the first i of them in order -/
def soP (A : Int → Int → Prop) (n : Nat) (i : Int) (σ : Int → Int) : Prop := (∀ j : Int, 0 ≤ j → j < n → 0 ≤ σ j ∧ σ j < n) ∧ (∀ j k : Int, 0 ≤ j → j < n → 0 ≤ k → k < n → σ j = σ k → j = k) ∧ ∀ j k : Int, 0 ≤ j → j < k → k < i → A (σ j) (σ k)
theorem soP_sh {A : Int → Int → Prop} {i p : Int} {σ : Int → Int} (h : soP A n i σ) (i0 : 0 ≤ i) (i1 : i < n) (p0 : 0 ≤ p) (p1 : p ≤ i) (tr : ∀ a b c, A a b → A b c → A a c) (hb : ∀ j : Int, p ≤ j → j < i → A (σ i) (σ j)) (hl : 0 < p → A (σ (p - 1)) (σ i)) : soP A n (i + 1) (shF σ p i) := by
  obtain ⟨h1, h2, h3⟩ := h
  refine ⟨fun j j0 j1 => ?_, fun j k j0 j1 k0 k1 e => ?_, fun j k j0 jk k1 => ?_⟩
  · unfold shF
    split
    · exact h1 j j0 j1
    · split
      · exact h1 i i0 i1
      · split
        · exact h1 _ (by omega) (by omega)
        · exact h1 j j0 j1
  · unfold shF at e
    split at e
    · split at e
      · exact h2 _ _ (by omega) (by omega) (by omega) (by omega) e
      · split at e
        · have := h2 _ _ (by omega) (by omega) (by omega) (by omega) e; omega
        · split at e
          · have := h2 _ _ (by omega) (by omega) (by omega) (by omega) e; omega
          · exact h2 _ _ (by omega) (by omega) (by omega) (by omega) e
    · split at e
      · split at e
        · have := h2 _ _ (by omega) (by omega) (by omega) (by omega) e; omega
        · split at e
          · omega
          · split at e
            · have := h2 _ _ (by omega) (by omega) (by omega) (by omega) e; omega
            · have := h2 _ _ (by omega) (by omega) (by omega) (by omega) e; omega
      · split at e
        · split at e
          · have := h2 _ _ (by omega) (by omega) (by omega) (by omega) e; omega
          · split at e
            · have := h2 _ _ (by omega) (by omega) (by omega) (by omega) e; omega
            · split at e
              · have := h2 _ _ (by omega) (by omega) (by omega) (by omega) e; omega
              · have := h2 _ _ (by omega) (by omega) (by omega) (by omega) e; omega
        · split at e
          · have := h2 _ _ (by omega) (by omega) (by omega) (by omega) e; omega
          · split at e
            · have := h2 _ _ (by omega) (by omega) (by omega) (by omega) e; omega
            · split at e
              · have := h2 _ _ (by omega) (by omega) (by omega) (by omega) e; omega
              · exact h2 _ _ (by omega) (by omega) (by omega) (by omega) e
  · unfold shF
    by_cases c1 : k < p
    · rw [if_pos (by omega), if_pos c1]
      exact h3 j k j0 jk (by omega)
    · rw [if_neg c1]
      by_cases c2 : k = p
      · rw [if_pos c2, if_pos (by omega)]
        have g := hl (by omega)
        by_cases c3 : j = p - 1
        · rw [c3]; exact g
        · exact tr _ _ _ (h3 j (p - 1) j0 (by omega) (by omega)) g
      · rw [if_neg c2, if_pos (show k ≤ i by omega)]
        by_cases c3 : j < p
        · rw [if_pos c3]
          exact h3 j (k - 1) j0 (by omega) (by omega)
        · rw [if_neg c3]
          by_cases c4 : j = p
          · rw [if_pos c4]
            exact hb (k - 1) (by omega) (by omega)
          · rw [if_neg c4, if_pos (by omega)]
            exact h3 (j - 1) (k - 1) (by omega) (by omega) (by omega)
/-- the row in the class -/
def soV (ba : Int → Nat) (σ : Int → Int) (n : Nat) (j : Int) : Value := if j < n then .ref (ba (σ j)) else .null
def soH (h : zHp) (n : Nat) (f : Int → Value) : zHp := zAl h n (67, ar n f)
theorem so_o (hG : ∀ a o, G a = some o → h.1 a = some o ∧ a < h.2.1) {f : Int → Value} : ∀ a o, G a = some o → (soH h n f).1 a = some o := fun a o q => by
  have := hG a o q
  exact (zl_n (by omega)).trans this.1
theorem so_put (hG : ∀ a o, G a = some o → h.1 a = some o ∧ a < h.2.1) {f : Int → Value} {b : Nat} {vs : List Value} (e : G b = some (0, vs)) {i : Int} (i0 : 0 ≤ i) (i1 : i < n) (n4 : n ≤ 40) : zStv 3 67 (some 0) (soH h n f) (.ref h.2.1) (vi i) (.ref b) = some (soH h n (up f i (.ref b))) := by
  have e' := so_o (n := n) (f := f) hG _ _ e
  unfold soH at *
  rw [g_set zl_s i0 i1 (by omega) rfl (by simp [zEl, e']), zl_z]
/-- tracks in order of being ahead -/
def aT (s : Nat → Int → Int) (a b : Int) : Prop := ahd (mT s a 0) (mT s a 1) (mT s a 2) a (mT s b 0) (mT s b 1) (mT s b 2) b
theorem aT_tr (a b c : Int) (h : aT s a b) (h2 : aT s b c) : aT s a c := by simp only [aT, ahd] at *; omega
theorem aT_to {a b : Int} (h : a ≠ b) : aT s a b ∨ aT s b a := by simp only [aT, ahd]; omega
theorem c_sorted {ev tr : Nat} (eo : EvO G ev (s 1) (8 + 121 * s 1 5) n tr fb ba) (hG : ∀ a o, G a = some o → h.1 a = some o ∧ a < h.2.1) : ∃ σ : Int → Int, soP (aT s) n n σ ∧ F_Ev_asTheyComeAhead [.ref ev] h = some (some (.ref h.2.1), soH h n (soV ba σ n)) := by
  have n4 := eo.1.2
  have cp := c_copied (l := (n : Int)) eo hG (by omega) (by omega)
  rw [show ((n : Int)).toNat = n by omega] at cp
  have hc : zAl h n (67, ar n (cpF n fb)) = soH h n (soV ba (fun j => j) n) := by
    unfold soH
    refine congrArg (fun z => zAl h n (67, z)) (ar_ext fun j j0 j1 => ?_)
    unfold cpF soV
    rw [if_pos j1, if_pos j1, (eo.2.2.2 j j0 j1).1.1]
  rw [hc] at cp
  have evh := (hG _ _ eo.2.1).1
  have trh := (hG _ _ eo.2.2.1).1
  have tg := fun rest => g_tag (rest := rest) evh
  have en : ∀ f, h.2.1 ≤ (soH h n f).2.1 ∧ h.2.2 ≤ (soH h n f).2.2 := fun f => by show h.2.1 ≤ h.2.1 + 1 ∧ h.2.2 ≤ h.2.2 + n; omega
  have s9 : ∀ f, (soH h n f).1 h.2.1 = some (67, ar n f) := fun f => zl_s
  have bo := fun (k : Int) (k0 : 0 ≤ k) (k1 : k < n) => (eo.2.2.2 k k0 k1).1.2
  have bh : ∀ f (k : Int), 0 ≤ k → k < n → (soH h n f).1 (ba k) = some (0, [vi k, vi (mT s k 0), vi (mT s k 1), vi (mT s k 2)]) := fun f k k0 k1 => so_o hG _ _ (bo k k0 k1)
  have wr := fun (k : Int) (k0 : 0 ≤ k) (k1 : k < n) => (eo.2.2.2 k k0 k1).2
  let Q : Option Value → zHp → Prop := fun r1 h1 => ∃ σ : Int → Int, soP (aT s) n n σ ∧ r1 = some (.ref h.2.1) ∧ h1 = soH h n (soV ba σ n)
  have key : ∃ r1 h1, F_Ev_asTheyComeAhead [.ref ev] h = some (r1, h1) ∧ Q r1 h1 := by
    refine zMe (Q := Q) rfl ?_
    simp (disch := first | assumption | omega | exact zTy_0 | exact zTy_3 | exact zTy_3n | exact zTy_1 | exact zTy_B | exact zTy_b0 | exact zTy_4 | exact zEl_n | exact zEz4 | exact zEz9 | exact hz _ _ | exact hz2 _ _ | exact zI0 | exact zI1 | exact zI2 | exact zI3 | exact zI4 | exact zI5 | exact zI6 | exact zI7 | exact zI8 | exact zI9 | exact zI10 | (simp only [zl_21, zl_22, zs_2, ne_eq]; omega) | ((repeat (refine Eq.trans (us_r (by decide)) ?_)); assumption) | ((simp (decide := true) only [us_k, us_s]); omega)) only [↓rKi, ↓rKl, ↓rKn, ↓rKd, ↓rL, ↓r2, ↓r1, ↓rC2, ↓rC1, ↓rCn, ↓rNot, ↓rAnd, ↓rOr, ↓rCi, ↓rBx, ↓rIte, ↓rGf, ↓rLen, ↓rAx, ↓rNa, ↓rA0, ↓rA1, ↓rCs, ↓rCv, ↓rAn, ↓rNew, ↓rSeq, ↓rSkip, ↓rBrk, ↓rCnt, ↓rRetV, ↓rAsg, ↓rRet, ↓rIf, ↓rPf, ↓rPfo, ↓rAs, ↓rAso, ↓rDo, ↓rObj, ↓rBl, ↓rSw, ↓rCopy, ↓zSq_0, ↓zSq_r, ↓zSq_1, ↓zSq_2, ↓zBq_l, ↓zBq_r, ↓zWq_0, ↓zWq_1, ↓zWq_2, ↓zWq_r, ↓zLo_0, ↓zLo_1, ↓zLo_2, ↓zLo_r, ↓zLt_0, ↓rTr, ↓zFin_s, ↓zFin_n, wX_r, wO_s, wI_t, wI_f, zLk_0, zLk_s, zTv_vi, zTv_vb, zTv_vl, zTv_d, zTv_r, zTv_n, zTv_4, zTo_s, zCl_n, zCl_0, zCl_s, Int32.reduceToInt, Int64.reduceToInt, e_add, e_sub, e_mul, e_neg, e_ladd, e_lsub, e_lmul, e_lneg, q_0, q_1, q_2, q_3, q_4, q_5, q_b0, q_b1, p_0, p_1, p_2, p_3, p_4, p_5, p_b0, p_b1, e_lcmp, pl_0, pl_1, pl_2, pl_3, pl_4, pl_5, e_i2l, e_l2i, e_idiv, e_irem, e_ldiv, e_lrem, List.set_cons_zero, List.set_cons_succ, List.getD_cons_zero, List.getD_cons_succ, List.getD_nil, dT, dF, decide_true, decide_false, not_true_eq_false, not_false_eq_true, Bool.not_true, Bool.not_false, zLay_1, zLay_c1, zLay_c2, zLay_n, zWds_n, zWds_c, zCat_0, zCat_1, zCat_3, zCat_4, zLay_4, List.nil_append, List.cons_append, List.replicate_succ, List.replicate_zero, zTy_0, zTy_b0, zTy_1, zTy_3, zTy_3n, zTy_4, and_true, true_and, Option.bind_some, zNul_n, zNul_r, List.getElem?_cons_zero, List.getElem?_cons_succ, Int.add_zero, zTv_B, zTy_B, b_and, b_or, b_andn, b_not, b_shl, b_cmp, b_cmp0, b_cmp0l, b_eq0, b_eq1, zs_2, zl_21, zl_22, gf_s, gf_l, pf_s, pf_l, zl_z, zs_z, nA, and_self, Nat.le_refl, Option.some.injEq, eq_self, Nat.reduceAdd, Nat.reduceSub, S_Ev_asTheyComeAhead, g_fld evh, g_len trh, tg, cp, L_Ev_asTheyComeAhead_0]
    by_cases n0 : n = 0
    · refine wLp (fun K env h' => K = 0 ∧ h' = soH h n (soV ba (fun j => j) n) ∧ env = [.ref ev, .ref h.2.1, vi 1, .null, .null, .null]) 0 (by omega) ⟨rfl, rfl, rfl⟩ ?_ ?_
      · intro env h' ⟨_, hh, he⟩
        subst hh
        subst he
        simp (disch := first | assumption | omega | exact zTy_0 | exact zTy_3 | exact zTy_3n | exact zTy_1 | exact zTy_B | exact zTy_b0 | exact zTy_4 | exact zEl_n | exact zEz4 | exact zEz9 | exact hz _ _ | exact hz2 _ _ | exact zI0 | exact zI1 | exact zI2 | exact zI3 | exact zI4 | exact zI5 | exact zI6 | exact zI7 | exact zI8 | exact zI9 | exact zI10 | (simp only [zl_21, zl_22, zs_2, ne_eq]; omega) | ((repeat (refine Eq.trans (us_r (by decide)) ?_)); assumption) | ((simp (decide := true) only [us_k, us_s]); omega)) only [↓rKi, ↓rKl, ↓rKn, ↓rKd, ↓rL, ↓r2, ↓r1, ↓rC2, ↓rC1, ↓rCn, ↓rNot, ↓rAnd, ↓rOr, ↓rCi, ↓rBx, ↓rIte, ↓rGf, ↓rLen, ↓rAx, ↓rNa, ↓rA0, ↓rA1, ↓rCs, ↓rCv, ↓rAn, ↓rNew, ↓rSeq, ↓rSkip, ↓rBrk, ↓rCnt, ↓rRetV, ↓rAsg, ↓rRet, ↓rIf, ↓rPf, ↓rPfo, ↓rAs, ↓rAso, ↓rDo, ↓rObj, ↓rBl, ↓rSw, ↓rCopy, ↓zSq_0, ↓zSq_r, ↓zSq_1, ↓zSq_2, ↓zBq_l, ↓zBq_r, ↓zWq_0, ↓zWq_1, ↓zWq_2, ↓zWq_r, ↓zLo_0, ↓zLo_1, ↓zLo_2, ↓zLo_r, ↓zLt_0, ↓rTr, ↓zFin_s, ↓zFin_n, wX_r, wO_s, wI_t, wI_f, zLk_0, zLk_s, zTv_vi, zTv_vb, zTv_vl, zTv_d, zTv_r, zTv_n, zTv_4, zTo_s, zCl_n, zCl_0, zCl_s, Int32.reduceToInt, Int64.reduceToInt, e_add, e_sub, e_mul, e_neg, e_ladd, e_lsub, e_lmul, e_lneg, q_0, q_1, q_2, q_3, q_4, q_5, q_b0, q_b1, p_0, p_1, p_2, p_3, p_4, p_5, p_b0, p_b1, e_lcmp, pl_0, pl_1, pl_2, pl_3, pl_4, pl_5, e_i2l, e_l2i, e_idiv, e_irem, e_ldiv, e_lrem, List.set_cons_zero, List.set_cons_succ, List.getD_cons_zero, List.getD_cons_succ, List.getD_nil, dT, dF, decide_true, decide_false, not_true_eq_false, not_false_eq_true, Bool.not_true, Bool.not_false, zLay_1, zLay_c1, zLay_c2, zLay_n, zWds_n, zWds_c, zCat_0, zCat_1, zCat_3, zCat_4, zLay_4, List.nil_append, List.cons_append, List.replicate_succ, List.replicate_zero, zTy_0, zTy_b0, zTy_1, zTy_3, zTy_3n, zTy_4, and_true, true_and, Option.bind_some, zNul_n, zNul_r, List.getElem?_cons_zero, List.getElem?_cons_succ, Int.add_zero, zTv_B, zTy_B, b_and, b_or, b_andn, b_not, b_shl, b_cmp, b_cmp0, b_cmp0l, b_eq0, b_eq1, zs_2, zl_21, zl_22, gf_s, gf_l, pf_s, pf_l, zl_z, zs_z, nA, and_self, Nat.le_refl, Option.some.injEq, eq_self, Nat.reduceAdd, Nat.reduceSub, C_Ev_asTheyComeAhead_0, B_Ev_asTheyComeAhead_0, T_Ev_asTheyComeAhead_0, g_len (s9 _)]
        exact ⟨en _, fun j => j, ⟨fun j j0 j1 => by omega, fun j k j0 j1 => by omega, fun j k j0 jk k1 => by omega⟩, rfl, rfl⟩
      · intro K env h' ⟨hK, _⟩
        omega
    · refine wForI (fun i env h' => ∃ σ : Int → Int, (h' = soH h n (soV ba σ n) ∧ env = [.ref ev, .ref h.2.1, vi i, .null, .null, .null]) ∧ soP (aT s) n i σ) 1 n (by omega) (by omega) ⟨fun j => j, ⟨rfl, rfl⟩, fun j j0 j1 => ⟨j0, j1⟩, fun j k _ _ _ _ e => e, fun j k j0 jk k1 => by omega⟩ ?_ ?_
      · intro i env h' i0 i1 ⟨σ, ⟨hh, he⟩, hs⟩
        subst hh
        subst he
        have fi : soV ba σ n i = .ref (ba (σ i)) := if_pos i1
        have si := hs.1 i (by omega) i1
        simp (disch := first | assumption | omega | exact zTy_0 | exact zTy_3 | exact zTy_3n | exact zTy_1 | exact zTy_B | exact zTy_b0 | exact zTy_4 | exact zEl_n | exact zEz4 | exact zEz9 | exact hz _ _ | exact hz2 _ _ | exact zI0 | exact zI1 | exact zI2 | exact zI3 | exact zI4 | exact zI5 | exact zI6 | exact zI7 | exact zI8 | exact zI9 | exact zI10 | (simp only [zl_21, zl_22, zs_2, ne_eq]; omega) | ((repeat (refine Eq.trans (us_r (by decide)) ?_)); assumption) | ((simp (decide := true) only [us_k, us_s]); omega)) only [↓rKi, ↓rKl, ↓rKn, ↓rKd, ↓rL, ↓r2, ↓r1, ↓rC2, ↓rC1, ↓rCn, ↓rNot, ↓rAnd, ↓rOr, ↓rCi, ↓rBx, ↓rIte, ↓rGf, ↓rLen, ↓rAx, ↓rNa, ↓rA0, ↓rA1, ↓rCs, ↓rCv, ↓rAn, ↓rNew, ↓rSeq, ↓rSkip, ↓rBrk, ↓rCnt, ↓rRetV, ↓rAsg, ↓rRet, ↓rIf, ↓rPf, ↓rPfo, ↓rAs, ↓rAso, ↓rDo, ↓rObj, ↓rBl, ↓rSw, ↓rCopy, ↓zSq_0, ↓zSq_r, ↓zSq_1, ↓zSq_2, ↓zBq_l, ↓zBq_r, ↓zWq_0, ↓zWq_1, ↓zWq_2, ↓zWq_r, ↓zLo_0, ↓zLo_1, ↓zLo_2, ↓zLo_r, ↓zLt_0, ↓rTr, ↓zFin_s, ↓zFin_n, wX_r, wO_s, wI_t, wI_f, zLk_0, zLk_s, zTv_vi, zTv_vb, zTv_vl, zTv_d, zTv_r, zTv_n, zTv_4, zTo_s, zCl_n, zCl_0, zCl_s, Int32.reduceToInt, Int64.reduceToInt, e_add, e_sub, e_mul, e_neg, e_ladd, e_lsub, e_lmul, e_lneg, q_0, q_1, q_2, q_3, q_4, q_5, q_b0, q_b1, p_0, p_1, p_2, p_3, p_4, p_5, p_b0, p_b1, e_lcmp, pl_0, pl_1, pl_2, pl_3, pl_4, pl_5, e_i2l, e_l2i, e_idiv, e_irem, e_ldiv, e_lrem, List.set_cons_zero, List.set_cons_succ, List.getD_cons_zero, List.getD_cons_succ, List.getD_nil, dT, dF, decide_true, decide_false, not_true_eq_false, not_false_eq_true, Bool.not_true, Bool.not_false, zLay_1, zLay_c1, zLay_c2, zLay_n, zWds_n, zWds_c, zCat_0, zCat_1, zCat_3, zCat_4, zLay_4, List.nil_append, List.cons_append, List.replicate_succ, List.replicate_zero, zTy_0, zTy_b0, zTy_1, zTy_3, zTy_3n, zTy_4, and_true, true_and, Option.bind_some, zNul_n, zNul_r, List.getElem?_cons_zero, List.getElem?_cons_succ, Int.add_zero, zTv_B, zTy_B, b_and, b_or, b_andn, b_not, b_shl, b_cmp, b_cmp0, b_cmp0l, b_eq0, b_eq1, zs_2, zl_21, zl_22, gf_s, gf_l, pf_s, pf_l, zl_z, zs_z, nA, and_self, Nat.le_refl, Option.some.injEq, eq_self, Nat.reduceAdd, Nat.reduceSub, C_Ev_asTheyComeAhead_0, B_Ev_asTheyComeAhead_0, T_Ev_asTheyComeAhead_0, g_len (s9 _), g_ar (s9 _), fi, L_Ev_asTheyComeAhead_1]
        refine wLp (fun K env h' => ∃ (p : Int) (f : Int → Value), (h' = soH h n f ∧ env = [.ref ev, .ref h.2.1, vi i, .ref (ba (σ i)), vi p, vi p]) ∧ (p = K ∧ p ≤ i) ∧ (∀ j : Int, p ≤ j → j < i → aT s (σ i) (σ j)) ∧ ∀ j : Int, 0 ≤ j → j < n → j ≠ p → f j = soV ba (shF σ p i) n j) i.toNat (by omega) ⟨i, soV ba σ n, ⟨rfl, rfl⟩, by omega, fun j a b => by omega, fun j j0 j1 jn => ?_⟩ ?_ ?_
        · unfold soV shF
          rw [if_pos j1, if_pos j1]
          by_cases c : j < i
          · rw [if_pos c]
          · rw [if_neg c, if_neg jn, if_neg (by omega)]
        · intro env h' ⟨p, f, ⟨hh, he⟩, ⟨hp1, hp2⟩, hb, hf⟩
          subst hh
          subst he
          have pu := so_put (n := n) (f := f) hG (bo (σ i) si.1 si.2) (i := p) (by omega) (by omega) n4
          have st67 : zStK 67 = (3, some 0) := rfl
          have eF : soH h n (up f p (.ref (ba (σ i)))) = soH h n (soV ba (shF σ p i) n) := by
            unfold soH
            refine congrArg (fun z => zAl h n (67, z)) (ar_ext fun j j0 j1 => ?_)
            by_cases c : j = p
            · rw [c, up_s]
              unfold soV shF
              rw [if_pos (by omega), if_neg (by omega), if_pos rfl]
            · rw [up_n c]
              exact hf j j0 j1 c
          simp (disch := first | assumption | omega | exact zTy_0 | exact zTy_3 | exact zTy_3n | exact zTy_1 | exact zTy_B | exact zTy_b0 | exact zTy_4 | exact zEl_n | exact zEz4 | exact zEz9 | exact hz _ _ | exact hz2 _ _ | exact zI0 | exact zI1 | exact zI2 | exact zI3 | exact zI4 | exact zI5 | exact zI6 | exact zI7 | exact zI8 | exact zI9 | exact zI10 | (simp only [zl_21, zl_22, zs_2, ne_eq]; omega) | ((repeat (refine Eq.trans (us_r (by decide)) ?_)); assumption) | ((simp (decide := true) only [us_k, us_s]); omega)) only [↓rKi, ↓rKl, ↓rKn, ↓rKd, ↓rL, ↓r2, ↓r1, ↓rC2, ↓rC1, ↓rCn, ↓rNot, ↓rAnd, ↓rOr, ↓rCi, ↓rBx, ↓rIte, ↓rGf, ↓rLen, ↓rAx, ↓rNa, ↓rA0, ↓rA1, ↓rCs, ↓rCv, ↓rAn, ↓rNew, ↓rSeq, ↓rSkip, ↓rBrk, ↓rCnt, ↓rRetV, ↓rAsg, ↓rRet, ↓rIf, ↓rPf, ↓rPfo, ↓rAs, ↓rAso, ↓rDo, ↓rObj, ↓rBl, ↓rSw, ↓rCopy, ↓zSq_0, ↓zSq_r, ↓zSq_1, ↓zSq_2, ↓zBq_l, ↓zBq_r, ↓zWq_0, ↓zWq_1, ↓zWq_2, ↓zWq_r, ↓zLo_0, ↓zLo_1, ↓zLo_2, ↓zLo_r, ↓zLt_0, ↓rTr, ↓zFin_s, ↓zFin_n, wX_r, wO_s, wI_t, wI_f, zLk_0, zLk_s, zTv_vi, zTv_vb, zTv_vl, zTv_d, zTv_r, zTv_n, zTv_4, zTo_s, zCl_n, zCl_0, zCl_s, Int32.reduceToInt, Int64.reduceToInt, e_add, e_sub, e_mul, e_neg, e_ladd, e_lsub, e_lmul, e_lneg, q_0, q_1, q_2, q_3, q_4, q_5, q_b0, q_b1, p_0, p_1, p_2, p_3, p_4, p_5, p_b0, p_b1, e_lcmp, pl_0, pl_1, pl_2, pl_3, pl_4, pl_5, e_i2l, e_l2i, e_idiv, e_irem, e_ldiv, e_lrem, List.set_cons_zero, List.set_cons_succ, List.getD_cons_zero, List.getD_cons_succ, List.getD_nil, dT, dF, decide_true, decide_false, not_true_eq_false, not_false_eq_true, Bool.not_true, Bool.not_false, zLay_1, zLay_c1, zLay_c2, zLay_n, zWds_n, zWds_c, zCat_0, zCat_1, zCat_3, zCat_4, zLay_4, List.nil_append, List.cons_append, List.replicate_succ, List.replicate_zero, zTy_0, zTy_b0, zTy_1, zTy_3, zTy_3n, zTy_4, and_true, true_and, Option.bind_some, zNul_n, zNul_r, List.getElem?_cons_zero, List.getElem?_cons_succ, Int.add_zero, zTv_B, zTy_B, b_and, b_or, b_andn, b_not, b_shl, b_cmp, b_cmp0, b_cmp0l, b_eq0, b_eq1, zs_2, zl_21, zl_22, gf_s, gf_l, pf_s, pf_l, zl_z, zs_z, nA, and_self, Nat.le_refl, Option.some.injEq, eq_self, Nat.reduceAdd, Nat.reduceSub, C_Ev_asTheyComeAhead_1, B_Ev_asTheyComeAhead_1, T_Ev_asTheyComeAhead_1, st67, pu]
          exact ⟨shF σ p i, eF, soP_sh hs (by omega) i1 (by omega) (by omega) aT_tr hb (fun z => by omega)⟩
        · intro K env h' ⟨p, f, ⟨hh, he⟩, ⟨hp1, hp2⟩, hb, hf⟩
          subst hh
          subst he
          have st67 : zStK 67 = (3, some 0) := rfl
          have fp : f (p - 1) = .ref (ba (σ (p - 1))) := by
            rw [hf (p - 1) (by omega) (by omega) (by omega)]
            unfold soV shF
            rw [if_pos (by omega), if_pos (by omega)]
          have sp := hs.1 (p - 1) (by omega) (by omega)
          have w1 := wr (σ i) si.1 si.2
          have w2 := wr (σ (p - 1)) sp.1 sp.2
          have tgi := fun rest => g_tag (rest := rest) (bh f (σ i) si.1 si.2)
          have ia := e_isAheadOf (h := soH h n f) (bh f (σ i) si.1 si.2) (bh f (σ (p - 1)) sp.1 sp.2) ⟨by omega, by omega⟩ ⟨by have := w1.1.1; show -2147483648 ≤ eT (s 1) (8 + 121 * s 1 5) (σ i) 0; omega, by have := w1.1.2; show eT (s 1) (8 + 121 * s 1 5) (σ i) 0 < 2147483648; omega⟩ ⟨by have := w1.2.1.1; show -2147483648 ≤ eT (s 1) (8 + 121 * s 1 5) (σ i) 1; omega, by have := w1.2.1.2; show eT (s 1) (8 + 121 * s 1 5) (σ i) 1 < 2147483648; omega⟩ ⟨by have := w1.2.2.1; show -2147483648 ≤ eT (s 1) (8 + 121 * s 1 5) (σ i) 2; omega, by have := w1.2.2.2; show eT (s 1) (8 + 121 * s 1 5) (σ i) 2 < 2147483648; omega⟩ ⟨by omega, by omega⟩ ⟨by have := w2.1.1; show -2147483648 ≤ eT (s 1) (8 + 121 * s 1 5) (σ (p - 1)) 0; omega, by have := w2.1.2; show eT (s 1) (8 + 121 * s 1 5) (σ (p - 1)) 0 < 2147483648; omega⟩ ⟨by have := w2.2.1.1; show -2147483648 ≤ eT (s 1) (8 + 121 * s 1 5) (σ (p - 1)) 1; omega, by have := w2.2.1.2; show eT (s 1) (8 + 121 * s 1 5) (σ (p - 1)) 1 < 2147483648; omega⟩ ⟨by have := w2.2.2.1; show -2147483648 ≤ eT (s 1) (8 + 121 * s 1 5) (σ (p - 1)) 2; omega, by have := w2.2.2.2; show eT (s 1) (8 + 121 * s 1 5) (σ (p - 1)) 2 < 2147483648; omega⟩
          by_cases c : aT s (σ i) (σ (p - 1))
          · rw [decide_eq_true (show ahd _ _ _ _ _ _ _ _ from c)] at ia
            have pu := so_put (n := n) (f := f) hG (bo (σ (p - 1)) sp.1 sp.2) (i := p) (by omega) (by omega) n4
            simp (disch := first | assumption | omega | exact zTy_0 | exact zTy_3 | exact zTy_3n | exact zTy_1 | exact zTy_B | exact zTy_b0 | exact zTy_4 | exact zEl_n | exact zEz4 | exact zEz9 | exact hz _ _ | exact hz2 _ _ | exact zI0 | exact zI1 | exact zI2 | exact zI3 | exact zI4 | exact zI5 | exact zI6 | exact zI7 | exact zI8 | exact zI9 | exact zI10 | (simp only [zl_21, zl_22, zs_2, ne_eq]; omega) | ((repeat (refine Eq.trans (us_r (by decide)) ?_)); assumption) | ((simp (decide := true) only [us_k, us_s]); omega)) only [↓rKi, ↓rKl, ↓rKn, ↓rKd, ↓rL, ↓r2, ↓r1, ↓rC2, ↓rC1, ↓rCn, ↓rNot, ↓rAnd, ↓rOr, ↓rCi, ↓rBx, ↓rIte, ↓rGf, ↓rLen, ↓rAx, ↓rNa, ↓rA0, ↓rA1, ↓rCs, ↓rCv, ↓rAn, ↓rNew, ↓rSeq, ↓rSkip, ↓rBrk, ↓rCnt, ↓rRetV, ↓rAsg, ↓rRet, ↓rIf, ↓rPf, ↓rPfo, ↓rAs, ↓rAso, ↓rDo, ↓rObj, ↓rBl, ↓rSw, ↓rCopy, ↓zSq_0, ↓zSq_r, ↓zSq_1, ↓zSq_2, ↓zBq_l, ↓zBq_r, ↓zWq_0, ↓zWq_1, ↓zWq_2, ↓zWq_r, ↓zLo_0, ↓zLo_1, ↓zLo_2, ↓zLo_r, ↓zLt_0, ↓rTr, ↓zFin_s, ↓zFin_n, wX_r, wO_s, wI_t, wI_f, zLk_0, zLk_s, zTv_vi, zTv_vb, zTv_vl, zTv_d, zTv_r, zTv_n, zTv_4, zTo_s, zCl_n, zCl_0, zCl_s, Int32.reduceToInt, Int64.reduceToInt, e_add, e_sub, e_mul, e_neg, e_ladd, e_lsub, e_lmul, e_lneg, q_0, q_1, q_2, q_3, q_4, q_5, q_b0, q_b1, p_0, p_1, p_2, p_3, p_4, p_5, p_b0, p_b1, e_lcmp, pl_0, pl_1, pl_2, pl_3, pl_4, pl_5, e_i2l, e_l2i, e_idiv, e_irem, e_ldiv, e_lrem, List.set_cons_zero, List.set_cons_succ, List.getD_cons_zero, List.getD_cons_succ, List.getD_nil, dT, dF, decide_true, decide_false, not_true_eq_false, not_false_eq_true, Bool.not_true, Bool.not_false, zLay_1, zLay_c1, zLay_c2, zLay_n, zWds_n, zWds_c, zCat_0, zCat_1, zCat_3, zCat_4, zLay_4, List.nil_append, List.cons_append, List.replicate_succ, List.replicate_zero, zTy_0, zTy_b0, zTy_1, zTy_3, zTy_3n, zTy_4, and_true, true_and, Option.bind_some, zNul_n, zNul_r, List.getElem?_cons_zero, List.getElem?_cons_succ, Int.add_zero, zTv_B, zTy_B, b_and, b_or, b_andn, b_not, b_shl, b_cmp, b_cmp0, b_cmp0l, b_eq0, b_eq1, zs_2, zl_21, zl_22, gf_s, gf_l, pf_s, pf_l, zl_z, zs_z, nA, and_self, Nat.le_refl, Option.some.injEq, eq_self, Nat.reduceAdd, Nat.reduceSub, C_Ev_asTheyComeAhead_1, B_Ev_asTheyComeAhead_1, T_Ev_asTheyComeAhead_1, g_ar (s9 _), fp, tgi, ia, st67, pu]
            refine ⟨p - 1, _, ⟨rfl, by rw [show p + -1 = p - 1 by omega]⟩, by omega, fun j a b => ?_, fun j j0 j1 jn => ?_⟩
            · by_cases e : j = p - 1
              · rw [e]; exact c
              · exact hb j (by omega) b
            · by_cases e : j = p
              · rw [e, up_s]
                unfold soV shF
                rw [if_pos (by omega), if_neg (by omega), if_neg (by omega), if_pos (by omega)]
              · rw [up_n e, hf j j0 j1 e]
                unfold soV shF
                rw [if_pos j1, if_pos j1]
                by_cases c2 : j < p - 1
                · rw [if_pos (by omega), if_pos c2]
                · rw [if_neg (by omega), if_neg e, if_neg c2, if_neg jn]
          · rw [decide_eq_false (show ¬ ahd _ _ _ _ _ _ _ _ from c)] at ia
            have ne : σ (p - 1) ≠ σ i := fun z => by
              have := hs.2.1 _ _ (by omega) (by omega) (by omega) i1 z
              omega
            have al : aT s (σ (p - 1)) (σ i) := by
              rcases aT_to (s := s) ne with g | g
              · exact g
              · exact (c g).elim
            have pu := so_put (n := n) (f := f) hG (bo (σ i) si.1 si.2) (i := p) (by omega) (by omega) n4
            have eF : soH h n (up f p (.ref (ba (σ i)))) = soH h n (soV ba (shF σ p i) n) := by
              unfold soH
              refine congrArg (fun z => zAl h n (67, z)) (ar_ext fun j j0 j1 => ?_)
              by_cases c : j = p
              · rw [c, up_s]
                unfold soV shF
                rw [if_pos (by omega), if_neg (by omega), if_pos rfl]
              · rw [up_n c]
                exact hf j j0 j1 c
            simp (disch := first | assumption | omega | exact zTy_0 | exact zTy_3 | exact zTy_3n | exact zTy_1 | exact zTy_B | exact zTy_b0 | exact zTy_4 | exact zEl_n | exact zEz4 | exact zEz9 | exact hz _ _ | exact hz2 _ _ | exact zI0 | exact zI1 | exact zI2 | exact zI3 | exact zI4 | exact zI5 | exact zI6 | exact zI7 | exact zI8 | exact zI9 | exact zI10 | (simp only [zl_21, zl_22, zs_2, ne_eq]; omega) | ((repeat (refine Eq.trans (us_r (by decide)) ?_)); assumption) | ((simp (decide := true) only [us_k, us_s]); omega)) only [↓rKi, ↓rKl, ↓rKn, ↓rKd, ↓rL, ↓r2, ↓r1, ↓rC2, ↓rC1, ↓rCn, ↓rNot, ↓rAnd, ↓rOr, ↓rCi, ↓rBx, ↓rIte, ↓rGf, ↓rLen, ↓rAx, ↓rNa, ↓rA0, ↓rA1, ↓rCs, ↓rCv, ↓rAn, ↓rNew, ↓rSeq, ↓rSkip, ↓rBrk, ↓rCnt, ↓rRetV, ↓rAsg, ↓rRet, ↓rIf, ↓rPf, ↓rPfo, ↓rAs, ↓rAso, ↓rDo, ↓rObj, ↓rBl, ↓rSw, ↓rCopy, ↓zSq_0, ↓zSq_r, ↓zSq_1, ↓zSq_2, ↓zBq_l, ↓zBq_r, ↓zWq_0, ↓zWq_1, ↓zWq_2, ↓zWq_r, ↓zLo_0, ↓zLo_1, ↓zLo_2, ↓zLo_r, ↓zLt_0, ↓rTr, ↓zFin_s, ↓zFin_n, wX_r, wO_s, wI_t, wI_f, zLk_0, zLk_s, zTv_vi, zTv_vb, zTv_vl, zTv_d, zTv_r, zTv_n, zTv_4, zTo_s, zCl_n, zCl_0, zCl_s, Int32.reduceToInt, Int64.reduceToInt, e_add, e_sub, e_mul, e_neg, e_ladd, e_lsub, e_lmul, e_lneg, q_0, q_1, q_2, q_3, q_4, q_5, q_b0, q_b1, p_0, p_1, p_2, p_3, p_4, p_5, p_b0, p_b1, e_lcmp, pl_0, pl_1, pl_2, pl_3, pl_4, pl_5, e_i2l, e_l2i, e_idiv, e_irem, e_ldiv, e_lrem, List.set_cons_zero, List.set_cons_succ, List.getD_cons_zero, List.getD_cons_succ, List.getD_nil, dT, dF, decide_true, decide_false, not_true_eq_false, not_false_eq_true, Bool.not_true, Bool.not_false, zLay_1, zLay_c1, zLay_c2, zLay_n, zWds_n, zWds_c, zCat_0, zCat_1, zCat_3, zCat_4, zLay_4, List.nil_append, List.cons_append, List.replicate_succ, List.replicate_zero, zTy_0, zTy_b0, zTy_1, zTy_3, zTy_3n, zTy_4, and_true, true_and, Option.bind_some, zNul_n, zNul_r, List.getElem?_cons_zero, List.getElem?_cons_succ, Int.add_zero, zTv_B, zTy_B, b_and, b_or, b_andn, b_not, b_shl, b_cmp, b_cmp0, b_cmp0l, b_eq0, b_eq1, zs_2, zl_21, zl_22, gf_s, gf_l, pf_s, pf_l, zl_z, zs_z, nA, and_self, Nat.le_refl, Option.some.injEq, eq_self, Nat.reduceAdd, Nat.reduceSub, C_Ev_asTheyComeAhead_1, B_Ev_asTheyComeAhead_1, T_Ev_asTheyComeAhead_1, g_ar (s9 _), fp, tgi, ia, st67, pu]
            exact ⟨shF σ p i, eF, soP_sh hs (by omega) i1 (by omega) hp2 aT_tr hb (fun _ => al)⟩
      · intro env h' ⟨σ, ⟨hh, he⟩, hs⟩
        subst hh
        subst he
        simp (disch := first | assumption | omega | exact zTy_0 | exact zTy_3 | exact zTy_3n | exact zTy_1 | exact zTy_B | exact zTy_b0 | exact zTy_4 | exact zEl_n | exact zEz4 | exact zEz9 | exact hz _ _ | exact hz2 _ _ | exact zI0 | exact zI1 | exact zI2 | exact zI3 | exact zI4 | exact zI5 | exact zI6 | exact zI7 | exact zI8 | exact zI9 | exact zI10 | (simp only [zl_21, zl_22, zs_2, ne_eq]; omega) | ((repeat (refine Eq.trans (us_r (by decide)) ?_)); assumption) | ((simp (decide := true) only [us_k, us_s]); omega)) only [↓rKi, ↓rKl, ↓rKn, ↓rKd, ↓rL, ↓r2, ↓r1, ↓rC2, ↓rC1, ↓rCn, ↓rNot, ↓rAnd, ↓rOr, ↓rCi, ↓rBx, ↓rIte, ↓rGf, ↓rLen, ↓rAx, ↓rNa, ↓rA0, ↓rA1, ↓rCs, ↓rCv, ↓rAn, ↓rNew, ↓rSeq, ↓rSkip, ↓rBrk, ↓rCnt, ↓rRetV, ↓rAsg, ↓rRet, ↓rIf, ↓rPf, ↓rPfo, ↓rAs, ↓rAso, ↓rDo, ↓rObj, ↓rBl, ↓rSw, ↓rCopy, ↓zSq_0, ↓zSq_r, ↓zSq_1, ↓zSq_2, ↓zBq_l, ↓zBq_r, ↓zWq_0, ↓zWq_1, ↓zWq_2, ↓zWq_r, ↓zLo_0, ↓zLo_1, ↓zLo_2, ↓zLo_r, ↓zLt_0, ↓rTr, ↓zFin_s, ↓zFin_n, wX_r, wO_s, wI_t, wI_f, zLk_0, zLk_s, zTv_vi, zTv_vb, zTv_vl, zTv_d, zTv_r, zTv_n, zTv_4, zTo_s, zCl_n, zCl_0, zCl_s, Int32.reduceToInt, Int64.reduceToInt, e_add, e_sub, e_mul, e_neg, e_ladd, e_lsub, e_lmul, e_lneg, q_0, q_1, q_2, q_3, q_4, q_5, q_b0, q_b1, p_0, p_1, p_2, p_3, p_4, p_5, p_b0, p_b1, e_lcmp, pl_0, pl_1, pl_2, pl_3, pl_4, pl_5, e_i2l, e_l2i, e_idiv, e_irem, e_ldiv, e_lrem, List.set_cons_zero, List.set_cons_succ, List.getD_cons_zero, List.getD_cons_succ, List.getD_nil, dT, dF, decide_true, decide_false, not_true_eq_false, not_false_eq_true, Bool.not_true, Bool.not_false, zLay_1, zLay_c1, zLay_c2, zLay_n, zWds_n, zWds_c, zCat_0, zCat_1, zCat_3, zCat_4, zLay_4, List.nil_append, List.cons_append, List.replicate_succ, List.replicate_zero, zTy_0, zTy_b0, zTy_1, zTy_3, zTy_3n, zTy_4, and_true, true_and, Option.bind_some, zNul_n, zNul_r, List.getElem?_cons_zero, List.getElem?_cons_succ, Int.add_zero, zTv_B, zTy_B, b_and, b_or, b_andn, b_not, b_shl, b_cmp, b_cmp0, b_cmp0l, b_eq0, b_eq1, zs_2, zl_21, zl_22, gf_s, gf_l, pf_s, pf_l, zl_z, zs_z, nA, and_self, Nat.le_refl, Option.some.injEq, eq_self, Nat.reduceAdd, Nat.reduceSub, C_Ev_asTheyComeAhead_0, B_Ev_asTheyComeAhead_0, T_Ev_asTheyComeAhead_0, g_len (s9 _)]
        exact ⟨en _, σ, hs, rfl, rfl⟩
  obtain ⟨r1, h1, e, σ, hs, rfl, rfl⟩ := key
  exact ⟨σ, hs, e⟩
end
