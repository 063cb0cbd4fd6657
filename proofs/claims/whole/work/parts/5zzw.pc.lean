/-! prune: the class -/
section
variable {G : zG} {x m a n : Nat} {h h1 H : zHp} {s T gh : Nat → Int → Int} {r : zHp} {L : Int → BitVec 64} {J : Int → Int} {pk ps pj po on : Nat} {fk fs fj fo : Int → Value} {ka ba sa : Int → Nat} {t : Int} {D : Int → Bool}
theorem fg_o (hG : ∀ a o, G a = some o → h.1 a = some o ∧ a < h.2.1) {N : Nat} {f : Int → Bool} : ∀ a o, G a = some o → (fgH h N f).1 a = some o := fun a o q => by
  have := hG a o q
  exact (zl_n (by omega)).trans this.1
theorem fg_put {N : Nat} {f : Int → Bool} {i : Int} {b : Bool} (i0 : 0 ≤ i) (i1 : i < N) (hN : N ≤ 1000000) : zStv 4 66 none (fgH h N f) (.ref h.2.1) (vi i) (vb b) = some (fgH h N (up f i b)) := by
  unfold fgH
  rw [g_set zl_s i0 i1 hN zTy_4 rfl, zl_z]
  refine congrArg (fun z => some (zAl h N (66, z))) (ar_ext fun j _ _ => ?_)
  unfold fgV
  by_cases e : j = i
  · rw [e, up_s, up_s]
  · rw [up_n e, up_n e]
theorem fg_put1 {N : Nat} {f : Int → Bool} {i : Int} (i0 : 0 ≤ i) (i1 : i < N) (hN : N ≤ 1000000) : zStv 4 66 none (fgH h N f) (.ref h.2.1) (vi i) (vi 1) = some (fgH h N (up f i true)) := fg_put (b := true) i0 i1 hN
theorem c_pruneLoop (tf : TF n T gh L J) (q : TrO G a n T gh L J pk ps pj po fk fs fj fo on ka ba sa) (hG : ∀ a o, G a = some o → h.1 a = some o ∧ a < h.2.1) {k z rad : Int} {N : Nat} (hN : T 0 10 = N) (k0 : 0 ≤ k) (k1 : k < T 0 10) (z0 : 0 ≤ z) (z1 : z ≤ 1000) (d0 : 1 ≤ rad) (d1 : rad ≤ 200) : ∃ v6 v7 v8 v9 f, L_Br_pruned_0 [.ref a, .ref (ka k), vi z, vi rad, .ref h.2.1, vi k, vi k, .null, .null, .null] (fgH h N (up (fun _ => false) k true)) = some (.inl (0, [.ref a, .ref (ka k), vi z, vi rad, .ref h.2.1, vi k, v6, v7, v8, v9]), fgH h N f) ∧ oS (prT n T (drP T z rad)) f n = prT n T (drP T z rad) k := by
  have nn := tf_n tf
  have nj := tf_jets tf
  have n1 := tf.2.2.2.1
  have key : wS (fun o h1 => ∃ f, ((∃ v6 v7 v8 v9, o = .inl (0, [.ref a, .ref (ka k), vi z, vi rad, .ref h.2.1, vi k, v6, v7, v8, v9])) ∧ h1 = fgH h N f) ∧ oS (prT n T (drP T z rad)) f n = prT n T (drP T z rad) k) L_Br_pruned_0 [.ref a, .ref (ka k), vi z, vi rad, .ref h.2.1, vi k, vi k, .null, .null, .null] (fgH h N (up (fun _ => false) k true)) (zu _) := by
    unfold L_Br_pruned_0
    by_cases cl : k < n
    · have t1 : (fgH h N (up (fun _ => false) k true)).1 a = _ := (TrO_h q (fg_o hG)).1
      refine wLp (fun K env h' => K = 0 ∧ h' = fgH h N (up (fun _ => false) k true) ∧ env = [.ref a, .ref (ka k), vi z, vi rad, .ref h.2.1, vi k, vi k, .null, .null, .null]) 0 (by omega) ⟨rfl, rfl, rfl⟩ ?_ ?_
      · intro env h' ⟨_, hh, he⟩
        subst hh
        subst he
        simp (disch := first | assumption | omega | exact zTy_0 | exact zTy_3 | exact zTy_3n | exact zTy_1 | exact zTy_B | exact zTy_b0 | exact zTy_4 | exact zEl_n | exact zEz4 | exact zEz9 | exact hz _ _ | exact hz2 _ _ | exact zI0 | exact zI1 | exact zI2 | exact zI3 | exact zI4 | exact zI5 | exact zI6 | exact zI7 | exact zI8 | exact zI9 | exact zI10 | (simp only [zl_21, zl_22, zs_2, ne_eq]; omega) | ((repeat (refine Eq.trans (us_r (by decide)) ?_)); assumption) | ((simp (decide := true) only [us_k, us_s]); omega)) only [↓rKi, ↓rKl, ↓rKn, ↓rKd, ↓rL, ↓r2, ↓r1, ↓rC2, ↓rC1, ↓rCn, ↓rNot, ↓rAnd, ↓rOr, ↓rCi, ↓rBx, ↓rIte, ↓rGf, ↓rLen, ↓rAx, ↓rNa, ↓rA0, ↓rA1, ↓rCs, ↓rCv, ↓rAn, ↓rNew, ↓rSeq, ↓rSkip, ↓rBrk, ↓rCnt, ↓rRetV, ↓rAsg, ↓rRet, ↓rIf, ↓rPf, ↓rPfo, ↓rAs, ↓rAso, ↓rDo, ↓rObj, ↓rBl, ↓rSw, ↓rCopy, ↓zSq_0, ↓zSq_r, ↓zSq_1, ↓zSq_2, ↓zBq_l, ↓zBq_r, ↓zWq_0, ↓zWq_1, ↓zWq_2, ↓zWq_r, ↓zLo_0, ↓zLo_1, ↓zLo_2, ↓zLo_r, ↓zLt_0, ↓rTr, ↓zFin_s, ↓zFin_n, wX_r, wO_s, wI_t, wI_f, zLk_0, zLk_s, zTv_vi, zTv_vb, zTv_vl, zTv_d, zTv_r, zTv_n, zTv_4, zTo_s, zCl_n, zCl_0, zCl_s, Int32.reduceToInt, Int64.reduceToInt, e_add, e_sub, e_mul, e_neg, e_ladd, e_lsub, e_lmul, e_lneg, q_0, q_1, q_2, q_3, q_4, q_5, q_b0, q_b1, p_0, p_1, p_2, p_3, p_4, p_5, p_b0, p_b1, e_lcmp, pl_0, pl_1, pl_2, pl_3, pl_4, pl_5, e_i2l, e_l2i, e_idiv, e_irem, e_ldiv, e_lrem, List.set_cons_zero, List.set_cons_succ, List.getD_cons_zero, List.getD_cons_succ, List.getD_nil, dT, dF, decide_true, decide_false, not_true_eq_false, not_false_eq_true, Bool.not_true, Bool.not_false, zLay_1, zLay_c1, zLay_c2, zLay_n, zWds_n, zWds_c, zCat_0, zCat_1, zCat_3, zCat_4, zLay_4, List.nil_append, List.cons_append, List.replicate_succ, List.replicate_zero, zTy_0, zTy_b0, zTy_1, zTy_3, zTy_3n, zTy_4, and_true, true_and, Option.bind_some, zNul_n, zNul_r, List.getElem?_cons_zero, List.getElem?_cons_succ, Int.add_zero, zTv_B, zTy_B, b_and, b_or, b_andn, b_not, b_shl, b_cmp, b_cmp0, b_cmp0l, b_eq0, b_eq1, zs_2, zl_21, zl_22, gf_s, gf_l, pf_s, pf_l, zl_z, zs_z, nA, and_self, Nat.le_refl, Option.some.injEq, eq_self, Nat.reduceAdd, Nat.reduceSub, C_Br_pruned_0, B_Br_pruned_0, T_Br_pruned_0, g_fld t1]
        refine ⟨_, ⟨⟨_, _, _, _, rfl⟩, rfl⟩, ?_⟩
        rw [oS_set k0 rfl (by omega), oS_0, if_pos rfl, BitVec.zero_or]
      · intro K env h' ⟨hK, _⟩
        omega
    · refine wLp (fun K env h' => ∃ (e : Int) (f : Int → Bool), (h' = fgH h N f ∧ env = [.ref a, .ref (ka k), vi z, vi rad, .ref h.2.1, vi k, vi e, .null, .null, .null]) ∧ (e = n - 1 + K ∧ e ≤ k) ∧ (∀ j, f j = true → j ≤ e → j = k ∨ e < gh 1 j) ∧ oS (prT n T (drP T z rad)) f (e + 1).toNat = prT n T (drP T z rad) k) (k - n + 1).toNat (by omega) ⟨k, up (fun _ => false) k true, ⟨rfl, rfl⟩, by omega, fun j hj _ => ?_, ?_⟩ ?_ ?_
      · by_cases e : j = k
        · exact Or.inl e
        · rw [up_n e] at hj
          exact absurd hj (by decide)
      · rw [oS_set k0 rfl (by omega), oS_0, if_pos rfl, BitVec.zero_or]
      · intro env h' ⟨e, f, ⟨hh, he⟩, ⟨hE, _⟩, _, ho⟩
        subst hh
        subst he
        have t1 : (fgH h N f).1 a = _ := (TrO_h q (fg_o hG)).1
        rw [show (e + 1).toNat = n by omega] at ho
        simp (disch := first | assumption | omega | exact zTy_0 | exact zTy_3 | exact zTy_3n | exact zTy_1 | exact zTy_B | exact zTy_b0 | exact zTy_4 | exact zEl_n | exact zEz4 | exact zEz9 | exact hz _ _ | exact hz2 _ _ | exact zI0 | exact zI1 | exact zI2 | exact zI3 | exact zI4 | exact zI5 | exact zI6 | exact zI7 | exact zI8 | exact zI9 | exact zI10 | (simp only [zl_21, zl_22, zs_2, ne_eq]; omega) | ((repeat (refine Eq.trans (us_r (by decide)) ?_)); assumption) | ((simp (decide := true) only [us_k, us_s]); omega)) only [↓rKi, ↓rKl, ↓rKn, ↓rKd, ↓rL, ↓r2, ↓r1, ↓rC2, ↓rC1, ↓rCn, ↓rNot, ↓rAnd, ↓rOr, ↓rCi, ↓rBx, ↓rIte, ↓rGf, ↓rLen, ↓rAx, ↓rNa, ↓rA0, ↓rA1, ↓rCs, ↓rCv, ↓rAn, ↓rNew, ↓rSeq, ↓rSkip, ↓rBrk, ↓rCnt, ↓rRetV, ↓rAsg, ↓rRet, ↓rIf, ↓rPf, ↓rPfo, ↓rAs, ↓rAso, ↓rDo, ↓rObj, ↓rBl, ↓rSw, ↓rCopy, ↓zSq_0, ↓zSq_r, ↓zSq_1, ↓zSq_2, ↓zBq_l, ↓zBq_r, ↓zWq_0, ↓zWq_1, ↓zWq_2, ↓zWq_r, ↓zLo_0, ↓zLo_1, ↓zLo_2, ↓zLo_r, ↓zLt_0, ↓rTr, ↓zFin_s, ↓zFin_n, wX_r, wO_s, wI_t, wI_f, zLk_0, zLk_s, zTv_vi, zTv_vb, zTv_vl, zTv_d, zTv_r, zTv_n, zTv_4, zTo_s, zCl_n, zCl_0, zCl_s, Int32.reduceToInt, Int64.reduceToInt, e_add, e_sub, e_mul, e_neg, e_ladd, e_lsub, e_lmul, e_lneg, q_0, q_1, q_2, q_3, q_4, q_5, q_b0, q_b1, p_0, p_1, p_2, p_3, p_4, p_5, p_b0, p_b1, e_lcmp, pl_0, pl_1, pl_2, pl_3, pl_4, pl_5, e_i2l, e_l2i, e_idiv, e_irem, e_ldiv, e_lrem, List.set_cons_zero, List.set_cons_succ, List.getD_cons_zero, List.getD_cons_succ, List.getD_nil, dT, dF, decide_true, decide_false, not_true_eq_false, not_false_eq_true, Bool.not_true, Bool.not_false, zLay_1, zLay_c1, zLay_c2, zLay_n, zWds_n, zWds_c, zCat_0, zCat_1, zCat_3, zCat_4, zLay_4, List.nil_append, List.cons_append, List.replicate_succ, List.replicate_zero, zTy_0, zTy_b0, zTy_1, zTy_3, zTy_3n, zTy_4, and_true, true_and, Option.bind_some, zNul_n, zNul_r, List.getElem?_cons_zero, List.getElem?_cons_succ, Int.add_zero, zTv_B, zTy_B, b_and, b_or, b_andn, b_not, b_shl, b_cmp, b_cmp0, b_cmp0l, b_eq0, b_eq1, zs_2, zl_21, zl_22, gf_s, gf_l, pf_s, pf_l, zl_z, zs_z, nA, and_self, Nat.le_refl, Option.some.injEq, eq_self, Nat.reduceAdd, Nat.reduceSub, C_Br_pruned_0, B_Br_pruned_0, T_Br_pruned_0, g_fld t1]
        exact ⟨f, ⟨⟨_, _, _, _, rfl⟩, rfl⟩, ho⟩
      · intro K env h' ⟨e, f, ⟨hh, he⟩, ⟨hE, hk⟩, hP, ho⟩
        subst hh
        subst he
        have qH := TrO_h q (fg_o (N := N) (f := f) hG)
        have t1 : (fgH h N f).1 a = _ := qH.1
        have t2 : (fgH h N f).1 pk = _ := qH.2.1.1
        have e9 : (fgH h N f).1 h.2.1 = some (66, ar N (fgV f)) := zl_s
        have en : (n : Int) ≤ e := by omega
        have e1 : e < T 0 10 := by omega
        obtain ⟨y1, y2, y3⟩ := kn_f (h := fgH h N f) qH (show 0 ≤ e by omega) e1
        have tg := fun rest => g_tag (h := fgH h N f) (rest := rest) y2
        obtain ⟨p1, p2, p3⟩ := c_parts (h := fgH h N f) tf qH en e1
        have pt := tf_pt tf en e1
        have par := tf_par tf en e1
        have os := oS_s (Q := prT n T (drP T z rad)) (f := f) (i := e) (by omega)
        rw [ho] at os
        have pj := prT_j (D := drP T z rad) tf en e1
        by_cases fe : f e = true
        · rw [if_pos fe, pj] at os
          have ff : fgV f e = vb true := by unfold fgV; rw [fe]
          obtain ⟨l1, l2⟩ := pt.1
          obtain ⟨v1, v2⟩ := pt.2.1
          have hl : hvr T e ≠ lgt T e := by
            have := (tf_join tf en e1).1.2.2
            have := pt.2.2.2.2
            omega
          have gl : gh 1 (lgt T e) = e := by
            rcases pt.2.2.2.2 with y | y
            · rw [y.1]; exact par.1
            · rw [y.1]; exact par.2
          have gv : gh 1 (hvr T e) = e := by
            rcases pt.2.2.2.2 with y | y
            · rw [y.2]; exact par.2
            · rw [y.2]; exact par.1
          have fl : f (lgt T e) = false := by
            cases w : f (lgt T e) with
            | false => rfl
            | true => have := hP _ w (by omega); omega
          have fv : f (hvr T e) = false := by
            cases w : f (hvr T e) with
            | false => rfl
            | true => have := hP _ w (by omega); omega
          have o1 := tf_ok tf l1 (show lgt T e < T 0 10 by omega)
          have o2 := tf_ok tf (show 0 ≤ e by omega) e1
          have mz := mul_bd z0 z1 (show 0 ≤ T 5 e by omega) o2.2.2.2
          have mr := mul_bd (show 0 ≤ rad by omega) d1 (show 0 ≤ rad by omega) d1
          have sqb := pt.2.2.2.1
          obtain ⟨-, lf2, lf3⟩ := kn_f (h := fgH h N f) qH l1 (show lgt T e < T 0 10 by omega)
          obtain ⟨-, hv2, hv3⟩ := kn_f (h := fgH h N f) qH v1 (show hvr T e < T 0 10 by omega)
          have qH' := TrO_h q (fg_o (N := N) (f := up f (hvr T e) true) hG)
          have t2' : (fgH h N (up f (hvr T e) true)).1 pk = _ := qH'.2.1.1
          have t1' : (fgH h N (up f (hvr T e) true)).1 a = _ := qH'.1
          obtain ⟨-, lf2', lf3'⟩ := kn_f (h := fgH h N (up f (hvr T e) true)) qH' l1 (show lgt T e < T 0 10 by omega)
          obtain ⟨-, -, p3'⟩ := c_parts (h := fgH h N (up f (hvr T e) true)) tf qH' en e1
          obtain ⟨-, y2', -⟩ := kn_f (h := fgH h N (up f (hvr T e) true)) qH' (show 0 ≤ e by omega) e1
          have tg' := fun rest => g_tag (h := fgH h N (up f (hvr T e) true)) (rest := rest) y2'
          have pu1 := fg_put1 (h := h) (N := N) (f := f) (i := hvr T e) v1 (by omega) (by omega)
          have pu2 := fun b => fg_put (h := h) (N := N) (f := up f (hvr T e) true) (i := lgt T e) (b := b) l1 (by omega) (by omega)
          have fin : ∀ b : Bool, (b = !drP T z rad e) → ∃ (e' : Int) (f' : Int → Bool), (fgH h N (up (up f (hvr T e) true) (lgt T e) b) = fgH h N f' ∧ [Value.ref a, .ref (ka k), vi z, vi rad, .ref h.2.1, vi k, vi (e + -1), .null, .null, .null] = [.ref a, .ref (ka k), vi z, vi rad, .ref h.2.1, vi k, vi e', .null, .null, .null]) ∧ (e' = n - 1 + K ∧ e' ≤ k) ∧ (∀ j, f' j = true → j ≤ e' → j = k ∨ e' < gh 1 j) ∧ oS (prT n T (drP T z rad)) f' (e' + 1).toNat = prT n T (drP T z rad) k := fun b hb => by
            refine ⟨e + -1, _, ⟨rfl, rfl⟩, by omega, fun j hj hje => ?_, ?_⟩
            · by_cases w1 : j = lgt T e
              · right
                rw [w1, gl]
                omega
              · rw [up_n w1] at hj
                by_cases w2 : j = hvr T e
                · right
                  rw [w2, gv]
                  omega
                · rw [up_n w2] at hj
                  rcases hP j hj (by omega) with w | w
                  · exact Or.inl w
                  · right
                    omega
            · rw [show (e + -1 + 1).toNat = e.toNat by omega, oS_set l1 (by rw [up_n (fun y => hl y.symm)]; exact fl) (by omega), oS_set v1 fv (by omega), os, if_pos rfl, hb, ← BitVec.or_assoc]
              cases drP T z rad e <;> rfl
          by_cases c1 : T 5 (lgt T e) * 1000 < z * T 5 e
          · by_cases c2 : sqP T e ≤ rad * rad
            · have dr : true = !drP T z rad e := by
                unfold drP
                rw [decide_eq_false (show ¬ rad * rad < sqP T e by omega), Bool.and_false]
                rfl
              simp (disch := first | assumption | omega | exact zTy_0 | exact zTy_3 | exact zTy_3n | exact zTy_1 | exact zTy_B | exact zTy_b0 | exact zTy_4 | exact zEl_n | exact zEz4 | exact zEz9 | exact hz _ _ | exact hz2 _ _ | exact zI0 | exact zI1 | exact zI2 | exact zI3 | exact zI4 | exact zI5 | exact zI6 | exact zI7 | exact zI8 | exact zI9 | exact zI10 | (simp only [zl_21, zl_22, zs_2, ne_eq]; omega) | ((repeat (refine Eq.trans (us_r (by decide)) ?_)); assumption) | ((simp (decide := true) only [us_k, us_s]); omega)) only [↓rKi, ↓rKl, ↓rKn, ↓rKd, ↓rL, ↓r2, ↓r1, ↓rC2, ↓rC1, ↓rCn, ↓rNot, ↓rAnd, ↓rOr, ↓rCi, ↓rBx, ↓rIte, ↓rGf, ↓rLen, ↓rAx, ↓rNa, ↓rA0, ↓rA1, ↓rCs, ↓rCv, ↓rAn, ↓rNew, ↓rSeq, ↓rSkip, ↓rBrk, ↓rCnt, ↓rRetV, ↓rAsg, ↓rRet, ↓rIf, ↓rPf, ↓rPfo, ↓rAs, ↓rAso, ↓rDo, ↓rObj, ↓rBl, ↓rSw, ↓rCopy, ↓zSq_0, ↓zSq_r, ↓zSq_1, ↓zSq_2, ↓zBq_l, ↓zBq_r, ↓zWq_0, ↓zWq_1, ↓zWq_2, ↓zWq_r, ↓zLo_0, ↓zLo_1, ↓zLo_2, ↓zLo_r, ↓zLt_0, ↓rTr, ↓zFin_s, ↓zFin_n, wX_r, wO_s, wI_t, wI_f, zLk_0, zLk_s, zTv_vi, zTv_vb, zTv_vl, zTv_d, zTv_r, zTv_n, zTv_4, zTo_s, zCl_n, zCl_0, zCl_s, Int32.reduceToInt, Int64.reduceToInt, e_add, e_sub, e_mul, e_neg, e_ladd, e_lsub, e_lmul, e_lneg, q_0, q_1, q_2, q_3, q_4, q_5, q_b0, q_b1, p_0, p_1, p_2, p_3, p_4, p_5, p_b0, p_b1, e_lcmp, pl_0, pl_1, pl_2, pl_3, pl_4, pl_5, e_i2l, e_l2i, e_idiv, e_irem, e_ldiv, e_lrem, List.set_cons_zero, List.set_cons_succ, List.getD_cons_zero, List.getD_cons_succ, List.getD_nil, dT, dF, decide_true, decide_false, not_true_eq_false, not_false_eq_true, Bool.not_true, Bool.not_false, zLay_1, zLay_c1, zLay_c2, zLay_n, zWds_n, zWds_c, zCat_0, zCat_1, zCat_3, zCat_4, zLay_4, List.nil_append, List.cons_append, List.replicate_succ, List.replicate_zero, zTy_0, zTy_b0, zTy_1, zTy_3, zTy_3n, zTy_4, and_true, true_and, Option.bind_some, zNul_n, zNul_r, List.getElem?_cons_zero, List.getElem?_cons_succ, Int.add_zero, zTv_B, zTy_B, b_and, b_or, b_andn, b_not, b_shl, b_cmp, b_cmp0, b_cmp0l, b_eq0, b_eq1, zs_2, zl_21, zl_22, gf_s, gf_l, pf_s, pf_l, zl_z, zs_z, nA, and_self, Nat.le_refl, Option.some.injEq, eq_self, Nat.reduceAdd, Nat.reduceSub, C_Br_pruned_0, B_Br_pruned_0, T_Br_pruned_0, g_fld t1, g_fld t1', g_ar t2, g_ar t2', y1, tg, tg', p1, p2, p3, p3', g_ar e9, ff, zTv_vb, g_fld y2, g_fld y3, g_fld lf2, g_fld lf3, g_fld hv2, g_fld hv3, g_fld lf2', g_fld lf3', zStK_66, pu1, pu2]
              exact fin true dr
            · have dr : false = !drP T z rad e := by
                unfold drP
                rw [decide_eq_true (show rad * rad < sqP T e by omega), decide_eq_true (show 1000 * T 5 (lgt T e) < z * T 5 e by omega)]
                rfl
              simp (disch := first | assumption | omega | exact zTy_0 | exact zTy_3 | exact zTy_3n | exact zTy_1 | exact zTy_B | exact zTy_b0 | exact zTy_4 | exact zEl_n | exact zEz4 | exact zEz9 | exact hz _ _ | exact hz2 _ _ | exact zI0 | exact zI1 | exact zI2 | exact zI3 | exact zI4 | exact zI5 | exact zI6 | exact zI7 | exact zI8 | exact zI9 | exact zI10 | (simp only [zl_21, zl_22, zs_2, ne_eq]; omega) | ((repeat (refine Eq.trans (us_r (by decide)) ?_)); assumption) | ((simp (decide := true) only [us_k, us_s]); omega)) only [↓rKi, ↓rKl, ↓rKn, ↓rKd, ↓rL, ↓r2, ↓r1, ↓rC2, ↓rC1, ↓rCn, ↓rNot, ↓rAnd, ↓rOr, ↓rCi, ↓rBx, ↓rIte, ↓rGf, ↓rLen, ↓rAx, ↓rNa, ↓rA0, ↓rA1, ↓rCs, ↓rCv, ↓rAn, ↓rNew, ↓rSeq, ↓rSkip, ↓rBrk, ↓rCnt, ↓rRetV, ↓rAsg, ↓rRet, ↓rIf, ↓rPf, ↓rPfo, ↓rAs, ↓rAso, ↓rDo, ↓rObj, ↓rBl, ↓rSw, ↓rCopy, ↓zSq_0, ↓zSq_r, ↓zSq_1, ↓zSq_2, ↓zBq_l, ↓zBq_r, ↓zWq_0, ↓zWq_1, ↓zWq_2, ↓zWq_r, ↓zLo_0, ↓zLo_1, ↓zLo_2, ↓zLo_r, ↓zLt_0, ↓rTr, ↓zFin_s, ↓zFin_n, wX_r, wO_s, wI_t, wI_f, zLk_0, zLk_s, zTv_vi, zTv_vb, zTv_vl, zTv_d, zTv_r, zTv_n, zTv_4, zTo_s, zCl_n, zCl_0, zCl_s, Int32.reduceToInt, Int64.reduceToInt, e_add, e_sub, e_mul, e_neg, e_ladd, e_lsub, e_lmul, e_lneg, q_0, q_1, q_2, q_3, q_4, q_5, q_b0, q_b1, p_0, p_1, p_2, p_3, p_4, p_5, p_b0, p_b1, e_lcmp, pl_0, pl_1, pl_2, pl_3, pl_4, pl_5, e_i2l, e_l2i, e_idiv, e_irem, e_ldiv, e_lrem, List.set_cons_zero, List.set_cons_succ, List.getD_cons_zero, List.getD_cons_succ, List.getD_nil, dT, dF, decide_true, decide_false, not_true_eq_false, not_false_eq_true, Bool.not_true, Bool.not_false, zLay_1, zLay_c1, zLay_c2, zLay_n, zWds_n, zWds_c, zCat_0, zCat_1, zCat_3, zCat_4, zLay_4, List.nil_append, List.cons_append, List.replicate_succ, List.replicate_zero, zTy_0, zTy_b0, zTy_1, zTy_3, zTy_3n, zTy_4, and_true, true_and, Option.bind_some, zNul_n, zNul_r, List.getElem?_cons_zero, List.getElem?_cons_succ, Int.add_zero, zTv_B, zTy_B, b_and, b_or, b_andn, b_not, b_shl, b_cmp, b_cmp0, b_cmp0l, b_eq0, b_eq1, zs_2, zl_21, zl_22, gf_s, gf_l, pf_s, pf_l, zl_z, zs_z, nA, and_self, Nat.le_refl, Option.some.injEq, eq_self, Nat.reduceAdd, Nat.reduceSub, C_Br_pruned_0, B_Br_pruned_0, T_Br_pruned_0, g_fld t1, g_fld t1', g_ar t2, g_ar t2', y1, tg, tg', p1, p2, p3, p3', g_ar e9, ff, zTv_vb, g_fld y2, g_fld y3, g_fld lf2, g_fld lf3, g_fld hv2, g_fld hv3, g_fld lf2', g_fld lf3', zStK_66, pu1, pu2]
              exact fin false dr
          · have dr : true = !drP T z rad e := by
              unfold drP
              rw [decide_eq_false (show ¬ 1000 * T 5 (lgt T e) < z * T 5 e by omega), Bool.false_and]
              rfl
            simp (disch := first | assumption | omega | exact zTy_0 | exact zTy_3 | exact zTy_3n | exact zTy_1 | exact zTy_B | exact zTy_b0 | exact zTy_4 | exact zEl_n | exact zEz4 | exact zEz9 | exact hz _ _ | exact hz2 _ _ | exact zI0 | exact zI1 | exact zI2 | exact zI3 | exact zI4 | exact zI5 | exact zI6 | exact zI7 | exact zI8 | exact zI9 | exact zI10 | (simp only [zl_21, zl_22, zs_2, ne_eq]; omega) | ((repeat (refine Eq.trans (us_r (by decide)) ?_)); assumption) | ((simp (decide := true) only [us_k, us_s]); omega)) only [↓rKi, ↓rKl, ↓rKn, ↓rKd, ↓rL, ↓r2, ↓r1, ↓rC2, ↓rC1, ↓rCn, ↓rNot, ↓rAnd, ↓rOr, ↓rCi, ↓rBx, ↓rIte, ↓rGf, ↓rLen, ↓rAx, ↓rNa, ↓rA0, ↓rA1, ↓rCs, ↓rCv, ↓rAn, ↓rNew, ↓rSeq, ↓rSkip, ↓rBrk, ↓rCnt, ↓rRetV, ↓rAsg, ↓rRet, ↓rIf, ↓rPf, ↓rPfo, ↓rAs, ↓rAso, ↓rDo, ↓rObj, ↓rBl, ↓rSw, ↓rCopy, ↓zSq_0, ↓zSq_r, ↓zSq_1, ↓zSq_2, ↓zBq_l, ↓zBq_r, ↓zWq_0, ↓zWq_1, ↓zWq_2, ↓zWq_r, ↓zLo_0, ↓zLo_1, ↓zLo_2, ↓zLo_r, ↓zLt_0, ↓rTr, ↓zFin_s, ↓zFin_n, wX_r, wO_s, wI_t, wI_f, zLk_0, zLk_s, zTv_vi, zTv_vb, zTv_vl, zTv_d, zTv_r, zTv_n, zTv_4, zTo_s, zCl_n, zCl_0, zCl_s, Int32.reduceToInt, Int64.reduceToInt, e_add, e_sub, e_mul, e_neg, e_ladd, e_lsub, e_lmul, e_lneg, q_0, q_1, q_2, q_3, q_4, q_5, q_b0, q_b1, p_0, p_1, p_2, p_3, p_4, p_5, p_b0, p_b1, e_lcmp, pl_0, pl_1, pl_2, pl_3, pl_4, pl_5, e_i2l, e_l2i, e_idiv, e_irem, e_ldiv, e_lrem, List.set_cons_zero, List.set_cons_succ, List.getD_cons_zero, List.getD_cons_succ, List.getD_nil, dT, dF, decide_true, decide_false, not_true_eq_false, not_false_eq_true, Bool.not_true, Bool.not_false, zLay_1, zLay_c1, zLay_c2, zLay_n, zWds_n, zWds_c, zCat_0, zCat_1, zCat_3, zCat_4, zLay_4, List.nil_append, List.cons_append, List.replicate_succ, List.replicate_zero, zTy_0, zTy_b0, zTy_1, zTy_3, zTy_3n, zTy_4, and_true, true_and, Option.bind_some, zNul_n, zNul_r, List.getElem?_cons_zero, List.getElem?_cons_succ, Int.add_zero, zTv_B, zTy_B, b_and, b_or, b_andn, b_not, b_shl, b_cmp, b_cmp0, b_cmp0l, b_eq0, b_eq1, zs_2, zl_21, zl_22, gf_s, gf_l, pf_s, pf_l, zl_z, zs_z, nA, and_self, Nat.le_refl, Option.some.injEq, eq_self, Nat.reduceAdd, Nat.reduceSub, C_Br_pruned_0, B_Br_pruned_0, T_Br_pruned_0, g_fld t1, g_fld t1', g_ar t2, g_ar t2', y1, tg, tg', p1, p2, p3, p3', g_ar e9, ff, zTv_vb, g_fld y2, g_fld y3, g_fld lf2, g_fld lf3, g_fld hv2, g_fld hv3, g_fld lf2', g_fld lf3', zStK_66, pu1, pu2]
            exact fin true dr
        · have fe' : f e = false := by cases w : f e with
            | false => rfl
            | true => exact absurd w fe
          rw [if_neg fe, BitVec.or_zero] at os
          have ff : fgV f e = vb false := by unfold fgV; rw [fe']
          simp (disch := first | assumption | omega | exact zTy_0 | exact zTy_3 | exact zTy_3n | exact zTy_1 | exact zTy_B | exact zTy_b0 | exact zTy_4 | exact zEl_n | exact zEz4 | exact zEz9 | exact hz _ _ | exact hz2 _ _ | exact zI0 | exact zI1 | exact zI2 | exact zI3 | exact zI4 | exact zI5 | exact zI6 | exact zI7 | exact zI8 | exact zI9 | exact zI10 | (simp only [zl_21, zl_22, zs_2, ne_eq]; omega) | ((repeat (refine Eq.trans (us_r (by decide)) ?_)); assumption) | ((simp (decide := true) only [us_k, us_s]); omega)) only [↓rKi, ↓rKl, ↓rKn, ↓rKd, ↓rL, ↓r2, ↓r1, ↓rC2, ↓rC1, ↓rCn, ↓rNot, ↓rAnd, ↓rOr, ↓rCi, ↓rBx, ↓rIte, ↓rGf, ↓rLen, ↓rAx, ↓rNa, ↓rA0, ↓rA1, ↓rCs, ↓rCv, ↓rAn, ↓rNew, ↓rSeq, ↓rSkip, ↓rBrk, ↓rCnt, ↓rRetV, ↓rAsg, ↓rRet, ↓rIf, ↓rPf, ↓rPfo, ↓rAs, ↓rAso, ↓rDo, ↓rObj, ↓rBl, ↓rSw, ↓rCopy, ↓zSq_0, ↓zSq_r, ↓zSq_1, ↓zSq_2, ↓zBq_l, ↓zBq_r, ↓zWq_0, ↓zWq_1, ↓zWq_2, ↓zWq_r, ↓zLo_0, ↓zLo_1, ↓zLo_2, ↓zLo_r, ↓zLt_0, ↓rTr, ↓zFin_s, ↓zFin_n, wX_r, wO_s, wI_t, wI_f, zLk_0, zLk_s, zTv_vi, zTv_vb, zTv_vl, zTv_d, zTv_r, zTv_n, zTv_4, zTo_s, zCl_n, zCl_0, zCl_s, Int32.reduceToInt, Int64.reduceToInt, e_add, e_sub, e_mul, e_neg, e_ladd, e_lsub, e_lmul, e_lneg, q_0, q_1, q_2, q_3, q_4, q_5, q_b0, q_b1, p_0, p_1, p_2, p_3, p_4, p_5, p_b0, p_b1, e_lcmp, pl_0, pl_1, pl_2, pl_3, pl_4, pl_5, e_i2l, e_l2i, e_idiv, e_irem, e_ldiv, e_lrem, List.set_cons_zero, List.set_cons_succ, List.getD_cons_zero, List.getD_cons_succ, List.getD_nil, dT, dF, decide_true, decide_false, not_true_eq_false, not_false_eq_true, Bool.not_true, Bool.not_false, zLay_1, zLay_c1, zLay_c2, zLay_n, zWds_n, zWds_c, zCat_0, zCat_1, zCat_3, zCat_4, zLay_4, List.nil_append, List.cons_append, List.replicate_succ, List.replicate_zero, zTy_0, zTy_b0, zTy_1, zTy_3, zTy_3n, zTy_4, and_true, true_and, Option.bind_some, zNul_n, zNul_r, List.getElem?_cons_zero, List.getElem?_cons_succ, Int.add_zero, zTv_B, zTy_B, b_and, b_or, b_andn, b_not, b_shl, b_cmp, b_cmp0, b_cmp0l, b_eq0, b_eq1, zs_2, zl_21, zl_22, gf_s, gf_l, pf_s, pf_l, zl_z, zs_z, nA, and_self, Nat.le_refl, Option.some.injEq, eq_self, Nat.reduceAdd, Nat.reduceSub, C_Br_pruned_0, B_Br_pruned_0, T_Br_pruned_0, g_fld t1, g_ar t2, y1, tg, p1, p2, g_ar e9, ff, zTv_vb]
          refine ⟨e + -1, f, ⟨rfl, rfl⟩, by omega, fun j hj hje => ?_, ?_⟩
          · rcases hP j hj (by omega) with w | w
            · exact Or.inl w
            · right
              omega
          · rw [show (e + -1 + 1).toNat = e.toNat by omega]
            exact os.symm
  obtain ⟨o, h', e, f, ⟨⟨v6, v7, v8, v9, rfl⟩, rfl⟩, ho⟩ := key
  exact ⟨v6, v7, v8, v9, f, e, ho⟩
end
