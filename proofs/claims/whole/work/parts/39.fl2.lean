/-! .. the search -/
section
variable {B tr n : Nat} {rad pw sm : Int} {gi : Nat → Int} {ga : Nat → Int → Value} {r : zHp} {s : Nat → Int → Int}
def opN (op : Int → Int) (j : Int) : Int := if j = -1 then -1 else op j
/-- the live knots as they come ahead -/
def OP (s : Nat → Int → Int) (oc : Int) (op : Int → Int) : Prop := (∀ i, 0 ≤ i → i < oc → (0 ≤ op i ∧ op i < s 0 10) ∧ s 8 (op i) = 1) ∧ (∀ i j, 0 ≤ i → i < j → j < oc → ahS s (op i) (op j)) ∧ (∀ k, 0 ≤ k → k < s 0 10 → s 8 k = 1 → ∃ i, (0 ≤ i ∧ i < oc) ∧ op i = k)
def FS (s : Nat → Int → Int) (op : Int → Int) (oc : Int) (gi : Nat → Int) (P : Int → Int → Prop) : Prop := (gi 1 = -1 ∧ gi 2 = -1 ∧ bst s P (-1) (-1)) ∨ ((0 ≤ gi 1 ∧ gi 1 < oc) ∧ (gi 2 = -1 ∨ (gi 1 < gi 2 ∧ gi 2 < oc)) ∧ gi 3 = upS s (op (gi 1)) (opN op (gi 2)) ∧ gi 4 = dnS s (op (gi 1)) (opN op (gi 2)) ∧ bst s P (op (gi 1)) (opN op (gi 2)))
theorem FS_offer {op : Int → Int} {oc i j : Int} {P P' : Int → Int → Prop} (ok : sOK s) (hop : ∀ i, 0 ≤ i → i < oc → 0 ≤ op i) (f : FS s op oc gi P) (i0 : 0 ≤ i) (i1 : i < oc) (j0 : j = -1 ∨ (i < j ∧ j < oc)) (hc0 : cnd s (op i) (opN op j)) (hp : ∀ a c, cnd s a c → (P' a c ↔ P a c ∨ (a = op i ∧ c = opN op j))) (hn : ¬ P (op i) (opN op j)) (ht : ∀ b w, cnd s b w → P b w → ((w = -1 ∧ opN op j ≠ -1) ∨ ((w = -1 ↔ opN op j = -1) ∧ ((b ≠ op i ∧ ahS s b (op i)) ∨ (b = op i ∧ w ≠ -1 ∧ ahS s w (opN op j)))))) : FS s op oc (gOff gi i j (upS s (op i) (opN op j)) (dnS s (op i) (opN op j))) P' := by
  have new : (gi 1 = -1 ∨ upS s (op i) (opN op j) * gi 4 < gi 3 * dnS s (op i) (opN op j)) → bst s P' (op i) (opN op j) → FS s op oc (gOff gi i j (upS s (op i) (opN op j)) (dnS s (op i) (opN op j))) P' := by
    intro hcond hb
    refine Or.inr ?_
    unfold gOff
    rw [if_pos hcond]
    simp only [ug]
    exact ⟨⟨i0, i1⟩, j0, rfl, rfl, hb⟩
  rcases f with ⟨f1, f2, f3⟩ | ⟨f1, f2, f3, f4, f5⟩
  · exact new (Or.inl f1) (bst_new ok f3 hc0 hp (Or.inl rfl))
  · have hbw : cnd s (op (gi 1)) (opN op (gi 2)) ∧ P (op (gi 1)) (opN op (gi 2)) := by
      rcases f5 with ⟨z, _, z2⟩ | ⟨z1, z2, _⟩
      · have := hop (gi 1) f1.1 f1.2
        omega
      · exact ⟨z1, z2⟩
    have hb0 : op (gi 1) ≠ -1 := by have := hbw.1.1; omega
    by_cases hcond : upS s (op i) (opN op j) * gi 4 < gi 3 * dnS s (op i) (opN op j)
    · refine new (Or.inr hcond) (bst_new ok f5 hc0 hp (Or.inr (Or.inl ?_)))
      unfold msS
      rw [oL (by rw [← f3, ← f4]; exact hcond)]
      decide
    · have hold : soS s (op (gi 1)) (opN op (gi 2)) (op i) (opN op j) := by
        have hm : msS s (op (gi 1)) (opN op (gi 2)) (op i) (opN op j) ≤ 0 := by
          unfold msS
          rw [ordI_le, ← f3, ← f4]
          omega
        by_cases h0 : msS s (op (gi 1)) (opN op (gi 2)) (op i) (opN op j) < 0
        · exact Or.inl h0
        · exact Or.inr ⟨by omega, ht _ _ hbw.1 hbw.2⟩
      have hb2 := bst_old f5 hb0 hp hn (soS_asym hold)
      refine Or.inr ?_
      unfold gOff
      rw [if_neg (by omega)]
      exact ⟨f1, f2, f3, f4, hb2⟩
def fKeep (gi gi2 : Nat → Int) : Prop := gi2 0 = gi 0 ∧ ∀ j, 5 ≤ j → gi2 j = gi j
theorem fKeep_off {gi gi2 : Nat → Int} {i j U D : Int} (h : fKeep gi gi2) : fKeep gi (gOff gi2 i j U D) := by
  unfold gOff
  split
  · exact ⟨h.1, fun j hj => by simp only [ug]; rw [if_neg (by omega), if_neg (by omega), if_neg (by omega), if_neg (by omega)]; exact h.2 j hj⟩
  · exact h
def PA (op : Int → Int) (i : Int) : Int → Int → Prop := fun b w => w = -1 ∧ ∃ i', (0 ≤ i' ∧ i' < i) ∧ op i' = b
def PB (op : Int → Int) (oc i j : Int) : Int → Int → Prop := fun b w => w = -1 ∨ ∃ i' j', (0 ≤ i' ∧ i' < j' ∧ j' < oc) ∧ (op i' = b ∧ op j' = w) ∧ (i' < i ∨ (i' = i ∧ j' < j))
theorem op_inj {op : Int → Int} {oc : Int} (ho : OP s oc op) {i j : Int} (i0 : 0 ≤ i) (i1 : i < oc) (j0 : 0 ≤ j) (j1 : j < oc) (h : op i = op j) : i = j := by
  obtain ⟨-, o2, -⟩ := ho
  by_cases c : i < j
  · have := o2 i j i0 c j1
    rw [h] at this
    exact absurd this (ahS_asym this)
  · by_cases d : j < i
    · have := o2 j i j0 d i1
      rw [h] at this
      exact absurd this (ahS_asym this)
    · omega
theorem FS_m {op : Int → Int} {oc : Int} {P P' : Int → Int → Prop} (f : FS s op oc gi P) (h : ∀ a c, cnd s a c → (P' a c ↔ P a c)) : FS s op oc gi P' := by
  rcases f with ⟨f1, f2, f3⟩ | ⟨f1, f2, f3, f4, f5⟩
  · exact Or.inl ⟨f1, f2, bst_no f3 h⟩
  · exact Or.inr ⟨f1, f2, f3, f4, bst_no f5 h⟩
theorem FS_hb {op : Int → Int} {oc : Int} {P : Int → Int → Prop} (ho : OP s oc op) (f : FS s op oc gi P) : gi 1 = -1 ∨ cR s (op (gi 1)) (opN op (gi 2)) ∧ gi 3 = upS s (op (gi 1)) (opN op (gi 2)) ∧ gi 4 = dnS s (op (gi 1)) (opN op (gi 2)) := by
  rcases f with ⟨f1, f2, f3⟩ | ⟨f1, f2, f3, f4, f5⟩
  · exact Or.inl f1
  · refine Or.inr ⟨⟨(ho.1 _ f1.1 f1.2).1, ?_⟩, f3, f4⟩
    unfold opN
    rcases f2 with f2 | f2
    · rw [if_pos f2]
      have := (ho.1 _ f1.1 f1.2).1
      omega
    · rw [if_neg (by omega)]
      have := (ho.1 (gi 2) (by omega) f2.2).1
      omega
theorem FS_iR {op : Int → Int} {oc : Int} {P : Int → Int → Prop} (hoc : oc ≤ 40) (f : FS s op oc gi P) : iR (gi 1) := by
  rcases f with ⟨f1, f2, f3⟩ | ⟨f1, f2, f3, f4, f5⟩ <;> omega
theorem L_fl0 {op : Int → Int} {ka ba : Int → Nat} {gi0 : Nat → Int} (ok : sOK s) (st : sSet s) (kf : KF B r s ka ba) (hn : n ≤ 40) (o0 : 0 ≤ gi0 0) (o1 : gi0 0 ≤ n) (ho : OP s (gi0 0) op) (hg : ∀ i, 0 ≤ i → i < gi0 0 → ga 3 i = .ref (ka (op i))) (fk : fKeep gi0 gi) (f : FS s op (gi0 0) gi (PA op 0)) : ∃ gi2, fKeep gi0 gi2 ∧ FS s op (gi0 0) gi2 (PA op (gi0 0)) ∧ L_Ga_findLeast_0 [.ref B, vi 0, .null] (bg B tr n (s 0 12) (s 0 13) sm gi ga r) = some (.inl (0, [.ref B, vi (gi0 0), .null]), bg B tr n (s 0 12) (s 0 13) sm gi2 ga r) := by
  have go : wS (fun o h' => ∃ gi2, fKeep gi0 gi2 ∧ FS s op (gi0 0) gi2 (PA op (gi0 0)) ∧ o = .inl (0, [.ref B, vi (gi0 0), .null]) ∧ h' = bg B tr n (s 0 12) (s 0 13) sm gi2 ga r) L_Ga_findLeast_0 [.ref B, vi 0, .null] (bg B tr n (s 0 12) (s 0 13) sm gi ga r) (zu _) := by
    refine wForI (fun i env h => ∃ gi2, h = bg B tr n (s 0 12) (s 0 13) sm gi2 ga r ∧ env = [.ref B, vi i, .null] ∧ fKeep gi0 gi2 ∧ FS s op (gi0 0) gi2 (PA op i)) 0 (gi0 0) o0 (by omega) ⟨gi, rfl, rfl, fk, f⟩ ?_ ?_
    · intro i env h i0 i1 ⟨gi2, hh, he, k, f⟩
      subst hh
      subst he
      have k0 := k.1
      have hb := FS_hb ho f
      have oi := ho.1 i i0 i1
      have hof := e_offerAlone (B := B) (tr := tr) (n := n) (sm := sm) (i := i) (k := op i) ok st kf hn i0 (by omega) (hg i i0 i1) oi.1 hb (FS_iR (by omega) f)
      simp (disch := first | assumption | omega | exact zTy_0 | exact zTy_3 | exact zTy_3n | exact zTy_1 | exact zTy_B | exact zTy_b0 | exact zTy_4 | exact zEl_n | exact zEz4 | exact zEz9 | exact hz _ _ | exact hz2 _ _ | exact zI0 | exact zI1 | exact zI2 | exact zI3 | exact zI4 | exact zI5 | exact zI6 | exact zI7 | exact zI8 | exact zI9 | exact zI10 | (simp only [zl_21, zl_22, zs_2, ne_eq]; omega) | ((repeat (refine Eq.trans (us_r (by decide)) ?_)); assumption) | ((simp (decide := true) only [us_k, us_s]); omega)) only [↓rKi, ↓rKl, ↓rKn, ↓rKd, ↓rL, ↓r2, ↓r1, ↓rC2, ↓rC1, ↓rCn, ↓rNot, ↓rAnd, ↓rOr, ↓rCi, ↓rBx, ↓rIte, ↓rGf, ↓rLen, ↓rAx, ↓rNa, ↓rA0, ↓rA1, ↓rCs, ↓rCv, ↓rAn, ↓rNew, ↓rSeq, ↓rSkip, ↓rBrk, ↓rCnt, ↓rRetV, ↓rAsg, ↓rRet, ↓rIf, ↓rPf, ↓rPfo, ↓rAs, ↓rAso, ↓rDo, ↓rObj, ↓rBl, ↓rSw, ↓rCopy, ↓zSq_0, ↓zSq_r, ↓zSq_1, ↓zSq_2, ↓zBq_l, ↓zBq_r, ↓zWq_0, ↓zWq_1, ↓zWq_2, ↓zWq_r, ↓zLo_0, ↓zLo_1, ↓zLo_2, ↓zLo_r, ↓zLt_0, ↓rTr, ↓zFin_s, ↓zFin_n, wX_r, wO_s, wI_t, wI_f, zLk_0, zLk_s, zTv_vi, zTv_vb, zTv_vl, zTv_d, zTv_r, zTv_n, zTv_4, zTo_s, zCl_n, zCl_0, zCl_s, Int32.reduceToInt, Int64.reduceToInt, e_add, e_sub, e_mul, e_neg, e_ladd, e_lsub, e_lmul, e_lneg, q_0, q_1, q_2, q_3, q_4, q_5, q_b0, q_b1, p_0, p_1, p_2, p_3, p_4, p_5, p_b0, p_b1, e_lcmp, pl_0, pl_1, pl_2, pl_3, pl_4, pl_5, e_i2l, e_l2i, e_idiv, e_irem, e_ldiv, e_lrem, List.set_cons_zero, List.set_cons_succ, List.getD_cons_zero, List.getD_cons_succ, List.getD_nil, dT, dF, decide_true, decide_false, not_true_eq_false, not_false_eq_true, Bool.not_true, Bool.not_false, zLay_1, zLay_c1, zLay_c2, zLay_n, zWds_n, zWds_c, zCat_0, zCat_1, zCat_3, zCat_4, zLay_4, List.nil_append, List.cons_append, List.replicate_succ, List.replicate_zero, zTy_0, zTy_b0, zTy_1, zTy_3, zTy_3n, zTy_4, and_true, true_and, Option.bind_some, zNul_n, zNul_r, List.getElem?_cons_zero, List.getElem?_cons_succ, Int.add_zero, zTv_B, zTy_B, b_and, b_or, b_andn, b_not, b_shl, b_cmp, b_cmp0, b_cmp0l, b_eq0, b_eq1, zs_2, zl_21, zl_22, gf_s, gf_l, pf_s, pf_l, zl_z, zs_z, nA, and_self, Nat.le_refl, Option.some.injEq, eq_self, Nat.reduceAdd, Nat.reduceSub, bg_2, bgt_0, bgf_0_0, bgf_0_1, bgf_0_2, bgf_0_3, bgf_0_4, bgp_0_4, bgf_0_5, bgp_0_5, bgf_0_6, bgp_0_6, bgf_0_7, bgp_0_7, bgf_0_8, bgp_0_8, bgt_1, bgf_1_0, bgf_1_1, bgf_1_2, bgf_1_3, bgf_1_4, bgf_1_5, bgp_1_5, bgf_1_6, bgf_1_7, bgp_1_7, bgf_1_8, bgf_1_9, bgp_1_9, bgf_1_10, bga_2, bgl_2, bgs_2, bga_3, bgl_3, bgs_3, bga_4, bgl_4, bgs_4, bga_5, bgl_5, bgs_5, bgt_6, bgf_6_0, bgp_6_0, bgf_6_1, bgp_6_1, bgf_6_2, bgp_6_2, bga_7, bgl_7, bgs_7, ug_s, ug_n, ua_s, ua_k, ua_j, zStK_64, zStK_65, zStK_67, zStK_68, zStK_69, zStK_70, zStK_71, zStK_72, zStK_73, C_Ga_findLeast_0, B_Ga_findLeast_0, T_Ga_findLeast_0, hof]
      refine ⟨_, rfl, fKeep_off k, ?_⟩
      have e1 : opN op (-1) = -1 := if_pos rfl
      have := FS_offer (j := -1) (P' := PA op (i + 1)) ok (fun a b c => (ho.1 a b c).1.1) f i0 i1 (Or.inl rfl) (by rw [e1]; exact ⟨⟨oi.1.1, oi.1.2, oi.2⟩, Or.inl rfl⟩) (fun a c hac => by
        rw [e1]
        unfold PA
        constructor
        · rintro ⟨q, i', q1, q2⟩
          by_cases d : i' = i
          · subst d; exact Or.inr ⟨q2.symm, q⟩
          · exact Or.inl ⟨q, i', by omega, q2⟩
        · rintro (⟨q, i', q1, q2⟩ | ⟨q1, q2⟩)
          · exact ⟨q, i', by omega, q2⟩
          · exact ⟨q2, i, by omega, q1.symm⟩) (by
        rintro ⟨q, i', q1, q2⟩
        have := op_inj ho q1.1 (by omega) i0 i1 q2
        omega) (fun b w _ hP => by
        obtain ⟨q, i', q1, q2⟩ := hP
        rw [e1]
        have h3 := ho.2.1 i' i q1.1 q1.2 i1
        rw [q2] at h3
        exact Or.inr ⟨by simp [q], Or.inl ⟨fun z => by rw [z] at h3; exact absurd h3 (ahS_asym h3), h3⟩⟩)
      rw [e1] at this
      exact this
    · intro env h ⟨gi2, hh, he, k, f⟩
      subst hh
      subst he
      have k0 := k.1
      simp (disch := first | assumption | omega | exact zTy_0 | exact zTy_3 | exact zTy_3n | exact zTy_1 | exact zTy_B | exact zTy_b0 | exact zTy_4 | exact zEl_n | exact zEz4 | exact zEz9 | exact hz _ _ | exact hz2 _ _ | exact zI0 | exact zI1 | exact zI2 | exact zI3 | exact zI4 | exact zI5 | exact zI6 | exact zI7 | exact zI8 | exact zI9 | exact zI10 | (simp only [zl_21, zl_22, zs_2, ne_eq]; omega) | ((repeat (refine Eq.trans (us_r (by decide)) ?_)); assumption) | ((simp (decide := true) only [us_k, us_s]); omega)) only [↓rKi, ↓rKl, ↓rKn, ↓rKd, ↓rL, ↓r2, ↓r1, ↓rC2, ↓rC1, ↓rCn, ↓rNot, ↓rAnd, ↓rOr, ↓rCi, ↓rBx, ↓rIte, ↓rGf, ↓rLen, ↓rAx, ↓rNa, ↓rA0, ↓rA1, ↓rCs, ↓rCv, ↓rAn, ↓rNew, ↓rSeq, ↓rSkip, ↓rBrk, ↓rCnt, ↓rRetV, ↓rAsg, ↓rRet, ↓rIf, ↓rPf, ↓rPfo, ↓rAs, ↓rAso, ↓rDo, ↓rObj, ↓rBl, ↓rSw, ↓rCopy, ↓zSq_0, ↓zSq_r, ↓zSq_1, ↓zSq_2, ↓zBq_l, ↓zBq_r, ↓zWq_0, ↓zWq_1, ↓zWq_2, ↓zWq_r, ↓zLo_0, ↓zLo_1, ↓zLo_2, ↓zLo_r, ↓zLt_0, ↓rTr, ↓zFin_s, ↓zFin_n, wX_r, wO_s, wI_t, wI_f, zLk_0, zLk_s, zTv_vi, zTv_vb, zTv_vl, zTv_d, zTv_r, zTv_n, zTv_4, zTo_s, zCl_n, zCl_0, zCl_s, Int32.reduceToInt, Int64.reduceToInt, e_add, e_sub, e_mul, e_neg, e_ladd, e_lsub, e_lmul, e_lneg, q_0, q_1, q_2, q_3, q_4, q_5, q_b0, q_b1, p_0, p_1, p_2, p_3, p_4, p_5, p_b0, p_b1, e_lcmp, pl_0, pl_1, pl_2, pl_3, pl_4, pl_5, e_i2l, e_l2i, e_idiv, e_irem, e_ldiv, e_lrem, List.set_cons_zero, List.set_cons_succ, List.getD_cons_zero, List.getD_cons_succ, List.getD_nil, dT, dF, decide_true, decide_false, not_true_eq_false, not_false_eq_true, Bool.not_true, Bool.not_false, zLay_1, zLay_c1, zLay_c2, zLay_n, zWds_n, zWds_c, zCat_0, zCat_1, zCat_3, zCat_4, zLay_4, List.nil_append, List.cons_append, List.replicate_succ, List.replicate_zero, zTy_0, zTy_b0, zTy_1, zTy_3, zTy_3n, zTy_4, and_true, true_and, Option.bind_some, zNul_n, zNul_r, List.getElem?_cons_zero, List.getElem?_cons_succ, Int.add_zero, zTv_B, zTy_B, b_and, b_or, b_andn, b_not, b_shl, b_cmp, b_cmp0, b_cmp0l, b_eq0, b_eq1, zs_2, zl_21, zl_22, gf_s, gf_l, pf_s, pf_l, zl_z, zs_z, nA, and_self, Nat.le_refl, Option.some.injEq, eq_self, Nat.reduceAdd, Nat.reduceSub, bg_2, bgt_0, bgf_0_0, bgf_0_1, bgf_0_2, bgf_0_3, bgf_0_4, bgp_0_4, bgf_0_5, bgp_0_5, bgf_0_6, bgp_0_6, bgf_0_7, bgp_0_7, bgf_0_8, bgp_0_8, bgt_1, bgf_1_0, bgf_1_1, bgf_1_2, bgf_1_3, bgf_1_4, bgf_1_5, bgp_1_5, bgf_1_6, bgf_1_7, bgp_1_7, bgf_1_8, bgf_1_9, bgp_1_9, bgf_1_10, bga_2, bgl_2, bgs_2, bga_3, bgl_3, bgs_3, bga_4, bgl_4, bgs_4, bga_5, bgl_5, bgs_5, bgt_6, bgf_6_0, bgp_6_0, bgf_6_1, bgp_6_1, bgf_6_2, bgp_6_2, bga_7, bgl_7, bgs_7, ug_s, ug_n, ua_s, ua_k, ua_j, zStK_64, zStK_65, zStK_67, zStK_68, zStK_69, zStK_70, zStK_71, zStK_72, zStK_73, C_Ga_findLeast_0, B_Ga_findLeast_0, T_Ga_findLeast_0]
      exact ⟨gi2, k, f, rfl⟩
  obtain ⟨o, h', e, gi2, k, f, rfl, rfl⟩ := go
  exact ⟨gi2, k, f, e⟩
end
