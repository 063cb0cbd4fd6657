/-! THE REFERENCE: leaves of a knot -/
section
variable {m n : Nat} {s gh : Nat → Int → Int} {r : zHp} {L : Int → BitVec 64} {J : Int → Int} {t : Int}
/-- what stays where the row of knots is used -/
def sw (s s' : Nat → Int → Int) : Prop := (∀ k, k ≠ 0 → k ≠ 12 → s' k = s k) ∧ ∀ j, j ≠ 17 → s' 0 j = s 0 j
theorem sw_rf : sw s s := ⟨fun _ _ _ => rfl, fun _ _ => rfl⟩
theorem sw_tr {a b c : Nat → Int → Int} (h : sw a b) (h2 : sw b c) : sw a c := ⟨fun k x y => (h2.1 k x y).trans (h.1 k x y), fun j x => (h2.2 j x).trans (h.2 j x)⟩
theorem sw_0 {s' : Nat → Int → Int} {y : Int} (h : sw s s') : sw s (us s' 0 17 y) := ⟨fun k a b => (us_r a).trans (h.1 k a b), fun j a => (us_j a).trans (h.2 j a)⟩
theorem sw_12 {s' : Nat → Int → Int} {x y : Int} (h : sw s s') : sw s (us s' 12 x y) := ⟨fun k a b => (us_r b).trans (h.1 k a b), fun j a => (us_k (by decide)).trans (h.2 j a)⟩
theorem sw_1 {s' : Nat → Int → Int} (h : sw s s') : s' 1 = s 1 := h.1 1 (by decide) (by decide)
theorem isum_s {f : Int → Int} {R : Int} (h : 0 ≤ R) : isum f (R + 1).toNat = isum f R.toNat + f R := by
  rw [show (R + 1).toNat = R.toNat + 1 by omega]
  show isum f R.toNat + f ((R.toNat : Nat) : Int) = _
  rw [show ((R.toNat : Nat) : Int) = R by omega]
theorem isum_ge1 {f : Int → Int} : ∀ {m : Nat}, (∀ i : Int, 0 ≤ i → i < m → 1 ≤ f i) → (m : Int) ≤ isum f m
  | 0, _ => by simp [isum]
  | m + 1, h => by
    have h1 := isum_ge1 (f := f) (m := m) fun i a b => h i a (by omega)
    have h2 := h m (by omega) (by omega)
    show ((m + 1 : Nat) : Int) ≤ isum f m + f m
    omega
/-- the stack: S the set so far, R its height -/
def lvI (n : Nat) (T : Nat → Int → Int) (L : Int → BitVec 64) (k0 : Int) (S : BitVec 64) (R : Int) (f : Int → Int) (K : Nat) : Prop := 0 ≤ R ∧ (∀ j, 0 ≤ j → j < R → 0 ≤ f j ∧ f j < T 0 10) ∧ (∀ i, bHas (L k0) i = true ↔ (bHas S i = true ∨ ∃ j, (0 ≤ j ∧ j < R) ∧ bHas (L (f j)) i = true)) ∧ isum (fun j => pc (L (f j))) R.toNat ≤ n ∧ isum (fun j => 2 * pc (L (f j)) - 1) R.toNat ≤ K
theorem lvI_R {T : Nat → Int → Int} (h : TF n T gh L J) {k0 R : Int} {S : BitVec 64} {f : Int → Int} {K : Nat} (v : lvI n T L k0 S R f K) : R ≤ n ∧ R ≤ K := by
  obtain ⟨v1, v2, v3, v4, v5⟩ := v
  have b := isum_ge1 (f := fun j => pc (L (f j))) (m := R.toNat) fun i a b => by
    have x := v2 i a (by omega)
    exact (tf_bits h x.1 x.2).2.2.1
  have b2 := isum_ge1 (f := fun j => 2 * pc (L (f j)) - 1) (m := R.toNat) fun i a b => by
    have x := v2 i a (by omega)
    have := (tf_bits h x.1 x.2).2.2.1
    show 1 ≤ 2 * pc (L (f i)) - 1
    omega
  omega
theorem lvI_0 {T : Nat → Int → Int} (h : TF n T gh L J) {k0 : Int} {S : BitVec 64} {f : Int → Int} {K : Nat} (v : lvI n T L k0 S 0 f K) : S = L k0 := by
  refine b_ext fun i i0 i1 => ?_
  have := v.2.2.1 i
  have z : ¬ ∃ j, (0 ≤ j ∧ j < (0 : Int)) ∧ bHas (L (f j)) i = true := fun ⟨j, a, _⟩ => by omega
  simp only [z, or_false] at this
  cases q : bHas S i <;> cases q2 : bHas (L k0) i <;> simp_all
theorem lvI_leaf {T : Nat → Int → Int} (h : TF n T gh L J) {k0 R x : Int} {S S' : BitVec 64} {f f' : Int → Int} {K : Nat} (v : lvI n T L k0 S (R + 1) f (K + 1)) (r0 : 0 ≤ R) (hx : f R = x) (x0 : x < n) (hS : S' = S ||| L x) (hf : ∀ j, 0 ≤ j → j < R → f' j = f j) : lvI n T L k0 S' R f' K := by
  obtain ⟨v1, v2, v3, v4, v5⟩ := v
  rw [isum_s r0] at v4 v5
  have xx := v2 R r0 (by omega)
  rw [hx] at xx v4 v5
  have p1 := tf_pcl h xx.1 x0
  have c1 : isum (fun j => pc (L (f' j))) R.toNat = isum (fun j => pc (L (f j))) R.toNat := isum_ext fun i a b => by rw [hf i a (by omega)]
  have c2 : isum (fun j => 2 * pc (L (f' j)) - 1) R.toNat = isum (fun j => 2 * pc (L (f j)) - 1) R.toNat := isum_ext fun i a b => by rw [hf i a (by omega)]
  refine ⟨r0, fun j a b => by rw [hf j a b]; exact v2 j a (by omega), fun i => ?_, by rw [c1]; omega, by rw [c2]; omega⟩
  rw [v3 i, hS, bHas_or, Bool.or_eq_true]
  constructor
  · rintro (q | ⟨j, a, b⟩)
    · exact Or.inl (Or.inl q)
    · by_cases d : j = R
      · rw [d, hx] at b; exact Or.inl (Or.inr b)
      · exact Or.inr ⟨j, by omega, by rw [hf j a.1 (by omega)]; exact b⟩
  · rintro ((q | q) | ⟨j, a, b⟩)
    · exact Or.inl q
    · exact Or.inr ⟨R, by omega, by rw [hx]; exact q⟩
    · exact Or.inr ⟨j, by omega, by rw [hf j a.1 a.2] at b; exact b⟩
theorem lvI_join {T : Nat → Int → Int} (h : TF n T gh L J) {k0 R x : Int} {S : BitVec 64} {f f' : Int → Int} {K : Nat} (v : lvI n T L k0 S (R + 1) f (K + 1)) (r0 : 0 ≤ R) (hx : f R = x) (x0 : (n : Int) ≤ x) (h1 : f' R = T 6 x) (h2 : f' (R + 1) = T 7 x) (hf : ∀ j, 0 ≤ j → j < R → f' j = f j) : lvI n T L k0 S (R + 1 + 1) f' K := by
  obtain ⟨v1, v2, v3, v4, v5⟩ := v
  rw [isum_s r0] at v4 v5
  have xx := v2 R r0 (by omega)
  rw [hx] at xx v4 v5
  obtain ⟨⟨j1, j2, j3⟩, -, j4, -⟩ := tf_join h x0 xx.2
  have p1 := tf_pc h x0 xx.2
  have c1 : isum (fun j => pc (L (f' j))) R.toNat = isum (fun j => pc (L (f j))) R.toNat := isum_ext fun i a b => by rw [hf i a (by omega)]
  have c2 : isum (fun j => 2 * pc (L (f' j)) - 1) R.toNat = isum (fun j => 2 * pc (L (f j)) - 1) R.toNat := isum_ext fun i a b => by rw [hf i a (by omega)]
  refine ⟨by omega, fun j a b => ?_, fun i => ?_, ?_, ?_⟩
  · by_cases d : j < R
    · rw [hf j a d]; exact v2 j a (by omega)
    · by_cases d2 : j = R
      · rw [d2, h1]; omega
      · rw [show j = R + 1 by omega, h2]; omega
  · rw [v3 i]
    constructor
    · rintro (q | ⟨j, a, b⟩)
      · exact Or.inl q
      · by_cases d : j = R
        · rw [d, hx, j4, bHas_or, Bool.or_eq_true] at b
          rcases b with b | b
          · exact Or.inr ⟨R, by omega, by rw [h1]; exact b⟩
          · exact Or.inr ⟨R + 1, by omega, by rw [h2]; exact b⟩
        · exact Or.inr ⟨j, by omega, by rw [hf j a.1 (by omega)]; exact b⟩
    · rintro (q | ⟨j, a, b⟩)
      · exact Or.inl q
      · by_cases d : j < R
        · exact Or.inr ⟨j, by omega, by rw [hf j a.1 d] at b; exact b⟩
        · refine Or.inr ⟨R, by omega, ?_⟩
          rw [hx, j4, bHas_or, Bool.or_eq_true]
          by_cases d2 : j = R
          · rw [d2, h1] at b; exact Or.inl b
          · rw [show j = R + 1 by omega, h2] at b; exact Or.inr b
  · rw [isum_s (by omega), isum_s r0, c1, h1, h2]; omega
  · rw [isum_s (by omega), isum_s r0, c2, h1, h2]; omega
theorem lvI_i {T : Nat → Int → Int} (h : TF n T gh L J) {k0 : Int} {f : Int → Int} (k1 : 0 ≤ k0) (k2 : k0 < T 0 10) (hf : f 0 = k0) : lvI n T L k0 0#64 1 f 80 := by
  have nn := tf_n h
  have b := tf_bits h k1 k2
  refine ⟨by decide, fun j a b => ?_, fun i => ?_, ?_, ?_⟩
  · rw [show j = 0 by omega, hf]; exact ⟨k1, k2⟩
  · rw [bHas_0]
    constructor
    · exact fun q => Or.inr ⟨0, by omega, by rw [hf]; exact q⟩
    · rintro (q | ⟨j, a, b⟩)
      · cases q
      · rw [show j = 0 by omega, hf] at b; exact b
  · show 0 + pc (L (f ((0 : Nat) : Int))) ≤ _
    rw [show ((0 : Nat) : Int) = 0 from rfl, hf]
    omega
  · show 0 + (2 * pc (L (f ((0 : Nat) : Int))) - 1) ≤ _
    rw [show ((0 : Nat) : Int) = 0 from rfl, hf]
    omega
theorem b_orl {a b : BitVec 64} : oL2 (fun x y => x ||| y) (vB a) (vB b) = some (vB (a ||| b)) := rfl
theorem q_leaves {a : Int → Int} (h : TF n (tS a (371 + 521 * t)) gh L J) (ha : s 1 = a) (t0 : 0 ≤ t) (t4 : t < 4) {k : Int} (k0 : 0 ≤ k) (k1 : k < (tS a (371 + 521 * t)) 0 10) : ∃ s', sw s s' ∧ F_Mo_leavesOf [.ref m, vi t, vi k] (hp m s r) = some (some (vB (L k)), hp m s' r) := by
  subst ha
  have nn := tf_jets h
  have n1 := tf_n h
  have key : ∃ r1 h1, zMeth [3, 0, 0] 6 1 S_Mo_leavesOf [.ref m, vi t, vi k] (hp m s r) = some (r1, h1) ∧ (r1 = some (vB (L k)) ∧ ∃ s', sw s s' ∧ h1 = hp m s' r) := by
    refine zMe (Q := fun r1 h1 => r1 = some (vB (L k)) ∧ ∃ s', sw s s' ∧ h1 = hp m s' r) rfl ?_
    have v0 : vl 0 = vB 0#64 := rfl
    simp (disch := first | assumption | omega | exact zTy_0 | exact zTy_3 | exact zTy_3n | exact zTy_1 | exact zTy_B | exact zTy_b0 | exact zTy_4 | exact zEl_n | exact zEz4 | exact zEz9 | exact hz _ _ | exact hz2 _ _ | exact zI0 | exact zI1 | exact zI2 | exact zI3 | exact zI4 | exact zI5 | exact zI6 | exact zI7 | exact zI8 | exact zI9 | exact zI10 | (simp only [zl_21, zl_22, zs_2, ne_eq]; omega) | ((repeat (refine Eq.trans (us_r (by decide)) ?_)); assumption) | ((simp (decide := true) only [us_k, us_s]); omega)) only [↓rKi, ↓rKl, ↓rKn, ↓rKd, ↓rL, ↓r2, ↓r1, ↓rC2, ↓rC1, ↓rCn, ↓rNot, ↓rAnd, ↓rOr, ↓rCi, ↓rBx, ↓rIte, ↓rGf, ↓rLen, ↓rAx, ↓rNa, ↓rA0, ↓rA1, ↓rCs, ↓rCv, ↓rAn, ↓rNew, ↓rSeq, ↓rSkip, ↓rBrk, ↓rCnt, ↓rRetV, ↓rAsg, ↓rRet, ↓rIf, ↓rPf, ↓rPfo, ↓rAs, ↓rAso, ↓rDo, ↓rObj, ↓rBl, ↓rSw, ↓rCopy, ↓zSq_0, ↓zSq_r, ↓zSq_1, ↓zSq_2, ↓zBq_l, ↓zBq_r, ↓zWq_0, ↓zWq_1, ↓zWq_2, ↓zWq_r, ↓zLo_0, ↓zLo_1, ↓zLo_2, ↓zLo_r, ↓zLt_0, ↓rTr, ↓zFin_s, ↓zFin_n, wX_r, wO_s, wI_t, wI_f, zLk_0, zLk_s, zTv_vi, zTv_vb, zTv_vl, zTv_d, zTv_r, zTv_n, zTv_4, zTo_s, zCl_n, zCl_0, zCl_s, Int32.reduceToInt, Int64.reduceToInt, e_add, e_sub, e_mul, e_neg, e_ladd, e_lsub, e_lmul, e_lneg, q_0, q_1, q_2, q_3, q_4, q_5, q_b0, q_b1, p_0, p_1, p_2, p_3, p_4, p_5, p_b0, p_b1, e_lcmp, pl_0, pl_1, pl_2, pl_3, pl_4, pl_5, e_i2l, e_l2i, e_idiv, e_irem, e_ldiv, e_lrem, List.set_cons_zero, List.set_cons_succ, List.getD_cons_zero, List.getD_cons_succ, List.getD_nil, dT, dF, decide_true, decide_false, not_true_eq_false, not_false_eq_true, Bool.not_true, Bool.not_false, zLay_1, zLay_c1, zLay_c2, zLay_n, zWds_n, zWds_c, zCat_0, zCat_1, zCat_3, zCat_4, zLay_4, List.nil_append, List.cons_append, List.replicate_succ, List.replicate_zero, zTy_0, zTy_b0, zTy_1, zTy_3, zTy_3n, zTy_4, and_true, true_and, Option.bind_some, zNul_n, zNul_r, List.getElem?_cons_zero, List.getElem?_cons_succ, Int.add_zero, zTv_B, zTy_B, b_and, b_or, b_andn, b_not, b_shl, b_cmp, b_cmp0, b_cmp0l, b_eq0, b_eq1, zs_2, zl_21, zl_22, gf_s, gf_l, pf_s, pf_l, zl_z, zs_z, nA, and_self, Nat.le_refl, Option.some.injEq, eq_self, Nat.reduceAdd, Nat.reduceSub, tg_m, mf_0, mf_1, mf_2, mf_3, mf_4, mf_5, mf_6, mf_7, mf_8, mf_9, mp_10, mf_10, mp_11, mf_11, mp_12, mf_12, mp_13, mf_13, mp_14, mf_14, mf_15, mf_16, mp_17, mf_17, mf_18, mf_19, mp_20, mf_20, mp_21, mf_21, mf_22, mp_23, mf_23, mp_24, mf_24, mf_25, mp_26, mf_26, ax_1, asa_1, aso_1, ax_2, asa_2, aso_2, ax_3, asa_3, aso_3, ax_4, asa_4, aso_4, ax_5, asa_5, aso_5, ax_6, asa_6, aso_6, ax_7, asa_7, aso_7, ax_8, asa_8, aso_8, ax_9, asa_9, aso_9, ax_10, asa_10, aso_10, ax_11, asa_11, aso_11, ax_12, asa_12, aso_12, ax_13, asa_13, aso_13, ax_14, asa_14, aso_14, ax_15, asa_15, aso_15, ax_16, asa_16, aso_16, hp_2, us_s, us_k, us_j, us_r, S_Mo_leavesOf, L_Mo_leavesOf_0, v0]
    refine wLp (fun K env h' => ∃ s' S, h' = hp m s' r ∧ sw s s' ∧ env = [.ref m, vi t, vi k, vB S, .null, .null] ∧ lvI n (tS (s 1) (371 + 521 * t)) L k S (s' 0 17) (s' 12) K) 80 (by decide) ⟨us (us s 0 17 1) 12 0 k, 0#64, rfl, sw_12 (sw_0 sw_rf), rfl, by rw [us_k (by decide), us_s]; exact lvI_i h k0 k1 us_s⟩ ?_ ?_
    · intro env h' ⟨s', S, hh, hs, he, hv⟩
      subst hh
      subst he
      have b := lvI_R h hv
      have b0 := hv.1
      have z : s' 0 17 = 0 := by omega
      rw [z] at hv
      have e := lvI_0 h hv
      simp (disch := first | assumption | omega | exact zTy_0 | exact zTy_3 | exact zTy_3n | exact zTy_1 | exact zTy_B | exact zTy_b0 | exact zTy_4 | exact zEl_n | exact zEz4 | exact zEz9 | exact hz _ _ | exact hz2 _ _ | exact zI0 | exact zI1 | exact zI2 | exact zI3 | exact zI4 | exact zI5 | exact zI6 | exact zI7 | exact zI8 | exact zI9 | exact zI10 | (simp only [zl_21, zl_22, zs_2, ne_eq]; omega) | ((repeat (refine Eq.trans (us_r (by decide)) ?_)); assumption) | ((simp (decide := true) only [us_k, us_s]); omega)) only [↓rKi, ↓rKl, ↓rKn, ↓rKd, ↓rL, ↓r2, ↓r1, ↓rC2, ↓rC1, ↓rCn, ↓rNot, ↓rAnd, ↓rOr, ↓rCi, ↓rBx, ↓rIte, ↓rGf, ↓rLen, ↓rAx, ↓rNa, ↓rA0, ↓rA1, ↓rCs, ↓rCv, ↓rAn, ↓rNew, ↓rSeq, ↓rSkip, ↓rBrk, ↓rCnt, ↓rRetV, ↓rAsg, ↓rRet, ↓rIf, ↓rPf, ↓rPfo, ↓rAs, ↓rAso, ↓rDo, ↓rObj, ↓rBl, ↓rSw, ↓rCopy, ↓zSq_0, ↓zSq_r, ↓zSq_1, ↓zSq_2, ↓zBq_l, ↓zBq_r, ↓zWq_0, ↓zWq_1, ↓zWq_2, ↓zWq_r, ↓zLo_0, ↓zLo_1, ↓zLo_2, ↓zLo_r, ↓zLt_0, ↓rTr, ↓zFin_s, ↓zFin_n, wX_r, wO_s, wI_t, wI_f, zLk_0, zLk_s, zTv_vi, zTv_vb, zTv_vl, zTv_d, zTv_r, zTv_n, zTv_4, zTo_s, zCl_n, zCl_0, zCl_s, Int32.reduceToInt, Int64.reduceToInt, e_add, e_sub, e_mul, e_neg, e_ladd, e_lsub, e_lmul, e_lneg, q_0, q_1, q_2, q_3, q_4, q_5, q_b0, q_b1, p_0, p_1, p_2, p_3, p_4, p_5, p_b0, p_b1, e_lcmp, pl_0, pl_1, pl_2, pl_3, pl_4, pl_5, e_i2l, e_l2i, e_idiv, e_irem, e_ldiv, e_lrem, List.set_cons_zero, List.set_cons_succ, List.getD_cons_zero, List.getD_cons_succ, List.getD_nil, dT, dF, decide_true, decide_false, not_true_eq_false, not_false_eq_true, Bool.not_true, Bool.not_false, zLay_1, zLay_c1, zLay_c2, zLay_n, zWds_n, zWds_c, zCat_0, zCat_1, zCat_3, zCat_4, zLay_4, List.nil_append, List.cons_append, List.replicate_succ, List.replicate_zero, zTy_0, zTy_b0, zTy_1, zTy_3, zTy_3n, zTy_4, and_true, true_and, Option.bind_some, zNul_n, zNul_r, List.getElem?_cons_zero, List.getElem?_cons_succ, Int.add_zero, zTv_B, zTy_B, b_and, b_or, b_andn, b_not, b_shl, b_cmp, b_cmp0, b_cmp0l, b_eq0, b_eq1, zs_2, zl_21, zl_22, gf_s, gf_l, pf_s, pf_l, zl_z, zs_z, nA, and_self, Nat.le_refl, Option.some.injEq, eq_self, Nat.reduceAdd, Nat.reduceSub, tg_m, mf_0, mf_1, mf_2, mf_3, mf_4, mf_5, mf_6, mf_7, mf_8, mf_9, mp_10, mf_10, mp_11, mf_11, mp_12, mf_12, mp_13, mf_13, mp_14, mf_14, mf_15, mf_16, mp_17, mf_17, mf_18, mf_19, mp_20, mf_20, mp_21, mf_21, mf_22, mp_23, mf_23, mp_24, mf_24, mf_25, mp_26, mf_26, ax_1, asa_1, aso_1, ax_2, asa_2, aso_2, ax_3, asa_3, aso_3, ax_4, asa_4, aso_4, ax_5, asa_5, aso_5, ax_6, asa_6, aso_6, ax_7, asa_7, aso_7, ax_8, asa_8, aso_8, ax_9, asa_9, aso_9, ax_10, asa_10, aso_10, ax_11, asa_11, aso_11, ax_12, asa_12, aso_12, ax_13, asa_13, aso_13, ax_14, asa_14, aso_14, ax_15, asa_15, aso_15, ax_16, asa_16, aso_16, hp_2, us_s, us_k, us_j, us_r, C_Mo_leavesOf_0, B_Mo_leavesOf_0, T_Mo_leavesOf_0, z]
      exact ⟨by rw [e], s', hs, rfl⟩
    · intro K env h' ⟨s', S, hh, hs, he, hv⟩
      subst hh
      subst he
      have b := lvI_R h hv
      have b0 := hv.1
      have e1 := sw_1 hs
      by_cases z : s' 0 17 = 0
      · rw [z] at hv
        have e := lvI_0 h hv
        simp (disch := first | assumption | omega | exact zTy_0 | exact zTy_3 | exact zTy_3n | exact zTy_1 | exact zTy_B | exact zTy_b0 | exact zTy_4 | exact zEl_n | exact zEz4 | exact zEz9 | exact hz _ _ | exact hz2 _ _ | exact zI0 | exact zI1 | exact zI2 | exact zI3 | exact zI4 | exact zI5 | exact zI6 | exact zI7 | exact zI8 | exact zI9 | exact zI10 | (simp only [zl_21, zl_22, zs_2, ne_eq]; omega) | ((repeat (refine Eq.trans (us_r (by decide)) ?_)); assumption) | ((simp (decide := true) only [us_k, us_s]); omega)) only [↓rKi, ↓rKl, ↓rKn, ↓rKd, ↓rL, ↓r2, ↓r1, ↓rC2, ↓rC1, ↓rCn, ↓rNot, ↓rAnd, ↓rOr, ↓rCi, ↓rBx, ↓rIte, ↓rGf, ↓rLen, ↓rAx, ↓rNa, ↓rA0, ↓rA1, ↓rCs, ↓rCv, ↓rAn, ↓rNew, ↓rSeq, ↓rSkip, ↓rBrk, ↓rCnt, ↓rRetV, ↓rAsg, ↓rRet, ↓rIf, ↓rPf, ↓rPfo, ↓rAs, ↓rAso, ↓rDo, ↓rObj, ↓rBl, ↓rSw, ↓rCopy, ↓zSq_0, ↓zSq_r, ↓zSq_1, ↓zSq_2, ↓zBq_l, ↓zBq_r, ↓zWq_0, ↓zWq_1, ↓zWq_2, ↓zWq_r, ↓zLo_0, ↓zLo_1, ↓zLo_2, ↓zLo_r, ↓zLt_0, ↓rTr, ↓zFin_s, ↓zFin_n, wX_r, wO_s, wI_t, wI_f, zLk_0, zLk_s, zTv_vi, zTv_vb, zTv_vl, zTv_d, zTv_r, zTv_n, zTv_4, zTo_s, zCl_n, zCl_0, zCl_s, Int32.reduceToInt, Int64.reduceToInt, e_add, e_sub, e_mul, e_neg, e_ladd, e_lsub, e_lmul, e_lneg, q_0, q_1, q_2, q_3, q_4, q_5, q_b0, q_b1, p_0, p_1, p_2, p_3, p_4, p_5, p_b0, p_b1, e_lcmp, pl_0, pl_1, pl_2, pl_3, pl_4, pl_5, e_i2l, e_l2i, e_idiv, e_irem, e_ldiv, e_lrem, List.set_cons_zero, List.set_cons_succ, List.getD_cons_zero, List.getD_cons_succ, List.getD_nil, dT, dF, decide_true, decide_false, not_true_eq_false, not_false_eq_true, Bool.not_true, Bool.not_false, zLay_1, zLay_c1, zLay_c2, zLay_n, zWds_n, zWds_c, zCat_0, zCat_1, zCat_3, zCat_4, zLay_4, List.nil_append, List.cons_append, List.replicate_succ, List.replicate_zero, zTy_0, zTy_b0, zTy_1, zTy_3, zTy_3n, zTy_4, and_true, true_and, Option.bind_some, zNul_n, zNul_r, List.getElem?_cons_zero, List.getElem?_cons_succ, Int.add_zero, zTv_B, zTy_B, b_and, b_or, b_andn, b_not, b_shl, b_cmp, b_cmp0, b_cmp0l, b_eq0, b_eq1, zs_2, zl_21, zl_22, gf_s, gf_l, pf_s, pf_l, zl_z, zs_z, nA, and_self, Nat.le_refl, Option.some.injEq, eq_self, Nat.reduceAdd, Nat.reduceSub, tg_m, mf_0, mf_1, mf_2, mf_3, mf_4, mf_5, mf_6, mf_7, mf_8, mf_9, mp_10, mf_10, mp_11, mf_11, mp_12, mf_12, mp_13, mf_13, mp_14, mf_14, mf_15, mf_16, mp_17, mf_17, mf_18, mf_19, mp_20, mf_20, mp_21, mf_21, mf_22, mp_23, mf_23, mp_24, mf_24, mf_25, mp_26, mf_26, ax_1, asa_1, aso_1, ax_2, asa_2, aso_2, ax_3, asa_3, aso_3, ax_4, asa_4, aso_4, ax_5, asa_5, aso_5, ax_6, asa_6, aso_6, ax_7, asa_7, aso_7, ax_8, asa_8, aso_8, ax_9, asa_9, aso_9, ax_10, asa_10, aso_10, ax_11, asa_11, aso_11, ax_12, asa_12, aso_12, ax_13, asa_13, aso_13, ax_14, asa_14, aso_14, ax_15, asa_15, aso_15, ax_16, asa_16, aso_16, hp_2, us_s, us_k, us_j, us_r, C_Mo_leavesOf_0, B_Mo_leavesOf_0, T_Mo_leavesOf_0, z]
        exact ⟨by rw [e], s', hs, rfl⟩
      · generalize hR : s' 0 17 - 1 = R at *
        have hR1 : s' 0 17 = R + 1 := by omega
        have xx := hv.2.1 R (by omega) (by omega)
        rw [hR1] at hv
        have ij := tf_isj h xx.1 xx.2
        by_cases c : s' 12 R < n
        · simp (disch := first | assumption | omega | exact zTy_0 | exact zTy_3 | exact zTy_3n | exact zTy_1 | exact zTy_B | exact zTy_b0 | exact zTy_4 | exact zEl_n | exact zEz4 | exact zEz9 | exact hz _ _ | exact hz2 _ _ | exact zI0 | exact zI1 | exact zI2 | exact zI3 | exact zI4 | exact zI5 | exact zI6 | exact zI7 | exact zI8 | exact zI9 | exact zI10 | (simp only [zl_21, zl_22, zs_2, ne_eq]; omega) | ((repeat (refine Eq.trans (us_r (by decide)) ?_)); assumption) | ((simp (decide := true) only [us_k, us_s]); omega)) only [↓rKi, ↓rKl, ↓rKn, ↓rKd, ↓rL, ↓r2, ↓r1, ↓rC2, ↓rC1, ↓rCn, ↓rNot, ↓rAnd, ↓rOr, ↓rCi, ↓rBx, ↓rIte, ↓rGf, ↓rLen, ↓rAx, ↓rNa, ↓rA0, ↓rA1, ↓rCs, ↓rCv, ↓rAn, ↓rNew, ↓rSeq, ↓rSkip, ↓rBrk, ↓rCnt, ↓rRetV, ↓rAsg, ↓rRet, ↓rIf, ↓rPf, ↓rPfo, ↓rAs, ↓rAso, ↓rDo, ↓rObj, ↓rBl, ↓rSw, ↓rCopy, ↓zSq_0, ↓zSq_r, ↓zSq_1, ↓zSq_2, ↓zBq_l, ↓zBq_r, ↓zWq_0, ↓zWq_1, ↓zWq_2, ↓zWq_r, ↓zLo_0, ↓zLo_1, ↓zLo_2, ↓zLo_r, ↓zLt_0, ↓rTr, ↓zFin_s, ↓zFin_n, wX_r, wO_s, wI_t, wI_f, zLk_0, zLk_s, zTv_vi, zTv_vb, zTv_vl, zTv_d, zTv_r, zTv_n, zTv_4, zTo_s, zCl_n, zCl_0, zCl_s, Int32.reduceToInt, Int64.reduceToInt, e_add, e_sub, e_mul, e_neg, e_ladd, e_lsub, e_lmul, e_lneg, q_0, q_1, q_2, q_3, q_4, q_5, q_b0, q_b1, p_0, p_1, p_2, p_3, p_4, p_5, p_b0, p_b1, e_lcmp, pl_0, pl_1, pl_2, pl_3, pl_4, pl_5, e_i2l, e_l2i, e_idiv, e_irem, e_ldiv, e_lrem, List.set_cons_zero, List.set_cons_succ, List.getD_cons_zero, List.getD_cons_succ, List.getD_nil, dT, dF, decide_true, decide_false, not_true_eq_false, not_false_eq_true, Bool.not_true, Bool.not_false, zLay_1, zLay_c1, zLay_c2, zLay_n, zWds_n, zWds_c, zCat_0, zCat_1, zCat_3, zCat_4, zLay_4, List.nil_append, List.cons_append, List.replicate_succ, List.replicate_zero, zTy_0, zTy_b0, zTy_1, zTy_3, zTy_3n, zTy_4, and_true, true_and, Option.bind_some, zNul_n, zNul_r, List.getElem?_cons_zero, List.getElem?_cons_succ, Int.add_zero, zTv_B, zTy_B, b_and, b_or, b_andn, b_not, b_shl, b_cmp, b_cmp0, b_cmp0l, b_eq0, b_eq1, zs_2, zl_21, zl_22, gf_s, gf_l, pf_s, pf_l, zl_z, zs_z, nA, and_self, Nat.le_refl, Option.some.injEq, eq_self, Nat.reduceAdd, Nat.reduceSub, tg_m, mf_0, mf_1, mf_2, mf_3, mf_4, mf_5, mf_6, mf_7, mf_8, mf_9, mp_10, mf_10, mp_11, mf_11, mp_12, mf_12, mp_13, mf_13, mp_14, mf_14, mf_15, mf_16, mp_17, mf_17, mf_18, mf_19, mp_20, mf_20, mp_21, mf_21, mf_22, mp_23, mf_23, mp_24, mf_24, mf_25, mp_26, mf_26, ax_1, asa_1, aso_1, ax_2, asa_2, aso_2, ax_3, asa_3, aso_3, ax_4, asa_4, aso_4, ax_5, asa_5, aso_5, ax_6, asa_6, aso_6, ax_7, asa_7, aso_7, ax_8, asa_8, aso_8, ax_9, asa_9, aso_9, ax_10, asa_10, aso_10, ax_11, asa_11, aso_11, ax_12, asa_12, aso_12, ax_13, asa_13, aso_13, ax_14, asa_14, aso_14, ax_15, asa_15, aso_15, ax_16, asa_16, aso_16, hp_2, us_s, us_k, us_j, us_r, C_Mo_leavesOf_0, B_Mo_leavesOf_0, T_Mo_leavesOf_0, hR, q_joined h, e1, b_orl]
          refine ⟨us s' 0 17 R, _, rfl, sw_0 hs, rfl, ?_⟩
          rw [us_s, us_r (by decide)]
          exact lvI_leaf h hv (by omega) rfl c (by rw [(tf_leaf h xx.1 c).2.2.2]) (fun j _ _ => rfl)
        · simp (disch := first | assumption | omega | exact zTy_0 | exact zTy_3 | exact zTy_3n | exact zTy_1 | exact zTy_B | exact zTy_b0 | exact zTy_4 | exact zEl_n | exact zEz4 | exact zEz9 | exact hz _ _ | exact hz2 _ _ | exact zI0 | exact zI1 | exact zI2 | exact zI3 | exact zI4 | exact zI5 | exact zI6 | exact zI7 | exact zI8 | exact zI9 | exact zI10 | (simp only [zl_21, zl_22, zs_2, ne_eq]; omega) | ((repeat (refine Eq.trans (us_r (by decide)) ?_)); assumption) | ((simp (decide := true) only [us_k, us_s]); omega)) only [↓rKi, ↓rKl, ↓rKn, ↓rKd, ↓rL, ↓r2, ↓r1, ↓rC2, ↓rC1, ↓rCn, ↓rNot, ↓rAnd, ↓rOr, ↓rCi, ↓rBx, ↓rIte, ↓rGf, ↓rLen, ↓rAx, ↓rNa, ↓rA0, ↓rA1, ↓rCs, ↓rCv, ↓rAn, ↓rNew, ↓rSeq, ↓rSkip, ↓rBrk, ↓rCnt, ↓rRetV, ↓rAsg, ↓rRet, ↓rIf, ↓rPf, ↓rPfo, ↓rAs, ↓rAso, ↓rDo, ↓rObj, ↓rBl, ↓rSw, ↓rCopy, ↓zSq_0, ↓zSq_r, ↓zSq_1, ↓zSq_2, ↓zBq_l, ↓zBq_r, ↓zWq_0, ↓zWq_1, ↓zWq_2, ↓zWq_r, ↓zLo_0, ↓zLo_1, ↓zLo_2, ↓zLo_r, ↓zLt_0, ↓rTr, ↓zFin_s, ↓zFin_n, wX_r, wO_s, wI_t, wI_f, zLk_0, zLk_s, zTv_vi, zTv_vb, zTv_vl, zTv_d, zTv_r, zTv_n, zTv_4, zTo_s, zCl_n, zCl_0, zCl_s, Int32.reduceToInt, Int64.reduceToInt, e_add, e_sub, e_mul, e_neg, e_ladd, e_lsub, e_lmul, e_lneg, q_0, q_1, q_2, q_3, q_4, q_5, q_b0, q_b1, p_0, p_1, p_2, p_3, p_4, p_5, p_b0, p_b1, e_lcmp, pl_0, pl_1, pl_2, pl_3, pl_4, pl_5, e_i2l, e_l2i, e_idiv, e_irem, e_ldiv, e_lrem, List.set_cons_zero, List.set_cons_succ, List.getD_cons_zero, List.getD_cons_succ, List.getD_nil, dT, dF, decide_true, decide_false, not_true_eq_false, not_false_eq_true, Bool.not_true, Bool.not_false, zLay_1, zLay_c1, zLay_c2, zLay_n, zWds_n, zWds_c, zCat_0, zCat_1, zCat_3, zCat_4, zLay_4, List.nil_append, List.cons_append, List.replicate_succ, List.replicate_zero, zTy_0, zTy_b0, zTy_1, zTy_3, zTy_3n, zTy_4, and_true, true_and, Option.bind_some, zNul_n, zNul_r, List.getElem?_cons_zero, List.getElem?_cons_succ, Int.add_zero, zTv_B, zTy_B, b_and, b_or, b_andn, b_not, b_shl, b_cmp, b_cmp0, b_cmp0l, b_eq0, b_eq1, zs_2, zl_21, zl_22, gf_s, gf_l, pf_s, pf_l, zl_z, zs_z, nA, and_self, Nat.le_refl, Option.some.injEq, eq_self, Nat.reduceAdd, Nat.reduceSub, tg_m, mf_0, mf_1, mf_2, mf_3, mf_4, mf_5, mf_6, mf_7, mf_8, mf_9, mp_10, mf_10, mp_11, mf_11, mp_12, mf_12, mp_13, mf_13, mp_14, mf_14, mf_15, mf_16, mp_17, mf_17, mf_18, mf_19, mp_20, mf_20, mp_21, mf_21, mf_22, mp_23, mf_23, mp_24, mf_24, mf_25, mp_26, mf_26, ax_1, asa_1, aso_1, ax_2, asa_2, aso_2, ax_3, asa_3, aso_3, ax_4, asa_4, aso_4, ax_5, asa_5, aso_5, ax_6, asa_6, aso_6, ax_7, asa_7, aso_7, ax_8, asa_8, aso_8, ax_9, asa_9, aso_9, ax_10, asa_10, aso_10, ax_11, asa_11, aso_11, ax_12, asa_12, aso_12, ax_13, asa_13, aso_13, ax_14, asa_14, aso_14, ax_15, asa_15, aso_15, ax_16, asa_16, aso_16, hp_2, us_s, us_k, us_j, us_r, C_Mo_leavesOf_0, B_Mo_leavesOf_0, T_Mo_leavesOf_0, hR, q_joined h, e1, q_one, q_oth]
          refine ⟨_, _, rfl, sw_0 (sw_12 (sw_12 (sw_0 hs))), rfl, ?_⟩
          rw [us_s, us_r (by decide), show R + 2 = R + 1 + 1 by omega]
          refine lvI_join h hv (by omega) rfl (by omega) ?_ ?_ (fun j a b => ?_)
          · rw [us_j (by omega), us_s]
          · rw [us_s]
          · rw [us_j (by omega), us_j (by omega), us_r (by decide)]
  obtain ⟨r1, h1, e, rfl, s', hs, rfl⟩ := key
  exact ⟨s', hs, e⟩
end
