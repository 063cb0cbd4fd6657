/-! fresh: the question -/
theorem vl_inj {a b : Int} (h1 : -9223372036854775808 ≤ a) (h2 : a < 9223372036854775808) (h3 : -9223372036854775808 ≤ b) (h4 : b < 9223372036854775808) (h : vl a = vl b) : a = b := by
  have := congrArg Int64.toInt (Value.long.inj h)
  rw [tl h1 h2, tl h3 h4] at this
  exact this
section
variable {n : Nat} {T gh T2 gh2 : Nat → Int → Int} {L L2 : Int → BitVec 64} {J J2 : Int → Int}
def s5 (T gh : Nat → Int → Int) : S5 := (fun u => T 9 u, fun u => T 10 u, fun u => gh 0 u, fun u => upS T (T 9 u) (T 10 u) / gcdI (upS T (T 9 u) (T 10 u)) (dnS T (T 9 u) (T 10 u)), fun u => dnS T (T 9 u) (T 10 u) / gcdI (upS T (T 9 u) (T 10 u)) (dnS T (T 9 u) (T 10 u)))
theorem s5_w {u : Int} : (s5 T gh).w u = sV T gh u := rfl
theorem s5_ok (tf : TF n T gh L J) : (s5 T gh).ok n := fun u u0 u1 => by
  have st := tf_step tf u0 u1
  have nj := tf_jets tf
  have cr : cR T (T 9 u) (T 10 u) := ⟨st.1.1, by omega⟩
  have ok : sOK T := fun k a b => tf_ok tf a b
  have se : sSet T := ⟨(tf_set tf).1, (tf_set tf).2.1⟩
  have ub := upS_b ok se cr.1.1 cr.1.2 cr.2.1 cr.2.2
  have db := dnS_b ok cr.1.1 cr.1.2 cr.2.1 cr.2.2
  have g0 := gcdI_pos (a := upS T (T 9 u) (T 10 u)) (b := dnS T (T 9 u) (T 10 u)) (by omega)
  refine ⟨?_, ?_, ?_, ?_, ?_⟩
  · show -1 ≤ T 9 u ∧ T 9 u < 100
    omega
  · show -1 ≤ T 10 u ∧ T 10 u < 100
    omega
  · show -1 ≤ gh 0 u ∧ gh 0 u < 100
    omega
  · show 0 ≤ upS T (T 9 u) (T 10 u) / gcdI (upS T (T 9 u) (T 10 u)) (dnS T (T 9 u) (T 10 u)) ∧ upS T (T 9 u) (T 10 u) / gcdI (upS T (T 9 u) (T 10 u)) (dnS T (T 9 u) (T 10 u)) ≤ _
    have a := Int.ediv_nonneg ub.1 (Int.le_of_lt g0)
    have b := Int.ediv_le_self (gcdI (upS T (T 9 u) (T 10 u)) (dnS T (T 9 u) (T 10 u))) ub.1
    omega
  · show 0 ≤ dnS T (T 9 u) (T 10 u) / gcdI (upS T (T 9 u) (T 10 u)) (dnS T (T 9 u) (T 10 u)) ∧ dnS T (T 9 u) (T 10 u) / gcdI (upS T (T 9 u) (T 10 u)) (dnS T (T 9 u) (T 10 u)) ≤ _
    have a := Int.ediv_nonneg (show 0 ≤ dnS T (T 9 u) (T 10 u) by omega) (Int.le_of_lt g0)
    have b := Int.ediv_le_self (gcdI (upS T (T 9 u) (T 10 u)) (dnS T (T 9 u) (T 10 u))) (show 0 ≤ dnS T (T 9 u) (T 10 u) by omega)
    omega
/-- words of steps that are equal as values -/
theorem w_inj {z y : S5} (oz : z.ok n) (oy : y.ok n) {u : Int} (u0 : 0 ≤ u) (u1 : u < n) (e : z.w u = y.w u) : z.p u = y.p u ∧ z.q u = y.q u ∧ z.c u = y.c u ∧ z.U u = y.U u ∧ z.D u = y.D u := by
  have b1 := oz u u0 u1
  have b2 := oy u u0 u1
  unfold S5.w at e
  simp only [List.cons.injEq] at e
  obtain ⟨e1, e2, e3, e4, e5, -⟩ := e
  exact ⟨vi_inj (by omega) (by omega) (by omega) (by omega) e1, vi_inj (by omega) (by omega) (by omega) (by omega) e2, vi_inj (by omega) (by omega) (by omega) (by omega) e3, vl_inj (by omega) (by omega) (by omega) (by omega) e4, vl_inj (by omega) (by omega) (by omega) (by omega) e5⟩
theorem frs_eq (tf2 : TF n T2 gh2 L2 J2) (tf : TF n T gh L J) : alB ((s5 T2 gh2).eq (s5 T gh)) n = (alB (fun u => decide ((s5 T2 gh2).p u = (s5 T gh).p u ∧ (s5 T2 gh2).q u = (s5 T gh).q u)) n && alB (fun u => decide ((s5 T2 gh2).U u = (s5 T gh).U u ∧ (s5 T2 gh2).D u = (s5 T gh).D u)) n) := by
  refine Bool.eq_iff_iff.mpr ?_
  rw [Bool.and_eq_true, alB_t, alB_t, alB_t]
  constructor
  · intro h
    refine ⟨fun i i0 i1 => ?_, fun i i0 i1 => ?_⟩
    · have := of_decide_eq_true (h i i0 i1)
      exact decide_eq_true ⟨this.1, this.2.1⟩
    · have := of_decide_eq_true (h i i0 i1)
      exact decide_eq_true this.2.2.2
  · intro ⟨h1, h2⟩ i i0 i1
    have g1 := of_decide_eq_true (h1 i i0 i1)
    have g2 := of_decide_eq_true (h2 i i0 i1)
    refine decide_eq_true ⟨g1.1, g1.2, ?_, g2.1, g2.2⟩
    have jq : jn T2 i = jn T i := jn_ext fun v v0 v1 => (of_decide_eq_true (h1 v v0 (by omega))).2
    have st2 := tf_step tf2 i0 i1
    have st := tf_step tf i0 i1
    have e10 : T2 10 i = T 10 i := g1.2
    show gh2 0 i = gh 0 i
    omega
end
section
theorem P_fresh {t : Int} (ht : iR t) : PairI F_JT_fresh F_Mo_fresh [vi t] := wo_of fun x m h s G st pp im ip fp fi wo => by
  obtain ⟨ev, n, tr, fb, ba, eo, cg⟩ := c_gatheredNow wo
  obtain ⟨hG, ⟨rest, ex⟩, ⟨pe, pt, pk0, fe, ft, fk0, so⟩, ⟨ev', n', tr', fb', ba', eo', ih⟩, wi, xl, gx⟩ := WO_ev wo
  have hG1 : ∀ a o, G a = some o → h.1 a = some o := fun a o q => (hG a o q).1
  have nn' : n' = n := by have := eo.1.1; have := eo'.1.1; omega
  have bs := so.2.1
  have b0 := bs.2.2.2.2.2
  have b5 := bs.2.2.2.2.1
  have ihh := ih h hG1
  have sz := c_size (EvO_h eo' hG1)
  rw [nn'] at sz
  have tS' := fun rest => g_tag (rest := rest) (hG1 _ _ so.1)
  have tE' := fun rest => g_tag (rest := rest) (EvO_h eo' hG1).2.1
  have wx := fun rest => WI_x wi (rest2 := rest)
  have hn : mN s = n := eo.1.1
  have it := fun r => e_isTree (m := m) (s := s) (r := r) (t := t) b0.1 b0.2 ht
  have wr : ∀ i : Int, 0 ≤ i → i < n → (-200 ≤ mT s i 0 ∧ mT s i 0 ≤ 200) ∧ (0 ≤ mT s i 1 ∧ mT s i 1 < 360) ∧ 1 ≤ mT s i 2 ∧ mT s i 2 ≤ 9999 := fun i i0 i1 => (eo.2.2.2 i i0 i1).2
  have tk := fun r => e_tracks (m := m) (s := s) (r := r) b5.1 b5.2
  rw [hn] at tk
  have n4 := eo.1.2
  rcases WO_tr wo ht with ⟨c, a, N, gh, L, J, pk, ps, pj, po, fk, fs, fj, fo, on, ka, ba2, sa, e1, tf, to⟩ | ⟨c, e1⟩
  · have toh := TrO_h to hG1
    have th := toh.1
    have nnT := tf_n tf
    have tn := fun r => q_tN (m := m) (s := s) (r := r) c.1.1 c.1.2
    rw [nnT.1.2] at tn
    have itT := it
    rw [decide_eq_true c] at itT
    by_cases cn : n = N
    · subst cn
      have n1 := tf.2.2.2.1
      obtain ⟨S0, s2, g1, g2, -, -, -⟩ := q_gatherNow (m := m) (r := h) (s := s) rfl b5 hn n4 wr bs.1 bs.2.1 bs.2.2.1
      obtain ⟨s2', gh2, L2, gi2, ga2, rz, op2, J2, ka2, ba3, sa2, q1, q2, q3, q4, q5⟩ := cg S0 n1 g1.1 g1.2.1 g1.2.2
      have e22 : s2' = s2 := gRun_one q1 g2
      subst e22
      obtain ⟨tf2, g7⟩ := tf_GC n1 q2
      have q2s := q2
      obtain ⟨-, ⟨c4, c5, c6, c7, c8⟩, -, -, ⟨kn2, -, sn2, B8⟩, b0', b1', b2', -⟩ := q2s
      generalize hX : bg h.2.1 tr n (s 1 2) (s 1 3) (s 1 4) gi2 ga2 rz = X at *
      have X2 : X.2 = rz.2 := by rw [← hX]; rfl
      have Xo : ∀ a, a < h.2.1 → X.1 a = h.1 a := fun a ha => by rw [← hX, bg_out (Or.inl ha), q4.1 a ha]
      have Xt : X.1 (h.2.1 + 1) = some (9, bgF1 h.2.1 tr n (s 1 2) (s 1 3) (s 1 4) gi2) := by rw [← hX]; exact bg_at 1 (by decide)
      have Xs : X.1 (h.2.1 + 3) = some (72, ar n (ga2 1)) := by rw [← hX]; exact bg_at 3 (by decide)
      have Xz : ∀ u : Int, 0 ≤ u → u < n → ga2 1 u = .ref (sa2 u) ∧ X.1 (sa2 u) = some (6, (s5 s2' gh2).w u) := fun u u0 u1 => by
        obtain ⟨y1, y2, y3⟩ := sn2 u u0 u1
        refine ⟨b1' u u0 u1, ?_⟩
        rw [← hX, bg_out (Or.inr y2), y1]
        rfl
      have oz := s5_ok tf2
      have oy := s5_ok tf
      have hu : ∀ S0 s3, gnS s n S0 → gRun n S0 s3 → (∃ gh L J, TF n s3 gh L J) ∧ ∀ u : Int, 0 ≤ u → u < n → s3 9 u = (s5 s2' gh2).p u ∧ s3 10 u = (s5 s2' gh2).q u ∧ upS s3 (s3 9 u) (s3 10 u) / gcdI (upS s3 (s3 9 u) (s3 10 u)) (dnS s3 (s3 9 u) (s3 10 u)) = (s5 s2' gh2).U u ∧ dnS s3 (s3 9 u) (s3 10 u) / gcdI (upS s3 (s3 9 u) (s3 10 u)) (dnS s3 (s3 9 u) (s3 10 u)) = (s5 s2' gh2).D u := fun S1 s3 w1 w2 => by
        obtain ⟨s3', gh3, L3, gi3, ga3, rz3, op3, J3, ka3, ba4, sa3, r1', r2', r3', r4', r5'⟩ := cg S1 n1 w1.1 w1.2.1 w1.2.2
        have e33 : s3' = s3 := gRun_one r1' w2
        subst e33
        obtain ⟨tf3, -⟩ := tf_GC n1 r2'
        refine ⟨⟨gh3, L3, J3, tf3⟩, fun u u0 u1 => ?_⟩
        obtain ⟨-, -, -, -, ⟨-, -, sn3, -⟩, -, b1s, -⟩ := r2'
        have eX : X = bg h.2.1 tr n (s 1 2) (s 1 3) (s 1 4) gi3 ga3 rz3 := congrArg Prod.snd (Option.some.inj (q5.symm.trans r5'))
        have Xs' : X.1 (h.2.1 + 3) = some (72, ar n (ga3 1)) := by rw [eX]; exact bg_at 3 (by decide)
        have g1' := g_ar (ty := 3) Xs u0 u1 (by omega)
        have g2' := g_ar (ty := 3) Xs' u0 u1 (by omega)
        rw [(Xz u u0 u1).1] at g1'
        rw [b1s u u0 u1] at g2'
        have es : sa2 u = sa3 u := by
          have := g1'.symm.trans g2'
          have t3 : ∀ q : Nat, zTv 3 (.ref q) = some (.ref q) := fun _ => rfl
          rw [t3, t3] at this
          exact Value.ref.inj (Option.some.inj this)
        obtain ⟨y1, y2, y3⟩ := sn3 u u0 u1
        have w3 : X.1 (sa2 u) = some (6, (s5 s3' gh3).w u) := by
          rw [es, eX, bg_out (Or.inr y2), y1]
          rfl
        have w4 := (Option.some.inj (w3.symm.trans (Xz u u0 u1).2))
        have w5 := w_inj (s5_ok tf3) oz u0 u1 (congrArg Prod.snd w4)
        exact ⟨w5.1, w5.2.1, w5.2.2.2⟩
      have hy : ∀ u : Int, 0 ≤ u → u < n → (s5 (tS (s 1) (371 + 521 * t)) gh).p u = (tS (s 1) (371 + 521 * t)) 9 u ∧ (s5 (tS (s 1) (371 + 521 * t)) gh).q u = (tS (s 1) (371 + 521 * t)) 10 u ∧ (s5 (tS (s 1) (371 + 521 * t)) gh).U u = upS (tS (s 1) (371 + 521 * t)) ((tS (s 1) (371 + 521 * t)) 9 u) ((tS (s 1) (371 + 521 * t)) 10 u) / gcdI (upS (tS (s 1) (371 + 521 * t)) ((tS (s 1) (371 + 521 * t)) 9 u) ((tS (s 1) (371 + 521 * t)) 10 u)) (dnS (tS (s 1) (371 + 521 * t)) ((tS (s 1) (371 + 521 * t)) 9 u) ((tS (s 1) (371 + 521 * t)) 10 u)) ∧ (s5 (tS (s 1) (371 + 521 * t)) gh).D u = dnS (tS (s 1) (371 + 521 * t)) ((tS (s 1) (371 + 521 * t)) 9 u) ((tS (s 1) (371 + 521 * t)) 10 u) / gcdI (upS (tS (s 1) (371 + 521 * t)) ((tS (s 1) (371 + 521 * t)) 9 u) ((tS (s 1) (371 + 521 * t)) 10 u)) (dnS (tS (s 1) (371 + 521 * t)) ((tS (s 1) (371 + 521 * t)) 9 u) ((tS (s 1) (371 + 521 * t)) 10 u)) := fun u _ _ => ⟨rfl, rfl, rfl, rfl⟩
      obtain ⟨s', hs', em⟩ := m_fresh (m := m) (r := X) (s := s) tf rfl c.1.1 c.1.2 oz (itT X) b5 hn wr bs.1 bs.2.1 bs.2.2.1 hu hy
      have Xa := (Xo _ (hG _ _ to.1).2).trans th
      have Xps := (Xo _ (hG _ _ to.2.1.2.1).2).trans toh.2.1.2.1
      have Xt' := Xt
      unfold bgF1 at Xt'
      rw [c6] at Xt'
      have ch := c_hasSteps (n := n) (H := X) oz oy n4 Xt' Xa Xs Xps (by omega) Xz (fun u u0 u1 => by
        have y := to.2.2.2.1 u u0 u1
        exact ⟨y.1, (Xo _ (hG _ _ y.2).2).trans (hG1 _ _ y.2)⟩)
      rw [← frs_eq tf2 tf] at em
      have tgX := fun rest => g_tag (rest := rest) Xt
      generalize alB ((s5 s2' gh2).eq (s5 (tS (s 1) (371 + 521 * t)) gh)) n = V at *
      have en : h.2.1 ≤ X.2.1 ∧ h.2.2 ≤ X.2.2 := by rw [X2]; omega
      refine q_fin wi (w := if V = true then 1 else 0) (h1 := X) (s1 := s') ?_ ⟨Xo, by unfold rs; rw [X2]; omega⟩ ?_ hs'.1 hs'.2
      · rw [← vb_i]
        refine zMeq rfl ?_
        simp (disch := first | assumption | omega | exact zTy_0 | exact zTy_3 | exact zTy_3n | exact zTy_1 | exact zTy_B | exact zTy_b0 | exact zTy_4 | exact zEl_n | exact zEz4 | exact zEz9 | exact hz _ _ | exact hz2 _ _ | exact zI0 | exact zI1 | exact zI2 | exact zI3 | exact zI4 | exact zI5 | exact zI6 | exact zI7 | exact zI8 | exact zI9 | exact zI10 | (simp only [zl_21, zl_22, zs_2, ne_eq]; omega) | ((repeat (refine Eq.trans (us_r (by decide)) ?_)); assumption) | ((simp (decide := true) only [us_k, us_s]); omega)) only [↓rKi, ↓rKl, ↓rKn, ↓rKd, ↓rL, ↓r2, ↓r1, ↓rC2, ↓rC1, ↓rCn, ↓rNot, ↓rAnd, ↓rOr, ↓rCi, ↓rBx, ↓rIte, ↓rGf, ↓rLen, ↓rAx, ↓rNa, ↓rA0, ↓rA1, ↓rCs, ↓rCv, ↓rAn, ↓rNew, ↓rSeq, ↓rSkip, ↓rBrk, ↓rCnt, ↓rRetV, ↓rAsg, ↓rRet, ↓rIf, ↓rPf, ↓rPfo, ↓rAs, ↓rAso, ↓rDo, ↓rObj, ↓rBl, ↓rSw, ↓rCopy, ↓zSq_0, ↓zSq_r, ↓zSq_1, ↓zSq_2, ↓zBq_l, ↓zBq_r, ↓zWq_0, ↓zWq_1, ↓zWq_2, ↓zWq_r, ↓zLo_0, ↓zLo_1, ↓zLo_2, ↓zLo_r, ↓zLt_0, ↓rTr, ↓zFin_s, ↓zFin_n, wX_r, wO_s, wI_t, wI_f, zLk_0, zLk_s, zTv_vi, zTv_vb, zTv_vl, zTv_d, zTv_r, zTv_n, zTv_4, zTo_s, zCl_n, zCl_0, zCl_s, Int32.reduceToInt, Int64.reduceToInt, e_add, e_sub, e_mul, e_neg, e_ladd, e_lsub, e_lmul, e_lneg, q_0, q_1, q_2, q_3, q_4, q_5, q_b0, q_b1, p_0, p_1, p_2, p_3, p_4, p_5, p_b0, p_b1, e_lcmp, pl_0, pl_1, pl_2, pl_3, pl_4, pl_5, e_i2l, e_l2i, e_idiv, e_irem, e_ldiv, e_lrem, List.set_cons_zero, List.set_cons_succ, List.getD_cons_zero, List.getD_cons_succ, List.getD_nil, dT, dF, decide_true, decide_false, not_true_eq_false, not_false_eq_true, Bool.not_true, Bool.not_false, zLay_1, zLay_c1, zLay_c2, zLay_n, zWds_n, zWds_c, zCat_0, zCat_1, zCat_3, zCat_4, zLay_4, List.nil_append, List.cons_append, List.replicate_succ, List.replicate_zero, zTy_0, zTy_b0, zTy_1, zTy_3, zTy_3n, zTy_4, and_true, true_and, Option.bind_some, zNul_n, zNul_r, List.getElem?_cons_zero, List.getElem?_cons_succ, Int.add_zero, zTv_B, zTy_B, b_and, b_or, b_andn, b_not, b_shl, b_cmp, b_cmp0, b_cmp0l, b_eq0, b_eq1, zs_2, zl_21, zl_22, gf_s, gf_l, pf_s, pf_l, zl_z, zs_z, nA, and_self, Nat.le_refl, Option.some.injEq, eq_self, Nat.reduceAdd, Nat.reduceSub, S_JT_fresh, wx, e1, g_fld ex, tS', ihh, tE', sz, g_fld th, q5, tgX, ch]
        exact en
      · rw [← vb_i]
        exact em
    · refine q_fin wi (w := 0) (h1 := h) (s1 := s) (zMeq rfl ?_) hx_rf (zMeq rfl ?_) rfl rfl
      · simp (disch := first | assumption | omega | exact zTy_0 | exact zTy_3 | exact zTy_3n | exact zTy_1 | exact zTy_B | exact zTy_b0 | exact zTy_4 | exact zEl_n | exact zEz4 | exact zEz9 | exact hz _ _ | exact hz2 _ _ | exact zI0 | exact zI1 | exact zI2 | exact zI3 | exact zI4 | exact zI5 | exact zI6 | exact zI7 | exact zI8 | exact zI9 | exact zI10 | (simp only [zl_21, zl_22, zs_2, ne_eq]; omega) | ((repeat (refine Eq.trans (us_r (by decide)) ?_)); assumption) | ((simp (decide := true) only [us_k, us_s]); omega)) only [↓rKi, ↓rKl, ↓rKn, ↓rKd, ↓rL, ↓r2, ↓r1, ↓rC2, ↓rC1, ↓rCn, ↓rNot, ↓rAnd, ↓rOr, ↓rCi, ↓rBx, ↓rIte, ↓rGf, ↓rLen, ↓rAx, ↓rNa, ↓rA0, ↓rA1, ↓rCs, ↓rCv, ↓rAn, ↓rNew, ↓rSeq, ↓rSkip, ↓rBrk, ↓rCnt, ↓rRetV, ↓rAsg, ↓rRet, ↓rIf, ↓rPf, ↓rPfo, ↓rAs, ↓rAso, ↓rDo, ↓rObj, ↓rBl, ↓rSw, ↓rCopy, ↓zSq_0, ↓zSq_r, ↓zSq_1, ↓zSq_2, ↓zBq_l, ↓zBq_r, ↓zWq_0, ↓zWq_1, ↓zWq_2, ↓zWq_r, ↓zLo_0, ↓zLo_1, ↓zLo_2, ↓zLo_r, ↓zLt_0, ↓rTr, ↓zFin_s, ↓zFin_n, wX_r, wO_s, wI_t, wI_f, zLk_0, zLk_s, zTv_vi, zTv_vb, zTv_vl, zTv_d, zTv_r, zTv_n, zTv_4, zTo_s, zCl_n, zCl_0, zCl_s, Int32.reduceToInt, Int64.reduceToInt, e_add, e_sub, e_mul, e_neg, e_ladd, e_lsub, e_lmul, e_lneg, q_0, q_1, q_2, q_3, q_4, q_5, q_b0, q_b1, p_0, p_1, p_2, p_3, p_4, p_5, p_b0, p_b1, e_lcmp, pl_0, pl_1, pl_2, pl_3, pl_4, pl_5, e_i2l, e_l2i, e_idiv, e_irem, e_ldiv, e_lrem, List.set_cons_zero, List.set_cons_succ, List.getD_cons_zero, List.getD_cons_succ, List.getD_nil, dT, dF, decide_true, decide_false, not_true_eq_false, not_false_eq_true, Bool.not_true, Bool.not_false, zLay_1, zLay_c1, zLay_c2, zLay_n, zWds_n, zWds_c, zCat_0, zCat_1, zCat_3, zCat_4, zLay_4, List.nil_append, List.cons_append, List.replicate_succ, List.replicate_zero, zTy_0, zTy_b0, zTy_1, zTy_3, zTy_3n, zTy_4, and_true, true_and, Option.bind_some, zNul_n, zNul_r, List.getElem?_cons_zero, List.getElem?_cons_succ, Int.add_zero, zTv_B, zTy_B, b_and, b_or, b_andn, b_not, b_shl, b_cmp, b_cmp0, b_cmp0l, b_eq0, b_eq1, zs_2, zl_21, zl_22, gf_s, gf_l, pf_s, pf_l, zl_z, zs_z, nA, and_self, Nat.le_refl, Option.some.injEq, eq_self, Nat.reduceAdd, Nat.reduceSub, S_JT_fresh, wx, e1, g_fld ex, tS', ihh, tE', sz, g_fld th]
        rfl
      · have i1 := itT h
        have i2 := tk h
        have i3 := tn h
        simp (disch := first | assumption | omega | exact zTy_0 | exact zTy_3 | exact zTy_3n | exact zTy_1 | exact zTy_B | exact zTy_b0 | exact zTy_4 | exact zEl_n | exact zEz4 | exact zEz9 | exact hz _ _ | exact hz2 _ _ | exact zI0 | exact zI1 | exact zI2 | exact zI3 | exact zI4 | exact zI5 | exact zI6 | exact zI7 | exact zI8 | exact zI9 | exact zI10 | (simp only [zl_21, zl_22, zs_2, ne_eq]; omega) | ((repeat (refine Eq.trans (us_r (by decide)) ?_)); assumption) | ((simp (decide := true) only [us_k, us_s]); omega)) only [↓rKi, ↓rKl, ↓rKn, ↓rKd, ↓rL, ↓r2, ↓r1, ↓rC2, ↓rC1, ↓rCn, ↓rNot, ↓rAnd, ↓rOr, ↓rCi, ↓rBx, ↓rIte, ↓rGf, ↓rLen, ↓rAx, ↓rNa, ↓rA0, ↓rA1, ↓rCs, ↓rCv, ↓rAn, ↓rNew, ↓rSeq, ↓rSkip, ↓rBrk, ↓rCnt, ↓rRetV, ↓rAsg, ↓rRet, ↓rIf, ↓rPf, ↓rPfo, ↓rAs, ↓rAso, ↓rDo, ↓rObj, ↓rBl, ↓rSw, ↓rCopy, ↓zSq_0, ↓zSq_r, ↓zSq_1, ↓zSq_2, ↓zBq_l, ↓zBq_r, ↓zWq_0, ↓zWq_1, ↓zWq_2, ↓zWq_r, ↓zLo_0, ↓zLo_1, ↓zLo_2, ↓zLo_r, ↓zLt_0, ↓rTr, ↓zFin_s, ↓zFin_n, wX_r, wO_s, wI_t, wI_f, zLk_0, zLk_s, zTv_vi, zTv_vb, zTv_vl, zTv_d, zTv_r, zTv_n, zTv_4, zTo_s, zCl_n, zCl_0, zCl_s, Int32.reduceToInt, Int64.reduceToInt, e_add, e_sub, e_mul, e_neg, e_ladd, e_lsub, e_lmul, e_lneg, q_0, q_1, q_2, q_3, q_4, q_5, q_b0, q_b1, p_0, p_1, p_2, p_3, p_4, p_5, p_b0, p_b1, e_lcmp, pl_0, pl_1, pl_2, pl_3, pl_4, pl_5, e_i2l, e_l2i, e_idiv, e_irem, e_ldiv, e_lrem, List.set_cons_zero, List.set_cons_succ, List.getD_cons_zero, List.getD_cons_succ, List.getD_nil, dT, dF, decide_true, decide_false, not_true_eq_false, not_false_eq_true, Bool.not_true, Bool.not_false, zLay_1, zLay_c1, zLay_c2, zLay_n, zWds_n, zWds_c, zCat_0, zCat_1, zCat_3, zCat_4, zLay_4, List.nil_append, List.cons_append, List.replicate_succ, List.replicate_zero, zTy_0, zTy_b0, zTy_1, zTy_3, zTy_3n, zTy_4, and_true, true_and, Option.bind_some, zNul_n, zNul_r, List.getElem?_cons_zero, List.getElem?_cons_succ, Int.add_zero, zTv_B, zTy_B, b_and, b_or, b_andn, b_not, b_shl, b_cmp, b_cmp0, b_cmp0l, b_eq0, b_eq1, zs_2, zl_21, zl_22, gf_s, gf_l, pf_s, pf_l, zl_z, zs_z, nA, and_self, Nat.le_refl, Option.some.injEq, eq_self, Nat.reduceAdd, Nat.reduceSub, tg_m, mf_0, mf_1, mf_2, mf_3, mf_4, mf_5, mf_6, mf_7, mf_8, mf_9, mp_10, mf_10, mp_11, mf_11, mp_12, mf_12, mp_13, mf_13, mp_14, mf_14, mf_15, mf_16, mp_17, mf_17, mf_18, mf_19, mp_20, mf_20, mp_21, mf_21, mf_22, mp_23, mf_23, mp_24, mf_24, mf_25, mp_26, mf_26, ax_1, asa_1, aso_1, ax_2, asa_2, aso_2, ax_3, asa_3, aso_3, ax_4, asa_4, aso_4, ax_5, asa_5, aso_5, ax_6, asa_6, aso_6, ax_7, asa_7, aso_7, ax_8, asa_8, aso_8, ax_9, asa_9, aso_9, ax_10, asa_10, aso_10, ax_11, asa_11, aso_11, ax_12, asa_12, aso_12, ax_13, asa_13, aso_13, ax_14, asa_14, aso_14, ax_15, asa_15, aso_15, ax_16, asa_16, aso_16, hp_2, us_s, us_k, us_j, us_r, S_Mo_fresh, i1, i2, i3]
        rfl
  · have itF := it h
    rw [decide_eq_false c] at itF
    refine q_fin wi (w := 0) (h1 := h) (s1 := s) (zMeq rfl ?_) hx_rf (zMeq rfl ?_) rfl rfl
    · simp (disch := first | assumption | omega | exact zTy_0 | exact zTy_3 | exact zTy_3n | exact zTy_1 | exact zTy_B | exact zTy_b0 | exact zTy_4 | exact zEl_n | exact zEz4 | exact zEz9 | exact hz _ _ | exact hz2 _ _ | exact zI0 | exact zI1 | exact zI2 | exact zI3 | exact zI4 | exact zI5 | exact zI6 | exact zI7 | exact zI8 | exact zI9 | exact zI10 | (simp only [zl_21, zl_22, zs_2, ne_eq]; omega) | ((repeat (refine Eq.trans (us_r (by decide)) ?_)); assumption) | ((simp (decide := true) only [us_k, us_s]); omega)) only [↓rKi, ↓rKl, ↓rKn, ↓rKd, ↓rL, ↓r2, ↓r1, ↓rC2, ↓rC1, ↓rCn, ↓rNot, ↓rAnd, ↓rOr, ↓rCi, ↓rBx, ↓rIte, ↓rGf, ↓rLen, ↓rAx, ↓rNa, ↓rA0, ↓rA1, ↓rCs, ↓rCv, ↓rAn, ↓rNew, ↓rSeq, ↓rSkip, ↓rBrk, ↓rCnt, ↓rRetV, ↓rAsg, ↓rRet, ↓rIf, ↓rPf, ↓rPfo, ↓rAs, ↓rAso, ↓rDo, ↓rObj, ↓rBl, ↓rSw, ↓rCopy, ↓zSq_0, ↓zSq_r, ↓zSq_1, ↓zSq_2, ↓zBq_l, ↓zBq_r, ↓zWq_0, ↓zWq_1, ↓zWq_2, ↓zWq_r, ↓zLo_0, ↓zLo_1, ↓zLo_2, ↓zLo_r, ↓zLt_0, ↓rTr, ↓zFin_s, ↓zFin_n, wX_r, wO_s, wI_t, wI_f, zLk_0, zLk_s, zTv_vi, zTv_vb, zTv_vl, zTv_d, zTv_r, zTv_n, zTv_4, zTo_s, zCl_n, zCl_0, zCl_s, Int32.reduceToInt, Int64.reduceToInt, e_add, e_sub, e_mul, e_neg, e_ladd, e_lsub, e_lmul, e_lneg, q_0, q_1, q_2, q_3, q_4, q_5, q_b0, q_b1, p_0, p_1, p_2, p_3, p_4, p_5, p_b0, p_b1, e_lcmp, pl_0, pl_1, pl_2, pl_3, pl_4, pl_5, e_i2l, e_l2i, e_idiv, e_irem, e_ldiv, e_lrem, List.set_cons_zero, List.set_cons_succ, List.getD_cons_zero, List.getD_cons_succ, List.getD_nil, dT, dF, decide_true, decide_false, not_true_eq_false, not_false_eq_true, Bool.not_true, Bool.not_false, zLay_1, zLay_c1, zLay_c2, zLay_n, zWds_n, zWds_c, zCat_0, zCat_1, zCat_3, zCat_4, zLay_4, List.nil_append, List.cons_append, List.replicate_succ, List.replicate_zero, zTy_0, zTy_b0, zTy_1, zTy_3, zTy_3n, zTy_4, and_true, true_and, Option.bind_some, zNul_n, zNul_r, List.getElem?_cons_zero, List.getElem?_cons_succ, Int.add_zero, zTv_B, zTy_B, b_and, b_or, b_andn, b_not, b_shl, b_cmp, b_cmp0, b_cmp0l, b_eq0, b_eq1, zs_2, zl_21, zl_22, gf_s, gf_l, pf_s, pf_l, zl_z, zs_z, nA, and_self, Nat.le_refl, Option.some.injEq, eq_self, Nat.reduceAdd, Nat.reduceSub, S_JT_fresh, wx, e1]
      rfl
    · simp (disch := first | assumption | omega | exact zTy_0 | exact zTy_3 | exact zTy_3n | exact zTy_1 | exact zTy_B | exact zTy_b0 | exact zTy_4 | exact zEl_n | exact zEz4 | exact zEz9 | exact hz _ _ | exact hz2 _ _ | exact zI0 | exact zI1 | exact zI2 | exact zI3 | exact zI4 | exact zI5 | exact zI6 | exact zI7 | exact zI8 | exact zI9 | exact zI10 | (simp only [zl_21, zl_22, zs_2, ne_eq]; omega) | ((repeat (refine Eq.trans (us_r (by decide)) ?_)); assumption) | ((simp (decide := true) only [us_k, us_s]); omega)) only [↓rKi, ↓rKl, ↓rKn, ↓rKd, ↓rL, ↓r2, ↓r1, ↓rC2, ↓rC1, ↓rCn, ↓rNot, ↓rAnd, ↓rOr, ↓rCi, ↓rBx, ↓rIte, ↓rGf, ↓rLen, ↓rAx, ↓rNa, ↓rA0, ↓rA1, ↓rCs, ↓rCv, ↓rAn, ↓rNew, ↓rSeq, ↓rSkip, ↓rBrk, ↓rCnt, ↓rRetV, ↓rAsg, ↓rRet, ↓rIf, ↓rPf, ↓rPfo, ↓rAs, ↓rAso, ↓rDo, ↓rObj, ↓rBl, ↓rSw, ↓rCopy, ↓zSq_0, ↓zSq_r, ↓zSq_1, ↓zSq_2, ↓zBq_l, ↓zBq_r, ↓zWq_0, ↓zWq_1, ↓zWq_2, ↓zWq_r, ↓zLo_0, ↓zLo_1, ↓zLo_2, ↓zLo_r, ↓zLt_0, ↓rTr, ↓zFin_s, ↓zFin_n, wX_r, wO_s, wI_t, wI_f, zLk_0, zLk_s, zTv_vi, zTv_vb, zTv_vl, zTv_d, zTv_r, zTv_n, zTv_4, zTo_s, zCl_n, zCl_0, zCl_s, Int32.reduceToInt, Int64.reduceToInt, e_add, e_sub, e_mul, e_neg, e_ladd, e_lsub, e_lmul, e_lneg, q_0, q_1, q_2, q_3, q_4, q_5, q_b0, q_b1, p_0, p_1, p_2, p_3, p_4, p_5, p_b0, p_b1, e_lcmp, pl_0, pl_1, pl_2, pl_3, pl_4, pl_5, e_i2l, e_l2i, e_idiv, e_irem, e_ldiv, e_lrem, List.set_cons_zero, List.set_cons_succ, List.getD_cons_zero, List.getD_cons_succ, List.getD_nil, dT, dF, decide_true, decide_false, not_true_eq_false, not_false_eq_true, Bool.not_true, Bool.not_false, zLay_1, zLay_c1, zLay_c2, zLay_n, zWds_n, zWds_c, zCat_0, zCat_1, zCat_3, zCat_4, zLay_4, List.nil_append, List.cons_append, List.replicate_succ, List.replicate_zero, zTy_0, zTy_b0, zTy_1, zTy_3, zTy_3n, zTy_4, and_true, true_and, Option.bind_some, zNul_n, zNul_r, List.getElem?_cons_zero, List.getElem?_cons_succ, Int.add_zero, zTv_B, zTy_B, b_and, b_or, b_andn, b_not, b_shl, b_cmp, b_cmp0, b_cmp0l, b_eq0, b_eq1, zs_2, zl_21, zl_22, gf_s, gf_l, pf_s, pf_l, zl_z, zs_z, nA, and_self, Nat.le_refl, Option.some.injEq, eq_self, Nat.reduceAdd, Nat.reduceSub, tg_m, mf_0, mf_1, mf_2, mf_3, mf_4, mf_5, mf_6, mf_7, mf_8, mf_9, mp_10, mf_10, mp_11, mf_11, mp_12, mf_12, mp_13, mf_13, mp_14, mf_14, mf_15, mf_16, mp_17, mf_17, mf_18, mf_19, mp_20, mf_20, mp_21, mf_21, mf_22, mp_23, mf_23, mp_24, mf_24, mf_25, mp_26, mf_26, ax_1, asa_1, aso_1, ax_2, asa_2, aso_2, ax_3, asa_3, aso_3, ax_4, asa_4, aso_4, ax_5, asa_5, aso_5, ax_6, asa_6, aso_6, ax_7, asa_7, aso_7, ax_8, asa_8, aso_8, ax_9, asa_9, aso_9, ax_10, asa_10, aso_10, ax_11, asa_11, aso_11, ax_12, asa_12, aso_12, ax_13, asa_13, aso_13, ax_14, asa_14, aso_14, ax_15, asa_15, aso_15, ax_16, asa_16, aso_16, hp_2, us_s, us_k, us_j, us_r, S_Mo_fresh, itF]
      rfl
end
