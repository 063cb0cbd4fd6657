/-! APART -/
section
variable {G : zG} {h H h1 : zHp} {x m pp ip st im : Nat} {s s1 s2 : Nat → Int → Int} {r : zHp} {fp fi : Int → Value}
theorem step_fin3 {Fc Fm : zMt} {as : List Value} (wo : WO G x m h s st pp im ip fp fi) {w : Int} {st2 : Nat} (x1 : ∀ a, a < h.2.1 → h1.1 a = h.1 a) (x2 : rs h h1) (x7 : ∀ h2, F_JT_takeStep [.ref x, .ref st2] h1 = some (none, h2) → h1.2 = h2.2 → (∀ a, a < h1.2.1 → a ≠ x → a ≠ pp → h2.1 a = h1.1 a) → Fc (.ref x :: as) h = some (some (vi w), h2)) (x8 : ∀ r, ∃ s1 s2, StAt (gX G h h1) st2 (s2 1) ∧ kpR s s1 ∧ (∀ j, (j < 2 ∨ 2779 ≤ j) → s2 1 j = s1 1 j) ∧ s2 2 = s 2 ∧ Fm (.ref m :: as) (hp m s r) = some (some (vi w), hp m s2 r)) : ∃ w h1 h2 s2, Fc (.ref x :: as) h = some (some (.int w), h1) ∧ Fm (.ref m :: as) h1 = some (some (.int w), h2) ∧ (h1.1 m).map (fun o => o.1) = some 11 ∧ WI x m h2 s2 ∧ rs h h2 ∧ fr h h1 ∧ fr h h2 := by
  obtain ⟨s1, s2, y1, y2, y3, y4, -⟩ := x8 h1
  have stp := (WI_step (s1 := s1) (s2 := s2) wo x1 x2.1.1 y1 y2 (fun j _ _ => rfl) y3 y4).1
  have wo' := wo
  obtain ⟨⟨a1, a2⟩, -, ⟨c1, c2, c3, c4, c5, c6⟩, d, ⟨f1, f1'⟩, -⟩ := wo
  have hm : h1 = hp m s h1 := eq_hp fun k hk => by rw [x1 _ (by omega)]; exact hp_eq a1 k hk
  obtain ⟨s1, s2, y1, y2, y3, y4, y5⟩ := x8 (zSet (zSet h1 pp (70, ar 20 (fpN fp (s 1 0) st))) x (10, [.ref st2, .ref pp, vi (pcN (s 1 0)), .ref im, .ref ip, vi (s 2 0)]))
  have w2 := (WI_step (s1 := s1) (s2 := s2) wo' x1 x2.1.1 y1 y2 (fun j _ _ => rfl) y3 y4).2 s hm
  generalize hh2 : zSet (zSet h1 pp (70, ar 20 (fpN fp (s 1 0) st))) x (10, [.ref st2, .ref pp, vi (pcN (s 1 0)), .ref im, .ref ip, vi (s 2 0)]) = h2 at *
  have h22 : h2.2 = h1.2 := by rw [← hh2]; rfl
  have fc := x7 _ stp h22.symm (fun a _ n1 n2 => by rw [← hh2, zs_n n1, zs_n n2])
  have hm2 : h2 = hp m s h2 := eq_hp fun k hk => by
    rw [← hh2, zs_n (by omega), zs_n (by omega), x1 _ (by omega)]; exact hp_eq a1 k hk
  rw [← hm2] at y5
  refine ⟨_, h2, _, s2, fc, y5, ?_, w2, ?_, fr2_of a1 d f1 f1' fun a ha n1 n2 _ _ => by rw [← hh2, zs_n n1, zs_n n2, x1 a ha]⟩
  · have := hp_eq hm2 0 (by decide)
    rw [Nat.add_zero] at this
    rw [this]; rfl
  · unfold rs
    show (h.2.1 ≤ h2.2.1 ∧ h2.2.1 ≤ _) ∧ h.2.2 ≤ h2.2.2 ∧ h2.2.2 ≤ _
    rw [h22]
    exact x2
/-- the reference: leaves laid out are what is gathered anew -/
theorem layL_S {n N : Nat} {T gh : Nat → Int → Int} {L : Int → BitVec 64} {J : Int → Int} (tf : TF n T gh L J) (w5 : ∀ k : Int, 0 ≤ k → k < n → T 5 k ≤ 9999) {k : Int} (k0 : 0 ≤ k) (k1 : k < T 0 10) (hN : pc (L k) = N) {a b c : Int} (ha : 1 ≤ a ∧ a ≤ 200) (hb : -1 ≤ b ∧ b ≤ 1) : layL s T (L k) n 0 10 = N ∧ GI N 0 (gSet (layL s T (L k) n) a b c) ∧ ∀ j : Int, 0 ≤ j → j < N → (layL s T (L k) n 3 j = T 3 (pkR (bHas (L k)) n j) ∧ layL s T (L k) n 4 j = T 4 (pkR (bHas (L k)) n j) ∧ layL s T (L k) n 5 j = T 5 (pkR (bHas (L k)) n j)) ∧ layL s T (L k) n 6 j = -1 ∧ layL s T (L k) n 7 j = -1 ∧ layL s T (L k) n 8 j = 1 := by
  have nn := tf_n tf
  obtain ⟨bz1, bz2, bz3, bz4⟩ := tf_bits tf k0 k1
  have pcn : pc (L k) = cnt (bHas (L k)) n := pc_cnt (by omega) bz2
  obtain ⟨y0, y1, -⟩ := layL_f (s := s) (T := T) (S := L k) n
  have e : layL s T (L k) n 0 10 = N := by rw [y0, ← pcn, hN]
  have rows : ∀ j : Int, 0 ≤ j → j < N → (layL s T (L k) n 3 j = T 3 (pkR (bHas (L k)) n j) ∧ layL s T (L k) n 4 j = T 4 (pkR (bHas (L k)) n j) ∧ layL s T (L k) n 5 j = T 5 (pkR (bHas (L k)) n j)) ∧ layL s T (L k) n 6 j = -1 ∧ layL s T (L k) n 7 j = -1 ∧ layL s T (L k) n 8 j = 1 := fun j j0 j1 => by
    obtain ⟨⟨z1, z2⟩, z3, z4⟩ := pkR_f (P := bHas (L k)) n j j0 (by omega)
    have y := y1 _ z1 z2 z3
    rw [z4] at y
    exact ⟨⟨y.1, y.2.1, y.2.2.1⟩, y.2.2.2⟩
  refine ⟨e, GI_lay (by omega) e (fun j j0 j1 => ?_) ha hb, rows⟩
  obtain ⟨⟨z1, z2⟩, z3, z4⟩ := pkR_f (P := bHas (L k)) n j j0 (by omega)
  obtain ⟨⟨l1, l2, l3⟩, l4, l5, l6⟩ := rows j j0 j1
  have o := tf_ok tf z1 (by omega)
  have w := w5 _ z1 z2
  rw [l1, l2, l3]
  exact ⟨⟨o.1, o.2.1, o.2.2.1, w⟩, l6⟩
theorem tf_pcn {n : Nat} {T gh : Nat → Int → Int} {L : Int → BitVec 64} {J : Int → Int} (tf : TF n T gh L J) {k : Int} (k0 : 0 ≤ k) (k1 : k < T 0 10) : ∃ N : Nat, pc (L k) = N ∧ 1 ≤ N ∧ N ≤ n := by
  obtain ⟨-, -, b3, b4⟩ := tf_bits tf k0 k1
  exact ⟨(pc (L k)).toNat, by omega, by omega, by omega⟩
/-- rows of origins go down -/
def orS (s : Nat → Int → Int) (b k : Int) : Nat → Int → Int := fun q j => if q = 1 ∧ b ≤ j ∧ j < b + k then s 11 (j - b) else s q j
theorem orS_s {b k : Int} (k0 : 0 ≤ k) : us (orS s b k) 1 (b + k) (s 11 k) = orS s b (k + 1) := by
  funext q j
  unfold us orS
  by_cases c : q = 1 ∧ j = b + k
  · rw [if_pos c, if_pos (by omega), c.2, show b + k - b = k by omega]
  · rw [if_neg c]
    by_cases d : q = 1 ∧ b ≤ j ∧ j < b + k
    · rw [if_pos d, if_pos (by omega)]
    · rw [if_neg d, if_neg (by omega)]
/-- all that the reference does after the step is kept -/
theorem m_apart {n N : Nat} {gh : Nat → Int → Int} {L : Int → BitVec 64} {J : Int → Int} {t k pw rad t5 : Int} (tf : TF n (tS (s1 1) (371 + 521 * t)) gh L J) (t0 : 0 ≤ t) (t4 : t < 4) (k0 : 0 ≤ k) (k1 : k < tS (s1 1) (371 + 521 * t) 0 10) (u0 : 0 ≤ t5) (u4 : t5 < 4) (hr : 1 ≤ rad ∧ rad ≤ 200) (hp' : -1 ≤ pw ∧ pw ≤ 1) (b7 : 0 ≤ s1 1 7 ∧ s1 1 7 < 16) (w5 : ∀ k : Int, 0 ≤ k → k < n → tS (s1 1) (371 + 521 * t) 5 k ≤ 9999) (hN : pc (L k) = N) (cg : ∀ S0 : Nat → Int → Int, GI N 0 S0 → (S0 0 10 = N ∧ S0 0 12 = rad ∧ S0 0 13 = pw ∧ S0 0 14 = tS (s1 1) (371 + 521 * t) 0 14) → (∀ j : Int, 0 ≤ j → j < N → (S0 3 j = tS (s1 1) (371 + 521 * t) 3 (pkR (bHas (L k)) n j) ∧ S0 4 j = tS (s1 1) (371 + 521 * t) 4 (pkR (bHas (L k)) n j) ∧ S0 5 j = tS (s1 1) (371 + 521 * t) 5 (pkR (bHas (L k)) n j)) ∧ S0 6 j = -1 ∧ S0 7 j = -1 ∧ S0 8 j = 1) → ∃ s2 gh2 L2 J2, gRun N S0 s2 ∧ TF N s2 gh2 L2 J2) (c1 : F_Mo_isKnot [.ref m, vi t, vi k] (hp m s r) = some (some (vb true), hp m s r)) (km : F_Mo_keepNow [.ref m] (hp m s r) = some (none, hp m s1 r)) : ∃ S0 s3 s9 : Nat → Int → Int, (GI N 0 S0 ∧ (S0 0 10 = N ∧ S0 0 12 = rad ∧ S0 0 13 = pw ∧ S0 0 14 = tS (s1 1) (371 + 521 * t) 0 14) ∧ ∀ j : Int, 0 ≤ j → j < N → (S0 3 j = tS (s1 1) (371 + 521 * t) 3 (pkR (bHas (L k)) n j) ∧ S0 4 j = tS (s1 1) (371 + 521 * t) 4 (pkR (bHas (L k)) n j) ∧ S0 5 j = tS (s1 1) (371 + 521 * t) 5 (pkR (bHas (L k)) n j)) ∧ S0 6 j = -1 ∧ S0 7 j = -1 ∧ S0 8 j = 1) ∧ gRun N S0 s3 ∧ (∀ j, j ≠ 7 → (j < 371 + 521 * t5 ∨ 371 + 521 * t5 + 521 ≤ j) → s9 1 j = s1 1 j) ∧ s9 1 7 = sbt (s1 1 7) t5 ∧ s9 2 = s1 2 ∧ agr N s3 (tS (s9 1) (371 + 521 * t5)) ∧ tS (s9 1) (371 + 521 * t5) 0 5 = 1 ∧ (∀ j : Int, 0 ≤ j → j < N → tS (s9 1) (371 + 521 * t5) 11 j = pkR (bHas (L k)) n j) ∧ F_Mo_apart [.ref m, vi t, vi k, vi pw, vi rad, vi t5] (hp m s r) = some (some (vi (2 * N - s3 0 10)), hp m s9 r) := by
  have nn := tf_n tf
  obtain ⟨bz1, bz2, bz3, bz4⟩ := tf_bits tf k0 k1
  have pcn : pc (L k) = cnt (bHas (L k)) n := pc_cnt (by omega) bz2
  have c40 : cnt (bHas (L k)) 40 = N := by rw [cnt_eq (a := (n : Int)) (b := 40) (by omega) (by omega) fun i a _ => bz2 i a, ← pcn, hN]
  have stt := tf_set tf
  obtain ⟨sL, hs, eL⟩ := q_leaves (m := m) (r := r) (s := s1) tf rfl t0 t4 k0 k1
  have e1 := sw_1 hs
  have e2 : sL 2 = s1 2 := hs.1 2 (by decide) (by decide)
  -- origins
  let Q : Option Value → zHp → Prop := fun r1 h' => ∃ S0 s3 s9 : Nat → Int → Int, (GI N 0 S0 ∧ (S0 0 10 = N ∧ S0 0 12 = rad ∧ S0 0 13 = pw ∧ S0 0 14 = tS (s1 1) (371 + 521 * t) 0 14) ∧ ∀ j : Int, 0 ≤ j → j < N → (S0 3 j = tS (s1 1) (371 + 521 * t) 3 (pkR (bHas (L k)) n j) ∧ S0 4 j = tS (s1 1) (371 + 521 * t) 4 (pkR (bHas (L k)) n j) ∧ S0 5 j = tS (s1 1) (371 + 521 * t) 5 (pkR (bHas (L k)) n j)) ∧ S0 6 j = -1 ∧ S0 7 j = -1 ∧ S0 8 j = 1) ∧ gRun N S0 s3 ∧ (∀ j, j ≠ 7 → (j < 371 + 521 * t5 ∨ 371 + 521 * t5 + 521 ≤ j) → s9 1 j = s1 1 j) ∧ s9 1 7 = sbt (s1 1 7) t5 ∧ s9 2 = s1 2 ∧ agr N s3 (tS (s9 1) (371 + 521 * t5)) ∧ tS (s9 1) (371 + 521 * t5) 0 5 = 1 ∧ (∀ j : Int, 0 ≤ j → j < N → tS (s9 1) (371 + 521 * t5) 11 j = pkR (bHas (L k)) n j) ∧ r1 = some (vi (2 * N - s3 0 10)) ∧ h' = hp m s9 r
  have key : ∃ r1 h', zMeth [3, 0, 0, 0, 0, 0] 10 0 S_Mo_apart [.ref m, vi t, vi k, vi pw, vi rad, vi t5] (hp m s r) = some (r1, h') ∧ Q r1 h' := by
    refine zMe (Q := Q) rfl ?_
    simp (disch := first | assumption | omega | exact zTy_0 | exact zTy_3 | exact zTy_3n | exact zTy_1 | exact zTy_B | exact zTy_b0 | exact zTy_4 | exact zEl_n | exact zEz4 | exact zEz9 | exact hz _ _ | exact hz2 _ _ | exact zI0 | exact zI1 | exact zI2 | exact zI3 | exact zI4 | exact zI5 | exact zI6 | exact zI7 | exact zI8 | exact zI9 | exact zI10 | (simp only [zl_21, zl_22, zs_2, ne_eq]; omega) | ((repeat (refine Eq.trans (us_r (by decide)) ?_)); assumption) | ((simp (decide := true) only [us_k, us_s]); omega)) only [↓rKi, ↓rKl, ↓rKn, ↓rKd, ↓rL, ↓r2, ↓r1, ↓rC2, ↓rC1, ↓rCn, ↓rNot, ↓rAnd, ↓rOr, ↓rCi, ↓rBx, ↓rIte, ↓rGf, ↓rLen, ↓rAx, ↓rNa, ↓rA0, ↓rA1, ↓rCs, ↓rCv, ↓rAn, ↓rNew, ↓rSeq, ↓rSkip, ↓rBrk, ↓rCnt, ↓rRetV, ↓rAsg, ↓rRet, ↓rIf, ↓rPf, ↓rPfo, ↓rAs, ↓rAso, ↓rDo, ↓rObj, ↓rBl, ↓rSw, ↓rCopy, ↓zSq_0, ↓zSq_r, ↓zSq_1, ↓zSq_2, ↓zBq_l, ↓zBq_r, ↓zWq_0, ↓zWq_1, ↓zWq_2, ↓zWq_r, ↓zLo_0, ↓zLo_1, ↓zLo_2, ↓zLo_r, ↓zLt_0, ↓rTr, ↓zFin_s, ↓zFin_n, wX_r, wO_s, wI_t, wI_f, zLk_0, zLk_s, zTv_vi, zTv_vb, zTv_vl, zTv_d, zTv_r, zTv_n, zTv_4, zTo_s, zCl_n, zCl_0, zCl_s, Int32.reduceToInt, Int64.reduceToInt, e_add, e_sub, e_mul, e_neg, e_ladd, e_lsub, e_lmul, e_lneg, q_0, q_1, q_2, q_3, q_4, q_5, q_b0, q_b1, p_0, p_1, p_2, p_3, p_4, p_5, p_b0, p_b1, e_lcmp, pl_0, pl_1, pl_2, pl_3, pl_4, pl_5, e_i2l, e_l2i, e_idiv, e_irem, e_ldiv, e_lrem, List.set_cons_zero, List.set_cons_succ, List.getD_cons_zero, List.getD_cons_succ, List.getD_nil, dT, dF, decide_true, decide_false, not_true_eq_false, not_false_eq_true, Bool.not_true, Bool.not_false, zLay_1, zLay_c1, zLay_c2, zLay_n, zWds_n, zWds_c, zCat_0, zCat_1, zCat_3, zCat_4, zLay_4, List.nil_append, List.cons_append, List.replicate_succ, List.replicate_zero, zTy_0, zTy_b0, zTy_1, zTy_3, zTy_3n, zTy_4, and_true, true_and, Option.bind_some, zNul_n, zNul_r, List.getElem?_cons_zero, List.getElem?_cons_succ, Int.add_zero, zTv_B, zTy_B, b_and, b_or, b_andn, b_not, b_shl, b_cmp, b_cmp0, b_cmp0l, b_eq0, b_eq1, zs_2, zl_21, zl_22, gf_s, gf_l, pf_s, pf_l, zl_z, zs_z, nA, and_self, Nat.le_refl, Option.some.injEq, eq_self, Nat.reduceAdd, Nat.reduceSub, tg_m, mf_0, mf_1, mf_2, mf_3, mf_4, mf_5, mf_6, mf_7, mf_8, mf_9, mp_10, mf_10, mp_11, mf_11, mp_12, mf_12, mp_13, mf_13, mp_14, mf_14, mf_15, mf_16, mp_17, mf_17, mf_18, mf_19, mp_20, mf_20, mp_21, mf_21, mf_22, mp_23, mf_23, mp_24, mf_24, mf_25, mp_26, mf_26, ax_1, asa_1, aso_1, ax_2, asa_2, aso_2, ax_3, asa_3, aso_3, ax_4, asa_4, aso_4, ax_5, asa_5, aso_5, ax_6, asa_6, aso_6, ax_7, asa_7, aso_7, ax_8, asa_8, aso_8, ax_9, asa_9, aso_9, ax_10, asa_10, aso_10, ax_11, asa_11, aso_11, ax_12, asa_12, aso_12, ax_13, asa_13, aso_13, ax_14, asa_14, aso_14, ax_15, asa_15, aso_15, ax_16, asa_16, aso_16, hp_2, us_s, us_k, us_j, us_r, S_Mo_apart, L_Mo_apart_0, c1, e_isIn, km, eL]
    refine wForI (fun i env h' => ∃ u, (h' = hp m u r ∧ env = [.ref m, vi t, vi k, vi pw, vi rad, vi t5, vB (L k), .null, vi (cnt (bHas (L k)) i), vi i]) ∧ (∀ q, q ≠ 11 → u q = sL q) ∧ ∀ j : Int, 0 ≤ j → j < i → bHas (L k) j = true → u 11 (cnt (bHas (L k)) j) = j) 0 40 (by decide) (by decide) ⟨sL, ⟨rfl, rfl⟩, fun _ _ => rfl, fun j a b => by omega⟩ ?_ ?_
    · intro i env h' i0 i1 ⟨u, ⟨hh, he⟩, hu, hj⟩
      subst hh
      subst he
      have cs := cnt_s (P := bHas (L k)) i0
      have cn := cnt_nn (P := bHas (L k)) (k := i)
      have cl := cnt_le (P := bHas (L k)) i0
      have hsb := e_has (a := L k) (k := i) (h := hp m u r) i0 (by omega)
      by_cases c : bHas (L k) i = true
      · rw [c] at hsb
        rw [if_pos c] at cs
        simp (disch := first | assumption | omega | exact zTy_0 | exact zTy_3 | exact zTy_3n | exact zTy_1 | exact zTy_B | exact zTy_b0 | exact zTy_4 | exact zEl_n | exact zEz4 | exact zEz9 | exact hz _ _ | exact hz2 _ _ | exact zI0 | exact zI1 | exact zI2 | exact zI3 | exact zI4 | exact zI5 | exact zI6 | exact zI7 | exact zI8 | exact zI9 | exact zI10 | (simp only [zl_21, zl_22, zs_2, ne_eq]; omega) | ((repeat (refine Eq.trans (us_r (by decide)) ?_)); assumption) | ((simp (decide := true) only [us_k, us_s]); omega)) only [↓rKi, ↓rKl, ↓rKn, ↓rKd, ↓rL, ↓r2, ↓r1, ↓rC2, ↓rC1, ↓rCn, ↓rNot, ↓rAnd, ↓rOr, ↓rCi, ↓rBx, ↓rIte, ↓rGf, ↓rLen, ↓rAx, ↓rNa, ↓rA0, ↓rA1, ↓rCs, ↓rCv, ↓rAn, ↓rNew, ↓rSeq, ↓rSkip, ↓rBrk, ↓rCnt, ↓rRetV, ↓rAsg, ↓rRet, ↓rIf, ↓rPf, ↓rPfo, ↓rAs, ↓rAso, ↓rDo, ↓rObj, ↓rBl, ↓rSw, ↓rCopy, ↓zSq_0, ↓zSq_r, ↓zSq_1, ↓zSq_2, ↓zBq_l, ↓zBq_r, ↓zWq_0, ↓zWq_1, ↓zWq_2, ↓zWq_r, ↓zLo_0, ↓zLo_1, ↓zLo_2, ↓zLo_r, ↓zLt_0, ↓rTr, ↓zFin_s, ↓zFin_n, wX_r, wO_s, wI_t, wI_f, zLk_0, zLk_s, zTv_vi, zTv_vb, zTv_vl, zTv_d, zTv_r, zTv_n, zTv_4, zTo_s, zCl_n, zCl_0, zCl_s, Int32.reduceToInt, Int64.reduceToInt, e_add, e_sub, e_mul, e_neg, e_ladd, e_lsub, e_lmul, e_lneg, q_0, q_1, q_2, q_3, q_4, q_5, q_b0, q_b1, p_0, p_1, p_2, p_3, p_4, p_5, p_b0, p_b1, e_lcmp, pl_0, pl_1, pl_2, pl_3, pl_4, pl_5, e_i2l, e_l2i, e_idiv, e_irem, e_ldiv, e_lrem, List.set_cons_zero, List.set_cons_succ, List.getD_cons_zero, List.getD_cons_succ, List.getD_nil, dT, dF, decide_true, decide_false, not_true_eq_false, not_false_eq_true, Bool.not_true, Bool.not_false, zLay_1, zLay_c1, zLay_c2, zLay_n, zWds_n, zWds_c, zCat_0, zCat_1, zCat_3, zCat_4, zLay_4, List.nil_append, List.cons_append, List.replicate_succ, List.replicate_zero, zTy_0, zTy_b0, zTy_1, zTy_3, zTy_3n, zTy_4, and_true, true_and, Option.bind_some, zNul_n, zNul_r, List.getElem?_cons_zero, List.getElem?_cons_succ, Int.add_zero, zTv_B, zTy_B, b_and, b_or, b_andn, b_not, b_shl, b_cmp, b_cmp0, b_cmp0l, b_eq0, b_eq1, zs_2, zl_21, zl_22, gf_s, gf_l, pf_s, pf_l, zl_z, zs_z, nA, and_self, Nat.le_refl, Option.some.injEq, eq_self, Nat.reduceAdd, Nat.reduceSub, tg_m, mf_0, mf_1, mf_2, mf_3, mf_4, mf_5, mf_6, mf_7, mf_8, mf_9, mp_10, mf_10, mp_11, mf_11, mp_12, mf_12, mp_13, mf_13, mp_14, mf_14, mf_15, mf_16, mp_17, mf_17, mf_18, mf_19, mp_20, mf_20, mp_21, mf_21, mf_22, mp_23, mf_23, mp_24, mf_24, mf_25, mp_26, mf_26, ax_1, asa_1, aso_1, ax_2, asa_2, aso_2, ax_3, asa_3, aso_3, ax_4, asa_4, aso_4, ax_5, asa_5, aso_5, ax_6, asa_6, aso_6, ax_7, asa_7, aso_7, ax_8, asa_8, aso_8, ax_9, asa_9, aso_9, ax_10, asa_10, aso_10, ax_11, asa_11, aso_11, ax_12, asa_12, aso_12, ax_13, asa_13, aso_13, ax_14, asa_14, aso_14, ax_15, asa_15, aso_15, ax_16, asa_16, aso_16, hp_2, us_s, us_k, us_j, us_r, C_Mo_apart_0, B_Mo_apart_0, T_Mo_apart_0, hsb]
        rw [cs]
        refine ⟨_, ⟨rfl, rfl⟩, fun q hq => by rw [us_r hq]; exact hu q hq, fun j j0 j1 hb => ?_⟩
        by_cases z : j = i
        · rw [z, us_s]
        · have lt : cnt (bHas (L k)) j < cnt (bHas (L k)) i := cnt_lt j0 (by omega) hb
          rw [us_j (by omega)]
          exact hj j j0 (by omega) hb
      · have c' : bHas (L k) i = false := by cases z : bHas (L k) i with
          | false => rfl
          | true => exact absurd z c
        rw [c'] at hsb
        rw [if_neg c, Int.add_zero] at cs
        simp (disch := first | assumption | omega | exact zTy_0 | exact zTy_3 | exact zTy_3n | exact zTy_1 | exact zTy_B | exact zTy_b0 | exact zTy_4 | exact zEl_n | exact zEz4 | exact zEz9 | exact hz _ _ | exact hz2 _ _ | exact zI0 | exact zI1 | exact zI2 | exact zI3 | exact zI4 | exact zI5 | exact zI6 | exact zI7 | exact zI8 | exact zI9 | exact zI10 | (simp only [zl_21, zl_22, zs_2, ne_eq]; omega) | ((repeat (refine Eq.trans (us_r (by decide)) ?_)); assumption) | ((simp (decide := true) only [us_k, us_s]); omega)) only [↓rKi, ↓rKl, ↓rKn, ↓rKd, ↓rL, ↓r2, ↓r1, ↓rC2, ↓rC1, ↓rCn, ↓rNot, ↓rAnd, ↓rOr, ↓rCi, ↓rBx, ↓rIte, ↓rGf, ↓rLen, ↓rAx, ↓rNa, ↓rA0, ↓rA1, ↓rCs, ↓rCv, ↓rAn, ↓rNew, ↓rSeq, ↓rSkip, ↓rBrk, ↓rCnt, ↓rRetV, ↓rAsg, ↓rRet, ↓rIf, ↓rPf, ↓rPfo, ↓rAs, ↓rAso, ↓rDo, ↓rObj, ↓rBl, ↓rSw, ↓rCopy, ↓zSq_0, ↓zSq_r, ↓zSq_1, ↓zSq_2, ↓zBq_l, ↓zBq_r, ↓zWq_0, ↓zWq_1, ↓zWq_2, ↓zWq_r, ↓zLo_0, ↓zLo_1, ↓zLo_2, ↓zLo_r, ↓zLt_0, ↓rTr, ↓zFin_s, ↓zFin_n, wX_r, wO_s, wI_t, wI_f, zLk_0, zLk_s, zTv_vi, zTv_vb, zTv_vl, zTv_d, zTv_r, zTv_n, zTv_4, zTo_s, zCl_n, zCl_0, zCl_s, Int32.reduceToInt, Int64.reduceToInt, e_add, e_sub, e_mul, e_neg, e_ladd, e_lsub, e_lmul, e_lneg, q_0, q_1, q_2, q_3, q_4, q_5, q_b0, q_b1, p_0, p_1, p_2, p_3, p_4, p_5, p_b0, p_b1, e_lcmp, pl_0, pl_1, pl_2, pl_3, pl_4, pl_5, e_i2l, e_l2i, e_idiv, e_irem, e_ldiv, e_lrem, List.set_cons_zero, List.set_cons_succ, List.getD_cons_zero, List.getD_cons_succ, List.getD_nil, dT, dF, decide_true, decide_false, not_true_eq_false, not_false_eq_true, Bool.not_true, Bool.not_false, zLay_1, zLay_c1, zLay_c2, zLay_n, zWds_n, zWds_c, zCat_0, zCat_1, zCat_3, zCat_4, zLay_4, List.nil_append, List.cons_append, List.replicate_succ, List.replicate_zero, zTy_0, zTy_b0, zTy_1, zTy_3, zTy_3n, zTy_4, and_true, true_and, Option.bind_some, zNul_n, zNul_r, List.getElem?_cons_zero, List.getElem?_cons_succ, Int.add_zero, zTv_B, zTy_B, b_and, b_or, b_andn, b_not, b_shl, b_cmp, b_cmp0, b_cmp0l, b_eq0, b_eq1, zs_2, zl_21, zl_22, gf_s, gf_l, pf_s, pf_l, zl_z, zs_z, nA, and_self, Nat.le_refl, Option.some.injEq, eq_self, Nat.reduceAdd, Nat.reduceSub, tg_m, mf_0, mf_1, mf_2, mf_3, mf_4, mf_5, mf_6, mf_7, mf_8, mf_9, mp_10, mf_10, mp_11, mf_11, mp_12, mf_12, mp_13, mf_13, mp_14, mf_14, mf_15, mf_16, mp_17, mf_17, mf_18, mf_19, mp_20, mf_20, mp_21, mf_21, mf_22, mp_23, mf_23, mp_24, mf_24, mf_25, mp_26, mf_26, ax_1, asa_1, aso_1, ax_2, asa_2, aso_2, ax_3, asa_3, aso_3, ax_4, asa_4, aso_4, ax_5, asa_5, aso_5, ax_6, asa_6, aso_6, ax_7, asa_7, aso_7, ax_8, asa_8, aso_8, ax_9, asa_9, aso_9, ax_10, asa_10, aso_10, ax_11, asa_11, aso_11, ax_12, asa_12, aso_12, ax_13, asa_13, aso_13, ax_14, asa_14, aso_14, ax_15, asa_15, aso_15, ax_16, asa_16, aso_16, hp_2, us_s, us_k, us_j, us_r, C_Mo_apart_0, B_Mo_apart_0, T_Mo_apart_0, hsb]
        rw [cs]
        refine ⟨u, ⟨rfl, rfl⟩, hu, fun j j0 j1 hb => ?_⟩
        by_cases z : j = i
        · rw [z] at hb; exact absurd hb c
        · exact hj j j0 (by omega) hb
    · intro env h' ⟨u, ⟨hh, he⟩, hu, hj⟩
      subst hh
      subst he
      rw [c40]
      have u1 : u 1 = s1 1 := (hu 1 (by decide)).trans e1
      have u2 : u 2 = s1 2 := (hu 2 (by decide)).trans e2
      have ly := e_layLeaves (m := m) (r := r) (s := u) (S := L k) tf u1 t0 t4
      obtain ⟨l10, g0, lr⟩ := layL_S (s := u) (a := rad) (b := pw) (c := tS (s1 1) (371 + 521 * t) 0 14) tf w5 k0 k1 hN hr hp'
      obtain ⟨-, -, lq, l0⟩ := layL_f (s := u) (T := tS (s1 1) (371 + 521 * t)) (S := L k) n
      generalize hl : layL u (tS (s1 1) (371 + 521 * t)) (L k) n = l at *
      obtain ⟨⟨f0, f1, f2, f3, f4⟩, f5⟩ := gSet_f (s := l) (a := rad) (b := pw) (c := tS (s1 1) (371 + 521 * t) 0 14)
      have l1 : l 1 = s1 1 := (lq 1 (by decide) (by decide)).trans u1
      have ts := q_tS (m := m) (s := l) (r := r) t0 t4
      rw [l1] at ts
      obtain ⟨s3', p1, p2, p3⟩ := e_gatherAll (m := m) (r := r) g0 l10 (by omega) (by omega) (by omega)
      rw [show ((N : Int)).toNat = N by omega] at p1
      have x1 : s3' 1 = s1 1 := by rw [gRun_1 (by decide) (by decide) p1, f5 1 (by decide), l1]
      have x2 : s3' 2 = s1 2 := by rw [gRun_1 (by decide) (by decide) p1, f5 2 (by decide), lq 2 (by decide) (by decide), u2]
      have x11 : s3' 11 = u 11 := by rw [gRun_1 (by decide) (by decide) p1, f5 11 (by decide), lq 11 (by decide) (by decide)]
      have b7' : 0 ≤ s3' 1 7 ∧ s3' 1 7 < 16 := by rw [x1]; exact b7
      have lay0 : ∀ j : Int, 0 ≤ j → j < N → (gSet l rad pw (tS (s1 1) (371 + 521 * t) 0 14) 3 j = tS (s1 1) (371 + 521 * t) 3 (pkR (bHas (L k)) n j) ∧ gSet l rad pw (tS (s1 1) (371 + 521 * t) 0 14) 4 j = tS (s1 1) (371 + 521 * t) 4 (pkR (bHas (L k)) n j) ∧ gSet l rad pw (tS (s1 1) (371 + 521 * t) 0 14) 5 j = tS (s1 1) (371 + 521 * t) 5 (pkR (bHas (L k)) n j)) ∧ gSet l rad pw (tS (s1 1) (371 + 521 * t) 0 14) 6 j = -1 ∧ gSet l rad pw (tS (s1 1) (371 + 521 * t) 0 14) 7 j = -1 ∧ gSet l rad pw (tS (s1 1) (371 + 521 * t) 0 14) 8 j = 1 := fun j j0 j1 => by
        rw [f5 3 (by decide), f5 4 (by decide), f5 5 (by decide), f5 6 (by decide), f5 7 (by decide), f5 8 (by decide)]
        exact lr j j0 j1
      obtain ⟨s4, gh2, L2, J2, p1', tf3⟩ := cg _ g0 ⟨by rw [f0, l10], f2, f3, f4⟩ lay0
      have e34 : s4 = s3' := gRun_one p1' p1
      rw [e34] at tf3
      have n79 : 0 ≤ s3' 0 10 ∧ s3' 0 10 ≤ 79 := by
        have := p2.2.2.1
        have := (tf_jets tf3).1
        omega
      have n11 : s3' 0 11 = N ∧ N ≤ 40 := ⟨p2.2.1, by omega⟩
      have lt := m_layTree (m := m) (s := s3') (r := r) u0 u4 n79 (by omega) b7'
      have z8 : ∀ k, 0 ≤ k → k < s3' 0 10 → s3' 8 k = 0 := tf_ok8 tf3
      obtain ⟨z1, z2, z3, z4, z5⟩ := lyTr_f (s := s3') (n := N) u0 u4 n79 n11 z8
      simp (disch := first | assumption | omega | exact zTy_0 | exact zTy_3 | exact zTy_3n | exact zTy_1 | exact zTy_B | exact zTy_b0 | exact zTy_4 | exact zEl_n | exact zEz4 | exact zEz9 | exact hz _ _ | exact hz2 _ _ | exact zI0 | exact zI1 | exact zI2 | exact zI3 | exact zI4 | exact zI5 | exact zI6 | exact zI7 | exact zI8 | exact zI9 | exact zI10 | (simp only [zl_21, zl_22, zs_2, ne_eq]; omega) | ((repeat (refine Eq.trans (us_r (by decide)) ?_)); assumption) | ((simp (decide := true) only [us_k, us_s]); omega)) only [↓rKi, ↓rKl, ↓rKn, ↓rKd, ↓rL, ↓r2, ↓r1, ↓rC2, ↓rC1, ↓rCn, ↓rNot, ↓rAnd, ↓rOr, ↓rCi, ↓rBx, ↓rIte, ↓rGf, ↓rLen, ↓rAx, ↓rNa, ↓rA0, ↓rA1, ↓rCs, ↓rCv, ↓rAn, ↓rNew, ↓rSeq, ↓rSkip, ↓rBrk, ↓rCnt, ↓rRetV, ↓rAsg, ↓rRet, ↓rIf, ↓rPf, ↓rPfo, ↓rAs, ↓rAso, ↓rDo, ↓rObj, ↓rBl, ↓rSw, ↓rCopy, ↓zSq_0, ↓zSq_r, ↓zSq_1, ↓zSq_2, ↓zBq_l, ↓zBq_r, ↓zWq_0, ↓zWq_1, ↓zWq_2, ↓zWq_r, ↓zLo_0, ↓zLo_1, ↓zLo_2, ↓zLo_r, ↓zLt_0, ↓rTr, ↓zFin_s, ↓zFin_n, wX_r, wO_s, wI_t, wI_f, zLk_0, zLk_s, zTv_vi, zTv_vb, zTv_vl, zTv_d, zTv_r, zTv_n, zTv_4, zTo_s, zCl_n, zCl_0, zCl_s, Int32.reduceToInt, Int64.reduceToInt, e_add, e_sub, e_mul, e_neg, e_ladd, e_lsub, e_lmul, e_lneg, q_0, q_1, q_2, q_3, q_4, q_5, q_b0, q_b1, p_0, p_1, p_2, p_3, p_4, p_5, p_b0, p_b1, e_lcmp, pl_0, pl_1, pl_2, pl_3, pl_4, pl_5, e_i2l, e_l2i, e_idiv, e_irem, e_ldiv, e_lrem, List.set_cons_zero, List.set_cons_succ, List.getD_cons_zero, List.getD_cons_succ, List.getD_nil, dT, dF, decide_true, decide_false, not_true_eq_false, not_false_eq_true, Bool.not_true, Bool.not_false, zLay_1, zLay_c1, zLay_c2, zLay_n, zWds_n, zWds_c, zCat_0, zCat_1, zCat_3, zCat_4, zLay_4, List.nil_append, List.cons_append, List.replicate_succ, List.replicate_zero, zTy_0, zTy_b0, zTy_1, zTy_3, zTy_3n, zTy_4, and_true, true_and, Option.bind_some, zNul_n, zNul_r, List.getElem?_cons_zero, List.getElem?_cons_succ, Int.add_zero, zTv_B, zTy_B, b_and, b_or, b_andn, b_not, b_shl, b_cmp, b_cmp0, b_cmp0l, b_eq0, b_eq1, zs_2, zl_21, zl_22, gf_s, gf_l, pf_s, pf_l, zl_z, zs_z, nA, and_self, Nat.le_refl, Option.some.injEq, eq_self, Nat.reduceAdd, Nat.reduceSub, tg_m, mf_0, mf_1, mf_2, mf_3, mf_4, mf_5, mf_6, mf_7, mf_8, mf_9, mp_10, mf_10, mp_11, mf_11, mp_12, mf_12, mp_13, mf_13, mp_14, mf_14, mf_15, mf_16, mp_17, mf_17, mf_18, mf_19, mp_20, mf_20, mp_21, mf_21, mf_22, mp_23, mf_23, mp_24, mf_24, mf_25, mp_26, mf_26, ax_1, asa_1, aso_1, ax_2, asa_2, aso_2, ax_3, asa_3, aso_3, ax_4, asa_4, aso_4, ax_5, asa_5, aso_5, ax_6, asa_6, aso_6, ax_7, asa_7, aso_7, ax_8, asa_8, aso_8, ax_9, asa_9, aso_9, ax_10, asa_10, aso_10, ax_11, asa_11, aso_11, ax_12, asa_12, aso_12, ax_13, asa_13, aso_13, ax_14, asa_14, aso_14, ax_15, asa_15, aso_15, ax_16, asa_16, aso_16, hp_2, us_s, us_k, us_j, us_r, C_Mo_apart_0, B_Mo_apart_0, T_Mo_apart_0, L_Mo_apart_1, ly, ts, p3, lt, e_treeAt]
      generalize hv : us (lyTr s3' t5) 1 (371 + 521 * t5 + 5) 1 = v
      have v11 : v 11 = u 11 := by rw [← hv, us_r (by decide), z1 11 (by decide), x11]
      refine wForI (fun j env h' => h' = hp m (orS v (371 + 521 * t5 + 481) j) r ∧ env = [.ref m, vi t, vi k, vi pw, vi rad, vi t5, vB (L k), .null, vi (N : Int), vi j]) 0 N (by omega) (by omega) ⟨?_, rfl⟩ ?_ ?_
      · have : orS v (371 + 521 * t5 + 481) 0 = v := by funext q j; exact if_neg (by omega)
        rw [this]
      · intro j env h' j0 j1 ⟨hh, he⟩
        subst hh
        subst he
        have rd : orS v (371 + 521 * t5 + 481) j 11 j = v 11 j := if_neg (by omega)
        have cs := orS_s (s := v) (b := 371 + 521 * t5 + 481) j0
        simp (disch := first | assumption | omega | exact zTy_0 | exact zTy_3 | exact zTy_3n | exact zTy_1 | exact zTy_B | exact zTy_b0 | exact zTy_4 | exact zEl_n | exact zEz4 | exact zEz9 | exact hz _ _ | exact hz2 _ _ | exact zI0 | exact zI1 | exact zI2 | exact zI3 | exact zI4 | exact zI5 | exact zI6 | exact zI7 | exact zI8 | exact zI9 | exact zI10 | (simp only [zl_21, zl_22, zs_2, ne_eq]; omega) | ((repeat (refine Eq.trans (us_r (by decide)) ?_)); assumption) | ((simp (decide := true) only [us_k, us_s]); omega)) only [↓rKi, ↓rKl, ↓rKn, ↓rKd, ↓rL, ↓r2, ↓r1, ↓rC2, ↓rC1, ↓rCn, ↓rNot, ↓rAnd, ↓rOr, ↓rCi, ↓rBx, ↓rIte, ↓rGf, ↓rLen, ↓rAx, ↓rNa, ↓rA0, ↓rA1, ↓rCs, ↓rCv, ↓rAn, ↓rNew, ↓rSeq, ↓rSkip, ↓rBrk, ↓rCnt, ↓rRetV, ↓rAsg, ↓rRet, ↓rIf, ↓rPf, ↓rPfo, ↓rAs, ↓rAso, ↓rDo, ↓rObj, ↓rBl, ↓rSw, ↓rCopy, ↓zSq_0, ↓zSq_r, ↓zSq_1, ↓zSq_2, ↓zBq_l, ↓zBq_r, ↓zWq_0, ↓zWq_1, ↓zWq_2, ↓zWq_r, ↓zLo_0, ↓zLo_1, ↓zLo_2, ↓zLo_r, ↓zLt_0, ↓rTr, ↓zFin_s, ↓zFin_n, wX_r, wO_s, wI_t, wI_f, zLk_0, zLk_s, zTv_vi, zTv_vb, zTv_vl, zTv_d, zTv_r, zTv_n, zTv_4, zTo_s, zCl_n, zCl_0, zCl_s, Int32.reduceToInt, Int64.reduceToInt, e_add, e_sub, e_mul, e_neg, e_ladd, e_lsub, e_lmul, e_lneg, q_0, q_1, q_2, q_3, q_4, q_5, q_b0, q_b1, p_0, p_1, p_2, p_3, p_4, p_5, p_b0, p_b1, e_lcmp, pl_0, pl_1, pl_2, pl_3, pl_4, pl_5, e_i2l, e_l2i, e_idiv, e_irem, e_ldiv, e_lrem, List.set_cons_zero, List.set_cons_succ, List.getD_cons_zero, List.getD_cons_succ, List.getD_nil, dT, dF, decide_true, decide_false, not_true_eq_false, not_false_eq_true, Bool.not_true, Bool.not_false, zLay_1, zLay_c1, zLay_c2, zLay_n, zWds_n, zWds_c, zCat_0, zCat_1, zCat_3, zCat_4, zLay_4, List.nil_append, List.cons_append, List.replicate_succ, List.replicate_zero, zTy_0, zTy_b0, zTy_1, zTy_3, zTy_3n, zTy_4, and_true, true_and, Option.bind_some, zNul_n, zNul_r, List.getElem?_cons_zero, List.getElem?_cons_succ, Int.add_zero, zTv_B, zTy_B, b_and, b_or, b_andn, b_not, b_shl, b_cmp, b_cmp0, b_cmp0l, b_eq0, b_eq1, zs_2, zl_21, zl_22, gf_s, gf_l, pf_s, pf_l, zl_z, zs_z, nA, and_self, Nat.le_refl, Option.some.injEq, eq_self, Nat.reduceAdd, Nat.reduceSub, tg_m, mf_0, mf_1, mf_2, mf_3, mf_4, mf_5, mf_6, mf_7, mf_8, mf_9, mp_10, mf_10, mp_11, mf_11, mp_12, mf_12, mp_13, mf_13, mp_14, mf_14, mf_15, mf_16, mp_17, mf_17, mf_18, mf_19, mp_20, mf_20, mp_21, mf_21, mf_22, mp_23, mf_23, mp_24, mf_24, mf_25, mp_26, mf_26, ax_1, asa_1, aso_1, ax_2, asa_2, aso_2, ax_3, asa_3, aso_3, ax_4, asa_4, aso_4, ax_5, asa_5, aso_5, ax_6, asa_6, aso_6, ax_7, asa_7, aso_7, ax_8, asa_8, aso_8, ax_9, asa_9, aso_9, ax_10, asa_10, aso_10, ax_11, asa_11, aso_11, ax_12, asa_12, aso_12, ax_13, asa_13, aso_13, ax_14, asa_14, aso_14, ax_15, asa_15, aso_15, ax_16, asa_16, aso_16, hp_2, us_s, us_k, us_j, us_r, C_Mo_apart_1, B_Mo_apart_1, T_Mo_apart_1, e_treeAt, rd, cs]
      · intro env h' ⟨hh, he⟩
        subst hh
        subst he
        have w1 : ∀ j, (j < 371 + 521 * t5 + 481 ∨ 371 + 521 * t5 + 481 + N ≤ j) → j ≠ 371 + 521 * t5 + 5 → orS v (371 + 521 * t5 + 481) N 1 j = lyTr s3' t5 1 j := fun j hj hn => (if_neg (by omega)).trans (by rw [← hv, us_j hn])
        have w11 : ∀ j : Int, 0 ≤ j → j < N → orS v (371 + 521 * t5 + 481) N 1 (371 + 521 * t5 + 481 + j) = pkR (bHas (L k)) n j := fun j j0 j1 => by
          refine (if_pos ⟨rfl, by omega, by omega⟩).trans ?_
          obtain ⟨⟨y1, y2⟩, y3, y4⟩ := pkR_f (P := bHas (L k)) n j j0 (by omega)
          have := hj _ y1 (by omega) y3
          rw [y4] at this
          rw [v11, show 371 + 521 * t5 + 481 + j - (371 + 521 * t5 + 481) = j by omega]
          exact this
        have w55 : orS v (371 + 521 * t5 + 481) N 1 (371 + 521 * t5 + 5) = 1 := (if_neg (by omega)).trans (by rw [← hv, us_s])
        have wq : ∀ q, q ≠ 1 → orS v (371 + 521 * t5 + 481) N q = lyTr s3' t5 q := fun q hq => by
          funext j
          refine (if_neg (fun z => hq z.1)).trans ?_
          rw [← hv, us_r hq]
        have ag : agr N s3' (tS (orS v (371 + 521 * t5 + 481) N 1) (371 + 521 * t5)) := by
          obtain ⟨a1, a2, a3⟩ := z4
          refine ⟨fun j j0 j1 => ?_, fun q k q0 q1 i0 i1 => ?_, fun q u q0 q1 i0 i1 => ?_⟩
          · rw [← a1 j j0 j1]
            have : j = 10 ∨ j = 11 ∨ j = 12 ∨ j = 13 ∨ j = 14 := by omega
            rcases this with q | q | q | q | q <;> subst q <;> exact w1 _ (by omega) (by omega)
          · rw [← a2 q k q0 q1 i0 i1]
            have : q = 3 ∨ q = 4 ∨ q = 5 ∨ q = 6 ∨ q = 7 ∨ q = 8 := by omega
            rcases this with z | z | z | z | z | z <;> subst z <;> first | rfl | exact w1 _ (by omega) (by omega)
          · rw [← a3 q u q0 q1 i0 i1]
            have : q = 9 ∨ q = 10 := by omega
            rcases this with z | z <;> subst z <;> exact w1 _ (by omega) (by omega)
        have e10 : tS (orS v (371 + 521 * t5 + 481) N 1) (371 + 521 * t5) 0 10 = s3' 0 10 := ag.1 10 (by decide) (by decide)
        have e11 : tS (orS v (371 + 521 * t5 + 481) N 1) (371 + 521 * t5) 0 11 = N := (ag.1 11 (by decide) (by decide)).trans n11.1
        have jt : F_Mo_jetsOf [.ref m, vi t5] (hp m (orS v (371 + 521 * t5 + 481) N) r) = some (some (vi (2 * N - s3' 0 10)), hp m (orS v (371 + 521 * t5 + 481) N) r) := by
          have y1 := q_tN (m := m) (s := orS v (371 + 521 * t5 + 481) N) (r := r) u0 u4
          have y2 := q_tK (m := m) (s := orS v (371 + 521 * t5 + 481) N) (r := r) u0 u4
          rw [e11] at y1
          rw [e10] at y2
          refine zMeq rfl ?_
          simp (disch := first | assumption | omega | exact zTy_0 | exact zTy_3 | exact zTy_3n | exact zTy_1 | exact zTy_B | exact zTy_b0 | exact zTy_4 | exact zEl_n | exact zEz4 | exact zEz9 | exact hz _ _ | exact hz2 _ _ | exact zI0 | exact zI1 | exact zI2 | exact zI3 | exact zI4 | exact zI5 | exact zI6 | exact zI7 | exact zI8 | exact zI9 | exact zI10 | (simp only [zl_21, zl_22, zs_2, ne_eq]; omega) | ((repeat (refine Eq.trans (us_r (by decide)) ?_)); assumption) | ((simp (decide := true) only [us_k, us_s]); omega)) only [↓rKi, ↓rKl, ↓rKn, ↓rKd, ↓rL, ↓r2, ↓r1, ↓rC2, ↓rC1, ↓rCn, ↓rNot, ↓rAnd, ↓rOr, ↓rCi, ↓rBx, ↓rIte, ↓rGf, ↓rLen, ↓rAx, ↓rNa, ↓rA0, ↓rA1, ↓rCs, ↓rCv, ↓rAn, ↓rNew, ↓rSeq, ↓rSkip, ↓rBrk, ↓rCnt, ↓rRetV, ↓rAsg, ↓rRet, ↓rIf, ↓rPf, ↓rPfo, ↓rAs, ↓rAso, ↓rDo, ↓rObj, ↓rBl, ↓rSw, ↓rCopy, ↓zSq_0, ↓zSq_r, ↓zSq_1, ↓zSq_2, ↓zBq_l, ↓zBq_r, ↓zWq_0, ↓zWq_1, ↓zWq_2, ↓zWq_r, ↓zLo_0, ↓zLo_1, ↓zLo_2, ↓zLo_r, ↓zLt_0, ↓rTr, ↓zFin_s, ↓zFin_n, wX_r, wO_s, wI_t, wI_f, zLk_0, zLk_s, zTv_vi, zTv_vb, zTv_vl, zTv_d, zTv_r, zTv_n, zTv_4, zTo_s, zCl_n, zCl_0, zCl_s, Int32.reduceToInt, Int64.reduceToInt, e_add, e_sub, e_mul, e_neg, e_ladd, e_lsub, e_lmul, e_lneg, q_0, q_1, q_2, q_3, q_4, q_5, q_b0, q_b1, p_0, p_1, p_2, p_3, p_4, p_5, p_b0, p_b1, e_lcmp, pl_0, pl_1, pl_2, pl_3, pl_4, pl_5, e_i2l, e_l2i, e_idiv, e_irem, e_ldiv, e_lrem, List.set_cons_zero, List.set_cons_succ, List.getD_cons_zero, List.getD_cons_succ, List.getD_nil, dT, dF, decide_true, decide_false, not_true_eq_false, not_false_eq_true, Bool.not_true, Bool.not_false, zLay_1, zLay_c1, zLay_c2, zLay_n, zWds_n, zWds_c, zCat_0, zCat_1, zCat_3, zCat_4, zLay_4, List.nil_append, List.cons_append, List.replicate_succ, List.replicate_zero, zTy_0, zTy_b0, zTy_1, zTy_3, zTy_3n, zTy_4, and_true, true_and, Option.bind_some, zNul_n, zNul_r, List.getElem?_cons_zero, List.getElem?_cons_succ, Int.add_zero, zTv_B, zTy_B, b_and, b_or, b_andn, b_not, b_shl, b_cmp, b_cmp0, b_cmp0l, b_eq0, b_eq1, zs_2, zl_21, zl_22, gf_s, gf_l, pf_s, pf_l, zl_z, zs_z, nA, and_self, Nat.le_refl, Option.some.injEq, eq_self, Nat.reduceAdd, Nat.reduceSub, tg_m, mf_0, mf_1, mf_2, mf_3, mf_4, mf_5, mf_6, mf_7, mf_8, mf_9, mp_10, mf_10, mp_11, mf_11, mp_12, mf_12, mp_13, mf_13, mp_14, mf_14, mf_15, mf_16, mp_17, mf_17, mf_18, mf_19, mp_20, mf_20, mp_21, mf_21, mf_22, mp_23, mf_23, mp_24, mf_24, mf_25, mp_26, mf_26, ax_1, asa_1, aso_1, ax_2, asa_2, aso_2, ax_3, asa_3, aso_3, ax_4, asa_4, aso_4, ax_5, asa_5, aso_5, ax_6, asa_6, aso_6, ax_7, asa_7, aso_7, ax_8, asa_8, aso_8, ax_9, asa_9, aso_9, ax_10, asa_10, aso_10, ax_11, asa_11, aso_11, ax_12, asa_12, aso_12, ax_13, asa_13, aso_13, ax_14, asa_14, aso_14, ax_15, asa_15, aso_15, ax_16, asa_16, aso_16, hp_2, us_s, us_k, us_j, us_r, S_Mo_jetsOf, y1, y2]
        simp (disch := first | assumption | omega | exact zTy_0 | exact zTy_3 | exact zTy_3n | exact zTy_1 | exact zTy_B | exact zTy_b0 | exact zTy_4 | exact zEl_n | exact zEz4 | exact zEz9 | exact hz _ _ | exact hz2 _ _ | exact zI0 | exact zI1 | exact zI2 | exact zI3 | exact zI4 | exact zI5 | exact zI6 | exact zI7 | exact zI8 | exact zI9 | exact zI10 | (simp only [zl_21, zl_22, zs_2, ne_eq]; omega) | ((repeat (refine Eq.trans (us_r (by decide)) ?_)); assumption) | ((simp (decide := true) only [us_k, us_s]); omega)) only [↓rKi, ↓rKl, ↓rKn, ↓rKd, ↓rL, ↓r2, ↓r1, ↓rC2, ↓rC1, ↓rCn, ↓rNot, ↓rAnd, ↓rOr, ↓rCi, ↓rBx, ↓rIte, ↓rGf, ↓rLen, ↓rAx, ↓rNa, ↓rA0, ↓rA1, ↓rCs, ↓rCv, ↓rAn, ↓rNew, ↓rSeq, ↓rSkip, ↓rBrk, ↓rCnt, ↓rRetV, ↓rAsg, ↓rRet, ↓rIf, ↓rPf, ↓rPfo, ↓rAs, ↓rAso, ↓rDo, ↓rObj, ↓rBl, ↓rSw, ↓rCopy, ↓zSq_0, ↓zSq_r, ↓zSq_1, ↓zSq_2, ↓zBq_l, ↓zBq_r, ↓zWq_0, ↓zWq_1, ↓zWq_2, ↓zWq_r, ↓zLo_0, ↓zLo_1, ↓zLo_2, ↓zLo_r, ↓zLt_0, ↓rTr, ↓zFin_s, ↓zFin_n, wX_r, wO_s, wI_t, wI_f, zLk_0, zLk_s, zTv_vi, zTv_vb, zTv_vl, zTv_d, zTv_r, zTv_n, zTv_4, zTo_s, zCl_n, zCl_0, zCl_s, Int32.reduceToInt, Int64.reduceToInt, e_add, e_sub, e_mul, e_neg, e_ladd, e_lsub, e_lmul, e_lneg, q_0, q_1, q_2, q_3, q_4, q_5, q_b0, q_b1, p_0, p_1, p_2, p_3, p_4, p_5, p_b0, p_b1, e_lcmp, pl_0, pl_1, pl_2, pl_3, pl_4, pl_5, e_i2l, e_l2i, e_idiv, e_irem, e_ldiv, e_lrem, List.set_cons_zero, List.set_cons_succ, List.getD_cons_zero, List.getD_cons_succ, List.getD_nil, dT, dF, decide_true, decide_false, not_true_eq_false, not_false_eq_true, Bool.not_true, Bool.not_false, zLay_1, zLay_c1, zLay_c2, zLay_n, zWds_n, zWds_c, zCat_0, zCat_1, zCat_3, zCat_4, zLay_4, List.nil_append, List.cons_append, List.replicate_succ, List.replicate_zero, zTy_0, zTy_b0, zTy_1, zTy_3, zTy_3n, zTy_4, and_true, true_and, Option.bind_some, zNul_n, zNul_r, List.getElem?_cons_zero, List.getElem?_cons_succ, Int.add_zero, zTv_B, zTy_B, b_and, b_or, b_andn, b_not, b_shl, b_cmp, b_cmp0, b_cmp0l, b_eq0, b_eq1, zs_2, zl_21, zl_22, gf_s, gf_l, pf_s, pf_l, zl_z, zs_z, nA, and_self, Nat.le_refl, Option.some.injEq, eq_self, Nat.reduceAdd, Nat.reduceSub, tg_m, mf_0, mf_1, mf_2, mf_3, mf_4, mf_5, mf_6, mf_7, mf_8, mf_9, mp_10, mf_10, mp_11, mf_11, mp_12, mf_12, mp_13, mf_13, mp_14, mf_14, mf_15, mf_16, mp_17, mf_17, mf_18, mf_19, mp_20, mf_20, mp_21, mf_21, mf_22, mp_23, mf_23, mp_24, mf_24, mf_25, mp_26, mf_26, ax_1, asa_1, aso_1, ax_2, asa_2, aso_2, ax_3, asa_3, aso_3, ax_4, asa_4, aso_4, ax_5, asa_5, aso_5, ax_6, asa_6, aso_6, ax_7, asa_7, aso_7, ax_8, asa_8, aso_8, ax_9, asa_9, aso_9, ax_10, asa_10, aso_10, ax_11, asa_11, aso_11, ax_12, asa_12, aso_12, ax_13, asa_13, aso_13, ax_14, asa_14, aso_14, ax_15, asa_15, aso_15, ax_16, asa_16, aso_16, hp_2, us_s, us_k, us_j, us_r, C_Mo_apart_1, B_Mo_apart_1, T_Mo_apart_1, jt]
        refine ⟨gSet l rad pw (tS (s1 1) (371 + 521 * t) 0 14), s3', orS v (371 + 521 * t5 + 481) N, ⟨g0, ⟨by rw [f0, l10], f2, f3, f4⟩, fun j j0 j1 => ?_⟩, p1, fun j hj h2 => ?_, ?_, ?_, ag, w55, fun j j0 j1 => w11 j j0 j1, rfl, rfl⟩
        · rw [f5 3 (by decide), f5 4 (by decide), f5 5 (by decide), f5 6 (by decide), f5 7 (by decide), f5 8 (by decide)]
          exact lr j j0 j1
        · rw [w1 j (by omega) (by omega), z2 j hj h2, x1]
        · rw [w1 7 (by omega) (by omega), z3, x1]
        · rw [wq 2 (by decide), z1 2 (by decide), x2]
  obtain ⟨r1, h', ek, S0, s3, s9, y1, y2, y3, y4, y5, y6, y7, y8, rfl, rfl⟩ := key
  exact ⟨S0, s3, s9, y1, y2, y3, y4, y5, y6, y7, y8, ek⟩
end
