/-! TRACKS CHANGE: track, move, weigh, drop -/
section
variable {G : zG} {h h1 HT : zHp} {x m pp ip st pe pt pk : Nat} {s s1 s2 : Nat → Int → Int} {r : zHp} {f f2 : Int → Int} {fe ft fk fe2 ft2 fk2 : Int → Value}
theorem StN_at {B : Nat} (q : StO G st f pe pt pk fe ft fk) (hG : ∀ a o, G a = some o → a < h.2.1) (hB : h.2.1 ≤ B) (hB2 : B + 3 < h1.2.1) (x0 : h1.1 B = some (5, [vi (f2 2), vi (f2 3), vi (f2 4), vi (f2 6), vi (f2 5), .ref (B + 1), .ref (B + 1 + 1), .ref (B + 1 + 1 + 1)])) (x1 : h1.1 (B + 1) = some (68, ar 3 fe2)) (x2 : h1.1 (B + 1 + 1) = some (69, ar 4 ft2)) (x3 : h1.1 (B + 1 + 1 + 1) = some (73, ar 4 fk2))
    (bd : (1 ≤ f2 2 ∧ f2 2 ≤ 200) ∧ (-1 ≤ f2 3 ∧ f2 3 ≤ 1) ∧ (f2 4 = 0 ∨ f2 4 = 1) ∧ (0 ≤ f2 6 ∧ f2 6 < 30091) ∧ (0 ≤ f2 5 ∧ f2 5 < 3) ∧ (0 ≤ f2 7 ∧ f2 7 < 16))
    (he : ∀ e, 0 ≤ e → e < 3 → (fe2 e = fe e ∧ ∀ i, 0 ≤ i → i < 121 → f2 (8 + 121 * e + i) = f (8 + 121 * e + i)) ∨ ∃ a, fe2 e = .ref a ∧ EvAt (gX G h h1) a f2 (8 + 121 * e))
    (ht : ∀ t, 0 ≤ t → t < 4 → (ft2 t = ft t ∧ bit (f2 7) t = bit (f 7) t ∧ ∀ i, 371 + 521 * t ≤ i → i < 371 + 521 * t + 521 → f2 i = f i) ∨ (bit (f2 7) t = 0 ∧ ft2 t = .null) ∨ (bit (f2 7) t = 1 ∧ ∃ a, ft2 t = .ref a ∧ TrAt (gX G h h1) a (tS f2 (371 + 521 * t))))
    (hc : ∀ c, 0 ≤ c → c < 4 → (fk2 c = fk c ∧ ∀ i, 2455 + 81 * c ≤ i → i < 2455 + 81 * c + 81 → f2 i = f i) ∨ (f2 (2455 + 81 * c) = 0 ∧ fk2 c = .null) ∨ ∃ a k fs, fk2 c = .ref a ∧ CuO (gX G h h1) a f2 (2455 + 81 * c) k fs) : StAt (gX G h h1) B f2 := by
  have le : gLe G (gX G h h1) := gX_le hG
  obtain ⟨-, -, -, d, e, k⟩ := q
  refine ⟨B + 1, B + 1 + 1, B + 1 + 1 + 1, fe2, ft2, fk2, by rw [gX_n hB (by omega)]; exact x0, bd, ⟨by rw [gX_n (by omega) (by omega)]; exact x1, by rw [gX_n (by omega) (by omega)]; exact x2, by rw [gX_n (by omega) (by omega)]; exact x3⟩, fun i i0 i1 => ?_, fun t t0 t1 => ?_, fun c c0 c1 => ?_⟩
  · rcases he i i0 i1 with ⟨q1, q2⟩ | q
    · obtain ⟨w, w1, w2⟩ := d i i0 i1
      exact ⟨w, q1.trans w1, EvAt_ext q2 (EvAt_mono le w2)⟩
    · exact q
  · rcases ht t t0 t1 with ⟨q1, q2, q3⟩ | q | q
    · rw [q1, q2]
      rcases e t t0 t1 with w | ⟨w, w1, w2, w3⟩
      · exact Or.inl w
      · exact Or.inr ⟨w, w1, w2, TrAt_ext (fun n hn hk => tS_ext n hn (fun j a b => q3 j a b) hk) (TrAt_mono le w3)⟩
    · exact Or.inl q
    · exact Or.inr q
  · rcases hc c c0 c1 with ⟨q1, q2⟩ | q | q
    · rw [q1]
      rcases k c c0 c1 with ⟨w, w'⟩ | ⟨w, u, fs, w1, w2⟩
      · exact Or.inl ⟨by rw [q2 _ (by omega) (by omega)]; exact w, w'⟩
      · exact Or.inr ⟨w, u, fs, w1, CuO_ext (fun j a b => q2 j a b) (CuO_mono le w2)⟩
    · exact Or.inl q
    · exact Or.inr q
/-- a state with other tracks, at the end of a heap -/
def evH (HT : zHp) (v : Nat → Int) (fe ft fk : Int → Value) (hd : Int) (trk : Nat) : zHp := zAl (stN HT v (up fe hd (.ref (HT.2.1 + 4))) ft fk) 1 (2, [.ref trk])
theorem evH_2 {v : Nat → Int} {hd : Int} {trk : Nat} : (evH HT v fe ft fk hd trk).2.1 = HT.2.1 + 5 ∧ (evH HT v fe ft fk hd trk).2.2 = HT.2.2 + 20 := ⟨rfl, rfl⟩
theorem evH_o {v : Nat → Int} {hd : Int} {trk a : Nat} (ha : a < HT.2.1) : (evH HT v fe ft fk hd trk).1 a = HT.1 a := by
  unfold evH
  rw [zl_n (by rw [stN_2.1]; omega), stN_o ha]
theorem c_withTracks {trk : Nat} (q : StO G st f pe pt pk fe ft fk) (hG : ∀ a o, G a = some o → HT.1 a = some o ∧ a < HT.2.1) : F_St_withTracks [.ref st, .ref trk] HT = some (some (.ref HT.2.1), evH HT (v5 f) fe ft fk (f 5) trk) := by
  have q' := q
  obtain ⟨a, b, -⟩ := q
  obtain ⟨a, ha⟩ := hG _ _ a
  have b5 := b.2.2.2.2.1
  have si := fun v0 v1 v2 v3 v4 v5' v6 v7 => c_stInit (h := HT) (v0 := v0) (v1 := v1) (v2 := v2) (v3 := v3) (v4 := v4) (v5' := v5') (v6 := v6) (v7 := v7) q' hG
  have ei := fun v0 => c_evInit (h := stN HT (v5 f) fe ft fk) (trk := trk) (v0 := v0)
  have st0 : ∀ o, (zAl (stN HT (v5 f) fe ft fk) 1 o).1 HT.2.1 = _ := fun o => (zl_n (by rw [stN_2.1]; omega)).trans stN_0
  have sto : ∀ o, (zAl (stN HT (v5 f) fe ft fk) 1 o).1 st = _ := fun o => (zl_n (by rw [stN_2.1]; omega)).trans ((stN_o ha).trans a)
  have sN : (stN HT (v5 f) fe ft fk).1 st = _ := (stN_o ha).trans a
  have s1' : ∀ o, (zAl (stN HT (v5 f) fe ft fk) 1 o).1 (HT.2.1 + 1) = some (68, ar 3 fe) := fun o => (zl_n (by rw [stN_2.1]; omega)).trans stN_1
  have el : zEl (zAl (stN HT (v5 f) fe ft fk) 1 (2, [.ref trk])) (some 2) (.ref (HT.2.1 + 4)) = true := by
    have : (zAl (stN HT (v5 f) fe ft fk) 1 (2, [.ref trk])).1 (HT.2.1 + 4) = some (2, [.ref trk]) := zl_s
    simp [zEl, this]
  have n21 : (stN HT (v5 f) fe ft fk).2.1 = HT.2.1 + 4 := rfl
  rw [n21] at ei
  have ss : zStv 3 68 (some 2) (zAl (stN HT (v5 f) fe ft fk) 1 (2, [.ref trk])) (.ref (HT.2.1 + 1)) (vi (f 5)) (.ref (HT.2.1 + 4)) = some (evH HT (v5 f) fe ft fk (f 5) trk) := by
    rw [g_set (s1' _) b5.1 b5.2 (by decide) rfl el, al_st (by rw [n21]; omega)]
    unfold evH
    refine congrArg (fun z => some (zAl z 1 (2, [.ref trk]))) ?_
    have := stN_se (h := HT) (v := v5 f) (fe := fe) (ft := ft) (fk := fk) (c := none) (i := f 5) (y := .ref (HT.2.1 + 4)) b5.1 b5.2 rfl rfl
    rw [g_set stN_1 b5.1 b5.2 (by decide) rfl rfl] at this
    exact Option.some.inj this
  have st68 : zStK 68 = (3, some 2) := rfl
  have st0' : (stN HT (v5 f) fe ft fk).1 HT.2.1 = _ := stN_0
  refine zMeq rfl ?_
  simp (disch := first | assumption | omega | exact zTy_0 | exact zTy_3 | exact zTy_3n | exact zTy_1 | exact zTy_B | exact zTy_b0 | exact zTy_4 | exact zEl_n | exact zEz4 | exact zEz9 | exact hz _ _ | exact hz2 _ _ | exact zI0 | exact zI1 | exact zI2 | exact zI3 | exact zI4 | exact zI5 | exact zI6 | exact zI7 | exact zI8 | exact zI9 | exact zI10 | (simp only [zl_21, zl_22, zs_2, ne_eq]; omega) | ((repeat (refine Eq.trans (us_r (by decide)) ?_)); assumption) | ((simp (decide := true) only [us_k, us_s]); omega)) only [↓rKi, ↓rKl, ↓rKn, ↓rKd, ↓rL, ↓r2, ↓r1, ↓rC2, ↓rC1, ↓rCn, ↓rNot, ↓rAnd, ↓rOr, ↓rCi, ↓rBx, ↓rIte, ↓rGf, ↓rLen, ↓rAx, ↓rNa, ↓rA0, ↓rA1, ↓rCs, ↓rCv, ↓rAn, ↓rNew, ↓rSeq, ↓rSkip, ↓rBrk, ↓rCnt, ↓rRetV, ↓rAsg, ↓rRet, ↓rIf, ↓rPf, ↓rPfo, ↓rAs, ↓rAso, ↓rDo, ↓rObj, ↓rBl, ↓rSw, ↓rCopy, ↓zSq_0, ↓zSq_r, ↓zSq_1, ↓zSq_2, ↓zBq_l, ↓zBq_r, ↓zWq_0, ↓zWq_1, ↓zWq_2, ↓zWq_r, ↓zLo_0, ↓zLo_1, ↓zLo_2, ↓zLo_r, ↓zLt_0, ↓rTr, ↓zFin_s, ↓zFin_n, wX_r, wO_s, wI_t, wI_f, zLk_0, zLk_s, zTv_vi, zTv_vb, zTv_vl, zTv_d, zTv_r, zTv_n, zTv_4, zTo_s, zCl_n, zCl_0, zCl_s, Int32.reduceToInt, Int64.reduceToInt, e_add, e_sub, e_mul, e_neg, e_ladd, e_lsub, e_lmul, e_lneg, q_0, q_1, q_2, q_3, q_4, q_5, q_b0, q_b1, p_0, p_1, p_2, p_3, p_4, p_5, p_b0, p_b1, e_lcmp, pl_0, pl_1, pl_2, pl_3, pl_4, pl_5, e_i2l, e_l2i, e_idiv, e_irem, e_ldiv, e_lrem, List.set_cons_zero, List.set_cons_succ, List.getD_cons_zero, List.getD_cons_succ, List.getD_nil, dT, dF, decide_true, decide_false, not_true_eq_false, not_false_eq_true, Bool.not_true, Bool.not_false, zLay_1, zLay_c1, zLay_c2, zLay_n, zWds_n, zWds_c, zCat_0, zCat_1, zCat_3, zCat_4, zLay_4, List.nil_append, List.cons_append, List.replicate_succ, List.replicate_zero, zTy_0, zTy_b0, zTy_1, zTy_3, zTy_3n, zTy_4, and_true, true_and, Option.bind_some, zNul_n, zNul_r, List.getElem?_cons_zero, List.getElem?_cons_succ, Int.add_zero, zTv_B, zTy_B, b_and, b_or, b_andn, b_not, b_shl, b_cmp, b_cmp0, b_cmp0l, b_eq0, b_eq1, zs_2, zl_21, zl_22, gf_s, gf_l, pf_s, pf_l, zl_z, zs_z, nA, and_self, Nat.le_refl, Option.some.injEq, eq_self, Nat.reduceAdd, Nat.reduceSub, S_St_withTracks, si, g_fld st0', g_fld sN, st68, n21, ei, ss]
  show HT.2.1 ≤ HT.2.1 + 5 ∧ HT.2.2 ≤ HT.2.2 + 20
  omega
/-- what it says: the tracks of the event in hand are others -/
theorem ev_at {v : Nat → Int} {trk n : Nat} {fb : Int → Value} {ba : Int → Nat} (q : StO G st f pe pt pk fe ft fk) (hG : ∀ a o, G a = some o → a < h.2.1) (r0 : h.2.1 ≤ trk ∧ trk < HT.2.1) (hv : v 0 = f2 2 ∧ v 1 = f2 3 ∧ v 2 = f2 4 ∧ v 3 = f2 6 ∧ v 4 = f2 5) (h5 : f2 5 = f 5) (hx6 : 0 ≤ f2 6 ∧ f2 6 < 30091) (hn : f2 (8 + 121 * f 5) = n ∧ n ≤ 40) (htr : HT.1 trk = some (67, ar n fb)) (hb : ∀ i : Int, 0 ≤ i → i < n → (fb i = .ref (ba i) ∧ (gX G h HT (ba i) = some (0, [vi i, vi (eT f2 (8 + 121 * f 5) i 0), vi (eT f2 (8 + 121 * f 5) i 1), vi (eT f2 (8 + 121 * f 5) i 2)]))) ∧ (-200 ≤ eT f2 (8 + 121 * f 5) i 0 ∧ eT f2 (8 + 121 * f 5) i 0 ≤ 200) ∧ (0 ≤ eT f2 (8 + 121 * f 5) i 1 ∧ eT f2 (8 + 121 * f 5) i 1 < 360) ∧ (1 ≤ eT f2 (8 + 121 * f 5) i 2 ∧ eT f2 (8 + 121 * f 5) i 2 ≤ 9999)) (same : ∀ j, 2 ≤ j → j < 2779 → j ≠ 6 → (j < 8 + 121 * f 5 ∨ 8 + 121 * f 5 + 121 ≤ j) → f2 j = f j) (hle : h.2.1 ≤ HT.2.1) : StAt (gX G h (evH HT v fe ft fk (f 5) trk)) HT.2.1 f2 := by
  have q' := q
  obtain ⟨a, b, -⟩ := q
  have b5 := b.2.2.2.2.1
  have e2 := evH_2 (HT := HT) (v := v) (fe := fe) (ft := ft) (fk := fk) (hd := f 5) (trk := trk)
  have gle : ∀ a o, a < HT.2.1 → gX G h HT a = some o → gX G h (evH HT v fe ft fk (f 5) trk) a = some o := fun a o ha z => by
    unfold gX at z ⊢
    by_cases c : a < h.2.1
    · rw [if_pos c] at z ⊢; exact z
    · rw [if_neg c] at z ⊢
      rw [if_pos ha] at z
      rw [if_pos (by omega), evH_o ha]
      exact z
  refine StN_at q' hG hle (by omega) ?_ (fe2 := up fe (f 5) (.ref (HT.2.1 + 4))) (ft2 := ft) (fk2 := fk) ?_ ?_ ?_ ?_ (fun e e0 e1 => ?_) (fun t t0 t1 => Or.inl ⟨rfl, ?_, fun i i0 i1 => same i (by omega) (by omega) (by omega) (by omega)⟩) (fun c c0 c1 => Or.inl ⟨rfl, fun i i0 i1 => same i (by omega) (by omega) (by omega) (by omega)⟩)
  · unfold evH
    rw [zl_n (by rw [stN_2.1]; omega), stN_0, hv.1, hv.2.1, hv.2.2.1, hv.2.2.2.1, hv.2.2.2.2]
  · unfold evH
    rw [zl_n (by rw [stN_2.1]; omega), stN_1]
  · unfold evH
    rw [zl_n (by rw [stN_2.1]; omega), stN_t]
  · unfold evH
    rw [zl_n (by rw [stN_2.1]; omega), stN_k]
  · rw [same 2 (by decide) (by decide) (by decide) (by omega), same 3 (by decide) (by decide) (by decide) (by omega), same 4 (by decide) (by decide) (by decide) (by omega), same 7 (by decide) (by decide) (by decide) (by omega), h5]
    exact ⟨b.1, b.2.1, b.2.2.1, hx6, b5, b.2.2.2.2.2⟩
  · by_cases z : e = f 5
    · subst z
      refine Or.inr ⟨HT.2.1 + 4, up_s, n, trk, fb, ba, hn, ?_, ?_, fun i i0 i1 => ?_⟩
      · rw [gX_n (by omega) (by omega)]
        exact zl_s
      · rw [gX_n r0.1 (by omega), evH_o r0.2, htr]
      · have y := hb i i0 i1
        refine ⟨⟨y.1.1, gle _ _ ?_ y.1.2⟩, y.2⟩
        have := y.1.2
        unfold gX at this
        by_cases c : ba i < h.2.1
        · omega
        · rw [if_neg c] at this
          by_cases d : ba i < HT.2.1
          · exact d
          · rw [if_neg d] at this; cases this
    · exact Or.inl ⟨up_n z, fun i i0 i1 => same _ (by omega) (by omega) (by omega) (by omega)⟩
  · rw [same 7 (by decide) (by decide) (by decide) (by omega)]
/-- calls that take a step -/
theorem pair_s {Fc Fm : zMt} {as : List Value} (q : ∀ x m h s G st pp im ip fp fi, WO G x m h s st pp im ip fp fi → (∃ w : Int, Fc (.ref x :: as) h = some (some (vi w), h) ∧ Fm (.ref m :: as) (hp m s h) = some (some (vi w), hp m s h)) ∨ ∃ (w : Int) (st2 : Nat) (h1 : zHp) (s1 s2 : Nat → Int → Int), ((∀ a, a < h.2.1 → h1.1 a = h.1 a) ∧ rs h h1) ∧ StAt (gX G h h1) st2 (s2 1) ∧ kpR s s1 ∧ (∀ j, (j < 2 ∨ 2779 ≤ j) → s2 1 j = s1 1 j) ∧ s2 2 = s 2 ∧ ((∀ h2, F_JT_takeStep [.ref x, .ref st2] h1 = some (none, h2) → h1.2 = h2.2 → Fc (.ref x :: as) h = some (some (vi w), h2))) ∧ ∀ r, Fm (.ref m :: as) (hp m s r) = some (some (vi w), hp m s2 r)) : PairI Fc Fm as := by
  intro x m h s wi
  obtain ⟨G, st, pp, im, ip, fp, fi, wo⟩ := wi
  rcases q x m h s G st pp im ip fp fi wo with ⟨w, e1, e2⟩ | ⟨w, st2, h1, s1, s2, ⟨x1, x2⟩, x3, x4, x5, x6, x7, x8⟩
  · have wi : WI x m h s := ⟨G, st, pp, im, ip, fp, fi, wo⟩
    have mm := WI_m wi
    rw [← mm.1] at e2
    exact ⟨_, h, _, s, e1, e2, mm.2, wi, rs_rf, fr_rf, fr_rf⟩
  · have stp := WI_step wo x1 x2.1.1 x3 x4 (fun j _ _ => rfl) x5 x6
    obtain ⟨⟨a1, a2⟩, -, ⟨c1, c2, c3, c4, c5, c6⟩, d, ⟨f1, f1'⟩, -⟩ := wo
    have fc := x7 _ stp.1 rfl
    have hm : h1 = hp m s h1 := eq_hp fun k hk => by rw [x1 _ (by omega)]; exact hp_eq a1 k hk
    have w2 := stp.2 s hm
    generalize hh2 : zSet (zSet h1 pp (70, ar 20 (fpN fp (s 1 0) st))) x (10, [.ref st2, .ref pp, vi (pcN (s 1 0)), .ref im, .ref ip, vi (s 2 0)]) = h2 at *
    have hm2 : h2 = hp m s h2 := eq_hp fun k hk => by
      rw [← hh2, zs_n (by omega), zs_n (by omega), x1 _ (by omega)]; exact hp_eq a1 k hk
    have f2 := x8 h2
    rw [← hm2] at f2
    refine ⟨_, h2, _, s2, fc, f2, ?_, w2, ?_, fr2_of a1 d f1 f1' fun a ha n1 n2 _ _ => by rw [← hh2, zs_n n1, zs_n n2, x1 a ha]⟩
    · have := hp_eq hm2 0 (by decide)
      rw [Nat.add_zero] at this
      rw [this]; rfl
    · have : h2.2 = h1.2 := by rw [← hh2]; rfl
      unfold rs
      show (h.2.1 ≤ h2.2.1 ∧ h2.2.1 ≤ _) ∧ h.2.2 ≤ h2.2.2 ∧ h2.2.2 ≤ _
      rw [this]
      exact x2
end
