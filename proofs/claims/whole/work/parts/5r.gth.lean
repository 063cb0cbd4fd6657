/-! GATHER -/
section
variable {G : zG} {h h1 : zHp} {x m pp ip st im : Nat} {s s1 s2 : Nat → Int → Int} {r : zHp} {fp fi : Int → Value}
def gB (G : zG) (h : zHp) : zG := fun a => if a < h.2.1 ∧ (h.1 a).map (fun o => o.1) = some 0 then h.1 a else G a
theorem gB_0 {a : Nat} {vs : List Value} (ha : a < h.2.1) (e : h.1 a = some (0, vs)) : gB G h a = some (0, vs) := by
  unfold gB
  rw [if_pos ⟨ha, by rw [e]; rfl⟩, e]
theorem StO_mono {G' : zG} (le : gLe G G') {f : Int → Int} {pe pt pk : Nat} {fe ft fk : Int → Value} (so : StO G st f pe pt pk fe ft fk) : StO G' st f pe pt pk fe ft fk := by
  obtain ⟨a, b, ⟨c1, c2, c3⟩, d, e, k⟩ := so
  refine ⟨le _ _ a, b, ⟨le _ _ c1, le _ _ c2, le _ _ c3⟩, fun i x y => ?_, fun i x y => ?_, fun i x y => ?_⟩
  · obtain ⟨w, w1, w2⟩ := d i x y
    exact ⟨w, w1, EvAt_mono le w2⟩
  · rcases e i x y with q | ⟨q, w, w1, w2⟩
    · exact Or.inl q
    · exact Or.inr ⟨q, w, w1, TrAt_mono le w2⟩
  · rcases k i x y with q | ⟨w, u, fs, w1, w2⟩
    · exact Or.inl q
    · exact Or.inr ⟨w, u, fs, w1, CuO_mono le w2⟩
theorem gB_le (w : WO G x m h s st pp im ip fp fi) : gLe G (gB G h) := fun a o q => by
  unfold gB
  split
  · exact (w.2.1 a o q).1
  · exact q
theorem tf_ok8 {n : Nat} {T gh : Nat → Int → Int} {L : Int → BitVec 64} {J : Int → Int} (tf : TF n T gh L J) : ∀ k, 0 ≤ k → k < T 0 10 → T 8 k = 0 := fun k k0 k1 => by
  obtain ⟨⟨g1, g2, g3, g4, g5, g6, g7, g8⟩, -⟩ := tf
  have nn : ∀ i : Int, 0 ≤ i → i < (T 0 10).toNat → 0 ≤ T 8 i := fun i i0 i1 => by
    have := g6 i i0 (by omega)
    omega
  exact isum_0 nn (by rw [g7]; omega) k k0 (by omega)
theorem WO_body (w : WO G x m h s st pp im ip fp fi) : WO (gB G h) x m h s st pp im ip fp fi := by
  obtain ⟨⟨a1, a2⟩, b, ⟨c1, c2, c3, c4⟩, d, ⟨f1, f2⟩, g1, g2, ⟨p1, p3, p4⟩, ⟨q1, q3, q4⟩⟩ := w
  have le : gLe G (gB G h) := fun a o q => by
    unfold gB
    split
    · exact (b a o q).1
    · exact q
  have SOm : ∀ v, SO G v → SO (gB G h) v := fun v q => by
    rcases q with q | ⟨a, vs, q1, q2⟩
    · exact Or.inl q
    · exact Or.inr ⟨a, vs, q1, le _ _ q2⟩
  refine ⟨⟨a1, a2⟩, fun a o q => ?_, ⟨c1, c2, c3, c4⟩, d, ⟨f1, f2⟩, StAt_mono le g1, StAt_mono le g2, ⟨p1, fun i i0 i1 => ?_, fun i i0 i1 => SOm _ (p4 i i0 i1)⟩, ⟨q1, fun i i0 i1 => ?_, fun i i0 i1 => SOm _ (q4 i i0 i1)⟩⟩
  · unfold gB at q
    by_cases c : a < h.2.1 ∧ (h.1 a).map (fun o => o.1) = some 0
    · rw [if_pos c] at q
      obtain ⟨k0, k1⟩ := c
      refine ⟨q, k0, fun z => ?_, fun z => ?_, fun z => ?_, ?_⟩
      · rw [z, d] at k1; exact absurd k1 (by simp)
      · rw [z, f1] at k1; exact absurd k1 (by simp)
      · rw [z, f2] at k1; exact absurd k1 (by simp)
      · by_cases z : m ≤ a ∧ a < m + 17
        · obtain ⟨j, rfl⟩ : ∃ j, a = m + j := ⟨a - m, by omega⟩
          rw [hp_eq a1 j (by omega)] at k1
          have hj : j < 17 := by omega
          have key : ∀ j : Fin 17, (zMk m s j.1).map (fun o => o.1) ≠ some 0 := fun j => by
            match j with
            | ⟨0, _⟩ | ⟨1, _⟩ | ⟨2, _⟩ | ⟨3, _⟩ | ⟨4, _⟩ | ⟨5, _⟩ | ⟨6, _⟩ | ⟨7, _⟩ | ⟨8, _⟩ | ⟨9, _⟩ | ⟨10, _⟩ | ⟨11, _⟩ | ⟨12, _⟩ | ⟨13, _⟩ | ⟨14, _⟩ | ⟨15, _⟩ | ⟨16, _⟩ => exact fun z => by cases z
            | ⟨j + 17, hj⟩ => exact absurd hj (by omega)
          exact absurd k1 (key ⟨j, hj⟩)
        · omega
    · rw [if_neg c] at q
      exact b a o q
  · obtain ⟨a, y1, y2⟩ := p3 i i0 i1
    exact ⟨a, y1, StAt_mono le y2⟩
  · obtain ⟨a, y1, y2⟩ := q3 i i0 i1
    exact ⟨a, y1, StAt_mono le y2⟩
theorem sStep_5 {k e i : Int} (i1 : i < s 0 10) : sStep s k e 5 i = s 5 i ∧ s 0 10 ≤ sStep s k e 0 10 := by
  by_cases he : e = -1
  · simp [sStep, he, us]
  · have : i ≠ s 0 10 := by omega
    by_cases c : s 0 14 = 1 <;> simp [sStep, he, sJoin, sCome, us, c, this] <;> omega
theorem gRun_5 {i : Int} : ∀ {n : Nat} {s s2 : Nat → Int → Int}, i < s 0 10 → gRun n s s2 → s2 5 i = s 5 i
  | 0, s, s2, _, h => by
    have h : s2 = s := h
    rw [h]
  | n + 1, s, s2, i1, h => by
    obtain ⟨k, e, -, h⟩ := h
    have y := sStep_5 (k := k) (e := e) i1
    rw [gRun_5 (by omega) h, y.1]
theorem tf_GC {B n : Nat} {s2 gh : Nat → Int → Int} {L : Int → BitVec 64} {gi : Nat → Int} {ga : Nat → Int → Value} {rz : zHp} {op J : Int → Int} {ka ba sa : Int → Nat} (n1 : 1 ≤ n) (c : GC B n n s2 gh L gi ga rz op J ka ba sa) : TF n s2 gh L J ∧ gi 7 = 2 * n - s2 0 10 := by
  obtain ⟨⟨c1, c2, c3⟩, ⟨c4, c5, c6, c7, c8⟩, c9, c10, -⟩ := c
  obtain ⟨-, -, -, -, xe, -⟩ := id c2
  have xe' : s2 0 10 = n + jn s2 n := xe
  have e : gi 7 = 2 * n - s2 0 10 := by omega
  rw [e] at c10
  exact ⟨⟨c1, c2, c10, n1, c3⟩, e⟩
/-- what the gatherer left is a tree -/
theorem TrAt_GC {tr n : Nat} {rad pw sm : Int} {s2 gh T : Nat → Int → Int} {L : Int → BitVec 64} {gi : Nat → Int} {ga : Nat → Int → Value} {rz : zHp} {op J : Int → Int} {ka ba sa : Int → Nat} (n1 : 1 ≤ n) (c : GC h.2.1 n n s2 gh L gi ga rz op J ka ba sa) (hs : s2 0 12 = rad ∧ s2 0 13 = pw ∧ s2 0 14 = sm) (fr : ∀ a, a < h.2.1 → rz.1 a = h.1 a) (e1 : ∀ a, h.2.1 ≤ a → a < rz.2.1 → h1.1 a = (bg h.2.1 tr n rad pw sm gi ga rz).1 a) (r1' : rz.2.1 ≤ h1.2.1) (w5 : ∀ k : Int, 0 ≤ k → k < n → s2 5 k ≤ 9999) (ag : agr n s2 T) (t5 : T 0 5 = 0) : TrAt (gX (gB G h) h h1) (h.2.1 + 1) T := by
  obtain ⟨tf, g7⟩ := tf_GC n1 c
  have nj := tf_jets tf
  have ge : (n : Int) ≤ s2 0 10 := tf.1.2.2.1.1
  obtain ⟨-, ⟨c4, c5, c6, c7, c8⟩, -, -, ⟨kn, -, sn, B8⟩, b0, b1, b2, -⟩ := c
  have ag' := ag
  obtain ⟨a1, b1', c1'⟩ := ag
  have e10 := a1 10 (by decide) (by decide)
  have at' : ∀ k, k < 8 → gX (gB G h) h h1 (h.2.1 + k) = bgMk h.2.1 tr n rad pw sm gi ga k := fun k hk => by
    rw [gX_n (by omega) (by omega), e1 _ (by omega) (by omega), bg_at k hk]
  have ou : ∀ a o, h.2.1 + 8 ≤ a → a < rz.2.1 → rz.1 a = o → gX (gB G h) h h1 a = o := fun a o h2 h3 e => by
    rw [gX_n (by omega) (by omega), e1 _ (by omega) h3, bg_out (Or.inr h2), e]
  refine ⟨n, gh, L, J, h.2.1 + 2, h.2.1 + 3, h.2.1 + 4, h.2.1 + 5, ga 0, ga 1, ga 2, ga 4, 0, ka, ba, sa, TF_ext ag' tf, ?_, ⟨at' 2 (by decide), at' 3 (by decide), at' 4 (by decide), at' 5 (by decide)⟩, fun k x y => ?_, fun u x y => ?_, fun i x y => ?_, Or.inl ⟨t5, rfl⟩, fun k x y => ?_⟩
  · rw [at' 1 (by decide), a1 12 (by decide) (by decide), a1 13 (by decide) (by decide), a1 14 (by decide) (by decide), e10, hs.1, hs.2.1, hs.2.2, ← c5, show (2 : Int) * n - gi 5 = gi 7 by omega]
    show some (9, bgF1 h.2.1 tr n rad pw sm gi) = _
    unfold bgF1
    rw [c6]
  · rw [e10] at y
    obtain ⟨y1, y2, y3, y4, y5⟩ := kn k x y
    rw [(kV_agr ag' x y).1, (kV_agr (gh := gh) (L := L) (ka := ka) (ba := ba) ag' x y).2]
    refine ⟨b0 k x y, ou _ _ y2.1 y2.2 y1, ?_⟩
    rcases y4 with y4 | y4
    · rw [gX_o y4]
      rw [fr _ y4] at y3
      exact gB_0 y4 y3
    · exact ou _ _ y4 y5 y3
  · rw [sV_agr ag' tf x y]
    obtain ⟨y1, y2, y3⟩ := sn u x y
    exact ⟨b1 u x y, ou _ _ y2 y3 y1⟩
  · rw [e10] at y
    exact b2 i x (by omega)
  · rw [b1' 5 k (by decide) (by decide) x (by omega)]
    exact w5 k x y
theorem c_gatheredNow (wo : WO G x m h s st pp im ip fp fi) : ∃ (ev n tr : Nat) (fb : Int → Value) (ba : Int → Nat), EvO G ev (s 1) (8 + 121 * s 1 5) n tr fb ba ∧ ∀ S0 : Nat → Int → Int, 1 ≤ n → GI n 0 S0 → (S0 0 10 = n ∧ S0 0 12 = s 1 2 ∧ S0 0 13 = s 1 3 ∧ S0 0 14 = s 1 4) → (∀ k : Int, 0 ≤ k → k < n → (S0 3 k = mT s k 0 ∧ S0 4 k = mT s k 1 ∧ S0 5 k = mT s k 2) ∧ S0 6 k = -1 ∧ S0 7 k = -1 ∧ S0 8 k = 1) → ∃ (s2 gh2 : Nat → Int → Int) (L2 : Int → BitVec 64) (gi2 : Nat → Int) (ga2 : Nat → Int → Value) (rz : zHp) (op2 J2 : Int → Int) (ka2 ba2 sa2 : Int → Nat), gRun n S0 s2 ∧ GC h.2.1 n n s2 gh2 L2 gi2 ga2 rz op2 J2 ka2 ba2 sa2 ∧ (s2 0 12 = s 1 2 ∧ s2 0 13 = s 1 3 ∧ s2 0 14 = s 1 4) ∧ ((∀ a, a < h.2.1 → rz.1 a = h.1 a) ∧ (h.2.1 + 8 ≤ rz.2.1 ∧ rz.2.1 ≤ h.2.1 + 8 + 4 * n) ∧ h.2.2 ≤ rz.2.2 ∧ rz.2.2 ≤ h.2.2 + 23 + 28 * n) ∧ F_JT_gatheredNow [.ref x] h = some (some (.ref (h.2.1 + 1)), bg h.2.1 tr n (s 1 2) (s 1 3) (s 1 4) gi2 ga2 rz) := by
  obtain ⟨hG, ⟨rest, ex⟩, ⟨pe, pt, pk, fe, ft, fk, so⟩, ⟨ev, n, tr, fb, ba, eo, ih⟩, wi, xl, gx⟩ := WO_ev wo
  refine ⟨ev, n, tr, fb, ba, eo, fun S0 n1 g hS lay => ?_⟩
  have hG1 : ∀ a o, G a = some o → h.1 a = some o := fun a o q => (hG a o q).1
  have eoh := EvO_h eo hG1
  have ihh := ih h hG1
  have n4 := eo.1
  have bs := so.2.1
  have soh := hG1 _ _ so.1
  have hba : ∀ k : Int, 0 ≤ k → k < n → fb k = .ref (ba k) ∧ h.1 (ba k) = some (0, bV S0 k) ∧ ba k < h.2.1 := fun k k0 k1 => by
    obtain ⟨⟨y1, y2⟩, -⟩ := eo.2.2.2 k k0 k1
    obtain ⟨⟨l1, l2, l3⟩, -⟩ := lay k k0 k1
    refine ⟨y1, ?_, (hG _ _ y2).2⟩
    rw [(hG _ _ y2).1, bV, l1, l2, l3]
    rfl
  obtain ⟨s2, gh2, L2, gi2, ga2, rz, op2, J2, ka2, ba2, sa2, q1, q2, q3, q4, q5⟩ := e_gathered (tr := tr) eoh.2.2.1 (hG _ _ eo.2.2.1).2 hba n4.2 g hS.1 hS.2 (by rw [hS.2.2.2]; exact bs.2.2.1) (fun k k0 k1 => (lay k k0 k1).2)
  refine ⟨s2, gh2, L2, gi2, ga2, rz, op2, J2, ka2, ba2, sa2, q1, q2, q3, q4, zMeq rfl ?_⟩
  have tS' := fun rest => g_tag (rest := rest) soh
  have wx := fun rest => WI_x wi (rest2 := rest)
  have gi := fun v0 v1 v2 v3 v4 v5 v6 v7 v8 => e_gaInit (h := h) (tr := tr) (n := n) (rad := s 1 2) (pw := s 1 3) (sm := s 1 4) (v0 := v0) (v1 := v1) (v2 := v2) (v3 := v3) (v4 := v4) (v5 := v5) (v6 := v6) (v7 := v7) (v8 := v8) eoh.2.2.1 (hG _ _ eo.2.2.1).2 n4.2
  have exo : ∀ k o, (zAl h k o).1 x = _ := fun k o => (zl_n (by omega)).trans ex
  have soo : ∀ k o, (zAl h k o).1 st = _ := fun k o => (zl_n (by have := (hG _ _ so.1).2; omega)).trans soh
  have evo : ∀ k o, (zAl h k o).1 ev = _ := fun k o => (zl_n (by have := (hG _ _ eo.2.1).2; omega)).trans eoh.2.1
  have iho := fun k o => ih (zAl h k o) (fun a o' q => (zl_n (by have := (hG a o' q).2; omega)).trans (hG1 _ _ q))
  have tSo := fun rest k o => g_tag (rest := rest) (soo k o)
  have bt : ∀ rest gi ga r, zTgo (bg h.2.1 tr n (s 1 2) (s 1 3) (s 1 4) gi ga r) (.ref h.2.1 :: rest) 3 = some () := fun rest gi ga r => g_tag (vs := _) (by have := bg_at (B := h.2.1) (tr := tr) (n := n) (rad := s 1 2) (pw := s 1 3) (sm := s 1 4) (gi := gi) (ga := ga) (r := r) 0 (by decide); rw [Nat.add_zero] at this; exact this)
  have g2 : (gh0 h n).2 = (h.2.1 + 8, h.2.2 + (23 + 5 * n)) := rfl
  simp (disch := first | assumption | omega | exact zTy_0 | exact zTy_3 | exact zTy_3n | exact zTy_1 | exact zTy_B | exact zTy_b0 | exact zTy_4 | exact zEl_n | exact zEz4 | exact zEz9 | exact hz _ _ | exact hz2 _ _ | exact zI0 | exact zI1 | exact zI2 | exact zI3 | exact zI4 | exact zI5 | exact zI6 | exact zI7 | exact zI8 | exact zI9 | exact zI10 | (simp only [zl_21, zl_22, zs_2, ne_eq]; omega) | ((repeat (refine Eq.trans (us_r (by decide)) ?_)); assumption) | ((simp (decide := true) only [us_k, us_s]); omega)) only [↓rKi, ↓rKl, ↓rKn, ↓rKd, ↓rL, ↓r2, ↓r1, ↓rC2, ↓rC1, ↓rCn, ↓rNot, ↓rAnd, ↓rOr, ↓rCi, ↓rBx, ↓rIte, ↓rGf, ↓rLen, ↓rAx, ↓rNa, ↓rA0, ↓rA1, ↓rCs, ↓rCv, ↓rAn, ↓rNew, ↓rSeq, ↓rSkip, ↓rBrk, ↓rCnt, ↓rRetV, ↓rAsg, ↓rRet, ↓rIf, ↓rPf, ↓rPfo, ↓rAs, ↓rAso, ↓rDo, ↓rObj, ↓rBl, ↓rSw, ↓rCopy, ↓zSq_0, ↓zSq_r, ↓zSq_1, ↓zSq_2, ↓zBq_l, ↓zBq_r, ↓zWq_0, ↓zWq_1, ↓zWq_2, ↓zWq_r, ↓zLo_0, ↓zLo_1, ↓zLo_2, ↓zLo_r, ↓zLt_0, ↓rTr, ↓zFin_s, ↓zFin_n, wX_r, wO_s, wI_t, wI_f, zLk_0, zLk_s, zTv_vi, zTv_vb, zTv_vl, zTv_d, zTv_r, zTv_n, zTv_4, zTo_s, zCl_n, zCl_0, zCl_s, Int32.reduceToInt, Int64.reduceToInt, e_add, e_sub, e_mul, e_neg, e_ladd, e_lsub, e_lmul, e_lneg, q_0, q_1, q_2, q_3, q_4, q_5, q_b0, q_b1, p_0, p_1, p_2, p_3, p_4, p_5, p_b0, p_b1, e_lcmp, pl_0, pl_1, pl_2, pl_3, pl_4, pl_5, e_i2l, e_l2i, e_idiv, e_irem, e_ldiv, e_lrem, List.set_cons_zero, List.set_cons_succ, List.getD_cons_zero, List.getD_cons_succ, List.getD_nil, dT, dF, decide_true, decide_false, not_true_eq_false, not_false_eq_true, Bool.not_true, Bool.not_false, zLay_1, zLay_c1, zLay_c2, zLay_n, zWds_n, zWds_c, zCat_0, zCat_1, zCat_3, zCat_4, zLay_4, List.nil_append, List.cons_append, List.replicate_succ, List.replicate_zero, zTy_0, zTy_b0, zTy_1, zTy_3, zTy_3n, zTy_4, and_true, true_and, Option.bind_some, zNul_n, zNul_r, List.getElem?_cons_zero, List.getElem?_cons_succ, Int.add_zero, zTv_B, zTy_B, b_and, b_or, b_andn, b_not, b_shl, b_cmp, b_cmp0, b_cmp0l, b_eq0, b_eq1, zs_2, zl_21, zl_22, gf_s, gf_l, pf_s, pf_l, zl_z, zs_z, nA, and_self, Nat.le_refl, Option.some.injEq, eq_self, Nat.reduceAdd, Nat.reduceSub, S_JT_gatheredNow, g_fld ex, tS', ihh, g_fld eoh.2.1, g_fld soh, g_fld (exo _ _), tSo, iho, g_fld (evo _ _), g_fld (soo _ _), gi, bt, q5, bg_2, g2]
  have := q4.2
  omega
/-- a new tree in a state -/
theorem c_withTree {f : Int → Int} {pe pt pk a : Nat} {fe ft fk : Int → Value} {t : Int} {vs : List Value} (so : StO G st f pe pt pk fe ft fk) (hG : ∀ a o, G a = some o → h.1 a = some o ∧ a < h.2.1) (t0 : 0 ≤ t) (t4 : t < 4) (ha : h.1 a = some (9, vs)) (al : a < h.2.1) : F_St_withTree [.ref st, vi t, .ref a] h = some (some (.ref h.2.1), stN h (v5 f) fe (up ft t (.ref a)) fk) := by
  have si := fun v0 v1 v2 v3 v4 v5' v6 v7 => c_stInit (h := h) (v0 := v0) (v1 := v1) (v2 := v2) (v3 := v3) (v4 := v4) (v5' := v5') (v6 := v6) (v7 := v7) so hG
  have el : zEl (stN h (v5 f) fe ft fk) (some 9) (.ref a) = true := by simp [zEl, stN_o al, ha]
  have stt : zStv 3 69 (some 9) (stN h (v5 f) fe ft fk) (.ref (h.2.1 + 1 + 1)) (vi t) (.ref a) = some (stN h (v5 f) fe (up ft t (.ref a)) fk) := stN_st t0 t4 rfl el
  have S0 : (stN h (v5 f) fe ft fk).1 h.2.1 = _ := stN_0
  have st69 : zStK 69 = (3, some 9) := rfl
  refine zMeq rfl ?_
  simp (disch := first | assumption | omega | exact zTy_0 | exact zTy_3 | exact zTy_3n | exact zTy_1 | exact zTy_B | exact zTy_b0 | exact zTy_4 | exact zEl_n | exact zEz4 | exact zEz9 | exact hz _ _ | exact hz2 _ _ | exact zI0 | exact zI1 | exact zI2 | exact zI3 | exact zI4 | exact zI5 | exact zI6 | exact zI7 | exact zI8 | exact zI9 | exact zI10 | (simp only [zl_21, zl_22, zs_2, ne_eq]; omega) | ((repeat (refine Eq.trans (us_r (by decide)) ?_)); assumption) | ((simp (decide := true) only [us_k, us_s]); omega)) only [↓rKi, ↓rKl, ↓rKn, ↓rKd, ↓rL, ↓r2, ↓r1, ↓rC2, ↓rC1, ↓rCn, ↓rNot, ↓rAnd, ↓rOr, ↓rCi, ↓rBx, ↓rIte, ↓rGf, ↓rLen, ↓rAx, ↓rNa, ↓rA0, ↓rA1, ↓rCs, ↓rCv, ↓rAn, ↓rNew, ↓rSeq, ↓rSkip, ↓rBrk, ↓rCnt, ↓rRetV, ↓rAsg, ↓rRet, ↓rIf, ↓rPf, ↓rPfo, ↓rAs, ↓rAso, ↓rDo, ↓rObj, ↓rBl, ↓rSw, ↓rCopy, ↓zSq_0, ↓zSq_r, ↓zSq_1, ↓zSq_2, ↓zBq_l, ↓zBq_r, ↓zWq_0, ↓zWq_1, ↓zWq_2, ↓zWq_r, ↓zLo_0, ↓zLo_1, ↓zLo_2, ↓zLo_r, ↓zLt_0, ↓rTr, ↓zFin_s, ↓zFin_n, wX_r, wO_s, wI_t, wI_f, zLk_0, zLk_s, zTv_vi, zTv_vb, zTv_vl, zTv_d, zTv_r, zTv_n, zTv_4, zTo_s, zCl_n, zCl_0, zCl_s, Int32.reduceToInt, Int64.reduceToInt, e_add, e_sub, e_mul, e_neg, e_ladd, e_lsub, e_lmul, e_lneg, q_0, q_1, q_2, q_3, q_4, q_5, q_b0, q_b1, p_0, p_1, p_2, p_3, p_4, p_5, p_b0, p_b1, e_lcmp, pl_0, pl_1, pl_2, pl_3, pl_4, pl_5, e_i2l, e_l2i, e_idiv, e_irem, e_ldiv, e_lrem, List.set_cons_zero, List.set_cons_succ, List.getD_cons_zero, List.getD_cons_succ, List.getD_nil, dT, dF, decide_true, decide_false, not_true_eq_false, not_false_eq_true, Bool.not_true, Bool.not_false, zLay_1, zLay_c1, zLay_c2, zLay_n, zWds_n, zWds_c, zCat_0, zCat_1, zCat_3, zCat_4, zLay_4, List.nil_append, List.cons_append, List.replicate_succ, List.replicate_zero, zTy_0, zTy_b0, zTy_1, zTy_3, zTy_3n, zTy_4, and_true, true_and, Option.bind_some, zNul_n, zNul_r, List.getElem?_cons_zero, List.getElem?_cons_succ, Int.add_zero, zTv_B, zTy_B, b_and, b_or, b_andn, b_not, b_shl, b_cmp, b_cmp0, b_cmp0l, b_eq0, b_eq1, zs_2, zl_21, zl_22, gf_s, gf_l, pf_s, pf_l, zl_z, zs_z, nA, and_self, Nat.le_refl, Option.some.injEq, eq_self, Nat.reduceAdd, Nat.reduceSub, S_St_withTree, si, g_fld S0, st69, stt]
  show h.2.1 ≤ h.2.1 + 4 ∧ h.2.2 ≤ h.2.2 + 19
  omega
theorem P_gather {t : Int} (ht : iR t) : PairI F_JT_gather F_Mo_gather [vi t] := wo_of fun x m h s G st pp im ip fp fi wo => by
  obtain ⟨ev, n, tr, fb, ba, eo, cg⟩ := c_gatheredNow wo
  obtain ⟨hG, ⟨rest, ex⟩, ⟨pe, pt, pk, fe, ft, fk, so⟩, ⟨ev', n', tr', fb', ba', eo', ih⟩, wi, xl, gx⟩ := WO_ev wo
  have hG1 : ∀ a o, G a = some o → h.1 a = some o := fun a o q => (hG a o q).1
  have nn : n' = n := by have := eo.1.1; have := eo'.1.1; omega
  have bs := so.2.1
  have b0 := bs.2.2.2.2.2
  have b5 := bs.2.2.2.2.1
  have ihh := ih h hG1
  have sz := c_size (EvO_h eo' hG1)
  have tS' := fun rest => g_tag (rest := rest) (hG1 _ _ so.1)
  have tE' := fun rest => g_tag (rest := rest) (EvO_h eo' hG1).2.1
  have wx := fun rest => WI_x wi (rest2 := rest)
  have n4 := eo.1
  have hn : mN s = n := n4.1
  have tk := fun r => e_tracks (m := m) (s := s) (r := r) b5.1 b5.2
  rw [hn] at tk
  rw [nn] at sz
  by_cases c : (0 ≤ t ∧ t < 4) ∧ n ≠ 0
  · obtain ⟨⟨t0, t4⟩, n0⟩ := c
    obtain ⟨s1, hk, km, s15⟩ := WO_k wo
    have k3 := hk.2.2.1
    have hn1 : mN s1 = n := by unfold mN; rw [s15, k3 _ (by omega) (by omega)]; exact n4.1
    have mT1 : ∀ i w : Int, 0 ≤ i → i < n → 0 ≤ w → w < 3 → mT s1 i w = mT s i w := fun i w i0 i1 w0 w1 => by
      unfold mT
      rw [s15, k3 _ (by omega) (by omega)]
    obtain ⟨l10, lr, lq, l0⟩ := layN_f (s := s1) n
    obtain ⟨⟨f0, f1, f2, f3, f4⟩, f5⟩ := gSet_f (s := layN s1 n) (a := s 1 2) (b := s 1 3) (c := s 1 4)
    have rows : ∀ i : Int, 0 ≤ i → i < n → ((-200 ≤ layN s1 n 3 i ∧ layN s1 n 3 i ≤ 200) ∧ (0 ≤ layN s1 n 4 i ∧ layN s1 n 4 i < 360) ∧ 1 ≤ layN s1 n 5 i ∧ layN s1 n 5 i ≤ 9999) ∧ layN s1 n 8 i = 1 := fun i i0 i1 => by
      obtain ⟨y1, y2, y3, y4, y5, y6⟩ := lr i i0 i1
      have y := (eo.2.2.2 i i0 i1).2
      rw [y1, y2, y3, mT1 i 0 i0 i1 (by decide) (by decide), mT1 i 1 i0 i1 (by decide) (by decide), mT1 i 2 i0 i1 (by decide) (by decide)]
      exact ⟨y, y6⟩
    have g0 : GI n 0 (gSet (layN s1 n) (s 1 2) (s 1 3) (s 1 4)) := GI_lay n4.2 l10 rows bs.1 bs.2.1
    obtain ⟨s2, gh2, L2, gi2, ga2, rz, op2, J2, ka2, ba2, sa2, q1, q2, q3, q4, q5⟩ := cg (gSet (layN s1 n) (s 1 2) (s 1 3) (s 1 4)) (by omega) g0 ⟨by rw [f0, l10], f2, f3, f4⟩ (fun k k0 k1 => by
      obtain ⟨y1, y2, y3, y4, y5, y6⟩ := lr k k0 k1
      rw [f5 3 (by decide), f5 4 (by decide), f5 5 (by decide), f5 6 (by decide), f5 7 (by decide), f5 8 (by decide), y1, y2, y3, mT1 k 0 k0 k1 (by decide) (by decide), mT1 k 1 k0 k1 (by decide) (by decide), mT1 k 2 k0 k1 (by decide) (by decide)]
      exact ⟨⟨rfl, rfl, rfl⟩, y4, y5, y6⟩)
    obtain ⟨tf, g7⟩ := tf_GC (by omega) q2
    have nj := tf_jets tf
    have x1 : s2 1 = s1 1 := by rw [gRun_1 (by decide) (by decide) q1, f5 1 (by decide), lq 1 (by decide) (by decide)]
    have x2 : s2 2 = s1 2 := by rw [gRun_1 (by decide) (by decide) q1, f5 2 (by decide), lq 2 (by decide) (by decide)]
    have w5 : ∀ k : Int, 0 ≤ k → k < n → s2 5 k ≤ 9999 := fun k k0 k1 => by
      rw [gRun_5 (by rw [f0, l10]; exact k1) q1, f5 5 (by decide)]
      exact (rows k k0 k1).1.2.2.2
    have s17 : s2 1 7 = s 1 7 := by rw [x1, k3 7 (by decide) (by decide)]
    obtain ⟨z1, z2, z3, z4, z5⟩ := lyTr_f (s := s2) (n := n) t0 t4 (by have := tf.1; have := tf.1.2.2.1; omega) ⟨tf.1.2.1, n4.2⟩ (tf_ok8 tf)
    have bb := fun u u0 u4 => bits_b (y := s 1 7) (t := t) (u := u) b0.1 b0.2 t0 t4 u0 u4
    rw [s17] at z3
    have z' : ∀ j, 2 ≤ j → j < 2779 → j ≠ 7 → (j < 371 + 521 * t ∨ 371 + 521 * t + 521 ≤ j) → lyTr s2 t 1 j = s 1 j := fun j j0 j1 hj h2 => by rw [z2 j hj h2, x1, k3 j j0 j1]
    have ft' : TF n (tS (lyTr s2 t 1) (371 + 521 * t)) gh2 L2 J2 := TF_ext z4 tf
    -- the heaps
    generalize hH : bg h.2.1 tr n (s 1 2) (s 1 3) (s 1 4) gi2 ga2 rz = H2 at *
    have H22 : H2.2 = rz.2 := by rw [← hH]; rfl
    have H2o : ∀ a, a < h.2.1 → H2.1 a = h.1 a := fun a ha => by rw [← hH, bg_out (Or.inl ha), q4.1 a ha]
    have H2t : H2.1 (h.2.1 + 1) = some (9, bgF1 h.2.1 tr n (s 1 2) (s 1 3) (s 1 4) gi2) := by rw [← hH]; exact bg_at 1 (by decide)
    have hG2 : ∀ a o, G a = some o → H2.1 a = some o ∧ a < H2.2.1 := fun a o q => by
      have y := hG a o q
      rw [H2o _ y.2, H22]
      exact ⟨y.1, by omega⟩
    have wt := c_withTree (h := H2) so hG2 t0 t4 H2t (by rw [H22]; omega)
    generalize hS : stN H2 (v5 (s 1)) fe (up ft t (.ref (h.2.1 + 1))) fk = H3 at *
    have H32 : H3.2.1 = rz.2.1 + 4 ∧ H3.2.2 = rz.2.2 + 19 := by rw [← hS, stN_2.1, stN_2.2, H22]; exact ⟨rfl, rfl⟩
    have H3o : ∀ a, a < rz.2.1 → H3.1 a = H2.1 a := fun a ha => by rw [← hS]; exact stN_o (by rw [H22]; exact ha)
    have tra := TrAt_GC (G := G) (h1 := H3) (T := tS (lyTr s2 t 1) (371 + 521 * t)) (by omega) q2 q3 q4.1 (fun a _ ha => by rw [H3o a ha, hH]) (by omega) w5 z4 z5
    have wo2 := WO_body wo
    have so2 : StO (gB G h) st (s 1) pe pt pk fe ft fk := StO_mono (gB_le wo) so
    have sa : StAt (gX (gB G h) h H3) H2.2.1 (lyTr s2 t 1) := by
      refine StN_at so2 (fun a o q => (wo2.2.1 a o q).2.1) (by rw [H22]; omega) (by rw [H22]; omega) (fe2 := fe) (ft2 := up ft t (.ref (h.2.1 + 1))) (fk2 := fk) ?_ (by rw [← hS]; exact stN_1) (by rw [← hS]; exact stN_t) (by rw [← hS]; exact stN_k) ?_ (fun e e0 e1 => Or.inl ⟨rfl, fun i i0 i1 => z' _ (by omega) (by omega) (by omega) (by omega)⟩) (fun u u0 u4 => ?_) (fun c c0 c1 => Or.inl ⟨rfl, fun i i0 i1 => z' i (by omega) (by omega) (by omega) (by omega)⟩)
      · rw [← hS, stN_0, z' 2 (by decide) (by decide) (by decide) (by omega), z' 3 (by decide) (by decide) (by decide) (by omega), z' 4 (by decide) (by decide) (by decide) (by omega), z' 6 (by decide) (by decide) (by decide) (by omega), z' 5 (by decide) (by decide) (by decide) (by omega)]
        rfl
      · rw [z' 2 (by decide) (by decide) (by decide) (by omega), z' 3 (by decide) (by decide) (by decide) (by omega), z' 4 (by decide) (by decide) (by decide) (by omega), z' 6 (by decide) (by decide) (by decide) (by omega), z' 5 (by decide) (by decide) (by decide) (by omega), z3]
        exact ⟨bs.1, bs.2.1, bs.2.2.1, bs.2.2.2.1, bs.2.2.2.2.1, (bb 0 (by decide) (by decide)).2.1⟩
      · by_cases q : u = t
        · subst q
          refine Or.inr (Or.inr ⟨?_, h.2.1 + 1, up_s, tra⟩)
          rw [z3, (bb u u0 u4).2.2.2, if_pos rfl]
        · refine Or.inl ⟨up_n q, ?_, fun i i0 i1 => z' i (by omega) (by omega) (by omega) (by omega)⟩
          rw [z3, (bb u u0 u4).2.2.2, if_neg q]
    have ex2 : H2.1 x = _ := (H2o x xl).trans ex
    have tS2 := fun rest => g_tag (rest := rest) (hG2 _ _ so.1).1
    have ppl : pp < h.2.1 := wo.2.2.1.2.1.1
    refine step_fin wo2 (w := 2 * n - s2 0 10) (st2 := H2.2.1) (h1 := H3) (s1 := s1) (s2 := lyTr s2 t) (fun a ha => by rw [H3o a (by omega), H2o a ha]) (by unfold rs; omega) sa hk (fun j hj => by rw [z2 j (by omega) (by omega), x1]) (by rw [z1 2 (by decide), x2]; exact hk.2.2.2.2.2 2 (by decide)) (fun h2 ts hh2 ho => zMeq rfl ?_) (fun r => zMeq rfl ?_)
    · have en : h.2.1 ≤ h2.2.1 ∧ h.2.2 ≤ h2.2.2 := by rw [← hh2]; omega
      have t2 : h2.1 (h.2.1 + 1) = some (9, bgF1 h.2.1 tr n (s 1 2) (s 1 3) (s 1 4) gi2) := by rw [ho _ (by omega) (by omega) (by omega), H3o _ (by omega)]; exact H2t
      unfold bgF1 at t2
      have wxT : zTgo H3 [.ref x, .ref H2.2.1] 10 = some () := g_tag (by rw [H3o x (by omega)]; exact ex2)
      simp (disch := first | assumption | omega | exact zTy_0 | exact zTy_3 | exact zTy_3n | exact zTy_1 | exact zTy_B | exact zTy_b0 | exact zTy_4 | exact zEl_n | exact zEz4 | exact zEz9 | exact hz _ _ | exact hz2 _ _ | exact zI0 | exact zI1 | exact zI2 | exact zI3 | exact zI4 | exact zI5 | exact zI6 | exact zI7 | exact zI8 | exact zI9 | exact zI10 | (simp only [zl_21, zl_22, zs_2, ne_eq]; omega) | ((repeat (refine Eq.trans (us_r (by decide)) ?_)); assumption) | ((simp (decide := true) only [us_k, us_s]); omega)) only [↓rKi, ↓rKl, ↓rKn, ↓rKd, ↓rL, ↓r2, ↓r1, ↓rC2, ↓rC1, ↓rCn, ↓rNot, ↓rAnd, ↓rOr, ↓rCi, ↓rBx, ↓rIte, ↓rGf, ↓rLen, ↓rAx, ↓rNa, ↓rA0, ↓rA1, ↓rCs, ↓rCv, ↓rAn, ↓rNew, ↓rSeq, ↓rSkip, ↓rBrk, ↓rCnt, ↓rRetV, ↓rAsg, ↓rRet, ↓rIf, ↓rPf, ↓rPfo, ↓rAs, ↓rAso, ↓rDo, ↓rObj, ↓rBl, ↓rSw, ↓rCopy, ↓zSq_0, ↓zSq_r, ↓zSq_1, ↓zSq_2, ↓zBq_l, ↓zBq_r, ↓zWq_0, ↓zWq_1, ↓zWq_2, ↓zWq_r, ↓zLo_0, ↓zLo_1, ↓zLo_2, ↓zLo_r, ↓zLt_0, ↓rTr, ↓zFin_s, ↓zFin_n, wX_r, wO_s, wI_t, wI_f, zLk_0, zLk_s, zTv_vi, zTv_vb, zTv_vl, zTv_d, zTv_r, zTv_n, zTv_4, zTo_s, zCl_n, zCl_0, zCl_s, Int32.reduceToInt, Int64.reduceToInt, e_add, e_sub, e_mul, e_neg, e_ladd, e_lsub, e_lmul, e_lneg, q_0, q_1, q_2, q_3, q_4, q_5, q_b0, q_b1, p_0, p_1, p_2, p_3, p_4, p_5, p_b0, p_b1, e_lcmp, pl_0, pl_1, pl_2, pl_3, pl_4, pl_5, e_i2l, e_l2i, e_idiv, e_irem, e_ldiv, e_lrem, List.set_cons_zero, List.set_cons_succ, List.getD_cons_zero, List.getD_cons_succ, List.getD_nil, dT, dF, decide_true, decide_false, not_true_eq_false, not_false_eq_true, Bool.not_true, Bool.not_false, zLay_1, zLay_c1, zLay_c2, zLay_n, zWds_n, zWds_c, zCat_0, zCat_1, zCat_3, zCat_4, zLay_4, List.nil_append, List.cons_append, List.replicate_succ, List.replicate_zero, zTy_0, zTy_b0, zTy_1, zTy_3, zTy_3n, zTy_4, and_true, true_and, Option.bind_some, zNul_n, zNul_r, List.getElem?_cons_zero, List.getElem?_cons_succ, Int.add_zero, zTv_B, zTy_B, b_and, b_or, b_andn, b_not, b_shl, b_cmp, b_cmp0, b_cmp0l, b_eq0, b_eq1, zs_2, zl_21, zl_22, gf_s, gf_l, pf_s, pf_l, zl_z, zs_z, nA, and_self, Nat.le_refl, Option.some.injEq, eq_self, Nat.reduceAdd, Nat.reduceSub, S_JT_gather, c_isTree, wx, g_fld ex, tS', ihh, tE', sz, q5, g_fld ex2, tS2, wt, wxT, ts, g_fld t2, g7]
      exact en
    · have ly := e_layTracks (m := m) (s := s1) (r := r) (by rw [s15]; exact b5.1) (by rw [s15]; exact b5.2) hn1 n4.2
      have e2 : layN s1 n 1 2 = s 1 2 := by rw [lq 1 (by decide) (by decide), k3 2 (by decide) (by decide)]
      have e3 : layN s1 n 1 3 = s 1 3 := by rw [lq 1 (by decide) (by decide), k3 3 (by decide) (by decide)]
      have e4 : layN s1 n 1 4 = s 1 4 := by rw [lq 1 (by decide) (by decide), k3 4 (by decide) (by decide)]
      obtain ⟨s3, p1, p2, p3⟩ := e_gatherAll (m := m) (r := r) g0 l10 (by omega) (by omega) (by omega)
      rw [show ((n : Int)).toNat = n by omega] at p1
      have := gRun_one p1 q1
      subst this
      have gn : F_Mo_gatherNow [.ref m] (hp m s1 r) = some (none, hp m s3 r) := by
        refine zMeq rfl ?_
        simp (disch := first | assumption | omega | exact zTy_0 | exact zTy_3 | exact zTy_3n | exact zTy_1 | exact zTy_B | exact zTy_b0 | exact zTy_4 | exact zEl_n | exact zEz4 | exact zEz9 | exact hz _ _ | exact hz2 _ _ | exact zI0 | exact zI1 | exact zI2 | exact zI3 | exact zI4 | exact zI5 | exact zI6 | exact zI7 | exact zI8 | exact zI9 | exact zI10 | (simp only [zl_21, zl_22, zs_2, ne_eq]; omega) | ((repeat (refine Eq.trans (us_r (by decide)) ?_)); assumption) | ((simp (decide := true) only [us_k, us_s]); omega)) only [↓rKi, ↓rKl, ↓rKn, ↓rKd, ↓rL, ↓r2, ↓r1, ↓rC2, ↓rC1, ↓rCn, ↓rNot, ↓rAnd, ↓rOr, ↓rCi, ↓rBx, ↓rIte, ↓rGf, ↓rLen, ↓rAx, ↓rNa, ↓rA0, ↓rA1, ↓rCs, ↓rCv, ↓rAn, ↓rNew, ↓rSeq, ↓rSkip, ↓rBrk, ↓rCnt, ↓rRetV, ↓rAsg, ↓rRet, ↓rIf, ↓rPf, ↓rPfo, ↓rAs, ↓rAso, ↓rDo, ↓rObj, ↓rBl, ↓rSw, ↓rCopy, ↓zSq_0, ↓zSq_r, ↓zSq_1, ↓zSq_2, ↓zBq_l, ↓zBq_r, ↓zWq_0, ↓zWq_1, ↓zWq_2, ↓zWq_r, ↓zLo_0, ↓zLo_1, ↓zLo_2, ↓zLo_r, ↓zLt_0, ↓rTr, ↓zFin_s, ↓zFin_n, wX_r, wO_s, wI_t, wI_f, zLk_0, zLk_s, zTv_vi, zTv_vb, zTv_vl, zTv_d, zTv_r, zTv_n, zTv_4, zTo_s, zCl_n, zCl_0, zCl_s, Int32.reduceToInt, Int64.reduceToInt, e_add, e_sub, e_mul, e_neg, e_ladd, e_lsub, e_lmul, e_lneg, q_0, q_1, q_2, q_3, q_4, q_5, q_b0, q_b1, p_0, p_1, p_2, p_3, p_4, p_5, p_b0, p_b1, e_lcmp, pl_0, pl_1, pl_2, pl_3, pl_4, pl_5, e_i2l, e_l2i, e_idiv, e_irem, e_ldiv, e_lrem, List.set_cons_zero, List.set_cons_succ, List.getD_cons_zero, List.getD_cons_succ, List.getD_nil, dT, dF, decide_true, decide_false, not_true_eq_false, not_false_eq_true, Bool.not_true, Bool.not_false, zLay_1, zLay_c1, zLay_c2, zLay_n, zWds_n, zWds_c, zCat_0, zCat_1, zCat_3, zCat_4, zLay_4, List.nil_append, List.cons_append, List.replicate_succ, List.replicate_zero, zTy_0, zTy_b0, zTy_1, zTy_3, zTy_3n, zTy_4, and_true, true_and, Option.bind_some, zNul_n, zNul_r, List.getElem?_cons_zero, List.getElem?_cons_succ, Int.add_zero, zTv_B, zTy_B, b_and, b_or, b_andn, b_not, b_shl, b_cmp, b_cmp0, b_cmp0l, b_eq0, b_eq1, zs_2, zl_21, zl_22, gf_s, gf_l, pf_s, pf_l, zl_z, zs_z, nA, and_self, Nat.le_refl, Option.some.injEq, eq_self, Nat.reduceAdd, Nat.reduceSub, tg_m, mf_0, mf_1, mf_2, mf_3, mf_4, mf_5, mf_6, mf_7, mf_8, mf_9, mp_10, mf_10, mp_11, mf_11, mp_12, mf_12, mp_13, mf_13, mp_14, mf_14, mf_15, mf_16, mp_17, mf_17, mf_18, mf_19, mp_20, mf_20, mp_21, mf_21, mf_22, mp_23, mf_23, mp_24, mf_24, mf_25, mp_26, mf_26, ax_1, asa_1, aso_1, ax_2, asa_2, aso_2, ax_3, asa_3, aso_3, ax_4, asa_4, aso_4, ax_5, asa_5, aso_5, ax_6, asa_6, aso_6, ax_7, asa_7, aso_7, ax_8, asa_8, aso_8, ax_9, asa_9, aso_9, ax_10, asa_10, aso_10, ax_11, asa_11, aso_11, ax_12, asa_12, aso_12, ax_13, asa_13, aso_13, ax_14, asa_14, aso_14, ax_15, asa_15, aso_15, ax_16, asa_16, aso_16, hp_2, us_s, us_k, us_j, us_r, S_Mo_gatherNow, ly, axo_1, e2, e3, e4, p3]
      have lt := m_layTree (m := m) (s := s3) (r := r) t0 t4 (by have := p2.2.2.1; omega) (by have := p2.2.1; omega) (by rw [s17]; exact b0)
      have jt := q_jets (m := m) (s := lyTr s3 t) (r := r) (a := lyTr s3 t 1) ft' rfl t0 t4
      have e10 : tS (lyTr s3 t 1) (371 + 521 * t) 0 10 = s3 0 10 := z4.1 10 (by decide) (by decide)
      rw [e10] at jt
      simp (disch := first | assumption | omega | exact zTy_0 | exact zTy_3 | exact zTy_3n | exact zTy_1 | exact zTy_B | exact zTy_b0 | exact zTy_4 | exact zEl_n | exact zEz4 | exact zEz9 | exact hz _ _ | exact hz2 _ _ | exact zI0 | exact zI1 | exact zI2 | exact zI3 | exact zI4 | exact zI5 | exact zI6 | exact zI7 | exact zI8 | exact zI9 | exact zI10 | (simp only [zl_21, zl_22, zs_2, ne_eq]; omega) | ((repeat (refine Eq.trans (us_r (by decide)) ?_)); assumption) | ((simp (decide := true) only [us_k, us_s]); omega)) only [↓rKi, ↓rKl, ↓rKn, ↓rKd, ↓rL, ↓r2, ↓r1, ↓rC2, ↓rC1, ↓rCn, ↓rNot, ↓rAnd, ↓rOr, ↓rCi, ↓rBx, ↓rIte, ↓rGf, ↓rLen, ↓rAx, ↓rNa, ↓rA0, ↓rA1, ↓rCs, ↓rCv, ↓rAn, ↓rNew, ↓rSeq, ↓rSkip, ↓rBrk, ↓rCnt, ↓rRetV, ↓rAsg, ↓rRet, ↓rIf, ↓rPf, ↓rPfo, ↓rAs, ↓rAso, ↓rDo, ↓rObj, ↓rBl, ↓rSw, ↓rCopy, ↓zSq_0, ↓zSq_r, ↓zSq_1, ↓zSq_2, ↓zBq_l, ↓zBq_r, ↓zWq_0, ↓zWq_1, ↓zWq_2, ↓zWq_r, ↓zLo_0, ↓zLo_1, ↓zLo_2, ↓zLo_r, ↓zLt_0, ↓rTr, ↓zFin_s, ↓zFin_n, wX_r, wO_s, wI_t, wI_f, zLk_0, zLk_s, zTv_vi, zTv_vb, zTv_vl, zTv_d, zTv_r, zTv_n, zTv_4, zTo_s, zCl_n, zCl_0, zCl_s, Int32.reduceToInt, Int64.reduceToInt, e_add, e_sub, e_mul, e_neg, e_ladd, e_lsub, e_lmul, e_lneg, q_0, q_1, q_2, q_3, q_4, q_5, q_b0, q_b1, p_0, p_1, p_2, p_3, p_4, p_5, p_b0, p_b1, e_lcmp, pl_0, pl_1, pl_2, pl_3, pl_4, pl_5, e_i2l, e_l2i, e_idiv, e_irem, e_ldiv, e_lrem, List.set_cons_zero, List.set_cons_succ, List.getD_cons_zero, List.getD_cons_succ, List.getD_nil, dT, dF, decide_true, decide_false, not_true_eq_false, not_false_eq_true, Bool.not_true, Bool.not_false, zLay_1, zLay_c1, zLay_c2, zLay_n, zWds_n, zWds_c, zCat_0, zCat_1, zCat_3, zCat_4, zLay_4, List.nil_append, List.cons_append, List.replicate_succ, List.replicate_zero, zTy_0, zTy_b0, zTy_1, zTy_3, zTy_3n, zTy_4, and_true, true_and, Option.bind_some, zNul_n, zNul_r, List.getElem?_cons_zero, List.getElem?_cons_succ, Int.add_zero, zTv_B, zTy_B, b_and, b_or, b_andn, b_not, b_shl, b_cmp, b_cmp0, b_cmp0l, b_eq0, b_eq1, zs_2, zl_21, zl_22, gf_s, gf_l, pf_s, pf_l, zl_z, zs_z, nA, and_self, Nat.le_refl, Option.some.injEq, eq_self, Nat.reduceAdd, Nat.reduceSub, tg_m, mf_0, mf_1, mf_2, mf_3, mf_4, mf_5, mf_6, mf_7, mf_8, mf_9, mp_10, mf_10, mp_11, mf_11, mp_12, mf_12, mp_13, mf_13, mp_14, mf_14, mf_15, mf_16, mp_17, mf_17, mf_18, mf_19, mp_20, mf_20, mp_21, mf_21, mf_22, mp_23, mf_23, mp_24, mf_24, mf_25, mp_26, mf_26, ax_1, asa_1, aso_1, ax_2, asa_2, aso_2, ax_3, asa_3, aso_3, ax_4, asa_4, aso_4, ax_5, asa_5, aso_5, ax_6, asa_6, aso_6, ax_7, asa_7, aso_7, ax_8, asa_8, aso_8, ax_9, asa_9, aso_9, ax_10, asa_10, aso_10, ax_11, asa_11, aso_11, ax_12, asa_12, aso_12, ax_13, asa_13, aso_13, ax_14, asa_14, aso_14, ax_15, asa_15, aso_15, ax_16, asa_16, aso_16, hp_2, us_s, us_k, us_j, us_r, S_Mo_gather, e_isIn, tk, km, gn, lt, jt]
  · refine q_fin wi (w := -1) (h1 := h) (s1 := s) (zMeq rfl ?_) hx_rf (zMeq rfl ?_) rfl rfl
    · by_cases d : 0 ≤ t ∧ t < 4
      · have : n = 0 := by omega
        simp (disch := first | assumption | omega | exact zTy_0 | exact zTy_3 | exact zTy_3n | exact zTy_1 | exact zTy_B | exact zTy_b0 | exact zTy_4 | exact zEl_n | exact zEz4 | exact zEz9 | exact hz _ _ | exact hz2 _ _ | exact zI0 | exact zI1 | exact zI2 | exact zI3 | exact zI4 | exact zI5 | exact zI6 | exact zI7 | exact zI8 | exact zI9 | exact zI10 | (simp only [zl_21, zl_22, zs_2, ne_eq]; omega) | ((repeat (refine Eq.trans (us_r (by decide)) ?_)); assumption) | ((simp (decide := true) only [us_k, us_s]); omega)) only [↓rKi, ↓rKl, ↓rKn, ↓rKd, ↓rL, ↓r2, ↓r1, ↓rC2, ↓rC1, ↓rCn, ↓rNot, ↓rAnd, ↓rOr, ↓rCi, ↓rBx, ↓rIte, ↓rGf, ↓rLen, ↓rAx, ↓rNa, ↓rA0, ↓rA1, ↓rCs, ↓rCv, ↓rAn, ↓rNew, ↓rSeq, ↓rSkip, ↓rBrk, ↓rCnt, ↓rRetV, ↓rAsg, ↓rRet, ↓rIf, ↓rPf, ↓rPfo, ↓rAs, ↓rAso, ↓rDo, ↓rObj, ↓rBl, ↓rSw, ↓rCopy, ↓zSq_0, ↓zSq_r, ↓zSq_1, ↓zSq_2, ↓zBq_l, ↓zBq_r, ↓zWq_0, ↓zWq_1, ↓zWq_2, ↓zWq_r, ↓zLo_0, ↓zLo_1, ↓zLo_2, ↓zLo_r, ↓zLt_0, ↓rTr, ↓zFin_s, ↓zFin_n, wX_r, wO_s, wI_t, wI_f, zLk_0, zLk_s, zTv_vi, zTv_vb, zTv_vl, zTv_d, zTv_r, zTv_n, zTv_4, zTo_s, zCl_n, zCl_0, zCl_s, Int32.reduceToInt, Int64.reduceToInt, e_add, e_sub, e_mul, e_neg, e_ladd, e_lsub, e_lmul, e_lneg, q_0, q_1, q_2, q_3, q_4, q_5, q_b0, q_b1, p_0, p_1, p_2, p_3, p_4, p_5, p_b0, p_b1, e_lcmp, pl_0, pl_1, pl_2, pl_3, pl_4, pl_5, e_i2l, e_l2i, e_idiv, e_irem, e_ldiv, e_lrem, List.set_cons_zero, List.set_cons_succ, List.getD_cons_zero, List.getD_cons_succ, List.getD_nil, dT, dF, decide_true, decide_false, not_true_eq_false, not_false_eq_true, Bool.not_true, Bool.not_false, zLay_1, zLay_c1, zLay_c2, zLay_n, zWds_n, zWds_c, zCat_0, zCat_1, zCat_3, zCat_4, zLay_4, List.nil_append, List.cons_append, List.replicate_succ, List.replicate_zero, zTy_0, zTy_b0, zTy_1, zTy_3, zTy_3n, zTy_4, and_true, true_and, Option.bind_some, zNul_n, zNul_r, List.getElem?_cons_zero, List.getElem?_cons_succ, Int.add_zero, zTv_B, zTy_B, b_and, b_or, b_andn, b_not, b_shl, b_cmp, b_cmp0, b_cmp0l, b_eq0, b_eq1, zs_2, zl_21, zl_22, gf_s, gf_l, pf_s, pf_l, zl_z, zs_z, nA, and_self, Nat.le_refl, Option.some.injEq, eq_self, Nat.reduceAdd, Nat.reduceSub, S_JT_gather, c_isTree, wx, g_fld ex, tS', ihh, tE', sz]
      · simp (disch := first | assumption | omega | exact zTy_0 | exact zTy_3 | exact zTy_3n | exact zTy_1 | exact zTy_B | exact zTy_b0 | exact zTy_4 | exact zEl_n | exact zEz4 | exact zEz9 | exact hz _ _ | exact hz2 _ _ | exact zI0 | exact zI1 | exact zI2 | exact zI3 | exact zI4 | exact zI5 | exact zI6 | exact zI7 | exact zI8 | exact zI9 | exact zI10 | (simp only [zl_21, zl_22, zs_2, ne_eq]; omega) | ((repeat (refine Eq.trans (us_r (by decide)) ?_)); assumption) | ((simp (decide := true) only [us_k, us_s]); omega)) only [↓rKi, ↓rKl, ↓rKn, ↓rKd, ↓rL, ↓r2, ↓r1, ↓rC2, ↓rC1, ↓rCn, ↓rNot, ↓rAnd, ↓rOr, ↓rCi, ↓rBx, ↓rIte, ↓rGf, ↓rLen, ↓rAx, ↓rNa, ↓rA0, ↓rA1, ↓rCs, ↓rCv, ↓rAn, ↓rNew, ↓rSeq, ↓rSkip, ↓rBrk, ↓rCnt, ↓rRetV, ↓rAsg, ↓rRet, ↓rIf, ↓rPf, ↓rPfo, ↓rAs, ↓rAso, ↓rDo, ↓rObj, ↓rBl, ↓rSw, ↓rCopy, ↓zSq_0, ↓zSq_r, ↓zSq_1, ↓zSq_2, ↓zBq_l, ↓zBq_r, ↓zWq_0, ↓zWq_1, ↓zWq_2, ↓zWq_r, ↓zLo_0, ↓zLo_1, ↓zLo_2, ↓zLo_r, ↓zLt_0, ↓rTr, ↓zFin_s, ↓zFin_n, wX_r, wO_s, wI_t, wI_f, zLk_0, zLk_s, zTv_vi, zTv_vb, zTv_vl, zTv_d, zTv_r, zTv_n, zTv_4, zTo_s, zCl_n, zCl_0, zCl_s, Int32.reduceToInt, Int64.reduceToInt, e_add, e_sub, e_mul, e_neg, e_ladd, e_lsub, e_lmul, e_lneg, q_0, q_1, q_2, q_3, q_4, q_5, q_b0, q_b1, p_0, p_1, p_2, p_3, p_4, p_5, p_b0, p_b1, e_lcmp, pl_0, pl_1, pl_2, pl_3, pl_4, pl_5, e_i2l, e_l2i, e_idiv, e_irem, e_ldiv, e_lrem, List.set_cons_zero, List.set_cons_succ, List.getD_cons_zero, List.getD_cons_succ, List.getD_nil, dT, dF, decide_true, decide_false, not_true_eq_false, not_false_eq_true, Bool.not_true, Bool.not_false, zLay_1, zLay_c1, zLay_c2, zLay_n, zWds_n, zWds_c, zCat_0, zCat_1, zCat_3, zCat_4, zLay_4, List.nil_append, List.cons_append, List.replicate_succ, List.replicate_zero, zTy_0, zTy_b0, zTy_1, zTy_3, zTy_3n, zTy_4, and_true, true_and, Option.bind_some, zNul_n, zNul_r, List.getElem?_cons_zero, List.getElem?_cons_succ, Int.add_zero, zTv_B, zTy_B, b_and, b_or, b_andn, b_not, b_shl, b_cmp, b_cmp0, b_cmp0l, b_eq0, b_eq1, zs_2, zl_21, zl_22, gf_s, gf_l, pf_s, pf_l, zl_z, zs_z, nA, and_self, Nat.le_refl, Option.some.injEq, eq_self, Nat.reduceAdd, Nat.reduceSub, S_JT_gather, c_isTree, wx, g_fld ex, tS', ihh, tE', sz]
    · have tk' := tk h
      by_cases d : 0 ≤ t ∧ t < 4
      · have : n = 0 := by omega
        simp (disch := first | assumption | omega | exact zTy_0 | exact zTy_3 | exact zTy_3n | exact zTy_1 | exact zTy_B | exact zTy_b0 | exact zTy_4 | exact zEl_n | exact zEz4 | exact zEz9 | exact hz _ _ | exact hz2 _ _ | exact zI0 | exact zI1 | exact zI2 | exact zI3 | exact zI4 | exact zI5 | exact zI6 | exact zI7 | exact zI8 | exact zI9 | exact zI10 | (simp only [zl_21, zl_22, zs_2, ne_eq]; omega) | ((repeat (refine Eq.trans (us_r (by decide)) ?_)); assumption) | ((simp (decide := true) only [us_k, us_s]); omega)) only [↓rKi, ↓rKl, ↓rKn, ↓rKd, ↓rL, ↓r2, ↓r1, ↓rC2, ↓rC1, ↓rCn, ↓rNot, ↓rAnd, ↓rOr, ↓rCi, ↓rBx, ↓rIte, ↓rGf, ↓rLen, ↓rAx, ↓rNa, ↓rA0, ↓rA1, ↓rCs, ↓rCv, ↓rAn, ↓rNew, ↓rSeq, ↓rSkip, ↓rBrk, ↓rCnt, ↓rRetV, ↓rAsg, ↓rRet, ↓rIf, ↓rPf, ↓rPfo, ↓rAs, ↓rAso, ↓rDo, ↓rObj, ↓rBl, ↓rSw, ↓rCopy, ↓zSq_0, ↓zSq_r, ↓zSq_1, ↓zSq_2, ↓zBq_l, ↓zBq_r, ↓zWq_0, ↓zWq_1, ↓zWq_2, ↓zWq_r, ↓zLo_0, ↓zLo_1, ↓zLo_2, ↓zLo_r, ↓zLt_0, ↓rTr, ↓zFin_s, ↓zFin_n, wX_r, wO_s, wI_t, wI_f, zLk_0, zLk_s, zTv_vi, zTv_vb, zTv_vl, zTv_d, zTv_r, zTv_n, zTv_4, zTo_s, zCl_n, zCl_0, zCl_s, Int32.reduceToInt, Int64.reduceToInt, e_add, e_sub, e_mul, e_neg, e_ladd, e_lsub, e_lmul, e_lneg, q_0, q_1, q_2, q_3, q_4, q_5, q_b0, q_b1, p_0, p_1, p_2, p_3, p_4, p_5, p_b0, p_b1, e_lcmp, pl_0, pl_1, pl_2, pl_3, pl_4, pl_5, e_i2l, e_l2i, e_idiv, e_irem, e_ldiv, e_lrem, List.set_cons_zero, List.set_cons_succ, List.getD_cons_zero, List.getD_cons_succ, List.getD_nil, dT, dF, decide_true, decide_false, not_true_eq_false, not_false_eq_true, Bool.not_true, Bool.not_false, zLay_1, zLay_c1, zLay_c2, zLay_n, zWds_n, zWds_c, zCat_0, zCat_1, zCat_3, zCat_4, zLay_4, List.nil_append, List.cons_append, List.replicate_succ, List.replicate_zero, zTy_0, zTy_b0, zTy_1, zTy_3, zTy_3n, zTy_4, and_true, true_and, Option.bind_some, zNul_n, zNul_r, List.getElem?_cons_zero, List.getElem?_cons_succ, Int.add_zero, zTv_B, zTy_B, b_and, b_or, b_andn, b_not, b_shl, b_cmp, b_cmp0, b_cmp0l, b_eq0, b_eq1, zs_2, zl_21, zl_22, gf_s, gf_l, pf_s, pf_l, zl_z, zs_z, nA, and_self, Nat.le_refl, Option.some.injEq, eq_self, Nat.reduceAdd, Nat.reduceSub, tg_m, mf_0, mf_1, mf_2, mf_3, mf_4, mf_5, mf_6, mf_7, mf_8, mf_9, mp_10, mf_10, mp_11, mf_11, mp_12, mf_12, mp_13, mf_13, mp_14, mf_14, mf_15, mf_16, mp_17, mf_17, mf_18, mf_19, mp_20, mf_20, mp_21, mf_21, mf_22, mp_23, mf_23, mp_24, mf_24, mf_25, mp_26, mf_26, ax_1, asa_1, aso_1, ax_2, asa_2, aso_2, ax_3, asa_3, aso_3, ax_4, asa_4, aso_4, ax_5, asa_5, aso_5, ax_6, asa_6, aso_6, ax_7, asa_7, aso_7, ax_8, asa_8, aso_8, ax_9, asa_9, aso_9, ax_10, asa_10, aso_10, ax_11, asa_11, aso_11, ax_12, asa_12, aso_12, ax_13, asa_13, aso_13, ax_14, asa_14, aso_14, ax_15, asa_15, aso_15, ax_16, asa_16, aso_16, hp_2, us_s, us_k, us_j, us_r, S_Mo_gather, e_isIn, tk']
      · simp (disch := first | assumption | omega | exact zTy_0 | exact zTy_3 | exact zTy_3n | exact zTy_1 | exact zTy_B | exact zTy_b0 | exact zTy_4 | exact zEl_n | exact zEz4 | exact zEz9 | exact hz _ _ | exact hz2 _ _ | exact zI0 | exact zI1 | exact zI2 | exact zI3 | exact zI4 | exact zI5 | exact zI6 | exact zI7 | exact zI8 | exact zI9 | exact zI10 | (simp only [zl_21, zl_22, zs_2, ne_eq]; omega) | ((repeat (refine Eq.trans (us_r (by decide)) ?_)); assumption) | ((simp (decide := true) only [us_k, us_s]); omega)) only [↓rKi, ↓rKl, ↓rKn, ↓rKd, ↓rL, ↓r2, ↓r1, ↓rC2, ↓rC1, ↓rCn, ↓rNot, ↓rAnd, ↓rOr, ↓rCi, ↓rBx, ↓rIte, ↓rGf, ↓rLen, ↓rAx, ↓rNa, ↓rA0, ↓rA1, ↓rCs, ↓rCv, ↓rAn, ↓rNew, ↓rSeq, ↓rSkip, ↓rBrk, ↓rCnt, ↓rRetV, ↓rAsg, ↓rRet, ↓rIf, ↓rPf, ↓rPfo, ↓rAs, ↓rAso, ↓rDo, ↓rObj, ↓rBl, ↓rSw, ↓rCopy, ↓zSq_0, ↓zSq_r, ↓zSq_1, ↓zSq_2, ↓zBq_l, ↓zBq_r, ↓zWq_0, ↓zWq_1, ↓zWq_2, ↓zWq_r, ↓zLo_0, ↓zLo_1, ↓zLo_2, ↓zLo_r, ↓zLt_0, ↓rTr, ↓zFin_s, ↓zFin_n, wX_r, wO_s, wI_t, wI_f, zLk_0, zLk_s, zTv_vi, zTv_vb, zTv_vl, zTv_d, zTv_r, zTv_n, zTv_4, zTo_s, zCl_n, zCl_0, zCl_s, Int32.reduceToInt, Int64.reduceToInt, e_add, e_sub, e_mul, e_neg, e_ladd, e_lsub, e_lmul, e_lneg, q_0, q_1, q_2, q_3, q_4, q_5, q_b0, q_b1, p_0, p_1, p_2, p_3, p_4, p_5, p_b0, p_b1, e_lcmp, pl_0, pl_1, pl_2, pl_3, pl_4, pl_5, e_i2l, e_l2i, e_idiv, e_irem, e_ldiv, e_lrem, List.set_cons_zero, List.set_cons_succ, List.getD_cons_zero, List.getD_cons_succ, List.getD_nil, dT, dF, decide_true, decide_false, not_true_eq_false, not_false_eq_true, Bool.not_true, Bool.not_false, zLay_1, zLay_c1, zLay_c2, zLay_n, zWds_n, zWds_c, zCat_0, zCat_1, zCat_3, zCat_4, zLay_4, List.nil_append, List.cons_append, List.replicate_succ, List.replicate_zero, zTy_0, zTy_b0, zTy_1, zTy_3, zTy_3n, zTy_4, and_true, true_and, Option.bind_some, zNul_n, zNul_r, List.getElem?_cons_zero, List.getElem?_cons_succ, Int.add_zero, zTv_B, zTy_B, b_and, b_or, b_andn, b_not, b_shl, b_cmp, b_cmp0, b_cmp0l, b_eq0, b_eq1, zs_2, zl_21, zl_22, gf_s, gf_l, pf_s, pf_l, zl_z, zs_z, nA, and_self, Nat.le_refl, Option.some.injEq, eq_self, Nat.reduceAdd, Nat.reduceSub, tg_m, mf_0, mf_1, mf_2, mf_3, mf_4, mf_5, mf_6, mf_7, mf_8, mf_9, mp_10, mf_10, mp_11, mf_11, mp_12, mf_12, mp_13, mf_13, mp_14, mf_14, mf_15, mf_16, mp_17, mf_17, mf_18, mf_19, mp_20, mf_20, mp_21, mf_21, mf_22, mp_23, mf_23, mp_24, mf_24, mf_25, mp_26, mf_26, ax_1, asa_1, aso_1, ax_2, asa_2, aso_2, ax_3, asa_3, aso_3, ax_4, asa_4, aso_4, ax_5, asa_5, aso_5, ax_6, asa_6, aso_6, ax_7, asa_7, aso_7, ax_8, asa_8, aso_8, ax_9, asa_9, aso_9, ax_10, asa_10, aso_10, ax_11, asa_11, aso_11, ax_12, asa_12, aso_12, ax_13, asa_13, aso_13, ax_14, asa_14, aso_14, ax_15, asa_15, aso_15, ax_16, asa_16, aso_16, hp_2, us_s, us_k, us_j, us_r, S_Mo_gather, e_isIn, tk']
end
