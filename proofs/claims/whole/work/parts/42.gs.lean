/-! THE GATHERER: what the rows and objects say -/
section
variable {B tr n : Nat} {rad pw sm : Int} {gi : Nat → Int} {ga : Nat → Int → Value} {r : zHp} {s gh : Nat → Int → Int} {L : Int → BitVec 64}
def rN (ka : Int → Nat) (k : Int) : Value := if k = -1 then .null else .ref (ka k)
def kV (s gh : Nat → Int → Int) (L : Int → BitVec 64) (ka ba : Int → Nat) (k : Int) : List Value := [.ref (ba k), vB (L k), rN ka (s 6 k), rN ka (s 7 k), vi (gh 2 k), rN ka (gh 1 k), vi (gh 3 k)]
def bV (s : Nat → Int → Int) (k : Int) : List Value := [vi k, vi (s 3 k), vi (s 4 k), vi (s 5 k)]
def sV (s gh : Nat → Int → Int) (u : Int) : List Value := [vi (s 9 u), vi (s 10 u), vi (gh 0 u), vl (upS s (s 9 u) (s 10 u) / gcdI (upS s (s 9 u) (s 10 u)) (dnS s (s 9 u) (s 10 u))), vl (dnS s (s 9 u) (s 10 u) / gcdI (upS s (s 9 u) (s 10 u)) (dnS s (s 9 u) (s 10 u)))]
def KN (B : Nat) (r : zHp) (s gh : Nat → Int → Int) (L : Int → BitVec 64) (ka ba : Int → Nat) : Prop := ∀ k, 0 ≤ k → k < s 0 10 → r.1 (ka k) = some (4, kV s gh L ka ba k) ∧ (B + 8 ≤ ka k ∧ ka k < r.2.1) ∧ r.1 (ba k) = some (0, bV s k) ∧ (ba k < B ∨ B + 8 ≤ ba k) ∧ ba k < r.2.1
def KI (kn : Int) (ka : Int → Nat) : Prop := ∀ k e, 0 ≤ k → k < kn → 0 ≤ e → e < kn → ka k = ka e → k = e
def SN (B : Nat) (r : zHp) (s gh : Nat → Int → Int) (t : Int) (sa : Int → Nat) : Prop := ∀ u, 0 ≤ u → u < t → r.1 (sa u) = some (6, sV s gh u) ∧ B + 8 ≤ sa u ∧ sa u < r.2.1
abbrev hvS (s : Nat → Int → Int) (k e : Int) : Prop := hvy (s 3 k) (s 4 k) (s 5 k) k (s 3 e) (s 4 e) (s 5 e) e
/-- the jets by weight -/
def JT (s gh : Nat → Int → Int) (jc : Int) (J : Int → Int) : Prop := (∀ i, 0 ≤ i → i < jc → (0 ≤ J i ∧ J i < s 0 10) ∧ s 8 (J i) = 0 ∧ gh 1 (J i) = -1) ∧ (∀ i j, 0 ≤ i → i < j → j < jc → hvS s (J i) (J j)) ∧ (∀ k, 0 ≤ k → k < s 0 10 → s 8 k = 0 → gh 1 k = -1 → ∃ i, (0 ≤ i ∧ i < jc) ∧ J i = k)
theorem KN_KF {ka ba : Int → Nat} (h : KN B r s gh L ka ba) : KF B r s ka ba := fun k k0 k1 => by
  obtain ⟨h1, h2, h3, h4, h5⟩ := h k k0 k1
  exact ⟨⟨_, h1⟩, h2.1, h3, h4⟩
theorem e_stepInitG {nn : Nat} {f g c a b : Int} {v1 v2 v3 v4 v5 : Value} (hr : B + 8 ≤ r.2.1) (a0 : 0 ≤ a) (a1 : lR a) (b0 : 0 < b) (b1 : b < 1099511627776) : F_Sp_init [.ref r.2.1, vi f, vi g, vi c, vl a, vl b] (bg B tr n rad pw sm gi ga (zAl r nn (6, [v1, v2, v3, v4, v5]))) = some (none, bg B tr n rad pw sm gi ga (zAl r nn (6, [vi f, vi g, vi c, vl (a / gcdI a b), vl (b / gcdI a b)]))) := by
  have e := e_stepInit (h := bg B tr n rad pw sm gi ga r) (nn := nn) (f := f) (g := g) (c := c) (v1 := v1) (v2 := v2) (v3 := v3) (v4 := v4) (v5 := v5) a0 a1 b0 b1
  rw [bg_al hr, bg_al hr] at e
  exact e
theorem e_knotInitG {nn : Nat} {b : Nat} {L : BitVec 64} {f g : Value} {j : Int} {v1 v2 v3 v4 v5 v6 v7 : Value} (hr : B + 8 ≤ r.2.1) (hf : zTv 3 f = some f) (hg : zTv 3 g = some g) (hf2 : zTy 3 f = true) (hg2 : zTy 3 g = true) : F_Kn_init [.ref r.2.1, .ref b, vB L, f, g, vi j] (bg B tr n rad pw sm gi ga (zAl r nn (4, [v1, v2, v3, v4, v5, v6, v7]))) = some (none, bg B tr n rad pw sm gi ga (zAl r nn (4, [.ref b, vB L, f, g, vi j, .null, vi (-1)]))) := by
  have e := e_knotInit (h := bg B tr n rad pw sm gi ga r) (nn := nn) (b := b) (L := L) (j := j) (v1 := v1) (v2 := v2) (v3 := v3) (v4 := v4) (v5 := v5) (v6 := v6) (v7 := v7) hf hg hf2 hg2
  rw [bg_al hr, bg_al hr] at e
  exact e
theorem rN_ty {ka : Int → Nat} {k : Int} : zTv 3 (rN ka k) = some (rN ka k) ∧ zTy 3 (rN ka k) = true := by
  unfold rN
  split <;> exact ⟨rfl, rfl⟩
/-- one alone goes: the heap behind it -/
def rBeam (r : zHp) (s gh : Nat → Int → Int) (L : Int → BitVec 64) (ka ba : Int → Nat) (k t : Int) : zHp := zAl (zSet r (ka k) (4, [.ref (ba k), vB (L k), rN ka (s 6 k), rN ka (s 7 k), vi (gh 2 k), rN ka (gh 1 k), vi t])) 5 (6, [vi k, vi (-1), vi (-1), vl (upS s k (-1) / gcdI (upS s k (-1)) (dnS s k (-1))), vl (dnS s k (-1) / gcdI (upS s k (-1)) (dnS s k (-1)))])
theorem e_goToBeam {op J : Int → Int} {ka ba : Int → Nat} {k t : Int} (ok : sOK s) (st : sSet s) (kn : KN B r s gh L ka ba) (ki : KI (s 0 10) ka) (hn : n ≤ 40) (n79 : s 0 10 ≤ 79) (hr : B + 8 ≤ r.2.1) (o0 : 0 ≤ gi 0) (o1 : gi 0 ≤ n) (ho : ∀ i, 0 ≤ i → i < gi 0 → 0 ≤ op i ∧ op i < s 0 10) (hg : ∀ i, 0 ≤ i → i < gi 0 → ga 3 i = .ref (ka (op i))) (i0 : 0 ≤ gi 1) (i1 : gi 1 < gi 0) (hk : op (gi 1) = k) (h3 : gi 3 = upS s k (-1)) (h4 : gi 4 = dnS s k (-1)) (s0 : 0 ≤ gi 6) (s1 : gi 6 < n) (j0 : 0 ≤ gi 7) (j1 : gi 7 < n) (hJ : ∀ i, 0 ≤ i → i < gi 7 → 0 ≤ J i ∧ J i < s 0 10) (hg2 : ∀ i, 0 ≤ i → i < gi 7 → ga 2 i = .ref (ka (J i))) :
    ∃ (ga' : Nat → Int → Value) (p : Int), F_Ga_goToBeam [.ref B, vi t] (bg B tr n (s 0 12) (s 0 13) sm gi ga r) = some (none, bg B tr n (s 0 12) (s 0 13) sm (ug (ug (ug gi 6 (gi 6 + 1)) 7 (gi 7 + 1)) 0 (gi 0 - 1)) ga' (rBeam r s gh L ka ba k t)) ∧ (0 ≤ p ∧ p ≤ gi 7) ∧ ga' 0 = ga 0 ∧ (∀ u, ga' 1 u = if u = gi 6 then .ref r.2.1 else ga 1 u) ∧ (∀ j, 0 ≤ j → j ≤ gi 7 → ga' 2 j = insV (ga 2) p (.ref (ka k)) j) ∧ (∀ j, 0 ≤ j → j < gi 0 - 1 → ga' 3 j = if j < gi 1 then ga 3 j else ga 3 (j + 1)) ∧ ga' 4 = ga 4 ∧ (∀ j, p ≤ j → j < gi 7 → hvS s k (J j)) ∧ (p = 0 ∨ ¬ hvS s k (J (p - 1))) := by
  have ck := ho (gi 1) i0 i1
  rw [hk] at ck
  obtain ⟨y1, y2, y3, y4, y5⟩ := kn k ck.1 ck.2
  have o := ok k ck.1 ck.2
  have uf := up_fine ok st (show cR s k (-1) from ⟨ck, by omega⟩)
  have nba : ba k ≠ ka k := fun e => by rw [e, y1] at y3; cases y3
  have y1' : r.1 (ka k) = some (4, [.ref (ba k), vB (L k), rN ka (s 6 k), rN ka (s 7 k), vi (gh 2 k), rN ka (gh 1 k), vi (gh 3 k)]) := y1
  have y3' : r.1 (ba k) = some (0, [vi k, vi (s 3 k), vi (s 4 k), vi (s 5 k)]) := y3
  have hg1 : ga 3 (gi 1) = .ref (ka k) := by rw [hg _ i0 i1, hk]
  generalize hr1 : zSet r (ka k) (4, [.ref (ba k), vB (L k), rN ka (s 6 k), rN ka (s 7 k), vi (gh 2 k), rN ka (gh 1 k), vi t]) = ra
  have ra2 : ra.2 = r.2 := by rw [← hr1]; rfl
  have hrB : rBeam r s gh L ka ba k t = zAl ra 5 (6, [vi k, vi (-1), vi (-1), vl (upS s k (-1) / gcdI (upS s k (-1)) (dnS s k (-1))), vl (dnS s k (-1) / gcdI (upS s k (-1)) (dnS s k (-1)))]) := by unfold rBeam; rw [hr1]
  have hra : B + 8 ≤ ra.2.1 := by rw [ra2]; exact hr
  have z1 : ra.1 (ka k) = some (4, [.ref (ba k), vB (L k), rN ka (s 6 k), rN ka (s 7 k), vi (gh 2 k), rN ka (gh 1 k), vi t]) := by rw [← hr1]; exact zs_s
  have z3 : ra.1 (ba k) = some (0, [vi k, vi (s 3 k), vi (s 4 k), vi (s 5 k)]) := by rw [← hr1, zs_n nba]; exact y3'
  have w1 : ∀ {nn ob}, (zAl ra nn ob).1 (ka k) = _ := fun {nn ob} => (zl_n (by rw [ra2]; omega)).trans z1
  have w3 : ∀ {nn ob}, (zAl ra nn ob).1 (ba k) = _ := fun {nn ob} => (zl_n (by rw [ra2]; omega)).trans z3
  generalize hrb : zAl ra 5 (6, [vi k, vi (-1), vi (-1), vl (upS s k (-1) / gcdI (upS s k (-1)) (dnS s k (-1))), vl (dnS s k (-1) / gcdI (upS s k (-1)) (dnS s k (-1)))]) = rb at *
  rw [hrB]
  have F : ∀ e, 0 ≤ e → e < s 0 10 → (∃ vs, rb.1 (ka e) = some (4, .ref (ba e) :: vs)) ∧ rb.1 (ba e) = some (0, [vi e, vi (s 3 e), vi (s 4 e), vi (s 5 e)]) := by
    intro e e0 e1
    obtain ⟨x1, x2, x3, x4, x5⟩ := kn e e0 e1
    rw [← hrb]
    constructor
    · by_cases c : e = k
      · rw [c]; exact ⟨_, w1⟩
      · refine ⟨(kV s gh L ka ba e).tail, (zl_n (by rw [ra2]; omega)).trans ?_⟩
        rw [← hr1, zs_n (fun z => c (ki e k e0 e1 ck.1 ck.2 z))]
        exact x1
    · refine (zl_n (by rw [ra2]; omega)).trans ?_
      rw [← hr1, zs_n (fun z => by rw [z, y1] at x3; cases x3)]
      exact x3
  have hst : rb.1 ra.2.1 = some (6, [vi k, vi (-1), vi (-1), vl (upS s k (-1) / gcdI (upS s k (-1)) (dnS s k (-1))), vl (dnS s k (-1) / gcdI (upS s k (-1)) (dnS s k (-1)))]) := by rw [← hrb]; exact zl_s
  have eS := e_addStep (B := B) (tr := tr) (n := n) (rad := s 0 12) (pw := s 0 13) (sm := sm) (gi := gi) (ga := ga) hst hra hn s0 s1
  obtain ⟨Fk, Fb⟩ := F k ck.1 ck.2
  obtain ⟨vk, Fk⟩ := Fk
  obtain ⟨ga2, p, eJ, p0, g0, g1, g3, g4, g2, hp1, hp2⟩ := e_addJet (B := B) (tr := tr) (n := n) (rad := s 0 12) (pw := s 0 13) (sm := sm) (gi := ug gi 6 (gi 6 + 1)) (ga := ua ga 1 (gi 6) (.ref ra.2.1)) (r := rb) (a := ka k) (c := ba k) (N0 := k) (X0 := s 3 k) (Y0 := s 4 k) (W0 := s 5 k) (q := fun j => ka (J j)) (b := fun j => ba (J j)) (N := J) (X := fun j => s 3 (J j)) (Y := fun j => s 4 (J j)) (W := fun j => s 5 (J j)) (us := fun j => (if h : 0 ≤ J j ∧ J j < s 0 10 then (F (J j) h.1 h.2).1.choose else [])) Fk y2.1 Fb y4 ⟨⟨by omega, by omega⟩, by omega, by omega⟩ (fun j a0 a1 => by
    have a1' : j < gi 7 := by simpa [ug] using a1
    obtain ⟨q1, q2⟩ := hJ j a0 a1'
    obtain ⟨x1, x2, x3, x4, x5⟩ := kn (J j) q1 q2
    have oj := ok (J j) q1 q2
    refine ⟨by simp only [ua]; rw [if_neg (by omega)]; exact hg2 j a0 a1', ?_, x2.1, (F (J j) q1 q2).2, x4, ⟨by omega, by omega⟩, by omega, by omega⟩
    rw [dif_pos ⟨q1, q2⟩]
    exact (F (J j) q1 q2).1.choose_spec) hn (by simpa [ug] using j0) (by simpa [ug] using j1)
  have u7 : ug gi 6 (gi 6 + 1) 7 = gi 7 := by simp [ug]
  rw [u7] at eJ p0 g2 hp1
  have u0 : ug (ug gi 6 (gi 6 + 1)) 7 (gi 7 + 1) 0 = gi 0 := by simp [ug]
  obtain ⟨ga3, eT, t0, t1, t2, t4, t3⟩ := e_takeOut (B := B) (tr := tr) (n := n) (rad := s 0 12) (pw := s 0 13) (sm := sm) (gi := ug (ug gi 6 (gi 6 + 1)) 7 (gi 7 + 1)) (ga := ga2) (r := rb) (at_ := gi 1) (q := fun j => ka (op j)) (us := fun j => (if h : 0 ≤ op j ∧ op j < s 0 10 then .ref (ba (op j)) :: (F (op j) h.1 h.2).1.choose else [])) (fun j a0 a1 => by
    rw [u0] at a1
    obtain ⟨q1, q2⟩ := ho j a0 a1
    refine ⟨by rw [g3]; simp only [ua]; rw [if_neg (by omega)]; exact hg j a0 a1, ?_, (kn (op j) q1 q2).2.1.1⟩
    rw [dif_pos ⟨q1, q2⟩]
    exact (F (op j) q1 q2).1.choose_spec) hn (by rw [u0]; exact o1) i0 (by rw [u0]; exact i1)
  rw [u0] at eT t3
  refine ⟨ga3, p, ?_, p0, by rw [t0, g0]; funext i; simp [ua], fun u => by rw [t1, g1]; simp [ua, ra2], fun j a0 a1 => by rw [t2, g2 j a0 a1]; simp [insV, ua], fun j a0 a1 => by rw [t3 j a0 a1, g3]; simp [ua], by rw [t4, g4]; funext i; simp [ua], hp1, hp2⟩
  refine zMeq rfl ?_
  have hb1 : -2147483648 ≤ gi 1 := by omega
  simp (disch := first | assumption | omega | exact zTy_0 | exact zTy_3 | exact zTy_3n | exact zTy_1 | exact zTy_B | exact zTy_b0 | exact zTy_4 | exact zEl_n | exact zEz4 | exact zEz9 | exact hz _ _ | exact hz2 _ _ | exact zI0 | exact zI1 | exact zI2 | exact zI3 | exact zI4 | exact zI5 | exact zI6 | exact zI7 | exact zI8 | exact zI9 | exact zI10 | (simp only [zl_21, zl_22, zs_2, ne_eq]; omega) | ((repeat (refine Eq.trans (us_r (by decide)) ?_)); assumption) | ((simp (decide := true) only [us_k, us_s]); omega)) only [↓rKi, ↓rKl, ↓rKn, ↓rKd, ↓rL, ↓r2, ↓r1, ↓rC2, ↓rC1, ↓rCn, ↓rNot, ↓rAnd, ↓rOr, ↓rCi, ↓rBx, ↓rIte, ↓rGf, ↓rLen, ↓rAx, ↓rNa, ↓rA0, ↓rA1, ↓rCs, ↓rCv, ↓rAn, ↓rNew, ↓rSeq, ↓rSkip, ↓rBrk, ↓rCnt, ↓rRetV, ↓rAsg, ↓rRet, ↓rIf, ↓rPf, ↓rPfo, ↓rAs, ↓rAso, ↓rDo, ↓rObj, ↓rBl, ↓rSw, ↓rCopy, ↓zSq_0, ↓zSq_r, ↓zSq_1, ↓zSq_2, ↓zBq_l, ↓zBq_r, ↓zWq_0, ↓zWq_1, ↓zWq_2, ↓zWq_r, ↓zLo_0, ↓zLo_1, ↓zLo_2, ↓zLo_r, ↓zLt_0, ↓rTr, ↓zFin_s, ↓zFin_n, wX_r, wO_s, wI_t, wI_f, zLk_0, zLk_s, zTv_vi, zTv_vb, zTv_vl, zTv_d, zTv_r, zTv_n, zTv_4, zTo_s, zCl_n, zCl_0, zCl_s, Int32.reduceToInt, Int64.reduceToInt, e_add, e_sub, e_mul, e_neg, e_ladd, e_lsub, e_lmul, e_lneg, q_0, q_1, q_2, q_3, q_4, q_5, q_b0, q_b1, p_0, p_1, p_2, p_3, p_4, p_5, p_b0, p_b1, e_lcmp, pl_0, pl_1, pl_2, pl_3, pl_4, pl_5, e_i2l, e_l2i, e_idiv, e_irem, e_ldiv, e_lrem, List.set_cons_zero, List.set_cons_succ, List.getD_cons_zero, List.getD_cons_succ, List.getD_nil, dT, dF, decide_true, decide_false, not_true_eq_false, not_false_eq_true, Bool.not_true, Bool.not_false, zLay_1, zLay_c1, zLay_c2, zLay_n, zWds_n, zWds_c, zCat_0, zCat_1, zCat_3, zCat_4, zLay_4, List.nil_append, List.cons_append, List.replicate_succ, List.replicate_zero, zTy_0, zTy_b0, zTy_1, zTy_3, zTy_3n, zTy_4, and_true, true_and, Option.bind_some, zNul_n, zNul_r, List.getElem?_cons_zero, List.getElem?_cons_succ, Int.add_zero, zTv_B, zTy_B, b_and, b_or, b_andn, b_not, b_shl, b_cmp, b_cmp0, b_cmp0l, b_eq0, b_eq1, zs_2, zl_21, zl_22, gf_s, gf_l, pf_s, pf_l, zl_z, zs_z, nA, and_self, Nat.le_refl, Option.some.injEq, eq_self, Nat.reduceAdd, Nat.reduceSub, bg_2, bgt_0, bgf_0_0, bgf_0_1, bgf_0_2, bgf_0_3, bgf_0_4, bgp_0_4, bgf_0_5, bgp_0_5, bgf_0_6, bgp_0_6, bgf_0_7, bgp_0_7, bgf_0_8, bgp_0_8, bgt_1, bgf_1_0, bgf_1_1, bgf_1_2, bgf_1_3, bgf_1_4, bgf_1_5, bgp_1_5, bgf_1_6, bgf_1_7, bgp_1_7, bgf_1_8, bgf_1_9, bgp_1_9, bgf_1_10, bga_2, bgl_2, bgs_2, bga_3, bgl_3, bgs_3, bga_4, bgl_4, bgs_4, bga_5, bgl_5, bgs_5, bgt_6, bgf_6_0, bgp_6_0, bgf_6_1, bgp_6_1, bgf_6_2, bgp_6_2, bga_7, bgl_7, bgs_7, ug_s, ug_n, ua_s, ua_k, ua_j, zStK_64, zStK_65, zStK_67, zStK_68, zStK_69, zStK_70, zStK_71, zStK_72, zStK_73, S_Ga_goToBeam, hg1, bg_op y1', hr1, bg_al, bg_of w1, bg_of w3, h3, h4, e_stepInitG, hrb, eS, eJ, eT]
  rw [← hrb, zl_21, zl_22, ra2]
  omega
end
