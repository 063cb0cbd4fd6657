/-! THE GATHERER: from the tracks to the tree -/
section
variable {h : zHp} {tr n : Nat} {s : Nat → Int → Int}
def kN (B : Nat) : Int → Nat := fun k => B + 8 + k.toNat
def L0 : Int → BitVec 64 := fun k => 1#64 <<< k.toNat
theorem L0_bit {k : Int} {i : Nat} (k1 : k < 64) : (L0 k).getLsbD i = decide (i = k.toNat) := by
  unfold L0
  simp only [BitVec.getLsbD_shiftLeft, BitVec.getLsbD_one]
  by_cases c : i = k.toNat
  · subst c
    have : k.toNat < 64 := by omega
    simp [this]
  · by_cases d : i < k.toNat
    · simp [d, c]
    · simp [c]; omega
theorem GC_0 {gi : Nat → Int} {ga : Nat → Int → Value} {B : Nat} {r : zHp} {op J : Int → Int} {ba sa : Int → Nat} (hn : n ≤ 40) (g : GI n 0 s) (h14 : s 0 14 = 0 ∨ s 0 14 = 1) (s10 : s 0 10 = n) (lay : ∀ k : Int, 0 ≤ k → k < n → s 6 k = -1 ∧ s 7 k = -1 ∧ s 8 k = 1) (c : gi 0 = n ∧ gi 5 = n ∧ gi 6 = 0 ∧ gi 7 = 0) (ho : OP s n op) (kn : ∀ k : Int, 0 ≤ k → k < n → r.1 (kN B k) = some (4, [.ref (ba k), vB (L0 k), .null, .null, vi (-1), .null, vi (-1)]) ∧ r.1 (ba k) = some (0, bV s k) ∧ ba k < B) (hr : r.2.1 = B + 8 + n) (b0 : ∀ k : Int, 0 ≤ k → k < n → ga 0 k = .ref (kN B k)) (b3 : ∀ i : Int, 0 ≤ i → i < n → ga 3 i = .ref (kN B (op i))) : GC B n 0 s (fun _ _ => -1) L0 gi ga r op J (kN B) ba sa := by
  have j0 : jn s 0 = 0 := by simp [jn, isum]
  unfold GC
  rw [c.1, c.2.1, c.2.2.1, c.2.2.2, s10]
  refine ⟨⟨g, ⟨?_, ?_, ?_, ?_, ?_, ?_, ?_⟩, h14⟩, ⟨by omega, rfl, rfl, by omega, by omega⟩, ho, ⟨fun i a b => by omega, fun i j a b c => by omega, fun k a b c => ?_⟩, ⟨fun k a b => ?_, fun p q p0 p1 q0 q1 e => ?_, fun u a b => by omega, by omega⟩, b0, fun u a b => by omega, fun u a b => by omega, b3⟩
  · intro k a b
    have := lay k a b
    exact ⟨this.1, this.2.1, rfl, rfl⟩
  · intro k a b
    omega
  · intro k a b
    have := lay k a (by omega)
    exact ⟨fun _ => ⟨rfl, rfl⟩, fun z => by omega⟩
  · intro u a b
    omega
  · show s 0 10 = n + jn s 0
    omega
  · intro k e a b a2 b2 hke _ _
    apply BitVec.eq_of_getLsbD_eq
    intro i hi
    rw [BitVec.getLsbD_and, L0_bit (by omega), L0_bit (by omega)]
    have : ¬ (i = k.toNat ∧ i = e.toNat) := by omega
    by_cases z : i = k.toNat <;> by_cases z2 : i = e.toNat <;> simp_all
  · intro k a b
    refine ⟨fun z => ?_, fun i hi => by rw [L0_bit (by omega)]; simp; omega⟩
    have := congrArg (fun y => BitVec.getLsbD y k.toNat) z
    simp only [L0_bit (show k < 64 by omega)] at this
    simp at this
  · have := lay k a (by omega)
    omega
  · rw [s10] at b
    obtain ⟨x1, x2, x3⟩ := kn k a b
    have l := lay k a b
    refine ⟨?_, ⟨by unfold kN; omega, by unfold kN; omega⟩, x2, Or.inl x3, by omega⟩
    rw [x1]
    unfold kV rN
    rw [l.1, l.2.1]
    rfl
  · unfold kN at e
    omega
theorem e_gathered {rad pw sm : Int} {f : Int → Value} {ba : Int → Nat} (htr : h.1 tr = some (67, ar n f)) (htl : tr < h.2.1) (hba : ∀ k : Int, 0 ≤ k → k < n → f k = .ref (ba k) ∧ h.1 (ba k) = some (0, bV s k) ∧ ba k < h.2.1) (hn : n ≤ 40) (g : GI n 0 s) (s10 : s 0 10 = n) (hs : s 0 12 = rad ∧ s 0 13 = pw ∧ s 0 14 = sm) (h14 : s 0 14 = 0 ∨ s 0 14 = 1) (lay : ∀ k : Int, 0 ≤ k → k < n → s 6 k = -1 ∧ s 7 k = -1 ∧ s 8 k = 1) :
    ∃ (s2 gh2 : Nat → Int → Int) (L2 : Int → BitVec 64) (gi2 : Nat → Int) (ga2 : Nat → Int → Value) (rz : zHp) (op2 J2 : Int → Int) (ka2 ba2 sa2 : Int → Nat), gRun n s s2 ∧ GC h.2.1 n n s2 gh2 L2 gi2 ga2 rz op2 J2 ka2 ba2 sa2 ∧ (s2 0 12 = rad ∧ s2 0 13 = pw ∧ s2 0 14 = sm) ∧ ((∀ a, a < h.2.1 → rz.1 a = h.1 a) ∧ (h.2.1 + 8 ≤ rz.2.1 ∧ rz.2.1 ≤ h.2.1 + 8 + 4 * n) ∧ h.2.2 ≤ rz.2.2 ∧ rz.2.2 ≤ h.2.2 + 23 + 28 * n) ∧ F_Ga_gathered [.ref h.2.1] (bg h.2.1 tr n rad pw sm gi0 ga0 (gh0 h n)) = some (some (.ref (h.2.1 + 1)), bg h.2.1 tr n rad pw sm gi2 ga2 rz) := by
  generalize hB : h.2.1 = B at *
  have go0 : wS (fun o h' => ∃ (gi1 : Nat → Int) (ga1 : Nat → Int → Value) (rr : zHp) (op : Int → Int), ((gi1 0 = n ∧ gi1 5 = n ∧ gi1 6 = 0 ∧ gi1 7 = 0) ∧ OP s n op ∧ (∀ k : Int, 0 ≤ k → k < n → rr.1 (kN B k) = some (4, [.ref (ba k), vB (L0 k), .null, .null, vi (-1), .null, vi (-1)])) ∧ (∀ a, a < B → rr.1 a = h.1 a) ∧ (rr.2.1 = B + 8 + n ∧ rr.2.2 = h.2.2 + (23 + 5 * n) + 7 * n) ∧ (∀ k : Int, 0 ≤ k → k < n → ga1 0 k = .ref (kN B k)) ∧ (∀ i : Int, 0 ≤ i → i < n → ga1 3 i = .ref (kN B (op i)))) ∧ o = .inl (0, [.ref B, vi (n : Int)]) ∧ h' = bg B tr n rad pw sm gi1 ga1 rr) L_Ga_gathered_0 [.ref B, vi 0] (bg B tr n rad pw sm gi0 ga0 (gh0 h n)) (zu _) := by
    refine wForI (fun i env h' => ∃ (gi1 : Nat → Int) (ga1 : Nat → Int → Value) (rr : zHp) (op : Int → Int), (h' = bg B tr n rad pw sm gi1 ga1 rr ∧ env = [.ref B, vi i]) ∧ ((gi1 0 = i ∧ gi1 5 = i ∧ gi1 6 = 0 ∧ gi1 7 = 0) ∧ OP (us s 0 10 i) i op ∧ (∀ k : Int, 0 ≤ k → k < i → rr.1 (kN B k) = some (4, [.ref (ba k), vB (L0 k), .null, .null, vi (-1), .null, vi (-1)])) ∧ (∀ a, a < B → rr.1 a = h.1 a) ∧ (rr.2.1 = B + 8 + i.toNat ∧ rr.2.2 = h.2.2 + (23 + 5 * n) + 7 * i.toNat) ∧ (∀ k : Int, 0 ≤ k → k < i → ga1 0 k = .ref (kN B k)) ∧ (∀ j : Int, 0 ≤ j → j < i → ga1 3 j = .ref (kN B (op j))))) 0 n (by omega) (by omega) ⟨gi0, ga0, gh0 h n, id, ⟨rfl, rfl⟩, ⟨rfl, rfl, rfl, rfl⟩, ⟨fun i a b => by omega, fun i j a b c => by omega, fun k a b c => by rw [us_s] at b; omega⟩, fun k a b => by omega, fun a _ => rfl, ⟨by show h.2.1 + 8 = _; omega, rfl⟩, fun k a b => by omega, fun k a b => by omega⟩ ?_ ?_
    · intro i env h' i0 i1 ⟨gi1, ga1, rr, op, ⟨hh, he⟩, ⟨c0, c5, c6, c7⟩, ho, kn, hfr, ⟨r21, r22⟩, b0, b3⟩
      subst hh
      subst he
      obtain ⟨x1, x2, x3⟩ := hba i i0 i1
      have lt1 : ∀ {nn ob}, (zAl rr nn ob).1 tr = some (67, ar n f) := fun {nn ob} => (zl_n (by omega)).trans ((hfr tr htl).trans htr)
      have htr1 : rr.1 tr = some (67, ar n f) := (hfr tr htl).trans htr
      have hr8 : B + 8 ≤ rr.2.1 := by omega
      have eK := e_knotInitG (B := B) (tr := tr) (n := n) (rad := rad) (pw := pw) (sm := sm) (gi := gi1) (ga := ga1) (r := rr) (nn := 7) (b := ba i) (L := L0 i) (f := .null) (g := .null) (j := -1) (v1 := .null) (v2 := .long 0) (v3 := .null) (v4 := .null) (v5 := .int 0) (v6 := .null) (v7 := .int 0) hr8 rfl rfl rfl rfl
      have eb := fun H => e_bitOf (h := H) (k := i) i0 (by omega)
      have hL0 : (1#64 <<< i.toNat) = L0 i := rfl
      rw [hL0] at eb
      have ok : ∀ k : Int, 0 ≤ k → k < n → _ := fun k a b => g.2.2.2.1 k a (by rw [s10]; exact b)
      have oi := ok i i0 i1
      -- the knot is there
      generalize hrn : zAl rr 7 (4, [.ref (ba i), vB (L0 i), .null, .null, vi (-1), .null, vi (-1)]) = rn at *
      have rn1 : rn.1 rr.2.1 = some (4, [.ref (ba i), vB (L0 i), .null, .null, vi (-1), .null, vi (-1)]) := by rw [← hrn]; exact zl_s
      have rno : ∀ a, a ≠ rr.2.1 → rn.1 a = rr.1 a := fun a ha => by rw [← hrn]; exact zl_n ha
      have rn2 : rn.2.1 = rr.2.1 + 1 ∧ rn.2.2 = rr.2.2 + 7 := by rw [← hrn]; exact ⟨rfl, rfl⟩
      have bb : ∀ k : Int, 0 ≤ k → k < n → rn.1 (ba k) = some (0, bV s k) ∧ ba k < B := fun k a b => by
        obtain ⟨z1, z2, z3⟩ := hba k a b
        exact ⟨(rno _ (by omega)).trans ((hfr _ z3).trans z2), z3⟩
      have opl : ∀ j : Int, 0 ≤ j → j < i → 0 ≤ op j ∧ op j < i := fun j a b => by have := (ho.1 j a b).1; rwa [us_s] at this
      obtain ⟨ga2, p, eP, p0, d0, d1, d2, d4, d3, d5, d6⟩ := e_putIn (B := B) (tr := tr) (n := n) (rad := rad) (pw := pw) (sm := sm) (gi := gi1) (ga := ga1) (r := rn) (a := rr.2.1) (c := ba i) (N0 := i) (X0 := s 3 i) (Y0 := s 4 i) (W0 := s 5 i) (q := fun j => kN B (op j)) (b := fun j => ba (op j)) (N := fun j => op j) (X := fun j => s 3 (op j)) (Y := fun j => s 4 (op j)) (W := fun j => s 5 (op j)) (us := fun j => [vB (L0 (op j)), .null, .null, vi (-1), .null, vi (-1)]) rn1 hr8 (bb i i0 i1).1 (Or.inl x3) ⟨⟨by omega, by omega⟩, by omega, by omega⟩ (fun j a b => by
        rw [c0] at b
        have l := opl j a b
        have o := ok (op j) l.1 (by omega)
        refine ⟨b3 j a b, (rno _ (by unfold kN; omega)).trans (kn _ l.1 l.2), by unfold kN; omega, (bb _ l.1 (by omega)).1, Or.inl (bb _ l.1 (by omega)).2, ⟨by omega, by omega⟩, by omega, by omega⟩) hn (by omega) (by omega) (by omega) (by omega)
      rw [c0] at p0 d3 d5
      rw [c5] at d0
      simp (disch := first | assumption | omega | exact zTy_0 | exact zTy_3 | exact zTy_3n | exact zTy_1 | exact zTy_B | exact zTy_b0 | exact zTy_4 | exact zEl_n | exact zEz4 | exact zEz9 | exact hz _ _ | exact hz2 _ _ | exact zI0 | exact zI1 | exact zI2 | exact zI3 | exact zI4 | exact zI5 | exact zI6 | exact zI7 | exact zI8 | exact zI9 | exact zI10 | (simp only [zl_21, zl_22, zs_2, ne_eq]; omega) | ((repeat (refine Eq.trans (us_r (by decide)) ?_)); assumption) | ((simp (decide := true) only [us_k, us_s]); omega)) only [↓rKi, ↓rKl, ↓rKn, ↓rKd, ↓rL, ↓r2, ↓r1, ↓rC2, ↓rC1, ↓rCn, ↓rNot, ↓rAnd, ↓rOr, ↓rCi, ↓rBx, ↓rIte, ↓rGf, ↓rLen, ↓rAx, ↓rNa, ↓rA0, ↓rA1, ↓rCs, ↓rCv, ↓rAn, ↓rNew, ↓rSeq, ↓rSkip, ↓rBrk, ↓rCnt, ↓rRetV, ↓rAsg, ↓rRet, ↓rIf, ↓rPf, ↓rPfo, ↓rAs, ↓rAso, ↓rDo, ↓rObj, ↓rBl, ↓rSw, ↓rCopy, ↓zSq_0, ↓zSq_r, ↓zSq_1, ↓zSq_2, ↓zBq_l, ↓zBq_r, ↓zWq_0, ↓zWq_1, ↓zWq_2, ↓zWq_r, ↓zLo_0, ↓zLo_1, ↓zLo_2, ↓zLo_r, ↓zLt_0, ↓rTr, ↓zFin_s, ↓zFin_n, wX_r, wO_s, wI_t, wI_f, zLk_0, zLk_s, zTv_vi, zTv_vb, zTv_vl, zTv_d, zTv_r, zTv_n, zTv_4, zTo_s, zCl_n, zCl_0, zCl_s, Int32.reduceToInt, Int64.reduceToInt, e_add, e_sub, e_mul, e_neg, e_ladd, e_lsub, e_lmul, e_lneg, q_0, q_1, q_2, q_3, q_4, q_5, q_b0, q_b1, p_0, p_1, p_2, p_3, p_4, p_5, p_b0, p_b1, e_lcmp, pl_0, pl_1, pl_2, pl_3, pl_4, pl_5, e_i2l, e_l2i, e_idiv, e_irem, e_ldiv, e_lrem, List.set_cons_zero, List.set_cons_succ, List.getD_cons_zero, List.getD_cons_succ, List.getD_nil, dT, dF, decide_true, decide_false, not_true_eq_false, not_false_eq_true, Bool.not_true, Bool.not_false, zLay_1, zLay_c1, zLay_c2, zLay_n, zWds_n, zWds_c, zCat_0, zCat_1, zCat_3, zCat_4, zLay_4, List.nil_append, List.cons_append, List.replicate_succ, List.replicate_zero, zTy_0, zTy_b0, zTy_1, zTy_3, zTy_3n, zTy_4, and_true, true_and, Option.bind_some, zNul_n, zNul_r, List.getElem?_cons_zero, List.getElem?_cons_succ, Int.add_zero, zTv_B, zTy_B, b_and, b_or, b_andn, b_not, b_shl, b_cmp, b_cmp0, b_cmp0l, b_eq0, b_eq1, zs_2, zl_21, zl_22, gf_s, gf_l, pf_s, pf_l, zl_z, zs_z, nA, and_self, Nat.le_refl, Option.some.injEq, eq_self, Nat.reduceAdd, Nat.reduceSub, bg_2, bgt_0, bgf_0_0, bgf_0_1, bgf_0_2, bgf_0_3, bgf_0_4, bgp_0_4, bgf_0_5, bgp_0_5, bgf_0_6, bgp_0_6, bgf_0_7, bgp_0_7, bgf_0_8, bgp_0_8, bgt_1, bgf_1_0, bgf_1_1, bgf_1_2, bgf_1_3, bgf_1_4, bgf_1_5, bgp_1_5, bgf_1_6, bgf_1_7, bgp_1_7, bgf_1_8, bgf_1_9, bgp_1_9, bgf_1_10, bga_2, bgl_2, bgs_2, bga_3, bgl_3, bgs_3, bga_4, bgl_4, bgs_4, bga_5, bgl_5, bgs_5, bgt_6, bgf_6_0, bgp_6_0, bgf_6_1, bgp_6_1, bgf_6_2, bgp_6_2, bga_7, bgl_7, bgs_7, ug_s, ug_n, ua_s, ua_k, ua_j, zStK_64, zStK_65, zStK_67, zStK_68, zStK_69, zStK_70, zStK_71, zStK_72, zStK_73, C_Ga_gathered_0, B_Ga_gathered_0, T_Ga_gathered_0, bg_ol htr1, bg_al, bg_oa lt1, x1, eb, eK, hrn, eP]
      have e10 : us (us s 0 10 i) 0 10 (i + 1) = us s 0 10 (i + 1) := by
        funext a b
        simp only [us]
        split <;> rfl
      have s3 : ∀ j a b k, k ≠ 0 → us s 0 10 j k a = us s 0 10 b k a := fun j a b k hk => by rw [us_k hk, us_k hk]
      have oi := OP_ins (s' := us s 0 10 (i + 1)) ho p0.1 p0.2 (by rw [us_s, us_s]) (by rw [us_s]; exact i0) (fun j _ _ => s3 _ _ _ _ (by decide)) (fun j _ _ => s3 _ _ _ _ (by decide)) (fun j _ _ => s3 _ _ _ _ (by decide)) (fun j _ _ => s3 _ _ _ _ (by decide)) (by rw [us_k (by decide), us_s]; exact (lay i i0 i1).2.2) (fun j a b => by
        have := d5 j a b
        simp only [ahS, us_s, us_k (show (3 : Nat) ≠ 0 by decide), us_k (show (4 : Nat) ≠ 0 by decide), us_k (show (5 : Nat) ≠ 0 by decide)]
        exact this) (by
        rcases d6 with z | z
        · exact Or.inl z
        · right
          simp only [ahS, us_s, us_k (show (3 : Nat) ≠ 0 by decide), us_k (show (4 : Nat) ≠ 0 by decide), us_k (show (5 : Nat) ≠ 0 by decide)]
          exact z)
      rw [us_s] at oi
      refine ⟨_, ga2, rn, insO op p i, rfl, ⟨by rw [ug_s, c0], by rw [ug_n (by decide), ug_s, c5], by rw [ug_n (by decide), ug_n (by decide)]; exact c6, by rw [ug_n (by decide), ug_n (by decide)]; exact c7⟩, oi, fun k a b => ?_, fun a ha => (rno a (by omega)).trans (hfr a ha), ⟨by omega, by omega⟩, fun k a b => ?_, fun j a b => ?_⟩
      · by_cases z : k = i
        · rw [z, show kN B i = rr.2.1 by unfold kN; omega]; exact rn1
        · exact (rno _ (by unfold kN; omega)).trans (kn k a (by omega))
      · rw [d0]
        by_cases z : k = i
        · rw [if_pos z, z, show kN B i = rr.2.1 by unfold kN; omega]
        · rw [if_neg z]; exact b0 k a (by omega)
      · rw [d3 j a (by omega)]
        unfold insV insO
        by_cases z : j < p
        · rw [if_pos z, if_pos z]; exact b3 j a (by omega)
        · by_cases w : j = p
          · rw [if_neg z, if_pos w, if_neg z, if_pos w, show kN B i = rr.2.1 by unfold kN; omega]
          · rw [if_neg z, if_neg w, if_neg z, if_neg w]; exact b3 (j - 1) (by omega) (by omega)
    · intro env h' ⟨gi1, ga1, rr, op, ⟨hh, he⟩, c, ho, kn, hfr, rz, b0, b3⟩
      subst hh
      subst he
      have htr1 : rr.1 tr = some (67, ar n f) := (hfr tr htl).trans htr
      have e10 : us s 0 10 n = s := by
        funext a b
        simp only [us]
        split
        · next z => rw [z.1, z.2, s10]
        · rfl
      rw [e10] at ho
      simp (disch := first | assumption | omega | exact zTy_0 | exact zTy_3 | exact zTy_3n | exact zTy_1 | exact zTy_B | exact zTy_b0 | exact zTy_4 | exact zEl_n | exact zEz4 | exact zEz9 | exact hz _ _ | exact hz2 _ _ | exact zI0 | exact zI1 | exact zI2 | exact zI3 | exact zI4 | exact zI5 | exact zI6 | exact zI7 | exact zI8 | exact zI9 | exact zI10 | (simp only [zl_21, zl_22, zs_2, ne_eq]; omega) | ((repeat (refine Eq.trans (us_r (by decide)) ?_)); assumption) | ((simp (decide := true) only [us_k, us_s]); omega)) only [↓rKi, ↓rKl, ↓rKn, ↓rKd, ↓rL, ↓r2, ↓r1, ↓rC2, ↓rC1, ↓rCn, ↓rNot, ↓rAnd, ↓rOr, ↓rCi, ↓rBx, ↓rIte, ↓rGf, ↓rLen, ↓rAx, ↓rNa, ↓rA0, ↓rA1, ↓rCs, ↓rCv, ↓rAn, ↓rNew, ↓rSeq, ↓rSkip, ↓rBrk, ↓rCnt, ↓rRetV, ↓rAsg, ↓rRet, ↓rIf, ↓rPf, ↓rPfo, ↓rAs, ↓rAso, ↓rDo, ↓rObj, ↓rBl, ↓rSw, ↓rCopy, ↓zSq_0, ↓zSq_r, ↓zSq_1, ↓zSq_2, ↓zBq_l, ↓zBq_r, ↓zWq_0, ↓zWq_1, ↓zWq_2, ↓zWq_r, ↓zLo_0, ↓zLo_1, ↓zLo_2, ↓zLo_r, ↓zLt_0, ↓rTr, ↓zFin_s, ↓zFin_n, wX_r, wO_s, wI_t, wI_f, zLk_0, zLk_s, zTv_vi, zTv_vb, zTv_vl, zTv_d, zTv_r, zTv_n, zTv_4, zTo_s, zCl_n, zCl_0, zCl_s, Int32.reduceToInt, Int64.reduceToInt, e_add, e_sub, e_mul, e_neg, e_ladd, e_lsub, e_lmul, e_lneg, q_0, q_1, q_2, q_3, q_4, q_5, q_b0, q_b1, p_0, p_1, p_2, p_3, p_4, p_5, p_b0, p_b1, e_lcmp, pl_0, pl_1, pl_2, pl_3, pl_4, pl_5, e_i2l, e_l2i, e_idiv, e_irem, e_ldiv, e_lrem, List.set_cons_zero, List.set_cons_succ, List.getD_cons_zero, List.getD_cons_succ, List.getD_nil, dT, dF, decide_true, decide_false, not_true_eq_false, not_false_eq_true, Bool.not_true, Bool.not_false, zLay_1, zLay_c1, zLay_c2, zLay_n, zWds_n, zWds_c, zCat_0, zCat_1, zCat_3, zCat_4, zLay_4, List.nil_append, List.cons_append, List.replicate_succ, List.replicate_zero, zTy_0, zTy_b0, zTy_1, zTy_3, zTy_3n, zTy_4, and_true, true_and, Option.bind_some, zNul_n, zNul_r, List.getElem?_cons_zero, List.getElem?_cons_succ, Int.add_zero, zTv_B, zTy_B, b_and, b_or, b_andn, b_not, b_shl, b_cmp, b_cmp0, b_cmp0l, b_eq0, b_eq1, zs_2, zl_21, zl_22, gf_s, gf_l, pf_s, pf_l, zl_z, zs_z, nA, and_self, Nat.le_refl, Option.some.injEq, eq_self, Nat.reduceAdd, Nat.reduceSub, bg_2, bgt_0, bgf_0_0, bgf_0_1, bgf_0_2, bgf_0_3, bgf_0_4, bgp_0_4, bgf_0_5, bgp_0_5, bgf_0_6, bgp_0_6, bgf_0_7, bgp_0_7, bgf_0_8, bgp_0_8, bgt_1, bgf_1_0, bgf_1_1, bgf_1_2, bgf_1_3, bgf_1_4, bgf_1_5, bgp_1_5, bgf_1_6, bgf_1_7, bgp_1_7, bgf_1_8, bgf_1_9, bgp_1_9, bgf_1_10, bga_2, bgl_2, bgs_2, bga_3, bgl_3, bgs_3, bga_4, bgl_4, bgs_4, bga_5, bgl_5, bgs_5, bgt_6, bgf_6_0, bgp_6_0, bgf_6_1, bgp_6_1, bgf_6_2, bgp_6_2, bga_7, bgl_7, bgs_7, ug_s, ug_n, ua_s, ua_k, ua_j, zStK_64, zStK_65, zStK_67, zStK_68, zStK_69, zStK_70, zStK_71, zStK_72, zStK_73, C_Ga_gathered_0, B_Ga_gathered_0, T_Ga_gathered_0, bg_ol htr1]
      exact ⟨gi1, ga1, rr, op, ⟨c, ho, kn, hfr, by simpa using rz, b0, b3⟩, rfl⟩
  obtain ⟨o, h', e1, gi1, ga1, rr, op, ⟨c, ho, kn, hfr, ⟨r21, r22⟩, b0, b3⟩, rfl, rfl⟩ := go0
  have G0 := GC_0 (J := id) (sa := fun _ => 0) hn g h14 s10 lay c ho (fun k a b => ⟨kn k a b, (hfr _ (hba k a b).2.2).trans (hba k a b).2.1, (hba k a b).2.2⟩) r21 b0 b3
  obtain ⟨s2, gh2, L2, gi2, ga2, rz, op2, J2, ka2, ba2, sa2, y1, y2, y3, ⟨y4, y5, y6⟩, e2⟩ := L_gathered1 ((hfr tr htl).trans htr) htl hn G0
  rw [hs.1, hs.2.1, hs.2.2] at e2 y3
  refine ⟨s2, gh2, L2, gi2, ga2, rz, op2, J2, ka2, ba2, sa2, y1, y2, y3, ⟨fun a ha => (y4 a ha).trans (hfr a ha), by omega, by omega⟩, ?_⟩
  refine zMeq rfl ?_
  simp (disch := first | assumption | omega | exact zTy_0 | exact zTy_3 | exact zTy_3n | exact zTy_1 | exact zTy_B | exact zTy_b0 | exact zTy_4 | exact zEl_n | exact zEz4 | exact zEz9 | exact hz _ _ | exact hz2 _ _ | exact zI0 | exact zI1 | exact zI2 | exact zI3 | exact zI4 | exact zI5 | exact zI6 | exact zI7 | exact zI8 | exact zI9 | exact zI10 | (simp only [zl_21, zl_22, zs_2, ne_eq]; omega) | ((repeat (refine Eq.trans (us_r (by decide)) ?_)); assumption) | ((simp (decide := true) only [us_k, us_s]); omega)) only [↓rKi, ↓rKl, ↓rKn, ↓rKd, ↓rL, ↓r2, ↓r1, ↓rC2, ↓rC1, ↓rCn, ↓rNot, ↓rAnd, ↓rOr, ↓rCi, ↓rBx, ↓rIte, ↓rGf, ↓rLen, ↓rAx, ↓rNa, ↓rA0, ↓rA1, ↓rCs, ↓rCv, ↓rAn, ↓rNew, ↓rSeq, ↓rSkip, ↓rBrk, ↓rCnt, ↓rRetV, ↓rAsg, ↓rRet, ↓rIf, ↓rPf, ↓rPfo, ↓rAs, ↓rAso, ↓rDo, ↓rObj, ↓rBl, ↓rSw, ↓rCopy, ↓zSq_0, ↓zSq_r, ↓zSq_1, ↓zSq_2, ↓zBq_l, ↓zBq_r, ↓zWq_0, ↓zWq_1, ↓zWq_2, ↓zWq_r, ↓zLo_0, ↓zLo_1, ↓zLo_2, ↓zLo_r, ↓zLt_0, ↓rTr, ↓zFin_s, ↓zFin_n, wX_r, wO_s, wI_t, wI_f, zLk_0, zLk_s, zTv_vi, zTv_vb, zTv_vl, zTv_d, zTv_r, zTv_n, zTv_4, zTo_s, zCl_n, zCl_0, zCl_s, Int32.reduceToInt, Int64.reduceToInt, e_add, e_sub, e_mul, e_neg, e_ladd, e_lsub, e_lmul, e_lneg, q_0, q_1, q_2, q_3, q_4, q_5, q_b0, q_b1, p_0, p_1, p_2, p_3, p_4, p_5, p_b0, p_b1, e_lcmp, pl_0, pl_1, pl_2, pl_3, pl_4, pl_5, e_i2l, e_l2i, e_idiv, e_irem, e_ldiv, e_lrem, List.set_cons_zero, List.set_cons_succ, List.getD_cons_zero, List.getD_cons_succ, List.getD_nil, dT, dF, decide_true, decide_false, not_true_eq_false, not_false_eq_true, Bool.not_true, Bool.not_false, zLay_1, zLay_c1, zLay_c2, zLay_n, zWds_n, zWds_c, zCat_0, zCat_1, zCat_3, zCat_4, zLay_4, List.nil_append, List.cons_append, List.replicate_succ, List.replicate_zero, zTy_0, zTy_b0, zTy_1, zTy_3, zTy_3n, zTy_4, and_true, true_and, Option.bind_some, zNul_n, zNul_r, List.getElem?_cons_zero, List.getElem?_cons_succ, Int.add_zero, zTv_B, zTy_B, b_and, b_or, b_andn, b_not, b_shl, b_cmp, b_cmp0, b_cmp0l, b_eq0, b_eq1, zs_2, zl_21, zl_22, gf_s, gf_l, pf_s, pf_l, zl_z, zs_z, nA, and_self, Nat.le_refl, Option.some.injEq, eq_self, Nat.reduceAdd, Nat.reduceSub, bg_2, bgt_0, bgf_0_0, bgf_0_1, bgf_0_2, bgf_0_3, bgf_0_4, bgp_0_4, bgf_0_5, bgp_0_5, bgf_0_6, bgp_0_6, bgf_0_7, bgp_0_7, bgf_0_8, bgp_0_8, bgt_1, bgf_1_0, bgf_1_1, bgf_1_2, bgf_1_3, bgf_1_4, bgf_1_5, bgp_1_5, bgf_1_6, bgf_1_7, bgp_1_7, bgf_1_8, bgf_1_9, bgp_1_9, bgf_1_10, bga_2, bgl_2, bgs_2, bga_3, bgl_3, bgs_3, bga_4, bgl_4, bgs_4, bga_5, bgl_5, bgs_5, bgt_6, bgf_6_0, bgp_6_0, bgf_6_1, bgp_6_1, bgf_6_2, bgp_6_2, bga_7, bgl_7, bgs_7, ug_s, ug_n, ua_s, ua_k, ua_j, zStK_64, zStK_65, zStK_67, zStK_68, zStK_69, zStK_70, zStK_71, zStK_72, zStK_73, S_Ga_gathered]
  refine wS_of e1 ?_
  simp (disch := first | assumption | omega | exact zTy_0 | exact zTy_3 | exact zTy_3n | exact zTy_1 | exact zTy_B | exact zTy_b0 | exact zTy_4 | exact zEl_n | exact zEz4 | exact zEz9 | exact hz _ _ | exact hz2 _ _ | exact zI0 | exact zI1 | exact zI2 | exact zI3 | exact zI4 | exact zI5 | exact zI6 | exact zI7 | exact zI8 | exact zI9 | exact zI10 | (simp only [zl_21, zl_22, zs_2, ne_eq]; omega) | ((repeat (refine Eq.trans (us_r (by decide)) ?_)); assumption) | ((simp (decide := true) only [us_k, us_s]); omega)) only [↓rKi, ↓rKl, ↓rKn, ↓rKd, ↓rL, ↓r2, ↓r1, ↓rC2, ↓rC1, ↓rCn, ↓rNot, ↓rAnd, ↓rOr, ↓rCi, ↓rBx, ↓rIte, ↓rGf, ↓rLen, ↓rAx, ↓rNa, ↓rA0, ↓rA1, ↓rCs, ↓rCv, ↓rAn, ↓rNew, ↓rSeq, ↓rSkip, ↓rBrk, ↓rCnt, ↓rRetV, ↓rAsg, ↓rRet, ↓rIf, ↓rPf, ↓rPfo, ↓rAs, ↓rAso, ↓rDo, ↓rObj, ↓rBl, ↓rSw, ↓rCopy, ↓zSq_0, ↓zSq_r, ↓zSq_1, ↓zSq_2, ↓zBq_l, ↓zBq_r, ↓zWq_0, ↓zWq_1, ↓zWq_2, ↓zWq_r, ↓zLo_0, ↓zLo_1, ↓zLo_2, ↓zLo_r, ↓zLt_0, ↓rTr, ↓zFin_s, ↓zFin_n, wX_r, wO_s, wI_t, wI_f, zLk_0, zLk_s, zTv_vi, zTv_vb, zTv_vl, zTv_d, zTv_r, zTv_n, zTv_4, zTo_s, zCl_n, zCl_0, zCl_s, Int32.reduceToInt, Int64.reduceToInt, e_add, e_sub, e_mul, e_neg, e_ladd, e_lsub, e_lmul, e_lneg, q_0, q_1, q_2, q_3, q_4, q_5, q_b0, q_b1, p_0, p_1, p_2, p_3, p_4, p_5, p_b0, p_b1, e_lcmp, pl_0, pl_1, pl_2, pl_3, pl_4, pl_5, e_i2l, e_l2i, e_idiv, e_irem, e_ldiv, e_lrem, List.set_cons_zero, List.set_cons_succ, List.getD_cons_zero, List.getD_cons_succ, List.getD_nil, dT, dF, decide_true, decide_false, not_true_eq_false, not_false_eq_true, Bool.not_true, Bool.not_false, zLay_1, zLay_c1, zLay_c2, zLay_n, zWds_n, zWds_c, zCat_0, zCat_1, zCat_3, zCat_4, zLay_4, List.nil_append, List.cons_append, List.replicate_succ, List.replicate_zero, zTy_0, zTy_b0, zTy_1, zTy_3, zTy_3n, zTy_4, and_true, true_and, Option.bind_some, zNul_n, zNul_r, List.getElem?_cons_zero, List.getElem?_cons_succ, Int.add_zero, zTv_B, zTy_B, b_and, b_or, b_andn, b_not, b_shl, b_cmp, b_cmp0, b_cmp0l, b_eq0, b_eq1, zs_2, zl_21, zl_22, gf_s, gf_l, pf_s, pf_l, zl_z, zs_z, nA, and_self, Nat.le_refl, Option.some.injEq, eq_self, Nat.reduceAdd, Nat.reduceSub, bg_2, bgt_0, bgf_0_0, bgf_0_1, bgf_0_2, bgf_0_3, bgf_0_4, bgp_0_4, bgf_0_5, bgp_0_5, bgf_0_6, bgp_0_6, bgf_0_7, bgp_0_7, bgf_0_8, bgp_0_8, bgt_1, bgf_1_0, bgf_1_1, bgf_1_2, bgf_1_3, bgf_1_4, bgf_1_5, bgp_1_5, bgf_1_6, bgf_1_7, bgp_1_7, bgf_1_8, bgf_1_9, bgp_1_9, bgf_1_10, bga_2, bgl_2, bgs_2, bga_3, bgl_3, bgs_3, bga_4, bgl_4, bgs_4, bga_5, bgl_5, bgs_5, bgt_6, bgf_6_0, bgp_6_0, bgf_6_1, bgp_6_1, bgf_6_2, bgp_6_2, bga_7, bgl_7, bgs_7, ug_s, ug_n, ua_s, ua_k, ua_j, zStK_64, zStK_65, zStK_67, zStK_68, zStK_69, zStK_70, zStK_71, zStK_72, zStK_73,]
  refine wS_of e2 ?_
  simp (disch := first | assumption | omega | exact zTy_0 | exact zTy_3 | exact zTy_3n | exact zTy_1 | exact zTy_B | exact zTy_b0 | exact zTy_4 | exact zEl_n | exact zEz4 | exact zEz9 | exact hz _ _ | exact hz2 _ _ | exact zI0 | exact zI1 | exact zI2 | exact zI3 | exact zI4 | exact zI5 | exact zI6 | exact zI7 | exact zI8 | exact zI9 | exact zI10 | (simp only [zl_21, zl_22, zs_2, ne_eq]; omega) | ((repeat (refine Eq.trans (us_r (by decide)) ?_)); assumption) | ((simp (decide := true) only [us_k, us_s]); omega)) only [↓rKi, ↓rKl, ↓rKn, ↓rKd, ↓rL, ↓r2, ↓r1, ↓rC2, ↓rC1, ↓rCn, ↓rNot, ↓rAnd, ↓rOr, ↓rCi, ↓rBx, ↓rIte, ↓rGf, ↓rLen, ↓rAx, ↓rNa, ↓rA0, ↓rA1, ↓rCs, ↓rCv, ↓rAn, ↓rNew, ↓rSeq, ↓rSkip, ↓rBrk, ↓rCnt, ↓rRetV, ↓rAsg, ↓rRet, ↓rIf, ↓rPf, ↓rPfo, ↓rAs, ↓rAso, ↓rDo, ↓rObj, ↓rBl, ↓rSw, ↓rCopy, ↓zSq_0, ↓zSq_r, ↓zSq_1, ↓zSq_2, ↓zBq_l, ↓zBq_r, ↓zWq_0, ↓zWq_1, ↓zWq_2, ↓zWq_r, ↓zLo_0, ↓zLo_1, ↓zLo_2, ↓zLo_r, ↓zLt_0, ↓rTr, ↓zFin_s, ↓zFin_n, wX_r, wO_s, wI_t, wI_f, zLk_0, zLk_s, zTv_vi, zTv_vb, zTv_vl, zTv_d, zTv_r, zTv_n, zTv_4, zTo_s, zCl_n, zCl_0, zCl_s, Int32.reduceToInt, Int64.reduceToInt, e_add, e_sub, e_mul, e_neg, e_ladd, e_lsub, e_lmul, e_lneg, q_0, q_1, q_2, q_3, q_4, q_5, q_b0, q_b1, p_0, p_1, p_2, p_3, p_4, p_5, p_b0, p_b1, e_lcmp, pl_0, pl_1, pl_2, pl_3, pl_4, pl_5, e_i2l, e_l2i, e_idiv, e_irem, e_ldiv, e_lrem, List.set_cons_zero, List.set_cons_succ, List.getD_cons_zero, List.getD_cons_succ, List.getD_nil, dT, dF, decide_true, decide_false, not_true_eq_false, not_false_eq_true, Bool.not_true, Bool.not_false, zLay_1, zLay_c1, zLay_c2, zLay_n, zWds_n, zWds_c, zCat_0, zCat_1, zCat_3, zCat_4, zLay_4, List.nil_append, List.cons_append, List.replicate_succ, List.replicate_zero, zTy_0, zTy_b0, zTy_1, zTy_3, zTy_3n, zTy_4, and_true, true_and, Option.bind_some, zNul_n, zNul_r, List.getElem?_cons_zero, List.getElem?_cons_succ, Int.add_zero, zTv_B, zTy_B, b_and, b_or, b_andn, b_not, b_shl, b_cmp, b_cmp0, b_cmp0l, b_eq0, b_eq1, zs_2, zl_21, zl_22, gf_s, gf_l, pf_s, pf_l, zl_z, zs_z, nA, and_self, Nat.le_refl, Option.some.injEq, eq_self, Nat.reduceAdd, Nat.reduceSub, bg_2, bgt_0, bgf_0_0, bgf_0_1, bgf_0_2, bgf_0_3, bgf_0_4, bgp_0_4, bgf_0_5, bgp_0_5, bgf_0_6, bgp_0_6, bgf_0_7, bgp_0_7, bgf_0_8, bgp_0_8, bgt_1, bgf_1_0, bgf_1_1, bgf_1_2, bgf_1_3, bgf_1_4, bgf_1_5, bgp_1_5, bgf_1_6, bgf_1_7, bgp_1_7, bgf_1_8, bgf_1_9, bgp_1_9, bgf_1_10, bga_2, bgl_2, bgs_2, bga_3, bgl_3, bgs_3, bga_4, bgl_4, bgs_4, bga_5, bgl_5, bgs_5, bgt_6, bgf_6_0, bgp_6_0, bgf_6_1, bgp_6_1, bgf_6_2, bgp_6_2, bga_7, bgl_7, bgs_7, ug_s, ug_n, ua_s, ua_k, ua_j, zStK_64, zStK_65, zStK_67, zStK_68, zStK_69, zStK_70, zStK_71, zStK_72, zStK_73,]
  show h.2.1 + 8 ≤ rz.2.1 ∧ h.2.2 + (23 + 5 * n) ≤ rz.2.2
  omega
end
