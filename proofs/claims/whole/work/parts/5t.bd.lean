/-! Long.bitCount counts, on the machine's words -/
def nsm : Nat → Nat → Nat
  | 0, _ => 0
  | N + 1, x => x % 2 + nsm N (x / 2)
theorem nsm_t : ∀ (N x : Nat), nsm (N + 1) x = nsm N x + x / 2 ^ N % 2
  | 0, x => by simp [nsm]
  | N + 1, x => by
    show x % 2 + nsm (N + 1) (x / 2) = x % 2 + nsm N (x / 2) + _
    rw [nsm_t N (x / 2), Nat.pow_succ, Nat.mul_comm, ← Nat.div_div_eq_div_mul]
    omega
theorem bsm_n : ∀ (N x : Nat), bsm N x = nsm (8 * N) x
  | 0, x => rfl
  | N + 1, x => by
    show pb (x % 256) + bsm N (x / 256) = nsm (8 * N + 8) x
    have e : nsm (8 * N + 8) x = x % 2 + (x / 2 % 2 + (x / 2 / 2 % 2 + (x / 2 / 2 / 2 % 2 + (x / 2 / 2 / 2 / 2 % 2 + (x / 2 / 2 / 2 / 2 / 2 % 2 + (x / 2 / 2 / 2 / 2 / 2 / 2 % 2 + (x / 2 / 2 / 2 / 2 / 2 / 2 / 2 % 2 + nsm (8 * N) (x / 2 / 2 / 2 / 2 / 2 / 2 / 2 / 2)))))))) := rfl
    rw [e, bsm_n N (x / 256), show x / 2 / 2 / 2 / 2 / 2 / 2 / 2 / 2 = x / 256 by omega]
    unfold pb
    have h1 : x % 256 / 2 % 2 = x / 2 % 2 := by omega
    have h2 : x % 256 / 4 % 2 = x / 2 / 2 % 2 := by omega
    have h3 : x % 256 / 8 % 2 = x / 2 / 2 / 2 % 2 := by omega
    have h4 : x % 256 / 16 % 2 = x / 2 / 2 / 2 / 2 % 2 := by omega
    have h5 : x % 256 / 32 % 2 = x / 2 / 2 / 2 / 2 / 2 % 2 := by omega
    have h6 : x % 256 / 64 % 2 = x / 2 / 2 / 2 / 2 / 2 / 2 % 2 := by omega
    have h7 : x % 256 / 128 % 2 = x / 2 / 2 / 2 / 2 / 2 / 2 / 2 % 2 := by omega
    rw [h1, h2, h3, h4, h5, h6, h7, show x % 256 % 2 = x % 2 by omega]
    simp only [Nat.add_assoc]
theorem pc_nsm (b : BitVec 64) : pc b = nsm 64 b.toNat := by
  have e : ∀ N : Nat, isum (fun i => if bHas b i = true then 1 else 0) N = nsm N b.toNat := by
    intro N
    induction N with
    | zero => rfl
    | succ N ih =>
      rw [nsm_t, Int.natCast_add, ← ih]
      show _ + (if bHas b (N : Int) = true then (1 : Int) else 0) = _
      have hb : bHas b (N : Int) = decide (b.toNat / 2 ^ N % 2 = 1) := by
        unfold bHas
        rw [decide_eq_true (by omega : (0 : Int) ≤ N), Bool.true_and, show ((N : Int)).toNat = N by omega]
        show b.toNat.testBit N = _
        exact Nat.testBit_eq_decide_div_mod_eq
      rw [hb]
      by_cases c : b.toNat / 2 ^ N % 2 = 1
      · rw [c]; simp
      · rw [show b.toNat / 2 ^ N % 2 = 0 by omega]; simp
  exact e 64
theorem u_shr (b : BitVec 64) : oLsh (fun x y => (x.toUInt64 >>> (y.toInt64.toUInt64 &&& Int64.toUInt64 63)).toInt64) (vB b) (vi 1) = some (vB (b >>> 1)) ∧ oLsh (fun x y => (x.toUInt64 >>> (y.toInt64.toUInt64 &&& Int64.toUInt64 63)).toInt64) (vB b) (vi 2) = some (vB (b >>> 2)) ∧ oLsh (fun x y => (x.toUInt64 >>> (y.toInt64.toUInt64 &&& Int64.toUInt64 63)).toInt64) (vB b) (vi 4) = some (vB (b >>> 4)) ∧ oLsh (fun x y => (x.toUInt64 >>> (y.toInt64.toUInt64 &&& Int64.toUInt64 63)).toInt64) (vB b) (vi 8) = some (vB (b >>> 8)) ∧ oLsh (fun x y => (x.toUInt64 >>> (y.toInt64.toUInt64 &&& Int64.toUInt64 63)).toInt64) (vB b) (vi 16) = some (vB (b >>> 16)) ∧ oLsh (fun x y => (x.toUInt64 >>> (y.toInt64.toUInt64 &&& Int64.toUInt64 63)).toInt64) (vB b) (vi 32) = some (vB (b >>> 32)) := ⟨rfl, rfl, rfl, rfl, rfl, rfl⟩
theorem u_sub {a b : BitVec 64} : oL2 (fun x y => x - y) (vB a) (vB b) = some (vB (a - b)) := rfl
theorem u_add {a b : BitVec 64} : oL2 (fun x y => x + y) (vB a) (vB b) = some (vB (a + b)) := rfl
theorem u_c5 {a : BitVec 64} : oL2 (fun x y => x &&& y) (vB a) (vl 6148914691236517205) = some (vB (a &&& 0x5555555555555555#64)) := rfl
theorem u_c3 {a : BitVec 64} : oL2 (fun x y => x &&& y) (vB a) (vl 3689348814741910323) = some (vB (a &&& 0x3333333333333333#64)) := rfl
theorem u_cf {a : BitVec 64} : oL2 (fun x y => x &&& y) (vB a) (vl 1085102592571150095) = some (vB (a &&& 0x0f0f0f0f0f0f0f0f#64)) := rfl
theorem u_l2i {b : BitVec 64} : oL2i (vB b) = some (vi b.toNat) := by
  refine congrArg (fun q => some (Value.int q)) (Int32.toBitVec_inj.mp ?_)
  show b.signExtend 32 = BitVec.ofInt 32 b.toNat
  rw [BitVec.signExtend_eq_setWidth_of_le _ (by decide)]
  exact BitVec.eq_of_toNat_eq (by simp [BitVec.toNat_setWidth, BitVec.toNat_ofInt])
theorem u_127 {n : Nat} : oI2 (fun x y => x &&& y) (vi n) (vi 127) = some (vi (n % 128 : Nat)) := by
  refine congrArg (fun q => some (Value.int q)) (Int32.toBitVec_inj.mp ?_)
  show BitVec.ofInt 32 n &&& 127#32 = BitVec.ofInt 32 (n % 128 : Nat)
  refine BitVec.eq_of_toNat_eq ?_
  rw [BitVec.toNat_and, BitVec.toNat_ofInt, BitVec.toNat_ofInt]
  have : ∀ u : Nat, u &&& (127#32).toNat = u % 128 := fun u => Nat.and_two_pow_sub_one_eq_mod u 7
  rw [this]
  omega
theorem e_bitCount {b : BitVec 64} {h : zHp} : F_Lo_bitCount_95d88 [vB b] h = some (some (vi (pc b)), h) := by
  obtain ⟨x, hx⟩ : ∃ x, b.toNat = x := ⟨_, rfl⟩
  have xb : x < 256 ^ 8 := by rw [← hx]; exact b.isLt
  obtain ⟨Y, hY⟩ : ∃ Y, b - (b >>> 1 &&& 0x5555555555555555#64) = Y := ⟨_, rfl⟩
  obtain ⟨Z, hZ⟩ : ∃ Z, (Y &&& 0x3333333333333333#64) + (Y >>> 2 &&& 0x3333333333333333#64) = Z := ⟨_, rfl⟩
  obtain ⟨V, hV⟩ : ∃ V, (Z + Z >>> 4) &&& 0x0f0f0f0f0f0f0f0f#64 = V := ⟨_, rfl⟩
  obtain ⟨V4, h4⟩ : ∃ V4, V + V >>> 8 = V4 := ⟨_, rfl⟩
  obtain ⟨V5, h5⟩ : ∃ V5, V4 + V4 >>> 16 = V5 := ⟨_, rfl⟩
  obtain ⟨V6, h6⟩ : ∃ V6, V5 + V5 >>> 32 = V6 := ⟨_, rfl⟩
  have sr : ∀ (c : BitVec 64) (k : Nat), (c >>> k).toNat = c.toNat / 2 ^ k := fun c k => by rw [BitVec.toNat_ushiftRight, Nat.shiftRight_eq_div_pow]
  have nY : Y.toNat = x - ((x / 2) &&& 0x5555555555555555) := by
    have l : (b >>> 1 &&& 0x5555555555555555#64).toNat = (x / 2) &&& 0x5555555555555555 := by rw [BitVec.toNat_and, sr, hx]; rfl
    have l2 : (x / 2) &&& 0x5555555555555555 ≤ x / 2 := Nat.and_le_left
    rw [← hY, BitVec.toNat_sub_of_le (by rw [BitVec.le_def, l, hx]; omega), l, hx]
  have nZ : Z.toNat = (Y.toNat &&& 0x3333333333333333) + ((Y.toNat / 4) &&& 0x3333333333333333) := by
    have l1 : Y.toNat &&& 0x3333333333333333 ≤ 0x3333333333333333 := Nat.and_le_right
    have l2 : (Y.toNat / 4) &&& 0x3333333333333333 ≤ 0x3333333333333333 := Nat.and_le_right
    have e1 : (Y &&& 0x3333333333333333#64).toNat = Y.toNat &&& 0x3333333333333333 := by rw [BitVec.toNat_and]; rfl
    have e2 : (Y >>> 2 &&& 0x3333333333333333#64).toNat = (Y.toNat / 4) &&& 0x3333333333333333 := by rw [BitVec.toNat_and, sr]; rfl
    rw [← hZ, BitVec.toNat_add, e1, e2, Nat.mod_eq_of_lt (by omega)]
  have bZ : Z.toNat ≤ 0x6666666666666666 := by
    have l1 : Y.toNat &&& 0x3333333333333333 ≤ 0x3333333333333333 := Nat.and_le_right
    have l2 : (Y.toNat / 4) &&& 0x3333333333333333 ≤ 0x3333333333333333 := Nat.and_le_right
    omega
  have nV : V.toNat = (Z.toNat + Z.toNat / 16) &&& 0x0f0f0f0f0f0f0f0f := by
    have e1 : (Z + Z >>> 4).toNat = Z.toNat + Z.toNat / 16 := by
      rw [BitVec.toNat_add, sr, show (2 : Nat) ^ 4 = 16 from rfl, Nat.mod_eq_of_lt (by omega)]
    rw [← hV, BitVec.toNat_and, e1]; rfl
  have fin := bc_nat xb nY nZ
  rw [← nV] at fin
  obtain ⟨⟨z0, z40, z50, z60⟩, e6, b6⟩ := bsm_8 (z4 := V.toNat + V.toNat / 256) (z5 := V.toNat + V.toNat / 256 + (V.toNat + V.toNat / 256) / 65536) (z6 := V.toNat + V.toNat / 256 + (V.toNat + V.toNat / 256) / 65536 + (V.toNat + V.toNat / 256 + (V.toNat + V.toNat / 256) / 65536) / 4294967296) fin rfl rfl rfl
  have n4 : V4.toNat = V.toNat + V.toNat / 256 := by
    rw [← h4, BitVec.toNat_add, sr, show (2 : Nat) ^ 8 = 256 from rfl, Nat.mod_eq_of_lt (by omega)]
  have n5 : V5.toNat = V4.toNat + V4.toNat / 65536 := by
    rw [← n4] at z50
    rw [← h5, BitVec.toNat_add, sr, show (2 : Nat) ^ 16 = 65536 from rfl, Nat.mod_eq_of_lt (by omega)]
  rw [← n4, ← n5] at z60 e6
  have n6 : V6.toNat = V5.toNat + V5.toNat / 4294967296 := by
    rw [← h6, BitVec.toNat_add, sr, show (2 : Nat) ^ 32 = 4294967296 from rfl, Nat.mod_eq_of_lt (by omega)]
  rw [← n6] at e6
  have pe : (pc b : Int) = (V6.toNat % 128 : Nat) := by rw [e6, bsm_n, pc_nsm, hx]
  obtain ⟨q1, q2, q4, q8, q16, q32⟩ := u_shr b
  have s1 := (u_shr b).1
  have s2 := (u_shr Y).2.1
  have s4 := (u_shr Z).2.2.1
  have s8 := (u_shr V).2.2.2.1
  have s16 := (u_shr V4).2.2.2.2.1
  have s32 := (u_shr V5).2.2.2.2.2
  refine zMeq rfl ?_
  simp (disch := first | assumption | omega | exact zTy_0 | exact zTy_3 | exact zTy_3n | exact zTy_1 | exact zTy_B | exact zTy_b0 | exact zTy_4 | exact zEl_n | exact zEz4 | exact zEz9 | exact hz _ _ | exact hz2 _ _ | exact zI0 | exact zI1 | exact zI2 | exact zI3 | exact zI4 | exact zI5 | exact zI6 | exact zI7 | exact zI8 | exact zI9 | exact zI10 | (simp only [zl_21, zl_22, zs_2, ne_eq]; omega) | ((repeat (refine Eq.trans (us_r (by decide)) ?_)); assumption) | ((simp (decide := true) only [us_k, us_s]); omega)) only [↓rKi, ↓rKl, ↓rKn, ↓rKd, ↓rL, ↓r2, ↓r1, ↓rC2, ↓rC1, ↓rCn, ↓rNot, ↓rAnd, ↓rOr, ↓rCi, ↓rBx, ↓rIte, ↓rGf, ↓rLen, ↓rAx, ↓rNa, ↓rA0, ↓rA1, ↓rCs, ↓rCv, ↓rAn, ↓rNew, ↓rSeq, ↓rSkip, ↓rBrk, ↓rCnt, ↓rRetV, ↓rAsg, ↓rRet, ↓rIf, ↓rPf, ↓rPfo, ↓rAs, ↓rAso, ↓rDo, ↓rObj, ↓rBl, ↓rSw, ↓rCopy, ↓zSq_0, ↓zSq_r, ↓zSq_1, ↓zSq_2, ↓zBq_l, ↓zBq_r, ↓zWq_0, ↓zWq_1, ↓zWq_2, ↓zWq_r, ↓zLo_0, ↓zLo_1, ↓zLo_2, ↓zLo_r, ↓zLt_0, ↓rTr, ↓zFin_s, ↓zFin_n, wX_r, wO_s, wI_t, wI_f, zLk_0, zLk_s, zTv_vi, zTv_vb, zTv_vl, zTv_d, zTv_r, zTv_n, zTv_4, zTo_s, zCl_n, zCl_0, zCl_s, Int32.reduceToInt, Int64.reduceToInt, e_add, e_sub, e_mul, e_neg, e_ladd, e_lsub, e_lmul, e_lneg, q_0, q_1, q_2, q_3, q_4, q_5, q_b0, q_b1, p_0, p_1, p_2, p_3, p_4, p_5, p_b0, p_b1, e_lcmp, pl_0, pl_1, pl_2, pl_3, pl_4, pl_5, e_i2l, e_l2i, e_idiv, e_irem, e_ldiv, e_lrem, List.set_cons_zero, List.set_cons_succ, List.getD_cons_zero, List.getD_cons_succ, List.getD_nil, dT, dF, decide_true, decide_false, not_true_eq_false, not_false_eq_true, Bool.not_true, Bool.not_false, zLay_1, zLay_c1, zLay_c2, zLay_n, zWds_n, zWds_c, zCat_0, zCat_1, zCat_3, zCat_4, zLay_4, List.nil_append, List.cons_append, List.replicate_succ, List.replicate_zero, zTy_0, zTy_b0, zTy_1, zTy_3, zTy_3n, zTy_4, and_true, true_and, Option.bind_some, zNul_n, zNul_r, List.getElem?_cons_zero, List.getElem?_cons_succ, Int.add_zero, zTv_B, zTy_B, b_and, b_or, b_andn, b_not, b_shl, b_cmp, b_cmp0, b_cmp0l, b_eq0, b_eq1, zs_2, zl_21, zl_22, gf_s, gf_l, pf_s, pf_l, zl_z, zs_z, nA, and_self, Nat.le_refl, Option.some.injEq, eq_self, Nat.reduceAdd, Nat.reduceSub, S_Lo_bitCount_95d88, s1, u_c5, u_sub, hY, s2, u_c3, u_add, hZ, s4, u_cf, hV, s8, h4, s16, h5, s32, h6, u_l2i, u_127]
  rw [pe]
