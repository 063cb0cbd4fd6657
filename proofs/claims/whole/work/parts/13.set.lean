/-! SETS: longs as bits -/
def vB (b : BitVec 64) : Value := .long (Int64.ofBitVec b)
theorem zTv_B {b : BitVec 64} : zTv 1 (vB b) = some (vB b) := rfl
theorem zTy_B {b : BitVec 64} : zTy 1 (vB b) = true := rfl
theorem vB_vl (b : BitVec 64) : vB b = vl b.toInt := by unfold vB vl; rw [Int64.ofInt_bitVecToInt]
theorem vl_vB (x : Int) : vl x = vB (BitVec.ofInt 64 x) := rfl
theorem b_inj {a b : BitVec 64} (h : vB a = vB b) : a = b := by
  unfold vB at h
  injection h with h
  exact congrArg Int64.toBitVec h
theorem b_and {a b : BitVec 64} : oL2 (fun x y => x &&& y) (vB a) (vB b) = some (vB (a &&& b)) := rfl
theorem b_or {a b : BitVec 64} : oL2 (fun x y => x ||| y) (vB a) (vB b) = some (vB (a ||| b)) := rfl
theorem b_not {a : BitVec 64} : oL2 (fun x y => x ^^^ y) (vB a) (vl (-1)) = some (vB (~~~a)) := by
  have : a ^^^ BitVec.allOnes 64 = ~~~a := BitVec.xor_allOnes
  simp only [oL2, vB, vl, ← this]
  rfl
theorem b_andn {a b : BitVec 64} : oL2 (fun x y => x &&& y) (vB a) (vl 1) = some (vB (a &&& 1#64)) := rfl
theorem sh_n {k : Int} (h1 : 0 ≤ k) (h2 : k < 64) : ((Int32.ofInt k).toInt64 &&& 63) = Int64.ofInt k := by
  have key : ∀ a : Fin 64, (Int32.ofInt (a.1 : Int)).toInt64 &&& 63 = Int64.ofInt (a.1 : Int) := by decide
  have := key ⟨k.toNat, by omega⟩
  simpa only [show ((k.toNat : Nat) : Int) = k by omega] using this
theorem sh_t {k : Int} (h1 : 0 ≤ k) (h2 : k < 64) : (Int64.ofInt k).toBitVec.smod 64 = BitVec.ofNat 64 k.toNat := by
  have key : ∀ a : Fin 64, (Int64.ofInt (a.1 : Int)).toBitVec.smod 64 = BitVec.ofNat 64 a.1 := by decide
  have := key ⟨k.toNat, by omega⟩
  simpa only [show ((k.toNat : Nat) : Int) = k by omega] using this
theorem b_shl {k : Int} (h1 : 0 ≤ k) (h2 : k < 64) : oLsh (fun x y => x <<< (y.toInt64 &&& 63)) (vl 1) (vi k) = some (vB (1#64 <<< k.toNat)) := by
  simp only [oLsh, vl, vi, vB, sh_n h1 h2]
  refine congrArg (fun q => some (Value.long q)) (Int64.toBitVec_inj.mp ?_)
  show (Int64.ofInt 1).toBitVec <<< ((Int64.ofInt k).toBitVec.smod 64) = 1#64 <<< k.toNat
  rw [sh_t h1 h2]
  show 1#64 <<< (BitVec.ofNat 64 k.toNat).toNat = _
  rw [BitVec.toNat_ofNat, Nat.mod_eq_of_lt (by omega)]
theorem b_shr {a : BitVec 64} {k : Int} (h1 : 0 ≤ k) (h2 : k < 64) : oLsh (fun x y => x >>> (y.toInt64 &&& 63)) (vB a) (vi k) = some (vB (a.sshiftRight k.toNat)) := by
  simp only [oLsh, vi, vB, sh_n h1 h2]
  refine congrArg (fun q => some (Value.long q)) (Int64.toBitVec_inj.mp ?_)
  show a.sshiftRight' ((Int64.ofInt k).toBitVec.smod 64) = a.sshiftRight k.toNat
  rw [sh_t h1 h2]
  show a.sshiftRight (BitVec.ofNat 64 k.toNat).toNat = _
  rw [BitVec.toNat_ofNat, Nat.mod_eq_of_lt (by omega)]
/-- how two sets compare: alike or not -/
def bcmp (a b : BitVec 64) : Int := (lg_cmp (Int64.ofBitVec a) (Int64.ofBitVec b)).toInt
theorem b_cmp {a b : BitVec 64} : oLcmp (vB a) (vB b) = some (vi (bcmp a b)) := by simp only [oLcmp, vB, bcmp, vi, Int32.ofInt_toInt]
theorem b_cmp0 {a : BitVec 64} : oLcmp (vB a) (vl 0) = some (vi (bcmp a 0#64)) := b_cmp
theorem b_cmp0l {a : BitVec 64} : oLcmp (vB a) (vl 1) = some (vi (bcmp a 1#64)) := b_cmp
theorem lg_0 {a b : Int64} : (lg_cmp a b = 0) ↔ a = b := by
  unfold lg_cmp
  by_cases h : a > b
  · rw [if_pos h]
    refine ⟨fun q => absurd q (by decide), fun q => ?_⟩
    subst q
    exact absurd h (by rw [gt_iff_lt, Int64.lt_iff_toInt_lt]; exact Int.lt_irrefl _)
  · rw [if_neg h]
    by_cases h2 : a = b
    · simp [h2]
    · rw [if_neg h2]
      exact ⟨fun q => absurd q (by decide), fun q => absurd q h2⟩
theorem bcmp_0 {a b : BitVec 64} : (Int32.ofInt (bcmp a b) = 0) ↔ a = b := by
  unfold bcmp
  rw [Int32.ofInt_toInt, lg_0]
  exact ⟨fun h => congrArg Int64.toBitVec h, fun h => by rw [h]⟩
theorem b_eq0 {a b : BitVec 64} : zC1v 0 (vi (bcmp a b)) = some (decide (a = b)) := by
  simp only [zC1v, vi, zInt, zIc, Option.bind_some, bcmp_0]
theorem b_eq1 {a b : BitVec 64} : zC1v 1 (vi (bcmp a b)) = some (decide (¬ a = b)) := by
  simp only [zC1v, vi, zInt, zIc, Option.bind_some, bcmp_0]
/-- whether a number is in a set -/
def bHas (a : BitVec 64) (k : Int) : Bool := decide (0 ≤ k) && a.getLsbD k.toNat
theorem b_bit {a : BitVec 64} {k : Int} (h1 : 0 ≤ k) (h2 : k < 64) : (a.sshiftRight k.toNat &&& 1#64 = 1#64) ↔ bHas a k = true := by
  have hk : k.toNat < 64 := by omega
  unfold bHas
  rw [decide_eq_true h1, Bool.true_and]
  constructor
  · intro h
    have := congrArg (fun x => BitVec.getLsbD x 0) h
    simp only [BitVec.getLsbD_and, BitVec.getLsbD_sshiftRight] at this
    simpa [hk] using this
  · intro h
    apply BitVec.eq_of_getLsbD_eq
    intro i hi
    by_cases c : i = 0
    · subst c
      simp [BitVec.getLsbD_sshiftRight, hk, h]
    · simp [c, BitVec.getLsbD_one]
theorem b_one {a : BitVec 64} {k : Int} (h1 : 0 ≤ k) (h2 : k < 64) : (a &&& 1#64 <<< k.toNat = 0#64) ↔ bHas a k = false := by
  have hk : k.toNat < 64 := by omega
  unfold bHas
  rw [decide_eq_true h1, Bool.true_and]
  constructor
  · intro h
    have := congrArg (fun x => BitVec.getLsbD x k.toNat) h
    simpa [hk] using this
  · intro h
    apply BitVec.eq_of_getLsbD_eq
    intro i hi
    by_cases c : i = k.toNat
    · subst c
      simp [h]
    · simp [BitVec.getLsbD_one]
      intro _ _ _
      omega
