/-! the bits of a quotient -/
section
variable {c d : Nat} {q r : Int} {h : zHp}
theorem zTv_dN : zTv 2 (dN c q) = some (dN c q) := rfl
theorem k_52 : Value.double 4841369599423283200 = dN 4503599627370496 0 := by
  unfold dN
  exact congrArg Value.double (by decide +kernel)
theorem d_clt {op : CmpOp} (hc : nmC c) (q0 : -300 ≤ q) (q1 : q ≤ 300) (r0' : -300 ≤ r) (r1' : r ≤ 300) (z : q < r) : oDcmp op (dN c q) (dN 4503599627370496 r) = some (vi (-1)) := by
  rw [d_cmp hc q0 q1 r0' r1', if_pos z]
theorem d_cge {op : CmpOp} (hc : nmC c) (q0 : -300 ≤ q) (q1 : q ≤ 300) (r0' : -300 ≤ r) (r1' : r ≤ 300) (z : ¬ q < r) : ∃ v : Int, oDcmp op (dN c q) (dN 4503599627370496 r) = some (vi v) ∧ (0 ≤ v ∧ v ≤ 1) := by
  rw [d_cmp hc q0 q1 r0' r1', if_neg z]
  split
  · exact ⟨0, rfl, by omega⟩
  · exact ⟨1, rfl, by omega⟩
theorem l_bv (x : Int) : (Int64.ofInt x).toBitVec = BitVec.ofInt 64 x := Int64.toBitVec_ofInt x
theorem e_shl52 {e : Int} : oLsh (fun x y => x <<< (y.toInt64 &&& 63)) (vl e) (vi 52) = some (vl (e * 4503599627370496)) := by
  show some (Value.long (Int64.ofInt e <<< ((Int32.ofInt 52).toInt64 &&& 63))) = some (Value.long (Int64.ofInt (e * 4503599627370496)))
  rw [show ((Int32.ofInt 52).toInt64 &&& 63) = 52 by decide +kernel]
  refine congrArg some (congrArg Value.long ?_)
  rw [← Int64.toBitVec_inj, Int64.toBitVec_shiftLeft, l_bv, l_bv]
  rw [show (BitVec.smod (52 : Int64).toBitVec 64) = 52#64 by decide +kernel]
  rw [BitVec.shiftLeft_eq', BitVec.shiftLeft_eq_mul_twoPow, show BitVec.twoPow 64 (52#64).toNat = BitVec.ofInt 64 4503599627370496 by decide +kernel, BitVec.ofInt_mul]
theorem l_nat (n : Nat) : BitVec.ofInt 64 (n : Int) = BitVec.ofNat 64 n := by
  apply BitVec.eq_of_toNat_eq
  rw [BitVec.toNat_ofInt, BitVec.toNat_ofNat]
  omega
theorem e_mask52 (hc : nmC c) : oL2 (fun x y => x &&& y) (vl c) (vl 4503599627370495) = some (vl ((c - 4503599627370496 : Nat) : Int)) := by
  show some (Value.long (Int64.ofInt c &&& Int64.ofInt 4503599627370495)) = some (Value.long (Int64.ofInt _))
  refine congrArg some (congrArg Value.long ?_)
  rw [← Int64.toBitVec_inj, Int64.toBitVec_and, l_bv, l_bv, l_bv, l_nat, l_nat, show BitVec.ofInt 64 4503599627370495 = BitVec.ofNat 64 (2 ^ 52 - 1) by decide +kernel]
  apply BitVec.eq_of_toNat_eq
  rw [BitVec.toNat_and, BitVec.toNat_ofNat, BitVec.toNat_ofNat, BitVec.toNat_ofNat, show (2 ^ 52 - 1) % 2 ^ 64 = 2 ^ 52 - 1 by decide, Nat.and_two_pow_sub_one_eq_mod]
  have := hc.1
  have := hc.2
  omega
theorem e_or52 {m k : Nat} (hm : m < 2048) (hk : k < 4503599627370496) : oL2 (fun x y => x ||| y) (vl ((m : Int) * 4503599627370496)) (vl (k : Int)) = some (.long (UInt64.ofNat (m * 4503599627370496 + k)).toInt64) := by
  show some (Value.long (Int64.ofInt ((m : Int) * 4503599627370496) ||| Int64.ofInt (k : Int))) = _
  refine congrArg some (congrArg Value.long ?_)
  rw [← Int64.toBitVec_inj, Int64.toBitVec_or, l_bv, l_bv, show (m : Int) * 4503599627370496 = ((m * 4503599627370496 : Nat) : Int) by omega, l_nat, l_nat]
  show _ = BitVec.ofNat 64 (m * 4503599627370496 + k)
  apply BitVec.eq_of_toNat_eq
  rw [BitVec.toNat_or, BitVec.toNat_ofNat, BitVec.toNat_ofNat, BitVec.toNat_ofNat, Nat.mod_eq_of_lt (by omega), Nat.mod_eq_of_lt (by omega), Nat.mod_eq_of_lt (by omega)]
  have := Nat.shiftLeft_add_eq_or_of_lt (b := k) (i := 52) hk m
  rw [Nat.shiftLeft_eq] at this
  exact this.symm
theorem e_orN {x : Int} (hc : nmC c) (hx' : x = q + 1075) (h2 : 0 ≤ x ∧ x < 2048) : oL2 (fun x y => x ||| y) (vl (x * 4503599627370496)) (vl ((c - 4503599627370496 : Nat) : Int)) = some (.long (UInt64.ofNat (fN c q)).toInt64) := by
  have := e_or52 (m := (q + 1075).toNat) (k := c - 4503599627370496) (by omega) (by omega)
  rw [show (((q + 1075).toNat : Nat) : Int) = x by omega] at this
  unfold fN
  exact this
theorem e_raw : oD2raw (dN c q) = some (.long (UInt64.ofNat (fN c q)).toInt64) := rfl
theorem zTv_lr {x : Int64} : zTv 1 (.long x) = some (.long x) := rfl
end
