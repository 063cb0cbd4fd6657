/-! doubles: the operations on normal numbers -/
def dN (c : Nat) (q : Int) : Value := .double (UInt64.ofNat (fN c q))
section
variable {c d : Nat} {q r : Int} {h : zHp}
theorem f_lt (hc : nmC c) (q1 : q ≤ 971) : fN c q < 9218868437227405312 := by
  unfold fN
  omega
theorem f_nat (hc : nmC c) (q1 : q ≤ 971) : (UInt64.ofNat (fN c q)).toNat = fN c q := by
  have := f_lt hc q1
  exact UInt64.toNat_ofNat_of_lt' (by show _ < 18446744073709551616; omega)
theorem d_ok {x : UInt64} (h : x.toNat < 9218868437227405312) : x &&& 0x7fffffffffffffff ≤ 0x7ff0000000000000 := by
  rw [UInt64.le_iff_toNat_le, UInt64.toNat_and]
  exact Nat.le_trans Nat.and_le_left (Nat.le_of_lt h)
theorem d_okN (hc : nmC c) (q1 : q ≤ 971) : UInt64.ofNat (fN c q) &&& 0x7fffffffffffffff ≤ 0x7ff0000000000000 := d_ok (by rw [f_nat hc q1]; exact f_lt hc q1)
/-- a positive whole number -/
theorem d_l2d {a : Int} (h0 : 0 < a) (h1 : a < 9223372036854775808) : ∃ c q, oL2d (vl a) = some (dN c q) ∧ nmC c ∧ (-116 ≤ q ∧ q ≤ 12) := by
  obtain ⟨c, q, e, hc, q0, q1⟩ := f_rnd (A := a.natAbs) (B := 1) (e := 0) (by omega) (by omega) (by decide) (by decide) (by omega) (by omega)
  refine ⟨c, q, ?_, hc, by omega, by omega⟩
  show some (Value.double (FP.Core.l2d (Int64.ofInt a))) = _
  unfold FP.Core.l2d FP.Core.fromInt FP.Core.ofInt
  rw [Int64.toInt_ofInt_of_le (by show (-9223372036854775808 : Int) ≤ a; omega) (by show a < (9223372036854775808 : Int); omega), decide_eq_false (by omega)]
  show some (Value.double (UInt64.ofNat (FP.Core.encode FP.Core.b64 (FP.Core.roundRatio FP.Core.b64 false a.natAbs 1 0)))) = _
  rw [e, f_enc hc (by omega)]
  rfl
theorem d_l2d0 : oL2d (vl 0) = some (.double 0) := by decide +kernel
theorem d_i2d {a : Int} (h0 : 0 < a) (h1 : a < 2147483648) : oI2d (vi a) = oL2d (vl a) := by
  show some (Value.double (FP.Core.i2d (Int32.ofInt a))) = some (Value.double (FP.Core.l2d (Int64.ofInt a)))
  unfold FP.Core.i2d FP.Core.l2d
  rw [Int64.toInt_ofInt_of_le (by show (-9223372036854775808 : Int) ≤ a; omega) (by show a < (9223372036854775808 : Int); omega), Int32.toInt_ofInt_of_le (by show (-2147483648 : Int) ≤ a; omega) (by show a < (2147483648 : Int); omega)]
theorem d_div (hc : nmC c) (hd : nmC d) (q0 : -300 ≤ q) (q1 : q ≤ 300) (r0' : -300 ≤ r) (r1' : r ≤ 300) (z0 : -200 ≤ q - r) (z1 : q - r ≤ 200) : ∃ c' q', oD2 FP.ddiv (dN c q) (dN d r) = some (dN c' q') ∧ nmC c' ∧ (q - r - 116 ≤ q' ∧ q' ≤ q - r + 12) := by
  obtain ⟨c', q', e, hc', p0, p1⟩ := f_rnd (A := c) (B := d) (e := q - r) (by omega) (by omega) (by omega) (by omega) z0 z1
  refine ⟨c', q', ?_, hc', p0, p1⟩
  have e2 : FP.ddiv (UInt64.ofNat (fN c q)) (UInt64.ofNat (fN d r)) = UInt64.ofNat (fN c' q') := by
    show UInt64.ofNat (FP.Core.encode FP.Core.b64 (FP.Core.quotient FP.Core.b64 (FP.Core.decode FP.Core.b64 (UInt64.ofNat (fN c q)).toNat) (FP.Core.decode FP.Core.b64 (UInt64.ofNat (fN d r)).toNat))) = _
    rw [f_nat hc (by omega), f_nat hd (by omega), f_dec hc (by omega) (by omega), f_dec hd (by omega) (by omega)]
    show UInt64.ofNat (FP.Core.encode FP.Core.b64 (if d = 0 then (if c = 0 then .nan else .inf (false != false)) else FP.Core.roundRatio FP.Core.b64 (false != false) c d (q - r))) = _
    rw [if_neg (by omega)]
    show UInt64.ofNat (FP.Core.encode FP.Core.b64 (FP.Core.roundRatio FP.Core.b64 false c d (q - r))) = _
    rw [e, f_enc hc' (by omega)]
  show (if FP.ddiv (UInt64.ofNat (fN c q)) (UInt64.ofNat (fN d r)) &&& 0x7fffffffffffffff ≤ 0x7ff0000000000000 then some (Value.double (FP.ddiv (UInt64.ofNat (fN c q)) (UInt64.ofNat (fN d r)))) else none) = _
  rw [e2, if_pos (d_okN hc' (by omega))]
  rfl
theorem d_div0 (hd : nmC d) (r0' : -300 ≤ r) (r1' : r ≤ 300) : oD2 FP.ddiv (.double 0) (dN d r) = some (.double 0) := by
  have e2 : FP.ddiv 0 (UInt64.ofNat (fN d r)) = 0 := by
    show UInt64.ofNat (FP.Core.encode FP.Core.b64 (FP.Core.quotient FP.Core.b64 (FP.Core.decode FP.Core.b64 (0 : UInt64).toNat) (FP.Core.decode FP.Core.b64 (UInt64.ofNat (fN d r)).toNat))) = _
    rw [f_nat hd (by omega), f_dec hd (by omega) (by omega), show FP.Core.decode FP.Core.b64 (0 : UInt64).toNat = .fin false 0 (-1074) by decide +kernel]
    show UInt64.ofNat (FP.Core.encode FP.Core.b64 (if d = 0 then (if 0 = 0 then .nan else .inf (false != false)) else FP.Core.roundRatio FP.Core.b64 (false != false) 0 d (-1074 - r))) = _
    rw [if_neg (by omega)]
    unfold FP.Core.roundRatio
    rw [if_pos rfl]
    decide +kernel
  show (if FP.ddiv 0 (UInt64.ofNat (fN d r)) &&& 0x7fffffffffffffff ≤ 0x7ff0000000000000 then some (Value.double (FP.ddiv 0 (UInt64.ofNat (fN d r)))) else none) = _
  rw [e2, if_pos (by decide)]
theorem f_log {A k : Nat} (h1 : 2 ^ k ≤ A) (h2 : A < 2 ^ (k + 1)) : A.log2 = k := by
  have z : A ≠ 0 := by
    have := Nat.two_pow_pos k
    omega
  exact (Nat.log2_eq_iff z).mpr ⟨h1, h2⟩
theorem f_two : (4611686018427387904 : UInt64) = UInt64.ofNat (fN 4503599627370496 (-51)) := by decide +kernel
theorem nm_two : nmC 4503599627370496 := ⟨Nat.le_refl _, by decide⟩
theorem f_set (hc : nmC c) (q1 : q ≤ 971) : FP.Core.settle FP.Core.b64 false c q = .fin false c q := by
  unfold FP.Core.settle FP.Core.bound
  rw [f_p, f_qmax, if_pos hc.2, if_pos q1]
theorem d_mul2 (hc : nmC c) (q0 : -300 ≤ q) (q1 : q ≤ 300) : oD2 FP.dmul (dN c q) (.double 4611686018427387904) = some (dN c (q + 1)) := by
  have e2 : FP.dmul (UInt64.ofNat (fN c q)) 4611686018427387904 = UInt64.ofNat (fN c (q + 1)) := by
    rw [f_two]
    show UInt64.ofNat (FP.Core.encode FP.Core.b64 (FP.Core.round FP.Core.b64 (FP.Core.exactProduct (FP.Core.decode FP.Core.b64 (UInt64.ofNat (fN c q)).toNat) (FP.Core.decode FP.Core.b64 (UInt64.ofNat (fN 4503599627370496 (-51))).toNat)))) = _
    rw [f_nat hc (by omega), f_nat nm_two (by omega), f_dec hc (by omega) (by omega), f_dec nm_two (by omega) (by omega)]
    show UInt64.ofNat (FP.Core.encode FP.Core.b64 (FP.Core.roundRatio FP.Core.b64 false (c * 4503599627370496) 1 (q + -51))) = _
    unfold FP.Core.roundRatio FP.Core.quantum
    have el : FP.Core.leading (c * 4503599627370496) 1 = 104 := by
      unfold FP.Core.leading
      have l1 : (c * 4503599627370496).log2 = 104 := f_log (by
        show 4503599627370496 * 4503599627370496 ≤ _
        exact Nat.mul_le_mul_right _ hc.1) (by
        show _ < 9007199254740992 * 4503599627370496
        exact Nat.mul_lt_mul_of_pos_right hc.2 (by decide))
      have l2 : (1 : Nat).log2 = 0 := by decide
      rw [l1, l2]
      show (if 1 * 2 ^ 104 ≤ c * 4503599627370496 * 2 ^ 0 then (104 : Int) else 104 - 1) = 104
      rw [if_pos]
      rw [Nat.one_mul, Nat.pow_zero, Nat.mul_one]
      show 4503599627370496 * 4503599627370496 ≤ _
      exact Nat.mul_le_mul_right _ hc.1
    rw [if_neg (by omega), el, f_qmin, f_p, show (max (-1074) (104 + (q + -51) - (((53 : Nat) : Int) - 1)) : Int) = q + 1 by omega]
    unfold FP.Core.roundAt FP.Core.unitsNum FP.Core.unitsDen
    rw [show (q + -51 - (q + 1)).toNat = 0 by omega, show (q + 1 - (q + -51)).toNat = 52 by omega, Nat.pow_zero, Nat.mul_one, Nat.one_mul]
    show UInt64.ofNat (FP.Core.encode FP.Core.b64 (FP.Core.settle FP.Core.b64 false (FP.Core.nearest (c * 4503599627370496) 4503599627370496) (q + 1))) = _
    rw [f_nex (by decide), f_set hc (by omega), f_enc hc (by omega)]
  show (if FP.dmul (UInt64.ofNat (fN c q)) 4611686018427387904 &&& 0x7fffffffffffffff ≤ 0x7ff0000000000000 then some (Value.double (FP.dmul (UInt64.ofNat (fN c q)) 4611686018427387904)) else none) = _
  rw [e2, if_pos (d_okN hc (by omega))]
  rfl
theorem d_div2 (hc : nmC c) (q0 : -300 ≤ q) (q1 : q ≤ 300) : oD2 FP.ddiv (dN c q) (.double 4611686018427387904) = some (dN c (q - 1)) := by
  have e2 : FP.ddiv (UInt64.ofNat (fN c q)) 4611686018427387904 = UInt64.ofNat (fN c (q - 1)) := by
    rw [f_two]
    show UInt64.ofNat (FP.Core.encode FP.Core.b64 (FP.Core.quotient FP.Core.b64 (FP.Core.decode FP.Core.b64 (UInt64.ofNat (fN c q)).toNat) (FP.Core.decode FP.Core.b64 (UInt64.ofNat (fN 4503599627370496 (-51))).toNat))) = _
    rw [f_nat hc (by omega), f_nat nm_two (by omega), f_dec hc (by omega) (by omega), f_dec nm_two (by omega) (by omega)]
    show UInt64.ofNat (FP.Core.encode FP.Core.b64 (FP.Core.roundRatio FP.Core.b64 false c 4503599627370496 (q - -51))) = _
    unfold FP.Core.roundRatio FP.Core.quantum
    have el : FP.Core.leading c 4503599627370496 = 0 := by
      unfold FP.Core.leading
      have l1 : c.log2 = 52 := f_log hc.1 hc.2
      have l2 : (4503599627370496 : Nat).log2 = 52 := f_log (by decide) (by decide)
      rw [l1, l2]
      show (if 4503599627370496 * 2 ^ 0 ≤ c * 2 ^ 0 then (0 : Int) else 0 - 1) = 0
      rw [if_pos]
      rw [Nat.pow_zero, Nat.mul_one, Nat.mul_one]
      exact hc.1
    rw [if_neg (by omega), el, f_qmin, f_p, show (max (-1074) (0 + (q - -51) - (((53 : Nat) : Int) - 1)) : Int) = q - 1 by omega]
    unfold FP.Core.roundAt FP.Core.unitsNum FP.Core.unitsDen
    rw [show (q - -51 - (q - 1)).toNat = 52 by omega, show (q - 1 - (q - -51)).toNat = 0 by omega, Nat.pow_zero, Nat.mul_one]
    show UInt64.ofNat (FP.Core.encode FP.Core.b64 (FP.Core.settle FP.Core.b64 false (FP.Core.nearest (c * 4503599627370496) 4503599627370496) (q - 1))) = _
    rw [f_nex (by decide), f_set hc (by omega), f_enc hc (by omega)]
  show (if FP.ddiv (UInt64.ofNat (fN c q)) 4611686018427387904 &&& 0x7fffffffffffffff ≤ 0x7ff0000000000000 then some (Value.double (FP.ddiv (UInt64.ofNat (fN c q)) 4611686018427387904)) else none) = _
  rw [e2, if_pos (d_okN hc (by omega))]
  rfl
/-- a comparison with a power of two -/
theorem d_cmp {op : CmpOp} (hc : nmC c) (q0 : -300 ≤ q) (q1 : q ≤ 300) (r0' : -300 ≤ r) (r1' : r ≤ 300) : oDcmp op (dN c q) (dN 4503599627370496 r) = some (vi (if q < r then -1 else if q = r ∧ c = 4503599627370496 then 0 else 1)) := by
  show some (Value.int (Op.cmpValue (FP.Core.order (FP.Core.decode FP.Core.b64 (UInt64.ofNat (fN c q)).toNat) (FP.Core.decode FP.Core.b64 (UInt64.ofNat (fN 4503599627370496 r)).toNat)) op)) = _
  rw [f_nat hc (by omega), f_nat nm_two (by omega), f_dec hc (by omega) (by omega), f_dec nm_two (by omega) (by omega)]
  show some (Value.int (Op.cmpValue (some (compare ((c * 2 ^ (q - min q r).toNat : Nat) : Int) ((4503599627370496 * 2 ^ (r - min q r).toNat : Nat) : Int))) op)) = _
  have p := fun k : Nat => Nat.two_pow_pos k
  by_cases z : q < r
  · rw [if_pos z, show min q r = q by omega, show (q - q).toNat = 0 by omega, Nat.pow_zero, Nat.mul_one]
    have : c < 4503599627370496 * 2 ^ (r - q).toNat := by
      rw [show (r - q).toNat = (r - q - 1).toNat + 1 by omega, Nat.pow_succ]
      have := p (r - q - 1).toNat
      omega
    rw [show compare (c : Int) ((4503599627370496 * 2 ^ (r - q).toNat : Nat) : Int) = .lt from Int.compare_eq_lt.mpr (by omega)]
    rfl
  · rw [if_neg z, show min q r = r by omega, show (r - r).toNat = 0 by omega, Nat.pow_zero, Nat.mul_one]
    by_cases y : q = r ∧ c = 4503599627370496
    · rw [if_pos y, y.1, y.2, show (r - r).toNat = 0 by omega, Nat.pow_zero, Nat.mul_one]
      rfl
    · rw [if_neg y]
      have : 4503599627370496 < c * 2 ^ (q - r).toNat := by
        by_cases x : q = r
        · rw [x, show (r - r).toNat = 0 by omega, Nat.pow_zero, Nat.mul_one]
          have : c ≠ 4503599627370496 := fun e => y ⟨x, e⟩
          omega
        · rw [show (q - r).toNat = (q - r - 1).toNat + 1 by omega, Nat.pow_succ]
          have h1 := p (q - r - 1).toNat
          have h2 : c * 2 ≤ c * (2 ^ (q - r - 1).toNat * 2) := Nat.mul_le_mul_left _ (by omega)
          omega
      rw [show compare ((c * 2 ^ (q - r).toNat : Nat) : Int) ((4503599627370496 : Nat) : Int) = .gt from Int.compare_eq_gt.mpr (by omega)]
      rfl
theorem d_d2l (hc : nmC c) : oD2l (dN c 0) = some (vl c) := by
  show some (Value.long (FP.Core.toL (FP.Core.decode FP.Core.b64 (UInt64.ofNat (fN c 0)).toNat))) = _
  rw [f_nat hc (by omega), f_dec hc (by omega) (by omega)]
  show some (Value.long (Int64.ofInt (max (-2 ^ 63) (min (2 ^ 63 - 1) ((c * 2 ^ 0 / 2 ^ 0 : Nat) : Int))))) = _
  rw [Nat.pow_zero, Nat.mul_one, Nat.div_one, show max (-2 ^ 63) (min (2 ^ 63 - 1) (c : Int)) = (c : Int) by omega]
  rfl
theorem f_nan {x : UInt64} (h : FP.Core.decode FP.Core.b64 x.toNat ≠ .nan) : FP.dcmp x x = some .eq := by
  show FP.Core.order (FP.Core.decode FP.Core.b64 x.toNat) (FP.Core.decode FP.Core.b64 x.toNat) = _
  generalize FP.Core.decode FP.Core.b64 x.toNat = y at *
  cases y with
  | nan => exact absurd rfl h
  | inf s => exact congrArg some (Int.compare_eq_eq.mpr rfl)
  | fin s c q => exact congrArg some (Int.compare_eq_eq.mpr rfl)
end
