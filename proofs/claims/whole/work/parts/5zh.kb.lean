/-! a set in two words -/
theorem kpt_b (b : BitVec 64) : BitVec.ofInt 64 (((b.sshiftRight 32).setWidth 32).toInt * 4294967296 + (b.setWidth 32).toInt % 4294967296) = b := by
  rw [← kpt_n]
  refine BitVec.eq_of_getLsbD_eq fun i hi => ?_
  have o : ∀ w : BitVec 32, BitVec.ofInt 64 w.toInt = w.signExtend 64 := fun w => rfl
  have m32 : (4294967295#64).getLsbD i = decide (i < 32) := by
    have key : ∀ j : Fin 64, (4294967295#64).getLsbD j.1 = decide (j.1 < 32) := by decide +kernel
    exact key ⟨i, hi⟩
  rw [o, o, BitVec.getLsbD_or, BitVec.getLsbD_shiftLeft, BitVec.getLsbD_and, m32]
  by_cases c : i < 32
  · simp only [BitVec.getLsbD_signExtend, BitVec.getLsbD_setWidth, c, hi, decide_true, if_true, Bool.true_and, Bool.and_true, Bool.not_true, Bool.false_and, Bool.and_false, Bool.false_or]
  · have c2 : i - 32 < 32 := by omega
    have c3 : i - 32 < 64 := by omega
    have c4 : 32 + (i - 32) = i := by omega
    have c5 : ¬ 64 ≤ i - 32 := by omega
    simp only [BitVec.getLsbD_signExtend, BitVec.getLsbD_setWidth, BitVec.getLsbD_sshiftRight, c, hi, c2, c3, c4, c5, decide_true, decide_false, if_true, if_false, Bool.true_and, Bool.and_true, Bool.not_true, Bool.not_false, Bool.false_and, Bool.and_false, Bool.false_or, Bool.or_false]
theorem u_l2i' {b : BitVec 64} : oL2i (vB b) = some (vi (b.setWidth 32).toInt) := by
  refine congrArg (fun q => some (Value.int q)) (Int32.toBitVec_inj.mp ?_)
  show b.signExtend 32 = BitVec.ofInt 32 (b.setWidth 32).toInt
  rw [BitVec.signExtend_eq_setWidth_of_le _ (by decide), BitVec.ofInt_toInt]
theorem w32_b (w : BitVec 32) : iR w.toInt := by
  have b0 := BitVec.le_toInt w
  have b1 := BitVec.toInt_lt (x := w)
  constructor
  · simpa using b0
  · simpa using b1
