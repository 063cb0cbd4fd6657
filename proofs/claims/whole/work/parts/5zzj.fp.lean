/-! doubles: normal numbers -/
theorem f_tails : FP.Core.Fmt.tails FP.Core.b64 = 4503599627370496 := by decide
theorem f_exps : FP.Core.Fmt.exps FP.Core.b64 = 2048 := by decide
theorem f_qmin : FP.Core.Fmt.qmin FP.Core.b64 = -1074 := by decide
theorem f_qmax : FP.Core.Fmt.qmax FP.Core.b64 = 971 := by decide
theorem f_p : FP.Core.Fmt.p FP.Core.b64 = 53 := rfl
abbrev nmC (c : Nat) : Prop := 4503599627370496 ≤ c ∧ c < 9007199254740992
def fN (c : Nat) (q : Int) : Nat := (q + 1075).toNat * 4503599627370496 + (c - 4503599627370496)
section
variable {c : Nat} {q : Int}
theorem f_dec (hc : nmC c) (q0 : -1074 ≤ q) (q1 : q ≤ 971) : FP.Core.decode FP.Core.b64 (fN c q) = .fin false c q := by
  have e1 : FP.Core.fieldE FP.Core.b64 (fN c q) = (q + 1075).toNat := by
    unfold FP.Core.fieldE
    rw [f_tails, f_exps]
    unfold fN
    omega
  have e2 : FP.Core.fieldT FP.Core.b64 (fN c q) = c - 4503599627370496 := by
    unfold FP.Core.fieldT
    rw [f_tails]
    unfold fN
    omega
  have e3 : FP.Core.fieldS FP.Core.b64 (fN c q) = false := by
    unfold FP.Core.fieldS
    rw [f_tails, f_exps]
    have : fN c q / 4503599627370496 / 2048 % 2 = 0 := by
      unfold fN
      omega
    rw [this]
    rfl
  unfold FP.Core.decode
  rw [e1, e2, e3, f_exps, f_tails, f_qmin, if_neg (by omega), if_neg (by omega)]
  rw [show 4503599627370496 + (c - 4503599627370496) = c by omega, show (-1074 : Int) + (((q + 1075).toNat : Int) - 1) = q by omega]
theorem f_enc (hc : nmC c) (q0 : -1074 ≤ q) : FP.Core.encode FP.Core.b64 (.fin false c q) = fN c q := by
  show (if c < FP.Core.Fmt.tails FP.Core.b64 then FP.Core.assemble FP.Core.b64 false 0 c else FP.Core.assemble FP.Core.b64 false ((q - FP.Core.Fmt.qmin FP.Core.b64).toNat + 1) (c - FP.Core.Fmt.tails FP.Core.b64)) = _
  rw [f_tails, f_qmin, if_neg (by omega)]
  unfold FP.Core.assemble
  rw [f_tails, f_exps]
  show (0 * 2048 + ((q - -1074).toNat + 1)) * 4503599627370496 + _ = fN c q
  unfold fN
  rw [show (q + 1075).toNat = (q - -1074).toNat + 1 by omega]
  omega
theorem pw_split {a b d : Nat} (h : a = b + d) : 2 ^ a = 2 ^ b * 2 ^ d := by rw [h, Nat.pow_add]
/-- the leading digit -/
theorem f_lead {A B : Nat} (hA : 0 < A) (hB : 0 < B) : (B * 2 ^ (FP.Core.leading A B).toNat ≤ A * 2 ^ (-(FP.Core.leading A B)).toNat) ∧ A * 2 ^ (-(FP.Core.leading A B + 1)).toNat < B * 2 ^ (FP.Core.leading A B + 1).toNat := by
  have a1 : 2 ^ A.log2 ≤ A := Nat.log2_self_le (by omega)
  have a2 : A < 2 ^ (A.log2 + 1) := Nat.lt_log2_self
  have b1 : 2 ^ B.log2 ≤ B := Nat.log2_self_le (by omega)
  have b2 : B < 2 ^ (B.log2 + 1) := Nat.lt_log2_self
  unfold FP.Core.leading
  generalize A.log2 = la at *
  generalize B.log2 = lb at *
  show _
  by_cases c : B * 2 ^ ((la : Int) - lb).toNat ≤ A * 2 ^ (-((la : Int) - lb)).toNat
  · simp only [c, if_true]
    refine ⟨trivial, ?_⟩
    by_cases d : lb ≤ la + 1
    · rw [show (-((la : Int) - lb + 1)).toNat = 0 by omega, Nat.pow_zero, Nat.mul_one]
      obtain ⟨k, hk⟩ : ∃ k, la + 1 = lb + k := ⟨la + 1 - lb, by omega⟩
      rw [show ((la : Int) - lb + 1).toNat = k by omega]
      rw [hk, Nat.pow_add] at a2
      exact Nat.lt_of_lt_of_le a2 (Nat.mul_le_mul_right _ b1)
    · rw [show ((la : Int) - lb + 1).toNat = 0 by omega, Nat.pow_zero, Nat.mul_one]
      obtain ⟨k, hk⟩ : ∃ k, lb = la + 1 + k := ⟨lb - (la + 1), by omega⟩
      rw [show (-((la : Int) - lb + 1)).toNat = k by omega]
      rw [hk, Nat.pow_add] at b1
      exact Nat.lt_of_lt_of_le (Nat.mul_lt_mul_of_pos_right a2 (Nat.two_pow_pos k)) b1
  · simp only [c, if_false]
    have c' : A * 2 ^ (-((la : Int) - lb)).toNat < B * 2 ^ ((la : Int) - lb).toNat := by omega
    rw [show (la : Int) - lb - 1 + 1 = (la : Int) - lb by omega]
    refine ⟨?_, c'⟩
    by_cases d : lb + 1 ≤ la
    · rw [show (-((la : Int) - lb - 1)).toNat = 0 by omega, Nat.pow_zero, Nat.mul_one]
      obtain ⟨k, hk⟩ : ∃ k, la = lb + 1 + k := ⟨la - (lb + 1), by omega⟩
      rw [show ((la : Int) - lb - 1).toNat = k by omega]
      rw [hk, Nat.pow_add] at a1
      exact Nat.le_trans (Nat.mul_le_mul_right _ (Nat.le_of_lt b2)) a1
    · rw [show ((la : Int) - lb - 1).toNat = 0 by omega, Nat.pow_zero, Nat.mul_one]
      obtain ⟨k, hk⟩ : ∃ k, lb + 1 = la + k := ⟨lb + 1 - la, by omega⟩
      rw [show (-((la : Int) - lb - 1)).toNat = k by omega]
      rw [hk, Nat.pow_add] at b2
      exact Nat.le_trans (Nat.le_of_lt b2) (Nat.mul_le_mul_right _ a1)
theorem f_leadB {A B : Nat} (hA : A < 2 ^ 63) (hA0 : 0 < A) (hB : B < 2 ^ 63) (hB0 : 0 < B) : -64 ≤ FP.Core.leading A B ∧ FP.Core.leading A B ≤ 63 := by
  have a : A.log2 < 63 := (Nat.log2_lt (by omega)).mpr hA
  have b : B.log2 < 63 := (Nat.log2_lt (by omega)).mpr hB
  unfold FP.Core.leading
  generalize A.log2 = la at *
  generalize B.log2 = lb at *
  show -64 ≤ (if B * 2 ^ ((la : Int) - lb).toNat ≤ A * 2 ^ (-((la : Int) - lb)).toNat then (la : Int) - lb else (la : Int) - lb - 1) ∧ (if B * 2 ^ ((la : Int) - lb).toNat ≤ A * 2 ^ (-((la : Int) - lb)).toNat then (la : Int) - lb else (la : Int) - lb - 1) ≤ 63
  split <;> omega
theorem f_nea {A B M : Nat} (hB : 0 < B) (h : M * B ≤ A) : M ≤ FP.Core.nearest A B := by
  have : M ≤ A / B := (Nat.le_div_iff_mul_le hB).mpr h
  unfold FP.Core.nearest
  split
  · exact this
  · split <;> omega
theorem f_neb {A B M : Nat} (hB : 0 < B) (h : A < M * B) : FP.Core.nearest A B ≤ M := by
  have : A / B < M := (Nat.div_lt_iff_lt_mul hB).mpr h
  unfold FP.Core.nearest
  split
  · omega
  · split <;> omega
theorem f_nex {B M : Nat} (hB : 0 < B) : FP.Core.nearest (M * B) B = M := by
  unfold FP.Core.nearest
  rw [Nat.mul_mod_left, Nat.mul_zero, if_pos hB, Nat.mul_div_cancel _ hB]
/-- a quotient rounded is a normal number -/
theorem f_rnd {A B : Nat} {e : Int} (hA : A < 2 ^ 63) (hA0 : 0 < A) (hB : B < 2 ^ 63) (hB0 : 0 < B) (e0 : -200 ≤ e) (e1 : e ≤ 200) : ∃ c q, FP.Core.roundRatio FP.Core.b64 false A B e = .fin false c q ∧ nmC c ∧ (e - 116 ≤ q ∧ q ≤ e + 12) := by
  have lb := f_leadB hA hA0 hB hB0
  obtain ⟨l1, l2⟩ := f_lead hA0 hB0
  unfold FP.Core.roundRatio
  rw [if_neg (by omega)]
  have hq : FP.Core.quantum FP.Core.b64 A B e = FP.Core.leading A B + e - 52 := by
    unfold FP.Core.quantum
    rw [f_qmin, f_p]
    omega
  rw [hq]
  generalize FP.Core.leading A B = k at *
  have u1 : 4503599627370496 * FP.Core.unitsDen B e (k + e - 52) ≤ FP.Core.unitsNum A e (k + e - 52) := by
    unfold FP.Core.unitsDen FP.Core.unitsNum
    rw [show k + e - 52 - e = k - 52 by omega, show e - (k + e - 52) = 52 - k by omega]
    by_cases z : 0 ≤ k
    · rw [show (-k).toNat = 0 by omega, Nat.pow_zero, Nat.mul_one] at l1
      by_cases y : 52 ≤ k
      · rw [show (52 - k).toNat = 0 by omega, Nat.pow_zero, Nat.mul_one]
        rw [pw_split (show k.toNat = 52 + (k - 52).toNat by omega)] at l1
        calc 4503599627370496 * (B * 2 ^ (k - 52).toNat) = B * (2 ^ 52 * 2 ^ (k - 52).toNat) := by rw [Nat.mul_left_comm]
          _ ≤ A := l1
      · rw [show (k - 52).toNat = 0 by omega, Nat.pow_zero, Nat.mul_one]
        calc 4503599627370496 * B = B * 2 ^ 52 := Nat.mul_comm _ _
          _ = B * (2 ^ k.toNat * 2 ^ (52 - k).toNat) := by rw [← pw_split (show 52 = k.toNat + (52 - k).toNat by omega)]
          _ = B * 2 ^ k.toNat * 2 ^ (52 - k).toNat := (Nat.mul_assoc _ _ _).symm
          _ ≤ A * 2 ^ (52 - k).toNat := Nat.mul_le_mul_right _ l1
    · rw [show k.toNat = 0 by omega, Nat.pow_zero, Nat.mul_one] at l1
      rw [show (k - 52).toNat = 0 by omega, Nat.pow_zero, Nat.mul_one, pw_split (show (52 - k).toNat = (-k).toNat + 52 by omega), ← Nat.mul_assoc, Nat.mul_comm]
      exact Nat.mul_le_mul_right _ l1
  have u2 : FP.Core.unitsNum A e (k + e - 52) < 9007199254740992 * FP.Core.unitsDen B e (k + e - 52) := by
    unfold FP.Core.unitsDen FP.Core.unitsNum
    rw [show k + e - 52 - e = k - 52 by omega, show e - (k + e - 52) = 52 - k by omega]
    by_cases z : 0 ≤ k + 1
    · rw [show (-(k + 1)).toNat = 0 by omega, Nat.pow_zero, Nat.mul_one] at l2
      by_cases y : 52 ≤ k
      · rw [show (52 - k).toNat = 0 by omega, Nat.pow_zero, Nat.mul_one]
        rw [pw_split (show (k + 1).toNat = 53 + (k - 52).toNat by omega)] at l2
        calc A < B * (2 ^ 53 * 2 ^ (k - 52).toNat) := l2
          _ = 9007199254740992 * (B * 2 ^ (k - 52).toNat) := by rw [Nat.mul_left_comm]
      · rw [show (k - 52).toNat = 0 by omega, Nat.pow_zero, Nat.mul_one]
        calc A * 2 ^ (52 - k).toNat < B * 2 ^ (k + 1).toNat * 2 ^ (52 - k).toNat := Nat.mul_lt_mul_of_pos_right l2 (Nat.two_pow_pos _)
          _ = B * (2 ^ (k + 1).toNat * 2 ^ (52 - k).toNat) := Nat.mul_assoc _ _ _
          _ = B * 2 ^ 53 := by rw [← pw_split (show 53 = (k + 1).toNat + (52 - k).toNat by omega)]
          _ = 9007199254740992 * B := Nat.mul_comm _ _
    · rw [show (k + 1).toNat = 0 by omega, Nat.pow_zero, Nat.mul_one] at l2
      rw [show (k - 52).toNat = 0 by omega, Nat.pow_zero, Nat.mul_one, pw_split (show (52 - k).toNat = (-(k + 1)).toNat + 53 by omega), ← Nat.mul_assoc, Nat.mul_comm]
      exact Nat.mul_lt_mul_of_pos_left l2 (by decide)
  have dp : 0 < FP.Core.unitsDen B e (k + e - 52) := Nat.mul_pos hB0 (Nat.two_pow_pos _)
  unfold FP.Core.roundAt
  have n1 := f_nea dp u1
  have n2 := f_neb dp u2
  generalize FP.Core.nearest (FP.Core.unitsNum A e (k + e - 52)) (FP.Core.unitsDen B e (k + e - 52)) = c at *
  unfold FP.Core.settle FP.Core.bound
  rw [f_p, f_qmax, f_tails]
  by_cases z : c < 2 ^ 53
  · rw [if_pos z, if_pos (by omega)]
    exact ⟨c, _, rfl, ⟨n1, z⟩, by omega, by omega⟩
  · rw [if_neg z, if_pos (by omega)]
    exact ⟨_, _, rfl, ⟨Nat.le_refl _, by decide⟩, by omega, by omega⟩
end
