/-! NUMBERS: ints and longs as whole numbers -/
theorem c_int (n : Nat) : Value.int (OfNat.ofNat n) = vi (OfNat.ofNat n) := rfl
theorem c_neg (n : Nat) : Value.int (-(OfNat.ofNat n)) = vi (-(OfNat.ofNat n)) := by
  unfold vi
  rw [Int32.ofInt_neg]
  rfl
theorem c_long (n : Nat) : Value.long (OfNat.ofNat n) = vl (OfNat.ofNat n) := rfl
theorem vi_of (w : Int32) : Value.int w = vi w.toInt := by unfold vi; rw [Int32.ofInt_toInt]
theorem vl_of (w : Int64) : Value.long w = vl w.toInt := by unfold vl; rw [Int64.ofInt_toInt]
theorem vi_nat (n : Nat) : Value.int (Int32.ofNat n) = vi (n : Int) := rfl
theorem i_rng (w : Int32) : -2147483648 ≤ w.toInt ∧ w.toInt < 2147483648 := ⟨w.le_toInt, w.toInt_lt⟩
theorem l_rng (w : Int64) : -9223372036854775808 ≤ w.toInt ∧ w.toInt < 9223372036854775808 := ⟨w.le_toInt, w.toInt_lt⟩
theorem e_add {a b : Int} : oI2 (fun x y => x + y) (vi a) (vi b) = some (vi (a + b)) := by simp [oI2, vi, Int32.ofInt_add]
theorem e_sub {a b : Int} : oI2 (fun x y => x - y) (vi a) (vi b) = some (vi (a - b)) := by simp [oI2, vi, Int32.ofInt_sub]
theorem e_mul {a b : Int} : oI2 (fun x y => x * y) (vi a) (vi b) = some (vi (a * b)) := by simp [oI2, vi, Int32.ofInt_mul]
theorem e_neg {a : Int} : oI1 (fun x => -x) (vi a) = some (vi (-a)) := by simp [oI1, vi, Int32.ofInt_neg]
theorem e_ladd {a b : Int} : oL2 (fun x y => x + y) (vl a) (vl b) = some (vl (a + b)) := by simp [oL2, vl, Int64.ofInt_add]
theorem e_lsub {a b : Int} : oL2 (fun x y => x - y) (vl a) (vl b) = some (vl (a - b)) := by simp [oL2, vl, Int64.ofInt_sub]
theorem e_lmul {a b : Int} : oL2 (fun x y => x * y) (vl a) (vl b) = some (vl (a * b)) := by simp [oL2, vl, Int64.ofInt_mul]
theorem e_lneg {a : Int} : oL1 (fun x => -x) (vl a) = some (vl (-a)) := by simp [oL1, vl, Int64.ofInt_neg]
theorem ti {a : Int} (h1 : -2147483648 ≤ a) (h2 : a < 2147483648) : (Int32.ofInt a).toInt = a := Int32.toInt_ofInt_of_le (by simpa using h1) (by simpa using h2)
theorem tl {a : Int} (h1 : -9223372036854775808 ≤ a) (h2 : a < 9223372036854775808) : (Int64.ofInt a).toInt = a := Int64.toInt_ofInt_of_le (by simpa using h1) (by simpa using h2)
theorem i_eq {a b : Int} (h1 : -2147483648 ≤ a) (h2 : a < 2147483648) (h3 : -2147483648 ≤ b) (h4 : b < 2147483648) : (Int32.ofInt a = Int32.ofInt b) = (a = b) := by
  rw [← Int32.toInt_inj, ti h1 h2, ti h3 h4]
theorem i_lt {a b : Int} (h1 : -2147483648 ≤ a) (h2 : a < 2147483648) (h3 : -2147483648 ≤ b) (h4 : b < 2147483648) : (Int32.ofInt a < Int32.ofInt b) = (a < b) := by
  rw [Int32.lt_iff_toInt_lt, ti h1 h2, ti h3 h4]
theorem i_le {a b : Int} (h1 : -2147483648 ≤ a) (h2 : a < 2147483648) (h3 : -2147483648 ≤ b) (h4 : b < 2147483648) : (Int32.ofInt a ≤ Int32.ofInt b) = (a ≤ b) := by
  rw [Int32.le_iff_toInt_le, ti h1 h2, ti h3 h4]
theorem l_eq {a b : Int} (h1 : -9223372036854775808 ≤ a) (h2 : a < 9223372036854775808) (h3 : -9223372036854775808 ≤ b) (h4 : b < 9223372036854775808) : (Int64.ofInt a = Int64.ofInt b) = (a = b) := by
  rw [← Int64.toInt_inj, tl h1 h2, tl h3 h4]
theorem l_lt {a b : Int} (h1 : -9223372036854775808 ≤ a) (h2 : a < 9223372036854775808) (h3 : -9223372036854775808 ≤ b) (h4 : b < 9223372036854775808) : (Int64.ofInt a < Int64.ofInt b) = (a < b) := by
  rw [Int64.lt_iff_toInt_lt, tl h1 h2, tl h3 h4]
theorem vi_inj {a b : Int} (h1 : -2147483648 ≤ a) (h2 : a < 2147483648) (h3 : -2147483648 ≤ b) (h4 : b < 2147483648) (h : vi a = vi b) : a = b := by
  unfold vi at h
  injection h with h
  rwa [i_eq h1 h2 h3 h4] at h
-- comparisons
theorem q_0 {a b : Int} (h1 : -2147483648 ≤ a) (h2 : a < 2147483648) (h3 : -2147483648 ≤ b) (h4 : b < 2147483648) : zC2v 0 (vi a) (vi b) = some (decide (a = b)) := by simp only [zC2v, vi, zInt, zIc, Option.bind_some, i_eq h1 h2 h3 h4]
theorem q_1 {a b : Int} (h1 : -2147483648 ≤ a) (h2 : a < 2147483648) (h3 : -2147483648 ≤ b) (h4 : b < 2147483648) : zC2v 1 (vi a) (vi b) = some (decide (¬ a = b)) := by simp only [zC2v, vi, zInt, zIc, Option.bind_some, i_eq h1 h2 h3 h4]
theorem q_2 {a b : Int} (h1 : -2147483648 ≤ a) (h2 : a < 2147483648) (h3 : -2147483648 ≤ b) (h4 : b < 2147483648) : zC2v 2 (vi a) (vi b) = some (decide (a < b)) := by simp only [zC2v, vi, zInt, zIc, Option.bind_some, i_lt h1 h2 h3 h4]
theorem q_3 {a b : Int} (h1 : -2147483648 ≤ a) (h2 : a < 2147483648) (h3 : -2147483648 ≤ b) (h4 : b < 2147483648) : zC2v 3 (vi a) (vi b) = some (decide (b ≤ a)) := by simp only [zC2v, vi, zInt, zIc, Option.bind_some, i_le h3 h4 h1 h2]
theorem q_4 {a b : Int} (h1 : -2147483648 ≤ a) (h2 : a < 2147483648) (h3 : -2147483648 ≤ b) (h4 : b < 2147483648) : zC2v 4 (vi a) (vi b) = some (decide (b < a)) := by simp only [zC2v, vi, zInt, zIc, Option.bind_some, i_lt h3 h4 h1 h2]
theorem q_5 {a b : Int} (h1 : -2147483648 ≤ a) (h2 : a < 2147483648) (h3 : -2147483648 ≤ b) (h4 : b < 2147483648) : zC2v 5 (vi a) (vi b) = some (decide (a ≤ b)) := by simp only [zC2v, vi, zInt, zIc, Option.bind_some, i_le h1 h2 h3 h4]
theorem q_b0 {a b : Bool} : zC2v 0 (vb a) (vb b) = some (a == b) := by cases a <;> cases b <;> rfl
theorem q_b1 {a b : Bool} : zC2v 1 (vb a) (vb b) = some (a != b) := by cases a <;> cases b <;> rfl
theorem z_i0 : (0 : Int32) = Int32.ofInt 0 := rfl
theorem p_0 {a : Int} (h1 : -2147483648 ≤ a) (h2 : a < 2147483648) : zC1v 0 (vi a) = some (decide (a = 0)) := by
  simp only [zC1v, vi, zInt, zIc, Option.bind_some, z_i0, i_eq h1 h2 (show (-2147483648 : Int) ≤ 0 by decide) (by decide)]
theorem p_1 {a : Int} (h1 : -2147483648 ≤ a) (h2 : a < 2147483648) : zC1v 1 (vi a) = some (decide (¬ a = 0)) := by
  simp only [zC1v, vi, zInt, zIc, Option.bind_some, z_i0, i_eq h1 h2 (show (-2147483648 : Int) ≤ 0 by decide) (by decide)]
theorem p_2 {a : Int} (h1 : -2147483648 ≤ a) (h2 : a < 2147483648) : zC1v 2 (vi a) = some (decide (a < 0)) := by
  simp only [zC1v, vi, zInt, zIc, Option.bind_some, z_i0, i_lt h1 h2 (show (-2147483648 : Int) ≤ 0 by decide) (by decide)]
theorem p_3 {a : Int} (h1 : -2147483648 ≤ a) (h2 : a < 2147483648) : zC1v 3 (vi a) = some (decide (0 ≤ a)) := by
  simp only [zC1v, vi, zInt, zIc, Option.bind_some, z_i0, i_le (show (-2147483648 : Int) ≤ 0 by decide) (by decide) h1 h2]
theorem p_4 {a : Int} (h1 : -2147483648 ≤ a) (h2 : a < 2147483648) : zC1v 4 (vi a) = some (decide (0 < a)) := by
  simp only [zC1v, vi, zInt, zIc, Option.bind_some, z_i0, i_lt (show (-2147483648 : Int) ≤ 0 by decide) (by decide) h1 h2]
theorem p_5 {a : Int} (h1 : -2147483648 ≤ a) (h2 : a < 2147483648) : zC1v 5 (vi a) = some (decide (a ≤ 0)) := by
  simp only [zC1v, vi, zInt, zIc, Option.bind_some, z_i0, i_le h1 h2 (show (-2147483648 : Int) ≤ 0 by decide) (by decide)]
theorem p_b0 {b : Bool} : zC1v 0 (vb b) = some (!b) := by cases b <;> rfl
theorem p_b1 {b : Bool} : zC1v 1 (vb b) = some b := by cases b <;> rfl
/-- how two longs compare -/
def icmp (a b : Int) : Int := if b < a then 1 else if a = b then 0 else -1
theorem e_lcmp {a b : Int} (h1 : -9223372036854775808 ≤ a) (h2 : a < 9223372036854775808) (h3 : -9223372036854775808 ≤ b) (h4 : b < 9223372036854775808) : oLcmp (vl a) (vl b) = some (vi (icmp a b)) := by
  simp only [oLcmp, vl, lg_cmp, gt_iff_lt, l_lt h3 h4 h1 h2, l_eq h1 h2 h3 h4, icmp]
  split
  · rfl
  · split <;> rfl
theorem icmp_b {a b : Int} : -1 ≤ icmp a b ∧ icmp a b ≤ 1 := by unfold icmp; split <;> (try split) <;> omega
theorem pl_0 {a b : Int} : zC1v 0 (vi (icmp a b)) = some (decide (a = b)) := by
  have := @icmp_b a b
  rw [p_0 (by omega) (by omega)]
  unfold icmp
  congr 1
  by_cases h : b < a
  · simp [h]; omega
  · by_cases h2 : a = b <;> simp [h, h2]
theorem pl_1 {a b : Int} : zC1v 1 (vi (icmp a b)) = some (decide (¬ a = b)) := by
  have := @icmp_b a b
  rw [p_1 (by omega) (by omega)]
  unfold icmp
  congr 1
  by_cases h : b < a
  · simp [h]; omega
  · by_cases h2 : a = b <;> simp [h, h2]
theorem pl_2 {a b : Int} : zC1v 2 (vi (icmp a b)) = some (decide (a < b)) := by
  have := @icmp_b a b
  rw [p_2 (by omega) (by omega)]
  unfold icmp
  congr 1
  by_cases h : b < a
  · simp [h]; omega
  · by_cases h2 : a = b
    · simp [h, h2]
    · simp [h, h2]; omega
theorem pl_3 {a b : Int} : zC1v 3 (vi (icmp a b)) = some (decide (b ≤ a)) := by
  have := @icmp_b a b
  rw [p_3 (by omega) (by omega)]
  unfold icmp
  congr 1
  by_cases h : b < a
  · simp [h]; omega
  · by_cases h2 : a = b
    · simp [h, h2]
    · simp [h, h2]; omega
theorem pl_4 {a b : Int} : zC1v 4 (vi (icmp a b)) = some (decide (b < a)) := by
  have := @icmp_b a b
  rw [p_4 (by omega) (by omega)]
  unfold icmp
  congr 1
  by_cases h : b < a
  · simp [h]
  · by_cases h2 : a = b
    · simp [h, h2]
    · simp [h, h2]
theorem pl_5 {a b : Int} : zC1v 5 (vi (icmp a b)) = some (decide (a ≤ b)) := by
  have := @icmp_b a b
  rw [p_5 (by omega) (by omega)]
  unfold icmp
  congr 1
  by_cases h : b < a
  · simp [h]
  · by_cases h2 : a = b
    · simp [h, h2]
    · simp [h, h2]; omega
-- conversions, divisions
theorem i_mx {a : Int} (h : a < 2147483648) : a ≤ Int32.maxValue.toInt := by
  have : Int32.maxValue.toInt = 2147483647 := by decide
  omega
theorem l_mx {a : Int} (h : a < 9223372036854775808) : a ≤ Int64.maxValue.toInt := by
  have : Int64.maxValue.toInt = 9223372036854775807 := by decide
  omega
theorem e_i2l {a : Int} (h1 : -2147483648 ≤ a) (h2 : a < 2147483648) : oI2l (vi a) = some (vl a) := by
  simp only [oI2l, vi, vl]
  congr 2
  rw [← Int64.toInt_inj, Int32.toInt_toInt64, ti h1 h2, tl (by omega) (by omega)]
theorem e_l2i {a : Int} : oL2i (vl a) = some (vi a) := by simp only [oL2i, vi, vl, Int64.toInt32_ofInt]
theorem e_idivt {a b : Int} (h1 : -2147483648 ≤ a) (h2 : a < 2147483648) (h3 : -2147483648 ≤ b) (h4 : b < 2147483648) (h0 : b ≠ 0) : oIdiv (vi a) (vi b) = some (vi (a.tdiv b)) := by
  have hz : ¬ Int32.ofInt b = 0 := by rw [z_i0, i_eq h3 h4 (by decide) (by decide)]; exact h0
  simp only [oIdiv, vi, hz, if_false]
  rw [Int32.ofInt_tdiv (by simpa using h1) (i_mx h2) (by simpa using h3) (i_mx h4)]
theorem e_idiv {a b : Int} (h1 : 0 ≤ a) (h2 : a < 2147483648) (h3 : 0 < b) (h4 : b < 2147483648) : oIdiv (vi a) (vi b) = some (vi (a / b)) := by
  rw [e_idivt (by omega) h2 (by omega) h4 (by omega), Int.tdiv_eq_ediv_of_nonneg h1]
theorem e_iremt {a b : Int} (h1 : -2147483648 ≤ a) (h2 : a < 2147483648) (h3 : -2147483648 ≤ b) (h4 : b < 2147483648) (h0 : b ≠ 0) : oIrem (vi a) (vi b) = some (vi (a.tmod b)) := by
  have hz : ¬ Int32.ofInt b = 0 := by rw [z_i0, i_eq h3 h4 (by decide) (by decide)]; exact h0
  simp only [oIrem, vi, hz, if_false]
  rw [← Int32.ofInt_tdiv (by simpa using h1) (i_mx h2) (by simpa using h3) (i_mx h4), ← Int32.ofInt_mul, ← Int32.ofInt_sub]
  congr 3
  rw [Int.tmod_def, Int.mul_comm]
theorem e_irem {a b : Int} (h1 : 0 ≤ a) (h2 : a < 2147483648) (h3 : 0 < b) (h4 : b < 2147483648) : oIrem (vi a) (vi b) = some (vi (a % b)) := by
  rw [e_iremt (by omega) h2 (by omega) h4 (by omega), Int.tmod_eq_emod_of_nonneg h1]
theorem z_l0 : (0 : Int64) = Int64.ofInt 0 := rfl
theorem e_ldiv {a b : Int} (h1 : 0 ≤ a) (h2 : a < 9223372036854775808) (h3 : 0 < b) (h4 : b < 9223372036854775808) : oLdiv (vl a) (vl b) = some (vl (a / b)) := by
  have hz : ¬ Int64.ofInt b = 0 := by rw [z_l0, l_eq (by omega) h4 (by decide) (by decide)]; omega
  simp only [oLdiv, vl, hz, if_false]
  rw [← Int64.ofInt_tdiv (Int.le_trans (by decide) h1) (l_mx h2) (Int.le_trans (by decide) (Int.le_of_lt h3)) (l_mx h4), Int.tdiv_eq_ediv_of_nonneg h1]
theorem e_lrem {a b : Int} (h1 : 0 ≤ a) (h2 : a < 9223372036854775808) (h3 : 0 < b) (h4 : b < 9223372036854775808) : oLrem (vl a) (vl b) = some (vl (a % b)) := by
  have hz : ¬ Int64.ofInt b = 0 := by rw [z_l0, l_eq (by omega) h4 (by decide) (by decide)]; omega
  simp only [oLrem, vl, hz, if_false]
  rw [← Int64.ofInt_tdiv (Int.le_trans (by decide) h1) (l_mx h2) (Int.le_trans (by decide) (Int.le_of_lt h3)) (l_mx h4), ← Int64.ofInt_mul, ← Int64.ofInt_sub, Int.tdiv_eq_ediv_of_nonneg h1]
  congr 3
  have := Int.emod_def a b
  have h5 := Int.mul_comm (a / b) b
  omega
-- switches
theorem zSwv_i {lo : Int} {tab : List Nat} {d : Nat} {x : Int} (h1 : -2147483648 ≤ x) (h2 : x < 2147483648) : zSwv (zSwF lo tab d) (vi x) = some (if x < lo ∨ lo + tab.length ≤ x then d else tab.getD (x - lo).toNat d) := by
  simp only [zSwv, vi, zInt, Option.bind_some, zSwF, ti h1 h2]
-- rows
def ar (n : Nat) (f : Int → Value) : List Value := (List.range n).map fun (i : Nat) => f (i : Int)
def up {α : Type} (f : Int → α) (x : Int) (v : α) : Int → α := fun j => if j = x then v else f j
theorem up_s {α : Type} {f : Int → α} {x : Int} {v : α} : up f x v x = v := if_pos rfl
theorem up_n {α : Type} {f : Int → α} {x j : Int} {v : α} (h : j ≠ x) : up f x v j = f j := if_neg h
theorem ar_len {n : Nat} {f : Int → Value} : (ar n f).length = n := by simp [ar]
theorem ar_get {n : Nat} {f : Int → Value} {i : Nat} (h : i < n) : (ar n f)[i]? = some (f (i : Int)) := by simp [ar, h]
theorem ar_ext {n : Nat} {f g : Int → Value} (h : ∀ i : Int, 0 ≤ i → i < n → f i = g i) : ar n f = ar n g := by
  apply List.ext_getElem?
  intro i
  by_cases c : i < n
  · rw [ar_get c, ar_get c, h i (by omega) (by omega)]
  · rw [List.getElem?_eq_none (by rw [ar_len]; omega), List.getElem?_eq_none (by rw [ar_len]; omega)]
theorem ar_set {n : Nat} {f : Int → Value} {x : Int} {v : Value} (h : 0 ≤ x) : (ar n f).set x.toNat v = ar n (up f x v) := by
  apply List.ext_getElem?
  intro i
  by_cases c : i < n
  · rw [ar_get c]
    by_cases e : x.toNat = i
    · subst e
      rw [List.getElem?_set_self (by rw [ar_len]; exact c), show ((x.toNat : Nat) : Int) = x by omega, up_s]
    · rw [List.getElem?_set_ne e, ar_get c, up_n (by omega)]
  · rw [List.getElem?_eq_none (by rw [List.length_set, ar_len]; omega), List.getElem?_eq_none (by rw [ar_len]; omega)]
theorem ar_rep {n : Nat} {d : Value} : List.replicate n d = ar n (fun _ => d) := by
  apply List.ext_getElem?
  intro i
  by_cases c : i < n
  · rw [ar_get c]; simp [c]
  · rw [List.getElem?_eq_none (by rw [List.length_replicate]; omega), List.getElem?_eq_none (by rw [ar_len]; omega)]
theorem tn {a : Int} (h1 : -2147483648 ≤ a) (h2 : a < 2147483648) : (Int32.ofInt a).toNatClampNeg = a.toNat := Int32.toNatClampNeg_ofInt_of_le (by simpa using h1) (by simpa using h2)
theorem zIx_ar {n : Nat} {f : Int → Value} {x : Int} (h1 : 0 ≤ x) (h2 : x < n) (h3 : n ≤ 1000000) : zIx (ar n f) (Int32.ofInt x) = some (f x) := by
  have hn : ¬ Int32.ofInt x < 0 := by rw [z_i0, i_lt (by omega) (by omega) (by decide) (by decide)]; omega
  unfold zIx
  rw [if_neg hn, tn (by omega) (by omega), ar_get (by omega), show ((x.toNat : Nat) : Int) = x by omega]
/-- reads and writes of a row that is known -/
theorem g_ar {ty t n : Nat} {h : zHp} {a : Nat} {f : Int → Value} {x : Int} (e : h.1 a = some (t, ar n f)) (h1 : 0 ≤ x) (h2 : x < n) (h3 : n ≤ 1000000) : zAxv ty t h (.ref a) (vi x) = zTv ty (f x) := by
  simp only [zAxv, zRef, vi, zInt, zArr, e, Option.bind_some, if_true, zIx_ar h1 h2 h3]
theorem g_len {t n : Nat} {h : zHp} {a : Nat} {f : Int → Value} (e : h.1 a = some (t, ar n f)) : zLenv t h (.ref a) = some (vi (n : Int)) := by
  simp only [zLenv, zRef, zArr, e, Option.bind_some, if_true, ar_len, vi_nat]
theorem g_set {ty t n : Nat} {c : Option Nat} {h : zHp} {a : Nat} {f : Int → Value} {x : Int} {v : Value} (e : h.1 a = some (t, ar n f)) (h1 : 0 ≤ x) (h2 : x < n) (h3 : n ≤ 1000000) (hv : zTy ty v = true) (hc : zEl h c v = true) : zStv ty t c h (.ref a) (vi x) v = some (zSet h a (t, ar n (up f x v))) := by
  have hn : ¬ Int32.ofInt x < 0 := by rw [z_i0, i_lt (by omega) (by omega) (by decide) (by decide)]; omega
  simp only [zStv, zRef, vi, zInt, zStr, zArr, e, Option.bind_some, if_true, ar_len, tn (show -2147483648 ≤ x by omega) (show x < 2147483648 by omega)]
  rw [if_pos ⟨hn, by omega, hv, hc⟩, ar_set h1]
theorem g_fld {ty ci k : Nat} {h : zHp} {a : Nat} {vs : List Value} (e : h.1 a = some (ci, vs)) : zGfv ty ci k h (.ref a) = (vs[k]?).bind (zTv ty) := by
  simp only [zGfv, zRef, zFld, e, Option.bind_some, if_true]
theorem g_put {ty ci k : Nat} {h : zHp} {a : Nat} {vs : List Value} {v : Value} (e : h.1 a = some (ci, vs)) (hk : k < vs.length) (hv : zTy ty v = true) : zPfv ty ci k h (.ref a) v = some (zSet h a (ci, vs.set k v)) := by
  simp only [zPfv, zRef, zPut, e, Option.bind_some]
  rw [if_pos ⟨trivial, hk, hv⟩]
theorem g_tag {ci : Nat} {h : zHp} {a : Nat} {vs rest : List Value} (e : h.1 a = some (ci, vs)) : zTgo h (.ref a :: rest) ci = some () := by
  simp [zTgo, zTag, e]
theorem g_na {t : Nat} {d : Value} {h : zHp} {x : Int} (h1 : 0 ≤ x) (h2 : x ≤ 1000000) : zNav t d h (vi x) = some (.ref h.2.1, zAl h x.toNat (t, ar x.toNat (fun _ => d))) := by
  simp only [zNav, vi, zInt, Option.bind_some]
  rw [if_pos, tn (by omega) (by omega), ar_rep]
  constructor
  · rw [z_i0, i_le (by decide) (by decide) (by omega) (by omega)]; exact h1
  · rw [show (1000000 : Int32) = Int32.ofInt 1000000 from rfl, i_le (by omega) (by omega) (by decide) (by decide)]; exact h2
theorem zEl_n {h : zHp} {v : Value} : zEl h none v = true := rfl
theorem zEz0 {h : zHp} : zEl h (some 0) .null = true := rfl
theorem zEz2 {h : zHp} : zEl h (some 2) .null = true := rfl
theorem zEz9 {h : zHp} : zEl h (some 9) .null = true := rfl
theorem zEz5 {h : zHp} : zEl h (some 5) .null = true := rfl
theorem zEz4 {h : zHp} : zEl h (some 4) .null = true := rfl
theorem zEz6 {h : zHp} : zEl h (some 6) .null = true := rfl
/-- a place in a list -/
def zIn : Nat → List Value → Bool
  | _, [] => false
  | 0, _ :: _ => true
  | k + 1, _ :: vs => zIn k vs
theorem zIn_0 {v : Value} {vs : List Value} : zIn 0 (v :: vs) = true := rfl
theorem zIn_s {k : Nat} {v : Value} {vs : List Value} : zIn (k + 1) (v :: vs) = zIn k vs := rfl
theorem zIn_lt : ∀ {k : Nat} {vs : List Value}, zIn k vs = true → k < vs.length
  | _, [], h => by simp [zIn] at h
  | 0, _ :: _, _ => by simp
  | k + 1, _ :: vs, h => by
    have := zIn_lt (k := k) (vs := vs) h
    simp; omega
theorem zI0 {v0 : Value} {vs : List Value} : zIn 0 (v0 :: vs) = true := rfl
theorem zI1 {v0 v1 : Value} {vs : List Value} : zIn 1 (v0 :: v1 :: vs) = true := rfl
theorem zI2 {v0 v1 v2 : Value} {vs : List Value} : zIn 2 (v0 :: v1 :: v2 :: vs) = true := rfl
theorem zI3 {v0 v1 v2 v3 : Value} {vs : List Value} : zIn 3 (v0 :: v1 :: v2 :: v3 :: vs) = true := rfl
theorem zI4 {v0 v1 v2 v3 v4 : Value} {vs : List Value} : zIn 4 (v0 :: v1 :: v2 :: v3 :: v4 :: vs) = true := rfl
theorem zI5 {v0 v1 v2 v3 v4 v5 : Value} {vs : List Value} : zIn 5 (v0 :: v1 :: v2 :: v3 :: v4 :: v5 :: vs) = true := rfl
theorem zI6 {v0 v1 v2 v3 v4 v5 v6 : Value} {vs : List Value} : zIn 6 (v0 :: v1 :: v2 :: v3 :: v4 :: v5 :: v6 :: vs) = true := rfl
theorem zI7 {v0 v1 v2 v3 v4 v5 v6 v7 : Value} {vs : List Value} : zIn 7 (v0 :: v1 :: v2 :: v3 :: v4 :: v5 :: v6 :: v7 :: vs) = true := rfl
theorem zI8 {v0 v1 v2 v3 v4 v5 v6 v7 v8 : Value} {vs : List Value} : zIn 8 (v0 :: v1 :: v2 :: v3 :: v4 :: v5 :: v6 :: v7 :: v8 :: vs) = true := rfl
theorem zI9 {v0 v1 v2 v3 v4 v5 v6 v7 v8 v9 : Value} {vs : List Value} : zIn 9 (v0 :: v1 :: v2 :: v3 :: v4 :: v5 :: v6 :: v7 :: v8 :: v9 :: vs) = true := rfl
theorem zI10 {v0 v1 v2 v3 v4 v5 v6 v7 v8 v9 v10 : Value} {vs : List Value} : zIn 10 (v0 :: v1 :: v2 :: v3 :: v4 :: v5 :: v6 :: v7 :: v8 :: v9 :: v10 :: vs) = true := rfl
theorem zs_s {h : zHp} {a : Nat} {o : Nat × List Value} : (zSet h a o).1 a = some o := if_pos rfl
theorem zs_n {h : zHp} {a b : Nat} {o : Nat × List Value} (q : b ≠ a) : (zSet h a o).1 b = h.1 b := if_neg q
theorem zs_2 {h : zHp} {a : Nat} {o : Nat × List Value} : (zSet h a o).2 = h.2 := rfl
theorem zs_z {h : zHp} {a : Nat} {o o2 : Nat × List Value} : zSet (zSet h a o) a o2 = zSet h a o2 := by
  refine Prod.ext (funext fun b => ?_) rfl
  show (if b = a then some o2 else if b = a then some o else h.1 b) = (if b = a then some o2 else h.1 b)
  split <;> rfl
theorem zl_s {h : zHp} {n : Nat} {o : Nat × List Value} : (zAl h n o).1 h.2.1 = some o := if_pos rfl
theorem zl_n {h : zHp} {n b : Nat} {o : Nat × List Value} (q : b ≠ h.2.1) : (zAl h n o).1 b = h.1 b := if_neg q
theorem zl_21 {h : zHp} {n : Nat} {o : Nat × List Value} : (zAl h n o).2.1 = h.2.1 + 1 := rfl
theorem zl_22 {h : zHp} {n : Nat} {o : Nat × List Value} : (zAl h n o).2.2 = h.2.2 + n := rfl
theorem zl_z {h : zHp} {n : Nat} {o o2 : Nat × List Value} : zSet (zAl h n o) h.2.1 o2 = zAl h n o2 := by
  refine Prod.ext (funext fun b => ?_) rfl
  show (if b = h.2.1 then some o2 else if b = h.2.1 then some o else h.1 b) = (if b = h.2.1 then some o2 else h.1 b)
  split <;> rfl
theorem gf_s {h : zHp} {ty ci k a : Nat} {vs : List Value} : zGfv ty ci k (zSet h a (ci, vs)) (.ref a) = (vs[k]?).bind (zTv ty) := g_fld zs_s
theorem gf_n {h : zHp} {ty ci k a b : Nat} {o : Nat × List Value} (q : b ≠ a) : zGfv ty ci k (zSet h a o) (.ref b) = zGfv ty ci k h (.ref b) := by simp only [zGfv, zRef, zFld, Option.bind_some, zs_n q]
theorem gf_l {h : zHp} {n ty ci k : Nat} {vs : List Value} : zGfv ty ci k (zAl h n (ci, vs)) (.ref h.2.1) = (vs[k]?).bind (zTv ty) := g_fld zl_s
theorem pf_s {h : zHp} {ty ci k a : Nat} {vs : List Value} {v : Value} (hk : zIn k vs = true) (hv : zTy ty v = true) : zPfv ty ci k (zSet h a (ci, vs)) (.ref a) v = some (zSet h a (ci, vs.set k v)) := by rw [g_put zs_s (zIn_lt hk) hv, zs_z]
theorem pf_l {h : zHp} {n ty ci k : Nat} {vs : List Value} {v : Value} (hk : zIn k vs = true) (hv : zTy ty v = true) : zPfv ty ci k (zAl h n (ci, vs)) (.ref h.2.1) v = some (zAl h n (ci, vs.set k v)) := by rw [g_put zl_s (zIn_lt hk) hv, zl_z]
theorem g_pt {ty ci k : Nat} {h : zHp} {a : Nat} {vs : List Value} {v : Value} (e : h.1 a = some (ci, vs)) (hk : zIn k vs = true) (hv : zTy ty v = true) : zPfv ty ci k h (.ref a) v = some (zSet h a (ci, vs.set k v)) := g_put e (zIn_lt hk) hv
theorem nA {a n : Nat} : (a ≤ a + n) = True := eq_true (Nat.le_add_right a n)
