/-! prune: what is left of a knot -/
def oS (Q : Int → BitVec 64) (f : Int → Bool) : Nat → BitVec 64
  | 0 => 0#64
  | m + 1 => oS Q f m ||| (if f m = true then Q m else 0#64)
section
variable {Q : Int → BitVec 64} {f g : Int → Bool}
theorem oS_ext {Q' : Int → BitVec 64} : ∀ {m : Nat}, (∀ i : Int, 0 ≤ i → i < m → f i = g i ∧ (f i = true → Q i = Q' i)) → oS Q f m = oS Q' g m
  | 0, _ => rfl
  | m + 1, h => by
    have e := h m (by omega) (by omega)
    have ih := oS_ext (m := m) fun i a b => h i a (by omega)
    show oS Q f m ||| (if f m = true then Q m else 0#64) = oS Q' g m ||| (if g m = true then Q' m else 0#64)
    rw [ih, e.1]
    by_cases c : g m = true
    · rw [if_pos c, if_pos c, e.2 (by rw [e.1]; exact c)]
    · rw [if_neg c, if_neg c]
theorem or_r (a b c : BitVec 64) : a ||| b ||| c = a ||| c ||| b := by
  rw [BitVec.or_assoc, BitVec.or_comm b c, ← BitVec.or_assoc]
theorem oS_set {x : Int} {b : Bool} (x0 : 0 ≤ x) (hf : f x = false) : ∀ {m : Nat}, x < m → oS Q (up f x b) m = oS Q f m ||| (if b = true then Q x else 0#64)
  | 0, h => by omega
  | m + 1, h => by
    show oS Q (up f x b) m ||| (if up f x b m = true then Q m else 0#64) = oS Q f m ||| (if f m = true then Q m else 0#64) ||| _
    by_cases c : x = m
    · have e := oS_ext (Q := Q) (f := up f x b) (g := f) (Q' := Q) (m := m) fun i _ i1 => ⟨up_n (by omega), fun _ => rfl⟩
      rw [e, ← c, up_s, hf]
      have z0 : (if false = true then Q x else 0#64) = 0#64 := rfl
      rw [z0, BitVec.or_zero]
    · rw [oS_set x0 hf (m := m) (by omega), up_n (by omega), or_r]
theorem oS_s {i : Int} (i0 : 0 ≤ i) : oS Q f (i + 1).toNat = oS Q f i.toNat ||| (if f i = true then Q i else 0#64) := by
  rw [show (i + 1).toNat = i.toNat + 1 by omega]
  show _ ||| (if f (i.toNat : Int) = true then Q (i.toNat : Int) else 0#64) = _
  rw [show (i.toNat : Int) = i by omega]
theorem oS_0 : ∀ {m : Nat}, oS Q (fun _ => false) m = 0#64
  | 0 => rfl
  | m + 1 => by
    show oS Q (fun _ => false) m ||| (if false = true then Q m else 0#64) = _
    rw [oS_0, show (if false = true then Q (m : Int) else 0#64) = 0#64 from rfl, BitVec.or_zero]
end
section
variable {x m a n : Nat} {h h1 H : zHp} {s T gh : Nat → Int → Int} {r : zHp} {L : Int → BitVec 64} {J : Int → Int} {pk ps pj po on : Nat} {fk fs fj fo : Int → Value} {ka ba sa : Int → Nat} {t : Int} {D : Int → Bool}
def prS (n : Nat) (T : Nat → Int → Int) (D : Int → Bool) : Nat → Int → BitVec 64
  | 0, k => 1#64 <<< k.toNat
  | f + 1, k => if (n : Int) ≤ k then prS n T D f (hvr T k) ||| (if D k = true then 0#64 else prS n T D f (lgt T k)) else 1#64 <<< k.toNat
def prT (n : Nat) (T : Nat → Int → Int) (D : Int → Bool) (k : Int) : BitVec 64 := prS n T D 80 k
theorem prS_f (tf : TF n T gh L J) : ∀ (f : Nat) {k : Int}, 0 ≤ k → k < T 0 10 → k ≤ f → prS n T D (f + 1) k = prS n T D f k
  | 0, k, k0, k1, kf => by
    have := tf.2.2.2.1
    exact if_neg (by omega)
  | f + 1, k, k0, k1, kf => by
    by_cases c : (n : Int) ≤ k
    · have pt := tf_pt tf c k1
      show (if (n : Int) ≤ k then prS n T D (f + 1) (hvr T k) ||| (if D k = true then 0#64 else prS n T D (f + 1) (lgt T k)) else 1#64 <<< k.toNat) = if (n : Int) ≤ k then prS n T D f (hvr T k) ||| (if D k = true then 0#64 else prS n T D f (lgt T k)) else 1#64 <<< k.toNat
      rw [if_pos c, if_pos c, prS_f tf f pt.2.1.1 (by omega) (by omega), prS_f tf f pt.1.1 (by omega) (by omega)]
    · show (if (n : Int) ≤ k then _ else 1#64 <<< k.toNat) = if (n : Int) ≤ k then _ else 1#64 <<< k.toNat
      rw [if_neg c, if_neg c]
theorem prT_j (tf : TF n T gh L J) {k : Int} (k0 : (n : Int) ≤ k) (k1 : k < T 0 10) : prT n T D k = prT n T D (hvr T k) ||| (if D k = true then 0#64 else prT n T D (lgt T k)) := by
  have pt := tf_pt tf k0 k1
  have nj := tf_jets tf
  unfold prT
  show (if (n : Int) ≤ k then prS n T D 79 (hvr T k) ||| (if D k = true then 0#64 else prS n T D 79 (lgt T k)) else 1#64 <<< k.toNat) = _
  rw [if_pos k0, prS_f tf 79 pt.2.1.1 (by omega) (by omega), prS_f tf 79 pt.1.1 (by omega) (by omega)]
theorem prT_l {k : Int} (k1 : k < n) : prT n T D k = 1#64 <<< k.toNat := if_neg (by omega)
def drP (T : Nat → Int → Int) (z rad : Int) (k : Int) : Bool := decide (1000 * T 5 (lgt T k) < z * T 5 k) && decide (rad * rad < sqP T k)
/-- the flags of the class -/
def fgV (f : Int → Bool) (i : Int) : Value := vb (f i)
def fgH (h : zHp) (N : Nat) (f : Int → Bool) : zHp := zAl h N (66, ar N (fgV f))
theorem zTv_fg {f : Int → Bool} {i : Int} : zTv 0 (fgV f i) = some (vb (f i)) := by
  unfold fgV
  cases f i <;> rfl
theorem zStK_66 : zStK 66 = (4, none) := rfl
end
