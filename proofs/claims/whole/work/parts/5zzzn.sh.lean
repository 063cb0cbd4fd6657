/-! span: a row of positions is onto -/
theorem so_onto {n : Nat} {A : Int → Int → Prop} {i : Int} {σ : Int → Int} (h : soP A n i σ) {t : Int} (t0 : 0 ≤ t) (t1 : t < n) : ∃ j : Int, (0 ≤ j ∧ j < n) ∧ σ j = t := by
  have e := isum_J (f := fun _ => (1 : Int)) (J := σ) (K := n) (m := n) h.1 h.2.1
  have one : ∀ m : Nat, isum (fun _ => (1 : Int)) m = m := fun m => by
    induction m with
    | zero => rfl
    | succ m ih =>
      show isum (fun _ => (1 : Int)) m + 1 = _
      rw [ih]
      omega
  have e' : isum (fun _ => (1 : Int)) n = isum (fun k => if imJ σ n k = true then 1 else 0) n := e
  have s : isum (fun k => (if imJ σ n k = true then (1 : Int) else 0) + (if imJ σ n k = true then 0 else 1)) n = n := by
    rw [← one n]
    exact isum_ext fun k _ _ => by split <;> rfl
  rw [isum_add, ← e', one] at s
  have z := isum_0 (f := fun k => if imJ σ n k = true then (0 : Int) else 1) (m := n) (fun k _ _ => by split <;> omega) (by omega) t t0 t1
  by_cases c : imJ σ n t = true
  · exact imJ_iff.mp c
  · rw [if_neg c] at z
    omega
