/-- the heap at the law's start: the script alone -/
def zH0 (N b L : Nat) (xs : Nat → Int32) : zHp := (fun a => if a = b then some (99, (List.range L).map fun j => Value.int (xs j)) else none, N, 0)
theorem zz_law (N b L : Nat) (xs : Nat → Int32) (hb : b < N) (hL : L ≤ 3072) : ∃ h' : zHp, S_La_law [.ref b, .null, .null, .null] (zH0 N b L xs) = some (.inr (some (.int 1)), h') ∧ h'.2.1 ≤ N + 600000 ∧ h'.2.2 ≤ 7302249 := sorry
