/-! both ways to a quotient's bits -/
theorem F_quot {a b : Int} (a0 : 0 ≤ a) (a1 : a < 9223372036854775808) (b0 : 0 < b) (b1 : b < 9223372036854775808) : ∃ x y z, ∃ R : Int, oL2d (vl a) = some x ∧ oL2d (vl b) = some y ∧ oD2 FP.ddiv x y = some z ∧ (∀ h, F_Do_doubleToLongBits_ccdee [z] h = some (some (vl R), h)) ∧ (∀ h, F_Br_quotientBits [vl a, vl b] h = some (some (vl R), h)) := by
  by_cases z : a = 0
  · subst z
    obtain ⟨c, q, e, hc, q0, q1⟩ := d_l2d b0 b1
    refine ⟨_, _, _, 0, d_l2d0, e, d_div0 hc (by omega) (by omega), fun h => ?_, fun h => F_qb0⟩
    exact F_d2lb (by decide +kernel)
  · obtain ⟨c, q, hc, ⟨q0, q1⟩, ⟨x, y, ex, ey, ed, -⟩, -⟩ := F_qb (h := (fun _ => none, 0, 0)) (show 0 < a by omega) a1 b0 b1
    obtain ⟨X, eX⟩ := d_opq c q
    have en : ∀ h, F_Do_doubleToLongBits_ccdee [dN c q] h = some (some (.long X), h) := fun h => by
      rw [← eX]
      exact F_d2lb (by rw [f_nat hc (by omega), f_dec hc (by omega) (by omega)]; exact fun z => nomatch z)
    refine ⟨x, y, _, X.toInt, ex, ey, ed, fun h => ?_, fun h => ?_⟩
    · rw [en, show vl X.toInt = .long X by unfold vl; rw [Int64.ofInt_toInt]]
    · obtain ⟨c', q', hc', -, ⟨x', y', ex', ey', ed', -⟩, eq⟩ := F_qb (h := h) (show 0 < a by omega) a1 b0 b1
      rw [ex] at ex'
      rw [ey] at ey'
      cases ex'
      cases ey'
      rw [ed] at ed'
      have e3 : (UInt64.ofNat (fN c q)).toInt64 = (UInt64.ofNat (fN c' q')).toInt64 := by
        have := Option.some.inj ed'
        unfold dN at this
        rw [Value.double.inj this]
      rw [eq, ← e3, eX, show vl X.toInt = .long X by unfold vl; rw [Int64.ofInt_toInt]]
