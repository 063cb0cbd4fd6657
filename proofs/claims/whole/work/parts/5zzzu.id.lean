/-! side by side, at the start -/
section
variable {h H : zHp}
theorem s01_1 : s01 1 = w00 := by
  funext j
  show (if (1 : Nat) = 2 ∧ 0 ≤ j ∧ j < 58319 then us (us (us s00 1 2 40) 1 3 (-1)) 1 6 701 1 j else us (us (us s00 1 2 40) 1 3 (-1)) 1 6 701 1 j) = _
  rw [if_neg (by omega)]
  unfold us w00 s00
  simp only [true_and]
theorem s01_2 : s01 2 = w00 := by
  have e : us (us (us s00 1 2 40) 1 3 (-1)) 1 6 701 1 = w00 := by
    funext j
    unfold us w00 s00
    simp only [true_and]
  funext j
  show (if (2 : Nat) = 2 ∧ 0 ≤ j ∧ j < 58319 then us (us (us s00 1 2 40) 1 3 (-1)) 1 6 701 1 j else us (us (us s00 1 2 40) 1 3 (-1)) 1 6 701 2 j) = _
  rw [e]
  by_cases c : 0 ≤ j ∧ j < 58319
  · rw [if_pos ⟨rfl, c⟩]
  · rw [if_neg (fun z => c z.2)]
    show 0 = w00 j
    unfold w00
    rw [if_neg (by omega), if_neg (by omega), if_neg (by omega)]
theorem w00_0 {j : Int} (h : j < 2 ∨ 6 < j ∨ j = 4 ∨ j = 5) : w00 j = 0 := by
  unfold w00
  rw [if_neg (by omega), if_neg (by omega), if_neg (by omega)]
def gS (h : zHp) : zG := fun a => if h.2.1 < a ∧ a < h.2.1 + 11 then (jtI h).1 a else none
theorem gS_k {a : Nat} (h0 : h.2.1 < a) (h1 : a < h.2.1 + 11) : gS h a = (stI (zAl h 6 (10, jtL h.2.1))).1 a := (if_pos ⟨h0, h1⟩).trans (jtI_s h0 h1)
theorem StAt_s : StAt (gS h) (h.2.1 + 1) w00 := by
  obtain ⟨z0, z1, z2, z3, z4⟩ := stI_at (h := zAl h 6 (10, jtL h.2.1))
  simp only [zl_21] at z0 z1 z2 z3 z4
  have w2 : w00 2 = 40 := rfl
  have w3 : w00 3 = -1 := rfl
  have w6 : w00 6 = 701 := rfl
  refine ⟨h.2.1 + 2, h.2.1 + 9, h.2.1 + 10, feB (h.2.1 + 3) 3, fun _ => .null, fun _ => .null, ?_, ?_, ⟨?_, ?_, ?_⟩, fun e e0 e1 => ?_, fun t t0 t1 => Or.inl ⟨?_, rfl⟩, fun c c0 c1 => Or.inl ⟨w00_0 (by omega), rfl⟩⟩
  · rw [gS_k (by omega) (by omega), z0]
    rfl
  · rw [w2, w3, w6, w00_0 (j := 4) (by omega), w00_0 (j := 5) (by omega), w00_0 (j := 7) (by omega)]
    omega
  · rw [gS_k (by omega) (by omega)]
    exact z1
  · rw [gS_k (by omega) (by omega)]
    exact z2
  · rw [gS_k (by omega) (by omega)]
    exact z3
  · obtain ⟨j, rfl⟩ : ∃ j : Nat, e = j := ⟨e.toNat, by omega⟩
    obtain ⟨y1, y2⟩ := z4 j (by omega)
    refine ⟨h.2.1 + 3 + 2 * j, ?_, 0, h.2.1 + 3 + 2 * j + 1, fun _ => .null, fun _ => 0, ⟨w00_0 (by omega), by omega⟩, ?_, ?_, fun i i0 i1 => by omega⟩
    · unfold feB
      rw [if_pos (by omega), show ((j : Int)).toNat = j by omega]
    · rw [gS_k (by omega) (by omega)]
      exact y1
    · rw [gS_k (by omega) (by omega)]
      exact y2
  · rw [w00_0 (j := 7) (by omega)]
    unfold bit
    rw [Int.zero_ediv]
    rfl
theorem PaO_s : PaO (gS h) w00 (fun _ => .null) := by
  have a0 : w00 0 = 0 := rfl
  have a1 : w00 1 = 0 := rfl
  refine ⟨⟨by rw [a0]; omega, by rw [a1]; omega⟩, fun i i0 i1 => ?_, fun i _ _ => Or.inl rfl⟩
  rw [a0] at i1
  omega
theorem WI_start : WI h.2.1 (jtI h).2.1 (hp (jtI h).2.1 s01 (miH (jtI h))) s01 := by
  have j2 := (jtI_2 (h := h)).1
  have m2 := (miH_2 (h := jtI h)).1
  have out : ∀ a, a < h.2.1 + 13 → (hp (jtI h).2.1 s01 (miH (jtI h))).1 a = (jtI h).1 a := fun a ha => by
    rw [hp_out (by omega), miH_o (by omega)]
  have s1 := s01_1
  have s2 := s01_2
  have st := StAt_s (h := h)
  have pa := PaO_s (h := h)
  refine ⟨gS h, h.2.1 + 1, h.2.1 + 11, h.2.1 + 1, h.2.1 + 12, fun _ => .null, fun _ => .null, ⟨hp_self, ?_⟩, fun a o q => ?_, ⟨⟨?_, by omega⟩, ⟨?_, by omega⟩, ⟨?_, by omega⟩, by omega, by omega, by omega⟩, ?_, ⟨?_, ?_⟩, by rw [s1]; exact st, by rw [s2]; exact st, by rw [s1]; exact pa, by rw [s2]; exact pa⟩
  · rw [hp_2]; omega
  · unfold gS at q
    by_cases c : h.2.1 < a ∧ a < h.2.1 + 11
    · rw [if_pos c] at q
      refine ⟨by rw [out a (by omega)]; exact q, by rw [hp_2]; omega, by omega, by omega, by omega, by omega⟩
    · rw [if_neg c] at q
      cases q
  · rw [hp_2]; omega
  · rw [hp_2]; omega
  · rw [hp_2]; omega
  · rw [out _ (by omega), jtI_x, s1, s2]
    rfl
  · rw [out _ (by omega)]
    exact jtI_p.1
  · rw [out _ (by omega)]
    exact jtI_p.2
end
