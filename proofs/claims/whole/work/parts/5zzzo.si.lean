/-! span: the least pair of positions is the best pair of tracks -/
theorem aT_ir {s : Nat → Int → Int} {a : Int} : ¬ aT s a a := by simp only [aT, ahd]; omega
theorem lw_bst {s l : Nat → Int → Int} {n : Nat} {σ g P : Int → Int} {c v : Int} (hs : soP (aT s) n n σ) (hA : ∀ a b : Int, 0 ≤ a → a < n → 0 ≤ b → b < n → (ahS l a b ↔ aT s a b)) (hq : ∀ a b : Int, sqT l a b = sqT s a b) (hg : ∀ i j : Int, 0 ≤ i → i < n → 0 ≤ j → j < n → (g i = g j ↔ P (σ i) = P (σ j))) (h : lwP s σ g n (fun _ _ => True) c v) : (c = -1 ∧ ∀ a b, vp2 l n P a b → False) ∨ ∃ i j : Int, c = i * n + j ∧ (0 ≤ i ∧ i < j ∧ j < n) ∧ bst2 l n P (σ i) (σ j) := by
  have pos : ∀ x y, vp2 l n P x y → ∃ a b : Int, (0 ≤ a ∧ a < b ∧ b < n) ∧ (σ a = x ∧ σ b = y) ∧ g a ≠ g b := fun x y hv => by
    obtain ⟨⟨⟨x0, x1⟩, y0, y1⟩, ne, ah⟩ := hv
    obtain ⟨a, ⟨a0, a1⟩, ea⟩ := so_onto hs x0 x1
    obtain ⟨b, ⟨b0, b1⟩, eb⟩ := so_onto hs y0 y1
    have at' := (hA x y x0 x1 y0 y1).mp ah
    refine ⟨a, b, ⟨a0, ?_, b1⟩, ⟨ea, eb⟩, fun z => ne (by rw [← ea, ← eb]; exact (hg a b a0 a1 b0 b1).mp z)⟩
    by_cases z : a < b
    · exact z
    · by_cases z2 : a = b
      · rw [← ea, ← eb, z2] at at'
        exact (aT_ir at').elim
      · have := hs.2.2 b a b0 (by omega) a1
        rw [ea, eb] at this
        exact (aT_ir (aT_tr _ _ _ at' this)).elim
  rcases h with ⟨e1, e2⟩ | ⟨i, j, e1, -, ⟨i0, ij, jn⟩, ⟨e3, -⟩, e5⟩
  · refine Or.inl ⟨e1, fun x y hv => ?_⟩
    obtain ⟨a, b, ⟨a0, ab, bn⟩, -, ne⟩ := pos x y hv
    exact ne (e2 a b trivial a0 ab bn)
  · refine Or.inr ⟨i, j, e1, ⟨i0, ij, jn⟩, ?_, fun x y hv => ?_⟩
    · have si := hs.1 i i0 (by omega)
      have sj := hs.1 j (by omega) jn
      exact ⟨⟨si, sj⟩, fun z => e3 ((hg i j i0 (by omega) (by omega) jn).mpr z), (hA _ _ si.1 si.2 sj.1 sj.2).mpr (hs.2.2 i j i0 ij jn)⟩
    · obtain ⟨a, b, ⟨a0, ab, bn⟩, ⟨ea, eb⟩, ne⟩ := pos x y hv
      have si := hs.1 i i0 (by omega)
      have sj := hs.1 j (by omega) jn
      have sa := hs.1 a a0 (by omega)
      have sb := hs.1 b (by omega) bn
      have k := e5 a b trivial a0 ab bn ne
      unfold sqP2 at k
      rw [ea, eb] at k
      unfold btP
      rw [hq, hq]
      rcases k with k | ⟨k, k2⟩
      · exact Or.inr (Or.inl k)
      · by_cases z : i = a
        · by_cases z2 : j = b
          · left
            rw [z, z2]
            exact ⟨ea.symm, eb.symm⟩
          · right
            refine Or.inr ⟨k, Or.inl ⟨by rw [z, ea], ?_⟩⟩
            rw [← eb]
            exact (hA _ _ sj.1 sj.2 sb.1 sb.2).mpr (hs.2.2 j b (by omega) (by omega) bn)
        · right
          refine Or.inr ⟨k, Or.inr ⟨fun y => ?_, ?_⟩⟩
          · rw [← ea] at y
            exact z (hs.2.1 i a i0 (by omega) a0 (by omega) y)
          · rw [← ea]
            exact (hA _ _ si.1 si.2 sa.1 sa.2).mpr (hs.2.2 i a i0 (by omega) (by omega))
