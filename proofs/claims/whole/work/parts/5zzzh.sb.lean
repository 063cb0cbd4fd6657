/-! span: joins of pieces, how many -/
section
variable {m n : Nat} {s s' : Nat → Int → Int} {r : zHp} {P P2 : Int → Int}
def vp2 (s : Nat → Int → Int) (n : Nat) (P : Int → Int) (a b : Int) : Prop := ((0 ≤ a ∧ a < n) ∧ 0 ≤ b ∧ b < n) ∧ P a ≠ P b ∧ ahS s a b
def bst2 (s : Nat → Int → Int) (n : Nat) (P : Int → Int) (p q : Int) : Prop := vp2 s n P p q ∧ ∀ x y, vp2 s n P x y → (x = p ∧ y = q) ∨ btP s p q x y
def Kr (s : Nat → Int → Int) (n : Nat) : Nat → (Int → Int) → Prop
  | 0, P => ∀ i : Int, 0 ≤ i → i < n → P i = i
  | k + 1, P' => ∃ P p q, Kr s n k P ∧ bst2 s n P p q ∧ ∀ i : Int, 0 ≤ i → i < n → P' i = if P i = P q then P p else P i
theorem btP_ir {p q : Int} : ¬ btP s p q p q := by
  unfold btP
  intro h
  rcases h with h | ⟨-, ⟨-, h⟩ | ⟨h, -⟩⟩
  · omega
  · exact ahS_ir h
  · exact h rfl
theorem bst2_one {p q x y : Int} (h1 : bst2 s n P p q) (h2 : bst2 s n P x y) : x = p ∧ y = q := by
  rcases h1.2 x y h2.1 with e | g
  · exact e
  · rcases h2.2 p q h1.1 with e | g2
    · exact ⟨e.1.symm, e.2.symm⟩
    · exact (btP_ir (btP_tr g g2)).elim
theorem vp2_ext {a b : Int} (h : ∀ i : Int, 0 ≤ i → i < n → P i = P2 i) (v : vp2 s n P a b) : vp2 s n P2 a b := by
  obtain ⟨⟨⟨a0, a1⟩, b0, b1⟩, v2, v3⟩ := v
  exact ⟨⟨⟨a0, a1⟩, b0, b1⟩, by rw [← h a a0 a1, ← h b b0 b1]; exact v2, v3⟩
theorem bst2_ext {a b : Int} (h : ∀ i : Int, 0 ≤ i → i < n → P i = P2 i) (v : bst2 s n P a b) : bst2 s n P2 a b :=
  ⟨vp2_ext h v.1, fun x y hv => v.2 x y (vp2_ext (fun i i0 i1 => (h i i0 i1).symm) hv)⟩
theorem Kr_one : ∀ {k : Nat} {P P2 : Int → Int}, Kr s n k P → Kr s n k P2 → ∀ i : Int, 0 ≤ i → i < n → P i = P2 i
  | 0, _, _, h1, h2 => fun i i0 i1 => by rw [h1 i i0 i1, h2 i i0 i1]
  | k + 1, _, _, ⟨A, p, q, k1, b1, e1⟩, ⟨B, x, y, k2, b2, e2⟩ => fun i i0 i1 => by
    have ab := Kr_one k1 k2
    obtain ⟨f1, f2⟩ := bst2_one (bst2_ext ab b1) b2
    subst f1
    subst f2
    have pb := b1.1.1
    rw [e1 i i0 i1, e2 i i0 i1, ab i i0 i1, ab _ pb.1.1 pb.1.2, ab _ pb.2.1 pb.2.2]
def fxN (P : Int → Int) (n : Nat) : Int := isum (fun i => if P i = i then 1 else 0) n
theorem Kr_fx : ∀ {k : Nat} {P : Int → Int}, Kr s n k P → (∀ i : Int, 0 ≤ i → i < n → (0 ≤ P i ∧ P i < n) ∧ P (P i) = P i) ∧ fxN P n = n - k
  | 0, P, h => by
    refine ⟨fun i i0 i1 => ?_, ?_⟩
    · rw [h i i0 i1]
      exact ⟨⟨i0, i1⟩, h i i0 i1⟩
    · have : ∀ m : Nat, m ≤ n → fxN P m = m := fun m => by
        induction m with
        | zero => intro _; rfl
        | succ m ih =>
          intro hm
          show fxN P m + (if P m = m then 1 else 0) = _
          rw [ih (by omega), if_pos (h m (by omega) (by omega))]
          omega
      rw [this n (Nat.le_refl _)]
      omega
  | k + 1, P', ⟨P, p, q, k1, b1, e1⟩ => by
    obtain ⟨h1, h2⟩ := Kr_fx k1
    obtain ⟨⟨⟨p0, p1⟩, q0, q1⟩, ne, -⟩ := b1.1
    have hp1 := h1 p p0 p1
    have hq1 := h1 q q0 q1
    refine ⟨fun i i0 i1 => ?_, ?_⟩
    · have hi := h1 i i0 i1
      rw [e1 i i0 i1]
      by_cases c : P i = P q
      · rw [if_pos c]
        refine ⟨hp1.1, ?_⟩
        rw [e1 _ hp1.1.1 hp1.1.2, hp1.2, if_neg ne]
      · rw [if_neg c]
        refine ⟨hi.1, ?_⟩
        rw [e1 _ hi.1.1 hi.1.2, hi.2, if_neg c]
    · have st := isum_set (f := fun i => if P i = i then 1 else 0) (g := fun i => if P' i = i then 1 else 0) (x := P q) (v := 0) (n := n) hq1.1.1 hq1.1.2 (fun i i0 i1 hne => by
        show (if P' i = i then (1 : Int) else 0) = if P i = i then 1 else 0
        rw [e1 i i0 i1]
        by_cases c : P i = P q
        · rw [if_pos c]
          have a1 : ¬ P i = i := fun z => hne (by rw [← z]; exact c)
          have a2 : ¬ P p = i := fun z => by
            have : P i = P p := by rw [← z]; exact hp1.2
            exact ne (by rw [← this, c])
          rw [if_neg a1, if_neg a2]
        · rw [if_neg c]) (by
        show (if P' (P q) = P q then (1 : Int) else 0) = 0
        rw [e1 _ hq1.1.1 hq1.1.2, hq1.2, if_pos rfl, if_neg ne])
      unfold fxN at *
      rw [st, h2]
      show (n : Int) - k + (0 - (if P (P q) = P q then (1 : Int) else 0)) = _
      rw [if_pos hq1.2]
      omega
theorem Kr_lt {k : Nat} {a b : Int} (h : Kr s n k P) (v : vp2 s n P a b) : (k : Int) + 2 ≤ n := by
  obtain ⟨h1, h2⟩ := Kr_fx h
  obtain ⟨⟨⟨a0, a1⟩, b0, b1⟩, ne, -⟩ := v
  have ha := h1 a a0 a1
  have hb := h1 b b0 b1
  have g := isum_ge2 (f := fun i => if P i = i then (1 : Int) else 0) (x := P a) (y := P b) (n := n) (fun i _ _ => by split <;> omega) ha.1.1 ha.1.2 hb.1.1 hb.1.2 ne
  rw [if_pos ha.2, if_pos hb.2] at g
  unfold fxN at h2
  omega
theorem Kr_end {k : Nat} (h : Kr s n k P) (no : ∀ a b, vp2 s n P a b → False) : (n : Int) - 1 ≤ k := by
  obtain ⟨h1, h2⟩ := Kr_fx h
  have same : ∀ i j : Int, 0 ≤ i → i < n → 0 ≤ j → j < n → P i = P j := fun i j i0 i1 j0 j1 => by
    by_cases c : P i = P j
    · exact c
    · have ij : i ≠ j := fun z => c (by rw [z])
      rcases ahS_to2 (s := s) ij with g | g
      · exact (no i j ⟨⟨⟨i0, i1⟩, j0, j1⟩, c, g⟩).elim
      · exact (no j i ⟨⟨⟨j0, j1⟩, i0, i1⟩, fun z => c z.symm, g⟩).elim
  have le : ∀ m : Nat, m ≤ n → fxN P m ≤ 1 ∧ (fxN P m = 1 → ∃ j : Int, (0 ≤ j ∧ j < m) ∧ P j = j) ∧ 0 ≤ fxN P m := fun m => by
    induction m with
    | zero => intro _; exact ⟨by show (0 : Int) ≤ 1; omega, fun z => by have : (0 : Int) = 1 := z; omega, Int.le_refl _⟩
    | succ m ih =>
      intro hm
      obtain ⟨i1, i2, i3⟩ := ih (by omega)
      have e : fxN P (m + 1) = fxN P m + (if P m = m then 1 else 0) := rfl
      rw [e]
      by_cases c : P m = m
      · rw [if_pos c]
        have z : fxN P m = 0 := by
          by_cases y : fxN P m = 1
          · obtain ⟨j, ⟨j0, j1⟩, hj⟩ := i2 y
            have := same j m j0 (by omega) (by omega) (by omega)
            omega
          · omega
        exact ⟨by omega, fun _ => ⟨m, ⟨by omega, by omega⟩, c⟩, by omega⟩
      · rw [if_neg c]
        refine ⟨by omega, fun z => ?_, by omega⟩
        obtain ⟨j, ⟨j0, j1⟩, hj⟩ := i2 (by omega)
        exact ⟨j, ⟨j0, by omega⟩, hj⟩
  have := (le n (Nat.le_refl _)).1
  omega
end
