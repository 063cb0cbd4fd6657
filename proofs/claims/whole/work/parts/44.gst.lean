/-! THE GATHERER: what stays from step to step -/
section
variable {B n : Nat} {gi : Nat → Int} {ga : Nat → Int → Value} {r : zHp} {s s' gh gh' : Nat → Int → Int} {L : Int → BitVec 64}
theorem OP_out {op : Int → Int} {oc i0 : Int} (h : OP s oc op) (i0_0 : 0 ≤ i0) (i0_1 : i0 < oc) (f0 : s' 0 10 = s 0 10) (f3 : ∀ j, s' 3 j = s 3 j) (f4 : ∀ j, s' 4 j = s 4 j) (f5 : ∀ j, s' 5 j = s 5 j) (f8 : ∀ j, 0 ≤ j → j < s 0 10 → s' 8 j = if j = op i0 then 0 else s 8 j) : OP s' (oc - 1) (opOut op i0) := by
  have ah : ∀ a b, ahS s a b → ahS s' a b := fun a b q => by simp only [ahS, f3, f4, f5] at *; exact q
  have inj := fun i j a b c d e => op_inj h (i := i) (j := j) a b c d e
  refine ⟨fun i a b => ?_, fun i j a b c => ?_, fun k a b c => ?_⟩
  · unfold opOut
    split
    · have x := h.1 i a (by omega)
      refine ⟨by omega, ?_⟩
      rw [f8 _ x.1.1 x.1.2, if_neg (fun q => by have := inj i i0 a (by omega) i0_0 i0_1 q; omega)]
      exact x.2
    · have x := h.1 (i + 1) (by omega) (by omega)
      refine ⟨by omega, ?_⟩
      rw [f8 _ x.1.1 x.1.2, if_neg (fun q => by have := inj (i + 1) i0 (by omega) (by omega) i0_0 i0_1 q; omega)]
      exact x.2
  · apply ah
    unfold opOut
    split <;> split
    all_goals exact h.2.1 _ _ (by omega) (by omega) (by omega)
  · have c' := f8 k a (by omega)
    rw [c] at c'
    have nk : k ≠ op i0 := fun q => by rw [if_pos q] at c'; omega
    rw [if_neg nk] at c'
    obtain ⟨i, x, y⟩ := h.2.2 k a (by omega) c'.symm
    by_cases d : i < i0
    · exact ⟨i, by omega, by unfold opOut; rw [if_pos d]; exact y⟩
    · have : i ≠ i0 := fun q => nk (by rw [← y, q])
      exact ⟨i - 1, by omega, by unfold opOut; rw [if_neg (by omega), show i - 1 + 1 = i by omega]; exact y⟩
def insO (f : Int → Int) (p v : Int) : Int → Int := fun j => if j < p then f j else if j = p then v else f (j - 1)
theorem OP_ins {op : Int → Int} {oc p : Int} (h : OP s oc op) (p0 : 0 ≤ p) (p1 : p ≤ oc) (f0 : s' 0 10 = s 0 10 + 1) (k0 : 0 ≤ s 0 10) (f3 : ∀ j, 0 ≤ j → j < s 0 10 → s' 3 j = s 3 j) (f4 : ∀ j, 0 ≤ j → j < s 0 10 → s' 4 j = s 4 j) (f5 : ∀ j, 0 ≤ j → j < s 0 10 → s' 5 j = s 5 j) (f8 : ∀ j, 0 ≤ j → j < s 0 10 → s' 8 j = s 8 j) (f8' : s' 8 (s 0 10) = 1) (g1 : ∀ j, p ≤ j → j < oc → ahS s' (s 0 10) (op j)) (g2 : p = 0 ∨ ¬ ahS s' (s 0 10) (op (p - 1))) : OP s' (oc + 1) (insO op p (s 0 10)) := by
  have ah : ∀ a b, 0 ≤ a → a < s 0 10 → 0 ≤ b → b < s 0 10 → ahS s a b → ahS s' a b := fun a b a0 a1 b0 b1 q => by simp only [ahS]; rw [f3 a a0 a1, f4 a a0 a1, f5 a a0 a1, f3 b b0 b1, f4 b b0 b1, f5 b b0 b1]; exact q
  have lo : ∀ j, 0 ≤ j → j < p → ahS s' (op j) (s 0 10) := by
    intro j j0 j1
    have x := h.1 (p - 1) (by omega) (by omega)
    have y : ahS s' (op (p - 1)) (s 0 10) := by
      rcases g2 with g2 | g2
      · omega
      · rcases ahS_tot (s := s') (k := op (p - 1)) (e := s 0 10) (by omega) with q | q
        · exact q
        · exact absurd q g2
    by_cases d : j = p - 1
    · rw [d]; exact y
    · have z := h.1 j j0 (by omega)
      exact ahS_trans (ah _ _ z.1.1 z.1.2 x.1.1 x.1.2 (h.2.1 j (p - 1) j0 (by omega) (by omega))) y
  refine ⟨fun i a b => ?_, fun i j a b c => ?_, fun k a b c => ?_⟩
  · unfold insO
    split
    · have x := h.1 i a (by omega)
      exact ⟨by omega, by rw [f8 _ x.1.1 x.1.2]; exact x.2⟩
    · split
      · exact ⟨by omega, f8'⟩
      · have x := h.1 (i - 1) (by omega) (by omega)
        exact ⟨by omega, by rw [f8 _ x.1.1 x.1.2]; exact x.2⟩
  · unfold insO
    by_cases i1 : i < p
    · rw [if_pos i1]
      by_cases j1 : j < p
      · rw [if_pos j1]
        have x := h.1 i a (by omega)
        have y := h.1 j (by omega) (by omega)
        exact ah _ _ x.1.1 x.1.2 y.1.1 y.1.2 (h.2.1 _ _ a b (by omega))
      · rw [if_neg j1]
        by_cases j2 : j = p
        · rw [if_pos j2]; exact lo i a i1
        · rw [if_neg j2]
          have x := h.1 i a (by omega)
          have y := h.1 (j - 1) (by omega) (by omega)
          exact ah _ _ x.1.1 x.1.2 y.1.1 y.1.2 (h.2.1 _ _ a (by omega) (by omega))
    · rw [if_neg i1, if_neg (show ¬ j < p by omega), if_neg (show ¬ j = p by omega)]
      by_cases i2 : i = p
      · rw [if_pos i2]; exact g1 (j - 1) (by omega) (by omega)
      · rw [if_neg i2]
        have x := h.1 (i - 1) (by omega) (by omega)
        have y := h.1 (j - 1) (by omega) (by omega)
        exact ah _ _ x.1.1 x.1.2 y.1.1 y.1.2 (h.2.1 _ _ (by omega) (by omega) (by omega))
  · by_cases d : k = s 0 10
    · exact ⟨p, by omega, by unfold insO; rw [if_neg (by omega), if_pos rfl, d]⟩
    · rw [f8 k a (by omega)] at c
      obtain ⟨i, x, y⟩ := h.2.2 k a (by omega) c
      by_cases e : i < p
      · exact ⟨i, by omega, by unfold insO; rw [if_pos e]; exact y⟩
      · exact ⟨i + 1, by omega, by unfold insO; rw [if_neg (by omega), if_neg (by omega), show i + 1 - 1 = i by omega]; exact y⟩
theorem hvS_tot {k e : Int} (h : k ≠ e) : hvS s k e ∨ hvS s e k := by simp only [hvS, hvy, ahd]; omega
theorem hvS_asym {k e : Int} (h : hvS s k e) : ¬ hvS s e k := by simp only [hvS, hvy, ahd] at *; omega
theorem hvS_trans {k e f : Int} (h : hvS s k e) (h2 : hvS s e f) : hvS s k f := by simp only [hvS, hvy, ahd] at *; omega
/-- a jet more -/
theorem JT_ins {J : Int → Int} {jc p k : Int} (h : JT s gh jc J) (j0 : 0 ≤ jc) (p0 : 0 ≤ p) (p1 : p ≤ jc) (ck : 0 ≤ k ∧ k < s 0 10) (hk8 : s 8 k = 1) (hk1 : gh 1 k = -1) (f0 : s' 0 10 = s 0 10) (f3 : ∀ j, s' 3 j = s 3 j) (f4 : ∀ j, s' 4 j = s 4 j) (f5 : ∀ j, s' 5 j = s 5 j) (f8 : ∀ j, s' 8 j = if j = k then 0 else s 8 j) (h1 : ∀ j, gh' 1 j = gh 1 j) (g1 : ∀ j, p ≤ j → j < jc → hvS s k (J j)) (g2 : p = 0 ∨ ¬ hvS s k (J (p - 1))) : JT s' gh' (jc + 1) (insO J p k) := by
  have hv : ∀ a b, hvS s a b → hvS s' a b := fun a b q => by simp only [hvS, hvy, f3, f4, f5] at *; exact q
  have lo : ∀ j, 0 ≤ j → j < p → hvS s (J j) k := by
    intro j a b
    have x := h.1 (p - 1) (by omega) (by omega)
    have y : hvS s (J (p - 1)) k := by
      rcases g2 with g2 | g2
      · omega
      · rcases hvS_tot (s := s) (k := J (p - 1)) (e := k) (fun q => by rw [q] at x; omega) with q | q
        · exact q
        · exact absurd q g2
    by_cases d : j = p - 1
    · rw [d]; exact y
    · exact hvS_trans (h.2.1 j (p - 1) a (by omega) (by omega)) y
  have old : ∀ i, 0 ≤ i → i < jc → (0 ≤ J i ∧ J i < s' 0 10) ∧ s' 8 (J i) = 0 ∧ gh' 1 (J i) = -1 := fun i a b => by
    have x := h.1 i a b
    rw [f8, h1, f0, x.2.1]
    exact ⟨x.1, by split <;> rfl, x.2.2⟩
  refine ⟨fun i a b => ?_, fun i j a b c => ?_, fun e a b c d => ?_⟩
  · unfold insO
    split
    · exact old i a (by omega)
    · split
      · rw [f8, h1, f0, if_pos rfl]; exact ⟨ck, rfl, hk1⟩
      · exact old (i - 1) (by omega) (by omega)
  · apply hv
    unfold insO
    by_cases i1 : i < p
    · rw [if_pos i1]
      by_cases j1 : j < p
      · rw [if_pos j1]; exact h.2.1 _ _ a b (by omega)
      · rw [if_neg j1]
        by_cases j2 : j = p
        · rw [if_pos j2]; exact lo i a i1
        · rw [if_neg j2]; exact h.2.1 _ _ a (by omega) (by omega)
    · rw [if_neg i1, if_neg (show ¬ j < p by omega), if_neg (show ¬ j = p by omega)]
      by_cases i2 : i = p
      · rw [if_pos i2]; exact g1 (j - 1) (by omega) (by omega)
      · rw [if_neg i2]; exact h.2.1 _ _ (by omega) (by omega) (by omega)
  · by_cases q : e = k
    · exact ⟨p, by omega, by unfold insO; rw [if_neg (by omega), if_pos rfl, q]⟩
    · rw [f8, if_neg q] at c
      rw [h1] at d
      obtain ⟨i, x, y⟩ := h.2.2 e a (by omega) c d
      by_cases w : i < p
      · exact ⟨i, by omega, by unfold insO; rw [if_pos w]; exact y⟩
      · exact ⟨i + 1, by omega, by unfold insO; rw [if_neg (by omega), if_neg (by omega), show i + 1 - 1 = i by omega]; exact y⟩
/-- measures are those of both alone -/
theorem upS_ext {k e : Int} (h12 : s' 0 12 = s 0 12) (h13 : s' 0 13 = s 0 13) (hk : s' 3 k = s 3 k ∧ s' 4 k = s 4 k ∧ s' 5 k = s 5 k) (he : e = -1 ∨ (s' 3 e = s 3 e ∧ s' 4 e = s 4 e ∧ s' 5 e = s 5 e)) : upS s' k e = upS s k e ∧ dnS s' k e = dnS s k e := by
  unfold upS dnS
  rw [h12, h13, hk.1, hk.2.1, hk.2.2]
  rcases he with he | he
  · subst he
    exact ⟨by simp, by simp⟩
  · rw [he.1, he.2.1, he.2.2]
    exact ⟨rfl, rfl⟩
def GC (B n : Nat) (t : Int) (s gh : Nat → Int → Int) (L : Int → BitVec 64) (gi : Nat → Int) (ga : Nat → Int → Value) (r : zHp) (op J : Int → Int) (ka ba sa : Int → Nat) : Prop :=
  (GI n t s ∧ XI n t s gh L ∧ (s 0 14 = 0 ∨ s 0 14 = 1)) ∧ (gi 0 = n - t ∧ gi 5 = s 0 10 ∧ gi 6 = t ∧ gi 7 = t - jn s t ∧ 0 ≤ gi 7) ∧ OP s (gi 0) op ∧ JT s gh (gi 7) J ∧ (KN B r s gh L ka ba ∧ KI (s 0 10) ka ∧ SN B r s gh t sa ∧ B + 8 ≤ r.2.1) ∧ (∀ k, 0 ≤ k → k < s 0 10 → ga 0 k = .ref (ka k)) ∧ (∀ u, 0 ≤ u → u < t → ga 1 u = .ref (sa u)) ∧ (∀ i, 0 ≤ i → i < gi 7 → ga 2 i = .ref (ka (J i))) ∧ (∀ i, 0 ≤ i → i < gi 0 → ga 3 i = .ref (ka (op i)))
end
