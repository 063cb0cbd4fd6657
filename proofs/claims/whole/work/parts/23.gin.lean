/-! SUMS OVER ROWS; WHAT STAYS FROM STEP TO STEP -/
def isum (f : Int → Int) : Nat → Int
  | 0 => 0
  | n + 1 => isum f n + f n
theorem isum_ext {f g : Int → Int} : ∀ {n : Nat}, (∀ i : Int, 0 ≤ i → i < n → f i = g i) → isum f n = isum g n
  | 0, _ => rfl
  | n + 1, h => by
    show isum f n + f n = isum g n + g n
    rw [isum_ext fun i h1 h2 => h i h1 (by omega), h n (by omega) (by omega)]
theorem isum_set {f g : Int → Int} {x v : Int} : ∀ {n : Nat}, 0 ≤ x → x < n → (∀ i : Int, 0 ≤ i → i < n → i ≠ x → g i = f i) → g x = v → isum g n = isum f n + (v - f x)
  | 0, h1, h2, _, _ => by omega
  | n + 1, h1, h2, h3, h4 => by
    show isum g n + g n = isum f n + f n + (v - f x)
    by_cases c : x = n
    · rw [isum_ext (f := g) (g := f) fun i a b => h3 i a (by omega) (by omega), ← c, h4]
      omega
    · rw [isum_set h1 (by omega) (fun i a b d => h3 i a (by omega) d) h4, h3 n (by omega) (by omega) (by omega)]
      omega
theorem isum_nn {f : Int → Int} : ∀ {n : Nat}, (∀ i : Int, 0 ≤ i → i < n → 0 ≤ f i) → 0 ≤ isum f n
  | 0, _ => Int.le_refl _
  | n + 1, h => by
    have h1 := isum_nn (f := f) (n := n) fun i a b => h i a (by omega)
    have h2 := h n (by omega) (by omega)
    show 0 ≤ isum f n + f n
    omega
theorem isum_ge {f : Int → Int} {x : Int} : ∀ {n : Nat}, (∀ i : Int, 0 ≤ i → i < n → 0 ≤ f i) → 0 ≤ x → x < n → f x ≤ isum f n
  | 0, _, h1, h2 => by omega
  | n + 1, h, h1, h2 => by
    have h3 := h n (by omega) (by omega)
    show f x ≤ isum f n + f n
    by_cases c : x = n
    · have := isum_nn (f := f) (n := n) fun i a b => h i a (by omega)
      rw [c]; omega
    · have := isum_ge (f := f) (n := n) (fun i a b => h i a (by omega)) h1 (by omega)
      omega
theorem isum_ge2 {f : Int → Int} {x y : Int} : ∀ {n : Nat}, (∀ i : Int, 0 ≤ i → i < n → 0 ≤ f i) → 0 ≤ x → x < n → 0 ≤ y → y < n → x ≠ y → f x + f y ≤ isum f n
  | 0, _, h1, h2, _, _, _ => by omega
  | n + 1, h, h1, h2, h3, h4, h5 => by
    have h6 := h n (by omega) (by omega)
    have h7 : ∀ i : Int, 0 ≤ i → i < n → 0 ≤ f i := fun i a b => h i a (by omega)
    show f x + f y ≤ isum f n + f n
    by_cases c : x = n
    · have := isum_ge h7 h3 (by omega)
      rw [c]; omega
    · by_cases d : y = n
      · have := isum_ge h7 h1 (by omega)
        rw [d]; omega
      · have := isum_ge2 h7 h1 (by omega) h3 (by omega) h5
        omega
theorem isum_pos {f : Int → Int} : ∀ {n : Nat}, 0 < isum f n → ∃ x : Int, 0 ≤ x ∧ x < n ∧ 0 < f x
  | 0, h => absurd h (Int.lt_irrefl _)
  | n + 1, h => by
    by_cases c : 0 < f n
    · exact ⟨n, by omega, by omega, c⟩
    · have h2 : 0 < isum f n + f n := h
      obtain ⟨x, h3, h4, h5⟩ := isum_pos (f := f) (n := n) (by omega)
      exact ⟨x, h3, by omega, h5⟩
section
variable {m : Nat} {s : Nat → Int → Int} {r : zHp}
/-- t steps are made of n -/
def GI (n t : Int) (s : Nat → Int → Int) : Prop := (0 ≤ t ∧ t ≤ n ∧ n ≤ 40) ∧ s 0 11 = t ∧ (n ≤ s 0 10 ∧ s 0 10 ≤ n + t) ∧ sOK s ∧ sSet s ∧ sFl s ∧ isum (s 8) (s 0 10).toNat = n - t ∧ isum (fun k => s 8 k * s 5 k) (s 0 10).toNat ≤ 399960
theorem bst_some {n t b w : Int} (g : GI n t s) (ht : t < n) (hb : bst s (fun _ _ => True) b w) : cnd s b w := by
  obtain ⟨g1, g2, g3, g4, g5, g6, g7, g8⟩ := g
  rcases hb with ⟨-, -, h⟩ | ⟨h, -⟩
  · obtain ⟨x, x0, x1, x2⟩ := isum_pos (f := s 8) (n := (s 0 10).toNat) (by omega)
    have := g6 x x0 (by omega)
    exact absurd trivial (h x (-1) ⟨⟨x0, by omega, by omega⟩, Or.inl rfl⟩)
  · exact h
theorem mean_b {a w b v : Int} (a0 : -200 ≤ a) (a1 : a ≤ 200) (b0 : -200 ≤ b) (b1 : b ≤ 200) (w0 : 0 < w) (v0 : 0 < v) : -200 ≤ meanA a w b v ∧ meanA a w b v ≤ 200 := by
  have h1 := mul_rng (a := w) (b := a) (A := w) (B := 200) (by omega) (by omega) a0 a1
  have h2 := mul_rng (a := v) (b := b) (A := v) (B := 200) (by omega) (by omega) b0 b1
  unfold meanA
  constructor
  · rw [Int.le_ediv_iff_mul_le (by omega)]
    omega
  · have := Int.ediv_le_ediv (c := w + v) (a := w * a + v * b) (b := (w + v) * 200) (by omega) (by omega)
    rw [Int.mul_ediv_cancel_left 200 (by omega : w + v ≠ 0)] at this
    exact this
theorem meanR_b {a w b v : Int} : 0 ≤ meanR a w b v ∧ meanR a w b v < 360 := ⟨Int.emod_nonneg _ (by decide), Int.emod_lt_of_pos _ (by decide)⟩
theorem wt_nn (ok : sOK s) (fl : sFl s) : ∀ i : Int, 0 ≤ i → i < (s 0 10).toNat → 0 ≤ s 8 i * s 5 i := by
  intro i h1 h2
  have h3 := ok i h1 (by omega)
  rcases fl i h1 (by omega) with h | h <;> rw [h] <;> omega
theorem fl_nn (fl : sFl s) : ∀ i : Int, 0 ≤ i → i < (s 0 10).toNat → 0 ≤ s 8 i := by
  intro i h1 h2
  rcases fl i h1 (by omega) with h | h <;> rw [h] <;> omega
theorem GI_beam {n t k : Int} (g : GI n t s) (ht : t < n) (hc : cnd s k (-1)) : GI n (t + 1) (sStep s k (-1)) := by
  obtain ⟨g1, g2, g3, g4, g5, g6, g7, g8⟩ := g
  obtain ⟨c1, c2, c3⟩ := hc.1
  have f8 : ∀ j, sStep s k (-1) 8 j = if j = k then 0 else s 8 j := fun j => by simp [sStep, us]
  have f3 : ∀ j, sStep s k (-1) 3 j = s 3 j := fun j => by simp [sStep, us]
  have f4 : ∀ j, sStep s k (-1) 4 j = s 4 j := fun j => by simp [sStep, us]
  have f5 : ∀ j, sStep s k (-1) 5 j = s 5 j := fun j => by simp [sStep, us]
  have f0 : ∀ j, sStep s k (-1) 0 j = if j = 11 then s 0 11 + 1 else s 0 j := fun j => by simp [sStep, us]
  refine ⟨by omega, by rw [f0]; simp; omega, by rw [f0]; simp; omega, ?_, ?_, ?_, ?_, ?_⟩
  · intro j h1 h2
    rw [f0] at h2
    rw [f3, f4, f5]
    exact g4 j h1 (by simpa using h2)
  · unfold sSet at g5 ⊢
    rw [f0, f0]
    simpa using g5
  · intro j h1 h2
    rw [f0] at h2
    rw [f8]
    have := g6 j h1 (by simpa using h2)
    split <;> omega
  · rw [f0]
    simp only [show ¬ (10 : Int) = 11 by decide, if_false]
    rw [isum_set (f := s 8) (x := k) (v := 0) c1 (by omega) (fun i _ _ h => by rw [f8, if_neg h]) (by rw [f8, if_pos rfl])]
    omega
  · rw [f0]
    simp only [show ¬ (10 : Int) = 11 by decide, if_false]
    have o := g4 k c1 c2
    rw [isum_set (f := fun k => s 8 k * s 5 k) (x := k) (v := 0) c1 (by omega) (fun i _ _ h => by simp only [f8, f5, if_neg h]) (by simp only [f8, f5, if_true, Int.zero_mul])]
    simp only [c3, Int.one_mul]
    omega
theorem GI_join {n t k e : Int} (g : GI n t s) (ht : t < n) (hc : cnd s k e) (he : e ≠ -1) : GI n (t + 1) (sStep s k e) ∧ s 0 10 < 79 ∧ s 5 k + s 5 e ≤ 399960 := by
  obtain ⟨g1, g2, g3, g4, g5, g6, g7, g8⟩ := g
  obtain ⟨⟨c1, c2, c3⟩, c4⟩ := hc
  obtain ⟨⟨d1, d2, d3⟩, d4, -⟩ : (0 ≤ e ∧ e < s 0 10 ∧ s 8 e = 1) ∧ e ≠ k ∧ ahS s k e := by rcases c4 with h | h; exact absurd h he; exact h
  have o1 := g4 k c1 c2
  have o2 := g4 e d1 d2
  have w2 := isum_ge2 (wt_nn g4 g6) c1 (by omega) d1 (by omega) (fun q => d4 q.symm)
  have l2 := isum_ge2 (fl_nn g6) c1 (by omega) d1 (by omega) (fun q => d4 q.symm)
  simp only [c3, d3, Int.one_mul] at w2
  have b1 := mean_b (a := s 3 k) (w := s 5 k) (b := s 3 e) (v := s 5 e) o1.1.1 o1.1.2 o2.1.1 o2.1.2 (by omega) (by omega)
  have b2 := @meanR_b (s 4 k) (s 5 k) (s 4 e) (s 5 e)
  obtain ⟨A, R, hA, hR, f3, f4⟩ : ∃ A R : Int, (-200 ≤ A ∧ A ≤ 200) ∧ (0 ≤ R ∧ R < 360) ∧ (∀ j, sStep s k e 3 j = if j = s 0 10 then A else s 3 j) ∧ (∀ j, sStep s k e 4 j = if j = s 0 10 then R else s 4 j) := by
    by_cases c : s 0 14 = 1
    · by_cases d : s 5 k < s 5 e
      · exact ⟨s 3 e, s 4 e, o2.1, o2.2.1, fun j => by simp [sStep, he, sJoin, sCome, us, c, d], fun j => by simp [sStep, he, sJoin, sCome, us, c, d]⟩
      · exact ⟨s 3 k, s 4 k, o1.1, o1.2.1, fun j => by simp [sStep, he, sJoin, sCome, us, c, d], fun j => by simp [sStep, he, sJoin, sCome, us, c, d]⟩
    · exact ⟨_, _, b1, b2, fun j => by simp [sStep, he, sJoin, sCome, us, c], fun j => by simp [sStep, he, sJoin, sCome, us, c]⟩
  have f8 : ∀ j, sStep s k e 8 j = if j = s 0 10 then 1 else if j = e then 0 else if j = k then 0 else s 8 j := fun j => by
    by_cases c : s 0 14 = 1 <;> simp [sStep, he, sJoin, sCome, us, c]
  have f5 : ∀ j, sStep s k e 5 j = if j = s 0 10 then s 5 k + s 5 e else s 5 j := fun j => by
    by_cases c : s 0 14 = 1 <;> simp [sStep, he, sJoin, sCome, us, c]
  have f0 : ∀ j, sStep s k e 0 j = if j = 10 then s 0 10 + 1 else if j = 11 then s 0 11 + 1 else s 0 j := fun j => by
    by_cases c : s 0 14 = 1 <;> simp [sStep, he, sJoin, sCome, us, c]
  have t10 : sStep s k e 0 10 = s 0 10 + 1 := by rw [f0, if_pos rfl]
  have tN : (s 0 10 + 1).toNat = (s 0 10).toNat + 1 := by omega
  have tC : (((s 0 10).toNat : Nat) : Int) = s 0 10 := by omega
  have i0 : ∀ (g f : Int → Int) (x y : Int), (∀ i : Int, 0 ≤ i → i < (s 0 10).toNat → i ≠ k → i ≠ e → g i = f i) → g k = x → g e = y → isum g (s 0 10).toNat = isum f (s 0 10).toNat + (x - f k) + (y - f e) := by
    intro g f x y h1 h2 h3
    have h4 : isum (fun i => if i = e then f e else g i) (s 0 10).toNat = isum f (s 0 10).toNat + (x - f k) := isum_set c1 (by omega) (fun i a b d => by
      by_cases q : i = e
      · simp [q]
      · simp only [q, if_false]; exact h1 i a b d q) (by simp only [show ¬ k = e from fun q => d4 q.symm, if_false]; exact h2)
    rw [← h4]
    rw [isum_set (f := fun i => if i = e then f e else g i) (g := g) (x := e) (v := y) d1 (by omega) (fun i a b d => by simp only [d, if_false]) h3]
    simp
  refine ⟨⟨by omega, by rw [f0]; simp; omega, by rw [t10]; omega, ?_, ?_, ?_, ?_, ?_⟩, by omega, by omega⟩
  · intro j h1 h2
    rw [t10] at h2
    rw [f3, f4, f5]
    by_cases q : j = s 0 10
    · rw [if_pos q, if_pos q, if_pos q]
      exact ⟨hA, hR, by omega⟩
    · rw [if_neg q, if_neg q, if_neg q]
      exact g4 j h1 (by omega)
  · unfold sSet at g5 ⊢
    rw [f0, f0]
    simpa using g5
  · intro j h1 h2
    rw [t10] at h2
    rw [f8]
    by_cases q : j = s 0 10
    · exact Or.inr (if_pos q)
    · rw [if_neg q]
      have := g6 j h1 (by omega)
      split
      · omega
      · split <;> omega
  · rw [t10, tN]
    show isum (sStep s k e 8) (s 0 10).toNat + sStep s k e 8 ((s 0 10).toNat : Nat) = _
    rw [i0 (sStep s k e 8) (s 8) 0 0 (fun i a b h h2 => by rw [f8, if_neg (by omega), if_neg h2, if_neg h]) (by rw [f8, if_neg (by omega), if_neg (fun q => d4 q.symm), if_pos rfl]) (by rw [f8, if_neg (by omega), if_pos rfl]), f8, tC, if_pos rfl]
    omega
  · rw [t10, tN]
    show isum (fun i => sStep s k e 8 i * sStep s k e 5 i) (s 0 10).toNat + sStep s k e 8 ((s 0 10).toNat : Nat) * sStep s k e 5 ((s 0 10).toNat : Nat) ≤ _
    rw [i0 (fun i => sStep s k e 8 i * sStep s k e 5 i) (fun i => s 8 i * s 5 i) 0 0 (fun i a b h h2 => by simp only [f8, f5]; rw [if_neg (by omega), if_neg h2, if_neg h, if_neg (by omega)]) (by simp only [f8]; rw [if_neg (by omega), if_neg (fun q => d4 q.symm), if_pos trivial, Int.zero_mul]) (by simp only [f8]; rw [if_neg (by omega), if_pos trivial, Int.zero_mul]), f8, f5, tC, if_pos rfl, if_pos rfl]
    simp only [c3, d3, Int.one_mul]
    omega
/-- the run of all steps: each is the best there is -/
def gRun : Nat → (Nat → Int → Int) → (Nat → Int → Int) → Prop
  | 0, s, s2 => s2 = s
  | n + 1, s, s2 => ∃ k e : Int, bst s (fun _ _ => True) k e ∧ gRun n (sStep s k e) s2
theorem gRun_one : ∀ {n : Nat} {s a b : Nat → Int → Int}, gRun n s a → gRun n s b → a = b
  | 0, _, _, _, h1, h2 => by
    have h1 : _ = _ := h1
    have h2 : _ = _ := h2
    rw [h1, h2]
  | n + 1, s, a, b, ⟨k, e, h1, h2⟩, ⟨k', e', h3, h4⟩ => by
    obtain ⟨rfl, rfl⟩ := bst_one h1 h3
    exact gRun_one h2 h4
end
