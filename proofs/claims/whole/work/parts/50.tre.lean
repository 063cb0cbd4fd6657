/-! TREES: what is true of a whole one -/
/-- a tree's words in a row, from b on -/
def tS (f : Int → Int) (b : Int) : Nat → Int → Int
  | 0, j => if j = 10 then f b else if j = 11 then f (b + 1) else if j = 12 then f (b + 2) else if j = 13 then f (b + 3) else if j = 14 then f (b + 4) else if j = 5 then f (b + 5) else 0
  | 3, j => f (b + 6 + 5 * j)
  | 4, j => f (b + 6 + 5 * j + 1)
  | 5, j => f (b + 6 + 5 * j + 2)
  | 6, j => f (b + 6 + 5 * j + 3)
  | 7, j => f (b + 6 + 5 * j + 4)
  | 9, j => f (b + 401 + 2 * j)
  | 10, j => f (b + 401 + 2 * j + 1)
  | 11, j => f (b + 481 + j)
  | _, _ => 0
def TF (n : Nat) (T gh : Nat → Int → Int) (L : Int → BitVec 64) (J : Int → Int) : Prop := GI n n T ∧ XI n n T gh L ∧ JT T gh (2 * n - T 0 10) J ∧ 1 ≤ n ∧ (T 0 14 = 0 ∨ T 0 14 = 1)
section
variable {n : Nat} {T gh : Nat → Int → Int} {L : Int → BitVec 64} {J : Int → Int}
theorem isum_0 {f : Int → Int} : ∀ {m : Nat}, (∀ i : Int, 0 ≤ i → i < m → 0 ≤ f i) → isum f m = 0 → ∀ i : Int, 0 ≤ i → i < m → f i = 0 := by
  intro m h e i i0 i1
  have := isum_ge h i0 i1
  have := h i i0 i1
  omega
theorem tf_8 (h : TF n T gh L J) {k : Int} (k0 : 0 ≤ k) (k1 : k < T 0 10) : T 8 k = 0 := by
  obtain ⟨⟨g1, g2, g3, g4, g5, g6, g7, g8⟩, -⟩ := h
  exact isum_0 (fl_nn g6) (by omega) k k0 (by omega)
theorem tf_n (h : TF n T gh L J) : (n ≤ 40 ∧ T 0 11 = n) ∧ (n ≤ T 0 10 ∧ T 0 10 ≤ 2 * n) ∧ T 0 10 ≤ 79 + 1 ∧ T 0 10 = n + jn T n := by
  obtain ⟨⟨g1, g2, g3, g4, g5, g6, g7, g8⟩, x, -⟩ := h
  have : T 0 10 = n + jn T n := x.2.2.2.2.1
  exact ⟨⟨by omega, g2⟩, by omega, by omega, this⟩
theorem tf_leaf (h : TF n T gh L J) {k : Int} (k0 : 0 ≤ k) (k1 : k < n) : T 6 k = -1 ∧ T 7 k = -1 ∧ gh 2 k = -1 ∧ L k = 1#64 <<< k.toNat := h.2.1.1 k k0 k1
/-- the step by which a knot went -/
theorem tf_went (h : TF n T gh L J) {k : Int} (k0 : 0 ≤ k) (k1 : k < T 0 10) : (0 ≤ gh 3 k ∧ gh 3 k < n) ∧ (T 9 (gh 3 k) = k ∨ T 10 (gh 3 k) = k) ∧ gh 1 k = gh 0 (gh 3 k) := (h.2.1.2.2.1 k k0 k1).2 (tf_8 h k0 k1)
theorem tf_step (h : TF n T gh L J) {u : Int} (u0 : 0 ≤ u) (u1 : u < n) : ((0 ≤ T 9 u ∧ T 9 u < T 0 10) ∧ gh 3 (T 9 u) = u) ∧ ((T 10 u = -1 ∧ gh 0 u = -1) ∨ (((0 ≤ T 10 u ∧ T 10 u < T 0 10) ∧ gh 3 (T 10 u) = u ∧ T 9 u ≠ T 10 u) ∧ gh 0 u = n + jn T u ∧ gh 0 u < T 0 10 ∧ T 9 u < gh 0 u ∧ T 10 u < gh 0 u ∧ gh 2 (gh 0 u) = u ∧ T 6 (gh 0 u) = T 9 u ∧ T 7 (gh 0 u) = T 10 u)) := h.2.1.2.2.2.1 u u0 u1
theorem tf_went1 (h : TF n T gh L J) {k u : Int} (u0 : 0 ≤ u) (u1 : u < n) (k0 : 0 ≤ k) (e : T 9 u = k ∨ T 10 u = k) : gh 3 k = u := by
  obtain ⟨a, b⟩ := tf_step h u0 u1
  rcases e with e | e
  · rw [← e]; exact a.2
  · rcases b with b | b
    · omega
    · rw [← e]; exact b.1.2.1
theorem tf_join (h : TF n T gh L J) {k : Int} (k0 : n ≤ k) (k1 : k < T 0 10) : ((0 ≤ T 6 k ∧ T 6 k < k) ∧ (0 ≤ T 7 k ∧ T 7 k < k) ∧ T 6 k ≠ T 7 k) ∧ ((0 ≤ gh 2 k ∧ gh 2 k < n) ∧ T 9 (gh 2 k) = T 6 k ∧ T 10 (gh 2 k) = T 7 k ∧ gh 0 (gh 2 k) = k) ∧ L k = L (T 6 k) ||| L (T 7 k) ∧ T 5 k = T 5 (T 6 k) + T 5 (T 7 k) := by
  obtain ⟨b1, b2, b3, b4, b5, b6, b7, b8, b9⟩ := h.2.1.2.1 k k0 k1
  exact ⟨⟨b1, b2, b3⟩, ⟨b4, b5, b6, b7⟩, b8, b9⟩
theorem tf_par (h : TF n T gh L J) {k : Int} (k0 : n ≤ k) (k1 : k < T 0 10) : gh 1 (T 6 k) = k ∧ gh 1 (T 7 k) = k := by
  obtain ⟨⟨a1, a2, a3⟩, ⟨b1, b2, b3, b4⟩, -⟩ := tf_join h k0 k1
  have w1 := tf_went h a1.1 (by omega)
  have w2 := tf_went h a2.1 (by omega)
  have e1 := tf_went1 h b1.1 b1.2 a1.1 (Or.inl b2)
  have e2 := tf_went1 h b1.1 b1.2 a2.1 (Or.inr b3)
  rw [w1.2.2, w2.2.2, e1, e2]
  exact ⟨b4, b4⟩
theorem tf_up (h : TF n T gh L J) {k : Int} (k0 : 0 ≤ k) (k1 : k < T 0 10) : gh 1 k = -1 ∨ ((n ≤ gh 1 k ∧ gh 1 k < T 0 10) ∧ k < gh 1 k ∧ (T 6 (gh 1 k) = k ∨ T 7 (gh 1 k) = k)) := by
  obtain ⟨a, b, c⟩ := tf_went h k0 k1
  obtain ⟨d, e⟩ := tf_step h a.1 a.2
  rw [c]
  rcases e with e | ⟨e1, e2, e3, e4, e5, e6, e7, e8⟩
  · exact Or.inl e.2
  · right
    have := @jn_nn T (gh 3 k)
    refine ⟨by omega, ?_, ?_⟩
    · rcases b with b | b <;> omega
    · rw [e7, e8]; exact b
theorem tf_isj (h : TF n T gh L J) {k : Int} (k0 : 0 ≤ k) (k1 : k < T 0 10) : (T 6 k = -1 ↔ k < n) ∧ (T 7 k = -1 ↔ k < n) ∧ -1 ≤ T 6 k ∧ -1 ≤ T 7 k ∧ T 6 k < k ∧ T 7 k < k := by
  by_cases c : k < n
  · have := tf_leaf h k0 c
    omega
  · have := tf_join h (by omega) k1
    omega
/-- who holds a leaf in common is above -/
theorem tf_above (h : TF n T gh L J) (i : Nat) : ∀ (y : Nat), (y : Int) < T 0 10 → ∀ x : Int, 0 ≤ x → x < y → (L x).getLsbD i = true → (L y).getLsbD i = true → gh 1 x ≠ -1 ∧ gh 1 x ≤ y := by
  intro y
  induction y using Nat.strongRecOn with
  | ind y ih =>
    intro hy x x0 x1 hx hyi
    have nn := tf_n h
    by_cases c : (y : Int) < n
    · exfalso
      rw [(tf_leaf h x0 (by omega)).2.2.2] at hx
      rw [(tf_leaf h (by omega : (0 : Int) ≤ y) c).2.2.2] at hyi
      have u1 := L0_bit (k := x) (i := i) (by omega)
      have u2 := L0_bit (k := (y : Int)) (i := i) (by omega)
      unfold L0 at u1 u2
      rw [u1] at hx
      rw [u2] at hyi
      simp at hx hyi
      omega
    · obtain ⟨⟨a1, a2, a3⟩, -, a4, -⟩ := tf_join h (by omega : (n : Int) ≤ y) hy
      have pp := tf_par h (by omega : (n : Int) ≤ y) hy
      have step : ∀ z : Int, 0 ≤ z → z < y → gh 1 z = y → (L z).getLsbD i = true → gh 1 x ≠ -1 ∧ gh 1 x ≤ y := by
        intro z z0 z1 hz hzi
        by_cases e1 : z = x
        · rw [← e1, hz]; omega
        · by_cases e2 : x < z
          · have := ih z.toNat (by omega) (by omega) x x0 (by omega) hx (by rw [show ((z.toNat : Nat) : Int) = z by omega]; exact hzi)
            omega
          · have := ih x.toNat (by omega) (by omega) z z0 (by omega) hzi (by rw [show ((x.toNat : Nat) : Int) = x by omega]; exact hx)
            omega
      rw [a4, BitVec.getLsbD_or, Bool.or_eq_true] at hyi
      rcases hyi with q | q
      · exact step _ a1.1 a1.2 pp.1 q
      · exact step _ a2.1 a2.2 pp.2 q
theorem tf_dis (h : TF n T gh L J) {k : Int} (k0 : n ≤ k) (k1 : k < T 0 10) : L (T 6 k) &&& L (T 7 k) = 0#64 := by
  obtain ⟨⟨a1, a2, a3⟩, -, -, -⟩ := tf_join h k0 k1
  have pp := tf_par h k0 k1
  apply BitVec.eq_of_getLsbD_eq
  intro i hi
  rw [BitVec.getLsbD_and, BitVec.getLsbD_zero]
  by_cases c : (L (T 6 k)).getLsbD i = true ∧ (L (T 7 k)).getLsbD i = true
  · exfalso
    by_cases d : T 6 k < T 7 k
    · have := tf_above h i (T 7 k).toNat (by omega) (T 6 k) a1.1 (by omega) c.1 (by rw [show (((T 7 k).toNat : Nat) : Int) = T 7 k by omega]; exact c.2)
      omega
    · have := tf_above h i (T 6 k).toNat (by omega) (T 7 k) a2.1 (by omega) c.2 (by rw [show (((T 6 k).toNat : Nat) : Int) = T 6 k by omega]; exact c.1)
      omega
  · cases q : (L (T 6 k)).getLsbD i <;> cases q2 : (L (T 7 k)).getLsbD i <;> simp_all
/-- how many there are in a set -/
def pc (x : BitVec 64) : Int := isum (fun i => if bHas x i = true then 1 else 0) 64
theorem isum_add {f g : Int → Int} : ∀ {m : Nat}, isum (fun i => f i + g i) m = isum f m + isum g m
  | 0 => rfl
  | m + 1 => by
    show isum (fun i => f i + g i) m + (f m + g m) = isum f m + f m + (isum g m + g m)
    rw [isum_add]; omega
theorem isum_le {f g : Int → Int} : ∀ {m : Nat}, (∀ i : Int, 0 ≤ i → i < m → f i ≤ g i) → isum f m ≤ isum g m
  | 0, _ => Int.le_refl _
  | m + 1, h => by
    have h1 := isum_le (f := f) (g := g) (m := m) fun i a b => h i a (by omega)
    have h2 := h m (by omega) (by omega)
    show isum f m + f m ≤ isum g m + g m
    omega
theorem bHas_or {x y : BitVec 64} {i : Int} : bHas (x ||| y) i = (bHas x i || bHas y i) := by
  unfold bHas
  rw [BitVec.getLsbD_or]
  cases decide (0 ≤ i) <;> simp
theorem bHas_and {x y : BitVec 64} {i : Int} : bHas (x &&& y) i = (bHas x i && bHas y i) := by
  unfold bHas
  rw [BitVec.getLsbD_and]
  cases decide (0 ≤ i) <;> simp
theorem bHas_0 {i : Int} : bHas 0#64 i = false := by simp [bHas]
theorem bHas_1 {k i : Int} (k0 : 0 ≤ k) (k1 : k < 64) : bHas (1#64 <<< k.toNat) i = decide (i = k) := by
  unfold bHas
  have u := L0_bit (k := k) (i := i.toNat) k1
  unfold L0 at u
  rw [u]
  by_cases c : 0 ≤ i
  · simp only [c, decide_true, Bool.true_and]
    exact decide_eq_decide.mpr (by omega)
  · simp [c]; omega
theorem bHas_ge {x : BitVec 64} {i : Int} (h : 64 ≤ i) : bHas x i = false := by
  unfold bHas
  have : x.getLsbD i.toNat = false := BitVec.getLsbD_of_ge x _ (by omega)
  rw [this]; simp
theorem b_ext {x y : BitVec 64} (h : ∀ i : Int, 0 ≤ i → i < 64 → bHas x i = bHas y i) : x = y := by
  apply BitVec.eq_of_getLsbD_eq
  intro i hi
  have := h i (by omega) (by omega)
  simpa [bHas] using this
theorem pc_or {x y : BitVec 64} (h : x &&& y = 0#64) : pc (x ||| y) = pc x + pc y := by
  unfold pc
  rw [← isum_add]
  refine isum_ext fun i _ _ => ?_
  have : bHas (x &&& y) i = false := by rw [h]; exact bHas_0
  rw [bHas_and] at this
  rw [bHas_or]
  revert this
  cases bHas x i <;> cases bHas y i <;> simp
theorem pc_nn {x : BitVec 64} : 0 ≤ pc x := isum_nn fun i _ _ => by split <;> omega
theorem pc_1 {k : Int} (k0 : 0 ≤ k) (k1 : k < 64) : pc (1#64 <<< k.toNat) = 1 := by
  unfold pc
  have e : ∀ m : Nat, k < m → isum (fun i => if bHas (1#64 <<< k.toNat) i = true then 1 else 0) m = isum (fun _ => 0) m + (1 - 0) := fun m hm => isum_set k0 hm (fun i _ _ hi => by rw [bHas_1 k0 k1]; simp [hi]) (by rw [bHas_1 k0 k1]; simp)
  have z : ∀ m : Nat, isum (fun _ => 0) m = 0 := fun m => by
    induction m with
    | zero => rfl
    | succ m ih => show isum _ m + 0 = 0; rw [ih]; rfl
  rw [e 64 (by omega), z]; rfl
theorem pc_pos {x : BitVec 64} (h : x ≠ 0#64) : 1 ≤ pc x := by
  by_cases c : ∃ i : Int, 0 ≤ i ∧ i < 64 ∧ bHas x i = true
  · obtain ⟨i, i0, i1, hi⟩ := c
    have := isum_ge (f := fun i => if bHas x i = true then (1 : Int) else 0) (x := i) (n := 64) (fun i _ _ => by (try simp only); split <;> omega) i0 i1
    simp only [hi, if_true] at this
    exact this
  · exfalso
    apply h
    refine b_ext fun i i0 i1 => ?_
    rw [bHas_0]
    cases q : bHas x i with
    | false => rfl
    | true => exact absurd ⟨i, i0, i1, q⟩ c
theorem pc_le {x : BitVec 64} {m : Nat} (hm : m ≤ 64) (h : ∀ i : Int, m ≤ i → bHas x i = false) : pc x ≤ m := by
  have key : ∀ j : Nat, isum (fun i => if bHas x i = true then (1 : Int) else 0) j ≤ (if j ≤ m then j else m) := by
    intro j
    induction j with
    | zero => simp [isum]
    | succ j ih =>
      show isum _ j + (if bHas x (j : Int) = true then (1 : Int) else 0) ≤ _
      by_cases c : j + 1 ≤ m
      · rw [if_pos c]
        rw [if_pos (by omega)] at ih
        split <;> omega
      · rw [if_neg c]
        rw [h j (by omega)]
        split at ih <;> simp <;> omega
  have := key 64
  unfold pc
  split at this <;> omega
theorem tf_bits (h : TF n T gh L J) {k : Int} (k0 : 0 ≤ k) (k1 : k < T 0 10) : L k ≠ 0#64 ∧ (∀ i : Int, n ≤ i → bHas (L k) i = false) ∧ 1 ≤ pc (L k) ∧ pc (L k) ≤ n := by
  have g := h.2.1.2.2.2.2.2.2 k k0 k1
  have nn := tf_n h
  have b : ∀ i : Int, n ≤ i → bHas (L k) i = false := fun i hi => by
    unfold bHas
    rw [g.2 i.toNat (by omega)]
    simp
  exact ⟨g.1, b, pc_pos g.1, pc_le (by omega) b⟩
theorem tf_pc (h : TF n T gh L J) {k : Int} (k0 : n ≤ k) (k1 : k < T 0 10) : pc (L k) = pc (L (T 6 k)) + pc (L (T 7 k)) := by
  rw [(tf_join h k0 k1).2.2.1, pc_or (tf_dis h k0 k1)]
theorem tf_pcl (h : TF n T gh L J) {k : Int} (k0 : 0 ≤ k) (k1 : k < n) : pc (L k) = 1 := by
  have nn := tf_n h
  rw [(tf_leaf h k0 k1).2.2.2, pc_1 k0 (by omega)]
end
