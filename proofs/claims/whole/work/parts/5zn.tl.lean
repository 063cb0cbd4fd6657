/-! tiles: what is counted -/
def tlF (In : Int → Bool) (T : Int → Int) : Nat → Int → Bool
  | 0, _ => false
  | k + 1, v => tlF In T k v || (In k && decide (T k = v))
def tlS (In : Int → Bool) (T : Int → Int) (e : Int) : Bool := In e && !tlF In T e.toNat (T e)
def tlW (In : Int → Bool) (T W : Int → Int) (v : Int) (k : Nat) : Int := isum (fun e => if In e = true ∧ T e = v then W e else 0) k
def tlE (sz : Int) (X Y : Int → Int) (e : Int) : Int := 1000 * (X e / sz) + Y e / sz
section
variable {In : Int → Bool} {T W : Int → Int}
theorem tlF_i {v : Int} : ∀ {k : Nat}, tlF In T k v = true ↔ ∃ e : Int, (0 ≤ e ∧ e < k) ∧ In e = true ∧ T e = v
  | 0 => ⟨fun h => by exact absurd h (by show ¬ false = true; decide), fun ⟨e, a, _⟩ => by omega⟩
  | k + 1 => by
    show (tlF In T k v || (In k && decide (T k = v))) = true ↔ _
    rw [Bool.or_eq_true, Bool.and_eq_true, decide_eq_true_eq, tlF_i]
    constructor
    · rintro (⟨e, a, b, c⟩ | ⟨b, c⟩)
      · exact ⟨e, by omega, b, c⟩
      · exact ⟨k, by omega, b, c⟩
    · rintro ⟨e, a, b, c⟩
      by_cases z : e = k
      · subst z
        exact Or.inr ⟨b, c⟩
      · exact Or.inl ⟨e, by omega, b, c⟩
theorem tlF_1 {v : Int} : ∀ {k : Nat}, tlF In T k v = true → ∃ e : Int, (0 ≤ e ∧ e < k) ∧ In e = true ∧ T e = v ∧ tlF In T e.toNat v = false
  | 0, h => by exact absurd h (by show ¬ false = true; decide)
  | k + 1, h => by
    cases z : tlF In T k v with
    | true =>
      obtain ⟨e, a, b⟩ := tlF_1 z
      exact ⟨e, by omega, b⟩
    | false =>
      have h' : (tlF In T k v || (In k && decide (T k = v))) = true := h
      rw [z, Bool.false_or, Bool.and_eq_true, decide_eq_true_eq] at h'
      exact ⟨k, by omega, h'.1, h'.2, z⟩
theorem tlS_i {e : Int} (e0 : 0 ≤ e) : tlS In T e = true ↔ In e = true ∧ ∀ e', 0 ≤ e' → e' < e → In e' = true → T e' ≠ T e := by
  unfold tlS
  rw [Bool.and_eq_true, Bool.not_eq_true', ← Bool.not_eq_true, tlF_i]
  constructor
  · rintro ⟨a, b⟩
    exact ⟨a, fun e' c d f g => b ⟨e', by omega, f, g⟩⟩
  · rintro ⟨a, b⟩
    exact ⟨a, fun ⟨e', c, d, f⟩ => b e' c.1 (by omega) d f⟩
theorem tlX {N : Nat} {i j : Int} (iN : i ≤ N) (j0 : 0 ≤ j) (j1 : j < cnt (tlS In T) i) : (0 ≤ pkR (tlS In T) N j ∧ pkR (tlS In T) N j < i) ∧ tlS In T (pkR (tlS In T) N j) = true ∧ cnt (tlS In T) (pkR (tlS In T) N j) = j := by
  have i0 : 0 ≤ i := by
    by_cases z : 0 ≤ i
    · exact z
    · have : cnt (tlS In T) i = 0 := by
        unfold cnt
        rw [show i.toNat = 0 by omega]
        rfl
      omega
  have m := cnt_mono (P := tlS In T) i0 iN
  obtain ⟨⟨y1, y2⟩, y3, y4⟩ := pkR_f (P := tlS In T) N j j0 (by omega)
  refine ⟨⟨y1, ?_⟩, y3, y4⟩
  by_cases z : pkR (tlS In T) N j < i
  · exact z
  · have := cnt_mono (P := tlS In T) i0 (show i ≤ pkR (tlS In T) N j by omega)
    omega
theorem tlX_inj {N : Nat} {i j k : Int} (iN : i ≤ N) (j0 : 0 ≤ j) (j1 : j < cnt (tlS In T) i) (k0 : 0 ≤ k) (k1 : k < cnt (tlS In T) i) (e : T (pkR (tlS In T) N j) = T (pkR (tlS In T) N k)) : j = k := by
  obtain ⟨⟨a1, a2⟩, a3, a4⟩ := tlX iN j0 j1
  obtain ⟨⟨b1, b2⟩, b3, b4⟩ := tlX iN k0 k1
  have A := (tlS_i a1).mp a3
  have B := (tlS_i b1).mp b3
  by_cases c : pkR (tlS In T) N j < pkR (tlS In T) N k
  · exact absurd e (B.2 _ a1 c A.1)
  · by_cases d : pkR (tlS In T) N k < pkR (tlS In T) N j
    · exact absurd e.symm (A.2 _ b1 d B.1)
    · have : pkR (tlS In T) N j = pkR (tlS In T) N k := by omega
      rw [← a4, ← b4, this]
theorem tlX_ex {N : Nat} {i v : Int} (i0 : 0 ≤ i) (iN : i ≤ N) (h : tlF In T i.toNat v = true) : ∃ j, (0 ≤ j ∧ j < cnt (tlS In T) i) ∧ T (pkR (tlS In T) N j) = v := by
  obtain ⟨e, a, b, c, d⟩ := tlF_1 h
  have se : tlS In T e = true := by
    unfold tlS
    rw [c, d, b]
    rfl
  refine ⟨cnt (tlS In T) e, ⟨cnt_nn, cnt_lt a.1 (by omega) se⟩, ?_⟩
  rw [pk_u a.1 (by omega) se]
  exact c
theorem tlW_s {v i : Int} (i0 : 0 ≤ i) : tlW In T W v (i + 1).toNat = tlW In T W v i.toNat + if In i = true ∧ T i = v then W i else 0 := isum_sp i0
theorem tlW_0 {v : Int} {k : Nat} (h : tlF In T k v = false) : tlW In T W v k = 0 := by
  have : tlW In T W v k = isum (fun _ => 0) k := isum_ext fun e a b => if_neg fun z => by
    have : tlF In T k v = true := tlF_i.mpr ⟨e, ⟨a, b⟩, z.1, z.2⟩
    rw [h] at this
    exact absurd this (by decide)
  rw [this]
  clear this h
  induction k with
  | zero => rfl
  | succ k ih =>
    show isum (fun _ => 0) k + 0 = 0
    rw [ih]
    rfl
theorem tlW_b {C v : Int} (C0 : 0 ≤ C) {N : Nat} (hw : ∀ e : Int, 0 ≤ e → e < N → 0 ≤ W e ∧ W e ≤ C) {k : Nat} (hk : k ≤ N) : 0 ≤ tlW In T W v k ∧ tlW In T W v k ≤ C * k := isum_bd fun i i0 i1 => by
  have := hw i i0 (by omega)
  show 0 ≤ (if In i = true ∧ T i = v then W i else 0) ∧ (if In i = true ∧ T i = v then W i else 0) ≤ C
  split <;> omega
end
theorem tl_b {sz x y : Int} (h1 : 1 ≤ sz) (x0 : -200 ≤ x) (x1 : x ≤ 200) (y0 : 0 ≤ y) (y1 : y < 360) : (-200 ≤ x / sz ∧ x / sz ≤ 200) ∧ 0 ≤ y / sz ∧ y / sz ≤ 359 := by
  have a1 : -200 ≤ x / sz := (Int.le_ediv_iff_mul_le (by omega)).mpr (by omega)
  have a2 : x / sz < 201 := (Int.ediv_lt_iff_lt_mul (by omega)).mpr (by omega)
  have a3 : 0 ≤ y / sz := Int.ediv_nonneg y0 (by omega)
  have a4 : y / sz < 360 := (Int.ediv_lt_iff_lt_mul (by omega)).mpr (by omega)
  omega
/-- the rows of a tiling behind i of its tracks -/
def TLI (sz : Int) (In : Int → Bool) (X Y W : Int → Int) (N : Nat) (i : Int) (gi : Nat → Int) (ga : Nat → Int → Value) : Prop :=
  gi 0 = cnt (tlS In (tlE sz X Y)) i ∧ (∀ j, 0 ≤ j → j < cnt (tlS In (tlE sz X Y)) i → ga 0 j = vi (X (pkR (tlS In (tlE sz X Y)) N j) / sz) ∧ ga 1 j = vi (Y (pkR (tlS In (tlE sz X Y)) N j) / sz) ∧ ga 2 j = vi (tlW In (tlE sz X Y) W (tlE sz X Y (pkR (tlS In (tlE sz X Y)) N j)) i.toNat) ∧ ga 3 j = vi (tlW In (tlE sz X Y) (fun _ => 1) (tlE sz X Y (pkR (tlS In (tlE sz X Y)) N j)) i.toNat)) ∧ ∀ j, cnt (tlS In (tlE sz X Y)) i ≤ j → j < 40 → ga 2 j = vi 0 ∧ ga 3 j = vi 0
section
variable {sz i : Int} {In : Int → Bool} {X Y W : Int → Int} {N : Nat} {gi : Nat → Int} {ga : Nat → Int → Value}
theorem tlS_no {T : Int → Int} (hin : In i = false) : tlS In T i = false := by
  unfold tlS
  rw [hin]
  rfl
theorem TLI_no (i0 : 0 ≤ i) (hin : In i = false) (h : TLI sz In X Y W N i gi ga) : TLI sz In X Y W N (i + 1) gi ga := by
  obtain ⟨h1, h2, h3⟩ := h
  have c := cnt_s (P := tlS In (tlE sz X Y)) i0
  rw [tlS_no hin] at c
  simp only [Bool.false_eq_true, if_false, Int.add_zero] at c
  unfold TLI
  rw [c]
  refine ⟨h1, fun j j0 j1 => ?_, h3⟩
  obtain ⟨a1, a2, a3, a4⟩ := h2 j j0 j1
  rw [tlW_s i0, tlW_s i0, hin]
  simp only [Bool.false_eq_true, false_and, if_false, Int.add_zero]
  exact ⟨a1, a2, a3, a4⟩
theorem TLI_old {at' : Int} (i0 : 0 ≤ i) (iN : i < N) (hin : In i = true) (h : TLI sz In X Y W N i gi ga) (p0 : 0 ≤ at') (p1 : at' < cnt (tlS In (tlE sz X Y)) i) (e : tlE sz X Y (pkR (tlS In (tlE sz X Y)) N at') = tlE sz X Y i) : TLI sz In X Y W N (i + 1) gi (ua (ua ga 2 at' (vi (tlW In (tlE sz X Y) W (tlE sz X Y i) i.toNat + W i))) 3 at' (vi (tlW In (tlE sz X Y) (fun _ => 1) (tlE sz X Y i) i.toNat + 1))) := by
  obtain ⟨h1, h2, h3⟩ := h
  obtain ⟨⟨x1, x2⟩, x3, x4⟩ := tlX (N := N) (by omega) p0 p1
  have nf : tlS In (tlE sz X Y) i = false := by
    cases z : tlS In (tlE sz X Y) i with
    | false => rfl
    | true => exact absurd e (((tlS_i i0).mp z).2 _ x1 x2 ((tlS_i x1).mp x3).1)
  have c := cnt_s (P := tlS In (tlE sz X Y)) i0
  rw [nf] at c
  simp only [Bool.false_eq_true, if_false, Int.add_zero] at c
  unfold TLI
  rw [c]
  refine ⟨h1, fun j j0 j1 => ?_, fun j j0 j1 => ?_⟩
  · obtain ⟨a1, a2, a3, a4⟩ := h2 j j0 j1
    rw [tlW_s i0, tlW_s i0, hin]
    refine ⟨by rw [ua_k (by decide), ua_k (by decide)]; exact a1, by rw [ua_k (by decide), ua_k (by decide)]; exact a2, ?_, ?_⟩
    · rw [ua_k (by decide)]
      by_cases z : j = at'
      · subst z
        rw [ua_s, e, if_pos ⟨rfl, rfl⟩]
      · rw [ua_j z, a3, if_neg (fun q => z (tlX_inj (N := N) (by omega) j0 j1 p0 p1 (by rw [e]; exact q.2.symm))), Int.add_zero]
    · by_cases z : j = at'
      · subst z
        rw [ua_s, e, if_pos ⟨rfl, rfl⟩]
      · rw [ua_j z, ua_k (by decide), a4, if_neg (fun q => z (tlX_inj (N := N) (by omega) j0 j1 p0 p1 (by rw [e]; exact q.2.symm))), Int.add_zero]
  · obtain ⟨a1, a2⟩ := h3 j j0 j1
    rw [ua_k (by decide), ua_j (by omega), ua_j (by omega), ua_k (by decide)]
    exact ⟨a1, a2⟩
theorem TLI_new {u : Int} (i0 : 0 ≤ i) (iN : i < N) (hin : In i = true) (h : TLI sz In X Y W N i gi ga) (hu : u = cnt (tlS In (tlE sz X Y)) i) (e : ∀ j, 0 ≤ j → j < u → tlE sz X Y (pkR (tlS In (tlE sz X Y)) N j) ≠ tlE sz X Y i) : TLI sz In X Y W N (i + 1) (ug gi 0 (u + 1)) (ua (ua (ua (ua ga 0 u (vi (X i / sz))) 1 u (vi (Y i / sz))) 2 u (vi (0 + W i))) 3 u (vi (0 + 1))) := by
  obtain ⟨h1, h2, h3⟩ := h
  have no : tlF In (tlE sz X Y) i.toNat (tlE sz X Y i) = false := by
    cases z : tlF In (tlE sz X Y) i.toNat (tlE sz X Y i) with
    | false => rfl
    | true =>
      obtain ⟨j, a, b⟩ := tlX_ex (N := N) i0 (by omega) z
      exact absurd b (e j a.1 (by omega))
  have yf : tlS In (tlE sz X Y) i = true := by
    unfold tlS
    rw [hin, no]
    rfl
  have c := cnt_s (P := tlS In (tlE sz X Y)) i0
  rw [yf, if_pos rfl, ← hu] at c
  have pu := pk_u (P := tlS In (tlE sz X Y)) i0 iN yf
  rw [← hu] at pu
  rw [← hu] at h2 h3
  have un : 0 ≤ u := by rw [hu]; exact cnt_nn
  unfold TLI
  rw [c]
  refine ⟨ug_s, fun j j0 j1 => ?_, fun j j0 j1 => ?_⟩
  · rw [tlW_s i0, tlW_s i0, hin]
    by_cases z : j = u
    · subst z
      rw [pu, ua_k (by decide), ua_k (by decide), ua_k (by decide), ua_s, ua_k (by decide), ua_k (by decide), ua_s, ua_k (by decide), ua_s, ua_s, tlW_0 no, tlW_0 no, if_pos ⟨rfl, rfl⟩, if_pos ⟨rfl, rfl⟩]
      exact ⟨rfl, rfl, rfl, rfl⟩
    · obtain ⟨a1, a2, a3, a4⟩ := h2 j j0 (by omega)
      have ne := e j j0 (by omega)
      have uz : ∀ q, ua (ua (ua (ua ga 0 u (vi (X i / sz))) 1 u (vi (Y i / sz))) 2 u (vi (0 + W i))) 3 u (vi (0 + 1)) q j = ga q j := fun q => by simp [ua, z]
      rw [uz, uz, uz, uz, if_neg (fun q => ne q.2.symm), if_neg (fun q => ne q.2.symm), Int.add_zero, Int.add_zero]
      exact ⟨a1, a2, a3, a4⟩
  · obtain ⟨a1, a2⟩ := h3 j (by omega) j1
    rw [ua_k (by decide), ua_j (by omega), ua_k (by decide), ua_k (by decide), ua_j (by omega), ua_k (by decide), ua_k (by decide), ua_k (by decide)]
    exact ⟨a1, a2⟩
end
