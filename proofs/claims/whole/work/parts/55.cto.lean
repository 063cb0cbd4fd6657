/-! WHAT STANDS ON THE HEAP FOR A STATE -/
/-- alike where a tree has words -/
def agr (n : Int) (T T' : Nat → Int → Int) : Prop := (∀ j, 10 ≤ j → j ≤ 14 → T' 0 j = T 0 j) ∧ (∀ r k, 3 ≤ r → r ≤ 8 → 0 ≤ k → k < T 0 10 → T' r k = T r k) ∧ (∀ r u, 9 ≤ r → r ≤ 10 → 0 ≤ u → u < n → T' r u = T r u)
section
variable {n : Nat} {T T' gh : Nat → Int → Int} {L : Int → BitVec 64} {J : Int → Int}
theorem agr_sy (h : agr n T T') : agr n T' T := by
  obtain ⟨a, b, c⟩ := h
  have e := a 10 (by decide) (by decide)
  exact ⟨fun j x y => (a j x y).symm, fun r k x y z w => (b r k x y z (by omega)).symm, fun r u x y z w => (c r u x y z w).symm⟩
theorem GI_ext (h : agr n T T') (g : GI n n T) : GI n n T' := by
  obtain ⟨a, b, c⟩ := h
  obtain ⟨g1, g2, g3, g4, g5, g6, g7, g8⟩ := g
  have e := a 10 (by decide) (by decide)
  refine ⟨g1, by rw [a 11 (by decide) (by decide)]; exact g2, by rw [e]; exact g3, fun k x y => ?_, ?_, fun k x y => ?_, ?_, ?_⟩
  · rw [e] at y
    rw [b 3 k (by decide) (by decide) x y, b 4 k (by decide) (by decide) x y, b 5 k (by decide) (by decide) x y]
    exact g4 k x y
  · unfold sSet at g5 ⊢
    rw [a 12 (by decide) (by decide), a 13 (by decide) (by decide)]
    exact g5
  · rw [e] at y
    rw [b 8 k (by decide) (by decide) x y]
    exact g6 k x y
  · rw [e, ← g7]
    exact isum_ext fun i x y => b 8 i (by decide) (by decide) x (by omega)
  · rw [e]
    refine Int.le_trans (Int.le_of_eq (isum_ext fun i x y => ?_)) g8
    rw [b 8 i (by decide) (by decide) x (by omega), b 5 i (by decide) (by decide) x (by omega)]
theorem XI_ext (h : agr n T T') (g : GI n n T) (x : XI n n T gh L) : XI n n T' gh L := by
  obtain ⟨a, b, c⟩ := h
  obtain ⟨g1, g2, g3, -⟩ := g
  obtain ⟨x1, x2, x3, x4, x5, x6, x7⟩ := x
  have e := a 10 (by decide) (by decide)
  have jj : ∀ u : Int, 0 ≤ u → u ≤ n → jn T' u = jn T u := fun u u0 u1 => jn_ext fun v v0 v1 => c 10 v (by decide) (by decide) v0 (by omega)
  refine ⟨fun k p q => ?_, fun k p q => ?_, fun k p q => ?_, fun u p q => ?_, ?_, ?_, ?_⟩
  · rw [b 6 k (by decide) (by decide) p (by omega), b 7 k (by decide) (by decide) p (by omega)]
    exact x1 k p q
  · rw [e] at q
    obtain ⟨y1, y2, y3, y4, y5, y6, y7, y8, y9⟩ := x2 k p q
    rw [b 6 k (by decide) (by decide) (by omega) q, b 7 k (by decide) (by decide) (by omega) q, c 9 _ (by decide) (by decide) y4.1 y4.2, c 10 _ (by decide) (by decide) y4.1 y4.2, b 5 k (by decide) (by decide) (by omega) q, b 5 _ (by decide) (by decide) y1.1 (by omega), b 5 _ (by decide) (by decide) y2.1 (by omega)]
    exact ⟨y1, y2, y3, y4, y5, y6, y7, y8, y9⟩
  · rw [e] at q
    have y := x3 k p q
    rw [b 8 k (by decide) (by decide) p q]
    refine ⟨y.1, fun z => ?_⟩
    obtain ⟨y1, y2, y3⟩ := y.2 z
    rw [c 9 _ (by decide) (by decide) y1.1 y1.2, c 10 _ (by decide) (by decide) y1.1 y1.2]
    exact ⟨y1, y2, y3⟩
  · obtain ⟨y1, y2⟩ := x4 u p q
    rw [c 9 u (by decide) (by decide) p q, c 10 u (by decide) (by decide) p q, e, jj u p (by omega)]
    refine ⟨y1, ?_⟩
    rcases y2 with y2 | ⟨z1, z2, z3, z4, z5, z6, z7, z8⟩
    · exact Or.inl y2
    · have := @jn_nn T u
      rw [b 6 _ (by decide) (by decide) (by omega) z3, b 7 _ (by decide) (by decide) (by omega) z3]
      exact Or.inr ⟨z1, z2, z3, z4, z5, z6, z7, z8⟩
  · show T' 0 10 = n + jn T' n
    rw [e, jj n (by omega) (by omega)]
    exact x5
  · intro k f p q p2 q2
    rw [e] at q q2
    exact x6 k f p q p2 q2
  · intro k p q
    rw [e] at q
    exact x7 k p q
theorem TF_ext (h : agr n T T') (f : TF n T gh L J) : TF n T' gh L J := by
  obtain ⟨g, x, j, h14⟩ := f
  have h' := h
  obtain ⟨a, b, c⟩ := h
  have e := a 10 (by decide) (by decide)
  refine ⟨GI_ext h' g, XI_ext h' g x, ?_, by rw [a 14 (by decide) (by decide)]; exact h14⟩
  rw [e]
  obtain ⟨j1, j2, j3⟩ := j
  refine ⟨fun i p q => ?_, fun i k p q w => ?_, fun k p q w z => ?_⟩
  · have y := j1 i p q
    rw [e, b 8 _ (by decide) (by decide) y.1.1 y.1.2]
    exact y
  · have y1 := (j1 i p (by omega)).1
    have y2 := (j1 k (by omega) w).1
    have y := j2 i k p q w
    simp only [hvS]
    rw [b 3 _ (by decide) (by decide) y1.1 y1.2, b 4 _ (by decide) (by decide) y1.1 y1.2, b 5 _ (by decide) (by decide) y1.1 y1.2, b 3 _ (by decide) (by decide) y2.1 y2.2, b 4 _ (by decide) (by decide) y2.1 y2.2, b 5 _ (by decide) (by decide) y2.1 y2.2]
    exact y
  · rw [e] at q
    rw [b 8 k (by decide) (by decide) p q] at w
    exact j3 k p q w z
end
abbrev zG : Type := Nat → Option (Nat × List Value)
def TrO (G : zG) (t : Nat) (n : Nat) (T gh : Nat → Int → Int) (L : Int → BitVec 64) (J : Int → Int) (pk ps pj po : Nat) (fk fs fj fo : Int → Value) (on : Nat) (ka ba sa : Int → Nat) : Prop :=
  G t = some (9, [vi (T 0 12), vi (T 0 13), vi (T 0 14), vi (n : Int), .ref pk, vi (T 0 10), .ref ps, vi (n : Int), .ref pj, vi (2 * n - T 0 10), .ref po]) ∧ (G pk = some (71, ar (2 * n) fk) ∧ G ps = some (72, ar n fs) ∧ G pj = some (71, ar n fj) ∧ G po = some (64, ar on fo)) ∧ (∀ k, 0 ≤ k → k < T 0 10 → fk k = .ref (ka k) ∧ G (ka k) = some (4, kV T gh L ka ba k) ∧ G (ba k) = some (0, bV T k)) ∧ (∀ u : Int, 0 ≤ u → u < n → fs u = .ref (sa u) ∧ G (sa u) = some (6, sV T gh u)) ∧ (∀ i, 0 ≤ i → i < 2 * n - T 0 10 → fj i = .ref (ka (J i))) ∧ (((T 0 5 = 0 ∧ on = 0) ∨ (T 0 5 = 1 ∧ on = n ∧ ∀ k : Int, 0 ≤ k → k < n → fo k = vi (T 11 k))) ∧ ∀ k : Int, 0 ≤ k → k < n → T 5 k ≤ 9999)
def TrAt (G : zG) (t : Nat) (T : Nat → Int → Int) : Prop := ∃ n gh L J pk ps pj po fk fs fj fo on ka ba sa, TF n T gh L J ∧ TrO G t n T gh L J pk ps pj po fk fs fj fo on ka ba sa
/-- a track's words -/
def eT (f : Int → Int) (b i w : Int) : Int := f (b + 1 + 3 * i + w)
def EvO (G : zG) (e : Nat) (f : Int → Int) (b : Int) (n tr : Nat) (fb : Int → Value) (ba : Int → Nat) : Prop :=
  (f b = n ∧ n ≤ 40) ∧ G e = some (2, [.ref tr]) ∧ G tr = some (67, ar n fb) ∧ ∀ i : Int, 0 ≤ i → i < n → (fb i = .ref (ba i) ∧ G (ba i) = some (0, [vi i, vi (eT f b i 0), vi (eT f b i 1), vi (eT f b i 2)])) ∧ (-200 ≤ eT f b i 0 ∧ eT f b i 0 ≤ 200) ∧ (0 ≤ eT f b i 1 ∧ eT f b i 1 < 360) ∧ (1 ≤ eT f b i 2 ∧ eT f b i 2 ≤ 9999)
def EvAt (G : zG) (e : Nat) (f : Int → Int) (b : Int) : Prop := ∃ n tr fb ba, EvO G e f b n tr fb ba
/-- a set of a kept cut, out of two words -/
def kpt (f : Int → Int) (b i : Int) : BitVec 64 := BitVec.ofInt 64 (f (b + 1 + 2 * i + 1) * 4294967296 + f (b + 1 + 2 * i) % 4294967296)
def CuO (G : zG) (a : Nat) (f : Int → Int) (b : Int) (k : Nat) (fs : Int → Value) : Prop := (f b = k ∧ 1 ≤ k ∧ k ≤ 40) ∧ G a = some (65, ar k fs) ∧ ∀ i : Int, 0 ≤ i → i < k → fs i = vB (kpt f b i) ∧ iR (f (b + 1 + 2 * i)) ∧ iR (f (b + 1 + 2 * i + 1))
def StO (G : zG) (st : Nat) (f : Int → Int) (pe pt pk : Nat) (fe ft fk : Int → Value) : Prop :=
  G st = some (5, [vi (f 2), vi (f 3), vi (f 4), vi (f 6), vi (f 5), .ref pe, .ref pt, .ref pk]) ∧ ((1 ≤ f 2 ∧ f 2 ≤ 200) ∧ (-1 ≤ f 3 ∧ f 3 ≤ 1) ∧ (f 4 = 0 ∨ f 4 = 1) ∧ (0 ≤ f 6 ∧ f 6 < 30091) ∧ (0 ≤ f 5 ∧ f 5 < 3) ∧ (0 ≤ f 7 ∧ f 7 < 16)) ∧ (G pe = some (68, ar 3 fe) ∧ G pt = some (69, ar 4 ft) ∧ G pk = some (73, ar 4 fk)) ∧ (∀ e, 0 ≤ e → e < 3 → ∃ a, fe e = .ref a ∧ EvAt G a f (8 + 121 * e)) ∧ (∀ t, 0 ≤ t → t < 4 → (bit (f 7) t = 0 ∧ ft t = .null) ∨ (bit (f 7) t = 1 ∧ ∃ a, ft t = .ref a ∧ TrAt G a (tS f (371 + 521 * t)))) ∧ (∀ c, 0 ≤ c → c < 4 → (f (2455 + 81 * c) = 0 ∧ fk c = .null) ∨ (∃ a k fs, fk c = .ref a ∧ CuO G a f (2455 + 81 * c) k fs))
def StAt (G : zG) (st : Nat) (f : Int → Int) : Prop := ∃ pe pt pk fe ft fk, StO G st f pe pt pk fe ft fk
def gLe (G G' : zG) : Prop := ∀ a o, G a = some o → G' a = some o
section
variable {G G' : zG}
theorem TrAt_mono (h : gLe G G') {t : Nat} {T : Nat → Int → Int} (q : TrAt G t T) : TrAt G' t T := by
  obtain ⟨n, gh, L, J, pk, ps, pj, po, fk, fs, fj, fo, on, ka, ba, sa, tf, a, ⟨b1, b2, b3, b4⟩, c, d, e, f⟩ := q
  exact ⟨n, gh, L, J, pk, ps, pj, po, fk, fs, fj, fo, on, ka, ba, sa, tf, h _ _ a, ⟨h _ _ b1, h _ _ b2, h _ _ b3, h _ _ b4⟩, fun k x y => ⟨(c k x y).1, h _ _ (c k x y).2.1, h _ _ (c k x y).2.2⟩, fun u x y => ⟨(d u x y).1, h _ _ (d u x y).2⟩, e, f⟩
theorem EvAt_mono (h : gLe G G') {e : Nat} {f : Int → Int} {b : Int} (q : EvAt G e f b) : EvAt G' e f b := by
  obtain ⟨n, tr, fb, ba, a, b, c, d⟩ := q
  exact ⟨n, tr, fb, ba, a, h _ _ b, h _ _ c, fun i x y => ⟨⟨(d i x y).1.1, h _ _ (d i x y).1.2⟩, (d i x y).2⟩⟩
theorem CuO_mono (h : gLe G G') {a : Nat} {f : Int → Int} {b : Int} {k : Nat} {fs : Int → Value} (q : CuO G a f b k fs) : CuO G' a f b k fs := ⟨q.1, h _ _ q.2.1, q.2.2⟩
theorem StAt_mono (h : gLe G G') {st : Nat} {f : Int → Int} (q : StAt G st f) : StAt G' st f := by
  obtain ⟨pe, pt, pk, fe, ft, fk, a, b, ⟨c1, c2, c3⟩, d, e, k⟩ := q
  refine ⟨pe, pt, pk, fe, ft, fk, h _ _ a, b, ⟨h _ _ c1, h _ _ c2, h _ _ c3⟩, fun i x y => ?_, fun i x y => ?_, fun i x y => ?_⟩
  · obtain ⟨w, w1, w2⟩ := d i x y
    exact ⟨w, w1, EvAt_mono h w2⟩
  · rcases e i x y with q | ⟨q, w, w1, w2⟩
    · exact Or.inl q
    · exact Or.inr ⟨q, w, w1, TrAt_mono h w2⟩
  · rcases k i x y with q | ⟨w, u, fs, w1, w2⟩
    · exact Or.inl q
    · exact Or.inr ⟨w, u, fs, w1, CuO_mono h w2⟩
/-- a state says no more than its words -/
theorem tS_ext {f f' : Int → Int} {b : Int} (n : Nat) (hn : n ≤ 40) (h : ∀ i, b ≤ i → i < b + 521 → f' i = f i) (hk : tS f b 0 10 ≤ 79) : agr n (tS f b) (tS f' b) ∧ tS f' b 0 5 = tS f b 0 5 ∧ ∀ k : Int, 0 ≤ k → k < n → tS f' b 11 k = tS f b 11 k := by
  refine ⟨⟨fun j j0 j1 => ?_, fun r k r0 r1 k0 k1 => ?_, fun r u r0 r1 u0 u1 => ?_⟩, h _ (by omega) (by omega), fun k k0 k1 => h _ (by omega) (by omega)⟩
  · have : j = 10 ∨ j = 11 ∨ j = 12 ∨ j = 13 ∨ j = 14 := by omega
    rcases this with q | q | q | q | q <;> subst q <;> exact h _ (by omega) (by omega)
  · have : r = 3 ∨ r = 4 ∨ r = 5 ∨ r = 6 ∨ r = 7 ∨ r = 8 := by omega
    rcases this with q | q | q | q | q | q <;> subst q <;> first | rfl | exact h _ (by omega) (by omega)
  · have : r = 9 ∨ r = 10 := by omega
    rcases this with q | q <;> subst q <;> exact h _ (by omega) (by omega)
theorem kV_agr {n : Nat} {T T' gh : Nat → Int → Int} {L : Int → BitVec 64} {ka ba : Int → Nat} {k : Int} (h : agr n T T') (k0 : 0 ≤ k) (k1 : k < T 0 10) : kV T' gh L ka ba k = kV T gh L ka ba k ∧ bV T' k = bV T k := by
  obtain ⟨a, b, c⟩ := h
  unfold kV bV
  rw [b 6 k (by decide) (by decide) k0 k1, b 7 k (by decide) (by decide) k0 k1, b 3 k (by decide) (by decide) k0 k1, b 4 k (by decide) (by decide) k0 k1, b 5 k (by decide) (by decide) k0 k1]
  exact ⟨rfl, rfl⟩
theorem sV_agr {n : Nat} {T T' gh : Nat → Int → Int} {L : Int → BitVec 64} {J : Int → Int} {u : Int} (h : agr n T T') (tf : TF n T gh L J) (u0 : 0 ≤ u) (u1 : u < n) : sV T' gh u = sV T gh u := by
  have st := tf_step tf u0 u1
  obtain ⟨a, b, c⟩ := h
  have b9 := st.1.1
  refine sV_ext (c 9 u (by decide) (by decide) u0 u1) (c 10 u (by decide) (by decide) u0 u1) rfl (upS_ext (a 12 (by decide) (by decide)) (a 13 (by decide) (by decide)) ⟨b 3 _ (by decide) (by decide) b9.1 b9.2, b 4 _ (by decide) (by decide) b9.1 b9.2, b 5 _ (by decide) (by decide) b9.1 b9.2⟩ ?_)
  rcases st.2 with q | ⟨q, -⟩
  · exact Or.inl q.1
  · exact Or.inr ⟨b 3 _ (by decide) (by decide) q.1.1 q.1.2, b 4 _ (by decide) (by decide) q.1.1 q.1.2, b 5 _ (by decide) (by decide) q.1.1 q.1.2⟩
theorem TrAt_ext {t : Nat} {T T' : Nat → Int → Int} (h : ∀ n : Nat, n ≤ 40 → T 0 10 ≤ 79 → agr n T T' ∧ T' 0 5 = T 0 5 ∧ ∀ k : Int, 0 ≤ k → k < n → T' 11 k = T 11 k) (q : TrAt G t T) : TrAt G t T' := by
  obtain ⟨n, gh, L, J, pk, ps, pj, po, fk, fs, fj, fo, on, ka, ba, sa, tf, a, b, c, d, e, f⟩ := q
  have nn := tf_n tf
  have nj := tf_jets tf
  obtain ⟨ag, h5, h11⟩ := h n nn.1.1 nj.1
  have ag' := ag
  obtain ⟨a1, b1, c1⟩ := ag
  have e10 := a1 10 (by decide) (by decide)
  refine ⟨n, gh, L, J, pk, ps, pj, po, fk, fs, fj, fo, on, ka, ba, sa, TF_ext ag' tf, ?_, b, fun k x y => ?_, fun u x y => ?_, fun i x y => ?_, ?_⟩
  · rw [a1 12 (by decide) (by decide), a1 13 (by decide) (by decide), a1 14 (by decide) (by decide), e10]
    exact a
  · rw [e10] at y
    rw [(kV_agr ag' x y).1, (kV_agr (gh := gh) (L := L) (ka := ka) (ba := ba) ag' x y).2]
    exact c k x y
  · rw [sV_agr ag' tf x y]
    exact d u x y
  · rw [e10] at y
    exact e i x y
  · rw [h5]
    refine ⟨?_, fun k x y => by rw [b1 5 k (by decide) (by decide) x (by omega)]; exact f.2 k x y⟩
    rcases f.1 with f | ⟨f1, f2, f3⟩
    · exact Or.inl f
    · exact Or.inr ⟨f1, f2, fun k x y => by rw [h11 k x y]; exact f3 k x y⟩
theorem EvAt_ext {e : Nat} {f f' : Int → Int} {b b' : Int} (h : ∀ i, 0 ≤ i → i < 121 → f' (b' + i) = f (b + i)) (q : EvAt G e f b) : EvAt G e f' b' := by
  obtain ⟨n, tr, fb, ba, a, k, c, d⟩ := q
  have e0 := h 0 (by decide) (by decide)
  rw [Int.add_zero, Int.add_zero] at e0
  refine ⟨n, tr, fb, ba, ⟨by rw [e0]; exact a.1, a.2⟩, k, c, fun i x y => ?_⟩
  have w : ∀ w, 0 ≤ w → w < 3 → eT f' b' i w = eT f b i w := fun w w0 w1 => by
    have := h (1 + 3 * i + w) (by omega) (by omega)
    unfold eT
    rw [show b' + 1 + 3 * i + w = b' + (1 + 3 * i + w) by omega, show b + 1 + 3 * i + w = b + (1 + 3 * i + w) by omega]
    exact this
  rw [w 0 (by decide) (by decide), w 1 (by decide) (by decide), w 2 (by decide) (by decide)]
  exact d i x y
theorem CuO_ext {a k : Nat} {f f' : Int → Int} {b : Int} {fs : Int → Value} (h : ∀ i, b ≤ i → i < b + 81 → f' i = f i) (q : CuO G a f b k fs) : CuO G a f' b k fs := by
  obtain ⟨c, d, e⟩ := q
  refine ⟨by rw [h b (by omega) (by omega)]; exact c, d, fun i x y => ?_⟩
  have := e i x y
  unfold kpt at this ⊢
  rw [h _ (by omega) (by omega), h _ (by omega) (by omega)]
  exact this
theorem StAt_ext {st : Nat} {f f' : Int → Int} (h : ∀ i, 2 ≤ i → i < 2779 → f' i = f i) (q : StAt G st f) : StAt G st f' := by
  obtain ⟨pe, pt, pk, fe, ft, fk, a, b, c, d, e, k⟩ := q
  refine ⟨pe, pt, pk, fe, ft, fk, ?_, ?_, c, fun i x y => ?_, fun i x y => ?_, fun i x y => ?_⟩
  · rw [h 2 (by decide) (by decide), h 3 (by decide) (by decide), h 4 (by decide) (by decide), h 5 (by decide) (by decide), h 6 (by decide) (by decide)]
    exact a
  · rw [h 2 (by decide) (by decide), h 3 (by decide) (by decide), h 4 (by decide) (by decide), h 5 (by decide) (by decide), h 6 (by decide) (by decide), h 7 (by decide) (by decide)]
    exact b
  · obtain ⟨w, w1, w2⟩ := d i x y
    exact ⟨w, w1, EvAt_ext (fun j _ _ => h _ (by omega) (by omega)) w2⟩
  · rw [h 7 (by decide) (by decide)]
    rcases e i x y with q | ⟨q, w, w1, w2⟩
    · exact Or.inl q
    · refine Or.inr ⟨q, w, w1, TrAt_ext (fun n hn hk => tS_ext n hn (fun j _ _ => h j (by omega) (by omega)) hk) w2⟩
  · rcases k i x y with q | ⟨w, u, fs, w1, w2⟩
    · rw [h _ (by omega) (by omega)]; exact Or.inl q
    · exact Or.inr ⟨w, u, fs, w1, CuO_ext (fun j _ _ => h j (by omega) (by omega)) w2⟩
end
