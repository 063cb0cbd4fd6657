/-! patches: one step -/
section
variable {X Y W : Int → Int} {n : Nat} {f : Int}
def hvO (W : Int → Int) (n : Nat) (p : Int × (Int → BitVec 64)) : Int := hvF (fun _ => true) (fun i => wsF W (p.2 i) n) p.1.toNat
def hvT (W : Int → Int) (n : Nat) (p : Int × (Int → BitVec 64)) (o : Int) : Int := hvF (fun i => decide (i ≠ o) && decide (¬ p.2 i &&& p.2 o = 0#64)) (fun i => wsF W (p.2 i) n) p.1.toNat
def mgB (W : Int → Int) (n : Nat) (f : Int) (A B : BitVec 64) : Bool := decide (f * (if wsF W A n ≤ wsF W B n then wsF W A n else wsF W B n) ≤ 1000 * wsF W (A &&& B) n)
def dvC (X Y W : Int → Int) (n : Nat) (A B : BitVec 64) (k : Int) : Bool := decide (sqI (X k) (Y k) (mnF X Y W B n).1 (mnF X Y W B n).2.1 < sqI (X k) (Y k) (mnF X Y W A n).1 (mnF X Y W A n).2.1)
def pzR (p : Int × (Int → BitVec 64)) (j : Int) : Int × (Int → BitVec 64) := if p.2 j = 0#64 then (p.1 - 1, rmv p.2 j) else p
def clZ (p : Int × (Int → BitVec 64)) (o t : Int) : Int × (Int → BitVec 64) := pzR (pzR p (if t ≤ o then o else t)) (if o ≤ t then o else t)
def dvZ (X Y W : Int → Int) (n : Nat) (Z : Int → BitVec 64) (o t : Int) : Int → BitVec 64 := up (up Z o (dvF (dvC X Y W n (Z o) (Z t)) (Z o &&& Z t) (Z o) (Z t) n).1) t (dvF (dvC X Y W n (Z o) (Z t)) (Z o &&& Z t) (Z o) (Z t) n).2
def stT (X Y W : Int → Int) (n : Nat) (f : Int) (p : Int × (Int → BitVec 64)) (o t : Int) : Int × (Int → BitVec 64) := if mgB W n f (p.2 o) (p.2 t) = true then (p.1 - 1, rmv (up p.2 o (p.2 o ||| p.2 t)) t) else clZ (p.1, dvZ X Y W n p.2 o t) o t
def stP (X Y W : Int → Int) (n : Nat) (f : Int) (p : Int × (Int → BitVec 64)) : Int × (Int → BitVec 64) := if hvT W n p (hvO W n p) = -1 then (p.1 - 1, rmv p.2 (hvO W n p)) else stT X Y W n f p (hvO W n p) (hvT W n p (hvO W n p))
def ptL (X Y W : Int → Int) (n : Nat) (f : Int) : Nat → Int × (Int → BitVec 64) → List (BitVec 64)
  | 0, _ => []
  | k + 1, p => if p.1 ≤ 0 then [] else if hvT W n p (hvO W n p) = -1 then p.2 (hvO W n p) :: ptL X Y W n f k (stP X Y W n f p) else ptL X Y W n f k (stP X Y W n f p)
def NZn (n : Nat) (v : BitVec 64) : Prop := v ≠ 0#64 ∧ ∀ i : Int, n ≤ i → bHas v i = false
def GZ (n : Nat) (p : Int × (Int → BitVec 64)) : Prop := 0 ≤ p.1 ∧ ∀ j, 0 ≤ j → j < p.1 → NZn n (p.2 j)
theorem hvO_b {p : Int × (Int → BitVec 64)} (h : 0 < p.1) : 0 ≤ hvO W n p ∧ hvO W n p < p.1 := by
  rcases hvF_f (P := fun _ => true) (V := fun i => wsF W (p.2 i) n) p.1.toNat with ⟨-, q⟩ | ⟨q, -⟩
  · exact absurd (q 0 (by omega) (by omega)) (by decide)
  · show 0 ≤ hvF _ _ _ ∧ hvF _ _ _ < p.1
    omega
theorem hvO_0 {p : Int × (Int → BitVec 64)} (h : p.1 ≤ 0) : hvO W n p = -1 := by
  unfold hvO
  rw [show p.1.toNat = 0 by omega]
  rfl
theorem hvT_b {p : Int × (Int → BitVec 64)} {o : Int} : hvT W n p o = -1 ∨ ((0 ≤ hvT W n p o ∧ hvT W n p o < p.1) ∧ hvT W n p o ≠ o ∧ ¬ p.2 (hvT W n p o) &&& p.2 o = 0#64) := by
  rcases hvF_f (P := fun i => decide (i ≠ o) && decide (¬ p.2 i &&& p.2 o = 0#64)) (V := fun i => wsF W (p.2 i) n) p.1.toNat with ⟨q, -⟩ | ⟨q1, q2, -⟩
  · exact Or.inl q
  · rw [Bool.and_eq_true, decide_eq_true_eq, decide_eq_true_eq] at q2
    refine Or.inr ⟨?_, q2.1, q2.2⟩
    show 0 ≤ hvF _ _ _ ∧ hvF _ _ _ < p.1
    omega
theorem rmv_l {α : Type} {Z : Int → α} {j e : Int} (h : e < j) : rmv Z j e = Z e := if_pos h
theorem rmv_g {α : Type} {Z : Int → α} {j e : Int} (h : ¬ e < j) : rmv Z j e = Z (e + 1) := if_neg h
theorem GZ_rm {c j : Int} {Z : Int → BitVec 64} (c1 : 1 ≤ c) (h : ∀ e, 0 ≤ e → e < c → e ≠ j → NZn n (Z e)) : GZ n (c - 1, rmv Z j) := by
  refine ⟨by show 0 ≤ c - 1; omega, fun e e0 e1 => ?_⟩
  have e1 : e < c - 1 := e1
  show NZn n (rmv Z j e)
  by_cases z : e < j
  · rw [rmv_l z]
    exact h e e0 (by omega) (by omega)
  · rw [rmv_g z]
    exact h (e + 1) (by omega) (by omega) (by omega)
theorem bHas_or0 {x y : BitVec 64} (h : x ≠ 0#64) : x ||| y ≠ 0#64 := fun z => by
  obtain ⟨i, -, hi, -⟩ := b_low h
  have : bHas (x ||| y) i = true := by rw [bHas_or, hi, Bool.true_or]
  rw [z, bHas_0] at this
  exact absurd this (by decide)
theorem stT_ok {p : Int × (Int → BitVec 64)} {o t : Int} (n40 : n ≤ 40) (g : GZ n p) (o0 : 0 ≤ o) (o1 : o < p.1) (t0 : 0 ≤ t) (t1 : t < p.1) (ot : t ≠ o) (sh : ¬ p.2 t &&& p.2 o = 0#64) : GZ n (stT X Y W n f p o t) ∧ ms (stT X Y W n f p o t).1 (stT X Y W n f p o t).2 + 1 ≤ ms p.1 p.2 ∧ (stT X Y W n f p o t).1 ≤ p.1 := by
  obtain ⟨g0, g1⟩ := g
  have go := g1 o o0 o1
  have gt := g1 t t0 t1
  unfold stT
  by_cases mg : mgB W n f (p.2 o) (p.2 t) = true
  · rw [if_pos mg]
    refine ⟨GZ_rm (by omega) fun e e0 e1 en => ?_, ?_, by show p.1 - 1 ≤ p.1; omega⟩
    · by_cases z : e = o
      · rw [z, up_s]
        exact ⟨bHas_or0 go.1, fun i hi => by rw [bHas_or, go.2 i hi, gt.2 i hi]; rfl⟩
      · rw [up_n z]
        exact g1 e e0 e1
    · show ms (p.1 - 1) (rmv (up p.2 o (p.2 o ||| p.2 t)) t) + 1 ≤ _
      rw [ms_rm t0 t1, ms_up o0 o1, up_n ot]
      have := pc_orl (x := p.2 o) (y := p.2 t)
      omega
  · rw [if_neg mg]
    have df := dvF_f (C := dvC X Y W n (p.2 o) (p.2 t)) (S := p.2 o &&& p.2 t) (A := p.2 o) (B := p.2 t) rfl n (by omega)
    obtain ⟨-, d2, d3, d4⟩ := df
    have cs : 1 ≤ cnt (bHas (p.2 o &&& p.2 t)) n := by
      have nz : p.2 o &&& p.2 t ≠ 0#64 := fun z => sh (by rw [BitVec.and_comm]; exact z)
      have := pc_pos nz
      rw [pc_cnt (n := n) (by omega) (fun i hi => by rw [bHas_and, go.2 i hi, Bool.false_and])] at this
      exact this
    unfold clZ dvZ
    generalize dvF (dvC X Y W n (p.2 o) (p.2 t)) (p.2 o &&& p.2 t) (p.2 o) (p.2 t) n = D at *
    have m1 : ms p.1 (up (up p.2 o D.1) t D.2) = ms p.1 p.2 - cnt (bHas (p.2 o &&& p.2 t)) n := by
      rw [ms_up t0 t1, ms_up o0 o1, up_n ot]
      omega
    have b1 : ∀ e, 0 ≤ e → e < p.1 → ∀ i : Int, n ≤ i → bHas (up (up p.2 o D.1) t D.2 e) i = false := fun e e0 e1 i hi => by
      by_cases z : e = t
      · rw [z, up_s]
        exact d3 i (gt.2 i hi)
      · rw [up_n z]
        by_cases y : e = o
        · rw [y, up_s]
          exact d2 i (go.2 i hi)
        · rw [up_n y]
          exact (g1 e e0 e1).2 i hi
    have nz1 : ∀ e, 0 ≤ e → e < p.1 → e ≠ o → e ≠ t → up (up p.2 o D.1) t D.2 e ≠ 0#64 := fun e e0 e1 eo et => by
      rw [up_n et, up_n eo]
      exact (g1 e e0 e1).1
    generalize up (up p.2 o D.1) t D.2 = Z at *
    obtain ⟨be, hbe⟩ : ∃ be, be = (if t ≤ o then o else t) := ⟨_, rfl⟩
    obtain ⟨bf, hbf⟩ : ∃ bf, bf = (if o ≤ t then o else t) := ⟨_, rfl⟩
    rw [← hbe, ← hbf]
    have hb : (0 ≤ bf ∧ bf < be ∧ be < p.1) ∧ ((be = o ∧ bf = t) ∨ (be = t ∧ bf = o)) := by
      by_cases y : t ≤ o
      · rw [if_pos y] at hbe
        rw [if_neg (by omega)] at hbf
        omega
      · rw [if_neg y] at hbe
        rw [if_pos (by omega)] at hbf
        omega
    have nz2 : ∀ e, 0 ≤ e → e < p.1 → e ≠ be → e ≠ bf → Z e ≠ 0#64 := fun e e0 e1 x y => nz1 e e0 e1 (by omega) (by omega)
    by_cases z1 : Z be = 0#64
    · have r1 : pzR (p.1, Z) be = (p.1 - 1, rmv Z be) := if_pos z1
      rw [r1]
      have m2 := ms_rm (c := p.1) (j := be) (Z := Z) (by omega) (by omega)
      have pb := pc_nn (x := Z be)
      have eb : rmv Z be bf = Z bf := rmv_l (by omega)
      by_cases z2 : Z bf = 0#64
      · have r2 : pzR (p.1 - 1, rmv Z be) bf = (p.1 - 1 - 1, rmv (rmv Z be) bf) := if_pos (by show rmv Z be bf = 0#64; rw [eb]; exact z2)
        rw [r2]
        have m3 := ms_rm (c := p.1 - 1) (j := bf) (Z := rmv Z be) (by omega) (by omega)
        have pb2 := pc_nn (x := rmv Z be bf)
        refine ⟨GZ_rm (by omega) fun e e0 e1 en => ?_, by show ms (p.1 - 1 - 1) (rmv (rmv Z be) bf) + 1 ≤ _; omega, by show p.1 - 1 - 1 ≤ p.1; omega⟩
        by_cases y : e < be
        · rw [rmv_l y]
          exact ⟨nz2 e e0 (by omega) (by omega) en, b1 e e0 (by omega)⟩
        · rw [rmv_g y]
          exact ⟨nz2 (e + 1) (by omega) (by omega) (by omega) (by omega), b1 (e + 1) (by omega) (by omega)⟩
      · have r2 : pzR (p.1 - 1, rmv Z be) bf = (p.1 - 1, rmv Z be) := if_neg (by show ¬ rmv Z be bf = 0#64; rw [eb]; exact z2)
        rw [r2]
        refine ⟨GZ_rm (by omega) fun e e0 e1 en => ?_, by show ms (p.1 - 1) (rmv Z be) + 1 ≤ _; omega, by show p.1 - 1 ≤ p.1; omega⟩
        refine ⟨?_, b1 e e0 e1⟩
        by_cases y : e = bf
        · rw [y]; exact z2
        · exact nz2 e e0 e1 en y
    · have r1 : pzR (p.1, Z) be = (p.1, Z) := if_neg z1
      rw [r1]
      by_cases z2 : Z bf = 0#64
      · have r2 : pzR (p.1, Z) bf = (p.1 - 1, rmv Z bf) := if_pos z2
        rw [r2]
        have m3 := ms_rm (c := p.1) (j := bf) (Z := Z) (by omega) (by omega)
        have pb2 := pc_nn (x := Z bf)
        refine ⟨GZ_rm (by omega) fun e e0 e1 en => ?_, by show ms (p.1 - 1) (rmv Z bf) + 1 ≤ _; omega, by show p.1 - 1 ≤ p.1; omega⟩
        refine ⟨?_, b1 e e0 e1⟩
        by_cases y : e = be
        · rw [y]; exact z1
        · exact nz2 e e0 e1 y en
      · have r2 : pzR (p.1, Z) bf = (p.1, Z) := if_neg z2
        rw [r2]
        refine ⟨⟨g0, fun e e0 e1 => ⟨?_, b1 e e0 e1⟩⟩, by show ms p.1 Z + 1 ≤ _; omega, Int.le_refl _⟩
        show Z e ≠ 0#64
        by_cases y : e = be
        · rw [y]; exact z1
        · by_cases w : e = bf
          · rw [w]; exact z2
          · exact nz2 e e0 e1 y w
theorem stP_ok {p : Int × (Int → BitVec 64)} (n40 : n ≤ 40) (g : GZ n p) (h : 0 < p.1) : GZ n (stP X Y W n f p) ∧ ms (stP X Y W n f p).1 (stP X Y W n f p).2 + 1 ≤ ms p.1 p.2 ∧ (stP X Y W n f p).1 ≤ p.1 := by
  have ob := hvO_b (W := W) (n := n) h
  unfold stP
  by_cases z : hvT W n p (hvO W n p) = -1
  · rw [if_pos z]
    refine ⟨GZ_rm (by omega) fun e e0 e1 _ => g.2 e e0 e1, ?_, by show p.1 - 1 ≤ p.1; omega⟩
    show ms (p.1 - 1) (rmv p.2 (hvO W n p)) + 1 ≤ _
    rw [ms_rm ob.1 ob.2]
    have := pc_nn (x := p.2 (hvO W n p))
    omega
  · rw [if_neg z]
    rcases hvT_b (W := W) (n := n) (p := p) (o := hvO W n p) with q | ⟨q1, q2, q3⟩
    · exact absurd q z
    · exact stT_ok n40 g ob.1 ob.2 q1.1 q1.2 q2 q3
/-- the sets that there are yet, among all places -/
def EmP (M : Int) (U : Int → BitVec 64) (p : Int × (Int → BitVec 64)) (P : Int → Int) : Prop := (∀ j, 0 ≤ j → j < p.1 → (0 ≤ P j ∧ P j < M) ∧ p.2 j = U (P j)) ∧ (∀ i j, 0 ≤ i → i < j → j < p.1 → P i < P j) ∧ ∀ i, 0 ≤ i → i < M → U i ≠ 0#64 → ∃ j, (0 ≤ j ∧ j < p.1) ∧ P j = i
theorem EmP_in {M : Int} {U : Int → BitVec 64} {p : Int × (Int → BitVec 64)} {P : Int → Int} (e : EmP M U p P) {i j : Int} (i0 : 0 ≤ i) (i1 : i < p.1) (j0 : 0 ≤ j) (j1 : j < p.1) (h : P i = P j) : i = j := by
  by_cases a : i < j
  · have := e.2.1 i j i0 a j1
    omega
  · by_cases b : j < i
    · have := e.2.1 j i j0 b i1
      omega
    · omega
theorem EmP_hv {M : Int} {U : Int → BitVec 64} {p : Int × (Int → BitVec 64)} {P : Int → Int} {cM cC : Int → Bool} {w : BitVec 64 → Int} (M0 : 0 ≤ M) (g0 : 0 ≤ p.1) (e : EmP M U p P) (h1 : ∀ j, 0 ≤ j → j < p.1 → cC j = cM (P j)) (h2 : ∀ i, 0 ≤ i → i < M → cM i = true → U i ≠ 0#64) : hvF cM (fun i => w (U i)) M.toNat = if hvF cC (fun j => w (p.2 j)) p.1.toNat = -1 then -1 else P (hvF cC (fun j => w (p.2 j)) p.1.toNat) := by
  obtain ⟨e1, e2, e3⟩ := e
  refine hvP_one (hvF_f (P := cM) (V := fun i => w (U i)) M.toNat) ?_
  rcases hvF_f (P := cC) (V := fun j => w (p.2 j)) p.1.toNat with ⟨q1, q2⟩ | ⟨q1, q2, q3⟩
  · rw [if_pos q1]
    refine Or.inl ⟨rfl, fun i i0 i1 => ?_⟩
    cases y : cM i with
    | false => rfl
    | true =>
      obtain ⟨j, j1, j2⟩ := e3 i i0 (by omega) (h2 i i0 (by omega) y)
      have := q2 j j1.1 (by omega)
      rw [h1 j j1.1 j1.2, j2, y] at this
      exact absurd this (by decide)
  · rw [if_neg (by omega)]
    generalize hvF cC (fun j => w (p.2 j)) p.1.toNat = b at *
    obtain ⟨y1, y2⟩ := e1 b q1.1 (by omega)
    refine Or.inr ⟨by omega, by rw [← h1 b q1.1 (by omega)]; exact q2, fun i i0 i1 hc => ?_⟩
    obtain ⟨j, j1, j2⟩ := e3 i i0 (by omega) (h2 i i0 (by omega) hc)
    rw [← j2]
    have cj : cC j = true := by rw [h1 j j1.1 j1.2, j2]; exact hc
    have y3 := q3 j j1.1 (by omega) cj
    dsimp only at y3 ⊢
    rw [(e1 j j1.1 j1.2).2, y2] at y3
    refine ⟨y3.1, fun lt => y3.2 ?_⟩
    by_cases z : j < b
    · exact z
    · by_cases z2 : j = b
      · rw [z2] at lt
        omega
      · have := e2 b j q1.1 (by omega) j1.2
        omega
theorem EmP_rm {M c j : Int} {U U' Z : Int → BitVec 64} {P : Int → Int} (e : EmP M U (c, Z) P) (j0 : 0 ≤ j) (j1 : j < c) (z : U' (P j) = 0#64) (h : ∀ i, i ≠ P j → U' i = U i) : EmP M U' (c - 1, rmv Z j) (rmv P j) := by
  have inj := fun i i0 i1 h => EmP_in e (i := i) (j := j) i0 i1 j0 j1 h
  obtain ⟨e1, e2, e3⟩ := e
  refine ⟨fun k k0 k1 => ?_, fun i k i0 ik k1 => ?_, fun i i0 i1 hu => ?_⟩
  · have k1 : k < c - 1 := k1
    show (0 ≤ rmv P j k ∧ rmv P j k < M) ∧ rmv Z j k = U' (rmv P j k)
    by_cases y : k < j
    · rw [rmv_l y, rmv_l y, h _ (fun w => by have := inj k k0 (by show k < c; omega) w; omega)]
      exact e1 k k0 (by show k < c; omega)
    · rw [rmv_g y, rmv_g y, h _ (fun w => by have := inj (k + 1) (by omega) (by show k + 1 < c; omega) w; omega)]
      exact e1 (k + 1) (by omega) (by show k + 1 < c; omega)
  · have k1 : k < c - 1 := k1
    show rmv P j i < rmv P j k
    by_cases y : k < j
    · rw [rmv_l y, rmv_l (by omega)]
      exact e2 i k i0 ik (by show k < c; omega)
    · rw [rmv_g y]
      by_cases w : i < j
      · rw [rmv_l w]
        exact e2 i (k + 1) i0 (by omega) (by show k + 1 < c; omega)
      · rw [rmv_g w]
        exact e2 (i + 1) (k + 1) (by omega) (by omega) (by show k + 1 < c; omega)
  · have ne : i ≠ P j := fun w => hu (by rw [w]; exact z)
    rw [h i ne] at hu
    obtain ⟨k, k1, k2⟩ := e3 i i0 i1 hu
    have k1 : 0 ≤ k ∧ k < c := k1
    have kj : k ≠ j := fun w => ne (by rw [← k2, w])
    by_cases y : k < j
    · exact ⟨k, ⟨k1.1, by show k < c - 1; omega⟩, by rw [rmv_l y]; exact k2⟩
    · refine ⟨k - 1, ⟨by omega, by show k - 1 < c - 1; omega⟩, ?_⟩
      rw [rmv_g (by omega), show k - 1 + 1 = k by omega]
      exact k2
theorem EmP_up {M c j : Int} {U Z : Int → BitVec 64} {P : Int → Int} {v : BitVec 64} (e : EmP M U (c, Z) P) (j0 : 0 ≤ j) (j1 : j < c) : EmP M (up U (P j) v) (c, up Z j v) P := by
  have inj := fun i i0 i1 h => EmP_in e (i := i) (j := j) i0 i1 j0 j1 h
  obtain ⟨e1, e2, e3⟩ := e
  refine ⟨fun k k0 k1 => ⟨(e1 k k0 k1).1, ?_⟩, e2, fun i i0 i1 hu => ?_⟩
  · show up Z j v k = up U (P j) v (P k)
    by_cases y : k = j
    · rw [y, up_s, up_s]
    · rw [up_n y, up_n (fun w => y (inj k k0 k1 w))]
      exact (e1 k k0 k1).2
  · by_cases y : i = P j
    · exact ⟨j, ⟨j0, j1⟩, y.symm⟩
    · rw [up_n y] at hu
      exact e3 i i0 i1 hu
theorem EmP_r0 {M : Int} {U : Int → BitVec 64} {p : Int × (Int → BitVec 64)} {P : Int → Int} {j : Int} (e : EmP M U p P) (j0 : 0 ≤ j) (j1 : j < p.1) : ∃ P', EmP M U (pzR p j) P' ∧ ∀ k, 0 ≤ k → k < j → P' k = P k := by
  unfold pzR
  by_cases z : p.2 j = 0#64
  · rw [if_pos z]
    refine ⟨rmv P j, EmP_rm (U := U) (Z := p.2) e j0 j1 ?_ (fun _ _ => rfl), fun k _ k1 => rmv_l k1⟩
    rw [← (e.1 j j0 j1).2]
    exact z
  · rw [if_neg z]
    exact ⟨P, e, fun _ _ _ => rfl⟩
end
