/-! patches: pure -/
def hvF (P : Int → Bool) (V : Int → Int) : Nat → Int
  | 0 => -1
  | k + 1 => if P k = true ∧ (hvF P V k = -1 ∨ V (hvF P V k) < V k) then k else hvF P V k
theorem hvF_s {P : Int → Bool} {V : Int → Int} {i : Int} (i0 : 0 ≤ i) : hvF P V (i + 1).toNat = if P i = true ∧ (hvF P V i.toNat = -1 ∨ V (hvF P V i.toNat) < V i) then i else hvF P V i.toNat := by
  rw [show (i + 1).toNat = i.toNat + 1 by omega]
  show (if P ((i.toNat : Nat) : Int) = true ∧ (hvF P V i.toNat = -1 ∨ V (hvF P V i.toNat) < V ((i.toNat : Nat) : Int)) then ((i.toNat : Nat) : Int) else _) = _
  rw [show ((i.toNat : Nat) : Int) = i by omega]
def hvP (P : Int → Bool) (V : Int → Int) (k b : Int) : Prop := (b = -1 ∧ ∀ i, 0 ≤ i → i < k → P i = false) ∨ ((0 ≤ b ∧ b < k) ∧ P b = true ∧ ∀ i, 0 ≤ i → i < k → P i = true → V i ≤ V b ∧ (i < b → V i < V b))
theorem hvF_f {P : Int → Bool} {V : Int → Int} : ∀ k : Nat, hvP P V k (hvF P V k)
  | 0 => Or.inl ⟨rfl, fun i a b => by omega⟩
  | k + 1 => by
    have ih := hvF_f (P := P) (V := V) k
    unfold hvF
    split
    · next c =>
      refine Or.inr ⟨by omega, c.1, fun i a b d => ?_⟩
      by_cases z : i = k
      · subst z
        exact ⟨Int.le_refl _, fun y => by omega⟩
      · rcases ih with ⟨q1, q2⟩ | ⟨q1, q2, q3⟩
        · rw [q2 i a (by omega)] at d
          exact absurd d (by decide)
        · have := (q3 i a (by omega) d).1
          rcases c.2 with c2 | c2 <;> omega
    · next c =>
      rcases ih with ⟨q1, q2⟩ | ⟨q1, q2, q3⟩
      · refine Or.inl ⟨q1, fun i a b => ?_⟩
        by_cases z : i = k
        · subst z
          cases y : P k with
          | false => rfl
          | true => exact absurd ⟨y, Or.inl q1⟩ c
        · exact q2 i a (by omega)
      · refine Or.inr ⟨by omega, q2, fun i a b d => ?_⟩
        by_cases z : i = k
        · subst z
          by_cases y : V (hvF P V k) < V k
          · exact absurd ⟨d, Or.inr y⟩ c
          · exact ⟨by omega, fun w => by omega⟩
        · exact q3 i a (by omega) d
theorem hvP_one {P : Int → Bool} {V : Int → Int} {k a b : Int} (h1 : hvP P V k a) (h2 : hvP P V k b) : a = b := by
  rcases h1 with ⟨p1, p2⟩ | ⟨p1, p2, p3⟩
  · rcases h2 with ⟨q1, -⟩ | ⟨q1, q2, -⟩
    · omega
    · rw [p2 b q1.1 q1.2] at q2
      exact absurd q2 (by decide)
  · rcases h2 with ⟨q1, q2⟩ | ⟨q1, q2, q3⟩
    · rw [q2 a p1.1 p1.2] at p2
      exact absurd p2 (by decide)
    · have x := p3 b q1.1 q1.2 q2
      have y := q3 a p1.1 p1.2 p2
      by_cases z : a < b
      · have := y.2 z
        omega
      · by_cases w : b < a
        · have := x.2 w
          omega
        · omega
def rmv {α : Type} (Z : Int → α) (j : Int) : Int → α := fun e => if e < j then Z e else Z (e + 1)
theorem isum_rm {f : Int → Int} {j : Int} (j0 : 0 ≤ j) : ∀ k : Nat, j ≤ k → isum (rmv f j) k = isum f (k + 1) - f j
  | 0, h => by
    have : j = 0 := by omega
    subst this
    show (0 : Int) = 0 + f ((0 : Nat) : Int) - f 0
    show (0 : Int) = 0 + f 0 - f 0
    omega
  | k + 1, h => by
    by_cases z : j = ((k + 1 : Nat) : Int)
    · have e : isum (rmv f j) (k + 1) = isum f (k + 1) := isum_ext fun i i0 i1 => if_pos (by omega)
      rw [e]
      show isum f (k + 1) = isum f (k + 1) + f ((k + 1 : Nat) : Int) - f j
      rw [z]
      omega
    · have ih := isum_rm (f := f) j0 k (by omega)
      have e : rmv f j (k : Int) = f ((k : Int) + 1) := if_neg (by omega)
      show isum (rmv f j) k + rmv f j (k : Int) = isum f (k + 1) + f ((k + 1 : Nat) : Int) - f j
      rw [ih, e, show ((k + 1 : Nat) : Int) = (k : Int) + 1 by omega]
      omega
def ms (c : Int) (Z : Int → BitVec 64) : Int := isum (fun j => pc (Z j) + 1) c.toNat
theorem ms_rm {c j : Int} {Z : Int → BitVec 64} (j0 : 0 ≤ j) (j1 : j < c) : ms (c - 1) (rmv Z j) = ms c Z - (pc (Z j) + 1) := by
  have e := isum_rm (f := fun j => pc (Z j) + 1) j0 (c - 1).toNat (by omega)
  rw [show (c - 1).toNat + 1 = c.toNat by omega] at e
  unfold ms
  rw [← e]
  refine isum_ext fun i _ _ => ?_
  show pc (if i < j then Z i else Z (i + 1)) + 1 = if i < j then pc (Z i) + 1 else pc (Z (i + 1)) + 1
  split <;> rfl
theorem ms_up {c j : Int} {Z : Int → BitVec 64} {v : BitVec 64} (j0 : 0 ≤ j) (j1 : j < c) : ms c (up Z j v) = ms c Z + (pc v - pc (Z j)) := by
  have e := isum_set (f := fun j => pc (Z j) + 1) (g := fun e => pc (up Z j v e) + 1) (x := j) (v := pc v + 1) (n := c.toNat) j0 (by omega) (fun i _ _ hn => by show pc (up Z j v i) + 1 = pc (Z i) + 1; rw [up_n hn]) (by show pc (up Z j v j) + 1 = pc v + 1; rw [up_s])
  unfold ms
  rw [e]
  show _ + (pc v + 1 - (pc (Z j) + 1)) = _
  omega
theorem ms_nn {c : Int} {Z : Int → BitVec 64} : 0 ≤ ms c Z := isum_nn fun i _ _ => by have := pc_nn (x := Z i); omega
theorem ms_le {c : Int} {n : Nat} {Z : Int → BitVec 64} (c0 : 0 ≤ c) (h : ∀ j, 0 ≤ j → j < c → ∀ i : Int, n ≤ i → bHas (Z j) i = false) (hn : n ≤ 40) : ms c Z ≤ 41 * c := by
  have := isum_bd (f := fun j => pc (Z j) + 1) (C := 41) (n := c.toNat) (fun i i0 i1 => by
    have a := pc_nn (x := Z i)
    have b := pc_le (x := Z i) (m := n) (by omega) (h i i0 (by omega))
    show 0 ≤ pc (Z i) + 1 ∧ pc (Z i) + 1 ≤ 41
    omega)
  unfold ms
  omega
theorem pc_orl {x y : BitVec 64} : pc (x ||| y) ≤ pc x + pc y := by
  unfold pc
  rw [← isum_add]
  refine isum_le fun i _ _ => ?_
  rw [bHas_or]
  cases bHas x i <;> cases bHas y i <;> simp
theorem bHas_not {x : BitVec 64} {i : Int} (i0 : 0 ≤ i) (i1 : i < 64) : bHas (~~~x) i = !bHas x i := by
  unfold bHas
  rw [BitVec.getLsbD_not, decide_eq_true i0]
  have : i.toNat < 64 := by omega
  simp [this]
theorem bHas_clr {x : BitVec 64} {i k : Int} (k0 : 0 ≤ k) (k1 : k < 64) : bHas (x &&& ~~~(1#64 <<< k.toNat)) i = (bHas x i && decide (i ≠ k)) := by
  rw [bHas_and]
  by_cases z : 0 ≤ i ∧ i < 64
  · rw [bHas_not z.1 z.2, bHas_1 k0 k1]
    congr 1
    by_cases w : i = k
    · simp [w]
    · simp [w]
  · have : bHas x i = false := by
      by_cases y : 0 ≤ i
      · exact bHas_ge (by omega)
      · unfold bHas
        rw [decide_eq_false y, Bool.false_and]
    rw [this, Bool.false_and, Bool.false_and]
theorem pc_clr {x : BitVec 64} {k : Int} (k0 : 0 ≤ k) (k1 : k < 64) (h : bHas x k = true) : pc (x &&& ~~~(1#64 <<< k.toNat)) = pc x - 1 := by
  have e := isum_set (f := fun j => if bHas x j = true then 1 else 0) (g := fun j => if bHas (x &&& ~~~(1#64 <<< k.toNat)) j = true then 1 else 0) (x := k) (v := 0) (n := 64) k0 k1 (fun j _ _ hn => by
    show (if bHas (x &&& ~~~(1#64 <<< k.toNat)) j = true then (1 : Int) else 0) = (if bHas x j = true then 1 else 0)
    rw [bHas_clr k0 k1, decide_eq_true hn, Bool.and_true]) (by
    show (if bHas (x &&& ~~~(1#64 <<< k.toNat)) k = true then (1 : Int) else 0) = 0
    rw [bHas_clr k0 k1, decide_eq_false (fun z => z rfl), Bool.and_false]
    rfl)
  unfold pc
  rw [e]
  show _ + (0 - (if bHas x k = true then (1 : Int) else 0)) = _
  rw [h]
  show _ + (0 - 1) = _ - 1
  omega
/-- two sets shared out, track by track -/
def dvF (C : Int → Bool) (S A B : BitVec 64) : Nat → BitVec 64 × BitVec 64
  | 0 => (A, B)
  | k + 1 => if bHas S k = true then (if C k = true then ((dvF C S A B k).1 &&& ~~~(1#64 <<< k), (dvF C S A B k).2) else ((dvF C S A B k).1, (dvF C S A B k).2 &&& ~~~(1#64 <<< k))) else dvF C S A B k
theorem dvF_s {C : Int → Bool} {S A B : BitVec 64} {i : Int} (i0 : 0 ≤ i) : dvF C S A B (i + 1).toNat = if bHas S i = true then (if C i = true then ((dvF C S A B i.toNat).1 &&& ~~~(1#64 <<< i.toNat), (dvF C S A B i.toNat).2) else ((dvF C S A B i.toNat).1, (dvF C S A B i.toNat).2 &&& ~~~(1#64 <<< i.toNat))) else dvF C S A B i.toNat := by
  rw [show (i + 1).toNat = i.toNat + 1 by omega]
  show (if bHas S ((i.toNat : Nat) : Int) = true then (if C ((i.toNat : Nat) : Int) = true then _ else _) else _) = _
  rw [show ((i.toNat : Nat) : Int) = i by omega]
theorem dvF_f {C : Int → Bool} {S A B : BitVec 64} (hS : S = A &&& B) : ∀ k : Nat, k ≤ 64 → (∀ i : Int, k ≤ i → bHas (dvF C S A B k).1 i = bHas A i ∧ bHas (dvF C S A B k).2 i = bHas B i) ∧ (∀ i : Int, bHas A i = false → bHas (dvF C S A B k).1 i = false) ∧ (∀ i : Int, bHas B i = false → bHas (dvF C S A B k).2 i = false) ∧ pc (dvF C S A B k).1 + pc (dvF C S A B k).2 = pc A + pc B - cnt (bHas S) k
  | 0, _ => ⟨fun _ _ => ⟨rfl, rfl⟩, fun _ h => h, fun _ h => h, by show pc A + pc B = pc A + pc B - 0; omega⟩
  | k + 1, hk => by
    obtain ⟨h1, h2, h3, h4⟩ := dvF_f (C := C) hS k (by omega)
    have ec := cnt_s (P := bHas S) (show (0 : Int) ≤ (k : Int) by omega)
    have kk : ((k : Int)).toNat = k := by omega
    have clr := fun (x : BitVec 64) (i : Int) => bHas_clr (x := x) (i := i) (k := (k : Int)) (by omega) (by omega)
    rw [kk] at clr
    unfold dvF
    by_cases c : bHas S k = true
    · rw [if_pos c]
      rw [if_pos c] at ec
      have ab : bHas A k = true ∧ bHas B k = true := by
        rw [hS, bHas_and, Bool.and_eq_true] at c
        exact c
      obtain ⟨y1, y2⟩ := h1 k (Int.le_refl _)
      rw [ab.1] at y1
      rw [ab.2] at y2
      have p1 := pc_clr (k := (k : Int)) (by omega) (by omega) y1
      have p2 := pc_clr (k := (k : Int)) (by omega) (by omega) y2
      rw [kk] at p1 p2
      by_cases d : C k = true
      · rw [if_pos d]
        refine ⟨fun i hi => ⟨?_, (h1 i (by omega)).2⟩, fun i hi => ?_, h3, ?_⟩
        · show bHas ((dvF C S A B k).1 &&& ~~~(1#64 <<< k)) i = _
          rw [clr, decide_eq_true (by omega), Bool.and_true]
          exact (h1 i (by omega)).1
        · show bHas ((dvF C S A B k).1 &&& ~~~(1#64 <<< k)) i = _
          rw [clr, h2 i hi, Bool.false_and]
        · show pc ((dvF C S A B k).1 &&& ~~~(1#64 <<< k)) + pc (dvF C S A B k).2 = pc A + pc B - cnt (bHas S) ((k + 1 : Nat) : Int)
          rw [p1, show ((k + 1 : Nat) : Int) = (k : Int) + 1 by omega, ec]
          omega
      · rw [if_neg d]
        refine ⟨fun i hi => ⟨(h1 i (by omega)).1, ?_⟩, h2, fun i hi => ?_, ?_⟩
        · show bHas ((dvF C S A B k).2 &&& ~~~(1#64 <<< k)) i = _
          rw [clr, decide_eq_true (by omega), Bool.and_true]
          exact (h1 i (by omega)).2
        · show bHas ((dvF C S A B k).2 &&& ~~~(1#64 <<< k)) i = _
          rw [clr, h3 i hi, Bool.false_and]
        · show pc (dvF C S A B k).1 + pc ((dvF C S A B k).2 &&& ~~~(1#64 <<< k)) = pc A + pc B - cnt (bHas S) ((k + 1 : Nat) : Int)
          rw [p2, show ((k + 1 : Nat) : Int) = (k : Int) + 1 by omega, ec]
          omega
    · rw [if_neg c]
      rw [if_neg c, Int.add_zero] at ec
      refine ⟨fun i hi => h1 i (by omega), h2, h3, ?_⟩
      rw [show ((k + 1 : Nat) : Int) = (k : Int) + 1 by omega, ec]
      exact h4
