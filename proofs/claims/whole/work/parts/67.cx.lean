/-! THE ROWS: conditions, cells, rows, calls -/
section CX
variable {μ : zMi} {K : List Nat} {n a b : Nat}
/-- a comparison that jumps: 'sense' true: it jumps where the condition holds -/
def zRc2 (k : Nat) (i : Int → Instr) : Prop := ∀ ⦃p : Program⦄ ⦃l : Launch⦄ ⦃e : Env⦄ ⦃R : Room⦄ ⦃s : State⦄ ⦃m : MethodId⦄ ⦃args : Array Value⦄ ⦃below : List Frame⦄ ⦃meth : Method⦄ ⦃c : Code⦄ ⦃Q : State → Prop⦄ ⦃H : Heap⦄ ⦃locs : List Loc⦄ ⦃cells slots : Nat⦄ ⦃ls : Array Slot⦄ ⦃rest : List Value⦄ ⦃cc : ByteArray⦄ ⦃pc tgt : Nat⦄ ⦃off : Int⦄ ⦃x y : Int32⦄, p.tables.exec = Jvm.exec → c.code = cc → decode cc pc = .ok (i off, 3) → (pc : Int) + off = (tgt : Int) →
  W p l e R s m args below meth c H locs cells slots Q (F0 m (if zIc k x y = true then tgt else pc + 3) ls rest) → W p l e R s m args below meth c H locs cells slots Q (F0 m pc ls (.int y :: .int x :: rest))
theorem zRc2.mk {k : Nat} {i : Int → Instr} (h : ∀ {p : Program} {l : Launch} {e : Env} {R : Room} {s : State} {m : MethodId} {args : Array Value} {below : List Frame} {meth : Method} {c : Code} {Q : State → Prop} {H : Heap} {locs : List Loc} {cells slots : Nat} {ls : Array Slot} {rest : List Value} {cc : ByteArray} {pc tgt : Nat} {off : Int} {x y : Int32}, p.tables.exec = Jvm.exec → c.code = cc → decode cc pc = .ok (i off, 3) → (pc : Int) + off = (tgt : Int) →
  W p l e R s m args below meth c H locs cells slots Q (F0 m (if zIc k x y = true then tgt else pc + 3) ls rest) → W p l e R s m args below meth c H locs cells slots Q (F0 m pc ls (.int y :: .int x :: rest))) : zRc2 k i := @h
def zRc1 (k : Nat) (i : Int → Instr) : Prop := ∀ ⦃p : Program⦄ ⦃l : Launch⦄ ⦃e : Env⦄ ⦃R : Room⦄ ⦃s : State⦄ ⦃m : MethodId⦄ ⦃args : Array Value⦄ ⦃below : List Frame⦄ ⦃meth : Method⦄ ⦃c : Code⦄ ⦃Q : State → Prop⦄ ⦃H : Heap⦄ ⦃locs : List Loc⦄ ⦃cells slots : Nat⦄ ⦃ls : Array Slot⦄ ⦃rest : List Value⦄ ⦃cc : ByteArray⦄ ⦃pc tgt : Nat⦄ ⦃off : Int⦄ ⦃x : Int32⦄, p.tables.exec = Jvm.exec → c.code = cc → decode cc pc = .ok (i off, 3) → (pc : Int) + off = (tgt : Int) →
  W p l e R s m args below meth c H locs cells slots Q (F0 m (if zIc k x 0 = true then tgt else pc + 3) ls rest) → W p l e R s m args below meth c H locs cells slots Q (F0 m pc ls (.int x :: rest))
theorem zRc1.mk {k : Nat} {i : Int → Instr} (h : ∀ {p : Program} {l : Launch} {e : Env} {R : Room} {s : State} {m : MethodId} {args : Array Value} {below : List Frame} {meth : Method} {c : Code} {Q : State → Prop} {H : Heap} {locs : List Loc} {cells slots : Nat} {ls : Array Slot} {rest : List Value} {cc : ByteArray} {pc tgt : Nat} {off : Int} {x : Int32}, p.tables.exec = Jvm.exec → c.code = cc → decode cc pc = .ok (i off, 3) → (pc : Int) + off = (tgt : Int) →
  W p l e R s m args below meth c H locs cells slots Q (F0 m (if zIc k x 0 = true then tgt else pc + 3) ls rest) → W p l e R s m args below meth c H locs cells slots Q (F0 m pc ls (.int x :: rest))) : zRc1 k i := @h
theorem qEq : zRc2 0 (fun o => .if_icmp .eq o) := zRc2.mk fun hx hc hd ht k => lv_icmp_eq hx hc hd ht (fun h => by simpa [zIc, h] using k) (fun h => by simpa [zIc, h] using k)
theorem qNe : zRc2 1 (fun o => .if_icmp .ne o) := zRc2.mk fun hx hc hd ht k => lv_icmp_ne hx hc hd ht (fun h => by simpa [zIc, h] using k) (fun h => by simp only [zIc, decide_eq_true_eq] at k; rwa [if_neg (fun q => q h)] at k)
theorem qLt : zRc2 2 (fun o => .if_icmp .lt o) := zRc2.mk fun hx hc hd ht k => lv_icmp_lt hx hc hd ht (fun h => by simp only [zIc, decide_eq_true_eq] at k; rwa [if_pos h] at k) (fun h => by simp only [zIc, decide_eq_true_eq] at k; rwa [if_neg h] at k)
theorem qGe : zRc2 3 (fun o => .if_icmp .ge o) := zRc2.mk fun hx hc hd ht k => lv_icmp_ge hx hc hd ht (fun h => by simp only [zIc, decide_eq_true_eq] at k; rwa [if_pos h] at k) (fun h => by simp only [zIc, decide_eq_true_eq] at k; rwa [if_neg h] at k)
theorem qGt : zRc2 4 (fun o => .if_icmp .gt o) := zRc2.mk fun hx hc hd ht k => lv_icmp_gt hx hc hd ht (fun h => by simp only [zIc, decide_eq_true_eq] at k; rwa [if_pos h] at k) (fun h => by simp only [zIc, decide_eq_true_eq] at k; rwa [if_neg h] at k)
theorem qLe : zRc2 5 (fun o => .if_icmp .le o) := zRc2.mk fun hx hc hd ht k => lv_icmp_le hx hc hd ht (fun h => by simp only [zIc, decide_eq_true_eq] at k; rwa [if_pos h] at k) (fun h => by simp only [zIc, decide_eq_true_eq] at k; rwa [if_neg h] at k)
theorem q1Eq : zRc1 0 (fun o => .ifCond .eq o) := zRc1.mk fun hx hc hd ht k => lv_if_eq hx hc hd ht (fun h => by simpa [zIc, h] using k) (fun h => by simpa [zIc, h] using k)
theorem q1Ne : zRc1 1 (fun o => .ifCond .ne o) := zRc1.mk fun hx hc hd ht k => lv_if_ne hx hc hd ht (fun h => by simp only [zIc, decide_eq_true_eq] at k; rwa [if_pos h] at k) (fun h => by simp only [zIc, decide_eq_true_eq] at k; rwa [if_neg (fun q => q h)] at k)
theorem q1Lt : zRc1 2 (fun o => .ifCond .lt o) := zRc1.mk fun hx hc hd ht k => lv_if_lt hx hc hd ht (fun h => by simp only [zIc, decide_eq_true_eq] at k; rwa [if_pos h] at k) (fun h => by simp only [zIc, decide_eq_true_eq] at k; rwa [if_neg h] at k)
theorem q1Ge : zRc1 3 (fun o => .ifCond .ge o) := zRc1.mk fun hx hc hd ht k => lv_if_ge hx hc hd ht (fun h => by simp only [zIc, decide_eq_true_eq] at k; rwa [if_pos h] at k) (fun h => by simp only [zIc, decide_eq_true_eq] at k; rwa [if_neg h] at k)
theorem q1Gt : zRc1 4 (fun o => .ifCond .gt o) := zRc1.mk fun hx hc hd ht k => lv_if_gt hx hc hd ht (fun h => by simp only [zIc, decide_eq_true_eq] at k; rwa [if_pos h] at k) (fun h => by simp only [zIc, decide_eq_true_eq] at k; rwa [if_neg h] at k)
theorem q1Le : zRc1 5 (fun o => .ifCond .le o) := zRc1.mk fun hx hc hd ht k => lv_if_le hx hc hd ht (fun h => by simp only [zIc, decide_eq_true_eq] at k; rwa [if_pos h] at k) (fun h => by simp only [zIc, decide_eq_true_eq] at k; rwa [if_neg h] at k)
/-- the opposite comparison -/
def zNg (k : Nat) : Nat := match k with
  | 0 => 1
  | 1 => 0
  | 2 => 3
  | 3 => 2
  | 4 => 5
  | _ => 4
theorem zIc_ng (k : Nat) (hk : k < 6) (x y : Int32) : zIc (zNg k) x y = !zIc k x y := by
  have : k = 0 ∨ k = 1 ∨ k = 2 ∨ k = 3 ∨ k = 4 ∨ k = 5 := by omega
  have hl : decide (y ≤ x) = !decide (x < y) := by
    by_cases h : x < y
    · have : ¬ y ≤ x := Int32.not_le.mpr h
      simp [h, this]
    · have : y ≤ x := Int32.not_lt.mp h
      simp [h, this]
  have hl2 : decide (x ≤ y) = !decide (y < x) := by
    by_cases h : y < x
    · have : ¬ x ≤ y := Int32.not_le.mpr h
      simp [h, this]
    · have : x ≤ y := Int32.not_lt.mp h
      simp [h, this]
  rcases this with rfl | rfl | rfl | rfl | rfl | rfl <;> simp [zNg, zIc, hl, hl2]
/-- the jump is taken where the condition holds -/
theorem cT2 {k y z tgt tT tF : Nat} {i : Int → Instr} {off : Int} {A B : zEx} (ro : zRc2 k i) (jA : zJx μ K n 0 a y A) (jB : zJx μ K (n + 1) 0 y z B) (hd : decode μ.1 z = .ok (i off, 3)) (ht : (z : Int) + off = (tgt : Int)) (gT : zGo μ tgt tT) (gF : zGo μ (z + 3) tF) : zJc μ K n a tT tF (zC2 k A B) := by
  intro D N0 n0 s0 rv he p l e R s m args below meth c Q F env h v h' st hE h1 h2 h3
  unfold zC2 at hE
  obtain ⟨⟨v1, g1⟩, e1, hE⟩ := zB hE
  obtain ⟨⟨v2, g2⟩, e2, hE⟩ := zB hE
  obtain ⟨x, e3, hE⟩ := zB hE
  obtain ⟨y', e4, hE⟩ := zB hE
  cases hE
  obtain ⟨a1, a2, a3⟩ := jA F e1 h1 h2 h3
  obtain ⟨b1, b2, b3⟩ := jB F e2 (a2.n0 h1) (a2.s0 h2) (zSum_cons a1 h3)
  obtain ⟨x', rfl⟩ := zTy0 a1
  obtain ⟨y'', rfl⟩ := zTy0 b1
  cases e3
  cases e4
  refine ⟨a2.tr b2, fun hl kk => a3 (b2.tr hl) (b3 hl fun H locs ls r hr ho => ro F.1 F.2.1 hd ht ?_)⟩
  by_cases q : zIc k x y' = true
  · rw [if_pos q] at kk ⊢
    exact gT F kk H locs ls r hr ho
  · rw [if_neg q] at kk ⊢
    exact gF F kk H locs ls r hr ho
/-- the jump is taken where the condition doesn't hold -/
theorem cF2 {k y z tgt tT tF : Nat} {i : Int → Instr} {off : Int} {A B : zEx} (hk : k < 6) (ro : zRc2 (zNg k) i) (jA : zJx μ K n 0 a y A) (jB : zJx μ K (n + 1) 0 y z B) (hd : decode μ.1 z = .ok (i off, 3)) (ht : (z : Int) + off = (tgt : Int)) (gT : zGo μ (z + 3) tT) (gF : zGo μ tgt tF) : zJc μ K n a tT tF (zC2 k A B) := by
  intro D N0 n0 s0 rv he p l e R s m args below meth c Q F env h v h' st hE h1 h2 h3
  unfold zC2 at hE
  obtain ⟨⟨v1, g1⟩, e1, hE⟩ := zB hE
  obtain ⟨⟨v2, g2⟩, e2, hE⟩ := zB hE
  obtain ⟨x, e3, hE⟩ := zB hE
  obtain ⟨y', e4, hE⟩ := zB hE
  cases hE
  obtain ⟨a1, a2, a3⟩ := jA F e1 h1 h2 h3
  obtain ⟨b1, b2, b3⟩ := jB F e2 (a2.n0 h1) (a2.s0 h2) (zSum_cons a1 h3)
  obtain ⟨x', rfl⟩ := zTy0 a1
  obtain ⟨y'', rfl⟩ := zTy0 b1
  cases e3
  cases e4
  refine ⟨a2.tr b2, fun hl kk => a3 (b2.tr hl) (b3 hl fun H locs ls r hr ho => ro F.1 F.2.1 hd ht ?_)⟩
  rw [zIc_ng k hk]
  cases q : zIc k x y' with
  | true =>
    rw [q] at kk
    exact gT F kk H locs ls r hr ho
  | false =>
    rw [q] at kk
    exact gF F kk H locs ls r hr ho
theorem cT1 {k z tgt tT tF : Nat} {i : Int → Instr} {off : Int} {A : zEx} (ro : zRc1 k i) (jA : zJx μ K n 0 a z A) (hd : decode μ.1 z = .ok (i off, 3)) (ht : (z : Int) + off = (tgt : Int)) (gT : zGo μ tgt tT) (gF : zGo μ (z + 3) tF) : zJc μ K n a tT tF (zC1 k A) := by
  intro D N0 n0 s0 rv he p l e R s m args below meth c Q F env h v h' st hE h1 h2 h3
  unfold zC1 at hE
  obtain ⟨⟨v1, g1⟩, e1, hE⟩ := zB hE
  obtain ⟨x, e3, hE⟩ := zB hE
  cases hE
  obtain ⟨a1, a2, a3⟩ := jA F e1 h1 h2 h3
  obtain ⟨x', rfl⟩ := zTy0 a1
  cases e3
  refine ⟨a2, fun hl kk => a3 hl fun H locs ls r hr ho => ro F.1 F.2.1 hd ht ?_⟩
  by_cases q : zIc k x 0 = true
  · rw [if_pos q] at kk ⊢
    exact gT F kk H locs ls r hr ho
  · rw [if_neg q] at kk ⊢
    exact gF F kk H locs ls r hr ho
theorem cF1 {k z tgt tT tF : Nat} {i : Int → Instr} {off : Int} {A : zEx} (hk : k < 6) (ro : zRc1 (zNg k) i) (jA : zJx μ K n 0 a z A) (hd : decode μ.1 z = .ok (i off, 3)) (ht : (z : Int) + off = (tgt : Int)) (gT : zGo μ (z + 3) tT) (gF : zGo μ tgt tF) : zJc μ K n a tT tF (zC1 k A) := by
  intro D N0 n0 s0 rv he p l e R s m args below meth c Q F env h v h' st hE h1 h2 h3
  unfold zC1 at hE
  obtain ⟨⟨v1, g1⟩, e1, hE⟩ := zB hE
  obtain ⟨x, e3, hE⟩ := zB hE
  cases hE
  obtain ⟨a1, a2, a3⟩ := jA F e1 h1 h2 h3
  obtain ⟨x', rfl⟩ := zTy0 a1
  cases e3
  refine ⟨a2, fun hl kk => a3 hl fun H locs ls r hr ho => ro F.1 F.2.1 hd ht ?_⟩
  rw [zIc_ng k hk]
  cases q : zIc k x 0 with
  | true =>
    rw [q] at kk
    exact gT F kk H locs ls r hr ho
  | false =>
    rw [q] at kk
    exact gF F kk H locs ls r hr ho
/-- null: 'ifnull' jumps where it is null -/
theorem cNul {z tgt tT tF : Nat} {off : Int} {A : zEx} (jA : zJx μ K n 3 a z A) (hd : decode μ.1 z = .ok (.ifnull off, 3)) (ht : (z : Int) + off = (tgt : Int)) (gT : zGo μ tgt tT) (gF : zGo μ (z + 3) tF) : zJc μ K n a tT tF (zCn A) := by
  intro D N0 n0 s0 rv he p l e R s m args below meth c Q F env h v h' st hE h1 h2 h3
  unfold zCn at hE
  obtain ⟨⟨v1, g1⟩, e1, hE⟩ := zB hE
  obtain ⟨x, e3, hE⟩ := zB hE
  cases hE
  obtain ⟨a1, a2, a3⟩ := jA F e1 h1 h2 h3
  refine ⟨a2, fun hl kk => a3 hl fun H locs ls r hr ho => ?_⟩
  rcases zTy3 a1 with rfl | ⟨x', rfl⟩
  · cases e3
    exact lv_ifnullN F.1 F.2.1 hd ht (gT F kk H locs ls r hr ho)
  · cases e3
    exact lv_ifnull F.1 F.2.1 hd (gF F kk H locs ls r hr ho)
/-- null: 'ifnonnull' jumps where it isn't -/
theorem cNnn {z tgt tT tF : Nat} {off : Int} {A : zEx} (jA : zJx μ K n 3 a z A) (hd : decode μ.1 z = .ok (.ifnonnull off, 3)) (ht : (z : Int) + off = (tgt : Int)) (gT : zGo μ (z + 3) tT) (gF : zGo μ tgt tF) : zJc μ K n a tT tF (zCn A) := by
  intro D N0 n0 s0 rv he p l e R s m args below meth c Q F env h v h' st hE h1 h2 h3
  unfold zCn at hE
  obtain ⟨⟨v1, g1⟩, e1, hE⟩ := zB hE
  obtain ⟨x, e3, hE⟩ := zB hE
  cases hE
  obtain ⟨a1, a2, a3⟩ := jA F e1 h1 h2 h3
  refine ⟨a2, fun hl kk => a3 hl fun H locs ls r hr ho => ?_⟩
  rcases zTy3 a1 with rfl | ⟨x', rfl⟩
  · cases e3
    exact lv_ifnonnullN F.1 F.2.1 hd (gT F kk H locs ls r hr ho)
  · cases e3
    exact lv_ifnonnull F.1 F.2.1 hd ht (gF F kk H locs ls r hr ho)
theorem cNot {tT tF : Nat} {A : zCx} (j : zJc μ K n a tT tF A) : zJc μ K n a tF tT (zNot A) := by
  intro D N0 n0 s0 rv he p l e R s m args below meth c Q F env h v h' st hE h1 h2 h3
  unfold zNot at hE
  obtain ⟨⟨v1, g1⟩, e1, hE⟩ := zB hE
  cases hE
  obtain ⟨a2, a3⟩ := j F e1 h1 h2 h3
  refine ⟨a2, fun hl kk => a3 hl ?_⟩
  cases v1 <;> exact kk
theorem cAnd {y tT tF : Nat} {A B : zCx} (jA : zJc μ K n a y tF A) (jB : zJc μ K n y tT tF B) : zJc μ K n a tT tF (zAnd A B) := by
  intro D N0 n0 s0 rv he p l e R s m args below meth c Q F env h v h' st hE h1 h2 h3
  unfold zAnd at hE
  obtain ⟨⟨v1, g1⟩, e1, hE⟩ := zB hE
  obtain ⟨a2, a3⟩ := jA F e1 h1 h2 h3
  cases v1 with
  | true =>
    obtain ⟨b2, b3⟩ := jB F hE (a2.n0 h1) (a2.s0 h2) h3
    exact ⟨a2.tr b2, fun hl kk => a3 (b2.tr hl) (b3 hl kk)⟩
  | false =>
    cases hE
    exact ⟨a2, fun hl kk => a3 hl kk⟩
theorem cOr {y tT tF : Nat} {A B : zCx} (jA : zJc μ K n a tT y A) (jB : zJc μ K n y tT tF B) : zJc μ K n a tT tF (zOr A B) := by
  intro D N0 n0 s0 rv he p l e R s m args below meth c Q F env h v h' st hE h1 h2 h3
  unfold zOr at hE
  obtain ⟨⟨v1, g1⟩, e1, hE⟩ := zB hE
  obtain ⟨a2, a3⟩ := jA F e1 h1 h2 h3
  cases v1 with
  | false =>
    obtain ⟨b2, b3⟩ := jB F hE (a2.n0 h1) (a2.s0 h2) h3
    exact ⟨a2.tr b2, fun hl kk => a3 (b2.tr hl) (b3 hl kk)⟩
  | true =>
    cases hE
    exact ⟨a2, fun hl kk => a3 hl kk⟩
theorem cIte {x y tT tF : Nat} {C A B : zCx} (jC : zJc μ K n a x y C) (jA : zJc μ K n x tT tF A) (jB : zJc μ K n y tT tF B) : zJc μ K n a tT tF (zCi C A B) := by
  intro D N0 n0 s0 rv he p l e R s m args below meth c Q F env h v h' st hE h1 h2 h3
  unfold zCi at hE
  obtain ⟨⟨v1, g1⟩, e1, hE⟩ := zB hE
  obtain ⟨a2, a3⟩ := jC F e1 h1 h2 h3
  cases v1 with
  | true =>
    obtain ⟨b2, b3⟩ := jA F hE (a2.n0 h1) (a2.s0 h2) h3
    exact ⟨a2.tr b2, fun hl kk => a3 (b2.tr hl) (b3 hl kk)⟩
  | false =>
    obtain ⟨b2, b3⟩ := jB F hE (a2.n0 h1) (a2.s0 h2) h3
    exact ⟨a2.tr b2, fun hl kk => a3 (b2.tr hl) (b3 hl kk)⟩
/-- a choice between two expressions -/
theorem xIte {x y x1 y1 t : Nat} {C : zCx} {A B : zEx} (jC : zJc μ K n a x y C) (jA : zJx μ K n t x x1 A) (g1 : zGo μ x1 b) (jB : zJx μ K n t y y1 B) (g2 : zGo μ y1 b) : zJx μ K n t a b (zIte C A B) := by
  intro D N0 n0 s0 rv he p l e R s m args below meth c Q F env h v h' st hE h1 h2 h3
  unfold zIte at hE
  obtain ⟨⟨v1, g1'⟩, e1, hE⟩ := zB hE
  obtain ⟨a2, a3⟩ := jC F e1 h1 h2 h3
  cases v1 with
  | true =>
    obtain ⟨b1, b2, b3⟩ := jA F hE (a2.n0 h1) (a2.s0 h2) h3
    exact ⟨b1, a2.tr b2, fun hl kk => a3 (b2.tr hl) (b3 hl (g1 F kk))⟩
  | false =>
    obtain ⟨b1, b2, b3⟩ := jB F hE (a2.n0 h1) (a2.s0 h2) h3
    exact ⟨b1, a2.tr b2, fun hl kk => a3 (b2.tr hl) (b3 hl (g2 F kk))⟩
/-- jumps behind an expression -/
theorem xGo {x t : Nat} {A : zEx} (j : zJx μ K n t a x A) (g : zGo μ x b) : zJx μ K n t a b A := by
  intro D N0 n0 s0 rv he p l e R s m args below meth c Q F env h v h' st hE h1 h2 h3
  obtain ⟨a1, a2, a3⟩ := j F hE h1 h2 h3
  exact ⟨a1, a2, fun hl kk => a3 hl (g F kk)⟩
/-- an answer that is a condition's -/
theorem xTy {t t' : Nat} {A : zEx} (j : zJx μ K n t a b A) (ht : ∀ v, zTy t v = true → zTy t' v = true) : zJx μ K n t' a b A := by
  intro D N0 n0 s0 rv he p l e R s m args below meth c Q F env h v h' st hE h1 h2 h3
  obtain ⟨a1, a2, a3⟩ := j F hE h1 h2 h3
  exact ⟨ht _ a1, a2, a3⟩
theorem zFld_at {h : zHp} {x ci k : Nat} {v : Value} (hf : zFld h x ci k = some v) : ∃ fs, h.1 x = some (ci, fs) ∧ fs[k]? = some v := by
  unfold zFld at hf
  obtain ⟨o, e1, hf⟩ := zB hf
  split at hf
  next q => exact ⟨o.2, by rw [e1, ← q], hf⟩
  next => cases hf
theorem zArr_at {h : zHp} {x t : Nat} {vs : List Value} (hf : zArr h x t = some vs) : h.1 x = some (t, vs) := by
  unfold zArr at hf
  obtain ⟨o, e1, hf⟩ := zB hf
  split at hf
  next q => cases hf; rw [e1, ← q]
  next => cases hf
/-- an object of class ci as the kit has it -/
theorem zRel.obj {D : va_G} {U : State} {N0 : Nat} {h : zHp} {H : Heap} (r : zRel D U N0 h H) {x ci : Nat} {fs : List Value} (hx : h.1 x = some (ci, fs)) (hci : ci < 64) {C : String} {T : u_T} {N : Nat} (hc : vwCl[ci]? = some (C, T, N)) : N0 ≤ x ∧ fs.length = N ∧ va_P D vwCl [(x, .inr (ci, fs))] H := by
  obtain ⟨h1, h2⟩ := r.2.2 x _ hx
  obtain ⟨q, g1, g2, g3⟩ := h2.1 hci
  have : q = (C, T, N) := Option.some.inj (g1.symm.trans hc)
  subst this
  refine ⟨h1 (Nat.lt_trans hci (by decide)), g2, fun k y hy => ?_⟩
  have hk : k = 0 := by
    have := (List.getElem?_eq_some_iff.mp hy).1
    simp at this
    exact this
  subst hk
  simp only [List.getElem?_cons_zero, Option.some.injEq] at hy
  subst hy
  exact ⟨_, g1, g3⟩
/-- a field that is read -/
theorem xGf {ty ci k x index N : Nat} {C : String} {T : u_T} {A : zEx} (hin : ∀ w ∈ u_ws C T N, w ∈ zTbl) (hci : ci < 64) (hc : vwCl[ci]? = some (C, T, N)) (hk : k < N) (hw : Cond.fieldLink μ.2.2.1 index C (T k).2.1 (T k).2.2.1 ∈ zTbl) (hT : (T k).1 = C) (jA : zJx μ K n 3 a x A) (hd : decode μ.1 x = .ok (.getfield index, 3)) (hb : x + 3 = b) : zJx μ K n ty a b (zGf ty ci k A) := by
  intro D N0 n0 s0 rv he p l e R s m args below meth c Q F env h v h' st hE h1 h2 h3
  unfold zGf at hE
  obtain ⟨⟨v1, g1⟩, e1, hE⟩ := zB hE
  obtain ⟨o, e3, hE⟩ := zB hE
  obtain ⟨w, e4, hE⟩ := zB hE
  split at hE
  next ht =>
    cases hE
    subst hb
    obtain ⟨a1, a2, a3⟩ := jA F e1 h1 h2 h3
    refine ⟨ht, a2, fun hl kk => a3 hl fun H locs ls r hr ho => ?_⟩
    cases v1 with
    | ref o' =>
      cases e3
      obtain ⟨fs, f1, f2⟩ := zFld_at e4
      obtain ⟨-, -, hP⟩ := r.obj f1 hci hc
      exact va_get F.1 F.2.1 (ref := C) F.2.2.2.2.1 hin F.2.2.2.1 F.2.2.2.2.2.1 hP 0 rfl hc k hk (F.2.2.2.2.1 _ hw) (fun y hy => by rw [← hT]; rw [hT]; rw [hT] at hy; exact hy) f2 hd (kk H locs ls r hr ho)
    | _ => cases e3
  next => cases hE
end CX
