/-! WHICH STEP IS BEST: a strict order of all steps there are -/
section
variable {m : Nat} {s : Nat → Int → Int} {r : zHp}
theorem wS_of {Q : zOut → zHp → Prop} {S : zSt} {env : zEnv} {h : zHp} {u : zU Q} {o : zOut} {h' : zHp} (e : S env h = some (o, h')) (q : Q o h') : wS Q S env h u := ⟨o, h', e, q⟩
theorem ordI_anti {a b c d : Int} : ordI c d a b = - ordI a b c d := by
  unfold ordI
  rw [show c * b = b * c from Int.mul_comm _ _, show a * d = d * a from Int.mul_comm _ _]
  split <;> split <;> (try split) <;> (try split) <;> omega
theorem ordI_le {a b c d : Int} : ordI a b c d ≤ 0 ↔ a * d ≤ c * b := by unfold ordI; split <;> (try split) <;> omega
theorem ordI_0 {a b c d : Int} : ordI a b c d = 0 ↔ a * d = c * b := by unfold ordI; split <;> (try split) <;> omega
theorem fr_le_trans {a b c d e f : Int} (b0 : 0 < b) (d0 : 0 < d) (f0 : 0 < f) (h1 : a * d ≤ c * b) (h2 : c * f ≤ e * d) : a * f ≤ e * b := by
  have h3 : a * d * f ≤ c * b * f := Int.mul_le_mul_of_nonneg_right h1 (by omega)
  have h4 : c * f * b ≤ e * d * b := Int.mul_le_mul_of_nonneg_right h2 (by omega)
  have e1 : c * b * f = c * f * b := by rw [Int.mul_assoc, Int.mul_assoc, Int.mul_comm b]
  have e2 : a * d * f = a * f * d := by rw [Int.mul_assoc, Int.mul_assoc, Int.mul_comm d]
  have e3 : e * d * b = e * b * d := by rw [Int.mul_assoc, Int.mul_assoc, Int.mul_comm d]
  exact Int.le_of_mul_le_mul_right (by omega) d0
theorem msS_anti {k e k2 e2 : Int} : msS s k2 e2 k e = - msS s k e k2 e2 := ordI_anti
abbrev cR (s : Nat → Int → Int) (k e : Int) : Prop := (0 ≤ k ∧ k < s 0 10) ∧ (-1 ≤ e ∧ e < s 0 10)
theorem msS_trans (ok : sOK s) {k e k2 e2 k3 e3 : Int} (c1 : cR s k e) (c2 : cR s k2 e2) (c3 : cR s k3 e3) (h1 : msS s k e k2 e2 ≤ 0) (h2 : msS s k2 e2 k3 e3 ≤ 0) : msS s k e k3 e3 ≤ 0 ∧ (msS s k e k3 e3 = 0 → msS s k e k2 e2 = 0 ∧ msS s k2 e2 k3 e3 = 0) := by
  have d1 := dnS_b ok c1.1.1 c1.1.2 c1.2.1 c1.2.2
  have d2 := dnS_b ok c2.1.1 c2.1.2 c2.2.1 c2.2.2
  have d3 := dnS_b ok c3.1.1 c3.1.2 c3.2.1 c3.2.2
  unfold msS at *
  rw [ordI_le] at *
  have h3 := fr_le_trans (by omega) (by omega) (by omega) h1 h2
  refine ⟨h3, fun h4 => ?_⟩
  rw [ordI_0] at h4
  rw [ordI_0, ordI_0]
  have h5 := fr_le_trans (by omega) (by omega) (by omega) h2 (Int.le_of_eq h4.symm)
  have h6 := fr_le_trans (by omega) (by omega) (by omega) (Int.le_of_eq h4.symm) h1
  omega
theorem ahS_tot {k e : Int} (h : k ≠ e) : ahS s k e ∨ ahS s e k := by simp only [ahS, ahd]; omega
theorem ahS_asym {k e : Int} (h : ahS s k e) : ¬ ahS s e k := by simp only [ahS, ahd] at *; omega
theorem ahS_trans {k e f : Int} (h : ahS s k e) (h2 : ahS s e f) : ahS s k f := by simp only [ahS, ahd] at *; omega
theorem lx_tot {x y k k2 e e2 : Int} {p p' q q' : Prop} (h : ¬ (k = k2 ∧ e = e2)) (hx : y = -x) (h2 : k ≠ k2 → p ∨ p') (h3 : e ≠ e2 → q ∨ q') : (x < 0 ∨ (x = 0 ∧ ((e = -1 ∧ e2 ≠ -1) ∨ ((e = -1 ↔ e2 = -1) ∧ ((k ≠ k2 ∧ p) ∨ (k = k2 ∧ e ≠ -1 ∧ q)))))) ∨ (y < 0 ∨ (y = 0 ∧ ((e2 = -1 ∧ e ≠ -1) ∨ ((e2 = -1 ↔ e = -1) ∧ ((k2 ≠ k ∧ p') ∨ (k2 = k ∧ e2 ≠ -1 ∧ q')))))) := by
  by_cases c0 : x < 0
  · exact Or.inl (Or.inl c0)
  · by_cases c1 : x = 0
    · by_cases c2 : k = k2
      · by_cases c3 : e = -1
        · exact Or.inl (Or.inr ⟨c1, Or.inl ⟨c3, by omega⟩⟩)
        · by_cases c4 : e2 = -1
          · exact Or.inr (Or.inr ⟨by omega, Or.inl ⟨c4, c3⟩⟩)
          · rcases h3 (by omega) with q | q
            · exact Or.inl (Or.inr ⟨c1, Or.inr ⟨by omega, Or.inr ⟨c2, c3, q⟩⟩⟩)
            · exact Or.inr (Or.inr ⟨by omega, Or.inr ⟨by omega, Or.inr ⟨c2.symm, c4, q⟩⟩⟩)
      · by_cases c3 : e = -1
        · by_cases c4 : e2 = -1
          · rcases h2 c2 with q | q
            · exact Or.inl (Or.inr ⟨c1, Or.inr ⟨by omega, Or.inl ⟨c2, q⟩⟩⟩)
            · exact Or.inr (Or.inr ⟨by omega, Or.inr ⟨by omega, Or.inl ⟨fun z => c2 z.symm, q⟩⟩⟩)
          · exact Or.inl (Or.inr ⟨c1, Or.inl ⟨c3, c4⟩⟩)
        · by_cases c4 : e2 = -1
          · exact Or.inr (Or.inr ⟨by omega, Or.inl ⟨c4, c3⟩⟩)
          · rcases h2 c2 with q | q
            · exact Or.inl (Or.inr ⟨c1, Or.inr ⟨by omega, Or.inl ⟨c2, q⟩⟩⟩)
            · exact Or.inr (Or.inr ⟨by omega, Or.inr ⟨by omega, Or.inl ⟨fun z => c2 z.symm, q⟩⟩⟩)
    · exact Or.inr (Or.inl (by omega))
theorem soS_tot {k e k2 e2 : Int} (h : ¬ (k = k2 ∧ e = e2)) : soS s k e k2 e2 ∨ soS s k2 e2 k e := lx_tot h msS_anti ahS_tot ahS_tot
theorem soS_asym {k e k2 e2 : Int} (h : soS s k e k2 e2) : ¬ soS s k2 e2 k e := by
  have h1 := @msS_anti s k e k2 e2
  have h2 := @ahS_asym s k k2
  have h3 := @ahS_asym s e e2
  grind
theorem lx_trans {x y z k k2 k3 e e2 e3 : Int} {p q : Int → Int → Prop} (a1 : x ≤ 0 → y ≤ 0 → z ≤ 0 ∧ (z = 0 → x = 0 ∧ y = 0)) (a2 : ∀ {a b c}, p a b → p b c → p a c) (a3 : ∀ {a b c}, q a b → q b c → q a c) (a4 : ∀ {a b}, p a b → ¬ p b a) (h1 : (x < 0 ∨ (x = 0 ∧ ((e = -1 ∧ e2 ≠ -1) ∨ ((e = -1 ↔ e2 = -1) ∧ ((k ≠ k2 ∧ p k k2) ∨ (k = k2 ∧ e ≠ -1 ∧ q e e2))))))) (h2 : (y < 0 ∨ (y = 0 ∧ ((e2 = -1 ∧ e3 ≠ -1) ∨ ((e2 = -1 ↔ e3 = -1) ∧ ((k2 ≠ k3 ∧ p k2 k3) ∨ (k2 = k3 ∧ e2 ≠ -1 ∧ q e2 e3))))))) : (z < 0 ∨ (z = 0 ∧ ((e = -1 ∧ e3 ≠ -1) ∨ ((e = -1 ↔ e3 = -1) ∧ ((k ≠ k3 ∧ p k k3) ∨ (k = k3 ∧ e ≠ -1 ∧ q e e3)))))) := by
  have b1 := a1 (by omega) (by omega)
  rcases h1 with h1 | ⟨h1, h1'⟩
  · exact Or.inl (by omega)
  · rcases h2 with h2 | ⟨h2, h2'⟩
    · exact Or.inl (by omega)
    · by_cases c : z < 0
      · exact Or.inl c
      · refine Or.inr ⟨by omega, ?_⟩
        rcases h1' with ⟨c1, c2⟩ | ⟨c1, h1'⟩
        · rcases h2' with ⟨d1, d2⟩ | ⟨d1, h2'⟩
          · exact absurd d1 c2
          · exact Or.inl ⟨c1, by omega⟩
        · rcases h2' with ⟨d1, d2⟩ | ⟨d1, h2'⟩
          · exact Or.inl ⟨by omega, d2⟩
          · refine Or.inr ⟨by omega, ?_⟩
            rcases h1' with ⟨f1, f2⟩ | ⟨f1, f2, f3⟩
            · rcases h2' with ⟨g1, g2⟩ | ⟨g1, g2, g3⟩
              · exact Or.inl ⟨fun w => by subst w; exact a4 f2 g2, a2 f2 g2⟩
              · subst g1
                exact Or.inl ⟨f1, f2⟩
            · subst f1
              rcases h2' with ⟨g1, g2⟩ | ⟨g1, g2, g3⟩
              · exact Or.inl ⟨g1, g2⟩
              · exact Or.inr ⟨g1, f2, a3 f3 g3⟩
theorem soS_trans (ok : sOK s) {k e k2 e2 k3 e3 : Int} (c1 : cR s k e) (c2 : cR s k2 e2) (c3 : cR s k3 e3) (h1 : soS s k e k2 e2) (h2 : soS s k2 e2 k3 e3) : soS s k e k3 e3 :=
  lx_trans (p := fun a b => ahS s a b) (q := fun a b => ahS s a b) (msS_trans ok c1 c2 c3) ahS_trans ahS_trans ahS_asym h1 h2
/-- all steps there are; of those before a place the best *-/
abbrev cnd (s : Nat → Int → Int) (k e : Int) : Prop := (0 ≤ k ∧ k < s 0 10 ∧ s 8 k = 1) ∧ (e = -1 ∨ ((0 ≤ e ∧ e < s 0 10 ∧ s 8 e = 1) ∧ e ≠ k ∧ ahS s k e))
def bst (s : Nat → Int → Int) (P : Int → Int → Prop) (b w : Int) : Prop := (b = -1 ∧ w = -1 ∧ ∀ k e, cnd s k e → ¬ P k e) ∨ (cnd s b w ∧ P b w ∧ ∀ k e, cnd s k e → P k e → ¬ (k = b ∧ e = w) → soS s b w k e)
theorem cnd_R {k e : Int} (h : cnd s k e) : cR s k e := by
  obtain ⟨h1, h2 | h2⟩ := h
  · exact ⟨⟨h1.1, h1.2.1⟩, by omega⟩
  · exact ⟨⟨h1.1, h1.2.1⟩, by omega⟩
theorem bst_no {P P' : Int → Int → Prop} {b w : Int} (h : bst s P b w) (hp : ∀ k e, cnd s k e → (P' k e ↔ P k e)) : bst s P' b w := by
  rcases h with ⟨h1, h2, h3⟩ | ⟨h1, h2, h3⟩
  · exact Or.inl ⟨h1, h2, fun k e hc hq => h3 k e hc ((hp k e hc).mp hq)⟩
  · exact Or.inr ⟨h1, (hp b w h1).mpr h2, fun k e hc hq => h3 k e hc ((hp k e hc).mp hq)⟩
theorem bst_skip {P P' : Int → Int → Prop} {b w k e : Int} (h : bst s P b w) (hn : ¬ cnd s k e) (hp : ∀ a c, cnd s a c → (P' a c ↔ P a c ∨ (a = k ∧ c = e))) : bst s P' b w := bst_no h fun a c hac => by
  rw [hp a c hac]
  refine ⟨fun q => ?_, Or.inl⟩
  rcases q with q | ⟨q1, q2⟩
  · exact q
  · subst q1
    subst q2
    exact absurd hac hn
theorem bst_new {P P' : Int → Int → Prop} {b w k e : Int} (ok : sOK s) (h : bst s P b w) (hc : cnd s k e) (hp : ∀ a c, cnd s a c → (P' a c ↔ P a c ∨ (a = k ∧ c = e))) (hs : b = -1 ∨ soS s k e b w) : bst s P' k e := by
  refine Or.inr ⟨hc, (hp k e hc).mpr (Or.inr ⟨rfl, rfl⟩), fun a c hac hq hn => ?_⟩
  rcases (hp a c hac).mp hq with q | q
  · rcases h with ⟨h1, h2, h3⟩ | ⟨h1, h2, h3⟩
    · exact absurd q (h3 a c hac)
    · have hs' : soS s k e b w := by
        rcases hs with hs | hs
        · have := h1.1.1; omega
        · exact hs
      by_cases z : a = b ∧ c = w
      · rw [z.1, z.2]; exact hs'
      · exact soS_trans ok (cnd_R hc) (cnd_R h1) (cnd_R hac) hs' (h3 a c hac q z)
  · exact absurd q hn
theorem bst_old {P P' : Int → Int → Prop} {b w k e : Int} (h : bst s P b w) (hb : b ≠ -1) (hp : ∀ a c, cnd s a c → (P' a c ↔ P a c ∨ (a = k ∧ c = e))) (hP : ¬ P k e) (hs : ¬ soS s k e b w) : bst s P' b w := by
  rcases h with ⟨h1, h2, h3⟩ | ⟨h1, h2, h3⟩
  · exact absurd h1 hb
  · refine Or.inr ⟨h1, (hp b w h1).mpr (Or.inl h2), fun a c hac hq hn => ?_⟩
    rcases (hp a c hac).mp hq with q | q
    · exact h3 a c hac q hn
    · rw [q.1, q.2] at hn ⊢
      rcases soS_tot hn with z | z
      · exact absurd z hs
      · exact z
/-- the best of all is one -/
theorem bst_one {b w b2 w2 : Int} (h : bst s (fun _ _ => True) b w) (h2 : bst s (fun _ _ => True) b2 w2) : b = b2 ∧ w = w2 := by
  rcases h with ⟨x1, x2, x3⟩ | ⟨x1, -, x3⟩
  · rcases h2 with ⟨y1, y2, y3⟩ | ⟨y1, -, y3⟩
    · omega
    · exact absurd trivial (x3 _ _ y1)
  · rcases h2 with ⟨y1, y2, y3⟩ | ⟨y1, -, y3⟩
    · exact absurd trivial (y3 _ _ x1)
    · by_cases z : b2 = b ∧ w2 = w
      · omega
      · exact absurd (x3 _ _ y1 trivial z) (soS_asym (y3 _ _ x1 trivial (by omega)))
end
