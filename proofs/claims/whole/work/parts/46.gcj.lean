/-! THE GATHERER: one step more (knots, steps behind a join) -/
section
variable {B n : Nat} {gi : Nat → Int} {ga : Nat → Int → Value} {r : zHp} {s gh : Nat → Int → Int} {L : Int → BitVec 64}
theorem XI_lt {n t : Int} (x : XI n t s gh L) (g : GI n t s) {j : Int} (j0 : 0 ≤ j) (j1 : j < s 0 10) : s 6 j < s 0 10 ∧ s 7 j < s 0 10 ∧ gh 1 j < s 0 10 := by
  obtain ⟨a, b, c, d, e, f, gg⟩ := x
  have fl := g.2.2.2.2.2.1 j j0 j1
  have h1 : gh 1 j < s 0 10 := by
    have cj := c j j0 j1
    rcases fl with q | q
    · obtain ⟨c1, c2, c3⟩ := cj.2 q
      rw [c3]
      rcases (d _ c1.1 c1.2).2 with z | z
      · omega
      · exact z.2.2.1
    · have := cj.1 q; omega
  by_cases q : j < n
  · have := a j j0 q
    omega
  · have := b j (by omega) j1
    omega
theorem KN_join {n t k e : Int} {ka ba : Int → Nat} (g : GI n t s) (x : XI n t s gh L) (h14 : s 0 14 = 0 ∨ s 0 14 = 1) (h : KN B r s gh L ka ba) (ki : KI (s 0 10) ka) (ck : 0 ≤ k ∧ k < s 0 10) (ce : 0 ≤ e ∧ e < s 0 10) (hke : k ≠ e) (hr : B + 8 ≤ r.2.1) : KN B (rJ r s gh L ka ba k e t) (sStep s k e) (ghJ gh t (s 0 10) k e) (up L (s 0 10) (L k ||| L e)) (up ka (s 0 10) (r.2.1 + 1)) (up ba (s 0 10) r.2.1) ∧ KI (sStep s k e 0 10) (up ka (s 0 10) (r.2.1 + 1)) := by
  obtain ⟨f3, f4, f5, f6, f7, f8, f9, f10, f0⟩ := sJ_all (s := s) (k := k) (e := e) (by omega) h14
  obtain ⟨g0, g1, g2, g3⟩ := @gJ_all gh t (s 0 10) k e
  have e2 := (rJ_2 (r := r) (s := s) (gh := gh) (L := L) (ka := ka) (ba := ba) (k := k) (e := e) (t := t)).1
  have hh0 : sStep s k e 0 10 = s 0 10 + 1 := by rw [f0]; simp
  obtain ⟨y1, y2, y3, y4, y5⟩ := h k ck.1 ck.2
  obtain ⟨z1, z2, z3, z4, z5⟩ := h e ce.1 ce.2
  have nke : ka k ≠ ka e := fun q => hke (ki k e ck.1 ck.2 ce.1 ce.2 q)
  obtain ⟨a1, a2, a3, a4, a5⟩ := rJ_at (r := r) (s := s) (gh := gh) (L := L) (ka := ka) (ba := ba) (k := k) (e := e) (t := t) y2.2 z2.2 nke
  refine ⟨fun j j0 j1 => ?_, fun p q p0 p1 q0 q1 hpq => ?_⟩
  · rw [hh0] at j1
    by_cases c : j = s 0 10
    · subst c
      rw [up_s, up_s, a4, a3, e2]
      refine ⟨?_, by omega, ?_, Or.inr hr, by omega⟩
      · unfold kV
        have ne1 : ¬ s 0 10 = e := by omega
        have ne2 : ¬ s 0 10 = k := by omega
        rw [f6, f7, g1, g2, g3, up_s, up_s]
        simp only [ne1, ne2, if_true, if_false]
        rw [rN_up (by omega), rN_up (by omega)]
        simp only [rN]
        rw [if_neg (show ¬ k = -1 by omega), if_neg (show ¬ e = -1 by omega), if_pos trivial]
      · unfold bV
        rw [f3, f4, f5, if_pos rfl, if_pos rfl, if_pos rfl]
    · obtain ⟨x1, x2, x3, x4, x5⟩ := h j j0 (by omega)
      obtain ⟨l6, l7, l1⟩ := XI_lt x g j0 (show j < s 0 10 by omega)
      have n1 : ba j ≠ ka k := fun q => by rw [q, y1] at x3; cases x3
      have n2 : ba j ≠ ka e := fun q => by rw [q, z1] at x3; cases x3
      rw [up_n c, up_n c, e2]
      refine ⟨?_, by omega, ?_, x4, by omega⟩
      · have base : sStep s k e 6 j = s 6 j ∧ sStep s k e 7 j = s 7 j ∧ ghJ gh t (s 0 10) k e 2 j = gh 2 j := by rw [f6, f7, g2, if_neg c, if_neg c, if_neg c]; exact ⟨rfl, rfl, rfl⟩
        by_cases d : j = k
        · subst d
          rw [a1]
          unfold kV
          rw [base.1, base.2.1, base.2.2, g1, g3, if_neg hke, if_pos rfl, if_neg hke, if_pos rfl, up_n c, up_n c, rN_up (by omega), rN_up (by omega)]
          simp only [rN, up_s]
          rw [if_neg (show ¬ s 0 10 = -1 by omega)]
        · by_cases d2 : j = e
          · subst d2
            rw [a2]
            unfold kV
            rw [base.1, base.2.1, base.2.2, g1, g3, if_pos rfl, if_pos rfl, up_n c, up_n c, rN_up (by omega), rN_up (by omega)]
            simp only [rN, up_s]
            rw [if_neg (show ¬ s 0 10 = -1 by omega)]
          · rw [rJ_o x2.2 (fun q => d (ki j k j0 (by omega) ck.1 ck.2 q)) (fun q => d2 (ki j e j0 (by omega) ce.1 ce.2 q)), x1]
            exact congrArg (fun q => some (4, q)) (kV_ext base.1 base.2.1 (by rw [g1, if_neg d2, if_neg d, if_neg c]) base.2.2 (by rw [g3, if_neg d2, if_neg d, if_neg c]) (up_n c) (up_n c) (rN_up (by omega)) (rN_up (by omega)) (rN_up (by omega))).symm
      · rw [rJ_o x5 n1 n2, x3]
        unfold bV
        rw [f3, f4, f5, if_neg c, if_neg c, if_neg c]
  · rw [hh0] at p1 q1
    by_cases c : p = s 0 10
    · by_cases d : q = s 0 10
      · omega
      · rw [c, up_s, up_n d] at hpq
        have := (h q q0 (by omega)).2.1
        omega
    · by_cases d : q = s 0 10
      · rw [d, up_s, up_n c] at hpq
        have := (h p p0 (by omega)).2.1
        omega
      · rw [up_n c, up_n d] at hpq
        exact ki p q p0 (by omega) q0 (by omega) hpq
theorem SN_join {n t k e : Int} {ka ba sa : Int → Nat} (g : GI n t s) (x : XI n t s gh L) (h14 : s 0 14 = 0 ∨ s 0 14 = 1) (h : KN B r s gh L ka ba) (ki : KI (s 0 10) ka) (hs : SN B r s gh t sa) (ck : 0 ≤ k ∧ k < s 0 10) (ce : 0 ≤ e ∧ e < s 0 10) (hke : k ≠ e) (hr : B + 8 ≤ r.2.1) : SN B (rJ r s gh L ka ba k e t) (sStep s k e) (ghJ gh t (s 0 10) k e) (t + 1) (up sa t (r.2.1 + 2)) := by
  obtain ⟨f3, f4, f5, f6, f7, f8, f9, f10, f0⟩ := sJ_all (s := s) (k := k) (e := e) (by omega) h14
  obtain ⟨g0, g1, g2, g3⟩ := @gJ_all gh t (s 0 10) k e
  have e2 := (rJ_2 (r := r) (s := s) (gh := gh) (L := L) (ka := ka) (ba := ba) (k := k) (e := e) (t := t)).1
  obtain ⟨y1, y2, y3, y4, y5⟩ := h k ck.1 ck.2
  obtain ⟨z1, z2, z3, z4, z5⟩ := h e ce.1 ce.2
  have nke : ka k ≠ ka e := fun q => hke (ki k e ck.1 ck.2 ce.1 ce.2 q)
  obtain ⟨a1, a2, a3, a4, a5⟩ := rJ_at (r := r) (s := s) (gh := gh) (L := L) (ka := ka) (ba := ba) (k := k) (e := e) (t := t) y2.2 z2.2 nke
  have ht : s 0 11 = t := g.2.1
  rw [ht] at f9 f10
  have m : ∀ a b, a < s 0 10 → b < s 0 10 → upS (sStep s k e) a b = upS s a b ∧ dnS (sStep s k e) a b = dnS s a b := fun a b ha hb => upS_ext (by rw [f0]; simp) (by rw [f0]; simp) ⟨by rw [f3, if_neg (by omega)], by rw [f4, if_neg (by omega)], by rw [f5, if_neg (by omega)]⟩ (Or.inr ⟨by rw [f3, if_neg (by omega)], by rw [f4, if_neg (by omega)], by rw [f5, if_neg (by omega)]⟩)
  intro u u0 u1
  by_cases c : u = t
  · subst c
    rw [up_s, a5, e2]
    refine ⟨?_, by omega, by omega⟩
    unfold sV
    rw [f9, f10, g0, if_pos rfl, if_pos rfl, if_pos rfl, (m _ _ ck.2 ce.2).1, (m _ _ ck.2 ce.2).2]
  · rw [up_n c, e2]
    obtain ⟨w1, w2, w3⟩ := hs u u0 (by omega)
    refine ⟨?_, w2, by omega⟩
    have nk : sa u ≠ ka k := fun q => by rw [← q, w1] at y1; cases y1
    have ne : sa u ≠ ka e := fun q => by rw [← q, w1] at z1; cases z1
    rw [rJ_o w3 nk ne, w1]
    have dd := x.2.2.2.1 u u0 (by omega)
    have l1 : s 9 u < s 0 10 := dd.1.1.2
    have l2 : s 10 u < s 0 10 := by
      rcases dd.2 with q | q
      · omega
      · exact q.1.1.2
    exact congrArg (fun q => some (6, q)) (sV_ext (by rw [f9, if_neg c]) (by rw [f10, if_neg c]) (by rw [g0, if_neg c]) (m _ _ l1 l2)).symm
/-- jets stay when two are joined -/
theorem JT_join {n t k e jc : Int} {J : Int → Int} (g : GI n t s) (x : XI n t s gh L) (h14 : s 0 14 = 0 ∨ s 0 14 = 1) (h : JT s gh jc J) (ck : 0 ≤ k ∧ k < s 0 10) (ce : 0 ≤ e ∧ e < s 0 10) (hke : k ≠ e) (k8 : s 8 k = 1) (e8 : s 8 e = 1) : JT (sStep s k e) (ghJ gh t (s 0 10) k e) jc J := by
  obtain ⟨f3, f4, f5, f6, f7, f8, f9, f10, f0⟩ := sJ_all (s := s) (k := k) (e := e) (by omega) h14
  obtain ⟨g0, g1, g2, g3⟩ := @gJ_all gh t (s 0 10) k e
  have hh0 : sStep s k e 0 10 = s 0 10 + 1 := by rw [f0]; simp
  refine ⟨fun i a b => ?_, fun i j a b c => ?_, fun q a b c d => ?_⟩
  · obtain ⟨x1, x2, x3⟩ := h.1 i a b
    have nk : J i ≠ k := fun z => by rw [z] at x2; omega
    have ne : J i ≠ e := fun z => by rw [z] at x2; omega
    rw [hh0, f8, g1, if_neg (by omega), if_neg ne, if_neg nk, if_neg ne, if_neg nk, if_neg (by omega)]
    exact ⟨by omega, x2, x3⟩
  · have x1 := (h.1 i a (by omega)).1
    have x2 := (h.1 j (by omega) c).1
    have y := h.2.1 i j a b c
    simp only [hvS]
    rw [f3, f4, f5, f3, f4, f5, if_neg (by omega), if_neg (by omega), if_neg (by omega), if_neg (by omega), if_neg (by omega), if_neg (by omega)]
    exact y
  · rw [hh0] at b
    rw [f8] at c
    rw [g1] at d
    have q1 : q ≠ s 0 10 := fun z => by rw [if_pos z] at c; omega
    rw [if_neg q1] at c
    have q2 : q ≠ e := fun z => by rw [if_pos z] at d; omega
    have q3 : q ≠ k := fun z => by rw [if_neg q2, if_pos z] at d; omega
    rw [if_neg q2, if_neg q3] at c
    rw [if_neg q2, if_neg q3, if_neg q1] at d
    exact h.2.2 q a (by omega) c d
end
