/-! THE GATHERER: one step more (heaps) -/
section
variable {B n : Nat} {gi : Nat → Int} {ga : Nat → Int → Value} {r : zHp} {s gh : Nat → Int → Int} {L : Int → BitVec 64}
theorem sB_all {k : Int} : (∀ j, sStep s k (-1) 3 j = s 3 j) ∧ (∀ j, sStep s k (-1) 4 j = s 4 j) ∧ (∀ j, sStep s k (-1) 5 j = s 5 j) ∧ (∀ j, sStep s k (-1) 6 j = s 6 j) ∧ (∀ j, sStep s k (-1) 7 j = s 7 j) ∧ (∀ j, sStep s k (-1) 8 j = if j = k then 0 else s 8 j) ∧ (∀ j, sStep s k (-1) 9 j = if j = s 0 11 then k else s 9 j) ∧ (∀ j, sStep s k (-1) 10 j = if j = s 0 11 then -1 else s 10 j) ∧ (∀ j, sStep s k (-1) 0 j = if j = 11 then s 0 11 + 1 else s 0 j) :=
  ⟨fun j => by simp [sStep, us], fun j => by simp [sStep, us], fun j => by simp [sStep, us], fun j => by simp [sStep, us], fun j => by simp [sStep, us], fun j => by simp [sStep, us], fun j => by simp [sStep, us], fun j => by simp [sStep, us], fun j => by simp [sStep, us]⟩
theorem sJ_all {k e : Int} (he : e ≠ -1) (h14 : s 0 14 = 0 ∨ s 0 14 = 1) : (∀ j, sStep s k e 3 j = if j = s 0 10 then jA s k e else s 3 j) ∧ (∀ j, sStep s k e 4 j = if j = s 0 10 then jR s k e else s 4 j) ∧ (∀ j, sStep s k e 5 j = if j = s 0 10 then s 5 k + s 5 e else s 5 j) ∧ (∀ j, sStep s k e 6 j = if j = s 0 10 then k else s 6 j) ∧ (∀ j, sStep s k e 7 j = if j = s 0 10 then e else s 7 j) ∧ (∀ j, sStep s k e 8 j = if j = s 0 10 then 1 else if j = e then 0 else if j = k then 0 else s 8 j) ∧ (∀ j, sStep s k e 9 j = if j = s 0 11 then k else s 9 j) ∧ (∀ j, sStep s k e 10 j = if j = s 0 11 then e else s 10 j) ∧ (∀ j, sStep s k e 0 j = if j = 10 then s 0 10 + 1 else if j = 11 then s 0 11 + 1 else s 0 j) := by
  rcases h14 with c | c
  · refine ⟨fun j => ?_, fun j => ?_, fun j => ?_, fun j => ?_, fun j => ?_, fun j => ?_, fun j => ?_, fun j => ?_, fun j => ?_⟩ <;> simp [sStep, he, sJoin, sCome, us, c, jA, jR, jBody]
  · have cc : ¬ s 0 14 = 0 := by omega
    by_cases d : s 5 k < s 5 e
    · refine ⟨fun j => ?_, fun j => ?_, fun j => ?_, fun j => ?_, fun j => ?_, fun j => ?_, fun j => ?_, fun j => ?_, fun j => ?_⟩ <;> simp [sStep, he, sJoin, sCome, us, c, jA, jR, jBody, d]
    · refine ⟨fun j => ?_, fun j => ?_, fun j => ?_, fun j => ?_, fun j => ?_, fun j => ?_, fun j => ?_, fun j => ?_, fun j => ?_⟩ <;> simp [sStep, he, sJoin, sCome, us, c, jA, jR, jBody, d]
theorem gB_all {t k : Int} : (∀ j, us (us gh 0 t (-1)) 3 k t 0 j = if j = t then -1 else gh 0 j) ∧ (∀ j, us (us gh 0 t (-1)) 3 k t 1 j = gh 1 j) ∧ (∀ j, us (us gh 0 t (-1)) 3 k t 2 j = gh 2 j) ∧ (∀ j, us (us gh 0 t (-1)) 3 k t 3 j = if j = k then t else gh 3 j) :=
  ⟨fun j => by simp [us], fun j => by simp [us], fun j => by simp [us], fun j => by simp [us]⟩
theorem gJ_all {t K k e : Int} : (∀ j, ghJ gh t K k e 0 j = if j = t then K else gh 0 j) ∧ (∀ j, ghJ gh t K k e 1 j = if j = e then K else if j = k then K else if j = K then -1 else gh 1 j) ∧ (∀ j, ghJ gh t K k e 2 j = if j = K then t else gh 2 j) ∧ (∀ j, ghJ gh t K k e 3 j = if j = e then t else if j = k then t else if j = K then -1 else gh 3 j) :=
  ⟨fun j => by simp [ghJ, us], fun j => by simp [ghJ, us], fun j => by simp [ghJ, us], fun j => by simp [ghJ, us]⟩
theorem kV_ext {s' gh' : Nat → Int → Int} {L' : Int → BitVec 64} {ka ba ka' ba' : Int → Nat} {j : Int} (h6 : s' 6 j = s 6 j) (h7 : s' 7 j = s 7 j) (g1 : gh' 1 j = gh 1 j) (g2 : gh' 2 j = gh 2 j) (g3 : gh' 3 j = gh 3 j) (hL : L' j = L j) (hb : ba' j = ba j) (r6 : rN ka' (s 6 j) = rN ka (s 6 j)) (r7 : rN ka' (s 7 j) = rN ka (s 7 j)) (r1 : rN ka' (gh 1 j) = rN ka (gh 1 j)) : kV s' gh' L' ka' ba' j = kV s gh L ka ba j := by
  unfold kV
  rw [h6, h7, g1, g2, g3, hL, hb, r6, r7, r1]
theorem sV_ext {s' gh' : Nat → Int → Int} {u : Int} (h9 : s' 9 u = s 9 u) (h10 : s' 10 u = s 10 u) (g0 : gh' 0 u = gh 0 u) (hu : upS s' (s 9 u) (s 10 u) = upS s (s 9 u) (s 10 u) ∧ dnS s' (s 9 u) (s 10 u) = dnS s (s 9 u) (s 10 u)) : sV s' gh' u = sV s gh u := by
  unfold sV
  rw [h9, h10, g0, hu.1, hu.2]
/-- whatever stood below stays -/
def rFr (B : Nat) (r r' : zHp) : Prop := (∀ a, a < B → r'.1 a = r.1 a) ∧ (r.2.1 ≤ r'.2.1 ∧ r'.2.1 ≤ r.2.1 + 3) ∧ r.2.2 ≤ r'.2.2 ∧ r'.2.2 ≤ r.2.2 + 16
theorem rFr_beam {ka ba : Int → Nat} {k t : Int} (hk : B + 8 ≤ ka k) (hr : B + 8 ≤ r.2.1) : rFr B r (rBeam r s gh L ka ba k t) := by
  refine ⟨fun a ha => ?_, ⟨?_, ?_⟩, ?_, ?_⟩
  · unfold rBeam
    rw [zl_n (by show a ≠ r.2.1; omega), zs_n (by omega)]
  all_goals (unfold rBeam; simp only [zl_21, zl_22, zs_2]; omega)
theorem rFr_join {ka ba : Int → Nat} {k e t : Int} (hk : B + 8 ≤ ka k) (he : B + 8 ≤ ka e) (hr : B + 8 ≤ r.2.1) : rFr B r (rJ r s gh L ka ba k e t) := by
  have h2 := rJ_2 (r := r) (s := s) (gh := gh) (L := L) (ka := ka) (ba := ba) (k := k) (e := e) (t := t)
  exact ⟨fun a ha => rJ_o (by omega) (by omega) (by omega), by omega, by omega⟩
theorem KN_beam {ka ba : Int → Nat} {k t : Int} (h : KN B r s gh L ka ba) (ki : KI (s 0 10) ka) (ck : 0 ≤ k ∧ k < s 0 10) : KN B (rBeam r s gh L ka ba k t) (sStep s k (-1)) (us (us gh 0 t (-1)) 3 k t) L ka ba := by
  obtain ⟨f3, f4, f5, f6, f7, f8, f9, f10, f0⟩ := @sB_all s k
  obtain ⟨g0, g1, g2, g3⟩ := @gB_all gh t k
  intro j j0 j1
  rw [f0] at j1
  have j1' : j < s 0 10 := by simpa using j1
  obtain ⟨x1, x2, x3, x4, x5⟩ := h j j0 j1'
  obtain ⟨y1, y2, y3, y4, y5⟩ := h k ck.1 ck.2
  have nb : ba j ≠ ka k := fun q => by rw [q, y1] at x3; cases x3
  have o : ∀ a, a < r.2.1 → a ≠ ka k → (rBeam r s gh L ka ba k t).1 a = r.1 a := fun a ha hn => by
    unfold rBeam
    rw [zl_n (by show a ≠ r.2.1; omega), zs_n hn]
  have e1 : (rBeam r s gh L ka ba k t).2.1 = r.2.1 + 1 := rfl
  refine ⟨?_, ⟨x2.1, by omega⟩, ?_, x4, by omega⟩
  · by_cases c : j = k
    · subst c
      unfold rBeam
      rw [zl_n (by show ka j ≠ r.2.1; omega), zs_s]
      unfold kV
      rw [f6, f7, g1, g2, g3, if_pos rfl]
    · rw [o _ x2.2 (fun q => c (ki j k j0 j1' ck.1 ck.2 q)), x1]
      exact congrArg (fun q => some (4, q)) (kV_ext (f6 j) (f7 j) (g1 j) (g2 j) (by rw [g3, if_neg c]) rfl rfl rfl rfl rfl).symm
  · rw [o _ x5 nb, x3]
    unfold bV
    rw [f3, f4, f5]
theorem SN_beam {n t k : Int} {ka ba sa : Int → Nat} (g : GI n t s) (x : XI n t s gh L) (kn : KN B r s gh L ka ba) (h : SN B r s gh t sa) (hr : B + 8 ≤ r.2.1) (ck : 0 ≤ k ∧ k < s 0 10) : SN B (rBeam r s gh L ka ba k t) (sStep s k (-1)) (us (us gh 0 t (-1)) 3 k t) (t + 1) (up sa t r.2.1) := by
  obtain ⟨f3, f4, f5, f6, f7, f8, f9, f10, f0⟩ := @sB_all s k
  obtain ⟨g0, g1, g2, g3⟩ := @gB_all gh t k
  have e1 : (rBeam r s gh L ka ba k t).2.1 = r.2.1 + 1 := rfl
  have ht : s 0 11 = t := g.2.1
  rw [ht] at f9 f10
  have m : ∀ a b, upS (sStep s k (-1)) a b = upS s a b ∧ dnS (sStep s k (-1)) a b = dnS s a b := fun a b => upS_ext (by rw [f0]; simp) (by rw [f0]; simp) ⟨f3 a, f4 a, f5 a⟩ (Or.inr ⟨f3 b, f4 b, f5 b⟩)
  intro u u0 u1
  by_cases c : u = t
  · subst c
    rw [up_s]
    refine ⟨?_, hr, by omega⟩
    unfold rBeam
    refine zl_s.trans ?_
    unfold sV
    rw [f9, f10, g0, if_pos rfl, if_pos rfl, if_pos rfl, (m _ _).1, (m _ _).2]
  · rw [up_n c]
    obtain ⟨y1, y2, y3⟩ := h u u0 (by omega)
    refine ⟨?_, y2, by omega⟩
    have nk : sa u ≠ ka k := fun q => by have z := (kn k ck.1 ck.2).1; rw [← q, y1] at z; cases z
    unfold rBeam
    rw [zl_n (by show sa u ≠ r.2.1; omega), zs_n nk, y1]
    exact congrArg (fun q => some (6, q)) (sV_ext (by rw [f9, if_neg c]) (by rw [f10, if_neg c]) (by rw [g0, if_neg c]) (m _ _)).symm
theorem rN_up {ka : Int → Nat} {K v : Int} {a : Nat} (h : v ≠ K) : rN (up ka K a) v = rN ka v := by unfold rN; rw [up_n h]
/-- what stands behind a join -/
theorem rJ_at {ka ba : Int → Nat} {k e t : Int} (hk : ka k < r.2.1) (he : ka e < r.2.1) (hn : ka k ≠ ka e) : (rJ r s gh L ka ba k e t).1 (ka k) = some (4, [.ref (ba k), vB (L k), rN ka (s 6 k), rN ka (s 7 k), vi (gh 2 k), .ref (r.2.1 + 1), vi t]) ∧ (rJ r s gh L ka ba k e t).1 (ka e) = some (4, [.ref (ba e), vB (L e), rN ka (s 6 e), rN ka (s 7 e), vi (gh 2 e), .ref (r.2.1 + 1), vi t]) ∧ (rJ r s gh L ka ba k e t).1 r.2.1 = some (0, [vi (s 0 10), vi (jA s k e), vi (jR s k e), vi (s 5 k + s 5 e)]) ∧ (rJ r s gh L ka ba k e t).1 (r.2.1 + 1) = some (4, [.ref r.2.1, vB (L k ||| L e), .ref (ka k), .ref (ka e), vi t, .null, vi (-1)]) ∧ (rJ r s gh L ka ba k e t).1 (r.2.1 + 2) = some (6, [vi k, vi e, vi (s 0 10), vl (upS s k e / gcdI (upS s k e) (dnS s k e)), vl (dnS s k e / gcdI (upS s k e) (dnS s k e))]) := by
  refine ⟨?_, ?_, ?_, ?_, ?_⟩
  · unfold rJ rJ4
    rw [zl_n (by show ka k ≠ r.2.1 + 1 + 1; omega), zs_n hn, zs_s]
  · unfold rJ rJ4
    rw [zl_n (by show ka e ≠ r.2.1 + 1 + 1; omega), zs_s]
  · unfold rJ rJ4 rJ2
    rw [zl_n (by show r.2.1 ≠ r.2.1 + 1 + 1; omega), zs_n (by omega), zs_n (by omega), zl_n (by show r.2.1 ≠ r.2.1 + 1; omega), zl_s]
  · unfold rJ rJ4 rJ2
    rw [zl_n (by show r.2.1 + 1 ≠ r.2.1 + 1 + 1; omega), zs_n (by omega), zs_n (by omega)]
    exact zl_s
  · unfold rJ
    exact zl_s
end
