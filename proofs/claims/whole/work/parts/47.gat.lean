/-! THE GATHERER: all steps -/
section
variable {B tr n : Nat} {gi : Nat → Int} {ga : Nat → Int → Value} {r : zHp} {s gh : Nat → Int → Int} {L : Int → BitVec 64}
theorem GC_beam {t k : Int} {gi2 : Nat → Int} {op J : Int → Int} {ka ba sa : Int → Nat} {ga' : Nat → Int → Value} {p : Int} (g : GC B n t s gh L gi ga r op J ka ba sa) (ht : t < n) (fk : fKeep gi gi2) (hc : cnd s k (-1)) (i0 : 0 ≤ gi2 1) (i1 : gi2 1 < gi 0) (hk : op (gi2 1) = k) (p0 : 0 ≤ p ∧ p ≤ gi2 7) (a0 : ga' 0 = ga 0) (a1 : ∀ u, ga' 1 u = if u = gi2 6 then .ref r.2.1 else ga 1 u) (a2 : ∀ j, 0 ≤ j → j ≤ gi2 7 → ga' 2 j = insV (ga 2) p (.ref (ka k)) j) (a3 : ∀ j, 0 ≤ j → j < gi2 0 - 1 → ga' 3 j = if j < gi2 1 then ga 3 j else ga 3 (j + 1)) (h1 : ∀ j, p ≤ j → j < gi2 7 → hvS s k (J j)) (h2 : p = 0 ∨ ¬ hvS s k (J (p - 1))) :
    GC B n (t + 1) (sStep s k (-1)) (us (us gh 0 t (-1)) 3 k t) L (ug (ug (ug gi2 6 (gi2 6 + 1)) 7 (gi2 7 + 1)) 0 (gi2 0 - 1)) ga' (rBeam r s gh L ka ba k t) (opOut op (gi2 1)) (insO J p k) ka ba (up sa t r.2.1) := by
  obtain ⟨⟨gI, xI, h14⟩, ⟨c0, c5, c6, c7, c7'⟩, ho, hj, ⟨kn, ki, sn, hr⟩, b0, b1, b2, b3⟩ := g
  obtain ⟨f3, f4, f5, f6, f7, f8, f9, f10, f0⟩ := @sB_all s k
  obtain ⟨g0, g1, g2, g3⟩ := @gB_all gh t k
  have hh0 : sStep s k (-1) 0 10 = s 0 10 := by rw [f0]; simp
  have k0 := fk.1
  have k5 := fk.2 5 (by decide)
  have k6 := fk.2 6 (by decide)
  have k7 := fk.2 7 (by decide)
  have ck := hc.1
  have xc := (xI.2.2.1 k ck.1 ck.2.1).1 ck.2.2
  have hj10 : jn (sStep s k (-1)) (t + 1) = jn s t := by
    have t11 := gI.2.1
    rw [jn_s (by have := gI.1; omega), f10, if_pos t11.symm, if_pos rfl, jn_ext (s := s) fun v _ hv => by rw [f10, if_neg (by omega)]]
    omega
  have e0 : ug (ug (ug gi2 6 (gi2 6 + 1)) 7 (gi2 7 + 1)) 0 (gi2 0 - 1) 0 = gi2 0 - 1 := ug_s
  have e5 : ug (ug (ug gi2 6 (gi2 6 + 1)) 7 (gi2 7 + 1)) 0 (gi2 0 - 1) 5 = gi2 5 := by rw [ug_n (by decide), ug_n (by decide), ug_n (by decide)]
  have e6 : ug (ug (ug gi2 6 (gi2 6 + 1)) 7 (gi2 7 + 1)) 0 (gi2 0 - 1) 6 = gi2 6 + 1 := by rw [ug_n (by decide), ug_n (by decide), ug_s]
  have e7 : ug (ug (ug gi2 6 (gi2 6 + 1)) 7 (gi2 7 + 1)) 0 (gi2 0 - 1) 7 = gi2 7 + 1 := by rw [ug_n (by decide), ug_s]
  have er : (rBeam r s gh L ka ba k t).2.1 = r.2.1 + 1 := rfl
  unfold GC
  rw [e0, e5, e6, e7, hh0, hj10, st_keep, k0, k5, k6, k7]
  refine ⟨⟨GI_beam gI ht hc, XI_beam gI xI ht hc, h14⟩, ⟨by omega, by omega, by omega, by omega, by omega⟩, OP_out ho i0 i1 hh0 f3 f4 f5 (fun j _ _ => by rw [f8, hk]), JT_ins hj c7' p0.1 (by omega) ⟨ck.1, ck.2.1⟩ ck.2.2 xc.2 hh0 f3 f4 f5 f8 g1 (fun j a b => h1 j a (by omega)) h2, ⟨KN_beam kn ki ⟨ck.1, ck.2.1⟩, ki, SN_beam gI xI kn sn hr ⟨ck.1, ck.2.1⟩, by omega⟩, fun j j0 j1 => by rw [a0]; exact b0 j j0 j1, fun u u0 u1 => ?_, fun i x0 x1 => ?_, fun i x0 x1 => ?_⟩
  · rw [a1, k6, c6]
    by_cases c : u = t
    · rw [if_pos c, c, up_s]
    · rw [if_neg c, up_n c]
      exact b1 u u0 (by omega)
  · rw [a2 i x0 (by omega)]
    unfold insV insO
    by_cases c : i < p
    · rw [if_pos c, if_pos c]; exact b2 i x0 (by omega)
    · by_cases d : i = p
      · rw [if_neg c, if_pos d, if_neg c, if_pos d]
      · rw [if_neg c, if_neg d, if_neg c, if_neg d]; exact b2 (i - 1) (by omega) (by omega)
  · rw [a3 i x0 (by omega)]
    unfold opOut
    by_cases c : i < gi2 1
    · rw [if_pos c, if_pos c]; exact b3 i x0 (by omega)
    · rw [if_neg c, if_neg c]; exact b3 (i + 1) (by omega) (by omega)
theorem GC_join {t k e : Int} {gi2 gi' : Nat → Int} {op J : Int → Int} {ka ba sa : Int → Nat} {ga' : Nat → Int → Value} {p : Int} (g : GC B n t s gh L gi ga r op J ka ba sa) (ht : t < n) (fk : fKeep gi gi2) (hc : cnd s k e) (he : e ≠ -1) (i0 : 0 ≤ gi2 1) (i1 : gi2 1 < gi2 2) (i2 : gi2 2 < gi 0) (hk : op (gi2 1) = k) (hke : op (gi2 2) = e) (p0 : 0 ≤ p ∧ p ≤ gi2 0 - 2) (q0 : gi' 0 = gi2 0 - 1) (q5 : gi' 5 = gi2 5 + 1) (q6 : gi' 6 = gi2 6 + 1) (q7 : gi' 7 = gi2 7) (a0 : ∀ i, ga' 0 i = if i = s 0 10 then .ref (r.2.1 + 1) else ga 0 i) (a1 : ∀ u, ga' 1 u = if u = gi2 6 then .ref (r.2.1 + 2) else ga 1 u) (a2 : ga' 2 = ga 2) (a3 : ∀ j, 0 ≤ j → j ≤ gi2 0 - 2 → ga' 3 j = insV (fun j => .ref (ka (opOut (opOut op (gi2 2)) (gi2 1) j))) p (.ref (r.2.1 + 1)) j)
    (h1 : ∀ j, p ≤ j → j < gi2 0 - 2 → ahd (jA s k e) (jR s k e) (s 5 k + s 5 e) (s 0 10) (s 3 (opOut (opOut op (gi2 2)) (gi2 1) j)) (s 4 (opOut (opOut op (gi2 2)) (gi2 1) j)) (s 5 (opOut (opOut op (gi2 2)) (gi2 1) j)) (opOut (opOut op (gi2 2)) (gi2 1) j)) (h2 : p = 0 ∨ ¬ ahd (jA s k e) (jR s k e) (s 5 k + s 5 e) (s 0 10) (s 3 (opOut (opOut op (gi2 2)) (gi2 1) (p - 1))) (s 4 (opOut (opOut op (gi2 2)) (gi2 1) (p - 1))) (s 5 (opOut (opOut op (gi2 2)) (gi2 1) (p - 1))) (opOut (opOut op (gi2 2)) (gi2 1) (p - 1))) :
    GC B n (t + 1) (sStep s k e) (ghJ gh t (s 0 10) k e) (up L (s 0 10) (L k ||| L e)) gi' ga' (rJ r s gh L ka ba k e t) (insO (opOut (opOut op (gi2 2)) (gi2 1)) p (s 0 10)) J (up ka (s 0 10) (r.2.1 + 1)) (up ba (s 0 10) r.2.1) (up sa t (r.2.1 + 2)) := by
  obtain ⟨⟨gI, xI, h14⟩, ⟨c0, c5, c6, c7, c7'⟩, ho, hj, ⟨kn, ki, sn, hr⟩, b0, b1, b2, b3⟩ := g
  obtain ⟨f3, f4, f5, f6, f7, f8, f9, f10, f0⟩ := sJ_all (s := s) (k := k) (e := e) he h14
  have hh0 : sStep s k e 0 10 = s 0 10 + 1 := by rw [f0]; simp
  have k0 := fk.1
  have k5 := fk.2 5 (by decide)
  have k6 := fk.2 6 (by decide)
  have k7 := fk.2 7 (by decide)
  have ck := hc.1
  obtain ⟨ce, hne, hah⟩ : (0 ≤ e ∧ e < s 0 10 ∧ s 8 e = 1) ∧ e ≠ k ∧ ahS s k e := by rcases hc.2 with h | h; exact absurd h he; exact h
  have hj10 : jn (sStep s k e) (t + 1) = jn s t + 1 := by
    have t11 := gI.2.1
    rw [jn_s (by have := gI.1; omega), f10, if_pos t11.symm, if_neg he, jn_ext (s := s) fun v _ hv => by rw [f10, if_neg (by omega)]]
  have er := (rJ_2 (r := r) (s := s) (gh := gh) (L := L) (ka := ka) (ba := ba) (k := k) (e := e) (t := t)).1
  -- those left of both
  let s1 : Nat → Int → Int := us (us s 8 e 0) 8 k 0
  have m3 : ∀ j, s1 3 j = s 3 j := fun j => by simp [s1, us]
  have m4 : ∀ j, s1 4 j = s 4 j := fun j => by simp [s1, us]
  have m5 : ∀ j, s1 5 j = s 5 j := fun j => by simp [s1, us]
  have m0 : s1 0 10 = s 0 10 := by simp [s1, us]
  have m8 : ∀ j, s1 8 j = if j = k then 0 else if j = e then 0 else s 8 j := fun j => by simp [s1, us]
  have o1 : OP (us s 8 e 0) (gi 0 - 1) (opOut op (gi2 2)) := OP_out ho (by omega) i2 (by simp [us]) (fun j => by simp [us]) (fun j => by simp [us]) (fun j => by simp [us]) (fun j _ _ => by rw [hke]; simp [us])
  have ek : opOut op (gi2 2) (gi2 1) = k := by unfold opOut; rw [if_pos i1]; exact hk
  have o2 : OP s1 (gi 0 - 1 - 1) (opOut (opOut op (gi2 2)) (gi2 1)) := OP_out o1 i0 (by omega) (by simp [s1, us]) (fun j => by simp [s1, us]) (fun j => by simp [s1, us]) (fun j => by simp [s1, us]) (fun j _ _ => by rw [ek, m8]; simp [us])
  have lt2 : ∀ j, 0 ≤ j → j < gi 0 - 2 → 0 ≤ opOut (opOut op (gi2 2)) (gi2 1) j ∧ opOut (opOut op (gi2 2)) (gi2 1) j < s 0 10 := fun j a b => by
    have := (o2.1 j a (by omega)).1
    rw [m0] at this
    exact this
  generalize hO : opOut (opOut op (gi2 2)) (gi2 1) = O at *
  have o3 : OP (sStep s k e) (gi 0 - 1 - 1 + 1) (insO O p (s1 0 10)) := by
    refine OP_ins o2 p0.1 (by omega) (by rw [hh0, m0]) (by rw [m0]; omega) (fun j _ a => ?_) (fun j _ a => ?_) (fun j _ a => ?_) (fun j _ a => ?_) ?_ (fun j a b => ?_) ?_
    · rw [m0] at a; rw [f3, m3, if_neg (by omega)]
    · rw [m0] at a; rw [f4, m4, if_neg (by omega)]
    · rw [m0] at a; rw [f5, m5, if_neg (by omega)]
    · rw [m0] at a; rw [f8, m8, if_neg (by omega)]
      by_cases c : j = e
      · rw [if_pos c]; by_cases d : j = k <;> simp [d, c]
      · rw [if_neg c, if_neg c]
    · rw [m0, f8, if_pos rfl]
    · have l := lt2 j (by omega) (by omega)
      have := h1 j a (by omega)
      simp only [ahS, m0]
      rw [f3, f4, f5, f3, f4, f5, if_pos rfl, if_pos rfl, if_pos rfl, if_neg (by omega), if_neg (by omega), if_neg (by omega)]
      exact this
    · by_cases z : p = 0
      · exact Or.inl z
      · right
        have l := lt2 (p - 1) (by omega) (by omega)
        have := h2.resolve_left z
        simp only [ahS, m0]
        rw [f3, f4, f5, f3, f4, f5, if_pos rfl, if_pos rfl, if_pos rfl, if_neg (by omega), if_neg (by omega), if_neg (by omega)]
        exact this
  rw [m0, show gi 0 - 1 - 1 + 1 = gi 0 - 1 by omega] at o3
  obtain ⟨gj, n79, hw⟩ := GI_join gI ht hc he
  obtain ⟨kn', ki'⟩ := KN_join (t := t) gI xI h14 kn ki ⟨ck.1, ck.2.1⟩ ⟨ce.1, ce.2.1⟩ (fun z => hne z.symm) hr
  unfold GC
  rw [q0, q5, q6, q7, hj10, st_keep, k0, k5, k6, k7]
  refine ⟨⟨gj, XI_join gI xI ht hc he, h14⟩, ⟨by omega, by omega, by omega, by omega, by omega⟩, o3, JT_join gI xI h14 hj ⟨ck.1, ck.2.1⟩ ⟨ce.1, ce.2.1⟩ (fun z => hne z.symm) ck.2.2 ce.2.2, ⟨kn', ki', SN_join gI xI h14 kn ki sn ⟨ck.1, ck.2.1⟩ ⟨ce.1, ce.2.1⟩ (fun z => hne z.symm) hr, by omega⟩, fun j j0 j1 => ?_, fun u u0 u1 => ?_, fun i x0 x1 => ?_, fun i x0 x1 => ?_⟩
  · rw [hh0] at j1
    rw [a0]
    by_cases c : j = s 0 10
    · rw [if_pos c, c, up_s]
    · rw [if_neg c, up_n c]; exact b0 j j0 (by omega)
  · rw [a1, k6, c6]
    by_cases c : u = t
    · rw [if_pos c, c, up_s]
    · rw [if_neg c, up_n c]
      exact b1 u u0 (by omega)
  · have := (hj.1 i x0 x1).1
    rw [a2, up_n (by omega)]
    exact b2 i x0 x1
  · rw [a3 i x0 (by omega)]
    unfold insV insO
    by_cases c : i < p
    · have l := lt2 i x0 (by omega)
      rw [if_pos c, if_pos c, up_n (by omega)]
    · by_cases d : i = p
      · rw [if_neg c, if_pos d, if_neg c, if_pos d, up_s]
      · have l := lt2 (i - 1) (by omega) (by omega)
        rw [if_neg c, if_neg d, if_neg c, if_neg d, up_n (by omega)]
/-- all steps -/
theorem L_gathered1 {op J : Int → Int} {ka ba sa : Int → Nat} {f : Int → Value} (htr : r.1 tr = some (67, ar n f)) (hB : tr < B) (hn : n ≤ 40) (g : GC B n 0 s gh L gi ga r op J ka ba sa) :
    ∃ (s2 gh2 : Nat → Int → Int) (L2 : Int → BitVec 64) (gi2 : Nat → Int) (ga2 : Nat → Int → Value) (r2 : zHp) (op2 J2 : Int → Int) (ka2 ba2 sa2 : Int → Nat), gRun n s s2 ∧ GC B n n s2 gh2 L2 gi2 ga2 r2 op2 J2 ka2 ba2 sa2 ∧ (s2 0 12 = s 0 12 ∧ s2 0 13 = s 0 13 ∧ s2 0 14 = s 0 14) ∧ ((∀ a, a < B → r2.1 a = r.1 a) ∧ (r.2.1 ≤ r2.2.1 ∧ r2.2.1 ≤ r.2.1 + 3 * n) ∧ r.2.2 ≤ r2.2.2 ∧ r2.2.2 ≤ r.2.2 + 16 * n) ∧ L_Ga_gathered_1 [.ref B, vi 0] (bg B tr n (s 0 12) (s 0 13) (s 0 14) gi ga r) = some (.inl (0, [.ref B, vi (n : Int)]), bg B tr n (s 0 12) (s 0 13) (s 0 14) gi2 ga2 r2) := by
  have go : wS (fun o h' => ∃ (s2 gh2 : Nat → Int → Int) (L2 : Int → BitVec 64) (gi2 : Nat → Int) (ga2 : Nat → Int → Value) (r2 : zHp) (op2 J2 : Int → Int) (ka2 ba2 sa2 : Int → Nat), (gRun n s s2 ∧ GC B n n s2 gh2 L2 gi2 ga2 r2 op2 J2 ka2 ba2 sa2 ∧ (s2 0 12 = s 0 12 ∧ s2 0 13 = s 0 13 ∧ s2 0 14 = s 0 14) ∧ ((∀ a, a < B → r2.1 a = r.1 a) ∧ (r.2.1 ≤ r2.2.1 ∧ r2.2.1 ≤ r.2.1 + 3 * n) ∧ r.2.2 ≤ r2.2.2 ∧ r2.2.2 ≤ r.2.2 + 16 * n)) ∧ o = .inl (0, [.ref B, vi (n : Int)]) ∧ h' = bg B tr n (s 0 12) (s 0 13) (s 0 14) gi2 ga2 r2) L_Ga_gathered_1 [.ref B, vi 0] (bg B tr n (s 0 12) (s 0 13) (s 0 14) gi ga r) (zu _) := by
    refine wForI (fun t env h => ∃ (s1 gh1 : Nat → Int → Int) (L1 : Int → BitVec 64) (gi1 : Nat → Int) (ga1 : Nat → Int → Value) (rr : zHp) (op1 J1 : Int → Int) (ka1 ba1 sa1 : Int → Nat), (h = bg B tr n (s1 0 12) (s1 0 13) (s1 0 14) gi1 ga1 rr ∧ env = [.ref B, vi t]) ∧ GC B n t s1 gh1 L1 gi1 ga1 rr op1 J1 ka1 ba1 sa1 ∧ (s1 0 12 = s 0 12 ∧ s1 0 13 = s 0 13 ∧ s1 0 14 = s 0 14) ∧ ((∀ a, a < B → rr.1 a = r.1 a) ∧ (r.2.1 ≤ rr.2.1 ∧ rr.2.1 ≤ r.2.1 + 3 * t.toNat) ∧ r.2.2 ≤ rr.2.2 ∧ rr.2.2 ≤ r.2.2 + 16 * t.toNat) ∧ ∀ s2, gRun (n - t.toNat) s1 s2 → gRun n s s2) 0 n (by omega) (by omega) ⟨s, gh, L, gi, ga, r, op, J, ka, ba, sa, ⟨rfl, rfl⟩, g, ⟨rfl, rfl, rfl⟩, ⟨fun _ _ => rfl, by omega, by omega⟩, fun s2 q => q⟩ ?_ ?_
    · intro t env h t0 t1 ⟨s1, gh1, L1, gi1, ga1, rr, op1, J1, ka1, ba1, sa1, ⟨hh, he⟩, g1, hcs, hfr, hrun⟩
      subst hh
      subst he
      have g1' := g1
      obtain ⟨⟨gI, xI, h14⟩, ⟨c0, c5, c6, c7, c7'⟩, ho, hj, ⟨kn, ki, sn, hr⟩, b0, b1, b2, b3⟩ := g1
      have gI' := gI
      obtain ⟨y1, y2, y3, y4, y5, y6, y7, y8⟩ := gI
      have htr1 : rr.1 tr = some (67, ar n f) := (hfr.1 tr hB).trans htr
      obtain ⟨gi2, fk, fs, eF⟩ := e_findLeast (tr := tr) (sm := s1 0 14) (ga := ga1) y4 y5 (KN_KF kn) hn (by omega) (by omega) ho b3
      have k0 := fk.1
      have k5 := fk.2 5 (by decide)
      have k6 := fk.2 6 (by decide)
      have k7 := fk.2 7 (by decide)
      rcases fs with ⟨_, _, hb⟩ | ⟨v1, v2, v3, v4, hb⟩
      · have := (bst_some gI' t1 hb).1
        omega
      have hc := bst_some gI' t1 hb
      have hnx : ∀ s2, gRun (n - (t + 1).toNat) (sStep s1 (op1 (gi2 1)) (opN op1 (gi2 2))) s2 → gRun n s s2 := fun s2 q => hrun s2 (by
        rw [show n - t.toNat = (n - (t + 1).toNat) + 1 by omega]
        exact ⟨_, _, hb, q⟩)
      by_cases cb : gi2 2 = -1
      · have en : opN op1 (gi2 2) = -1 := if_pos cb
        rw [en] at hc v3 v4 hnx
        have hj1 : ∀ i, 0 ≤ i → i < gi2 7 → 0 ≤ J1 i ∧ J1 i < s1 0 10 := fun i a b => (hj.1 i a (by omega)).1
        have jnn := @jn_nn s1 t
        obtain ⟨ga3, p, eB, p0, d0, d1, d2, d3, d4, d5, d6⟩ := e_goToBeam (tr := tr) (sm := s1 0 14) (gi := gi2) (ga := ga1) (op := op1) (J := J1) (k := op1 (gi2 1)) (t := t) y4 y5 kn ki hn (by omega) hr (by omega) (by omega) (fun i a b => (ho.1 i a (by omega)).1) (fun i a b => b3 i a (by omega)) v1.1 (by omega) rfl v3 v4 (by omega) (by omega) (by omega) (by omega) hj1 (fun i a b => b2 i a (by omega))
        have G := GC_beam g1' t1 fk hc v1.1 v1.2 rfl p0 d0 d1 d2 d3 d5 d6
        have F := rFr_beam (r := rr) (s := s1) (gh := gh1) (L := L1) (ka := ka1) (ba := ba1) (k := op1 (gi2 1)) (t := t) (B := B) ((kn _ hc.1.1 hc.1.2.1).2.1.1) hr
        have nb : gi2 1 ≠ -1 := by omega
        simp (disch := first | assumption | omega | exact zTy_0 | exact zTy_3 | exact zTy_3n | exact zTy_1 | exact zTy_B | exact zTy_b0 | exact zTy_4 | exact zEl_n | exact zEz4 | exact zEz9 | exact hz _ _ | exact hz2 _ _ | exact zI0 | exact zI1 | exact zI2 | exact zI3 | exact zI4 | exact zI5 | exact zI6 | exact zI7 | exact zI8 | exact zI9 | exact zI10 | (simp only [zl_21, zl_22, zs_2, ne_eq]; omega) | ((repeat (refine Eq.trans (us_r (by decide)) ?_)); assumption) | ((simp (decide := true) only [us_k, us_s]); omega)) only [↓rKi, ↓rKl, ↓rKn, ↓rKd, ↓rL, ↓r2, ↓r1, ↓rC2, ↓rC1, ↓rCn, ↓rNot, ↓rAnd, ↓rOr, ↓rCi, ↓rBx, ↓rIte, ↓rGf, ↓rLen, ↓rAx, ↓rNa, ↓rA0, ↓rA1, ↓rCs, ↓rCv, ↓rAn, ↓rNew, ↓rSeq, ↓rSkip, ↓rBrk, ↓rCnt, ↓rRetV, ↓rAsg, ↓rRet, ↓rIf, ↓rPf, ↓rPfo, ↓rAs, ↓rAso, ↓rDo, ↓rObj, ↓rBl, ↓rSw, ↓rCopy, ↓zSq_0, ↓zSq_r, ↓zSq_1, ↓zSq_2, ↓zBq_l, ↓zBq_r, ↓zWq_0, ↓zWq_1, ↓zWq_2, ↓zWq_r, ↓zLo_0, ↓zLo_1, ↓zLo_2, ↓zLo_r, ↓zLt_0, ↓rTr, ↓zFin_s, ↓zFin_n, wX_r, wO_s, wI_t, wI_f, zLk_0, zLk_s, zTv_vi, zTv_vb, zTv_vl, zTv_d, zTv_r, zTv_n, zTv_4, zTo_s, zCl_n, zCl_0, zCl_s, Int32.reduceToInt, Int64.reduceToInt, e_add, e_sub, e_mul, e_neg, e_ladd, e_lsub, e_lmul, e_lneg, q_0, q_1, q_2, q_3, q_4, q_5, q_b0, q_b1, p_0, p_1, p_2, p_3, p_4, p_5, p_b0, p_b1, e_lcmp, pl_0, pl_1, pl_2, pl_3, pl_4, pl_5, e_i2l, e_l2i, e_idiv, e_irem, e_ldiv, e_lrem, List.set_cons_zero, List.set_cons_succ, List.getD_cons_zero, List.getD_cons_succ, List.getD_nil, dT, dF, decide_true, decide_false, not_true_eq_false, not_false_eq_true, Bool.not_true, Bool.not_false, zLay_1, zLay_c1, zLay_c2, zLay_n, zWds_n, zWds_c, zCat_0, zCat_1, zCat_3, zCat_4, zLay_4, List.nil_append, List.cons_append, List.replicate_succ, List.replicate_zero, zTy_0, zTy_b0, zTy_1, zTy_3, zTy_3n, zTy_4, and_true, true_and, Option.bind_some, zNul_n, zNul_r, List.getElem?_cons_zero, List.getElem?_cons_succ, Int.add_zero, zTv_B, zTy_B, b_and, b_or, b_andn, b_not, b_shl, b_cmp, b_cmp0, b_cmp0l, b_eq0, b_eq1, zs_2, zl_21, zl_22, gf_s, gf_l, pf_s, pf_l, zl_z, zs_z, nA, and_self, Nat.le_refl, Option.some.injEq, eq_self, Nat.reduceAdd, Nat.reduceSub, bg_2, bgt_0, bgf_0_0, bgf_0_1, bgf_0_2, bgf_0_3, bgf_0_4, bgp_0_4, bgf_0_5, bgp_0_5, bgf_0_6, bgp_0_6, bgf_0_7, bgp_0_7, bgf_0_8, bgp_0_8, bgt_1, bgf_1_0, bgf_1_1, bgf_1_2, bgf_1_3, bgf_1_4, bgf_1_5, bgp_1_5, bgf_1_6, bgf_1_7, bgp_1_7, bgf_1_8, bgf_1_9, bgp_1_9, bgf_1_10, bga_2, bgl_2, bgs_2, bga_3, bgl_3, bgs_3, bga_4, bgl_4, bgs_4, bga_5, bgl_5, bgs_5, bgt_6, bgf_6_0, bgp_6_0, bgf_6_1, bgp_6_1, bgf_6_2, bgp_6_2, bga_7, bgl_7, bgs_7, ug_s, ug_n, ua_s, ua_k, ua_j, zStK_64, zStK_65, zStK_67, zStK_68, zStK_69, zStK_70, zStK_71, zStK_72, zStK_73, C_Ga_gathered_1, B_Ga_gathered_1, T_Ga_gathered_1, bg_ol htr1, eF, eB]
        obtain ⟨s3, s4, s5⟩ := hcs
        have st0 : ∀ j, sStep s1 (op1 (gi2 1)) (-1) 0 j = if j = 11 then s1 0 11 + 1 else s1 0 j := sB_all.2.2.2.2.2.2.2.2
        have z12 : sStep s1 (op1 (gi2 1)) (-1) 0 12 = s1 0 12 := by rw [st0]; simp
        have z13 : sStep s1 (op1 (gi2 1)) (-1) 0 13 = s1 0 13 := by rw [st0]; simp
        have z14 : sStep s1 (op1 (gi2 1)) (-1) 0 14 = s1 0 14 := by rw [st0]; simp
        refine ⟨_, _, _, _, _, _, _, _, _, _, _, by rw [z12, z13, z14], G, by rw [z12, z13, z14]; exact ⟨s3, s4, s5⟩, ?_, hnx⟩
        obtain ⟨F1, F2, F3, F4⟩ := F
        obtain ⟨H1, H2, H3, H4⟩ := hfr
        exact ⟨fun a ha => (F1 a ha).trans (H1 a ha), by omega, by omega⟩
      · have v2' : gi2 1 < gi2 2 ∧ gi2 2 < gi1 0 := by omega
        have en : opN op1 (gi2 2) = op1 (gi2 2) := if_neg cb
        rw [en] at hc v3 v4 hnx
        have o2 := ho.1 (gi2 2) (by omega) v2'.2
        have hne : op1 (gi2 2) ≠ -1 := by omega
        obtain ⟨gj, n79, hw⟩ := GI_join gI' t1 hc hne
        have hke : op1 (gi2 1) ≠ op1 (gi2 2) := fun z => by have := op_inj ho v1.1 v1.2 (by omega) v2'.2 z; omega
        obtain ⟨gi3, ga3, p, eB, q0, q5, q6, q7, p0, d0, d1, d2, d4, d3, d5, d6⟩ := e_joinBest (tr := tr) (gi := gi2) (ga := ga1) (op := op1) (k := op1 (gi2 1)) (e := op1 (gi2 2)) (t := t) y4 y5 h14 kn ki hn n79 (by omega) hr (by omega) (by omega) (fun i a b => (ho.1 i a (by omega)).1) (fun i a b => b3 i a (by omega)) v1.1 v2'.1 (by omega) rfl rfl hke v3 v4 (by omega) (by omega) (by omega) (by omega)
        have G := GC_join g1' t1 fk hc hne v1.1 v2'.1 v2'.2 rfl rfl p0 q0 q5 q6 q7 d0 d1 d2 d3 d5 d6
        have F := rFr_join (r := rr) (s := s1) (gh := gh1) (L := L1) (ka := ka1) (ba := ba1) (k := op1 (gi2 1)) (e := op1 (gi2 2)) (t := t) (B := B) ((kn _ hc.1.1 hc.1.2.1).2.1.1) ((kn _ o2.1.1 o2.1.2).2.1.1) hr
        have nb : gi2 1 ≠ -1 := by omega
        simp (disch := first | assumption | omega | exact zTy_0 | exact zTy_3 | exact zTy_3n | exact zTy_1 | exact zTy_B | exact zTy_b0 | exact zTy_4 | exact zEl_n | exact zEz4 | exact zEz9 | exact hz _ _ | exact hz2 _ _ | exact zI0 | exact zI1 | exact zI2 | exact zI3 | exact zI4 | exact zI5 | exact zI6 | exact zI7 | exact zI8 | exact zI9 | exact zI10 | (simp only [zl_21, zl_22, zs_2, ne_eq]; omega) | ((repeat (refine Eq.trans (us_r (by decide)) ?_)); assumption) | ((simp (decide := true) only [us_k, us_s]); omega)) only [↓rKi, ↓rKl, ↓rKn, ↓rKd, ↓rL, ↓r2, ↓r1, ↓rC2, ↓rC1, ↓rCn, ↓rNot, ↓rAnd, ↓rOr, ↓rCi, ↓rBx, ↓rIte, ↓rGf, ↓rLen, ↓rAx, ↓rNa, ↓rA0, ↓rA1, ↓rCs, ↓rCv, ↓rAn, ↓rNew, ↓rSeq, ↓rSkip, ↓rBrk, ↓rCnt, ↓rRetV, ↓rAsg, ↓rRet, ↓rIf, ↓rPf, ↓rPfo, ↓rAs, ↓rAso, ↓rDo, ↓rObj, ↓rBl, ↓rSw, ↓rCopy, ↓zSq_0, ↓zSq_r, ↓zSq_1, ↓zSq_2, ↓zBq_l, ↓zBq_r, ↓zWq_0, ↓zWq_1, ↓zWq_2, ↓zWq_r, ↓zLo_0, ↓zLo_1, ↓zLo_2, ↓zLo_r, ↓zLt_0, ↓rTr, ↓zFin_s, ↓zFin_n, wX_r, wO_s, wI_t, wI_f, zLk_0, zLk_s, zTv_vi, zTv_vb, zTv_vl, zTv_d, zTv_r, zTv_n, zTv_4, zTo_s, zCl_n, zCl_0, zCl_s, Int32.reduceToInt, Int64.reduceToInt, e_add, e_sub, e_mul, e_neg, e_ladd, e_lsub, e_lmul, e_lneg, q_0, q_1, q_2, q_3, q_4, q_5, q_b0, q_b1, p_0, p_1, p_2, p_3, p_4, p_5, p_b0, p_b1, e_lcmp, pl_0, pl_1, pl_2, pl_3, pl_4, pl_5, e_i2l, e_l2i, e_idiv, e_irem, e_ldiv, e_lrem, List.set_cons_zero, List.set_cons_succ, List.getD_cons_zero, List.getD_cons_succ, List.getD_nil, dT, dF, decide_true, decide_false, not_true_eq_false, not_false_eq_true, Bool.not_true, Bool.not_false, zLay_1, zLay_c1, zLay_c2, zLay_n, zWds_n, zWds_c, zCat_0, zCat_1, zCat_3, zCat_4, zLay_4, List.nil_append, List.cons_append, List.replicate_succ, List.replicate_zero, zTy_0, zTy_b0, zTy_1, zTy_3, zTy_3n, zTy_4, and_true, true_and, Option.bind_some, zNul_n, zNul_r, List.getElem?_cons_zero, List.getElem?_cons_succ, Int.add_zero, zTv_B, zTy_B, b_and, b_or, b_andn, b_not, b_shl, b_cmp, b_cmp0, b_cmp0l, b_eq0, b_eq1, zs_2, zl_21, zl_22, gf_s, gf_l, pf_s, pf_l, zl_z, zs_z, nA, and_self, Nat.le_refl, Option.some.injEq, eq_self, Nat.reduceAdd, Nat.reduceSub, bg_2, bgt_0, bgf_0_0, bgf_0_1, bgf_0_2, bgf_0_3, bgf_0_4, bgp_0_4, bgf_0_5, bgp_0_5, bgf_0_6, bgp_0_6, bgf_0_7, bgp_0_7, bgf_0_8, bgp_0_8, bgt_1, bgf_1_0, bgf_1_1, bgf_1_2, bgf_1_3, bgf_1_4, bgf_1_5, bgp_1_5, bgf_1_6, bgf_1_7, bgp_1_7, bgf_1_8, bgf_1_9, bgp_1_9, bgf_1_10, bga_2, bgl_2, bgs_2, bga_3, bgl_3, bgs_3, bga_4, bgl_4, bgs_4, bga_5, bgl_5, bgs_5, bgt_6, bgf_6_0, bgp_6_0, bgf_6_1, bgp_6_1, bgf_6_2, bgp_6_2, bga_7, bgl_7, bgs_7, ug_s, ug_n, ua_s, ua_k, ua_j, zStK_64, zStK_65, zStK_67, zStK_68, zStK_69, zStK_70, zStK_71, zStK_72, zStK_73, C_Ga_gathered_1, B_Ga_gathered_1, T_Ga_gathered_1, bg_ol htr1, eF, eB]
        obtain ⟨s3, s4, s5⟩ := hcs
        have st0 : ∀ j, sStep s1 (op1 (gi2 1)) (op1 (gi2 2)) 0 j = if j = 10 then s1 0 10 + 1 else if j = 11 then s1 0 11 + 1 else s1 0 j := (sJ_all hne h14).2.2.2.2.2.2.2.2
        have z12 : sStep s1 (op1 (gi2 1)) (op1 (gi2 2)) 0 12 = s1 0 12 := by rw [st0]; simp
        have z13 : sStep s1 (op1 (gi2 1)) (op1 (gi2 2)) 0 13 = s1 0 13 := by rw [st0]; simp
        have z14 : sStep s1 (op1 (gi2 1)) (op1 (gi2 2)) 0 14 = s1 0 14 := by rw [st0]; simp
        refine ⟨_, _, _, _, _, _, _, _, _, _, _, by rw [z12, z13, z14], G, by rw [z12, z13, z14]; exact ⟨s3, s4, s5⟩, ?_, hnx⟩
        obtain ⟨F1, F2, F3, F4⟩ := F
        obtain ⟨H1, H2, H3, H4⟩ := hfr
        exact ⟨fun a ha => (F1 a ha).trans (H1 a ha), by omega, by omega⟩
    · intro env h ⟨s1, gh1, L1, gi1, ga1, rr, op1, J1, ka1, ba1, sa1, ⟨hh, he⟩, g1, hcs, hfr, hrun⟩
      subst hh
      subst he
      have htr1 : rr.1 tr = some (67, ar n f) := (hfr.1 tr hB).trans htr
      simp (disch := first | assumption | omega | exact zTy_0 | exact zTy_3 | exact zTy_3n | exact zTy_1 | exact zTy_B | exact zTy_b0 | exact zTy_4 | exact zEl_n | exact zEz4 | exact zEz9 | exact hz _ _ | exact hz2 _ _ | exact zI0 | exact zI1 | exact zI2 | exact zI3 | exact zI4 | exact zI5 | exact zI6 | exact zI7 | exact zI8 | exact zI9 | exact zI10 | (simp only [zl_21, zl_22, zs_2, ne_eq]; omega) | ((repeat (refine Eq.trans (us_r (by decide)) ?_)); assumption) | ((simp (decide := true) only [us_k, us_s]); omega)) only [↓rKi, ↓rKl, ↓rKn, ↓rKd, ↓rL, ↓r2, ↓r1, ↓rC2, ↓rC1, ↓rCn, ↓rNot, ↓rAnd, ↓rOr, ↓rCi, ↓rBx, ↓rIte, ↓rGf, ↓rLen, ↓rAx, ↓rNa, ↓rA0, ↓rA1, ↓rCs, ↓rCv, ↓rAn, ↓rNew, ↓rSeq, ↓rSkip, ↓rBrk, ↓rCnt, ↓rRetV, ↓rAsg, ↓rRet, ↓rIf, ↓rPf, ↓rPfo, ↓rAs, ↓rAso, ↓rDo, ↓rObj, ↓rBl, ↓rSw, ↓rCopy, ↓zSq_0, ↓zSq_r, ↓zSq_1, ↓zSq_2, ↓zBq_l, ↓zBq_r, ↓zWq_0, ↓zWq_1, ↓zWq_2, ↓zWq_r, ↓zLo_0, ↓zLo_1, ↓zLo_2, ↓zLo_r, ↓zLt_0, ↓rTr, ↓zFin_s, ↓zFin_n, wX_r, wO_s, wI_t, wI_f, zLk_0, zLk_s, zTv_vi, zTv_vb, zTv_vl, zTv_d, zTv_r, zTv_n, zTv_4, zTo_s, zCl_n, zCl_0, zCl_s, Int32.reduceToInt, Int64.reduceToInt, e_add, e_sub, e_mul, e_neg, e_ladd, e_lsub, e_lmul, e_lneg, q_0, q_1, q_2, q_3, q_4, q_5, q_b0, q_b1, p_0, p_1, p_2, p_3, p_4, p_5, p_b0, p_b1, e_lcmp, pl_0, pl_1, pl_2, pl_3, pl_4, pl_5, e_i2l, e_l2i, e_idiv, e_irem, e_ldiv, e_lrem, List.set_cons_zero, List.set_cons_succ, List.getD_cons_zero, List.getD_cons_succ, List.getD_nil, dT, dF, decide_true, decide_false, not_true_eq_false, not_false_eq_true, Bool.not_true, Bool.not_false, zLay_1, zLay_c1, zLay_c2, zLay_n, zWds_n, zWds_c, zCat_0, zCat_1, zCat_3, zCat_4, zLay_4, List.nil_append, List.cons_append, List.replicate_succ, List.replicate_zero, zTy_0, zTy_b0, zTy_1, zTy_3, zTy_3n, zTy_4, and_true, true_and, Option.bind_some, zNul_n, zNul_r, List.getElem?_cons_zero, List.getElem?_cons_succ, Int.add_zero, zTv_B, zTy_B, b_and, b_or, b_andn, b_not, b_shl, b_cmp, b_cmp0, b_cmp0l, b_eq0, b_eq1, zs_2, zl_21, zl_22, gf_s, gf_l, pf_s, pf_l, zl_z, zs_z, nA, and_self, Nat.le_refl, Option.some.injEq, eq_self, Nat.reduceAdd, Nat.reduceSub, bg_2, bgt_0, bgf_0_0, bgf_0_1, bgf_0_2, bgf_0_3, bgf_0_4, bgp_0_4, bgf_0_5, bgp_0_5, bgf_0_6, bgp_0_6, bgf_0_7, bgp_0_7, bgf_0_8, bgp_0_8, bgt_1, bgf_1_0, bgf_1_1, bgf_1_2, bgf_1_3, bgf_1_4, bgf_1_5, bgp_1_5, bgf_1_6, bgf_1_7, bgp_1_7, bgf_1_8, bgf_1_9, bgp_1_9, bgf_1_10, bga_2, bgl_2, bgs_2, bga_3, bgl_3, bgs_3, bga_4, bgl_4, bgs_4, bga_5, bgl_5, bgs_5, bgt_6, bgf_6_0, bgp_6_0, bgf_6_1, bgp_6_1, bgf_6_2, bgp_6_2, bga_7, bgl_7, bgs_7, ug_s, ug_n, ua_s, ua_k, ua_j, zStK_64, zStK_65, zStK_67, zStK_68, zStK_69, zStK_70, zStK_71, zStK_72, zStK_73, C_Ga_gathered_1, B_Ga_gathered_1, T_Ga_gathered_1, bg_ol htr1]
      refine ⟨s1, gh1, L1, gi1, ga1, rr, op1, J1, ka1, ba1, sa1, ⟨hrun s1 (by simp [gRun]), g1, hcs, ?_⟩, by rw [hcs.1, hcs.2.1, hcs.2.2]⟩
      simpa using hfr
  obtain ⟨o, h', e, s2, gh2, L2, gi2, ga2, r2, op2, J2, ka2, ba2, sa2, ⟨x1, x2, x3, x4⟩, rfl, rfl⟩ := go
  exact ⟨s2, gh2, L2, gi2, ga2, r2, op2, J2, ka2, ba2, sa2, x1, x2, x3, x4, e⟩
end
