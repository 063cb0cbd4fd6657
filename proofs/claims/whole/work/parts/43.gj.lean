/-! THE GATHERER: two are joined -/
section
variable {B tr n : Nat} {rad pw sm : Int} {gi : Nat → Int} {ga : Nat → Int → Value} {r : zHp} {s gh : Nat → Int → Int} {L : Int → BitVec 64}
theorem bg_pp {ty ci k a : Nat} {vs : List Value} {v : Value} (h : a < B ∨ B + 8 ≤ a) (hk : zIn k vs = true) (hv : zTy ty v = true) : zPfv ty ci k (bg B tr n rad pw sm gi ga (zSet r a (ci, vs))) (.ref a) v = some (bg B tr n rad pw sm gi ga (zSet r a (ci, vs.set k v))) := by rw [bg_op zs_s h hk hv, zs_z]
def opOut (op : Int → Int) (i : Int) : Int → Int := fun j => if j < i then op j else op (j + 1)
/-- the place of a joined one -/
def jA (s : Nat → Int → Int) (k e : Int) : Int := (jBody (s 0 14) (s 3 k) (s 4 k) (s 5 k) (s 3 e) (s 4 e) (s 5 e)).1
def jR (s : Nat → Int → Int) (k e : Int) : Int := (jBody (s 0 14) (s 3 k) (s 4 k) (s 5 k) (s 3 e) (s 4 e) (s 5 e)).2
/-- two are joined: the heap behind it -/
def rJ2 (r : zHp) (s : Nat → Int → Int) (L : Int → BitVec 64) (ka : Int → Nat) (k e t : Int) : zHp := zAl (zAl r 4 (0, [vi (s 0 10), vi (jA s k e), vi (jR s k e), vi (s 5 k + s 5 e)])) 7 (4, [.ref r.2.1, vB (L k ||| L e), .ref (ka k), .ref (ka e), vi t, .null, vi (-1)])
def rJ4 (r : zHp) (s gh : Nat → Int → Int) (L : Int → BitVec 64) (ka ba : Int → Nat) (k e t : Int) : zHp := zSet (zSet (rJ2 r s L ka k e t) (ka k) (4, [.ref (ba k), vB (L k), rN ka (s 6 k), rN ka (s 7 k), vi (gh 2 k), .ref (r.2.1 + 1), vi t])) (ka e) (4, [.ref (ba e), vB (L e), rN ka (s 6 e), rN ka (s 7 e), vi (gh 2 e), .ref (r.2.1 + 1), vi t])
def rJ (r : zHp) (s gh : Nat → Int → Int) (L : Int → BitVec 64) (ka ba : Int → Nat) (k e t : Int) : zHp := zAl (rJ4 r s gh L ka ba k e t) 5 (6, [vi k, vi e, vi (s 0 10), vl (upS s k e / gcdI (upS s k e) (dnS s k e)), vl (dnS s k e / gcdI (upS s k e) (dnS s k e))])
theorem rJ_2 {ka ba : Int → Nat} {k e t : Int} : (rJ r s gh L ka ba k e t).2.1 = r.2.1 + 3 ∧ (rJ r s gh L ka ba k e t).2.2 = r.2.2 + 16 := ⟨rfl, rfl⟩
/-- what was there stays, but for both parts -/
theorem rJ_o {ka ba : Int → Nat} {k e t : Int} {a : Nat} (h1 : a < r.2.1) (h2 : a ≠ ka k) (h3 : a ≠ ka e) : (rJ r s gh L ka ba k e t).1 a = r.1 a := by
  unfold rJ rJ4 rJ2
  rw [zl_n (by show a ≠ r.2.1 + 1 + 1; omega), zs_n h3, zs_n h2, zl_n (by show a ≠ r.2.1 + 1; omega), zl_n (by omega)]
theorem jA_b {k e : Int} (ok : sOK s) (ck : 0 ≤ k ∧ k < s 0 10) (ce : 0 ≤ e ∧ e < s 0 10) (hke : k ≠ e) : (-200 ≤ jA s k e ∧ jA s k e ≤ 200) ∧ 0 ≤ jR s k e ∧ jR s k e < 360 := by
  have o1 := ok k ck.1 ck.2
  have o2 := ok e ce.1 ce.2
  have b1 := mean_b (a := s 3 k) (w := s 5 k) (b := s 3 e) (v := s 5 e) o1.1.1 o1.1.2 o2.1.1 o2.1.2 (by omega) (by omega)
  have b2 := @meanR_b (s 4 k) (s 5 k) (s 4 e) (s 5 e)
  unfold jA jR jBody
  split
  · exact ⟨b1, b2⟩
  · split
    · exact ⟨o2.1, o2.2.1⟩
    · exact ⟨o1.1, o1.2.1⟩
theorem e_joinBest {op : Int → Int} {ka ba : Int → Nat} {k e t : Int} (ok : sOK s) (st : sSet s) (hs : s 0 14 = 0 ∨ s 0 14 = 1) (kn : KN B r s gh L ka ba) (ki : KI (s 0 10) ka) (hn : n ≤ 40) (n79 : s 0 10 < 79) (n2 : s 0 10 < 2 * n) (hr : B + 8 ≤ r.2.1) (o0 : 2 ≤ gi 0) (o1 : gi 0 ≤ n) (ho : ∀ i, 0 ≤ i → i < gi 0 → 0 ≤ op i ∧ op i < s 0 10) (hg : ∀ i, 0 ≤ i → i < gi 0 → ga 3 i = .ref (ka (op i))) (i0 : 0 ≤ gi 1) (i1 : gi 1 < gi 2) (i2 : gi 2 < gi 0) (hk : op (gi 1) = k) (he : op (gi 2) = e) (hke : k ≠ e) (h3 : gi 3 = upS s k e) (h4 : gi 4 = dnS s k e) (h5 : gi 5 = s 0 10) (s0 : 0 ≤ gi 6) (s1 : gi 6 < n) (hw : s 5 k + s 5 e ≤ 400000) :
    ∃ (gi' : Nat → Int) (ga' : Nat → Int → Value) (p : Int), F_Ga_joinBest [.ref B, vi t] (bg B tr n (s 0 12) (s 0 13) (s 0 14) gi ga r) = some (none, bg B tr n (s 0 12) (s 0 13) (s 0 14) gi' ga' (rJ r s gh L ka ba k e t)) ∧ gi' 0 = gi 0 - 1 ∧ gi' 5 = gi 5 + 1 ∧ gi' 6 = gi 6 + 1 ∧ gi' 7 = gi 7 ∧ (0 ≤ p ∧ p ≤ gi 0 - 2) ∧ (∀ i, ga' 0 i = if i = s 0 10 then .ref (r.2.1 + 1) else ga 0 i) ∧ (∀ u, ga' 1 u = if u = gi 6 then .ref (r.2.1 + 2) else ga 1 u) ∧ ga' 2 = ga 2 ∧ ga' 4 = ga 4 ∧ (∀ j, 0 ≤ j → j ≤ gi 0 - 2 → ga' 3 j = insV (fun j => .ref (ka (opOut (opOut op (gi 2)) (gi 1) j))) p (.ref (r.2.1 + 1)) j) ∧ (∀ j, p ≤ j → j < gi 0 - 2 → ahd (jA s k e) (jR s k e) (s 5 k + s 5 e) (s 0 10) (s 3 (opOut (opOut op (gi 2)) (gi 1) j)) (s 4 (opOut (opOut op (gi 2)) (gi 1) j)) (s 5 (opOut (opOut op (gi 2)) (gi 1) j)) (opOut (opOut op (gi 2)) (gi 1) j)) ∧ (p = 0 ∨ ¬ ahd (jA s k e) (jR s k e) (s 5 k + s 5 e) (s 0 10) (s 3 (opOut (opOut op (gi 2)) (gi 1) (p - 1))) (s 4 (opOut (opOut op (gi 2)) (gi 1) (p - 1))) (s 5 (opOut (opOut op (gi 2)) (gi 1) (p - 1))) (opOut (opOut op (gi 2)) (gi 1) (p - 1))) := by
  have ck := ho (gi 1) i0 (by omega)
  have ce := ho (gi 2) (by omega) i2
  rw [hk] at ck
  rw [he] at ce
  obtain ⟨y1, y2, y3, y4, y5⟩ := kn k ck.1 ck.2
  obtain ⟨z1, z2, z3, z4, z5⟩ := kn e ce.1 ce.2
  have okk := ok k ck.1 ck.2
  have oke := ok e ce.1 ce.2
  have uf := up_fine ok st (show cR s k e from ⟨ck, by omega⟩)
  have nke : ka e ≠ ka k := fun z => hke (ki k e ck.1 ck.2 ce.1 ce.2 z.symm)
  have nbk : ∀ x, 0 ≤ x → x < s 0 10 → ba x ≠ ka k ∧ ba x ≠ ka e := fun x x0 x1 => ⟨fun q => (by have := (kn x x0 x1).2.2.1; rw [q, y1] at this; cases this), fun q => (by have := (kn x x0 x1).2.2.1; rw [q, z1] at this; cases this)⟩
  have hg1 : ga 3 (gi 1) = .ref (ka k) := by rw [hg _ i0 (by omega), hk]
  have hg2 : ga 3 (gi 2) = .ref (ka e) := by rw [hg _ (by omega) i2, he]
  have y3' : r.1 (ba k) = some (0, [vi k, vi (s 3 k), vi (s 4 k), vi (s 5 k)]) := y3
  have z3' : r.1 (ba e) = some (0, [vi e, vi (s 3 e), vi (s 4 e), vi (s 5 e)]) := z3
  obtain ⟨gi1, hgi1, eB⟩ := e_joinedBody (B := B) (tr := tr) (n := n) (rad := s 0 12) (pw := s 0 13) (sm := s 0 14) (gi := gi) (ga := ga) y3' z3' y4 z4 hr (by omega) (by omega) okk.1.1 okk.1.2 okk.2.1.1 okk.2.1.2 okk.2.2.1 okk.2.2.2 oke.1.1 oke.1.2 oke.2.1.1 oke.2.1.2 oke.2.2.1 oke.2.2.2 hs
  rw [h5] at eB
  have y1' : r.1 (ka k) = some (4, [.ref (ba k), vB (L k), rN ka (s 6 k), rN ka (s 7 k), vi (gh 2 k), rN ka (gh 1 k), vi (gh 3 k)]) := y1
  have z1' : r.1 (ka e) = some (4, [.ref (ba e), vB (L e), rN ka (s 6 e), rN ka (s 7 e), vi (gh 2 e), rN ka (gh 1 e), vi (gh 3 e)]) := z1
  have eB' : F_Ga_joinedBody [.ref B, .ref (ba k), .ref (ba e)] (bg B tr n (s 0 12) (s 0 13) (s 0 14) gi ga r) = some (some (.ref r.2.1), bg B tr n (s 0 12) (s 0 13) (s 0 14) gi1 ga (zAl r 4 (0, [vi (s 0 10), vi (jA s k e), vi (jR s k e), vi (s 5 k + s 5 e)]))) := eB
  clear eB
  have hbig : ∀ a, a < r.2.1 → a ≠ ka k → a ≠ ka e → (rJ r s gh L ka ba k e t).1 a = r.1 a := fun a => rJ_o
  generalize hrJ : rJ r s gh L ka ba k e t = r5 at *
  unfold rJ rJ4 rJ2 at hrJ
  generalize hra : zAl r 4 (0, [vi (s 0 10), vi (jA s k e), vi (jR s k e), vi (s 5 k + s 5 e)]) = ra at *
  have ra2 : ra.2.1 = r.2.1 + 1 ∧ ra.2.2 = r.2.2 + 4 := by rw [← hra]; exact ⟨rfl, rfl⟩
  have raB : ra.1 r.2.1 = some (0, [vi (s 0 10), vi (jA s k e), vi (jR s k e), vi (s 5 k + s 5 e)]) := by rw [← hra]; exact zl_s
  have raO : ∀ a, a < r.2.1 → ra.1 a = r.1 a := fun a ha => by rw [← hra]; exact zl_n (by omega)
  have ya : ∀ {nn ob}, (zAl ra nn ob).1 (ka k) = _ := fun {nn ob} => ((zl_n (by omega)).trans (raO _ y2.2)).trans y1'
  have za : ∀ {nn ob}, (zAl ra nn ob).1 (ka e) = _ := fun {nn ob} => ((zl_n (by omega)).trans (raO _ z2.2)).trans z1'
  generalize hr2 : zAl ra 7 (4, [.ref r.2.1, vB (L k ||| L e), .ref (ka k), .ref (ka e), vi t, .null, vi (-1)]) = rb at *
  have rb2 : rb.2.1 = r.2.1 + 2 ∧ rb.2.2 = r.2.2 + 11 := by rw [← hr2, zl_21, zl_22, ra2.1, ra2.2]; exact ⟨rfl, rfl⟩
  have rbB : rb.1 r.2.1 = some (0, [vi (s 0 10), vi (jA s k e), vi (jR s k e), vi (s 5 k + s 5 e)]) := by rw [← hr2]; exact (zl_n (by omega)).trans raB
  have rbW : rb.1 (r.2.1 + 1) = some (4, [.ref r.2.1, vB (L k ||| L e), .ref (ka k), .ref (ka e), vi t, .null, vi (-1)]) := by rw [← hr2, ← ra2.1]; exact zl_s
  have rbO : ∀ a, a < r.2.1 → rb.1 a = r.1 a := fun a ha => by rw [← hr2]; exact (zl_n (by omega)).trans (raO a ha)
  have yb : rb.1 (ka k) = some (4, [.ref (ba k), vB (L k), rN ka (s 6 k), rN ka (s 7 k), vi (gh 2 k), rN ka (gh 1 k), vi (gh 3 k)]) := (rbO _ y2.2).trans y1'
  generalize hr3 : zSet rb (ka k) (4, [.ref (ba k), vB (L k), rN ka (s 6 k), rN ka (s 7 k), vi (gh 2 k), .ref (r.2.1 + 1), vi t]) = rc at *
  have rc2 : rc.2 = rb.2 := by rw [← hr3]; rfl
  have rcO : ∀ a, a ≠ ka k → rc.1 a = rb.1 a := fun a ha => by rw [← hr3]; exact zs_n ha
  have zc : rc.1 (ka e) = some (4, [.ref (ba e), vB (L e), rN ka (s 6 e), rN ka (s 7 e), vi (gh 2 e), rN ka (gh 1 e), vi (gh 3 e)]) := (rcO _ nke).trans ((rbO _ z2.2).trans z1')
  have yc : rc.1 (ka k) = some (4, [.ref (ba k), vB (L k), rN ka (s 6 k), rN ka (s 7 k), vi (gh 2 k), .ref (r.2.1 + 1), vi t]) := by rw [← hr3]; exact zs_s
  generalize hr4 : zSet rc (ka e) (4, [.ref (ba e), vB (L e), rN ka (s 6 e), rN ka (s 7 e), vi (gh 2 e), .ref (r.2.1 + 1), vi t]) = rd at *
  have rd2 : rd.2.1 = r.2.1 + 2 ∧ rd.2.2 = r.2.2 + 11 := by rw [← hr4]; show rc.2.1 = _ ∧ rc.2.2 = _; rw [rc2]; exact rb2
  have rdO : ∀ a, a ≠ ka k → a ≠ ka e → rd.1 a = rb.1 a := fun a h1 h2 => by rw [← hr4]; exact (zs_n h2).trans (rcO a h1)
  have yd : ∀ {nn ob}, (zAl rd nn ob).1 (ka k) = some (4, [.ref (ba k), vB (L k), rN ka (s 6 k), rN ka (s 7 k), vi (gh 2 k), .ref (r.2.1 + 1), vi t]) := fun {nn ob} => (zl_n (by omega)).trans (by rw [← hr4]; exact (zs_n (fun q => nke q.symm)).trans yc)
  have zd : ∀ {nn ob}, (zAl rd nn ob).1 (ka e) = some (4, [.ref (ba e), vB (L e), rN ka (s 6 e), rN ka (s 7 e), vi (gh 2 e), .ref (r.2.1 + 1), vi t]) := fun {nn ob} => (zl_n (by omega)).trans (by rw [← hr4]; exact zs_s)
  have bd : ∀ {nn ob}, (zAl rd nn ob).1 (ba k) = _ := fun {nn ob} => (zl_n (by omega)).trans ((rdO _ (nbk k ck.1 ck.2).1 (nbk k ck.1 ck.2).2).trans ((rbO _ y5).trans y3'))
  have be : ∀ {nn ob}, (zAl rd nn ob).1 (ba e) = _ := fun {nn ob} => (zl_n (by omega)).trans ((rdO _ (nbk e ce.1 ce.2).1 (nbk e ce.1 ce.2).2).trans ((rbO _ z5).trans z3'))
  have bw : ∀ {nn ob}, (zAl rd nn ob).1 r.2.1 = _ := fun {nn ob} => (zl_n (by omega)).trans ((rdO _ (by omega) (by omega)).trans rbB)
  have hrd : B + 8 ≤ rd.2.1 := by omega
  have hra8 : B + 8 ≤ ra.2.1 := by omega
  -- what the last heap says
  have W5 : r5.1 (r.2.1 + 1) = some (4, [.ref r.2.1, vB (L k ||| L e), .ref (ka k), .ref (ka e), vi t, .null, vi (-1)]) := by rw [← hrJ]; exact (zl_n (by omega)).trans ((rdO _ (by omega) (by omega)).trans rbW)
  have B5 : r5.1 r.2.1 = some (0, [vi (s 0 10), vi (jA s k e), vi (jR s k e), vi (s 5 k + s 5 e)]) := by rw [← hrJ]; exact bw
  have S5 : r5.1 rd.2.1 = some (6, [vi k, vi e, vi (s 0 10), vl (upS s k e / gcdI (upS s k e) (dnS s k e)), vl (dnS s k e / gcdI (upS s k e) (dnS s k e))]) := by rw [← hrJ]; exact zl_s
  have F : ∀ x, 0 ≤ x → x < s 0 10 → (∃ vs, r5.1 (ka x) = some (4, .ref (ba x) :: vs)) ∧ r5.1 (ba x) = some (0, [vi x, vi (s 3 x), vi (s 4 x), vi (s 5 x)]) := by
    intro x x0 x1
    obtain ⟨a1, a2, a3, a4, a5⟩ := kn x x0 x1
    constructor
    · by_cases c : x = k
      · rw [c, ← hrJ]; exact ⟨_, yd⟩
      · by_cases c2 : x = e
        · rw [c2, ← hrJ]; exact ⟨_, zd⟩
        · exact ⟨(kV s gh L ka ba x).tail, (hbig _ a2.2 (fun q => c (ki x k x0 x1 ck.1 ck.2 q)) (fun q => c2 (ki x e x0 x1 ce.1 ce.2 q))).trans a1⟩
    · exact (hbig _ a5 (nbk x x0 x1).1 (nbk x x0 x1).2).trans a3
  have jb := jA_b ok ck ce hke
  have q0 : gi1 0 = gi 0 := hgi1 0 (by decide)
  have q1 : gi1 1 = gi 1 := hgi1 1 (by decide)
  have q2 : gi1 2 = gi 2 := hgi1 2 (by decide)
  have q3 : gi1 3 = upS s k e := (hgi1 3 (by decide)).trans h3
  have q4 : gi1 4 = dnS s k e := (hgi1 4 (by decide)).trans h4
  have q5 : gi1 5 = s 0 10 := (hgi1 5 (by decide)).trans h5
  have q6 : gi1 6 = gi 6 := hgi1 6 (by decide)
  have q7 : gi1 7 = gi 7 := hgi1 7 (by decide)
  have eS := e_addStep (B := B) (tr := tr) (n := n) (rad := s 0 12) (pw := s 0 13) (sm := s 0 14) (gi := gi1) (ga := ga) S5 hrd hn (by omega) (by omega)
  rw [q6] at eS
  have v0 : ug gi1 6 (gi 6 + 1) 0 = gi 0 := by simp [ug, q0]
  obtain ⟨ga2, eT, a0, a1, a2, a4, a3⟩ := e_takeOut (B := B) (tr := tr) (n := n) (rad := s 0 12) (pw := s 0 13) (sm := s 0 14) (gi := ug gi1 6 (gi 6 + 1)) (ga := ua ga 1 (gi 6) (.ref rd.2.1)) (r := r5) (at_ := gi 2) (q := fun j => ka (op j)) (us := fun j => (if h : 0 ≤ op j ∧ op j < s 0 10 then .ref (ba (op j)) :: (F (op j) h.1 h.2).1.choose else [])) (fun j b0 b1 => by
    rw [v0] at b1
    obtain ⟨x1, x2⟩ := ho j b0 b1
    refine ⟨by simp only [ua]; rw [if_neg (by omega)]; exact hg j b0 b1, ?_, (kn (op j) x1 x2).2.1.1⟩
    rw [dif_pos ⟨x1, x2⟩]
    exact (F (op j) x1 x2).1.choose_spec) hn (by rw [v0]; exact o1) (by omega) (by rw [v0]; exact i2)
  rw [v0] at eT a3
  have w0 : ug (ug gi1 6 (gi 6 + 1)) 0 (gi 0 - 1) 0 = gi 0 - 1 := by simp [ug]
  have hop2 : ∀ j, 0 ≤ j → j < gi 0 - 1 → (0 ≤ opOut op (gi 2) j ∧ opOut op (gi 2) j < s 0 10) ∧ ga2 3 j = .ref (ka (opOut op (gi 2) j)) := by
    intro j b0 b1
    unfold opOut
    by_cases c : j < gi 2
    · rw [if_pos c]
      refine ⟨ho j b0 (by omega), ?_⟩
      rw [a3 j b0 b1, if_pos c]
      simp only [ua]; rw [if_neg (by omega)]
      exact hg j b0 (by omega)
    · rw [if_neg c]
      refine ⟨ho (j + 1) (by omega) (by omega), ?_⟩
      rw [a3 j b0 b1, if_neg c]
      simp only [ua]; rw [if_neg (by omega)]
      exact hg (j + 1) (by omega) (by omega)
  obtain ⟨ga3, eT2, b0, b1, b2, b4, b3⟩ := e_takeOut (B := B) (tr := tr) (n := n) (rad := s 0 12) (pw := s 0 13) (sm := s 0 14) (gi := ug (ug gi1 6 (gi 6 + 1)) 0 (gi 0 - 1)) (ga := ga2) (r := r5) (at_ := gi 1) (q := fun j => ka (opOut op (gi 2) j)) (us := fun j => (if h : 0 ≤ opOut op (gi 2) j ∧ opOut op (gi 2) j < s 0 10 then .ref (ba (opOut op (gi 2) j)) :: (F (opOut op (gi 2) j) h.1 h.2).1.choose else [])) (fun j c0 c1 => by
    rw [w0] at c1
    obtain ⟨⟨x1, x2⟩, x3⟩ := hop2 j c0 c1
    refine ⟨x3, ?_, (kn _ x1 x2).2.1.1⟩
    rw [dif_pos ⟨x1, x2⟩]
    exact (F _ x1 x2).1.choose_spec) hn (by rw [w0]; omega) i0 (by rw [w0]; omega)
  rw [w0] at eT2 b3
  have hop3 : ∀ j, 0 ≤ j → j < gi 0 - 2 → (0 ≤ opOut (opOut op (gi 2)) (gi 1) j ∧ opOut (opOut op (gi 2)) (gi 1) j < s 0 10) ∧ ga3 3 j = .ref (ka (opOut (opOut op (gi 2)) (gi 1) j)) := by
    intro j c0 c1
    have e3 := b3 j c0 (by omega)
    by_cases c : j < gi 1
    · have x := hop2 j c0 (by omega)
      rw [if_pos c] at e3
      have ee : opOut (opOut op (gi 2)) (gi 1) j = opOut op (gi 2) j := if_pos c
      rw [ee]
      exact ⟨x.1, e3.trans x.2⟩
    · have x := hop2 (j + 1) (by omega) (by omega)
      rw [if_neg c] at e3
      have ee : opOut (opOut op (gi 2)) (gi 1) j = opOut op (gi 2) (j + 1) := if_neg c
      rw [ee]
      exact ⟨x.1, e3.trans x.2⟩
  generalize hgg : ug (ug (ug gi1 6 (gi 6 + 1)) 0 (gi 0 - 1)) 0 (gi 0 - 1 - 1) = gg at eT2
  have p0 : gg 0 = gi 0 - 2 := by rw [← hgg]; simp [ug]; omega
  have p5 : gg 5 = s 0 10 := by rw [← hgg]; simp [ug, q5]
  have p6 : gg 6 = gi 6 + 1 := by rw [← hgg]; simp [ug]
  have p7 : gg 7 = gi 7 := by rw [← hgg]; simp [ug, q7]
  obtain ⟨ga4, p, eP, c0, d0, d1, d2, d4, d3, d5, d6⟩ := e_putIn (B := B) (tr := tr) (n := n) (rad := s 0 12) (pw := s 0 13) (sm := s 0 14) (gi := gg) (ga := ga3) (r := r5) (a := r.2.1 + 1) (c := r.2.1) (N0 := s 0 10) (X0 := jA s k e) (Y0 := jR s k e) (W0 := s 5 k + s 5 e) (q := fun j => ka (opOut (opOut op (gi 2)) (gi 1) j)) (b := fun j => ba (opOut (opOut op (gi 2)) (gi 1) j)) (N := fun j => opOut (opOut op (gi 2)) (gi 1) j) (X := fun j => s 3 (opOut (opOut op (gi 2)) (gi 1) j)) (Y := fun j => s 4 (opOut (opOut op (gi 2)) (gi 1) j)) (W := fun j => s 5 (opOut (opOut op (gi 2)) (gi 1) j)) (us := fun j => (if h : 0 ≤ opOut (opOut op (gi 2)) (gi 1) j ∧ opOut (opOut op (gi 2)) (gi 1) j < s 0 10 then (F _ h.1 h.2).1.choose else [])) W5 (by omega) B5 (Or.inr hr) ⟨⟨by omega, by omega⟩, by omega, by omega⟩ (fun j c0 c1 => by
    rw [p0] at c1
    obtain ⟨⟨x1, x2⟩, x3⟩ := hop3 j c0 c1
    have x4 := kn _ x1 x2
    have oj := ok _ x1 x2
    refine ⟨x3, ?_, x4.2.1.1, (F _ x1 x2).2, x4.2.2.2.1, ⟨by omega, by omega⟩, by omega, by omega⟩
    rw [dif_pos ⟨x1, x2⟩]
    exact (F _ x1 x2).1.choose_spec) hn (by omega) (by omega) (by omega) (by omega)
  rw [p0] at c0 d3 d5
  rw [p5] at d0
  refine ⟨ug (ug gg 5 (gg 5 + 1)) 0 (gg 0 + 1), ga4, p, ?_, by rw [ug_s]; omega, by rw [ug_n (by decide), ug_s]; omega, by rw [ug_n (by decide), ug_n (by decide)]; exact p6, by rw [ug_n (by decide), ug_n (by decide)]; exact p7, c0, fun i => by rw [d0 i, b0, a0]; simp [ua], fun u => by rw [d1, b1, a1]; simp only [ua, true_and, rd2.1], by rw [d2, b2, a2]; funext i; simp [ua], by rw [d4, b4, a4]; funext i; simp [ua], fun j x0 x1 => ?_, d5, d6⟩
  · refine zMeq rfl ?_
    have ra21 : ra.2.1 = r.2.1 + 1 := ra2.1
    have eK := e_knotInitG (B := B) (tr := tr) (n := n) (rad := s 0 12) (pw := s 0 13) (sm := s 0 14) (gi := gi1) (ga := ga) (r := ra) (nn := 7) (b := r.2.1) (L := L k ||| L e) (f := .ref (ka k)) (g := .ref (ka e)) (j := t) (v1 := .null) (v2 := .long 0) (v3 := .null) (v4 := .null) (v5 := .int 0) (v6 := .null) (v7 := .int 0) hra8 rfl rfl rfl rfl
    rw [ra2.1] at eK
    have y3b : (bg B tr n (s 0 12) (s 0 13) (s 0 14) gi1 ga r5).2.1 = rd.2.1 + 1 := by rw [← hrJ]; rfl
    simp (disch := first | assumption | omega | exact zTy_0 | exact zTy_3 | exact zTy_3n | exact zTy_1 | exact zTy_B | exact zTy_b0 | exact zTy_4 | exact zEl_n | exact zEz4 | exact zEz9 | exact hz _ _ | exact hz2 _ _ | exact zI0 | exact zI1 | exact zI2 | exact zI3 | exact zI4 | exact zI5 | exact zI6 | exact zI7 | exact zI8 | exact zI9 | exact zI10 | (simp only [zl_21, zl_22, zs_2, ne_eq]; omega) | ((repeat (refine Eq.trans (us_r (by decide)) ?_)); assumption) | ((simp (decide := true) only [us_k, us_s]); omega)) only [↓rKi, ↓rKl, ↓rKn, ↓rKd, ↓rL, ↓r2, ↓r1, ↓rC2, ↓rC1, ↓rCn, ↓rNot, ↓rAnd, ↓rOr, ↓rCi, ↓rBx, ↓rIte, ↓rGf, ↓rLen, ↓rAx, ↓rNa, ↓rA0, ↓rA1, ↓rCs, ↓rCv, ↓rAn, ↓rNew, ↓rSeq, ↓rSkip, ↓rBrk, ↓rCnt, ↓rRetV, ↓rAsg, ↓rRet, ↓rIf, ↓rPf, ↓rPfo, ↓rAs, ↓rAso, ↓rDo, ↓rObj, ↓rBl, ↓rSw, ↓rCopy, ↓zSq_0, ↓zSq_r, ↓zSq_1, ↓zSq_2, ↓zBq_l, ↓zBq_r, ↓zWq_0, ↓zWq_1, ↓zWq_2, ↓zWq_r, ↓zLo_0, ↓zLo_1, ↓zLo_2, ↓zLo_r, ↓zLt_0, ↓rTr, ↓zFin_s, ↓zFin_n, wX_r, wO_s, wI_t, wI_f, zLk_0, zLk_s, zTv_vi, zTv_vb, zTv_vl, zTv_d, zTv_r, zTv_n, zTv_4, zTo_s, zCl_n, zCl_0, zCl_s, Int32.reduceToInt, Int64.reduceToInt, e_add, e_sub, e_mul, e_neg, e_ladd, e_lsub, e_lmul, e_lneg, q_0, q_1, q_2, q_3, q_4, q_5, q_b0, q_b1, p_0, p_1, p_2, p_3, p_4, p_5, p_b0, p_b1, e_lcmp, pl_0, pl_1, pl_2, pl_3, pl_4, pl_5, e_i2l, e_l2i, e_idiv, e_irem, e_ldiv, e_lrem, List.set_cons_zero, List.set_cons_succ, List.getD_cons_zero, List.getD_cons_succ, List.getD_nil, dT, dF, decide_true, decide_false, not_true_eq_false, not_false_eq_true, Bool.not_true, Bool.not_false, zLay_1, zLay_c1, zLay_c2, zLay_n, zWds_n, zWds_c, zCat_0, zCat_1, zCat_3, zCat_4, zLay_4, List.nil_append, List.cons_append, List.replicate_succ, List.replicate_zero, zTy_0, zTy_b0, zTy_1, zTy_3, zTy_3n, zTy_4, and_true, true_and, Option.bind_some, zNul_n, zNul_r, List.getElem?_cons_zero, List.getElem?_cons_succ, Int.add_zero, zTv_B, zTy_B, b_and, b_or, b_andn, b_not, b_shl, b_cmp, b_cmp0, b_cmp0l, b_eq0, b_eq1, zs_2, zl_21, zl_22, gf_s, gf_l, pf_s, pf_l, zl_z, zs_z, nA, and_self, Nat.le_refl, Option.some.injEq, eq_self, Nat.reduceAdd, Nat.reduceSub, bg_2, bgt_0, bgf_0_0, bgf_0_1, bgf_0_2, bgf_0_3, bgf_0_4, bgp_0_4, bgf_0_5, bgp_0_5, bgf_0_6, bgp_0_6, bgf_0_7, bgp_0_7, bgf_0_8, bgp_0_8, bgt_1, bgf_1_0, bgf_1_1, bgf_1_2, bgf_1_3, bgf_1_4, bgf_1_5, bgp_1_5, bgf_1_6, bgf_1_7, bgp_1_7, bgf_1_8, bgf_1_9, bgp_1_9, bgf_1_10, bga_2, bgl_2, bgs_2, bga_3, bgl_3, bgs_3, bga_4, bgl_4, bgs_4, bga_5, bgl_5, bgs_5, bgt_6, bgf_6_0, bgp_6_0, bgf_6_1, bgp_6_1, bgf_6_2, bgp_6_2, bga_7, bgl_7, bgs_7, ug_s, ug_n, ua_s, ua_k, ua_j, zStK_64, zStK_65, zStK_67, zStK_68, zStK_69, zStK_70, zStK_71, zStK_72, zStK_73, S_Ga_joinBest, hg1, hg2, bg_of y1', bg_of z1', eB', bg_al, bg_of ya, bg_of za, b_or, ra21, eK, rN_ty, hr2, bg_op yb, bg_pp, hr3, bg_op zc, hr4, bg_of yd, bg_of zd, bg_of bd, bg_of be, bg_of bw, q0, q1, q2, q3, q4, q5, q6, q7, e_stepInitG, hrJ, eS, eT, eT2, eP]
    rw [← hrJ, zl_21, zl_22]
    omega
  · rw [d3 j x0 x1]
    unfold insV
    by_cases c : j < p
    · rw [if_pos c, if_pos c]
      exact (hop3 j x0 (by omega)).2
    · by_cases c2 : j = p
      · rw [if_neg c, if_pos c2, if_neg c, if_pos c2]
      · rw [if_neg c, if_neg c2, if_neg c, if_neg c2]
        exact (hop3 (j - 1) (by omega) (by omega)).2
end
