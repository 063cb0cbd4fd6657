/-! THE GATHERER: two are joined -/
section
variable {B tr n : Nat} {rad pw sm : Int} {gi : Nat → Int} {ga : Nat → Int → Value} {r : zHp} {s gh : Nat → Int → Int} {L : Int → BitVec 64}
theorem bg_pp {ty ci k a : Nat} {vs : List Value} {v : Value} (h : a < B ∨ B + 8 ≤ a) (hk : zIn k vs = true) (hv : zTy ty v = true) : zPfv ty ci k (bg B tr n rad pw sm gi ga (zSet r a (ci, vs))) (.ref a) v = some (bg B tr n rad pw sm gi ga (zSet r a (ci, vs.set k v))) := by rw [bg_op zs_s h hk hv, zs_z]
def opOut (op : Int → Int) (i : Int) : Int → Int := fun j => if j < i then op j else op (j + 1)
/-- the place of a joined one -/
def jA (s : Nat → Int → Int) (k e : Int) : Int := (jBody (s 0 14) (s 3 k) (s 4 k) (s 5 k) (s 3 e) (s 4 e) (s 5 e)).1
def jR (s : Nat → Int → Int) (k e : Int) : Int := (jBody (s 0 14) (s 3 k) (s 4 k) (s 5 k) (s 3 e) (s 4 e) (s 5 e)).2
/-- two are joined: the heap behind it -/
def rJ2 (r : zHp) (s : Nat → Int → Int) (L : Int → BitVec 64) (ka : Int → Nat) (k e t : Int) : zHp := zAl (zAl r 4 (0, [vi (s 0 10), vi (jA s k e), vi (jR s k e), vi (s 5 k + s 5 e)])) 7 (4, [.ref r.2.1, vB (L k ||| L e), .ref (ka k), .ref (ka e), vi t, .null, vi (-1)])
def rJ4 (r : zHp) (s gh : Nat → Int → Int) (L : Int → BitVec 64) (ka ba : Int → Nat) (k e t : Int) : zHp := zSet (zSet (rJ2 r s L ka k e t) (ka k) (4, [.ref (ba k), vB (L k), rN ka (s 6 k), rN ka (s 7 k), vi (gh 2 k), .ref (r.2.1 + 1), vi t])) (ka e) (4, [.ref (ba e), vB (L e), rN ka (s 6 e), rN ka (s 7 e), vi (gh 2 e), .ref (r.2.1 + 1), vi t])
def rJ (r : zHp) (s gh : Nat → Int → Int) (L : Int → BitVec 64) (ka ba : Int → Nat) (k e t : Int) : zHp := zAl (rJ4 r s gh L ka ba k e t) 5 (6, [vi k, vi e, vi (s 0 10), vl (upS s k e / gcdI (upS s k e) (dnS s k e)), vl (dnS s k e / gcdI (upS s k e) (dnS s k e))])
theorem rJ_2 {ka ba : Int → Nat} {k e t : Int} : (rJ r s gh L ka ba k e t).2.1 = r.2.1 + 3 ∧ (rJ r s gh L ka ba k e t).2.2 = r.2.2 + 16 := ⟨rfl, rfl⟩
/-- what was there stays, but for both parts -/
theorem rJ_o {ka ba : Int → Nat} {k e t : Int} {a : Nat} (h1 : a < r.2.1) (h2 : a ≠ ka k) (h3 : a ≠ ka e) : (rJ r s gh L ka ba k e t).1 a = r.1 a := by
  unfold rJ rJ4 rJ2
  rw [zl_n (by show a ≠ r.2.1 + 1 + 1; omega), zs_n h3, zs_n h2, zl_n (by show a ≠ r.2.1 + 1; omega), zl_n (by omega)]
theorem e_joinBest {op : Int → Int} {ka ba : Int → Nat} {k e t : Int} (ok : sOK s) (st : sSet s) (hs : s 0 14 = 0 ∨ s 0 14 = 1) (kn : KN B r s gh L ka ba) (ki : KI (s 0 10) ka) (hn : n ≤ 40) (n79 : s 0 10 < 79) (n2 : s 0 10 < 2 * n) (hr : B + 8 ≤ r.2.1) (o0 : 2 ≤ gi 0) (o1 : gi 0 ≤ n) (ho : ∀ i, 0 ≤ i → i < gi 0 → 0 ≤ op i ∧ op i < s 0 10) (hg : ∀ i, 0 ≤ i → i < gi 0 → ga 3 i = .ref (ka (op i))) (i0 : 0 ≤ gi 1) (i1 : gi 1 < gi 2) (i2 : gi 2 < gi 0) (hk : op (gi 1) = k) (he : op (gi 2) = e) (hke : k ≠ e) (h3 : gi 3 = upS s k e) (h4 : gi 4 = dnS s k e) (h5 : gi 5 = s 0 10) (s0 : 0 ≤ gi 6) (s1 : gi 6 < n) (hw : s 5 k + s 5 e ≤ 400000) :
    ∃ (gi' : Nat → Int) (ga' : Nat → Int → Value) (p : Int), F_Ga_joinBest [.ref B, vi t] (bg B tr n (s 0 12) (s 0 13) (s 0 14) gi ga r) = some (none, bg B tr n (s 0 12) (s 0 13) (s 0 14) gi' ga' (rJ r s gh L ka ba k e t)) ∧ gi' 0 = gi 0 - 1 ∧ gi' 5 = gi 5 + 1 ∧ gi' 6 = gi 6 + 1 ∧ gi' 7 = gi 7 ∧ (0 ≤ p ∧ p ≤ gi 0 - 2) ∧ (∀ i, ga' 0 i = if i = s 0 10 then .ref (r.2.1 + 1) else ga 0 i) ∧ (∀ u, ga' 1 u = if u = gi 6 then .ref (r.2.1 + 2) else ga 1 u) ∧ ga' 2 = ga 2 ∧ ga' 4 = ga 4 ∧ (∀ j, 0 ≤ j → j ≤ gi 0 - 2 → ga' 3 j = insV (fun j => .ref (ka (opOut (opOut op (gi 2)) (gi 1) j))) p (.ref (r.2.1 + 1)) j) ∧ (∀ j, p ≤ j → j < gi 0 - 2 → ahd (jA s k e) (jR s k e) (s 5 k + s 5 e) (s 0 10) (s 3 (opOut (opOut op (gi 2)) (gi 1) j)) (s 4 (opOut (opOut op (gi 2)) (gi 1) j)) (s 5 (opOut (opOut op (gi 2)) (gi 1) j)) (opOut (opOut op (gi 2)) (gi 1) j)) ∧ (p = 0 ∨ ¬ ahd (jA s k e) (jR s k e) (s 5 k + s 5 e) (s 0 10) (s 3 (opOut (opOut op (gi 2)) (gi 1) (p - 1))) (s 4 (opOut (opOut op (gi 2)) (gi 1) (p - 1))) (s 5 (opOut (opOut op (gi 2)) (gi 1) (p - 1))) (opOut (opOut op (gi 2)) (gi 1) (p - 1))) := by
  have ck := ho (gi 1) i0 (by omega)
  have ce := ho (gi 2) (by omega) i2
  rw [hk] at ck
  rw [he] at ce
  obtain ⟨y1, y2, y3, y4, y5⟩ := kn k ck.1 ck.2
  obtain ⟨z1, z2, z3, z4, z5⟩ := kn e ce.1 ce.2
  have okk := ok k ck.1 ck.2
  have oke := ok e ce.1 ce.2
  have uf := up_fine ok st (show cR s k e from ⟨ck, by omega⟩)
  have nke : ka e ≠ ka k := fun z => hke (ki k e ck.1 ck.2 ce.1 ce.2 z.symm)
  have nbk : ∀ x, 0 ≤ x → x < s 0 10 → ba x ≠ ka k ∧ ba x ≠ ka e := fun x x0 x1 => ⟨fun q => (by have := (kn x x0 x1).2.2.1; rw [q, y1] at this; cases this), fun q => (by have := (kn x x0 x1).2.2.1; rw [q, z1] at this; cases this)⟩
  have hg1 : ga 3 (gi 1) = .ref (ka k) := by rw [hg _ i0 (by omega), hk]
  have hg2 : ga 3 (gi 2) = .ref (ka e) := by rw [hg _ (by omega) i2, he]
  have y3' : r.1 (ba k) = some (0, [vi k, vi (s 3 k), vi (s 4 k), vi (s 5 k)]) := y3
  have z3' : r.1 (ba e) = some (0, [vi e, vi (s 3 e), vi (s 4 e), vi (s 5 e)]) := z3
  obtain ⟨gi1, hgi1, eB⟩ := e_joinedBody (B := B) (tr := tr) (n := n) (rad := s 0 12) (pw := s 0 13) (sm := s 0 14) (gi := gi) (ga := ga) y3' z3' y4 z4 hr (by omega) (by omega) okk.1.1 okk.1.2 okk.2.1.1 okk.2.1.2 okk.2.2.1 okk.2.2.2 oke.1.1 oke.1.2 oke.2.1.1 oke.2.1.2 oke.2.2.1 oke.2.2.2 hs
  rw [h5] at eB
  have y1' : r.1 (ka k) = some (4, [.ref (ba k), vB (L k), rN ka (s 6 k), rN ka (s 7 k), vi (gh 2 k), rN ka (gh 1 k), vi (gh 3 k)]) := y1
  have z1' : r.1 (ka e) = some (4, [.ref (ba e), vB (L e), rN ka (s 6 e), rN ka (s 7 e), vi (gh 2 e), rN ka (gh 1 e), vi (gh 3 e)]) := z1
  have eB' : F_Ga_joinedBody [.ref B, .ref (ba k), .ref (ba e)] (bg B tr n (s 0 12) (s 0 13) (s 0 14) gi ga r) = some (some (.ref r.2.1), bg B tr n (s 0 12) (s 0 13) (s 0 14) gi1 ga (zAl r 4 (0, [vi (s 0 10), vi (jA s k e), vi (jR s k e), vi (s 5 k + s 5 e)]))) := eB
  clear eB
  have hbig : ∀ a, a < r.2.1 → a ≠ ka k → a ≠ ka e → (rJ r s gh L ka ba k e t).1 a = r.1 a := fun a => rJ_o
  generalize hrJ : rJ r s gh L ka ba k e t = r5 at *
  unfold rJ rJ4 rJ2 at hrJ
  generalize hra : zAl r 4 (0, [vi (s 0 10), vi (jA s k e), vi (jR s k e), vi (s 5 k + s 5 e)]) = ra at *
  have ra2 : ra.2.1 = r.2.1 + 1 ∧ ra.2.2 = r.2.2 + 4 := by rw [← hra]; exact ⟨rfl, rfl⟩
  have raB : ra.1 r.2.1 = some (0, [vi (s 0 10), vi (jA s k e), vi (jR s k e), vi (s 5 k + s 5 e)]) := by rw [← hra]; exact zl_s
  have raO : ∀ a, a < r.2.1 → ra.1 a = r.1 a := fun a ha => by rw [← hra]; exact zl_n (by omega)
  have ya : ∀ {nn ob}, (zAl ra nn ob).1 (ka k) = _ := fun {nn ob} => ((zl_n (by omega)).trans (raO _ y2.2)).trans y1'
  have za : ∀ {nn ob}, (zAl ra nn ob).1 (ka e) = _ := fun {nn ob} => ((zl_n (by omega)).trans (raO _ z2.2)).trans z1'
  generalize hr2 : zAl ra 7 (4, [.ref r.2.1, vB (L k ||| L e), .ref (ka k), .ref (ka e), vi t, .null, vi (-1)]) = rb at *
  have rb2 : rb.2.1 = r.2.1 + 2 ∧ rb.2.2 = r.2.2 + 11 := by rw [← hr2, zl_21, zl_22, ra2.1, ra2.2]; exact ⟨rfl, rfl⟩
  have rbB : rb.1 r.2.1 = some (0, [vi (s 0 10), vi (jA s k e), vi (jR s k e), vi (s 5 k + s 5 e)]) := by rw [← hr2]; exact (zl_n (by omega)).trans raB
  have rbW : rb.1 (r.2.1 + 1) = some (4, [.ref r.2.1, vB (L k ||| L e), .ref (ka k), .ref (ka e), vi t, .null, vi (-1)]) := by rw [← hr2, ← ra2.1]; exact zl_s
  have rbO : ∀ a, a < r.2.1 → rb.1 a = r.1 a := fun a ha => by rw [← hr2]; exact (zl_n (by omega)).trans (raO a ha)
  have yb : rb.1 (ka k) = some (4, [.ref (ba k), vB (L k), rN ka (s 6 k), rN ka (s 7 k), vi (gh 2 k), rN ka (gh 1 k), vi (gh 3 k)]) := (rbO _ y2.2).trans y1'
  generalize hr3 : zSet rb (ka k) (4, [.ref (ba k), vB (L k), rN ka (s 6 k), rN ka (s 7 k), vi (gh 2 k), .ref (r.2.1 + 1), vi t]) = rc at *
  have rc2 : rc.2 = rb.2 := by rw [← hr3]; rfl
  have rcO : ∀ a, a ≠ ka k → rc.1 a = rb.1 a := fun a ha => by rw [← hr3]; exact zs_n ha
  have zc : rc.1 (ka e) = some (4, [.ref (ba e), vB (L e), rN ka (s 6 e), rN ka (s 7 e), vi (gh 2 e), rN ka (gh 1 e), vi (gh 3 e)]) := (rcO _ nke).trans ((rbO _ z2.2).trans z1')
  have yc : rc.1 (ka k) = some (4, [.ref (ba k), vB (L k), rN ka (s 6 k), rN ka (s 7 k), vi (gh 2 k), .ref (r.2.1 + 1), vi t]) := by rw [← hr3]; exact zs_s
  generalize hr4 : zSet rc (ka e) (4, [.ref (ba e), vB (L e), rN ka (s 6 e), rN ka (s 7 e), vi (gh 2 e), .ref (r.2.1 + 1), vi t]) = rd at *
  have rd2 : rd.2.1 = r.2.1 + 2 ∧ rd.2.2 = r.2.2 + 11 := by rw [← hr4]; show rc.2.1 = _ ∧ rc.2.2 = _; rw [rc2]; exact rb2
  have rdO : ∀ a, a ≠ ka k → a ≠ ka e → rd.1 a = rb.1 a := fun a h1 h2 => by rw [← hr4]; exact (zs_n h2).trans (rcO a h1)
  have yd : ∀ {nn ob}, (zAl rd nn ob).1 (ka k) = some (4, [.ref (ba k), vB (L k), rN ka (s 6 k), rN ka (s 7 k), vi (gh 2 k), .ref (r.2.1 + 1), vi t]) := fun {nn ob} => (zl_n (by omega)).trans (by rw [← hr4]; exact (zs_n (fun q => nke q.symm)).trans yc)
  have zd : ∀ {nn ob}, (zAl rd nn ob).1 (ka e) = some (4, [.ref (ba e), vB (L e), rN ka (s 6 e), rN ka (s 7 e), vi (gh 2 e), .ref (r.2.1 + 1), vi t]) := fun {nn ob} => (zl_n (by omega)).trans (by rw [← hr4]; exact zs_s)
  have bd : ∀ {nn ob}, (zAl rd nn ob).1 (ba k) = _ := fun {nn ob} => (zl_n (by omega)).trans ((rdO _ (nbk k ck.1 ck.2).1 (nbk k ck.1 ck.2).2).trans ((rbO _ y5).trans y3'))
  have be : ∀ {nn ob}, (zAl rd nn ob).1 (ba e) = _ := fun {nn ob} => (zl_n (by omega)).trans ((rdO _ (nbk e ce.1 ce.2).1 (nbk e ce.1 ce.2).2).trans ((rbO _ z5).trans z3'))
  have bw : ∀ {nn ob}, (zAl rd nn ob).1 r.2.1 = _ := fun {nn ob} => (zl_n (by omega)).trans ((rdO _ (by omega) (by omega)).trans rbB)
  have hrd : B + 8 ≤ rd.2.1 := by omega
  have hra8 : B + 8 ≤ ra.2.1 := by omega
  -- what the last heap says
  have W5 : r5.1 (r.2.1 + 1) = some (4, [.ref r.2.1, vB (L k ||| L e), .ref (ka k), .ref (ka e), vi t, .null, vi (-1)]) := by rw [← hrJ]; exact (zl_n (by omega)).trans ((rdO _ (by omega) (by omega)).trans rbW)
  have B5 : r5.1 r.2.1 = some (0, [vi (s 0 10), vi (jA s k e), vi (jR s k e), vi (s 5 k + s 5 e)]) := by rw [← hrJ]; exact bw
  have S5 : r5.1 rd.2.1 = some (6, [vi k, vi e, vi (s 0 10), vl (upS s k e / gcdI (upS s k e) (dnS s k e)), vl (dnS s k e / gcdI (upS s k e) (dnS s k e))]) := by rw [← hrJ]; exact zl_s
  have F : ∀ x, 0 ≤ x → x < s 0 10 → (∃ vs, r5.1 (ka x) = some (4, .ref (ba x) :: vs)) ∧ r5.1 (ba x) = some (0, [vi x, vi (s 3 x), vi (s 4 x), vi (s 5 x)]) := by
    intro x x0 x1
    obtain ⟨a1, a2, a3, a4, a5⟩ := kn x x0 x1
    constructor
    · by_cases c : x = k
      · rw [c, ← hrJ]; exact ⟨_, yd⟩
      · by_cases c2 : x = e
        · rw [c2, ← hrJ]; exact ⟨_, zd⟩
        · exact ⟨(kV s gh L ka ba x).tail, (hbig _ a2.2 (fun q => c (ki x k x0 x1 ck.1 ck.2 q)) (fun q => c2 (ki x e x0 x1 ce.1 ce.2 q))).trans a1⟩
    · exact (hbig _ a5 (nbk x x0 x1).1 (nbk x x0 x1).2).trans a3
  sorry
end
