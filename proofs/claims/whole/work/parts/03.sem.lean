/-! THE SMALL SEMANTICS: what a piece of code does to locals and to the cells that are made since the law's start.
A heap: which object stands at an address (its kind and its fields or elements), the next address, the slots used. Kinds: 0 .. the classes (vwCl), 64 .. arrays (zTyA), 99 the script. -/
abbrev zHp : Type := (Nat → Option (Nat × List Value)) × Nat × Nat
abbrev zEnv : Type := List Value
abbrev zEx : Type := zEnv → zHp → Option (Value × zHp)
abbrev zCx : Type := zEnv → zHp → Option (Bool × zHp)
abbrev zOut : Type := (Nat × zEnv) ⊕ Option Value
abbrev zSt : Type := zEnv → zHp → Option (zOut × zHp)
abbrev zMt : Type := List Value → zHp → Option (Option Value × zHp)
/-- kinds of value: 0 int, 1 long, 2 double, 3 reference or null, 4 int that is 0 or 1 -/
def zTy : Nat → Value → Bool
  | 0, .int _ => true
  | 1, .long _ => true
  | 2, .double _ => true
  | 3, .ref _ => true
  | 3, .null => true
  | 4, .int v => v == 0 || v == 1
  | _, _ => false
def zCat (t : Nat) : Nat := if t = 1 ∨ t = 2 then 2 else 1
def zUp (h : Nat → Option (Nat × List Value)) (a : Nat) (o : Nat × List Value) : Nat → Option (Nat × List Value) := fun b => if b = a then some o else h b
def zSet (h : zHp) (a : Nat) (o : Nat × List Value) : zHp := (zUp h.1 a o, h.2.1, h.2.2)
def zAl (h : zHp) (n : Nat) (o : Nat × List Value) : zHp := (zUp h.1 h.2.1 o, h.2.1 + 1, h.2.2 + n)
def zFld (h : zHp) (a ci k : Nat) : Option Value := (h.1 a).bind fun o => if o.1 = ci then o.2[k]? else none
def zArr (h : zHp) (a t : Nat) : Option (List Value) := (h.1 a).bind fun o => if o.1 = t then some o.2 else none
def zRef : Value → Option Nat
  | .ref a => some a
  | _ => none
def zInt : Value → Option Int32
  | .int x => some x
  | _ => none
-- expressions
def zK (v : Value) : zEx := fun _ h => some (v, h)
def zL (ty k : Nat) : zEx := fun env h => if zTy ty (env.getD k .null) = true then some (env.getD k .null, h) else none
def z2 (f : Value → Value → Option Value) (A B : zEx) : zEx := fun env h => (A env h).bind fun p => (B env p.2).bind fun q => (f p.1 q.1).bind fun u => some (u, q.2)
def z1 (f : Value → Option Value) (A : zEx) : zEx := fun env h => (A env h).bind fun p => (f p.1).bind fun u => some (u, p.2)
def oI2 (f : Int32 → Int32 → Int32) : Value → Value → Option Value
  | .int x, .int y => some (.int (f x y))
  | _, _ => none
def oL2 (f : Int64 → Int64 → Int64) : Value → Value → Option Value
  | .long x, .long y => some (.long (f x y))
  | _, _ => none
def oIdiv : Value → Value → Option Value
  | .int x, .int y => if y = 0 then none else some (.int (x / y))
  | _, _ => none
def oIrem : Value → Value → Option Value
  | .int x, .int y => if y = 0 then none else some (.int (x - x / y * y))
  | _, _ => none
def oLdiv : Value → Value → Option Value
  | .long x, .long y => if y = 0 then none else some (.long (x / y))
  | _, _ => none
def oLrem : Value → Value → Option Value
  | .long x, .long y => if y = 0 then none else some (.long (x - x / y * y))
  | _, _ => none
def oLsh (f : Int64 → Int32 → Int64) : Value → Value → Option Value
  | .long x, .int y => some (.long (f x y))
  | _, _ => none
def oLcmp : Value → Value → Option Value
  | .long x, .long y => some (.int (lg_cmp x y))
  | _, _ => none
def oD2 (f : UInt64 → UInt64 → UInt64) : Value → Value → Option Value
  | .double x, .double y => if f x y &&& 0x7fffffffffffffff ≤ 0x7ff0000000000000 then some (.double (f x y)) else none
  | _, _ => none
def oDcmp (op : CmpOp) : Value → Value → Option Value
  | .double x, .double y => some (.int (Op.cmpValue (FP.dcmp x y) op))
  | _, _ => none
def oI1 (f : Int32 → Int32) : Value → Option Value
  | .int x => some (.int (f x))
  | _ => none
def oL1 (f : Int64 → Int64) : Value → Option Value
  | .long x => some (.long (f x))
  | _ => none
def oI2l : Value → Option Value
  | .int x => some (.long x.toInt64)
  | _ => none
def oL2i : Value → Option Value
  | .long x => some (.int x.toInt32)
  | _ => none
def oI2d : Value → Option Value
  | .int x => some (.double (FP.i2d x))
  | _ => none
def oL2d : Value → Option Value
  | .long x => some (.double (FP.l2d x))
  | _ => none
def oD2l : Value → Option Value
  | .double x => some (.long (FP.d2l x))
  | _ => none
def oD2raw : Value → Option Value
  | .double x => some (.long x.toInt64)
  | _ => none
/-- comparisons: 0 eq, 1 ne, 2 lt, 3 ge, 4 gt, 5 le -/
def zIc : Nat → Int32 → Int32 → Bool
  | 0, x, y => decide (x = y)
  | 1, x, y => decide (¬ x = y)
  | 2, x, y => decide (x < y)
  | 3, x, y => decide (y ≤ x)
  | 4, x, y => decide (y < x)
  | _, x, y => decide (x ≤ y)
def zTrue : zCx := fun _ h => some (true, h)
def zC2 (k : Nat) (A B : zEx) : zCx := fun env h => (A env h).bind fun p => (B env p.2).bind fun q => (zInt p.1).bind fun x => (zInt q.1).bind fun y => some (zIc k x y, q.2)
def zC1 (k : Nat) (A : zEx) : zCx := fun env h => (A env h).bind fun p => (zInt p.1).bind fun x => some (zIc k x 0, p.2)
def zNul : Value → Option Bool
  | .null => some true
  | .ref _ => some false
  | _ => none
def zCn (A : zEx) : zCx := fun env h => (A env h).bind fun p => (zNul p.1).bind fun b => some (b, p.2)
def zNot (A : zCx) : zCx := fun env h => (A env h).bind fun p => some (!p.1, p.2)
def zAnd (A B : zCx) : zCx := fun env h => (A env h).bind fun p => if p.1 = true then B env p.2 else some (false, p.2)
def zOr (A B : zCx) : zCx := fun env h => (A env h).bind fun p => if p.1 = true then some (true, p.2) else B env p.2
def zCi (C A B : zCx) : zCx := fun env h => (C env h).bind fun p => if p.1 = true then A env p.2 else B env p.2
def zIte (C : zCx) (A B : zEx) : zEx := fun env h => (C env h).bind fun p => if p.1 = true then A env p.2 else B env p.2
/-- a condition as a value -/
def zBx (C : zCx) : zEx := zIte C (zK (.int 1)) (zK (.int 0))
def zGf (ty ci k : Nat) (A : zEx) : zEx := fun env h => (A env h).bind fun p => (zRef p.1).bind fun a => (zFld p.2 a ci k).bind fun v => if zTy ty v = true then some (v, p.2) else none
def zLen (t : Nat) (A : zEx) : zEx := fun env h => (A env h).bind fun p => (zRef p.1).bind fun a => (zArr p.2 a t).bind fun vs => some (.int (Int32.ofNat vs.length), p.2)
def zIx (vs : List Value) (i : Int32) : Option Value := if i < 0 then none else vs[i.toNatClampNeg]?
def zAx (ty t : Nat) (A I : zEx) : zEx := fun env h => (A env h).bind fun p => (I env p.2).bind fun q => (zRef p.1).bind fun a => (zInt q.1).bind fun i => (zArr q.2 a t).bind fun vs => (zIx vs i).bind fun v => if zTy ty v = true then some (v, q.2) else none
def zNa (t : Nat) (d : Value) (A : zEx) : zEx := fun env h => (A env h).bind fun p => (zInt p.1).bind fun i => if 0 ≤ i ∧ i ≤ 1000000 then some (.ref p.2.2.1, zAl p.2 i.toNatClampNeg (t, List.replicate i.toNatClampNeg d)) else none
def zEs : List zEx → zEnv → zHp → Option (List Value × zHp)
  | [], _, h => some ([], h)
  | A :: As, env, h => (A env h).bind fun p => (zEs As env p.2).bind fun q => some (p.1 :: q.1, q.2)
/-- a static call, a call on an object of kind ci -/
def zCs (F : zMt) (As : List zEx) : zEnv → zHp → Option (Option Value × zHp) := fun env h => (zEs As env h).bind fun p => F p.1 p.2
def zTag (h : zHp) (vs : List Value) (ci : Nat) : Bool := match vs with
  | .ref a :: _ => match h.1 a with
    | some o => o.1 == ci
    | none => false
  | _ => false
def zCv (ci : Nat) (F : zMt) (As : List zEx) : zEnv → zHp → Option (Option Value × zHp) := fun env h => (zEs As env h).bind fun p => if zTag p.2 p.1 ci = true then F p.1 p.2 else none
/-- an answer of a kind -/
def zAn (ty : Nat) (G : zEnv → zHp → Option (Option Value × zHp)) : zEx := fun env h => (G env h).bind fun p => p.1.bind fun v => if zTy ty v = true then some (v, p.2) else none
def zNew (ci n : Nat) (ds : List Value) (F : zMt) (As : List zEx) : zEx := fun env h => (zEs As env (zAl h n (ci, ds))).bind fun p => (F (.ref h.2.1 :: p.1) p.2).bind fun q => if q.1 = none then some (.ref h.2.1, q.2) else none
-- statements
def zSkip : zSt := fun env h => some (.inl (0, env), h)
def zAsg (k : Nat) (A : zEx) : zSt := fun env h => (A env h).bind fun p => some (.inl (0, env.set k p.1), p.2)
def zPut (h : zHp) (a ci k ty : Nat) (v : Value) : Option zHp := (h.1 a).bind fun o => if o.1 = ci ∧ k < o.2.length ∧ zTy ty v = true then some (zSet h a (ci, o.2.set k v)) else none
def zPf (ty ci k : Nat) (A B : zEx) : zSt := fun env h => (A env h).bind fun p => (B env p.2).bind fun q => (zRef p.1).bind fun a => (zPut q.2 a ci k ty q.1).bind fun h' => some (.inl (0, env), h')
def zPfo (ty ci k : Nat) (f : Value → Value → Option Value) (A B : zEx) : zSt := fun env h => (A env h).bind fun p => (zRef p.1).bind fun a => (zFld p.2 a ci k).bind fun v => if zTy ty v = true then (B env p.2).bind fun q => (f v q.1).bind fun w => (zPut q.2 a ci k ty w).bind fun h' => some (.inl (0, env), h') else none
/-- what may be put into an array of kind t: for rows of references an object of the row's kind, or null -/
def zEl (h : zHp) (c : Option Nat) (v : Value) : Bool := match c with
  | none => true
  | some ci => match v with
    | .null => decide (ci < 64)
    | .ref a => match h.1 a with
      | some o => o.1 == ci
      | none => false
    | _ => false
def zEm (h : zHp) (c : Option Nat) (v : Value) : Bool := match v with
  | .null => true
  | w => zEl h c w
def zStr (h : zHp) (a t : Nat) (c : Option Nat) (ty : Nat) (i : Int32) (v : Value) : Option zHp := (zArr h a t).bind fun vs => if ¬ i < 0 ∧ i.toNatClampNeg < vs.length ∧ zTy ty v = true ∧ zEl h c v = true then some (zSet h a (t, vs.set i.toNatClampNeg v)) else none
def zAs (ty t : Nat) (c : Option Nat) (A I B : zEx) : zSt := fun env h => (A env h).bind fun p => (I env p.2).bind fun q => (B env q.2).bind fun r => (zRef p.1).bind fun a => (zInt q.1).bind fun i => (zStr r.2 a t c ty i r.1).bind fun h' => some (.inl (0, env), h')
def zAso (ty t : Nat) (f : Value → Value → Option Value) (A I B : zEx) : zSt := fun env h => (A env h).bind fun p => (I env p.2).bind fun q => (zRef p.1).bind fun a => (zInt q.1).bind fun i => (zArr q.2 a t).bind fun vs => (zIx vs i).bind fun v => if zTy ty v = true then (B env q.2).bind fun r => (f v r.1).bind fun w => (zStr r.2 a t none ty i w).bind fun h' => some (.inl (0, env), h') else none
/-- what is answered is let go -/
def zDo (G : zEnv → zHp → Option (Option Value × zHp)) : zSt := fun env h => (G env h).bind fun p => some (.inl (0, env), p.2)
/-- Object's constructor -/
def zObj : zSt := zDo fun env h => (zL 3 0 env h).bind fun p => (zRef p.1).bind fun _ => some (none, p.2)
def zRet (A : zEx) : zSt := fun env h => (A env h).bind fun p => some (.inr (some p.1), p.2)
def zRetV : zSt := fun _ h => some (.inr none, h)
def zSeq (A B : zSt) : zSt := fun env h => (A env h).bind fun p => match p.1 with
  | .inl (0, env') => B env' p.2
  | o => some (o, p.2)
def zIf (C : zCx) (A B : zSt) : zSt := fun env h => (C env h).bind fun p => if p.1 = true then A env p.2 else B env p.2
def zBrk : zSt := fun env h => some (.inl (1, env), h)
def zCnt : zSt := fun env h => some (.inl (2, env), h)
def zCl (lo : Nat) (env : zEnv) : zEnv := env.take lo ++ List.replicate (env.length - lo) .null
/-- the end of a block: the locals from lo on are let go -/
def zBl (lo : Nat) (A : zSt) : zSt := fun env h => (A env h).bind fun p => match p.1 with
  | .inl (k, env') => some (.inl (k, zCl lo env'), p.2)
  | o => some (o, p.2)
/-- a loop: condition, body, step (behind the body and behind 'continue') -/
def zLpN (C : zCx) (B S : zSt) : Nat → zSt
  | 0 => fun _ _ => none
  | n + 1 => fun env h => (C env h).bind fun c => if c.1 = true then (B env c.2).bind fun p => match p.1 with
      | .inr v => some (.inr v, p.2)
      | .inl (1, env') => some (.inl (0, env'), p.2)
      | .inl (_, env') => (S env' p.2).bind fun q => match q.1 with
        | .inl (_, env2) => zLpN C B S n env2 q.2
        | .inr v => some (.inr v, q.2)
    else some (.inl (0, env), c.2)
def zFuel : Nat := 1000000
def zLp (C : zCx) (B S : zSt) : zSt := zLpN C B S zFuel
/-- a switch: which branch for which number (the last one: default); 'break' ends it -/
def zSw (A : zEx) (f : Int32 → Nat) (Bs : List zSt) : zSt := fun env h => (A env h).bind fun p => (zInt p.1).bind fun x => (Bs.getD (f x) zSkip env p.2).bind fun q => match q.1 with
  | .inl (1, env') => some (.inl (0, env'), q.2)
  | o => some (o, q.2)
/-- a copy of a stretch of a row -/
def zCpL (xs ys : List Value) (sp dp n : Nat) : List Value := (List.range ys.length).map fun k => if dp ≤ k ∧ k < dp + n then xs.getD (sp + (k - dp)) .null else ys.getD k .null
def zCopy (t : Nat) (c : Option Nat) (A SP B DP N : zEx) : zSt := fun env h => (zEs [A, SP, B, DP, N] env h).bind fun p => match p.1 with
  | [.ref a, .int sp, .ref b, .int dp, .int n] => (zArr p.2 a t).bind fun xs => (zArr p.2 b t).bind fun ys => if ¬ sp < 0 ∧ ¬ dp < 0 ∧ ¬ n < 0 ∧ sp.toNatClampNeg + n.toNatClampNeg ≤ xs.length ∧ dp.toNatClampNeg + n.toNatClampNeg ≤ ys.length ∧ (xs.all fun v => zTy 3 v && zEm p.2 c v) = true then some (.inl (0, env), zSet p.2 b (t, zCpL xs ys sp.toNatClampNeg dp.toNatClampNeg n.toNatClampNeg)) else none
  | _ => none
/-- the locals at the start: a long takes two -/
def zLay : List Nat → List Value → List Value
  | [], _ => []
  | _ :: _, [] => []
  | ty :: ts, v :: vs => if zCat ty = 2 then v :: .null :: zLay ts vs else v :: zLay ts vs
def zArgs : List Nat → List Value → Bool
  | [], [] => true
  | ty :: ts, v :: vs => zTy ty v && zArgs ts vs
  | _, _ => false
def zWds (ts : List Nat) : Nat := (ts.map zCat).sum
/-- a method: kinds of its arguments, locals, kind of its answer (9: none), body -/
def zMeth (ts : List Nat) (nL rt : Nat) (S : zSt) : zMt := fun av h => if zArgs ts av = true then (S (zLay ts av ++ List.replicate (nL - zWds ts) .null) h).bind fun p => if h.2.1 ≤ p.2.2.1 ∧ h.2.2 ≤ p.2.2.2 then (match p.1 with
    | .inr (some v) => if zTy rt v = true then some (some v, p.2) else none
    | .inr none => if rt = 9 then some (none, p.2) else none
    | .inl _ => none) else none
  else none
/-- heaps that grow -/
def zLe (h h' : zHp) : Prop := h.2.1 ≤ h'.2.1 ∧ h.2.2 ≤ h'.2.2
theorem zLe.rf {h : zHp} : zLe h h := ⟨Nat.le_refl _, Nat.le_refl _⟩
theorem zLe.tr {a b c : zHp} (h1 : zLe a b) (h2 : zLe b c) : zLe a c := ⟨Nat.le_trans h1.1 h2.1, Nat.le_trans h1.2 h2.2⟩
def zStK (t : Nat) : Nat × Option Nat := if t = 64 then (0, none) else if t = 65 then (1, none) else if t = 66 then (4, none) else (3, [some 0, some 2, some 9, some 5, some 4, some 6, some 65].getD (t - 67) none)
def zSwF (lo : Int) (tab : List Nat) (d : Nat) (v : Int32) : Nat := if v.toInt < lo ∨ lo + tab.length ≤ v.toInt then d else tab.getD (v.toInt - lo).toNat d
