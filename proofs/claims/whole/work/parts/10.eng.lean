/-! EVALUATION: what a piece of code does, as a continuation (a continuation is never looked into before what it waits for is a value) -/
def vi (x : Int) : Value := .int (Int32.ofInt x)
def vl (x : Int) : Value := .long (Int64.ofInt x)
def vb (b : Bool) : Value := .int (if b = true then 1 else 0)
def zU {α : Type} (_ : α) : Type := Unit
def zu {α : Type} (Q : α) : zU Q := ()
def wX {α : Type} (Q : α → Prop) (x : α) (_ : zU Q) : Prop := Q x
def wO {α : Type} (Q : α → Prop) (x : Option α) (_ : zU Q) : Prop := ∃ v, x = some v ∧ Q v
def wI (P : Prop × Prop) (b : Bool) (_ : zU P) : Prop := (b = true → P.1) ∧ (b = false → P.2)
def wE (Q : Value → zHp → Prop) (A : zEx) (env : zEnv) (h : zHp) (_ : zU Q) : Prop := ∃ v h', A env h = some (v, h') ∧ Q v h'
def wC (Q : Bool → zHp → Prop) (C : zCx) (env : zEnv) (h : zHp) (_ : zU Q) : Prop := ∃ v h', C env h = some (v, h') ∧ Q v h'
def wA (Q : List Value → zHp → Prop) (As : List zEx) (env : zEnv) (h : zHp) (_ : zU Q) : Prop := ∃ v h', zEs As env h = some (v, h') ∧ Q v h'
def wK (Q : Option Value → zHp → Prop) (G : zEnv → zHp → Option (Option Value × zHp)) (env : zEnv) (h : zHp) (_ : zU Q) : Prop := ∃ v h', G env h = some (v, h') ∧ Q v h'
def wS (Q : zOut → zHp → Prop) (S : zSt) (env : zEnv) (h : zHp) (_ : zU Q) : Prop := ∃ o h', S env h = some (o, h') ∧ Q o h'
theorem wX_r {α : Type} {Q : α → Prop} {x : α} {u : zU Q} : wX Q x u = Q x := propext ⟨id, id⟩
theorem wO_s {α : Type} {Q : α → Prop} {x : α} {u : zU Q} : wO Q (some x) u = Q x := propext ⟨fun ⟨v, e, q⟩ => by cases e; exact q, fun q => ⟨x, rfl, q⟩⟩
theorem wI_t {P : Prop × Prop} {u : zU P} : wI P true u = P.1 := propext ⟨fun q => q.1 rfl, fun q => ⟨fun _ => q, fun e => (by cases e)⟩⟩
theorem wI_f {P : Prop × Prop} {u : zU P} : wI P false u = P.2 := propext ⟨fun q => q.2 rfl, fun q => ⟨fun e => (by cases e), fun _ => q⟩⟩
theorem wI_i {P : Prop × Prop} {b : Bool} {u : zU P} (h1 : b = true → P.1) (h2 : b = false → P.2) : wI P b u := ⟨h1, h2⟩
/-- a value of a kind -/
def zTv (ty : Nat) (v : Value) : Option Value := if zTy ty v = true then some v else none
def zTo (ty : Nat) (o : Option Value) : Option Value := o.bind (zTv ty)
def zLk (ty : Nat) : Nat → zEnv → Option Value
  | _, [] => zTv ty .null
  | 0, v :: _ => zTv ty v
  | k + 1, _ :: e => zLk ty k e
theorem zLk_eq (ty : Nat) : ∀ (k : Nat) (env : zEnv), zLk ty k env = zTv ty (env.getD k .null)
  | _, [] => by simp [zLk]
  | 0, _ :: _ => by simp [zLk]
  | k + 1, _ :: e => by simp [zLk, zLk_eq ty k e]
theorem zLk_0 {ty : Nat} {v : Value} {e : zEnv} : zLk ty 0 (v :: e) = zTv ty v := rfl
theorem zLk_s {ty k : Nat} {v : Value} {e : zEnv} : zLk ty (k + 1) (v :: e) = zLk ty k e := rfl
theorem zTv_vi {x : Int} : zTv 0 (vi x) = some (vi x) := rfl
theorem zTv_vb {b : Bool} : zTv 0 (vb b) = some (vb b) := rfl
theorem zTv_vl {x : Int} : zTv 1 (vl x) = some (vl x) := rfl
theorem zTv_d {x : UInt64} : zTv 2 (.double x) = some (.double x) := rfl
theorem zTv_r {a : Nat} : zTv 3 (.ref a) = some (.ref a) := rfl
theorem zTv_n : zTv 3 .null = some .null := rfl
theorem zTv_4 {b : Bool} : zTv 4 (vb b) = some (vb b) := by cases b <;> rfl
theorem zTo_s {ty : Nat} {v : Value} : zTo ty (some v) = zTv ty v := rfl
-- expressions
theorem rK {Q : Value → zHp → Prop} {v : Value} {env : zEnv} {h : zHp} {u : zU Q} : wE Q (zK v) env h u = wX (fun v => Q v h) v (zu _) := propext ⟨fun ⟨_, _, e, q⟩ => by cases e; exact q, fun q => ⟨_, _, rfl, q⟩⟩
theorem rKi {Q : Value → zHp → Prop} {v : Int32} {env : zEnv} {h : zHp} {u : zU Q} : wE Q (zK (.int v)) env h u = wX (fun v => Q v h) (vi v.toInt) (zu _) := by
  rw [rK, show vi v.toInt = .int v by unfold vi; rw [Int32.ofInt_toInt]]
theorem rKl {Q : Value → zHp → Prop} {v : Int64} {env : zEnv} {h : zHp} {u : zU Q} : wE Q (zK (.long v)) env h u = wX (fun v => Q v h) (vl v.toInt) (zu _) := by
  rw [rK, show vl v.toInt = .long v by unfold vl; rw [Int64.ofInt_toInt]]
theorem rKn {Q : Value → zHp → Prop} {env : zEnv} {h : zHp} {u : zU Q} : wE Q (zK .null) env h u = Q .null h := rK
theorem rKd {Q : Value → zHp → Prop} {v : UInt64} {env : zEnv} {h : zHp} {u : zU Q} : wE Q (zK (.double v)) env h u = Q (.double v) h := rK
theorem rL {Q : Value → zHp → Prop} {ty k : Nat} {env : zEnv} {h : zHp} {u : zU Q} : wE Q (zL ty k) env h u = wO (fun v => Q v h) (zLk ty k env) (zu _) := by
  rw [zLk_eq]
  refine propext ⟨fun ⟨v, h', e, q⟩ => ?_, fun ⟨v, e, q⟩ => ?_⟩
  · unfold zL at e
    split at e
    next c => cases e; exact ⟨_, by unfold zTv; rw [if_pos c], q⟩
    next => cases e
  · unfold zTv at e
    split at e
    next c => cases e; exact ⟨_, _, by unfold zL; rw [if_pos c], q⟩
    next => cases e
theorem zBi {α β : Type} {x : Option α} {f : α → Option β} {b : β} : x.bind f = some b ↔ ∃ a, x = some a ∧ f a = some b := Option.bind_eq_some_iff
theorem r2 {Q : Value → zHp → Prop} {f : Value → Value → Option Value} {A B : zEx} {env : zEnv} {h : zHp} {u : zU Q} : wE Q (z2 f A B) env h u = wE (fun x h1 => wE (fun y h2 => wO (fun z => Q z h2) (f x y) (zu _)) B env h1 (zu _)) A env h (zu _) := by
  refine propext ⟨fun ⟨v, h', e, q⟩ => ?_, fun ⟨x, h1, e1, y, h2, e2, z, e3, q⟩ => ?_⟩
  · obtain ⟨⟨x, h1⟩, e1, e⟩ := zBi.mp e
    obtain ⟨⟨y, h2⟩, e2, e⟩ := zBi.mp e
    obtain ⟨z, e3, e⟩ := zBi.mp e
    cases e
    exact ⟨x, h1, e1, y, h2, e2, _, e3, q⟩
  · exact ⟨z, h2, by simp only [z2, e1, e2, e3, Option.bind_some], q⟩
theorem r1 {Q : Value → zHp → Prop} {f : Value → Option Value} {A : zEx} {env : zEnv} {h : zHp} {u : zU Q} : wE Q (z1 f A) env h u = wE (fun x h1 => wO (fun z => Q z h1) (f x) (zu _)) A env h (zu _) := by
  refine propext ⟨fun ⟨v, h', e, q⟩ => ?_, fun ⟨x, h1, e1, z, e3, q⟩ => ?_⟩
  · obtain ⟨⟨x, h1⟩, e1, e⟩ := zBi.mp e
    obtain ⟨z, e3, e⟩ := zBi.mp e
    cases e
    exact ⟨x, h1, e1, _, e3, q⟩
  · exact ⟨z, h1, by simp only [z1, e1, e3, Option.bind_some], q⟩
def zC2v (k : Nat) (p q : Value) : Option Bool := (zInt p).bind fun x => (zInt q).bind fun y => some (zIc k x y)
def zC1v (k : Nat) (p : Value) : Option Bool := (zInt p).bind fun x => some (zIc k x 0)
theorem rC2 {Q : Bool → zHp → Prop} {k : Nat} {A B : zEx} {env : zEnv} {h : zHp} {u : zU Q} : wC Q (zC2 k A B) env h u = wE (fun x h1 => wE (fun y h2 => wO (fun z => Q z h2) (zC2v k x y) (zu _)) B env h1 (zu _)) A env h (zu _) := by
  refine propext ⟨fun ⟨v, h', e, q⟩ => ?_, fun ⟨x, h1, e1, y, h2, e2, z, e3, q⟩ => ?_⟩
  · obtain ⟨⟨x, h1⟩, e1, e⟩ := zBi.mp e
    obtain ⟨⟨y, h2⟩, e2, e⟩ := zBi.mp e
    obtain ⟨a, e3, e⟩ := zBi.mp e
    obtain ⟨b, e4, e⟩ := zBi.mp e
    cases e
    exact ⟨x, h1, e1, y, h2, e2, _, zBi.mpr ⟨a, e3, zBi.mpr ⟨b, e4, rfl⟩⟩, q⟩
  · obtain ⟨a, f3, e⟩ := zBi.mp e3
    obtain ⟨b, f4, e⟩ := zBi.mp e
    cases e
    refine ⟨_, h2, ?_, q⟩
    simp only [zC2, e1, e2, f3, f4, Option.bind_some]
theorem rC1 {Q : Bool → zHp → Prop} {k : Nat} {A : zEx} {env : zEnv} {h : zHp} {u : zU Q} : wC Q (zC1 k A) env h u = wE (fun x h1 => wO (fun z => Q z h1) (zC1v k x) (zu _)) A env h (zu _) := by
  refine propext ⟨fun ⟨v, h', e, q⟩ => ?_, fun ⟨x, h1, e1, z, e3, q⟩ => ?_⟩
  · obtain ⟨⟨x, h1⟩, e1, e⟩ := zBi.mp e
    obtain ⟨a, e3, e⟩ := zBi.mp e
    cases e
    exact ⟨x, h1, e1, _, zBi.mpr ⟨a, e3, rfl⟩, q⟩
  · obtain ⟨a, f3, e⟩ := zBi.mp e3
    cases e
    refine ⟨_, h1, ?_, q⟩
    simp only [zC1, e1, f3, Option.bind_some]
theorem rCn {Q : Bool → zHp → Prop} {A : zEx} {env : zEnv} {h : zHp} {u : zU Q} : wC Q (zCn A) env h u = wE (fun x h1 => wO (fun z => Q z h1) (zNul x) (zu _)) A env h (zu _) := by
  refine propext ⟨fun ⟨v, h', e, q⟩ => ?_, fun ⟨x, h1, e1, z, e3, q⟩ => ?_⟩
  · obtain ⟨⟨x, h1⟩, e1, e⟩ := zBi.mp e
    obtain ⟨z, e3, e⟩ := zBi.mp e
    cases e
    exact ⟨x, h1, e1, _, e3, q⟩
  · exact ⟨z, h1, by simp only [zCn, e1, e3, Option.bind_some], q⟩
theorem rNot {Q : Bool → zHp → Prop} {A : zCx} {env : zEnv} {h : zHp} {u : zU Q} : wC Q (zNot A) env h u = wC (fun b h1 => wX (fun b => Q b h1) (!b) (zu _)) A env h (zu _) := by
  refine propext ⟨fun ⟨v, h', e, q⟩ => ?_, fun ⟨x, h1, e1, q⟩ => ?_⟩
  · obtain ⟨⟨x, h1⟩, e1, e⟩ := zBi.mp e
    cases e
    exact ⟨x, h1, e1, q⟩
  · exact ⟨_, h1, by simp only [zNot, e1, Option.bind_some], q⟩
theorem rAnd {Q : Bool → zHp → Prop} {A B : zCx} {env : zEnv} {h : zHp} {u : zU Q} : wC Q (zAnd A B) env h u = wC (fun b h1 => wI (wC Q B env h1 (zu _), Q false h1) b (zu _)) A env h (zu _) := by
  refine propext ⟨fun ⟨v, h', e, q⟩ => ?_, fun ⟨x, h1, e1, q⟩ => ?_⟩
  · obtain ⟨⟨x, h1⟩, e1, e⟩ := zBi.mp e
    refine ⟨x, h1, e1, ?_⟩
    cases x with
    | true => exact ⟨fun _ => ⟨v, h', e, q⟩, fun c => (by cases c)⟩
    | false => cases e; exact ⟨fun c => (by cases c), fun _ => q⟩
  · cases x with
    | true => obtain ⟨v, h', e, q⟩ := q.1 rfl; exact ⟨v, h', by simp only [zAnd, e1, Option.bind_some, if_true]; exact e, q⟩
    | false => exact ⟨false, h1, by simp [zAnd, e1], q.2 rfl⟩
theorem rOr {Q : Bool → zHp → Prop} {A B : zCx} {env : zEnv} {h : zHp} {u : zU Q} : wC Q (zOr A B) env h u = wC (fun b h1 => wI (Q true h1, wC Q B env h1 (zu _)) b (zu _)) A env h (zu _) := by
  refine propext ⟨fun ⟨v, h', e, q⟩ => ?_, fun ⟨x, h1, e1, q⟩ => ?_⟩
  · obtain ⟨⟨x, h1⟩, e1, e⟩ := zBi.mp e
    refine ⟨x, h1, e1, ?_⟩
    cases x with
    | false => exact ⟨fun c => (by cases c), fun _ => ⟨v, h', e, q⟩⟩
    | true => cases e; exact ⟨fun _ => q, fun c => (by cases c)⟩
  · cases x with
    | false => obtain ⟨v, h', e, q⟩ := q.2 rfl; exact ⟨v, h', by simp [zOr, e1, e], q⟩
    | true => exact ⟨true, h1, by simp [zOr, e1], q.1 rfl⟩
theorem rCi {Q : Bool → zHp → Prop} {C A B : zCx} {env : zEnv} {h : zHp} {u : zU Q} : wC Q (zCi C A B) env h u = wC (fun b h1 => wI (wC Q A env h1 (zu _), wC Q B env h1 (zu _)) b (zu _)) C env h (zu _) := by
  refine propext ⟨fun ⟨v, h', e, q⟩ => ?_, fun ⟨x, h1, e1, q⟩ => ?_⟩
  · obtain ⟨⟨x, h1⟩, e1, e⟩ := zBi.mp e
    refine ⟨x, h1, e1, ?_⟩
    cases x with
    | false => exact ⟨fun c => (by cases c), fun _ => ⟨v, h', e, q⟩⟩
    | true => exact ⟨fun _ => ⟨v, h', e, q⟩, fun c => (by cases c)⟩
  · cases x with
    | false => obtain ⟨v, h', e, q⟩ := q.2 rfl; exact ⟨v, h', by simp [zCi, e1, e], q⟩
    | true => obtain ⟨v, h', e, q⟩ := q.1 rfl; exact ⟨v, h', by simp [zCi, e1, e], q⟩
theorem rIte {Q : Value → zHp → Prop} {C : zCx} {A B : zEx} {env : zEnv} {h : zHp} {u : zU Q} : wE Q (zIte C A B) env h u = wC (fun b h1 => wI (wE Q A env h1 (zu _), wE Q B env h1 (zu _)) b (zu _)) C env h (zu _) := by
  refine propext ⟨fun ⟨v, h', e, q⟩ => ?_, fun ⟨x, h1, e1, q⟩ => ?_⟩
  · obtain ⟨⟨x, h1⟩, e1, e⟩ := zBi.mp e
    refine ⟨x, h1, e1, ?_⟩
    cases x with
    | false => exact ⟨fun c => (by cases c), fun _ => ⟨v, h', e, q⟩⟩
    | true => exact ⟨fun _ => ⟨v, h', e, q⟩, fun c => (by cases c)⟩
  · cases x with
    | false => obtain ⟨v, h', e, q⟩ := q.2 rfl; exact ⟨v, h', by simp [zIte, e1, e], q⟩
    | true => obtain ⟨v, h', e, q⟩ := q.1 rfl; exact ⟨v, h', by simp [zIte, e1, e], q⟩
/-- a condition as a value -/
theorem rBx {Q : Value → zHp → Prop} {C : zCx} {env : zEnv} {h : zHp} {u : zU Q} : wE Q (zBx C) env h u = wC (fun b h1 => wX (fun b => Q (vb b) h1) b (zu _)) C env h (zu _) := by
  show wE Q (zIte C (zK (.int 1)) (zK (.int 0))) env h u = _
  rw [rIte]
  refine propext ⟨fun ⟨x, h1, e1, q⟩ => ⟨x, h1, e1, ?_⟩, fun ⟨x, h1, e1, q⟩ => ⟨x, h1, e1, ?_⟩⟩
  · cases x with
    | false => have := q.2 rfl; simp only at this; rw [rK] at this; exact this
    | true => have := q.1 rfl; simp only at this; rw [rK] at this; exact this
  · cases x with
    | false => exact ⟨fun c => (by cases c), fun _ => (by simp only; rw [rK]; exact q)⟩
    | true => exact ⟨fun _ => (by simp only; rw [rK]; exact q), fun c => (by cases c)⟩
def zGfv (ty ci k : Nat) (h : zHp) (p : Value) : Option Value := (zRef p).bind fun a => (zFld h a ci k).bind (zTv ty)
theorem rGf {Q : Value → zHp → Prop} {ty ci k : Nat} {A : zEx} {env : zEnv} {h : zHp} {u : zU Q} : wE Q (zGf ty ci k A) env h u = wE (fun p h1 => wO (fun v => Q v h1) (zGfv ty ci k h1 p) (zu _)) A env h (zu _) := by
  refine propext ⟨fun ⟨v, h', e, q⟩ => ?_, fun ⟨x, h1, e1, z, e3, q⟩ => ?_⟩
  · obtain ⟨⟨x, h1⟩, e1, e⟩ := zBi.mp e
    obtain ⟨a, e2, e⟩ := zBi.mp e
    obtain ⟨w, e3, e⟩ := zBi.mp e
    split at e
    next c => cases e; exact ⟨x, h1, e1, _, zBi.mpr ⟨a, e2, zBi.mpr ⟨_, e3, by unfold zTv; rw [if_pos c]⟩⟩, q⟩
    next => cases e
  · obtain ⟨a, e2, e⟩ := zBi.mp e3
    obtain ⟨w, e3, e⟩ := zBi.mp e
    unfold zTv at e
    split at e
    next c => cases e; refine ⟨_, h1, ?_, q⟩; (try simp only at e2 e3); simp only [zGf, e1, e2, e3, Option.bind_some, c, if_true]
    next => cases e
def zLenv (t : Nat) (h : zHp) (p : Value) : Option Value := (zRef p).bind fun a => (zArr h a t).bind fun vs => some (.int (Int32.ofNat vs.length))
theorem rLen {Q : Value → zHp → Prop} {t : Nat} {A : zEx} {env : zEnv} {h : zHp} {u : zU Q} : wE Q (zLen t A) env h u = wE (fun p h1 => wO (fun v => Q v h1) (zLenv t h1 p) (zu _)) A env h (zu _) := by
  refine propext ⟨fun ⟨v, h', e, q⟩ => ?_, fun ⟨x, h1, e1, z, e3, q⟩ => ?_⟩
  · obtain ⟨⟨x, h1⟩, e1, e⟩ := zBi.mp e
    obtain ⟨a, e2, e⟩ := zBi.mp e
    obtain ⟨w, e3, e⟩ := zBi.mp e
    cases e
    exact ⟨x, h1, e1, _, zBi.mpr ⟨a, e2, zBi.mpr ⟨w, e3, rfl⟩⟩, q⟩
  · obtain ⟨a, f2, e⟩ := zBi.mp e3
    obtain ⟨w, f3, e⟩ := zBi.mp e
    cases e
    refine ⟨_, h1, ?_, q⟩
    simp only [zLen, e1, f2, f3, Option.bind_some]
def zAxv (ty t : Nat) (h : zHp) (p q : Value) : Option Value := (zRef p).bind fun a => (zInt q).bind fun i => (zArr h a t).bind fun vs => (zIx vs i).bind (zTv ty)
theorem rAx {Q : Value → zHp → Prop} {ty t : Nat} {A I : zEx} {env : zEnv} {h : zHp} {u : zU Q} : wE Q (zAx ty t A I) env h u = wE (fun p h1 => wE (fun i h2 => wO (fun v => Q v h2) (zAxv ty t h2 p i) (zu _)) I env h1 (zu _)) A env h (zu _) := by
  refine propext ⟨fun ⟨v, h', e, q⟩ => ?_, fun ⟨x, h1, e1, y, h2, e2, z, e3, q⟩ => ?_⟩
  · obtain ⟨⟨x, h1⟩, e1, e⟩ := zBi.mp e
    obtain ⟨⟨y, h2⟩, e2, e⟩ := zBi.mp e
    obtain ⟨a, e3, e⟩ := zBi.mp e
    obtain ⟨i, e4, e⟩ := zBi.mp e
    obtain ⟨vs, e5, e⟩ := zBi.mp e
    obtain ⟨w, e6, e⟩ := zBi.mp e
    split at e
    next c => cases e; exact ⟨x, h1, e1, y, h2, e2, _, zBi.mpr ⟨a, e3, zBi.mpr ⟨i, e4, zBi.mpr ⟨vs, e5, zBi.mpr ⟨_, e6, by unfold zTv; rw [if_pos c]⟩⟩⟩⟩, q⟩
    next => cases e
  · obtain ⟨a, e3, e⟩ := zBi.mp e3
    obtain ⟨i, e4, e⟩ := zBi.mp e
    obtain ⟨vs, e5, e⟩ := zBi.mp e
    obtain ⟨w, e6, e⟩ := zBi.mp e
    unfold zTv at e
    split at e
    next c => cases e; refine ⟨_, h2, ?_, q⟩; (try simp only at e3 e4 e5 e6); simp only [zAx, e1, e2, e3, e4, e5, e6, Option.bind_some, c, if_true]
    next => cases e
def zNav (t : Nat) (d : Value) (h : zHp) (p : Value) : Option (Value × zHp) := (zInt p).bind fun i => if 0 ≤ i ∧ i ≤ 1000000 then some (.ref h.2.1, zAl h i.toNatClampNeg (t, List.replicate i.toNatClampNeg d)) else none
theorem rNa {Q : Value → zHp → Prop} {t : Nat} {d : Value} {A : zEx} {env : zEnv} {h : zHp} {u : zU Q} : wE Q (zNa t d A) env h u = wE (fun p h1 => wO (fun v => Q v.1 v.2) (zNav t d h1 p) (zu _)) A env h (zu _) := by
  refine propext ⟨fun ⟨v, h', e, q⟩ => ?_, fun ⟨x, h1, e1, z, e3, q⟩ => ?_⟩
  · obtain ⟨⟨x, h1⟩, e1, e⟩ := zBi.mp e
    exact ⟨x, h1, e1, _, e, q⟩
  · exact ⟨z.1, z.2, by simp only [zNa, e1, Option.bind_some]; exact e3, q⟩
theorem rA0 {Q : List Value → zHp → Prop} {env : zEnv} {h : zHp} {u : zU Q} : wA Q [] env h u = Q [] h := propext ⟨fun ⟨_, _, e, q⟩ => by cases e; exact q, fun q => ⟨_, _, rfl, q⟩⟩
theorem rA1 {Q : List Value → zHp → Prop} {A : zEx} {As : List zEx} {env : zEnv} {h : zHp} {u : zU Q} : wA Q (A :: As) env h u = wE (fun v h1 => wA (fun vs h2 => Q (v :: vs) h2) As env h1 (zu _)) A env h (zu _) := by
  refine propext ⟨fun ⟨v, h', e, q⟩ => ?_, fun ⟨x, h1, e1, vs, h2, e2, q⟩ => ?_⟩
  · obtain ⟨⟨x, h1⟩, e1, e⟩ := zBi.mp e
    obtain ⟨⟨vs, h2⟩, e2, e⟩ := zBi.mp e
    cases e
    exact ⟨x, h1, e1, vs, h2, e2, q⟩
  · exact ⟨_, h2, by simp only [zEs, e1, e2, Option.bind_some], q⟩
theorem rCs {Q : Option Value → zHp → Prop} {F : zMt} {As : List zEx} {env : zEnv} {h : zHp} {u : zU Q} : wK Q (zCs F As) env h u = wA (fun vs h1 => wO (fun p => Q p.1 p.2) (F vs h1) (zu _)) As env h (zu _) := by
  refine propext ⟨fun ⟨v, h', e, q⟩ => ?_, fun ⟨vs, h1, e1, p, e2, q⟩ => ?_⟩
  · obtain ⟨⟨vs, h1⟩, e1, e⟩ := zBi.mp e
    exact ⟨vs, h1, e1, _, e, q⟩
  · exact ⟨p.1, p.2, by simp only [zCs, e1, Option.bind_some]; exact e2, q⟩
def zTgo (h : zHp) (vs : List Value) (ci : Nat) : Option Unit := if zTag h vs ci = true then some () else none
theorem rCv {Q : Option Value → zHp → Prop} {ci : Nat} {F : zMt} {As : List zEx} {env : zEnv} {h : zHp} {u : zU Q} : wK Q (zCv ci F As) env h u = wA (fun vs h1 => wO (fun _ => wO (fun p => Q p.1 p.2) (F vs h1) (zu _)) (zTgo h1 vs ci) (zu _)) As env h (zu _) := by
  refine propext ⟨fun ⟨v, h', e, q⟩ => ?_, fun ⟨vs, h1, e1, _, e0, p, e2, q⟩ => ?_⟩
  · obtain ⟨⟨vs, h1⟩, e1, e⟩ := zBi.mp e
    split at e
    next c => exact ⟨vs, h1, e1, (), by unfold zTgo; rw [if_pos c], _, e, q⟩
    next => cases e
  · unfold zTgo at e0
    split at e0
    next c => exact ⟨p.1, p.2, by simp only [zCv, e1, Option.bind_some]; rw [if_pos c]; exact e2, q⟩
    next => cases e0
theorem rAn {Q : Value → zHp → Prop} {ty : Nat} {G : zEnv → zHp → Option (Option Value × zHp)} {env : zEnv} {h : zHp} {u : zU Q} : wE Q (zAn ty G) env h u = wK (fun p h1 => wO (fun v => Q v h1) (zTo ty p) (zu _)) G env h (zu _) := by
  refine propext ⟨fun ⟨v, h', e, q⟩ => ?_, fun ⟨p, h1, e1, v, e2, q⟩ => ?_⟩
  · obtain ⟨⟨p, h1⟩, e1, e⟩ := zBi.mp e
    obtain ⟨w, e2, e⟩ := zBi.mp e
    split at e
    next c => cases e; exact ⟨p, h1, e1, _, zBi.mpr ⟨_, e2, by unfold zTv; rw [if_pos c]⟩, q⟩
    next => cases e
  · obtain ⟨w, e2, e⟩ := zBi.mp e2
    unfold zTv at e
    split at e
    next c => cases e; refine ⟨_, h1, ?_, q⟩; (try simp only at e2); simp only [zAn, e1, e2, Option.bind_some, c, if_true]
    next => cases e
theorem rNew {Q : Value → zHp → Prop} {ci n : Nat} {ds : List Value} {F : zMt} {As : List zEx} {env : zEnv} {h : zHp} {u : zU Q} : wE Q (zNew ci n ds F As) env h u = wX (fun h0 => wA (fun vs h1 => wO (fun p => p.1 = none ∧ Q (.ref h.2.1) p.2) (F (.ref h.2.1 :: vs) h1) (zu _)) As env h0 (zu _)) (zAl h n (ci, ds)) (zu _) := by
  refine propext ⟨fun ⟨v, h', e, q⟩ => ?_, fun ⟨vs, h1, e1, p, e2, e3, q⟩ => ?_⟩
  · obtain ⟨⟨vs, h1⟩, e1, e⟩ := zBi.mp e
    obtain ⟨⟨p, h2⟩, e2, e⟩ := zBi.mp e
    split at e
    next c => cases e; exact ⟨vs, h1, e1, _, e2, c, q⟩
    next => cases e
  · refine ⟨_, p.2, ?_, q⟩
    simp only [zNew, e1, Option.bind_some, e2, e3, if_true]
