/-! WHAT A PIECE OF CODE DOES, ON THE MACHINE -/
/-- words that no contract may take as they are, but that stay all the same: rows over a class, links of the nest -/
def zXg : Cond → Bool
  | .arrayOver (.object _) => true
  | .arrayOver (.array _) => true
  | .methodLinkNest _ _ _ _ => true
  | _ => false
def zTbl : List Cond := lw_tbl.filter fun w => goodWord w || zXg w
def zGd : List Cond := lw_tbl.filter goodWord
def zXw (U : State) : Prop := ∀ w ∈ lw_tbl, zXg w = true → w.before #[] U = true
theorem zXw.warm {s U : State} (hW : s.WarmedH U.vm) (h : zXw s) : zXw U := by
  intro w hw hg
  have h0 := h w hw hg
  unfold zXg at hg
  split at hg
  · exact va_AO.moved hW.alike h0
  · exact over_moved hW.alike h0
  · exact va_Nw.warmM hW h0
  · cases hg
theorem zXw.same {u U : State} (hv : u.vm = U.vm) (h : zXw u) : zXw U := by
  intro w hw hg
  have h0 := h w hw hg
  have hal : u.vm.Alike U.vm := by rw [hv]; exact Vm.Alike.refl _
  unfold zXg at hg
  split at hg
  · exact va_AO.moved hal h0
  · exact over_moved hal h0
  · exact va_tabs rfl hv h0
  · cases hg
theorem zTb {w : Cond} (h : w ∈ zTbl) : w ∈ lw_tbl ∧ (goodWord w || zXg w) = true := List.mem_filter.mp h
/-- all words from the good ones and the others -/
theorem zTbl.of {s : State} {args : Array Value} (h1 : ∀ w ∈ zGd, w.before args s = true) (h2 : zXw s) : ∀ w ∈ zTbl, w.before args s = true := by
  intro w hw
  obtain ⟨q1, q2⟩ := zTb hw
  cases hg : goodWord w with
  | true => exact h1 w (List.mem_filter.mpr ⟨q1, hg⟩)
  | false =>
    rw [hg, Bool.false_or] at q2
    have h0 := h2 w q1 q2
    unfold zXg at q2
    split at q2
    · exact va_AO.use h0
    · exact over_moved (Vm.Alike.refl _) h0
    · exact va_tabs rfl rfl h0
    · cases q2
theorem zTbl.x {s : State} {args : Array Value} (h : ∀ w ∈ zTbl, w.before args s = true) : zXw s := by
  intro w hw hg
  have h0 := h w (List.mem_filter.mpr ⟨hw, by rw [hg, Bool.or_true]⟩)
  unfold zXg at hg
  split at hg
  · exact va_AO.of h0
  · exact over_moved (Vm.Alike.refl _) h0
  · exact va_tabs rfl rfl h0
  · cases hg
/-- a method: its code, its locals, its class, frames and words that it needs below, its name, its answer -/
abbrev zMi : Type := ByteArray × Nat × String × Nat × Nat × String × Option FieldType
def zRi : Option Value → Instr
  | some (.int _) => .ireturn
  | some (.long _) => .lreturn
  | some (.double _) => .dreturn
  | none => .return_
  | _ => .areturn
section RUN
variable {p : Program} {l : Launch} {e : Env} {R : Room} {s : State} {m : MethodId} {args : Array Value} {below : List Frame} {meth : Method} {c : Code} {Q : State → Prop}
def zRun (D : va_G) (N0 n0 s0 : Nat) (p : Program) (l : Launch) (e : Env) (R : Room) (s : State) (m : MethodId) (args : Array Value) (below : List Frame) (meth : Method) (c : Code) (Q : State → Prop) (h : zHp) (pc : Nat) (K : List Nat) (env : zEnv) (st : List Value) : Prop :=
  ∀ (H : Heap) (locs : List Loc) (ls : Array Slot), zRel D s N0 h H → (∀ q ∈ locs, N0 ≤ q.base) → zEo K env ls → W p l e R s m args below meth c H locs (h.2.1 - n0) (h.2.2 - s0) Q (F0 m pc ls st)
/-- what holds all along a method: rv its answer, he the heap at its end -/
def zFix (μ : zMi) (D : va_G) (N0 n0 s0 : Nat) (rv : Option Value) (he : zHp) (p : Program) (l : Launch) (e : Env) (R : Room) (s : State) (m : MethodId) (args : Array Value) (below : List Frame) (meth : Method) (c : Code) (Q : State → Prop) : Prop :=
  p.tables.exec = Jvm.exec ∧ c.code = μ.1 ∧ c.maxLocals = μ.2.1 ∧ s.vm.findClass μ.2.2.1 = some m.cls ∧ (∀ w ∈ zTbl, w.before args s = true) ∧ va_K D vwCl [] s ∧ (μ.2.2.2.1 ≤ R.frames ∧ μ.2.2.2.2.1 ≤ R.locals ∧ he.2.1 - n0 ≤ R.cells ∧ he.2.2 - s0 ≤ R.slots) ∧ meth.name = μ.2.2.2.2.2.1 ∧
  ∀ (pc : Nat) (K : List Nat) (env : zEnv), decode μ.1 pc = .ok (zRi rv, 1) → zRun D N0 n0 s0 p l e R s m args below meth c Q he pc K env rv.toList
def zSum (st : List Value) : Nat := (st.map fun v => v.category).sum
/-- an expression from a to b, with n words at most below it on the stack; its answer is of kind t -/
def zJx (μ : zMi) (K : List Nat) (n t a b : Nat) (E : zEx) : Prop := ∀ ⦃D : va_G⦄ ⦃N0 n0 s0 : Nat⦄ ⦃rv : Option Value⦄ ⦃he : zHp⦄ ⦃p : Program⦄ ⦃l : Launch⦄ ⦃e : Env⦄ ⦃R : Room⦄ ⦃s : State⦄ ⦃m : MethodId⦄ ⦃args : Array Value⦄ ⦃below : List Frame⦄ ⦃meth : Method⦄ ⦃c : Code⦄ ⦃Q : State → Prop⦄,
  zFix μ D N0 n0 s0 rv he p l e R s m args below meth c Q → ∀ ⦃env : zEnv⦄ ⦃h : zHp⦄ ⦃v : Value⦄ ⦃h' : zHp⦄ ⦃st : List Value⦄, E env h = some (v, h') → n0 ≤ h.2.1 → s0 ≤ h.2.2 → zSum st ≤ n →
  zTy t v = true ∧ zLe h h' ∧ (zLe h' he → zRun D N0 n0 s0 p l e R s m args below meth c Q h' b K env (v :: st) → zRun D N0 n0 s0 p l e R s m args below meth c Q h a K env st)
/-- a condition from a: to tT, or to tF -/
def zJc (μ : zMi) (K : List Nat) (n a tT tF : Nat) (C : zCx) : Prop := ∀ ⦃D : va_G⦄ ⦃N0 n0 s0 : Nat⦄ ⦃rv : Option Value⦄ ⦃he : zHp⦄ ⦃p : Program⦄ ⦃l : Launch⦄ ⦃e : Env⦄ ⦃R : Room⦄ ⦃s : State⦄ ⦃m : MethodId⦄ ⦃args : Array Value⦄ ⦃below : List Frame⦄ ⦃meth : Method⦄ ⦃c : Code⦄ ⦃Q : State → Prop⦄,
  zFix μ D N0 n0 s0 rv he p l e R s m args below meth c Q → ∀ ⦃env : zEnv⦄ ⦃h : zHp⦄ ⦃v : Bool⦄ ⦃h' : zHp⦄ ⦃st : List Value⦄, C env h = some (v, h') → n0 ≤ h.2.1 → s0 ≤ h.2.2 → zSum st ≤ n →
  zLe h h' ∧ (zLe h' he → zRun D N0 n0 s0 p l e R s m args below meth c Q h' (if v = true then tT else tF) K env st → zRun D N0 n0 s0 p l e R s m args below meth c Q h a K env st)
/-- expressions one behind another -/
def zJa (μ : zMi) (K : List Nat) (n : Nat) (ts : List Nat) (a b : Nat) (Es : List zEx) : Prop := ∀ ⦃D : va_G⦄ ⦃N0 n0 s0 : Nat⦄ ⦃rv : Option Value⦄ ⦃he : zHp⦄ ⦃p : Program⦄ ⦃l : Launch⦄ ⦃e : Env⦄ ⦃R : Room⦄ ⦃s : State⦄ ⦃m : MethodId⦄ ⦃args : Array Value⦄ ⦃below : List Frame⦄ ⦃meth : Method⦄ ⦃c : Code⦄ ⦃Q : State → Prop⦄,
  zFix μ D N0 n0 s0 rv he p l e R s m args below meth c Q → ∀ ⦃env : zEnv⦄ ⦃h : zHp⦄ ⦃vs : List Value⦄ ⦃h' : zHp⦄ ⦃st : List Value⦄, zEs Es env h = some (vs, h') → n0 ≤ h.2.1 → s0 ≤ h.2.2 → zSum st ≤ n →
  zArgs ts vs = true ∧ zLe h h' ∧ (zLe h' he → zRun D N0 n0 s0 p l e R s m args below meth c Q h' b K env (vs.reverse ++ st) → zRun D N0 n0 s0 p l e R s m args below meth c Q h a K env st)
/-- a call -/
def zJk (μ : zMi) (K : List Nat) (n a b : Nat) (G : zEnv → zHp → Option (Option Value × zHp)) : Prop := ∀ ⦃D : va_G⦄ ⦃N0 n0 s0 : Nat⦄ ⦃rv : Option Value⦄ ⦃he : zHp⦄ ⦃p : Program⦄ ⦃l : Launch⦄ ⦃e : Env⦄ ⦃R : Room⦄ ⦃s : State⦄ ⦃m : MethodId⦄ ⦃args : Array Value⦄ ⦃below : List Frame⦄ ⦃meth : Method⦄ ⦃c : Code⦄ ⦃Q : State → Prop⦄,
  zFix μ D N0 n0 s0 rv he p l e R s m args below meth c Q → ∀ ⦃env : zEnv⦄ ⦃h : zHp⦄ ⦃r : Option Value⦄ ⦃h' : zHp⦄ ⦃st : List Value⦄, G env h = some (r, h') → n0 ≤ h.2.1 → s0 ≤ h.2.2 → zSum st ≤ n →
  zLe h h' ∧ (zLe h' he → zRun D N0 n0 s0 p l e R s m args below meth c Q h' b K env (r.toList ++ st) → zRun D N0 n0 s0 p l e R s m args below meth c Q h a K env st)
/-- where a statement goes on: behind it, at 'break', at 'continue' (with what the locals hold there) -/
abbrev zXt : Type := (Nat × List Nat) × (Nat × List Nat) × (Nat × List Nat)
def zXa (X : zXt) : Nat → Nat × List Nat
  | 0 => X.1
  | 1 => X.2.1
  | _ => X.2.2
/-- how a statement ends -/
def zEnd (D : va_G) (N0 n0 s0 : Nat) (rv : Option Value) (he : zHp) (p : Program) (l : Launch) (e : Env) (R : Room) (s : State) (m : MethodId) (args : Array Value) (below : List Frame) (meth : Method) (c : Code) (Q : State → Prop) (X : zXt) (o : zOut) (h' : zHp) : Prop := match o with
  | .inl (k, env') => zRun D N0 n0 s0 p l e R s m args below meth c Q h' (zXa X k).1 (zXa X k).2 env' []
  | .inr v => v = rv ∧ h' = he
/-- a statement from a -/
def zJs (μ : zMi) (K : List Nat) (a : Nat) (X : zXt) (S : zSt) : Prop := ∀ ⦃D : va_G⦄ ⦃N0 n0 s0 : Nat⦄ ⦃rv : Option Value⦄ ⦃he : zHp⦄ ⦃p : Program⦄ ⦃l : Launch⦄ ⦃e : Env⦄ ⦃R : Room⦄ ⦃s : State⦄ ⦃m : MethodId⦄ ⦃args : Array Value⦄ ⦃below : List Frame⦄ ⦃meth : Method⦄ ⦃c : Code⦄ ⦃Q : State → Prop⦄,
  zFix μ D N0 n0 s0 rv he p l e R s m args below meth c Q → ∀ ⦃env : zEnv⦄ ⦃h : zHp⦄ ⦃o : zOut⦄ ⦃h' : zHp⦄, S env h = some (o, h') → n0 ≤ h.2.1 → s0 ≤ h.2.2 →
  zLe h h' ∧ (zLe h' he → zEnd D N0 n0 s0 rv he p l e R s m args below meth c Q X o h' → zRun D N0 n0 s0 p l e R s m args below meth c Q h a K env [])
/-- from b one comes to x by jumps alone -/
def zGo (μ : zMi) (b x : Nat) : Prop := ∀ ⦃D : va_G⦄ ⦃N0 n0 s0 : Nat⦄ ⦃rv : Option Value⦄ ⦃he : zHp⦄ ⦃p : Program⦄ ⦃l : Launch⦄ ⦃e : Env⦄ ⦃R : Room⦄ ⦃s : State⦄ ⦃m : MethodId⦄ ⦃args : Array Value⦄ ⦃below : List Frame⦄ ⦃meth : Method⦄ ⦃c : Code⦄ ⦃Q : State → Prop⦄,
  zFix μ D N0 n0 s0 rv he p l e R s m args below meth c Q → ∀ ⦃h : zHp⦄ ⦃K : List Nat⦄ ⦃env : zEnv⦄ ⦃st : List Value⦄, zRun D N0 n0 s0 p l e R s m args below meth c Q h x K env st → zRun D N0 n0 s0 p l e R s m args below meth c Q h b K env st
theorem zGo.rf {μ : zMi} {b : Nat} : zGo μ b b := by
  intro D N0 n0 s0 rv he p l e R s m args below meth c Q F h K env st k
  exact k
theorem zGo.st {μ : zMi} {b x : Nat} {off : Int} (tgt : Nat) (hd : decode μ.1 b = .ok (.goto off, 3)) (ht : (b : Int) + off = (tgt : Int)) (g : zGo μ tgt x) : zGo μ b x := by
  intro D N0 n0 s0 rv he p l e R s m args below meth c Q F h K env st k H locs ls r hl ho
  exact lv_goto F.1 F.2.1 hd ht (g F k H locs ls r hl ho)
/-- a method's contract -/
def zPc (D : va_G) (N0 : Nat) (av : List Value) (h : zHp) : Array Value → State → Prop := fun a U => a = av.toArray ∧ zRel D U N0 h U.heap ∧ va_K D vwCl [] U ∧ zXw U
def zQc (D : va_G) (N0 : Nat) (r : Option Value) (h' : zHp) : Array Value → State → Outcome → State → Prop := fun _ _ o t => o = .returned r ∧ zRel D t N0 h' t.heap
def zWs (y : MethodName) (cc : ByteArray) (nL : Nat) (ret : Option FieldType) : List Cond := .code y cc nL ret :: zGd
def zSnd (y : MethodName) (cc : ByteArray) (nL : Nat) (ret : Option FieldType) (fr lo : Nat) (ts : List Nat) (F : zMt) : Prop :=
  ∀ (l : Launch) (D : va_G) (N0 : Nat) (av : List Value) (h : zHp) (r : Option Value) (h' : zHp), F av h = some (r, h') → zArgs ts av = true ∧ zLe h h' ∧
    Met l y (zWs y cc nL ret) ({ frames := fr, cells := h'.2.1 - h.2.1, slots := h'.2.2 - h.2.2, locals := lo }) (zPc D N0 av h) (zQc D N0 r h') (h'.2.1 - h.2.1) (h'.2.2 - h.2.2) (fun q => N0 ≤ q)
theorem zPc.blind {D : va_G} {N0 : Nat} {av : List Value} {h : zHp} : FrameBlind (zPc D N0 av h) := by
  intro a U g mk q
  obtain ⟨q1, q2, q3, q4⟩ := q
  refine ⟨q1, ?_, va_K.moved (u := U) (U := U.calling g mk a) (Vm.Alike.refl U.vm) q3, zXw.same (u := U) (U := U.calling g mk a) rfl q4⟩
  exact zRel.moved (u := U) (U := U.calling g mk a) (Vm.Alike.refl U.vm) q2
end RUN
