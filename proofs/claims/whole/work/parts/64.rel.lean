/-! THE SMALL HEAP BESIDE THE MACHINE'S -/
def zTyA : List FieldType := [.int, .long, .boolean, .object "JetTrees$Body", .object "JetTrees$Event", .object "JetTrees$Tree", .object "JetTrees$State", .object "JetTrees$Knot", .object "JetTrees$Step", .array .long]
def zRA (U : State) (cA : ClassId) (ty : FieldType) : Prop := ∃ (kA : Class) (comp : ClassId), U.vm.classes[cA]? = some kA ∧ kA.kind = .array comp ty ∧ U.vm.findClass ("[" ++ ty.toString) = some cA ∧ (match ty with
  | .object C => U.vm.findClass C = some comp
  | .array t => U.vm.findClass (FieldType.array t).toString = some comp
  | _ => True)
theorem zRA.moved {u U : State} (hvm : u.vm.Alike U.vm) {cA : ClassId} {ty : FieldType} (h : zRA u cA ty) : zRA U cA ty := by
  obtain ⟨kA, comp, h1, h2, h3, h4⟩ := h
  obtain ⟨k', hk', he⟩ := hvm.2.2 _ _ h1
  refine ⟨k', comp, hk', by rw [he]; exact h2, by rw [hvm.findClass]; exact h3, ?_⟩
  cases ty with
  | object C => show U.vm.findClass C = some comp; rw [hvm.findClass]; exact h4
  | array t => show U.vm.findClass _ = some comp; rw [hvm.findClass]; exact h4
  | _ => trivial
theorem zRA.is {U : State} {cell : Cell} {ty : FieldType} (h : zRA U cell.cls ty) (hv : cell.vm = .none) : U.isArrayOf cell ty := by
  obtain ⟨kA, comp, h1, h2, -⟩ := h
  exact ⟨fun k q => (by rw [hv] at q; cases q), kA, h1, comp, h2⟩
/-- what stands at an address -/
def zAt (D : va_G) (U : State) (a : Nat) (o : Nat × List Value) (H : Heap) : Prop :=
  (o.1 < 64 → ∃ r : vw_C, vwCl[o.1]? = some r ∧ o.2.length = r.2.2 ∧ t_OB a (D.1 o.1) r.2.2 (D.2 o.1) H (vp_V o.2)) ∧
  (64 ≤ o.1 → o.1 < 99 → ∃ (cell : Cell) (ty : FieldType), H[a]? = some cell ∧ cell.vm = .none ∧ cell.slots = o.2.toArray ∧ zTyA[o.1 - 64]? = some ty ∧ zRA U cell.cls ty) ∧
  (99 ≤ o.1 → ∃ cell : Cell, H[a]? = some cell ∧ cell.vm ≠ .unknown ∧ U.isArrayOf cell .int ∧ cell.slots = o.2.toArray)
theorem zAt.kept {D : va_G} {U : State} {a : Nat} {o : Nat × List Value} {H H1 : Heap} (h : zAt D U a o H) (hq : H1[a]? = H[a]?) : zAt D U a o H1 := by
  refine ⟨fun q => ?_, fun q1 q2 => ?_, fun q => ?_⟩
  · obtain ⟨r, h1, h2, h3⟩ := h.1 q
    exact ⟨r, h1, h2, h3.kept hq⟩
  · obtain ⟨cell, ty, h1, h2⟩ := h.2.1 q1 q2
    exact ⟨cell, ty, by rw [hq]; exact h1, h2⟩
  · obtain ⟨cell, h1, h2⟩ := h.2.2 q
    exact ⟨cell, by rw [hq]; exact h1, h2⟩
theorem zAt.moved {D : va_G} {u U : State} (hvm : u.vm.Alike U.vm) {a : Nat} {o : Nat × List Value} {H : Heap} (h : zAt D u a o H) : zAt D U a o H := by
  refine ⟨h.1, fun q1 q2 => ?_, fun q => ?_⟩
  · obtain ⟨cell, ty, h1, h2, h3, h4, h5⟩ := h.2.1 q1 q2
    exact ⟨cell, ty, h1, h2, h3, h4, h5.moved hvm⟩
  · obtain ⟨cell, h1, h2, h3, h4⟩ := h.2.2 q
    exact ⟨cell, h1, h2, State.isArrayOf_alike hvm h3, h4⟩
theorem zAt.lt {D : va_G} {U : State} {a : Nat} {o : Nat × List Value} {H : Heap} (h : zAt D U a o H) : a < H.size := by
  have get : ∀ {cell : Cell}, H[a]? = some cell → a < H.size := fun h => (Array.getElem?_eq_some_iff.mp h).1
  rcases Nat.lt_or_ge o.1 64 with q | q
  · obtain ⟨r, -, -, cell, h1, -⟩ := h.1 q
    exact get h1
  · rcases Nat.lt_or_ge o.1 99 with q2 | q2
    · obtain ⟨cell, ty, h1, -⟩ := h.2.1 q q2
      exact get h1
    · obtain ⟨cell, h1, -⟩ := h.2.2 q2
      exact get h1
/-- the heap: its size, and all that is known of it; what may be written lies from N0 on -/
def zRel (D : va_G) (U : State) (N0 : Nat) (h : zHp) (H : Heap) : Prop := H.size = h.2.1 ∧ N0 ≤ h.2.1 ∧ ∀ (a : Nat) (o : Nat × List Value), h.1 a = some o → (o.1 < 99 → N0 ≤ a) ∧ zAt D U a o H
theorem zRel.moved {D : va_G} {u U : State} (hvm : u.vm.Alike U.vm) {N0 : Nat} {h : zHp} {H : Heap} (r : zRel D u N0 h H) : zRel D U N0 h H := ⟨r.1, r.2.1, fun a o q => ⟨(r.2.2 a o q).1, (r.2.2 a o q).2.moved hvm⟩⟩
theorem zRel.set {D : va_G} {U : State} {N0 : Nat} {h : zHp} {H H1 : Heap} (r : zRel D U N0 h H) {a : Nat} {o : Nat × List Value} (ha : N0 ≤ a) (hz : H1.size = H.size) (hq : ∀ q, q ≠ a → H1[q]? = H[q]?) (hn : zAt D U a o H1) : zRel D U N0 (zSet h a o) H1 := by
  refine ⟨by rw [hz]; exact r.1, r.2.1, fun b o' hb => ?_⟩
  have hb' : (if b = a then some o else h.1 b) = some o' := hb
  by_cases e : b = a
  · subst e
    rw [if_pos rfl] at hb'
    cases hb'
    exact ⟨fun _ => ha, hn⟩
  · rw [if_neg e] at hb'
    obtain ⟨h1, h2⟩ := r.2.2 b o' hb'
    exact ⟨h1, h2.kept (hq b e)⟩
theorem zRel.al {D : va_G} {U : State} {N0 : Nat} {h : zHp} {H H1 : Heap} (r : zRel D U N0 h H) {n : Nat} {o : Nat × List Value} (hz : H1.size = H.size + 1) (hq : ∀ q, q < H.size → H1[q]? = H[q]?) (hn : zAt D U h.2.1 o H1) : zRel D U N0 (zAl h n o) H1 := by
  refine ⟨by rw [hz, r.1]; rfl, Nat.le_succ_of_le r.2.1, fun b o' hb => ?_⟩
  have hb' : (if b = h.2.1 then some o else h.1 b) = some o' := hb
  by_cases e : b = h.2.1
  · subst e
    rw [if_pos rfl] at hb'
    cases hb'
    exact ⟨fun _ => r.2.1, hn⟩
  · rw [if_neg e] at hb'
    obtain ⟨h1, h2⟩ := r.2.2 b o' hb'
    exact ⟨h1, h2.kept (hq b h2.lt)⟩
/-- the locals: 1 a value of one word, 2 a value of two -/
def zEo (K : List Nat) (env : zEnv) (ls : Array Slot) : Prop := ls.size = K.length ∧ env.length = K.length ∧ lv_wf ls ∧ ∀ i : Nat, (K[i]? = some 1 → ∃ v : Value, env[i]? = some v ∧ v.category = 1 ∧ ls[i]? = some (.val v)) ∧ (K[i]? = some 2 → ∃ v : Value, env[i]? = some v ∧ v.category = 2 ∧ ls[i]? = some (.val v))
theorem zTy_cat {t : Nat} {v : Value} (h : zTy t v = true) : v.category = zCat t := by
  unfold zTy at h
  split at h <;> first | rfl | cases h
def zSb : List Nat → List Nat → Bool
  | [], [] => true
  | x :: xs, y :: ys => (x == 0 || x == y) && zSb xs ys
  | _, _ => false
theorem zSb_at : ∀ {K' K : List Nat}, zSb K' K = true → K'.length = K.length ∧ ∀ (i x : Nat), K'[i]? = some x → x ≠ 0 → K[i]? = some x
  | [], [], _ => ⟨rfl, fun i x h => by simp at h⟩
  | [], _ :: _, h => by cases h
  | _ :: _, [], h => by cases h
  | x :: xs, y :: ys, h => by
    simp only [zSb, Bool.and_eq_true, Bool.or_eq_true, beq_iff_eq] at h
    obtain ⟨h1, h2⟩ := zSb_at h.2
    refine ⟨by simp [h1], fun i z hi hz => ?_⟩
    cases i with
    | zero =>
      simp only [List.getElem?_cons_zero, Option.some.injEq] at hi ⊢
      rcases h.1 with q | q
      · exact absurd (hi.symm.trans q) hz
      · exact q.symm.trans hi
    | succ j =>
      simp only [List.getElem?_cons_succ] at hi ⊢
      exact h2 j z hi hz
theorem zEo.sub {K K' : List Nat} {env : zEnv} {ls : Array Slot} (h : zEo K env ls) (hs : zSb K' K = true) : zEo K' env ls := by
  obtain ⟨h1, h2⟩ := zSb_at hs
  refine ⟨by rw [h1]; exact h.1, by rw [h1]; exact h.2.1, h.2.2.1, fun i => ⟨fun q => (h.2.2.2 i).1 (h2 i 1 q (by decide)), fun q => (h.2.2.2 i).2 (h2 i 2 q (by decide))⟩⟩
/-- the locals behind a store -/
def zKc (K : List Nat) (i : Nat) : List Nat := match i with
  | 0 => K
  | j + 1 => if K[j]? = some 2 then K.set j 0 else K
def zK1 (K : List Nat) (i : Nat) : List Nat := (zKc K i).set i 1
def zK2 (K : List Nat) (i : Nat) : List Nat := ((zKc K i).set i 2).set (i + 1) 0
theorem zKc_len (K : List Nat) (i : Nat) : (zKc K i).length = K.length := by
  unfold zKc
  split
  · rfl
  · split <;> simp
theorem zKc_at {K : List Nat} {i j x : Nat} (hj : (zKc K i)[j]? = some x) (hx : x ≠ 0) : K[j]? = some x ∧ (j + 1 = i → x ≠ 2) := by
  cases i with
  | zero => exact ⟨hj, fun q => by omega⟩
  | succ m =>
    simp only [zKc] at hj
    by_cases c : K[m]? = some 2
    · rw [if_pos c] at hj
      by_cases e : m = j
      · subst e
        rw [List.getElem?_set] at hj
        simp only [if_true] at hj
        split at hj
        · cases hj
          exact absurd rfl hx
        · cases hj
      · rw [List.getElem?_set_ne e] at hj
        exact ⟨hj, fun q => by omega⟩
    · rw [if_neg c] at hj
      refine ⟨hj, fun q e => ?_⟩
      have : j = m := by omega
      subst this
      subst e
      exact c hj
/-- the listed values of the locals -/
def zLst (K : List Nat) (env : zEnv) : List (Nat × Value) := (List.range K.length).filterMap fun i => if K[i]? = some 1 ∨ K[i]? = some 2 then (env[i]?).map fun v => (i, v) else none
theorem zEo.has {K : List Nat} {env : zEnv} {ls : Array Slot} (h : zEo K env ls) : lv_has ls K.length (zLst K env) := by
  refine ⟨h.1, h.2.2.1, fun q hq => ?_⟩
  obtain ⟨i, -, hi⟩ := List.mem_filterMap.mp hq
  split at hi
  next c =>
    rcases c with c | c
    · obtain ⟨v, h1, h2, h3⟩ := (h.2.2.2 i).1 c
      rw [h1] at hi
      cases hi
      exact h3
    · obtain ⟨v, h1, h2, h3⟩ := (h.2.2.2 i).2 c
      rw [h1] at hi
      cases hi
      exact h3
  next => cases hi
theorem zLst_mem {K : List Nat} {env : zEnv} {i x : Nat} {v : Value} (hk : K[i]? = some x) (hx : x = 1 ∨ x = 2) (hv : env[i]? = some v) : (i, v) ∈ zLst K env := by
  have hi : i < K.length := (List.getElem?_eq_some_iff.mp hk).1
  refine List.mem_filterMap.mpr ⟨i, List.mem_range.mpr hi, ?_⟩
  have c : K[i]? = some 1 ∨ K[i]? = some 2 := by rcases hx with e | e <;> subst e <;> simp [hk]
  rw [if_pos c, hv]
  rfl
theorem zEo.st1 {K : List Nat} {env : zEnv} {ls ls' : Array Slot} {i : Nat} {v : Value} (h : zEo K env ls) (hi : i < K.length) (hc : v.category = 1) (h' : lv_has ls' K.length ((i, v) :: (zLst K env).filter (fun q => !(q.1 == i) && !(q.1 + 1 == i && q.2.category == 2)))) : zEo (zK1 K i) (env.set i v) ls' := by
  have hlen : (zK1 K i).length = K.length := by simp [zK1, zKc_len]
  have hev : i < env.length := by rw [h.2.1]; exact hi
  refine ⟨by rw [hlen]; exact h'.1, by rw [hlen, List.length_set]; exact h.2.1, h'.2.1, fun j => ?_⟩
  by_cases e : j = i
  · subst e
    have hk : (zK1 K j)[j]? = some 1 := by
      unfold zK1
      rw [List.getElem?_set_self (by rw [zKc_len]; exact hi)]
    refine ⟨fun _ => ⟨v, by rw [List.getElem?_set_self hev], hc, h'.2.2 (j, v) List.mem_cons_self⟩, fun q => ?_⟩
    rw [hk] at q
    cases q
  · have go : ∀ x : Nat, (x = 1 ∨ x = 2) → (zK1 K i)[j]? = some x → ∃ w : Value, (env.set i v)[j]? = some w ∧ w.category = x ∧ ls'[j]? = some (.val w) := by
      intro x hx hj
      unfold zK1 at hj
      rw [List.getElem?_set_ne (fun q => e q.symm)] at hj
      obtain ⟨h1, h2⟩ := zKc_at hj (by rcases hx with q | q <;> subst q <;> decide)
      have old : ∃ w : Value, env[j]? = some w ∧ w.category = x := by
        rcases hx with q | q
        · subst q
          obtain ⟨w, w1, w2, -⟩ := (h.2.2.2 j).1 h1
          exact ⟨w, w1, w2⟩
        · subst q
          obtain ⟨w, w1, w2, -⟩ := (h.2.2.2 j).2 h1
          exact ⟨w, w1, w2⟩
      obtain ⟨w, w1, w2⟩ := old
      refine ⟨w, by rw [List.getElem?_set_ne (fun q => e q.symm)]; exact w1, w2, h'.2.2 (j, w) (List.mem_cons_of_mem _ (List.mem_filter.mpr ⟨zLst_mem h1 hx w1, ?_⟩))⟩
      have f1 : (j == i) = false := by simp [e]
      simp only [f1, Bool.not_false, Bool.true_and, Bool.not_eq_true', Bool.and_eq_false_iff, beq_eq_false_iff_ne]
      by_cases q : j + 1 = i
      · exact Or.inr (by rw [w2]; exact h2 q)
      · exact Or.inl q
    exact ⟨go 1 (Or.inl rfl), go 2 (Or.inr rfl)⟩
theorem zEo.st2 {K : List Nat} {env : zEnv} {ls ls' : Array Slot} {i : Nat} {v : Value} (h : zEo K env ls) (hi : i + 1 < K.length) (hc : v.category = 2) (h' : lv_has ls' K.length ((i, v) :: (zLst K env).filter (fun q => !(q.1 == i) && (!(q.1 == i + 1) && !(q.1 + 1 == i && q.2.category == 2))))) : zEo (zK2 K i) (env.set i v) ls' := by
  have hlen : (zK2 K i).length = K.length := by simp [zK2, zKc_len]
  have hev : i < env.length := by rw [h.2.1]; omega
  refine ⟨by rw [hlen]; exact h'.1, by rw [hlen, List.length_set]; exact h.2.1, h'.2.1, fun j => ?_⟩
  by_cases e : j = i
  · subst e
    have hk : (zK2 K j)[j]? = some 2 := by
      unfold zK2
      rw [List.getElem?_set_ne (by omega), List.getElem?_set_self (by rw [zKc_len]; omega)]
    refine ⟨fun q => ?_, fun _ => ⟨v, by rw [List.getElem?_set_self hev], hc, h'.2.2 (j, v) List.mem_cons_self⟩⟩
    rw [hk] at q
    cases q
  · by_cases e2 : j = i + 1
    · subst e2
      have hk : (zK2 K i)[i + 1]? = some 0 := by
        unfold zK2
        rw [List.getElem?_set_self (by rw [List.length_set, zKc_len]; exact hi)]
      exact ⟨fun q => (by rw [hk] at q; cases q), fun q => (by rw [hk] at q; cases q)⟩
    · have go : ∀ x : Nat, (x = 1 ∨ x = 2) → (zK2 K i)[j]? = some x → ∃ w : Value, (env.set i v)[j]? = some w ∧ w.category = x ∧ ls'[j]? = some (.val w) := by
        intro x hx hj
        unfold zK2 at hj
        rw [List.getElem?_set_ne (fun q => e2 q.symm), List.getElem?_set_ne (fun q => e q.symm)] at hj
        obtain ⟨h1, h2⟩ := zKc_at hj (by rcases hx with q | q <;> subst q <;> decide)
        have old : ∃ w : Value, env[j]? = some w ∧ w.category = x := by
          rcases hx with q | q
          · subst q
            obtain ⟨w, w1, w2, -⟩ := (h.2.2.2 j).1 h1
            exact ⟨w, w1, w2⟩
          · subst q
            obtain ⟨w, w1, w2, -⟩ := (h.2.2.2 j).2 h1
            exact ⟨w, w1, w2⟩
        obtain ⟨w, w1, w2⟩ := old
        refine ⟨w, by rw [List.getElem?_set_ne (fun q => e q.symm)]; exact w1, w2, h'.2.2 (j, w) (List.mem_cons_of_mem _ (List.mem_filter.mpr ⟨zLst_mem h1 hx w1, ?_⟩))⟩
        have f1 : (j == i) = false := by simp [e]
        have f2 : (j == i + 1) = false := by simp [e2]
        simp only [f1, f2, Bool.not_false, Bool.true_and, Bool.not_eq_true', Bool.and_eq_false_iff, beq_eq_false_iff_ne]
        by_cases q : j + 1 = i
        · exact Or.inr (by rw [w2]; exact h2 q)
        · exact Or.inl q
      exact ⟨go 1 (Or.inl rfl), go 2 (Or.inr rfl)⟩
