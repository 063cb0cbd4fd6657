/-! SMALL HELPERS OF THE PRINTED ROWS -/
theorem xIconst4 {μ : zMi} {K : List Nat} {n a b : Nat} {i : Int} {v : Int32} (hd : decode μ.1 a = .ok (.iconst i, 1)) (hv : Int32.ofInt i = v) (h4 : zTy 4 (.int v) = true) (hb : a + 1 = b) : zJx μ K n 4 a b (zK (.int v)) := zJx.leaf h4 (fun hx hc _ _ k => lv_iconst hx hc hd hv k) hb
theorem zMeth_r {ts : List Nat} {nL rt : Nat} {S : zSt} {av : List Value} {h h' : zHp} {r : Option Value} (e : zMeth ts nL rt S av h = some (r, h')) : (r = none ∧ rt = 9) ∨ ∃ v, r = some v ∧ zTy rt v = true := by
  unfold zMeth at e
  split at e
  · obtain ⟨⟨o, g⟩, -, e⟩ := zB e
    split at e
    · cases o with
      | inl k => cases e
      | inr v =>
        cases v with
        | none =>
          simp only at e
          split at e
          next q => cases e; exact Or.inl ⟨rfl, q⟩
          next => cases e
        | some w =>
          simp only at e
          split at e
          next q => cases e; exact Or.inr ⟨w, rfl, q⟩
          next => cases e
    · cases e
  · cases e
theorem zCsN0 {ts : List Nat} {nL : Nat} {S : zSt} {As : List zEx} : ∀ (env : zEnv) (h : zHp) (r : Option Value) (h' : zHp), zCs (zMeth ts nL 9 S) As env h = some (r, h') → r = none := by
  intro env h r h' e
  unfold zCs at e
  obtain ⟨⟨vs, g⟩, -, e⟩ := zB e
  rcases zMeth_r e with ⟨q, -⟩ | ⟨v, -, q⟩
  · exact q
  · cases v <;> cases q
theorem zCvN0 {ci : Nat} {ts : List Nat} {nL : Nat} {S : zSt} {As : List zEx} : ∀ (env : zEnv) (h : zHp) (r : Option Value) (h' : zHp), zCv ci (zMeth ts nL 9 S) As env h = some (r, h') → r = none := by
  intro env h r h' e
  unfold zCv at e
  obtain ⟨⟨vs, g⟩, -, e⟩ := zB e
  split at e
  · rcases zMeth_r e with ⟨q, -⟩ | ⟨v, -, q⟩
    · exact q
    · cases v <;> cases q
  · cases e
theorem zCsN1 {ts : List Nat} {nL t : Nat} {S : zSt} {As : List zEx} (ht : t ≠ 9) : ∀ (env : zEnv) (h : zHp) (r : Option Value) (h' : zHp), zCs (zMeth ts nL t S) As env h = some (r, h') → ∃ v, r = some v ∧ zTy t v = true := by
  intro env h r h' e
  unfold zCs at e
  obtain ⟨⟨vs, g⟩, -, e⟩ := zB e
  rcases zMeth_r e with ⟨-, q⟩ | q
  · exact absurd q ht
  · exact q
theorem zCvN1 {ci : Nat} {ts : List Nat} {nL t : Nat} {S : zSt} {As : List zEx} (ht : t ≠ 9) : ∀ (env : zEnv) (h : zHp) (r : Option Value) (h' : zHp), zCv ci (zMeth ts nL t S) As env h = some (r, h') → ∃ v, r = some v ∧ zTy t v = true := by
  intro env h r h' e
  unfold zCv at e
  obtain ⟨⟨vs, g⟩, -, e⟩ := zB e
  split at e
  · rcases zMeth_r e with ⟨-, q⟩ | q
    · exact absurd q ht
    · exact q
  · cases e
theorem zCpR {ty : FieldType} (h : ty.isReference = true) : ∀ v, zTy 3 v = true → fits ty v = true := by
  intro v hv
  rcases zTy3 hv with rfl | ⟨x, rfl⟩ <;> cases ty <;> first | rfl | cases h
theorem zInm {w : Cond} (i : Nat) (h : lw_tbl[i]? = some w) (hg : (goodWord w || zXg w) = true) : w ∈ zTbl := List.mem_filter.mpr ⟨List.mem_of_getElem? h, hg⟩
theorem zIns {ws : List Cond} (ps : List Nat) (h : ws = ps.filterMap (fun i => lw_tbl[i]?)) (hg : (ws.all fun w => goodWord w || zXg w) = true) : ∀ w ∈ ws, w ∈ zTbl := by
  intro w hw
  have h1 := List.all_eq_true.mp hg w hw
  rw [h] at hw
  obtain ⟨i, -, hi⟩ := List.mem_filterMap.mp hw
  exact zInm i hi h1
