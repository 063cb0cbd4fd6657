/-! THE ROWS: fields that are written, rows of numbers and of objects -/
section HP
variable {μ : zMi} {K : List Nat} {n a b : Nat}
def zFk : Nat → FieldType → Bool
  | 0, .int => true
  | 1, .long => true
  | 3, .object _ => true
  | 3, .array _ => true
  | 4, .boolean => true
  | _, _ => false
theorem zFk_ok {ty : Nat} {fty : FieldType} {v : Value} (h : zFk ty fty = true) (hv : zTy ty v = true) : narrow fty v = v ∧ fits fty v = true := by
  unfold zFk at h
  split at h
  · obtain ⟨x, rfl⟩ := zTy0 hv; exact ⟨rfl, rfl⟩
  · obtain ⟨x, rfl⟩ := zTy1 hv; exact ⟨rfl, rfl⟩
  · rcases zTy3 hv with rfl | ⟨x, rfl⟩ <;> exact ⟨rfl, rfl⟩
  · rcases zTy3 hv with rfl | ⟨x, rfl⟩ <;> exact ⟨rfl, rfl⟩
  · rcases zTy4 hv with rfl | rfl <;> exact ⟨by decide, by decide⟩
  · cases h
theorem zPut_at {h h' : zHp} {x ci k ty : Nat} {v : Value} (hp : zPut h x ci k ty v = some h') : ∃ fs, h.1 x = some (ci, fs) ∧ k < fs.length ∧ zTy ty v = true ∧ h' = zSet h x (ci, fs.set k v) := by
  unfold zPut at hp
  obtain ⟨o, e1, hp⟩ := zB hp
  split at hp
  next q => cases hp; exact ⟨o.2, by rw [e1, ← q.1], q.2.1, q.2.2, rfl⟩
  next => cases hp
section W1
variable {D : va_G} {N0 n0 s0 : Nat} {rv : Option Value} {he : zHp} {p : Program} {l : Launch} {e : Env} {R : Room} {s : State} {m : MethodId} {args : Array Value} {below : List Frame} {meth : Method} {c : Code} {Q : State → Prop} {H : Heap} {locs : List Loc} {ls : Array Slot} {rest : List Value}
theorem zBs {x k : Nat} {locs : List Loc} (hx : N0 ≤ x) (ho : ∀ q ∈ locs, N0 ≤ q.base) : ∀ q ∈ locs ++ [(⟨x, k⟩ : Loc)], N0 ≤ q.base := by
  intro q hq
  rcases List.mem_append.mp hq with g | g
  · exact ho q g
  · rw [List.mem_singleton.mp g]; exact hx
/-- a field is written; final ones in constructors of their class -/
theorem zW_put (F : zFix μ D N0 n0 s0 rv he p l e R s m args below meth c Q) {h h' : zHp} (r : zRel D s N0 h H) (ho : ∀ q ∈ locs, N0 ≤ q.base) {x ci k ty index N pc : Nat} {v : Value} (hp : zPut h x ci k ty v = some h') {C : String} {T : u_T} {fty : FieldType} (tyf : Nat → FieldType) (hin : ∀ w ∈ u_ws C T N, w ∈ zTbl) (hty : ∀ k, k < N → parseFieldDescriptor (T k).2.2.1 = some (tyf k)) (hnm : ∀ a, a < N → ∀ b, b < N → a ≠ b → (T a).2.1 ≠ (T b).2.1) (hci : ci < 64) (hc : vwCl[ci]? = some (C, T, N)) (hk : k < N)
    (hw : Cond.fieldLink μ.2.2.1 index C (T k).2.1 (T k).2.2.1 ∈ zTbl) (hT : (T k).1 = C) (hfin : (T k).2.2.2 = false ∨ (μ.2.2.2.2.2.1 = "<init>" ∧ μ.2.2.1 = C)) (hft : tyf k = fty) (hfk : zFk ty fty = true) (hd : decode μ.1 pc = .ok (.putfield index, 3)) {cells slots : Nat}
    (kk : ∀ (H1 : Heap) (locs1 : List Loc), zRel D s N0 h' H1 → (∀ q ∈ locs1, N0 ≤ q.base) → W p l e R s m args below meth c H1 locs1 cells slots Q (F0 m (pc + 3) ls rest)) : W p l e R s m args below meth c H locs cells slots Q (F0 m pc ls (v :: .ref x :: rest)) := by
  obtain ⟨fs, f1, f2, f3, rfl⟩ := zPut_at hp
  have hK := F.2.2.2.2.2.1
  have hts := F.2.2.2.2.1
  have hown := F.2.2.2.1
  have hap := va_apart (own := C) hts hin tyf hty hnm hK hc
  obtain ⟨hx, hz⟩ := r.2.2 x _ f1
  have hx := hx (Nat.lt_trans hci (by decide))
  obtain ⟨q, g1, g2, cell, q1, q2, q3, q4⟩ := hz.1 hci
  have hq : q = (C, T, N) := Option.some.inj (g1.symm.trans hc)
  subst hq
  obtain ⟨hS, hfc, kC, hkC, hkind⟩ := hK.1 ci _ hc
  obtain ⟨cf, kf, fi, f, hi, hsl⟩ := hS k hk
  have hi0 := hi
  rw [hT] at hi
  have hd1 : parseFieldDescriptor (T k).2.2.1 = some fty := by rw [← hft]; exact hty k hk
  obtain ⟨hn, hfit⟩ := zFk_ok hfk f3
  have hst := (u_facts hfc hkC (u_lays hts hin hk) hi0).1
  have fin : ∀ H' : Heap, H'[x]? = some (cell.setSlot f.slot v) → H'.size = H.size → (∀ q, q ≠ x → H'[q]? = H[q]?) → W p l e R s m args below meth c H' (locs ++ [⟨x, f.slot⟩]) cells slots Q (F0 m (pc + 3) ls rest) := by
    intro H' e1 e2 e3
    rw [hsl] at e1 ⊢
    refine kk H' _ (r.set hx e2 e3 ⟨fun _ => ⟨_, hc, by simp only [List.length_set]; exact g2, t_OB.to (V := updV (vp_V fs) k v) ⟨_, e1, q2, q3, t_set q4 hap hk v⟩ (fun j _ => vp_updV_set f2 v j)⟩, fun z _ => absurd hci (by simp only at z; omega), fun z => absurd hci (by simp only at z; omega)⟩) (zBs hx ho)
  have hlay := hts _ (hin _ (u_in_lay hk))
  unfold u_lay at hlay
  by_cases hf : (T k).2.2.2 = true
  · rw [if_pos hf] at hlay
    rcases hfin with z | ⟨z1, z2⟩
    · rw [hf] at z; cases z
    · have hcf : m.cls = cf := by
        obtain ⟨_, _, c', _, _, _, -, -, hf', -, -, -, hown2, -⟩ := Cond.laysFinal_spec hlay
        have e1 : c' = cf := by have := hi0.symm.trans hf'; simp at this; exact this.1.symm
        rw [hT, ← z2] at hown2
        rw [← e1]; exact Option.some.inj (hown.symm.trans hown2)
      have h6 := u_fits hfc hkC hkind (Or.inr hlay) hi0 hd1 hn hfit
      exact W.putFinK F.1 F.2.1 hown (hts _ hw) hi hst hcf (by rw [F.2.2.2.2.2.2.2.1]; exact z1) (by rw [q2]; exact h6) q1 q3 (by rw [hsl]; exact k2_hasslot (q4 k hk)) rfl rfl hd fin
  · rw [if_neg hf] at hlay
    have h6 := u_store hfc hkC hkind hlay hi0 hd1 hn hfit
    exact W.putK F.1 F.2.1 (f := f) ⟨hown, hts _ hw, ⟨_, _, _, hi⟩, hst⟩ (by rw [q2]; exact h6) q1 q3 (by rw [hsl]; exact k2_hasslot (q4 k hk)) rfl rfl hd fin
end W1
theorem sPf {ty ci k x y index N : Nat} {C : String} {T : u_T} {fty : FieldType} {A B : zEx} {X : zXt} (tyf : Nat → FieldType) (hin : ∀ w ∈ u_ws C T N, w ∈ zTbl) (hty : ∀ k, k < N → parseFieldDescriptor (T k).2.2.1 = some (tyf k)) (hnm : ∀ a, a < N → ∀ b, b < N → a ≠ b → (T a).2.1 ≠ (T b).2.1) (hci : ci < 64) (hc : vwCl[ci]? = some (C, T, N)) (hk : k < N)
    (hw : Cond.fieldLink μ.2.2.1 index C (T k).2.1 (T k).2.2.1 ∈ zTbl) (hT : (T k).1 = C) (hfin : (T k).2.2.2 = false ∨ (μ.2.2.2.2.2.1 = "<init>" ∧ μ.2.2.1 = C)) (hft : tyf k = fty) (hfk : zFk ty fty = true) (jA : zJx μ K 0 3 a x A) (jB : zJx μ K 1 ty x y B) (hd : decode μ.1 y = .ok (.putfield index, 3)) (g : zGo μ (y + 3) X.1.1) (hX : zSb X.1.2 K = true) : zJs μ K a X (zPf ty ci k A B) := by
  intro D N0 n0 s0 rv he p l e R s m args below meth c Q F env h o h' hE h1 h2
  unfold zPf at hE
  obtain ⟨⟨v1, g1⟩, e1, hE⟩ := zB hE
  obtain ⟨⟨v2, g2⟩, e2, hE⟩ := zB hE
  obtain ⟨o', e3, hE⟩ := zB hE
  obtain ⟨h2', e4, hE⟩ := zB hE
  cases hE
  obtain ⟨a1, a2, a3⟩ := jA F (st := []) e1 h1 h2 (Nat.le_refl 0)
  obtain ⟨b1, b2, b3⟩ := jB F e2 (a2.n0 h1) (a2.s0 h2) (zSum_cons (st := []) a1 (Nat.le_refl 0))
  have hz : g2.2 = h'.2 := by
    obtain ⟨fs, -, -, -, e5⟩ := zPut_at e4
    rw [e5]
    rfl
  have hl2 : zLe g2 h' := by unfold zLe; rw [hz]; exact ⟨Nat.le_refl _, Nat.le_refl _⟩
  refine ⟨(a2.tr b2).tr hl2, fun hl kk => a3 ((b2.tr hl2).tr hl) (b3 (hl2.tr hl) fun H locs ls r hr ho => ?_)⟩
  cases v1 with
  | ref o'' =>
    cases e3
    refine zW_put F r hr e4 tyf hin hty hnm hci hc hk hw hT hfin hft hfk hd (fun H1 locs1 r1 hr1 => ?_)
    have := g F kk H1 locs1 ls r1 hr1 (ho.sub hX)
    rw [← hz] at this
    exact this
  | _ => cases e3
/-- a field op= a value -/
theorem sPfo {ty t2 ci k x z index N : Nat} {i : Instr} {f : Value → Value → Option Value} {C : String} {T : u_T} {fty : FieldType} {A B : zEx} {X : zXt} (tyf : Nat → FieldType) (hin : ∀ w ∈ u_ws C T N, w ∈ zTbl) (hty : ∀ k, k < N → parseFieldDescriptor (T k).2.2.1 = some (tyf k)) (hnm : ∀ a, a < N → ∀ b, b < N → a ≠ b → (T a).2.1 ≠ (T b).2.1) (hci : ci < 64) (hc : vwCl[ci]? = some (C, T, N)) (hk : k < N)
    (hw : Cond.fieldLink μ.2.2.1 index C (T k).2.1 (T k).2.2.1 ∈ zTbl) (hT : (T k).1 = C) (hfin : (T k).2.2.2 = false ∨ (μ.2.2.2.2.2.1 = "<init>" ∧ μ.2.2.1 = C)) (hft : tyf k = fty) (hfk : zFk ty fty = true) (ro : zR2 i f ty) (jA : zJx μ K 0 3 a x A) (hd0 : decode μ.1 x = .ok (.dup, 1)) (hd1 : decode μ.1 (x + 1) = .ok (.getfield index, 3)) (jB : zJx μ K (1 + zCat ty) t2 (x + 1 + 3) z B) (hd2 : decode μ.1 z = .ok (i, 1)) (hd : decode μ.1 (z + 1) = .ok (.putfield index, 3)) (g : zGo μ (z + 1 + 3) X.1.1) (hX : zSb X.1.2 K = true) : zJs μ K a X (zPfo ty ci k f A B) := by
  intro D N0 n0 s0 rv he p l e R s m args below meth c Q F env h o h' hE h1 h2
  unfold zPfo at hE
  obtain ⟨⟨v1, g1⟩, e1, hE⟩ := zB hE
  obtain ⟨o', e3, hE⟩ := zB hE
  obtain ⟨v, e5, hE⟩ := zB hE
  split at hE
  next htv =>
    obtain ⟨⟨v2, g2⟩, e2, hE⟩ := zB hE
    obtain ⟨w, e6, hE⟩ := zB hE
    obtain ⟨h2', e4, hE⟩ := zB hE
    cases hE
    cases v1 with
    | ref o'' =>
      cases e3
      obtain ⟨a1, a2, a3⟩ := jA F (st := []) e1 h1 h2 (Nat.le_refl 0)
      obtain ⟨b1, b2, b3⟩ := jB F (st := [v, .ref o']) e2 (a2.n0 h1) (a2.s0 h2) (by
        have := zSum_cons htv (zSum_cons (v := .ref o') (st := []) (t := 3) rfl (Nat.le_refl 0))
        have e : zCat 3 = 1 := rfl
        omega)
      have hz : g2.2 = h'.2 := by
        obtain ⟨fs, -, -, -, e5⟩ := zPut_at e4
        rw [e5]
        rfl
      have hl2 : zLe g2 h' := by unfold zLe; rw [hz]; exact ⟨Nat.le_refl _, Nat.le_refl _⟩
      refine ⟨(a2.tr b2).tr hl2, fun hl kk => a3 ((b2.tr hl2).tr hl) fun H locs ls r hr ho => ?_⟩
      obtain ⟨fs, f1, f2⟩ := zFld_at e5
      obtain ⟨-, -, hP⟩ := r.obj f1 hci hc
      refine lv_dup F.1 F.2.1 hd0 rfl ?_
      refine va_get F.1 F.2.1 (ref := C) F.2.2.2.2.1 hin F.2.2.2.1 F.2.2.2.2.2.1 hP 0 rfl hc k hk (F.2.2.2.2.1 _ hw) (fun y hy => by rw [hT] at hy; exact hy) f2 hd1 ?_
      refine b3 (hl2.tr hl) (fun H locs ls r hr ho => ?_) H locs ls r hr ho
      refine (ro F.1 F.2.1 hd2 e6).2 ?_
      refine zW_put F r hr e4 tyf hin hty hnm hci hc hk hw hT hfin hft hfk hd (fun H1 locs1 r1 hr1 => ?_)
      have := g F kk H1 locs1 ls r1 hr1 (ho.sub hX)
      rw [← hz] at this
      exact this
    | _ => cases e3
  next => cases hE
theorem zRel.arr {D : va_G} {U : State} {N0 : Nat} {h : zHp} {H : Heap} (r : zRel D U N0 h H) {x t : Nat} {vs : List Value} (hx : h.1 x = some (t, vs)) (h1 : 64 ≤ t) {ty : FieldType} (hty : t = 99 ∧ ty = .int ∨ t < 99 ∧ zTyA[t - 64]? = some ty) : ∃ cell : Cell, H[x]? = some cell ∧ U.isArrayOf cell ty ∧ cell.vm ≠ .unknown ∧ cell.slots = vs.toArray := by
  obtain ⟨-, hz⟩ := r.2.2 x _ hx
  rcases hty with ⟨rfl, rfl⟩ | ⟨q, hq⟩
  · obtain ⟨cell, g1, g2, g3, g4⟩ := hz.2.2 (Nat.le_refl _)
    exact ⟨cell, g1, g3, g2, g4⟩
  · obtain ⟨cell, ty', g1, g2, g3, g4, g5⟩ := hz.2.1 h1 q
    have : ty' = ty := Option.some.inj (g4.symm.trans hq)
    subst this
    exact ⟨cell, g1, g5.is g2, (by rw [g2]; exact fun h => by cases h), g3⟩
/-- a row's length -/
theorem xLen {t x : Nat} {ty : FieldType} {A : zEx} (h64 : 64 ≤ t) (hty : t = 99 ∧ ty = .int ∨ t < 99 ∧ zTyA[t - 64]? = some ty) (jA : zJx μ K n 3 a x A) (hd : decode μ.1 x = .ok (.arraylength, 1)) (hb : x + 1 = b) : zJx μ K n 0 a b (zLen t A) := by
  intro D N0 n0 s0 rv he p l e R s m args below meth c Q F env h v h' st hE h1 h2 h3
  unfold zLen at hE
  obtain ⟨⟨v1, g1⟩, e1, hE⟩ := zB hE
  obtain ⟨o, e3, hE⟩ := zB hE
  obtain ⟨vs, e4, hE⟩ := zB hE
  cases hE
  subst hb
  obtain ⟨a1, a2, a3⟩ := jA F e1 h1 h2 h3
  refine ⟨rfl, a2, fun hl kk => a3 hl fun H locs ls r hr ho => ?_⟩
  cases v1 with
  | ref o' =>
    cases e3
    obtain ⟨cell, c1, c2, c3, c4⟩ := r.arr (zArr_at e4) h64 hty
    exact W.alen F.1 F.2.1 c1 c2 (n := Int32.ofNat vs.length) (by rw [c4]; simp) rfl rfl hd (kk H locs ls r hr ho)
  | _ => cases e3
theorem zIx_at {vs : List Value} {i : Int32} {v : Value} (h : zIx vs i = some v) : ¬ i < 0 ∧ i.toNatClampNeg < vs.length ∧ vs[i.toNatClampNeg]? = some v := by
  unfold zIx at h
  split at h
  · cases h
  next q => exact ⟨q, (List.getElem?_eq_some_iff.mp h).1, h⟩
/-- the load of an element: which instruction for which kind of row -/
def zLdI : Nat → Instr
  | 65 => .laload
  | 66 => .baload
  | 64 => .iaload
  | 99 => .iaload
  | _ => .aaload
def zElT (t : Nat) : Nat := if t = 64 ∨ t = 99 then 0 else if t = 65 then 1 else if t = 66 then 0 else 3
theorem zW_ald {p : Program} {l : Launch} {e : Env} {R : Room} {s : State} {m : MethodId} {args : Array Value} {below : List Frame} {meth : Method} {c : Code} {Q : State → Prop} {H : Heap} {locs : List Loc} {cells slots : Nat} {ls : Array Slot} {rest : List Value} {cc : ByteArray} {pc t x : Nat} {i : Int32} {v : Value} {ty : FieldType} {cell : Cell} {vs : List Value} (hx : p.tables.exec = Jvm.exec) (hc : c.code = cc) (h64 : 64 ≤ t) (hty : t = 99 ∧ ty = .int ∨ t < 99 ∧ zTyA[t - 64]? = some ty) (c1 : H[x]? = some cell) (c2 : s.isArrayOf cell ty) (c3 : cell.vm ≠ .unknown) (c4 : cell.slots = vs.toArray) (hv : zIx vs i = some v) (hd : decode cc pc = .ok (zLdI t, 1))
    (kk : W p l e R s m args below meth c H locs cells slots Q (F0 m (pc + 1) ls (v :: rest))) : W p l e R s m args below meth c H locs cells slots Q (F0 m pc ls (.int i :: .ref x :: rest)) := by
  obtain ⟨q1, q2, q3⟩ := zIx_at hv
  have hin : ¬ (i < 0 ∨ cell.slots.size ≤ i.toNatClampNeg) := by
    rw [c4]
    simp only [List.size_toArray]
    intro z
    rcases z with z | z
    · exact q1 z
    · omega
  have hv' : cell.slots[i.toNatClampNeg]? = some v := by rw [c4]; simpa using q3
  rcases hty with ⟨rfl, rfl⟩ | ⟨q, hq⟩
  · exact W.iald hx hc c1 c2 c3 hin hv' rfl rfl hd kk
  · have : t = 64 ∨ t = 65 ∨ t = 66 ∨ t = 67 ∨ t = 68 ∨ t = 69 ∨ t = 70 ∨ t = 71 ∨ t = 72 ∨ t = 73 := by
      have := (List.getElem?_eq_some_iff.mp hq).1
      simp [zTyA] at this
      omega
    rcases this with rfl | rfl | rfl | rfl | rfl | rfl | rfl | rfl | rfl | rfl <;> simp [zTyA] at hq <;> subst hq
    · exact W.iald hx hc c1 c2 c3 hin hv' rfl rfl hd kk
    · exact W.lald hx hc c1 c2 c3 hin hv' rfl rfl hd kk
    · exact W.zald hx hc c1 c2 c3 hin hv' rfl rfl hd kk
    all_goals exact W.aald hx hc c1 c2 rfl c3 hin hv' rfl rfl hd kk
theorem xAx {ty0 t x y : Nat} {ty : FieldType} {A I : zEx} (h64 : 64 ≤ t) (hty : t = 99 ∧ ty = .int ∨ t < 99 ∧ zTyA[t - 64]? = some ty) (jA : zJx μ K n 3 a x A) (jI : zJx μ K (n + 1) 0 x y I) (hd : decode μ.1 y = .ok (zLdI t, 1)) (hb : y + 1 = b) : zJx μ K n ty0 a b (zAx ty0 t A I) := by
  intro D N0 n0 s0 rv he p l e R s m args below meth c Q F env h v h' st hE h1 h2 h3
  unfold zAx at hE
  obtain ⟨⟨v1, g1⟩, e1, hE⟩ := zB hE
  obtain ⟨⟨v2, g2⟩, e2, hE⟩ := zB hE
  obtain ⟨o, e3, hE⟩ := zB hE
  obtain ⟨i, e5, hE⟩ := zB hE
  obtain ⟨vs, e4, hE⟩ := zB hE
  obtain ⟨w, e6, hE⟩ := zB hE
  split at hE
  next ht =>
    cases hE
    subst hb
    obtain ⟨a1, a2, a3⟩ := jA F e1 h1 h2 h3
    obtain ⟨b1, b2, b3⟩ := jI F e2 (a2.n0 h1) (a2.s0 h2) (zSum_cons a1 h3)
    refine ⟨ht, a2.tr b2, fun hl kk => a3 (b2.tr hl) (b3 hl fun H locs ls r hr ho => ?_)⟩
    obtain ⟨i', rfl⟩ := zTy0 b1
    cases e5
    cases v1 with
    | ref o' =>
      cases e3
      obtain ⟨cell, c1, c2, c3, c4⟩ := r.arr (zArr_at e4) h64 hty
      exact zW_ald F.1 F.2.1 h64 hty c1 c2 c3 c4 e6 hd (kk H locs ls r hr ho)
    | _ => cases e3
  next => cases hE
theorem zStr_at {h h' : zHp} {x t ty : Nat} {c : Option Nat} {i : Int32} {v : Value} (hp : zStr h x t c ty i v = some h') : ∃ vs, h.1 x = some (t, vs) ∧ ¬ i < 0 ∧ i.toNatClampNeg < vs.length ∧ zTy ty v = true ∧ zEl h c v = true ∧ h' = zSet h x (t, vs.set i.toNatClampNeg v) := by
  unfold zStr at hp
  obtain ⟨vs, e1, hp⟩ := zB hp
  split at hp
  next q => cases hp; exact ⟨vs, zArr_at e1, q.1, q.2.1, q.2.2.1, q.2.2.2, rfl⟩
  next => cases hp
def zStI : Nat → Instr
  | 65 => .lastore
  | 66 => .bastore
  | 64 => .iastore
  | _ => .aastore
/-- what kind of element is put into a row of kind t, and what must be looked at -/
theorem zEl_at {h : zHp} {ci x : Nat} (hE : zEl h (some ci) (.ref x) = true) : ∃ vs, h.1 x = some (ci, vs) := by
  unfold zEl at hE
  simp only at hE
  split at hE
  next o q => exact ⟨o.2, by rw [q, ← beq_iff_eq.mp hE]⟩
  next => cases hE
/-- the class of an object beside a row's component -/
theorem zRel.comp {D : va_G} {U : State} {N0 : Nat} {h : zHp} {H : Heap} (r : zRel D U N0 h H) (hK : va_K D vwCl [] U) {t : Nat} {ty : FieldType} (ht : 67 ≤ t) (hty : zTyA[t - 64]? = some ty) {cA : ClassId} (hA : zRA U cA ty) {x : Nat} (hE : zEl h (zStK t).2 (.ref x) = true) : ∃ (cell : Cell) (kA : Class) (comp : ClassId) (kC : Class), H[x]? = some cell ∧ (cell.vm = .none) ∧ U.vm.classes[cA]? = some kA ∧ kA.kind = .array comp ty ∧ cell.cls = comp ∧ U.vm.classes[comp]? = some kC := by
  have : t = 67 ∨ t = 68 ∨ t = 69 ∨ t = 70 ∨ t = 71 ∨ t = 72 ∨ t = 73 := by
    have := (List.getElem?_eq_some_iff.mp hty).1
    simp [zTyA] at this
    omega
  obtain ⟨kA, comp, k1, k2, k3, k4⟩ := hA
  have obj : ∀ (ci : Nat) (C : String) (T : u_T) (N : Nat), ci < 64 → vwCl[ci]? = some (C, T, N) → ty = .object C → zEl h (some ci) (.ref x) = true → ∃ (cell : Cell) (kA : Class) (comp : ClassId) (kC : Class), H[x]? = some cell ∧ (cell.vm = .none) ∧ U.vm.classes[cA]? = some kA ∧ kA.kind = .array comp ty ∧ cell.cls = comp ∧ U.vm.classes[comp]? = some kC := by
    intro ci C T N hci hc he hE
    subst he
    obtain ⟨vs, f1⟩ := zEl_at hE
    obtain ⟨-, hz⟩ := r.2.2 x _ f1
    obtain ⟨q, g1, g2, cell, q1, q2, q3, q4⟩ := hz.1 hci
    obtain ⟨hS, hfc, kC, hkC, hkind⟩ := hK.1 ci _ hc
    have e1 : D.1 ci = comp := Option.some.inj (hfc.symm.trans k4)
    exact ⟨cell, kA, comp, kC, q1, q3, k1, k2, by rw [q2, e1], by rw [← e1]; exact hkC⟩
  rcases this with rfl | rfl | rfl | rfl | rfl | rfl | rfl <;> simp [zTyA] at hty <;> subst hty
  · exact obj 0 _ _ _ (by decide) rfl rfl hE
  · exact obj 2 _ _ _ (by decide) rfl rfl hE
  · exact obj 9 _ _ _ (by decide) rfl rfl hE
  · exact obj 5 _ _ _ (by decide) rfl rfl hE
  · exact obj 4 _ _ _ (by decide) rfl rfl hE
  · exact obj 6 _ _ _ (by decide) rfl rfl hE
  · obtain ⟨vs, f1⟩ := zEl_at hE
    obtain ⟨-, hz⟩ := r.2.2 x _ f1
    obtain ⟨cell, ty', g1, g2, g3, g4, kB, comp2, b1, b2, b3, -⟩ := hz.2.1 (show (64:Nat) ≤ 65 by decide) (show (65:Nat) < 99 by decide)
    have : ty' = .long := by simp [zTyA] at g4; exact g4.symm
    subst this
    have e1 : cell.cls = comp := Option.some.inj (b3.symm.trans k4)
    exact ⟨cell, kA, comp, kB, g1, g2, k1, k2, e1, by rw [← e1]; exact b1⟩
theorem zW_ast {p : Program} {l : Launch} {e : Env} {R : Room} {s : State} {m : MethodId} {args : Array Value} {below : List Frame} {meth : Method} {c : Code} {Q : State → Prop} {H : Heap} {locs : List Loc} {cells slots : Nat} {ls : Array Slot} {rest : List Value} {cc : ByteArray} {D : va_G} {N0 : Nat} (hx : p.tables.exec = Jvm.exec) (hc : c.code = cc) (hK : va_K D vwCl [] s) {h h' : zHp} (r : zRel D s N0 h H) (ho : ∀ q ∈ locs, N0 ≤ q.base) {pc t x : Nat} {i : Int32} {v : Value} (h64 : 64 ≤ t) (h74 : t < 74) (hp : zStr h x t (zStK t).2 (zStK t).1 i v = some h') (hd : decode cc pc = .ok (zStI t, 1))
    (kk : ∀ (H1 : Heap) (locs1 : List Loc), zRel D s N0 h' H1 → (∀ q ∈ locs1, N0 ≤ q.base) → W p l e R s m args below meth c H1 locs1 cells slots Q (F0 m (pc + 1) ls rest)) : W p l e R s m args below meth c H locs cells slots Q (F0 m pc ls (v :: .int i :: .ref x :: rest)) := by
  obtain ⟨vs, f1, f2, f3, f4, f5, rfl⟩ := zStr_at hp
  obtain ⟨hx0, hz⟩ := r.2.2 x _ f1
  have hx0 := hx0 (Nat.lt_trans h74 (by decide))
  obtain ⟨cell, ty, g1, g2, g3, g4, g5⟩ := hz.2.1 h64 (Nat.lt_trans h74 (by decide))
  have hsz : cell.slots.size = vs.length := by rw [g3]; simp
  have hin : ¬ (i < 0 ∨ cell.slots.size ≤ i.toNatClampNeg) := by
    rw [hsz]
    intro z
    rcases z with z | z
    · exact f2 z
    · omega
  have harr := g5.is g2
  have hkn : cell.vm ≠ .unknown := by rw [g2]; exact fun h => by cases h
  have fin : ∀ H' : Heap, H'[x]? = some (cell.setSlot i.toNatClampNeg v) → H'.size = H.size → (∀ q, q ≠ x → H'[q]? = H[q]?) → W p l e R s m args below meth c H' (locs ++ [⟨x, i.toNatClampNeg⟩]) cells slots Q (F0 m (pc + 1) ls rest) := by
    intro H' e1 e2 e3
    refine kk H' _ (r.set hx0 e2 e3 ⟨fun z => absurd h64 (by simp only at z; omega), fun _ _ => ⟨_, ty, e1, g2, ?_, g4, g5⟩, fun z => absurd h74 (by simp only at z; omega)⟩) (zBs hx0 ho)
    show cell.slots.setIfInBounds _ _ = _
    rw [g3]
    simp
  have : t = 64 ∨ t = 65 ∨ t = 66 ∨ 67 ≤ t := by omega
  rcases this with rfl | rfl | rfl | h67
  · have : ty = .int := by simp [zTyA] at g4; exact g4.symm
    subst this
    obtain ⟨w, rfl⟩ := zTy0 f4
    exact W.iast hx hc g1 harr hkn hin rfl rfl hd fin
  · have : ty = .long := by simp [zTyA] at g4; exact g4.symm
    subst this
    obtain ⟨w, rfl⟩ := zTy1 f4
    exact W.last hx hc g1 harr hkn hin rfl rfl hd fin
  · have : ty = .boolean := by simp [zTyA] at g4; exact g4.symm
    subst this
    have : ∃ w : Int32, v = .int w ∧ narrow .boolean (.int w) = .int w := by
      rcases zTy4 f4 with rfl | rfl
      · exact ⟨0, rfl, by decide⟩
      · exact ⟨1, rfl, by decide⟩
    obtain ⟨w, rfl, hw⟩ := this
    exact W.zast hx hc g1 harr hkn hin rfl rfl hd (fun H' e1 => fin H' (by rw [hw] at e1; exact e1))
  · have hI : zStI t = .aastore := by
      have : t = 67 ∨ t = 68 ∨ t = 69 ∨ t = 70 ∨ t = 71 ∨ t = 72 ∨ t = 73 := by omega
      rcases this with rfl | rfl | rfl | rfl | rfl | rfl | rfl <;> rfl
    have h3 : (zStK t).1 = 3 := by
      unfold zStK
      rw [if_neg (by omega), if_neg (by omega), if_neg (by omega)]
    rw [hI] at hd
    rw [h3] at f4
    rcases zTy3 f4 with rfl | ⟨w, rfl⟩
    · have : (∃ C, ty = .object C) ∨ t = 73 := by
        have : t = 67 ∨ t = 68 ∨ t = 69 ∨ t = 70 ∨ t = 71 ∨ t = 72 ∨ t = 73 := by omega
        rcases this with rfl | rfl | rfl | rfl | rfl | rfl | rfl <;> simp [zTyA] at g4 <;> simp [← g4]
      rcases this with ⟨C, rfl⟩ | rfl
      · exact va_WaastN hx hc g1 harr hkn hin rfl rfl hd fin
      · exact absurd f5 (by simp [zEl, zStK])
    · obtain ⟨cw, kA, comp, kC, w1, w2, w3, w4, w5, w6⟩ := r.comp hK h67 g4 g5 f5
      exact W.aast hx hc g1 (fun q z => by rw [g2] at z; cases z) hkn w3 w4 (by
        have : t = 67 ∨ t = 68 ∨ t = 69 ∨ t = 70 ∨ t = 71 ∨ t = 72 ∨ t = 73 := by omega
        rcases this with rfl | rfl | rfl | rfl | rfl | rfl | rfl <;> simp [zTyA] at g4 <;> subst g4 <;> rfl) w6 ⟨f2, by rw [hsz]; exact f3⟩ w1 (fun q z => by rw [w2] at z; cases z) (by rw [w5]; exact w6) (by rw [w5]; exact va_asg _ _) rfl rfl hd fin
end HP
