/-! THE ROWS: stores into rows, new rows, calls, new objects -/
section CL
variable {μ : zMi} {K : List Nat} {n a b : Nat}
theorem zStr_hp {h h' : zHp} {x t ty : Nat} {c : Option Nat} {i : Int32} {v : Value} (hp : zStr h x t c ty i v = some h') : h'.2 = h.2 := by
  obtain ⟨vs, -, -, -, -, -, rfl⟩ := zStr_at hp
  rfl
theorem zLe.eq {h h' : zHp} (hz : h'.2 = h.2) : zLe h h' := by unfold zLe; rw [hz]; exact ⟨Nat.le_refl _, Nat.le_refl _⟩
theorem zSum2 {v w : Value} {t1 t2 : Nat} (h1 : zTy t1 v = true) (h2 : zTy t2 w = true) : zSum [v, w] ≤ zCat t1 + zCat t2 := by
  have a1 := zTy_cat h1
  have a2 := zTy_cat h2
  simp only [zSum, List.map_cons, List.map_nil, List.sum_cons, List.sum_nil, a1, a2]
  omega
theorem sAs {t x y z : Nat} {A I B : zEx} {X : zXt} (h64 : 64 ≤ t) (h74 : t < 74) (jA : zJx μ K 0 3 a x A) (jI : zJx μ K 1 0 x y I) (jB : zJx μ K 2 (zStK t).1 y z B) (hd : decode μ.1 z = .ok (zStI t, 1)) (g : zGo μ (z + 1) X.1.1) (hX : zSb X.1.2 K = true) : zJs μ K a X (zAs (zStK t).1 t (zStK t).2 A I B) := by
  intro D N0 n0 s0 rv he p l e R s m args below meth c Q F env h o h' hE h1 h2
  unfold zAs at hE
  obtain ⟨⟨v1, g1⟩, e1, hE⟩ := zB hE
  obtain ⟨⟨v2, g2⟩, e2, hE⟩ := zB hE
  obtain ⟨⟨v3, g3⟩, e3, hE⟩ := zB hE
  obtain ⟨o', e4, hE⟩ := zB hE
  obtain ⟨i, e5, hE⟩ := zB hE
  obtain ⟨h2', e6, hE⟩ := zB hE
  cases hE
  obtain ⟨a1, a2, a3⟩ := jA F (st := []) e1 h1 h2 (Nat.le_refl 0)
  obtain ⟨b1, b2, b3⟩ := jI F (st := [v1]) e2 (a2.n0 h1) (a2.s0 h2) (zSum_cons (st := []) a1 (Nat.le_refl 0))
  obtain ⟨c1, c2, c3⟩ := jB F (st := [v2, v1]) e3 ((a2.tr b2).n0 h1) ((a2.tr b2).s0 h2) (zSum2 b1 a1)
  have hz := zStr_hp e6
  have hl2 := zLe.eq hz
  refine ⟨((a2.tr b2).tr c2).tr hl2, fun hl kk => a3 (((b2.tr c2).tr hl2).tr hl) (b3 ((c2.tr hl2).tr hl) (c3 (hl2.tr hl) fun H locs ls r hr ho => ?_))⟩
  obtain ⟨i', rfl⟩ := zTy0 b1
  cases e5
  cases v1 with
  | ref o'' =>
    cases e4
    refine zW_ast F.1 F.2.1 F.2.2.2.2.2.1 r hr h64 h74 e6 hd (fun H1 locs1 r1 hr1 => ?_)
    have := g F kk H1 locs1 ls r1 hr1 (ho.sub hX)
    rw [hz] at this
    exact this
  | _ => cases e4
/-- an element op= a value -/
theorem sAso {t t2 x y z : Nat} {i : Instr} {f : Value → Value → Option Value} {ty : FieldType} {A I B : zEx} {X : zXt} (h64 : 64 ≤ t) (h67 : t < 66) (hty : zTyA[t - 64]? = some ty) (ro : zR2 i f (zStK t).1) (jA : zJx μ K 0 3 a x A) (jI : zJx μ K 1 0 x y I) (hd0 : decode μ.1 y = .ok (.dup2, 1)) (hd1 : decode μ.1 (y + 1) = .ok (zLdI t, 1)) (jB : zJx μ K (2 + zCat (zStK t).1) t2 (y + 1 + 1) z B) (hd2 : decode μ.1 z = .ok (i, 1)) (hd : decode μ.1 (z + 1) = .ok (zStI t, 1)) (g : zGo μ (z + 1 + 1) X.1.1) (hX : zSb X.1.2 K = true) : zJs μ K a X (zAso (zStK t).1 t f A I B) := by
  intro D N0 n0 s0 rv he p l e R s m args below meth c Q F env h o h' hE h1 h2
  unfold zAso at hE
  obtain ⟨⟨v1, g1⟩, e1, hE⟩ := zB hE
  obtain ⟨⟨v2, g2⟩, e2, hE⟩ := zB hE
  obtain ⟨o', e4, hE⟩ := zB hE
  obtain ⟨i0, e5, hE⟩ := zB hE
  obtain ⟨vs, e7, hE⟩ := zB hE
  obtain ⟨v, e8, hE⟩ := zB hE
  split at hE
  next htv =>
    obtain ⟨⟨v3, g3⟩, e3, hE⟩ := zB hE
    obtain ⟨w, e9, hE⟩ := zB hE
    obtain ⟨h2', e6, hE⟩ := zB hE
    cases hE
    obtain ⟨a1, a2, a3⟩ := jA F (st := []) e1 h1 h2 (Nat.le_refl 0)
    obtain ⟨b1, b2, b3⟩ := jI F (st := [v1]) e2 (a2.n0 h1) (a2.s0 h2) (zSum_cons (st := []) a1 (Nat.le_refl 0))
    obtain ⟨i', rfl⟩ := zTy0 b1
    cases e5
    cases v1 with
    | ref o'' =>
      cases e4
      obtain ⟨c1, c2, c3⟩ := jB F (st := [v, .int i0, .ref o']) e3 ((a2.tr b2).n0 h1) ((a2.tr b2).s0 h2) (zSum_cons htv (zSum2 b1 a1))
      have hz := zStr_hp e6
      have hl2 := zLe.eq hz
      have hnone : (zStK t).2 = none := by
        have : t = 64 ∨ t = 65 := by omega
        rcases this with rfl | rfl <;> rfl
      refine ⟨((a2.tr b2).tr c2).tr hl2, fun hl kk => a3 (((b2.tr c2).tr hl2).tr hl) (b3 ((c2.tr hl2).tr hl) fun H locs ls r hr ho => ?_)⟩
      refine lv_dup2_11 F.1 F.2.1 hd0 rfl rfl ?_
      obtain ⟨cell, d1, d2, d3, d4⟩ := r.arr (zArr_at e7) h64 (Or.inr ⟨by omega, hty⟩)
      refine zW_ald F.1 F.2.1 h64 (Or.inr ⟨by omega, hty⟩) d1 d2 d3 d4 e8 hd1 ?_
      refine c3 (hl2.tr hl) (fun H locs ls r hr ho => ?_) H locs ls r hr ho
      refine (ro F.1 F.2.1 hd2 e9).2 ?_
      refine zW_ast F.1 F.2.1 F.2.2.2.2.2.1 r hr h64 (by omega) (by rw [hnone]; exact e6) hd (fun H1 locs1 r1 hr1 => ?_)
      have := g F kk H1 locs1 ls r1 hr1 (ho.sub hX)
      rw [hz] at this
      exact this
    | _ => cases e4
  next => cases hE
theorem zNn {i : Int32} (h : 0 ≤ i ∧ i ≤ 1000000) : ¬ i < 0 ∧ i.toNatClampNeg ≤ 1000000 := by
  refine ⟨Int32.not_lt.mpr h.1, ?_⟩
  have h1 := Int32.le_iff_toInt_le.mp h.2
  show i.toInt.toNat ≤ 1000000
  have h2 : (1000000 : Int32).toInt = 1000000 := by decide
  omega
theorem zAl_at {D : va_G} {U : State} {x t N : Nat} {d : Value} {H : Heap} {cA : ClassId} {ty : FieldType} (h64 : 64 ≤ t) (h74 : t < 74) (hty : zTyA[t - 64]? = some ty) (hc : H[x]? = some { cls := cA, slots := Array.replicate N d, vm := .none }) (hA : zRA U cA ty) : zAt D U x (t, List.replicate N d) H := by
  refine ⟨fun z => absurd h64 (by simp only at z; omega), fun _ _ => ⟨_, ty, hc, rfl, by simp, hty, hA⟩, fun z => absurd h74 (by simp only at z; omega)⟩
theorem zRoom {he h' : zHp} {n0 s0 k n : Nat} (hl : zLe h' he) (hR : he.2.1 - n0 ≤ k ∧ he.2.2 - s0 ≤ n) : h'.2.1 - n0 ≤ k ∧ h'.2.2 - s0 ≤ n := ⟨Nat.le_trans (Nat.sub_le_sub_right hl.1 _) hR.1, Nat.le_trans (Nat.sub_le_sub_right hl.2 _) hR.2⟩
/-- a new row of numbers -/
theorem xNa {t x : Nat} {at_ : ArrayType} {A : zEx} (h64 : 64 ≤ t) (h67 : t < 67) (hty : zTyA[t - 64]? = some (newarray.typeOf at_)) (hw : Cond.arrayClass (newarray.typeOf at_) ∈ zTbl) (jA : zJx μ K n 0 a x A) (hd : decode μ.1 x = .ok (.newarray at_, 2)) (hb : x + 2 = b) : zJx μ K n 3 a b (zNa t (defaultValue (newarray.typeOf at_)) A) := by
  intro D N0 n0 s0 rv he p l e R s m args below meth c Q F env h v h' st hE h1 h2 h3
  unfold zNa at hE
  obtain ⟨⟨v1, g1⟩, e1, hE⟩ := zB hE
  obtain ⟨i, e3, hE⟩ := zB hE
  split at hE
  next hi =>
    cases hE
    subst hb
    obtain ⟨a1, a2, a3⟩ := jA F e1 h1 h2 h3
    have hl2 : zLe g1 (zAl g1 i.toNatClampNeg (t, List.replicate i.toNatClampNeg (defaultValue (newarray.typeOf at_)))) := ⟨Nat.le_succ _, Nat.le_add_right _ _⟩
    refine ⟨rfl, a2.tr hl2, fun hl kk => a3 (hl2.tr hl) fun H locs ls r hr ho => ?_⟩
    obtain ⟨i', rfl⟩ := zTy0 a1
    cases e3
    obtain ⟨i1, i2⟩ := zNn hi
    obtain ⟨r1, r2⟩ := zRoom hl F.2.2.2.2.2.2.1.2.2
    have hn := a2.n0 h1
    have hs := a2.s0 h2
    simp only [zAl] at r1 r2
    refine W.newa F.1 F.2.1 (F.2.2.2.2.1 _ hw) rfl hd rfl i1 (by have hq : componentBytes (newarray.typeOf at_) ≤ 8 := by cases at_ <;> decide
                                                                 exact Nat.le_trans (Nat.mul_le_mul i2 hq) (by decide)) (by omega) (by omega) (fun cA kA comp k1 k2 k3 => ?_)
    have hz : H.size = g1.2.1 := r.1
    rw [hz]
    have hA : zRA s cA (newarray.typeOf at_) := ⟨kA, comp, k2, k3, k1, by cases at_ <;> trivial⟩
    have := kk (H.push { cls := cA, slots := Array.replicate i.toNatClampNeg (defaultValue (newarray.typeOf at_)), vm := .none }) locs ls (r.al (by simp) (fun q hq => by rw [Array.getElem?_push, if_neg (Nat.ne_of_lt hq)]) (zAl_at h64 (by omega) hty (by rw [← hz]; simp) hA)) hr ho
    simp only [zAl] at this
    rw [show g1.2.1 + 1 - n0 = g1.2.1 - n0 + 1 by omega, show g1.2.2 + i.toNatClampNeg - s0 = g1.2.2 - s0 + i.toNatClampNeg by omega] at this
    exact this
  next => cases hE
/-- a new row of objects -/
theorem xAna {t x index : Nat} {C : String} {A : zEx} (h64 : 64 ≤ t) (h74 : t < 74) (hty : zTyA[t - 64]? = some (.object C)) (hw : Cond.classLink μ.2.2.1 index C ∈ zTbl) (hw2 : Cond.arrayOver (.object C) ∈ zTbl) (jA : zJx μ K n 0 a x A) (hd : decode μ.1 x = .ok (.anewarray index, 3)) (hb : x + 3 = b) : zJx μ K n 3 a b (zNa t .null A) := by
  intro D N0 n0 s0 rv he p l e R s m args below meth c Q F env h v h' st hE h1 h2 h3
  unfold zNa at hE
  obtain ⟨⟨v1, g1⟩, e1, hE⟩ := zB hE
  obtain ⟨i, e3, hE⟩ := zB hE
  split at hE
  next hi =>
    cases hE
    subst hb
    obtain ⟨a1, a2, a3⟩ := jA F e1 h1 h2 h3
    have hl2 : zLe g1 (zAl g1 i.toNatClampNeg (t, List.replicate i.toNatClampNeg .null)) := ⟨Nat.le_succ _, Nat.le_add_right _ _⟩
    refine ⟨rfl, a2.tr hl2, fun hl kk => a3 (hl2.tr hl) fun H locs ls r hr ho => ?_⟩
    obtain ⟨i', rfl⟩ := zTy0 a1
    cases e3
    obtain ⟨i1, i2⟩ := zNn hi
    obtain ⟨r1, r2⟩ := zRoom hl F.2.2.2.2.2.2.1.2.2
    have hn := a2.n0 h1
    have hs := a2.s0 h2
    simp only [zAl] at r1 r2
    refine W.anew F.1 F.2.1 F.2.2.2.1 (F.2.2.2.2.1 _ hw) (F.2.2.2.2.1 _ hw2) rfl hd rfl i1 (Nat.le_trans (Nat.mul_le_mul_right 4 i2) (by decide)) (by omega) (by omega) (fun cA kA comp k1 k2 k3 k4 => ?_)
    have hz : H.size = g1.2.1 := r.1
    rw [hz]
    have hA : zRA s cA (.object C) := ⟨kA, comp, k2, k3, k1, k4⟩
    have := kk (H.push { cls := cA, slots := Array.replicate i.toNatClampNeg .null, vm := .none }) locs ls (r.al (by simp) (fun q hq => by rw [Array.getElem?_push, if_neg (Nat.ne_of_lt hq)]) (zAl_at h64 h74 hty (by rw [← hz]; simp) hA)) hr ho
    simp only [zAl] at this
    rw [show g1.2.1 + 1 - n0 = g1.2.1 - n0 + 1 by omega, show g1.2.2 + i.toNatClampNeg - s0 = g1.2.2 - s0 + i.toNatClampNeg by omega] at this
    exact this
  next => cases hE
/-- a new row of rows of longs -/
theorem xAnl {x index : Nat} {A : zEx} (hw : Cond.classLink μ.2.2.1 index "[J" ∈ zTbl) (hw2 : Cond.arrayOver (.array .long) ∈ zTbl) (jA : zJx μ K n 0 a x A) (hd : decode μ.1 x = .ok (.anewarray index, 3)) (hb : x + 3 = b) : zJx μ K n 3 a b (zNa 73 .null A) := by
  intro D N0 n0 s0 rv he p l e R s m args below meth c Q F env h v h' st hE h1 h2 h3
  unfold zNa at hE
  obtain ⟨⟨v1, g1⟩, e1, hE⟩ := zB hE
  obtain ⟨i, e3, hE⟩ := zB hE
  split at hE
  next hi =>
    cases hE
    subst hb
    obtain ⟨a1, a2, a3⟩ := jA F e1 h1 h2 h3
    have hl2 : zLe g1 (zAl g1 i.toNatClampNeg (73, List.replicate i.toNatClampNeg .null)) := ⟨Nat.le_succ _, Nat.le_add_right _ _⟩
    refine ⟨rfl, a2.tr hl2, fun hl kk => a3 (hl2.tr hl) fun H locs ls r hr ho => ?_⟩
    obtain ⟨i', rfl⟩ := zTy0 a1
    cases e3
    obtain ⟨i1, i2⟩ := zNn hi
    obtain ⟨r1, r2⟩ := zRoom hl F.2.2.2.2.2.2.1.2.2
    have hn := a2.n0 h1
    have hs := a2.s0 h2
    simp only [zAl] at r1 r2
    refine W.anewA (t := .long) F.1 F.2.1 F.2.2.2.1 (F.2.2.2.2.1 _ hw) (F.2.2.2.2.1 _ hw2) rfl hd rfl i1 (Nat.le_trans (Nat.mul_le_mul_right 4 i2) (by decide)) (by omega) (by omega) (fun cA kA comp k1 k2 k3 k4 => ?_)
    have hz : H.size = g1.2.1 := r.1
    rw [hz]
    have hA : zRA s cA (.array .long) := ⟨kA, comp, k2, k3, k1, k4⟩
    have := kk (H.push { cls := cA, slots := Array.replicate i.toNatClampNeg .null, vm := .none }) locs ls (r.al (by simp) (fun q hq => by rw [Array.getElem?_push, if_neg (Nat.ne_of_lt hq)]) (zAl_at (t := 73) (by decide) (by decide) rfl (by rw [← hz]; simp) hA)) hr ho
    simp only [zAl] at this
    rw [show g1.2.1 + 1 - n0 = g1.2.1 - n0 + 1 by omega, show g1.2.2 + i.toNatClampNeg - s0 = g1.2.2 - s0 + i.toNatClampNeg by omega] at this
    exact this
  next => cases hE
-- CALLS
theorem jNil : zJa μ K n [] a a [] := by
  intro D N0 n0 s0 rv he p l e R s m args below meth c Q F env h v h' st hE h1 h2 h3
  cases hE
  exact ⟨rfl, zLe.rf, fun _ kk => kk⟩
theorem jCons {t x : Nat} {ts : List Nat} {A : zEx} {As : List zEx} (jA : zJx μ K n t a x A) (jB : zJa μ K (n + zCat t) ts x b As) : zJa μ K n (t :: ts) a b (A :: As) := by
  intro D N0 n0 s0 rv he p l e R s m args below meth c Q F env h v h' st hE h1 h2 h3
  simp only [zEs] at hE
  obtain ⟨⟨v1, g1⟩, e1, hE⟩ := zB hE
  obtain ⟨⟨v2, g2⟩, e2, hE⟩ := zB hE
  cases hE
  obtain ⟨a1, a2, a3⟩ := jA F e1 h1 h2 h3
  obtain ⟨b1, b2, b3⟩ := jB F e2 (a2.n0 h1) (a2.s0 h2) (zSum_cons a1 h3)
  refine ⟨by simp only [zArgs, a1, b1, Bool.and_self], a2.tr b2, fun hl kk => a3 (b2.tr hl) (b3 hl ?_)⟩
  simpa using kk
theorem zArgs_len : ∀ {ts : List Nat} {vs : List Value}, zArgs ts vs = true → vs.length = ts.length
  | [], [], _ => rfl
  | [], _ :: _, h => by cases h
  | _ :: _, [], h => by cases h
  | t :: ts, v :: vs, h => by
    simp only [zArgs, Bool.and_eq_true] at h
    simp [zArgs_len h.2]
/-- what the tables say of a method: its code, its class, how many parameters -/
def zCb (y : MethodName) (cc : ByteArray) (nL : Nat) (ret : Option FieldType) (k : Nat) : Prop := Cond.code y cc nL ret ∈ zTbl ∧ Cond.initialized y.cls ∈ zTbl ∧ y.cls ≠ "java/lang/invoke/MethodHandle" ∧ y.cls ≠ "java/lang/invoke/VarHandle" ∧ (parseMethodDescriptor y.desc).map (fun d => d.parameters.length) = some k
theorem zGood {y : MethodName} {cc : ByteArray} {nL : Nat} {ret : Option FieldType} (h : Cond.code y cc nL ret ∈ zTbl) : GoodIn zTbl (zWs y cc nL ret) := by
  intro w hw
  rcases List.mem_cons.mp hw with q | q
  · subst q
    exact ⟨h, good_of_word (by
      have := (zTb h).2
      rwa [show zXg (Cond.code y cc nL ret) = false from rfl, Bool.or_false] at this)⟩
  · obtain ⟨q1, q2⟩ := List.mem_filter.mp q
    exact ⟨List.mem_filter.mpr ⟨q1, by rw [q2, Bool.true_or]⟩, good_of_word q2⟩
section W2
variable {D : va_G} {N0 n0 s0 : Nat} {rv : Option Value} {he : zHp} {p : Program} {l : Launch} {e : Env} {R : Room} {s : State} {m : MethodId} {args : Array Value} {below : List Frame} {meth : Method} {c : Code} {Q : State → Prop} {H : Heap} {locs : List Loc} {ls : Array Slot} {rest : List Value}
theorem zW_call {cells slots mc ms pc : Nat} {st0 : List Value} {r : Option Value} {h' : zHp} {av : Array Value} (hr : va_Run p l e R s m args below meth c H locs cells slots mc ms (F0 m pc ls st0) rest (zQc D N0 r h' av) (fun q => N0 ≤ q)) (ho : ∀ q ∈ locs, N0 ≤ q.base)
    (kk : ∀ (H1 : Heap) (locs1 : List Loc), zRel D s N0 h' H1 → (∀ q ∈ locs1, N0 ≤ q.base) → W p l e R s m args below meth c H1 locs1 (cells + mc) (slots + ms) Q (F0 m (pc + 3) ls (r.toList ++ rest))) : W p l e R s m args below meth c H locs cells slots Q (F0 m pc ls st0) := by
  intro T hT X
  obtain ⟨v, st₀, t, T', L, h0, X', hL, e1, e2, ⟨hv, hq⟩, st⟩ := hr T hT X
  cases hv
  have hal : s.vm.Alike t.vm := by rw [← e2]; exact X'.warmed.alike
  obtain ⟨t2, a1, b1⟩ := kk T'.heap (locs ++ L) (by rw [e1]; exact hq.moved hal.symm) (fun q hq => by
      rcases List.mem_append.mp hq with h | h
      · exact ho q h
      · exact hL q h) T' rfl X'
  exact ⟨t2, st t2 a1, b1⟩
theorem zPre (F : zFix μ D N0 n0 s0 rv he p l e R s m args below meth c Q) {h : zHp} {av : List Value} (r : zRel D s N0 h H) : ∀ U : State, U.heap = H → s.WarmedH U.vm → zPc D N0 av h av.toArray U := fun U hU hW => ⟨rfl, by rw [hU]; exact r.moved hW.alike, va_K.moved hW.alike F.2.2.2.2.2.1, zXw.warm hW (zTbl.x F.2.2.2.2.1)⟩
end W2
theorem zNum {x y z : Nat} (h1 : x ≤ y) (h2 : y ≤ z) : y - x + (z - y) = z - x := by omega
theorem zMem {α : Type} {L : List α} {x : α} (i : Nat) (h : L[i]? = some x) : x ∈ L := List.mem_of_getElem? h
/-- a static call -/
theorem kS {x index k nL fr lo : Nat} {y : MethodName} {cc : ByteArray} {ret : Option FieldType} {ts : List Nat} {G : zMt} {As : List zEx} (hS : zSnd y cc nL ret fr lo ts G) (hcb : zCb y cc nL ret k) (hst : Cond.static y ∈ zTbl) (hlk : Cond.methodLink μ.2.2.1 index y ∈ zTbl) (hn : ts.length = k) (hfr : fr + 1 ≤ μ.2.2.2.1 ∧ 8 + (nL + 11) + lo ≤ μ.2.2.2.2.1) (hK : K.length = μ.2.1) (h8 : n ≤ 8) (jA : zJa μ K n ts a x As) (hd : decode μ.1 x = .ok (.invokestatic index, 3)) (hb : x + 3 = b) : zJk μ K n a b (zCs G As) := by
  intro D N0 n0 s0 rv he p l e R s m args below meth c Q F env h r h' st hE h1 h2 h3
  unfold zCs at hE
  obtain ⟨⟨vs, g1⟩, e1, hE⟩ := zB hE
  subst hb
  obtain ⟨a1, a2, a3⟩ := jA F e1 h1 h2 h3
  obtain ⟨-, b2, hM⟩ := hS l D N0 _ _ _ _ hE
  refine ⟨a2.tr b2, fun hl kk => a3 (b2.tr hl) fun H locs ls rr hr ho => ?_⟩
  have hts := F.2.2.2.2.1
  obtain ⟨w1, w2, w3, w4, w5⟩ := hcb
  obtain ⟨r1, r2, r3, r4⟩ := F.2.2.2.2.2.2.1
  obtain ⟨z1, z2⟩ := zRoom hl ⟨r3, r4⟩
  have hn1 := a2.n0 h1
  have hs1 := a2.s0 h2
  refine zW_call (va_runS (Ts := zTbl) (own := μ.2.2.1) (As := vs) (rest := st) ⟨F.1, F.2.1, F.2.2.1, F.2.2.2.1, hts⟩ hM ⟨callB_of k hts (zGood w1) rfl rfl rfl (hts _ w2) (hts _ hlk) ⟨w3, w4, w5⟩ ⟨by simp only; omega, by simp only; omega⟩, hts _ hst⟩ ⟨zPc.blind, zPre F rr⟩ rfl (by rw [zArgs_len a1, hn]) (by show ls.size = _; rw [ho.1, hK]) rfl (lv_room (Nat.le_trans h3 h8)) hd ⟨by rw [zNum hn1 b2.1]; exact z1, by rw [zNum hs1 b2.2]; exact z2⟩) hr (fun H1 locs1 q1 q2 => ?_)
  rw [zNum hn1 b2.1, zNum hs1 b2.2]
  exact kk H1 locs1 ls q1 q2 ho
/-- a static call of a private method of the nest -/
theorem kSN {x index k nL fr lo : Nat} {y : MethodName} {host : String} {cc : ByteArray} {ret : Option FieldType} {ts : List Nat} {G : zMt} {As : List zEx} (hS : zSnd y cc nL ret fr lo ts G) (hcb : zCb y cc nL ret k) (hst : Cond.static y ∈ zTbl) (hlk : Cond.methodLinkNest μ.2.2.1 index y host ∈ zTbl) (hn : ts.length = k) (hfr : fr + 1 ≤ μ.2.2.2.1 ∧ 8 + (nL + 11) + lo ≤ μ.2.2.2.2.1) (hK : K.length = μ.2.1) (h8 : n ≤ 8) (jA : zJa μ K n ts a x As) (hd : decode μ.1 x = .ok (.invokestatic index, 3)) (hb : x + 3 = b) : zJk μ K n a b (zCs G As) := by
  intro D N0 n0 s0 rv he p l e R s m args below meth c Q F env h r h' st hE h1 h2 h3
  unfold zCs at hE
  obtain ⟨⟨vs, g1⟩, e1, hE⟩ := zB hE
  subst hb
  obtain ⟨a1, a2, a3⟩ := jA F e1 h1 h2 h3
  obtain ⟨-, b2, hM⟩ := hS l D N0 _ _ _ _ hE
  refine ⟨a2.tr b2, fun hl kk => a3 (b2.tr hl) fun H locs ls rr hr ho => ?_⟩
  have hts := F.2.2.2.2.1
  obtain ⟨w1, w2, w3, w4, w5⟩ := hcb
  obtain ⟨r1, r2, r3, r4⟩ := F.2.2.2.2.2.2.1
  obtain ⟨z1, z2⟩ := zRoom hl ⟨r3, r4⟩
  have hn1 := a2.n0 h1
  have hs1 := a2.s0 h2
  refine zW_call (va_runSN (Ts := zTbl) (own := μ.2.2.1) (As := vs) (rest := st) ⟨F.1, F.2.1, F.2.2.1, F.2.2.2.1, hts⟩ hM ⟨va_cnB k hts (zGood w1) rfl rfl rfl (va_Nw.of rfl (hts _ hlk)) (hts _ w2) ⟨w3, w4, w5⟩ ⟨by simp only; omega, by simp only; omega⟩, hts _ hst, trivial⟩ ⟨zPc.blind, zPre F rr⟩ rfl (by rw [zArgs_len a1, hn]) (by show ls.size = _; rw [ho.1, hK]) rfl (lv_room (Nat.le_trans h3 h8)) hd ⟨by rw [zNum hn1 b2.1]; exact z1, by rw [zNum hs1 b2.2]; exact z2⟩) hr (fun H1 locs1 q1 q2 => ?_)
  rw [zNum hn1 b2.1, zNum hs1 b2.2]
  exact kk H1 locs1 ls q1 q2 ho
theorem zTag_at {h : zHp} {vs : List Value} {ci : Nat} (ht : zTag h vs ci = true) : ∃ (x : Nat) (ws : List Value) (fs : List Value), vs = .ref x :: ws ∧ h.1 x = some (ci, fs) := by
  unfold zTag at ht
  split at ht
  next x ws =>
    split at ht
    next o q => exact ⟨x, ws, o.2, rfl, by rw [q, ← beq_iff_eq.mp ht]⟩
    next => cases ht
  next => cases ht
/-- a call on an object -/
theorem kVm {x index k nL fr lo ci N : Nat} {y : MethodName} {T : u_T} {cc : ByteArray} {ret : Option FieldType} {ts : List Nat} {G : zMt} {As : List zEx} (hS : zSnd y cc nL ret fr lo (3 :: ts) G) (hcb : zCb y cc nL ret k) (hin : Cond.instanceMethod y ∈ zTbl) (hse : Cond.selects y.cls y y ∈ zTbl) (hlk : Cond.methodLink μ.2.2.1 index y ∈ zTbl) (hci : ci < 64) (hcl : vwCl[ci]? = some (y.cls, T, N)) (hn : ts.length = k) (hfr : fr + 1 ≤ μ.2.2.2.1 ∧ 8 + (nL + 11) + lo ≤ μ.2.2.2.2.1) (hK : K.length = μ.2.1) (h8 : n ≤ 8) (jA : zJa μ K n (3 :: ts) a x As) (hd : decode μ.1 x = .ok (.invokevirtual index, 3)) (hb : x + 3 = b) : zJk μ K n a b (zCv ci G As) := by
  intro D N0 n0 s0 rv he p l e R s m args below meth c Q F env h r h' st hE h1 h2 h3
  unfold zCv at hE
  obtain ⟨⟨vs, g1⟩, e1, hE⟩ := zB hE
  split at hE
  next htag =>
    subst hb
    obtain ⟨a1, a2, a3⟩ := jA F e1 h1 h2 h3
    obtain ⟨-, b2, hM⟩ := hS l D N0 _ _ _ _ hE
    refine ⟨a2.tr b2, fun hl kk => a3 (b2.tr hl) fun H locs ls rr hr ho => ?_⟩
    obtain ⟨x0, ws, fs, rfl, f1⟩ := zTag_at htag
    have hts := F.2.2.2.2.1
    obtain ⟨w1, w2, w3, w4, w5⟩ := hcb
    obtain ⟨r1, r2, r3, r4⟩ := F.2.2.2.2.2.2.1
    obtain ⟨z1, z2⟩ := zRoom hl ⟨r3, r4⟩
    have hn1 := a2.n0 h1
    have hs1 := a2.s0 h2
    have hlen : ws.length = k := by
      have := zArgs_len a1
      simp only [List.length_cons] at this
      omega
    obtain ⟨-, hz⟩ := rr.2.2 x0 _ f1
    obtain ⟨q, y1, y2, cell, q1, q2, q3, -⟩ := hz.1 hci
    have hq : q = (y.cls, T, N) := Option.some.inj (y1.symm.trans hcl)
    subst hq
    have hfc : s.vm.findClass y.cls = some cell.cls := by rw [q2]; exact (F.2.2.2.2.2.1.1 ci _ hcl).2.1
    refine zW_call (va_runV (Ts := zTbl) (own := μ.2.2.1) (C := y.cls) (b := x0) (As := ws) (rest := st) ⟨F.1, F.2.1, F.2.2.1, F.2.2.2.1, hts⟩ hM ⟨callB_of k hts (zGood w1) rfl rfl rfl (hts _ w2) (hts _ hlk) ⟨w3, w4, w5⟩ ⟨by simp only; omega, by simp only; omega⟩, hts _ hin, hts _ hse⟩ ⟨zPc.blind, ⟨cell, q1, by rw [q3]; rfl, hfc⟩, zPre F rr⟩ rfl hlen (by show ls.size = _; rw [ho.1, hK]) (by simp) (lv_room (Nat.le_trans h3 h8)) hd ⟨by rw [zNum hn1 b2.1]; exact z1, by rw [zNum hs1 b2.2]; exact z2⟩) hr (fun H1 locs1 q1 q2 => ?_)
    rw [zNum hn1 b2.1, zNum hs1 b2.2]
    exact kk H1 locs1 ls q1 q2 ho
  next => cases hE
/-- a call's answer -/
theorem xAn {ty : Nat} {G : zEnv → zHp → Option (Option Value × zHp)} (j : zJk μ K n a b G) : zJx μ K n ty a b (zAn ty G) := by
  intro D N0 n0 s0 rv he p l e R s m args below meth c Q F env h v h' st hE h1 h2 h3
  unfold zAn at hE
  obtain ⟨⟨r, g1⟩, e1, hE⟩ := zB hE
  obtain ⟨w, e2, hE⟩ := zB hE
  split at hE
  next ht =>
    cases hE
    obtain ⟨a2, a3⟩ := j F e1 h1 h2 h3
    simp only at e2
    subst e2
    exact ⟨ht, a2, fun hl kk => a3 hl kk⟩
  next => cases hE
end CL
