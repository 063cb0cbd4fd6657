/-! THE ROWS: new objects, copies, statements, methods -/
section ST
variable {μ : zMi} {K : List Nat} {n a b : Nat}
/-- a new object; its constructor may be a private one of the nest -/
theorem xNew {z index index2 k nL fr lo ci N : Nat} {y : MethodName} {T : u_T} {cc : ByteArray} {ts : List Nat} {G : zMt} {As : List zEx} {ds : List Value} (tyf : Nat → FieldType) (hin : ∀ w ∈ u_ws y.cls T N, w ∈ zTbl) (hty : ∀ k, k < N → parseFieldDescriptor (T k).2.2.1 = some (tyf k)) (hci : ci < 64) (hcl : vwCl[ci]? = some (y.cls, T, N)) (hds : ds.length = N ∧ ∀ j, j < N → defaultValue (tyf j) = vp_V ds j) (hw1 : Cond.classLink μ.2.2.1 index y.cls ∈ zTbl) (hw2 : Cond.instantiable y.cls N ∈ zTbl)
    (hS : zSnd y cc nL none fr lo (3 :: ts) G) (hcb : zCb y cc nL none k) (hini : Cond.instanceMethod y ∈ zTbl) (hnm : y.name = "<init>") (hlk : Cond.methodLink μ.2.2.1 index2 y ∈ zTbl ∨ ∃ host, Cond.methodLinkNest μ.2.2.1 index2 y host ∈ zTbl) (hn : ts.length = k) (hfr : fr + 1 ≤ μ.2.2.2.1 ∧ 8 + (nL + 11) + lo ≤ μ.2.2.2.2.1) (hK : K.length = μ.2.1) (h8 : n + 1 ≤ 8) (hd0 : decode μ.1 a = .ok (.new index, 3)) (hd1 : decode μ.1 (a + 3) = .ok (.dup, 1)) (jA : zJa μ K (n + 2) ts (a + 4) z As) (hd : decode μ.1 z = .ok (.invokespecial index2, 3)) (hb : z + 3 = b) : zJx μ K n 3 a b (zNew ci N ds G As) := by
  intro D N0 n0 s0 rv he p l e R s m args below meth c Q F env h v h' st hE h1 h2 h3
  unfold zNew at hE
  obtain ⟨⟨vs, g1⟩, e1, hE⟩ := zB hE
  obtain ⟨⟨r0, g2⟩, e2, hE⟩ := zB hE
  split at hE
  next hr0 =>
    simp only at hr0 e2
    subst hr0
    cases hE
    subst hb
    have l0 : zLe h (zAl h N (ci, ds)) := ⟨Nat.le_succ _, Nat.le_add_right _ _⟩
    obtain ⟨a1, a2, a3⟩ := jA F (st := .ref h.2.1 :: .ref h.2.1 :: st) e1 (l0.n0 h1) (l0.s0 h2) (by simp only [zSum, List.map_cons, List.sum_cons, Value.category] at *; omega)
    obtain ⟨b1, b2, hM⟩ := hS l D N0 _ _ _ _ e2
    refine ⟨rfl, (l0.tr a2).tr b2, fun hl kk => fun H locs ls r hr ho => ?_⟩
    have hts := F.2.2.2.2.1
    obtain ⟨w1, w2, w3, w4, w5⟩ := hcb
    obtain ⟨r1, r2, r3, r4⟩ := F.2.2.2.2.2.2.1
    have hl0 := (a2.tr b2).tr hl
    obtain ⟨z1, z2⟩ := zRoom hl0 ⟨r3, r4⟩
    obtain ⟨z3, z4⟩ := zRoom hl ⟨r3, r4⟩
    have hK1 := F.2.2.2.2.2.1.1 ci _ hcl
    simp only [zAl] at z1 z2
    have hH : H.size = h.2.1 := r.1
    refine W.newcK F.1 F.2.1 F.2.2.2.1 (hts _ hw1) (hts _ hw2) (hts _ w2) rfl hd0 (by omega) (by omega) hK1.2.1 hH (fun H1 kC hkC g1' g2' g3' => ?_)
    refine lv_dup F.1 F.2.1 hd1 rfl ?_
    have hat : zAt D s h.2.1 (ci, ds) H1 := by
      refine ⟨fun _ => ⟨_, hcl, hds.1, (u_born tyf hts hin hK1 hkC g1' hty).to hds.2⟩, fun q => absurd hci (by simp only at q; omega), fun q => absurd hci (by simp only at q; omega)⟩
    have rel1 : zRel D s N0 (zAl h N (ci, ds)) H1 := r.al (by rw [g2', hH]) (fun q hq => g3' q (by rw [← hH]; exact hq)) hat
    have main := a3 (b2.tr hl) (fun H locs ls rr hr ho => ?_) H1 locs ls rel1 hr ho
    · simp only [zAl] at main
      rw [show h.2.1 + 1 - n0 = h.2.1 - n0 + 1 by omega, show h.2.2 + N - s0 = h.2.2 - s0 + N by omega] at main
      exact main
    · have hlen : vs.length = k := by rw [zArgs_len a1, hn]
      have hn1 := (l0.tr a2).n0 h1
      have hs1 := (l0.tr a2).s0 h2
      have hrest : zSum (.ref h.2.1 :: st) ≤ 8 := by
        simp only [zSum, List.map_cons, List.sum_cons, Value.category] at *
        omega
      have hf : g1.2.1 - n0 + (g2.2.1 - g1.2.1) ≤ R.cells ∧ g1.2.2 - s0 + (g2.2.2 - g1.2.2) ≤ R.slots := by
        rw [zNum hn1 b2.1, zNum hs1 b2.2]
        exact ⟨z3, z4⟩
      have fin : va_Run p l e R s m args below meth c H locs (g1.2.1 - n0) (g1.2.2 - s0) (g2.2.1 - g1.2.1) (g2.2.2 - g1.2.2) (F0 m z ls (vs.reverse ++ .ref h.2.1 :: .ref h.2.1 :: st)) (.ref h.2.1 :: st) (zQc D N0 none g2 (Value.ref h.2.1 :: vs).toArray) (fun q => N0 ≤ q) := by
        rcases hlk with hlk | ⟨host, hlk⟩
        · exact va_runI (Ts := zTbl) (own := μ.2.2.1) (b := h.2.1) (As := vs) ⟨F.1, F.2.1, F.2.2.1, F.2.2.2.1, hts⟩ hM ⟨callB_of k hts (zGood w1) rfl rfl rfl (hts _ w2) (hts _ hlk) ⟨w3, w4, w5⟩ ⟨(by show fr + 1 ≤ R.frames; omega), (by show 8 + (nL + 11) + lo ≤ R.locals; omega)⟩, hnm, hts _ hini⟩ ⟨zPc.blind, zPre F rr⟩ rfl hlen (by show ls.size = _; rw [ho.1, hK]) rfl (lv_room hrest) hd hf
        · exact va_runIN (Ts := zTbl) (own := μ.2.2.1) (b := h.2.1) (As := vs) ⟨F.1, F.2.1, F.2.2.1, F.2.2.2.1, hts⟩ hM ⟨va_cnB k hts (zGood w1) rfl rfl rfl (va_Nw.of rfl (hts _ hlk)) (hts _ w2) ⟨w3, w4, w5⟩ ⟨(by show fr + 1 ≤ R.frames; omega), (by show 8 + (nL + 11) + lo ≤ R.locals; omega)⟩, hnm, hts _ hini⟩ ⟨zPc.blind, zPre F rr⟩ rfl hlen (by show ls.size = _; rw [ho.1, hK]) rfl (lv_room hrest) hd hf
      refine zW_call fin hr (fun H1 locs1 q1 q2 => ?_)
      rw [zNum hn1 b2.1, zNum hs1 b2.2]
      exact kk H1 locs1 ls q1 q2 ho
  next => cases hE
/-- a double's bits, which the machine's own method reads -/
theorem xRaw {x index : Nat} {A : zEx} (hlk : Cond.methodLink μ.2.2.1 index ⟨"java/lang/Double", "doubleToRawLongBits", "(D)J"⟩ ∈ zTbl) (hnat : Cond.native ⟨"java/lang/Double", "doubleToRawLongBits", "(D)J"⟩ ∈ zTbl) (hst : Cond.static ⟨"java/lang/Double", "doubleToRawLongBits", "(D)J"⟩ ∈ zTbl) (hini : Cond.initialized "java/lang/Double" ∈ zTbl) (hfr : 1 ≤ μ.2.2.2.1 ∧ n + 15 ≤ μ.2.2.2.2.1) (hK : K.length = μ.2.1) (jA : zJx μ K n 2 a x A) (hd : decode μ.1 x = .ok (.invokestatic index, 3)) (hb : x + 3 = b) : zJx μ K n 1 a b (z1 oD2raw A) := by
  intro D N0 n0 s0 rv he p l e R s m args below meth c Q F env h v h' st hE h1 h2 h3
  unfold z1 at hE
  obtain ⟨⟨v1, g1⟩, e1, hE⟩ := zB hE
  obtain ⟨u, e3, hE⟩ := zB hE
  cases hE
  subst hb
  obtain ⟨a1, a2, a3⟩ := jA F e1 h1 h2 h3
  obtain ⟨d, rfl⟩ := zTy2 a1
  cases e3
  obtain ⟨r1, r2, r3, r4⟩ := F.2.2.2.2.2.2.1
  have hts := F.2.2.2.2.1
  refine ⟨rfl, a2, fun hl kk => a3 hl fun H locs ls rr hr ho => ?_⟩
  have h3' : (st.map fun v => v.category).sum ≤ n := h3
  exact vn_d2l F.1 F.2.1 (by rw [F.2.2.1, ho.1, hK]) F.2.2.2.1 (hts _ hlk) (hts _ hnat) (hts _ hst) (hts _ hini) (by omega) (by omega) hd (kk H locs ls rr hr ho)
-- STATEMENTS
theorem sSkip {X : zXt} (g : zGo μ a X.1.1) (hX : zSb X.1.2 K = true) : zJs μ K a X zSkip := by
  intro D N0 n0 s0 rv he p l e R s m args below meth c Q F env h o h' hE h1 h2
  cases hE
  exact ⟨zLe.rf, fun _ kk => g F fun H locs ls r hr ho => kk H locs ls r hr (ho.sub hX)⟩
theorem sBrk {X : zXt} (g : zGo μ a X.2.1.1) (hX : zSb X.2.1.2 K = true) : zJs μ K a X zBrk := by
  intro D N0 n0 s0 rv he p l e R s m args below meth c Q F env h o h' hE h1 h2
  cases hE
  exact ⟨zLe.rf, fun _ kk => g F fun H locs ls r hr ho => kk H locs ls r hr (ho.sub hX)⟩
theorem sCnt {X : zXt} (g : zGo μ a X.2.2.1) (hX : zSb X.2.2.2 K = true) : zJs μ K a X zCnt := by
  intro D N0 n0 s0 rv he p l e R s m args below meth c Q F env h o h' hE h1 h2
  cases hE
  exact ⟨zLe.rf, fun _ kk => g F fun H locs ls r hr ho => kk H locs ls r hr (ho.sub hX)⟩
/-- 'super()' of an object -/
theorem sObj {x index : Nat} {X : zXt} (hlk : Cond.methodLink μ.2.2.1 index objectInit ∈ zTbl) (hin : Cond.instanceMethod objectInit ∈ zTbl) (hcode : Cond.code objectInit ⟨#[0xb1]⟩ 1 none ∈ zTbl) (hfr : 1 ≤ μ.2.2.2.1 ∧ 12 ≤ μ.2.2.2.2.1) (hK : K.length = μ.2.1) (hk : K[0]? = some 1) (hd0 : decode μ.1 a = .ok (.aload_n 0, 1)) (hd : decode μ.1 (a + 1) = .ok (.invokespecial index, 3)) (g : zGo μ (a + 4) X.1.1) (hX : zSb X.1.2 K = true) : zJs μ K a X (zDo fun env h => (zL 3 0 env h).bind fun p => (zRef p.1).bind fun _ => some (none, p.2)) := by
  intro D N0 n0 s0 rv he p l e R s m args below meth c Q F env h o h' hE h1 h2
  unfold zDo at hE
  obtain ⟨⟨r0, g1⟩, e1, hE⟩ := zB hE
  cases hE
  obtain ⟨⟨v, g2⟩, e2, e1⟩ := zB e1
  obtain ⟨x0, e3, e1⟩ := zB e1
  cases e1
  obtain ⟨a1, a2, a3⟩ := (xAloadN (K := K) (n := 0) (b := a + 1) 0 hd0 rfl hk rfl) F (st := []) e2 h1 h2 (Nat.le_refl 0)
  have hts := F.2.2.2.2.1
  obtain ⟨r1, r2, r3, r4⟩ := F.2.2.2.2.2.2.1
  refine ⟨a2, fun hl kk => a3 hl fun H locs ls r hr ho => ?_⟩
  cases v with
  | ref x1 =>
    exact W.objInit F.1 F.2.1 F.2.2.2.1 (hts _ hlk) (hts _ hin) (hts _ hcode) rfl (by show ls.size = _; rw [ho.1, hK, F.2.2.1]) rfl hd (by omega) (by show 2 * 0 + 0 + 12 ≤ _; omega) (g F (fun H locs ls r hr ho => kk H locs ls r hr (ho.sub hX)) H locs ls r hr ho)
  | _ => cases e3
/-- a local is written -/
def zSi (ty k : Nat) (i : Instr) (len : Nat) : Prop := (len = 1 ∧ ((ty = 0 ∧ ∃ f : Fin 4, (f : Nat) = k ∧ i = .istore_n f) ∨ (ty = 1 ∧ ∃ f : Fin 4, (f : Nat) = k ∧ i = .lstore_n f) ∨ (ty = 2 ∧ ∃ f : Fin 4, (f : Nat) = k ∧ i = .dstore_n f) ∨ (ty = 3 ∧ ∃ f : Fin 4, (f : Nat) = k ∧ i = .astore_n f))) ∨ (len = 2 ∧ ((ty = 0 ∧ i = .istore k) ∨ (ty = 1 ∧ i = .lstore k) ∨ (ty = 2 ∧ i = .dstore k) ∨ (ty = 3 ∧ i = .astore k)))
def zKs (ty : Nat) (K : List Nat) (k : Nat) : List Nat := if ty = 1 ∨ ty = 2 then zK2 K k else zK1 K k
theorem sAsg {ty k x len : Nat} {i : Instr} {A : zEx} {X : zXt} (jA : zJx μ K 0 ty a x A) (hi : zSi ty k i len) (hk : k + zCat ty ≤ K.length) (hd : decode μ.1 x = .ok (i, len)) (g : zGo μ (x + len) X.1.1) (hX : zSb X.1.2 (zKs ty K k) = true) : zJs μ K a X (zAsg k A) := by
  intro D N0 n0 s0 rv he p l e R s m args below meth c Q F env h o h' hE h1 h2
  unfold zAsg at hE
  obtain ⟨⟨v, g1⟩, e1, hE⟩ := zB hE
  cases hE
  obtain ⟨a1, a2, a3⟩ := jA F (st := []) e1 h1 h2 (Nat.le_refl 0)
  refine ⟨a2, fun hl kk => a3 hl fun H locs ls r hr ho => ?_⟩
  have c1 : ∀ ls' : Array Slot, ty = 0 ∨ ty = 3 → lv_has ls' K.length ((k, v) :: (zLst K env).filter (fun q => !(q.1 == k) && !(q.1 + 1 == k && q.2.category == 2))) → W p l e R s m args below meth c H locs (g1.2.1 - n0) (g1.2.2 - s0) Q (F0 m (x + len) ls' []) := by
    intro ls' ht hh
    have e1 : zKs ty K k = zK1 K k := by rcases ht with rfl | rfl <;> rfl
    rw [e1] at hX
    have e2 : zCat ty = 1 := by rcases ht with rfl | rfl <;> rfl
    rw [e2] at hk
    exact g F (fun H locs ls r hr ho => kk H locs ls r hr (ho.sub hX)) H locs ls' r hr (ho.st1 (by omega) (by rw [zTy_cat a1, e2]) hh)
  have c2 : ∀ ls' : Array Slot, ty = 1 ∨ ty = 2 → lv_has ls' K.length ((k, v) :: (zLst K env).filter (fun q => !(q.1 == k) && (!(q.1 == k + 1) && !(q.1 + 1 == k && q.2.category == 2)))) → W p l e R s m args below meth c H locs (g1.2.1 - n0) (g1.2.2 - s0) Q (F0 m (x + len) ls' []) := by
    intro ls' ht hh
    have e1 : zKs ty K k = zK2 K k := by rcases ht with rfl | rfl <;> rfl
    rw [e1] at hX
    have e2 : zCat ty = 2 := by rcases ht with rfl | rfl <;> rfl
    rw [e2] at hk
    exact g F (fun H locs ls r hr ho => kk H locs ls r hr (ho.sub hX)) H locs ls' r hr (ho.st2 (by omega) (by rw [zTy_cat a1, e2]) hh)
  have hl1 := ho.has
  have k1 : k < K.length := by unfold zCat at hk; split at hk <;> omega
  rcases hi with ⟨rfl, (⟨rfl, f, hf, rfl⟩ | ⟨rfl, f, hf, rfl⟩ | ⟨rfl, f, hf, rfl⟩ | ⟨rfl, f, hf, rfl⟩)⟩ | ⟨rfl, (⟨rfl, rfl⟩ | ⟨rfl, rfl⟩ | ⟨rfl, rfl⟩ | ⟨rfl, rfl⟩)⟩
  · obtain ⟨w, rfl⟩ := zTy0 a1
    exact lv_istore_n F.1 F.2.1 hd hf hl1 k1 rfl (fun ls' hh => c1 ls' (Or.inl rfl) hh)
  · obtain ⟨w, rfl⟩ := zTy1 a1
    exact lv_lstore_n F.1 F.2.1 hd hf hl1 hk rfl (fun ls' hh => c2 ls' (Or.inl rfl) hh)
  · obtain ⟨w, rfl⟩ := zTy2 a1
    exact lv_dstore_n F.1 F.2.1 hd hf hl1 hk rfl (fun ls' hh => c2 ls' (Or.inr rfl) hh)
  · rcases zTy3 a1 with rfl | ⟨w, rfl⟩
    · exact lv_astore_nN F.1 F.2.1 hd hf hl1 k1 rfl (fun ls' hh => c1 ls' (Or.inr rfl) hh)
    · exact lv_astore_n F.1 F.2.1 hd hf hl1 k1 rfl (fun ls' hh => c1 ls' (Or.inr rfl) hh)
  · obtain ⟨w, rfl⟩ := zTy0 a1
    exact lv_istore F.1 F.2.1 hd hl1 k1 rfl (fun ls' hh => c1 ls' (Or.inl rfl) hh)
  · obtain ⟨w, rfl⟩ := zTy1 a1
    exact lv_lstore F.1 F.2.1 hd hl1 hk rfl (fun ls' hh => c2 ls' (Or.inl rfl) hh)
  · obtain ⟨w, rfl⟩ := zTy2 a1
    exact lv_dstore F.1 F.2.1 hd hl1 hk rfl (fun ls' hh => c2 ls' (Or.inr rfl) hh)
  · rcases zTy3 a1 with rfl | ⟨w, rfl⟩
    · exact lv_astoreN F.1 F.2.1 hd hl1 k1 rfl (fun ls' hh => c1 ls' (Or.inr rfl) hh)
    · exact lv_astore F.1 F.2.1 hd hl1 k1 rfl (fun ls' hh => c1 ls' (Or.inr rfl) hh)
/-- a local number grows by a constant -/
theorem sInc {k : Nat} {i : Int} {w : Int32} {X : zXt} (hw : Int32.ofInt i = w) (hk : K[k]? = some 1) (hd : decode μ.1 a = .ok (.iinc k i, 3)) (g : zGo μ (a + 3) X.1.1) (hX : zSb X.1.2 (zK1 K k) = true) : zJs μ K a X (zAsg k (z2 (oI2 fun x y => x + y) (zL 0 k) (zK (.int w)))) := by
  intro D N0 n0 s0 rv he p l e R s m args below meth c Q F env h o h' hE h1 h2
  unfold zAsg at hE
  obtain ⟨⟨v, g1⟩, e1, hE⟩ := zB hE
  cases hE
  unfold z2 at e1
  obtain ⟨⟨v1, g2⟩, e2, e1⟩ := zB e1
  obtain ⟨⟨v2, g3⟩, e3, e1⟩ := zB e1
  obtain ⟨u, e4, e1⟩ := zB e1
  cases e1
  unfold zL at e2
  split at e2
  next ht =>
    cases e2
    cases e3
    obtain ⟨x, y, f1, f2, rfl⟩ := zI2m e4
    cases f2
    simp only at f1
    refine ⟨zLe.rf, fun hl kk => fun H locs ls r hr ho => ?_⟩
    have hkl : k < K.length := (List.getElem?_eq_some_iff.mp hk).1
    obtain ⟨v, w1, w2, w3⟩ := (ho.2.2.2 k).1 hk
    have hv : v = .int x := by
      rw [List.getD_eq_getElem?_getD, w1] at f1
      exact f1
    subst hv
    have hm : (k, Value.int x) ∈ zLst K env := zLst_mem hk (Or.inl rfl) w1
    obtain ⟨j, hj⟩ := List.getElem?_of_mem hm
    refine lv_iinc (v := x + w) (k := j) F.1 F.2.1 hd ho.has hj (by rw [hw]) hkl rfl (fun ls' hh => ?_)
    exact g F (fun H locs ls r hr ho => kk H locs ls r hr (ho.sub hX)) H locs ls' r hr (ho.st1 hkl rfl hh)
  next => cases e2
/-- a call whose answer is let go -/
theorem sDo0 {x : Nat} {G : zEnv → zHp → Option (Option Value × zHp)} {X : zXt} (hv : ∀ env h r h', G env h = some (r, h') → r = none) (j : zJk μ K 0 a x G) (g : zGo μ x X.1.1) (hX : zSb X.1.2 K = true) : zJs μ K a X (zDo G) := by
  intro D N0 n0 s0 rv he p l e R s m args below meth c Q F env h o h' hE h1 h2
  unfold zDo at hE
  obtain ⟨⟨r0, g1⟩, e1, hE⟩ := zB hE
  cases hE
  obtain ⟨a2, a3⟩ := j F (st := []) e1 h1 h2 (Nat.le_refl 0)
  have := hv _ _ _ _ e1
  subst this
  exact ⟨a2, fun hl kk => a3 hl (g F fun H locs ls r hr ho => kk H locs ls r hr (ho.sub hX))⟩
theorem sDo1 {t x : Nat} {G : zEnv → zHp → Option (Option Value × zHp)} {X : zXt} (hv : ∀ env h r h', G env h = some (r, h') → ∃ v, r = some v ∧ zTy t v = true) (ht : t = 0 ∨ t = 3 ∨ t = 4) (j : zJk μ K 0 a x G) (hd : decode μ.1 x = .ok (.pop, 1)) (g : zGo μ (x + 1) X.1.1) (hX : zSb X.1.2 K = true) : zJs μ K a X (zDo G) := by
  intro D N0 n0 s0 rv he p l e R s m args below meth c Q F env h o h' hE h1 h2
  unfold zDo at hE
  obtain ⟨⟨r0, g1⟩, e1, hE⟩ := zB hE
  cases hE
  obtain ⟨a2, a3⟩ := j F (st := []) e1 h1 h2 (Nat.le_refl 0)
  obtain ⟨v, rfl, hv⟩ := hv _ _ _ _ e1
  refine ⟨a2, fun hl kk => a3 hl fun H locs ls r hr ho => ?_⟩
  have hc : v.category = 1 := by rw [zTy_cat hv]; rcases ht with rfl | rfl | rfl <;> rfl
  exact lv_pop F.1 F.2.1 hd hc (g F (fun H locs ls r hr ho => kk H locs ls r hr (ho.sub hX)) H locs ls r hr ho)
theorem zRi_of {t : Nat} {v : Value} (h : zTy t v = true) : zRi (some v) = if t = 1 then .lreturn else if t = 2 then .dreturn else if t = 3 then .areturn else .ireturn := by
  unfold zTy at h
  split at h <;> first | rfl | cases h
/-- 'return' of a value -/
theorem sRet {t x : Nat} {A : zEx} {X : zXt} {i : Instr} (jA : zJx μ K 0 t a x A) (hi : i = if t = 1 then .lreturn else if t = 2 then .dreturn else if t = 3 then .areturn else .ireturn) (hd : decode μ.1 x = .ok (i, 1)) : zJs μ K a X (zRet A) := by
  intro D N0 n0 s0 rv he p l e R s m args below meth c Q F env h o h' hE h1 h2
  unfold zRet at hE
  obtain ⟨⟨v, g1⟩, e1, hE⟩ := zB hE
  cases hE
  obtain ⟨a1, a2, a3⟩ := jA F (st := []) e1 h1 h2 (Nat.le_refl 0)
  refine ⟨a2, fun hl kk => a3 hl ?_⟩
  obtain ⟨q1, q2⟩ := kk
  subst q1
  subst q2
  exact F.2.2.2.2.2.2.2.2 x K env (by rw [zRi_of a1, ← hi]; exact hd)
theorem sRetV {X : zXt} (hd : decode μ.1 a = .ok (.return_, 1)) : zJs μ K a X zRetV := by
  intro D N0 n0 s0 rv he p l e R s m args below meth c Q F env h o h' hE h1 h2
  cases hE
  refine ⟨zLe.rf, fun hl kk => ?_⟩
  obtain ⟨q1, q2⟩ := kk
  subst q1
  subst q2
  exact F.2.2.2.2.2.2.2.2 a K env hd
theorem sSeq {x : Nat} {K1 : List Nat} {A B : zSt} {X : zXt} (jA : zJs μ K a ((x, K1), X.2) A) (jB : zJs μ K1 x X B) : zJs μ K a X (zSeq A B) := by
  intro D N0 n0 s0 rv he p l e R s m args below meth c Q F env h o h' hE h1 h2
  unfold zSeq at hE
  obtain ⟨⟨o1, g1⟩, e1, hE⟩ := zB hE
  obtain ⟨a2, a3⟩ := jA F e1 h1 h2
  split at hE
  next env' q =>
    simp only at q
    subst q
    obtain ⟨b2, b3⟩ := jB F hE (a2.n0 h1) (a2.s0 h2)
    exact ⟨a2.tr b2, fun hl kk => a3 (b2.tr hl) (b3 hl kk)⟩
  next q =>
    cases hE
    refine ⟨a2, fun hl kk => a3 hl ?_⟩
    cases o1 with
    | inr v => exact kk
    | inl ke =>
      obtain ⟨k, env'⟩ := ke
      cases k with
      | zero => exact absurd rfl (q env')
      | succ k => cases k <;> exact kk
theorem sIf {x y : Nat} {C : zCx} {A B : zSt} {X : zXt} (jC : zJc μ K 0 a x y C) (jA : zJs μ K x X A) (jB : zJs μ K y X B) : zJs μ K a X (zIf C A B) := by
  intro D N0 n0 s0 rv he p l e R s m args below meth c Q F env h o h' hE h1 h2
  unfold zIf at hE
  obtain ⟨⟨v, g1⟩, e1, hE⟩ := zB hE
  obtain ⟨a2, a3⟩ := jC F (st := []) e1 h1 h2 (Nat.le_refl 0)
  cases v with
  | true =>
    obtain ⟨b2, b3⟩ := jA F hE (a2.n0 h1) (a2.s0 h2)
    exact ⟨a2.tr b2, fun hl kk => a3 (b2.tr hl) (b3 hl kk)⟩
  | false =>
    obtain ⟨b2, b3⟩ := jB F hE (a2.n0 h1) (a2.s0 h2)
    exact ⟨a2.tr b2, fun hl kk => a3 (b2.tr hl) (b3 hl kk)⟩
/-- the end of a block -/
def zKt (lo : Nat) (K : List Nat) : List Nat := K.take lo ++ List.replicate (K.length - lo) 0
theorem zEo.cl {env : zEnv} {ls : Array Slot} (lo : Nat) (h : zEo K env ls) : zEo (zKt lo K) (zCl lo env) ls := by
  have e1 : (zKt lo K).length = K.length := by simp only [zKt, List.length_append, List.length_take, List.length_replicate]; omega
  have e2 : (zCl lo env).length = env.length := by simp only [zCl, List.length_append, List.length_take, List.length_replicate]; omega
  have at' : ∀ i x : Nat, (zKt lo K)[i]? = some x → x ≠ 0 → i < lo ∧ K[i]? = some x := by
    intro i x hi hx
    unfold zKt at hi
    rw [List.getElem?_append] at hi
    split at hi
    next q =>
      rw [List.length_take] at q
      rw [List.getElem?_take_of_lt (by omega)] at hi
      exact ⟨by omega, hi⟩
    next =>
      rw [List.getElem?_replicate] at hi
      split at hi
      · cases hi; exact absurd rfl hx
      · cases hi
  have env' : ∀ i : Nat, ∀ v, i < lo → env[i]? = some v → (zCl lo env)[i]? = some v := by
    intro i v hi hv
    have hlt := (List.getElem?_eq_some_iff.mp hv).1
    unfold zCl
    rw [List.getElem?_append_left (by rw [List.length_take]; omega), List.getElem?_take_of_lt hi]
    exact hv
  refine ⟨by rw [e1]; exact h.1, by rw [e1, e2]; exact h.2.1, h.2.2.1, fun i => ⟨fun q => ?_, fun q => ?_⟩⟩
  · obtain ⟨q1, q2⟩ := at' i 1 q (by decide)
    obtain ⟨v, w1, w2, w3⟩ := (h.2.2.2 i).1 q2
    exact ⟨v, env' i v q1 w1, w2, w3⟩
  · obtain ⟨q1, q2⟩ := at' i 2 q (by decide)
    obtain ⟨v, w1, w2, w3⟩ := (h.2.2.2 i).2 q2
    exact ⟨v, env' i v q1 w1, w2, w3⟩
/-- where a block's body goes on: at the same places; what is held there must be held in front of the end, too -/
theorem sBl {lo : Nat} {A : zSt} {X Y : zXt} (jA : zJs μ K a Y A) (h0 : Y.1.1 = X.1.1 ∧ zSb X.1.2 (zKt lo Y.1.2) = true) (hb1 : Y.2.1.1 = X.2.1.1 ∧ zSb X.2.1.2 (zKt lo Y.2.1.2) = true) (hb2 : Y.2.2.1 = X.2.2.1 ∧ zSb X.2.2.2 (zKt lo Y.2.2.2) = true) : zJs μ K a X (zBl lo A) := by
  intro D N0 n0 s0 rv he p l e R s m args below meth c Q F env h o h' hE h1 h2
  unfold zBl at hE
  obtain ⟨⟨o1, g1⟩, e1, hE⟩ := zB hE
  obtain ⟨a2, a3⟩ := jA F e1 h1 h2
  cases o1 with
  | inr v =>
    cases hE
    exact ⟨a2, fun hl kk => a3 hl kk⟩
  | inl ke =>
    obtain ⟨k, env'⟩ := ke
    cases hE
    refine ⟨a2, fun hl kk => a3 hl ?_⟩
    have hk : (zXa Y k).1 = (zXa X k).1 ∧ zSb (zXa X k).2 (zKt lo (zXa Y k).2) = true := by
      match k with
      | 0 => exact h0
      | 1 => exact hb1
      | k + 2 => exact hb2
    intro H locs ls r hr ho
    rw [hk.1]
    exact kk H locs ls r hr ((ho.cl lo).sub hk.2)
/-- a loop: head (the condition) at a; the body from x; the step from y -/
theorem sLp {x y z : Nat} {C : zCx} {B S : zSt} {X : zXt} {Xb Xs : zXt} (jC : zJc μ K 0 a x z C) (g : zGo μ z X.1.1) (hX : zSb X.1.2 K = true) (jB : zJs μ K x Xb B) (hb0 : Xb.1.1 = y) (hb1 : Xb.2.1.1 = X.1.1 ∧ zSb X.1.2 Xb.2.1.2 = true) (hb2 : Xb.2.2 = Xb.1) (jS : zJs μ Xb.1.2 y Xs S) (hs : Xs.1 = (a, K) ∧ Xs.2.1 = (a, K) ∧ Xs.2.2 = (a, K)) : zJs μ K a X (zLp C B S) := by
  intro D N0 n0 s0 rv he p l e R s m args below meth c Q F
  unfold zLp
  generalize zFuel = n
  induction n with
  | zero => intro env h o h' hE; cases hE
  | succ n ih =>
    intro env h o h' hE h1 h2
    simp only [zLpN] at hE
    obtain ⟨⟨v, g1⟩, e1, hE⟩ := zB hE
    obtain ⟨a2, a3⟩ := jC F (st := []) e1 h1 h2 (Nat.le_refl 0)
    cases v with
    | false =>
      cases hE
      exact ⟨a2, fun hl kk => a3 hl (g F fun H locs ls r hr ho => kk H locs ls r hr (ho.sub hX))⟩
    | true =>
      simp only [if_true] at hE
      obtain ⟨⟨o1, g2⟩, e2, hE⟩ := zB hE
      obtain ⟨b2, b3⟩ := jB F e2 (a2.n0 h1) (a2.s0 h2)
      have hab := a2.tr b2
      have cont : ∀ (k : Nat) (env' : zEnv), o1 = .inl (k, env') → k ≠ 1 → (S env' g2).bind (fun q => match q.1 with
          | .inl (_, env2) => zLpN C B S n env2 q.2
          | .inr v => some (.inr v, q.2)) = some (o, h') → zLe h h' ∧ (zLe h' he → zEnd D N0 n0 s0 rv he p l e R s m args below meth c Q X o h' → zRun D N0 n0 s0 p l e R s m args below meth c Q h a K env []) := by
        intro k env' ho1 hk1 hF
        subst ho1
        obtain ⟨⟨o2, g3⟩, e3, hF⟩ := zB hF
        obtain ⟨c2, c3⟩ := jS F e3 (hab.n0 h1) (hab.s0 h2)
        have hXk : zXa Xb k = (y, Xb.1.2) := by
          match k, hk1 with
          | 0, _ => exact Prod.ext hb0 rfl
          | 1, hk1 => exact absurd rfl hk1
          | k + 2, _ => exact hb2.trans (Prod.ext hb0 rfl)
        cases o2 with
        | inr v =>
          cases hF
          refine ⟨hab.tr c2, fun hl kk => a3 ((b2.tr c2).tr hl) (b3 (c2.tr hl) ?_)⟩
          have hc := c3 hl kk
          simp only [zEnd, hXk]
          exact hc
        | inl ke =>
          obtain ⟨k2, env2⟩ := ke
          obtain ⟨d2, d3⟩ := ih hF ((hab.tr c2).n0 h1) ((hab.tr c2).s0 h2)
          refine ⟨(hab.tr c2).tr d2, fun hl kk => a3 (((b2.tr c2).tr d2).tr hl) (b3 ((c2.tr d2).tr hl) ?_)⟩
          have hc := c3 (d2.tr hl) (by
            have hd := d3 hl kk
            have : zXa Xs k2 = (a, K) := by
              match k2 with
              | 0 => exact hs.1
              | 1 => exact hs.2.1
              | k2 + 2 => exact hs.2.2
            simp only [zEnd, this]
            exact hd)
          simp only [zEnd, hXk]
          exact hc
      cases o1 with
      | inr v =>
        cases hE
        exact ⟨hab, fun hl kk => a3 (b2.tr hl) (b3 hl kk)⟩
      | inl ke =>
        obtain ⟨k, env'⟩ := ke
        match k with
        | 0 => exact cont 0 env' rfl (by decide) hE
        | 1 =>
          cases hE
          refine ⟨hab, fun hl kk => a3 (b2.tr hl) (b3 hl ?_)⟩
          intro H locs ls r hr ho
          rw [show (zXa Xb 1).1 = X.1.1 from hb1.1]
          exact kk H locs ls r hr (ho.sub hb1.2)
        | k + 2 => exact cont (k + 2) env' rfl (by omega) hE
/-- a loop without a condition -/
theorem cTrue {x : Nat} {z : Nat} : zJc μ K n x x z (fun _ h => some (true, h)) := by
  intro D N0 n0 s0 rv he p l e R s m args below meth c Q F env h v h' st hE h1 h2 h3
  cases hE
  exact ⟨zLe.rf, fun _ kk => kk⟩
end ST
