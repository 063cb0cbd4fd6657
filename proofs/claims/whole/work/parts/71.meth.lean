/-! THE ROWS: switches, copies of rows, methods -/
section SW
variable {μ : zMi} {K : List Nat} {n a b : Nat}
def zSwOk (x : Nat) (lo hi : Int) (offs : List Int) (dflt : Int) (tab : List Nat) (d : Nat) (P : List Nat) : Bool := decide (hi + 1 = lo + tab.length) && decide (offs.length = tab.length) && ((offs.zip tab).all fun q => decide ((x : Int) + q.1 = (P.getD q.2 0 : Nat)) && decide (q.2 < P.length)) && decide ((x : Int) + dflt = (P.getD d 0 : Nat)) && decide (d < P.length)
def zJw (μ : zMi) (K : List Nat) (X : zXt) : List Nat → List zSt → Prop
  | [], [] => True
  | p :: ps, B :: Bs => zJs μ K p X B ∧ zJw μ K X ps Bs
  | _, _ => False
theorem zJw.at {X : zXt} : ∀ {P : List Nat} {Bs : List zSt}, zJw μ K X P Bs → ∀ j, j < P.length → zJs μ K (P.getD j 0) X (Bs.getD j zSkip)
  | [], [], _, j, hj => by simp at hj
  | [], _ :: _, h, _, _ => h.elim
  | _ :: _, [], h, _, _ => h.elim
  | p :: ps, B :: Bs, h, j, hj => by
    cases j with
    | zero => exact h.1
    | succ j => exact zJw.at h.2 j (by simpa using hj)
theorem sSw {x d len : Nat} {lo hi dflt : Int} {offs : Array Int} {tab P : List Nat} {A : zEx} {Bs : List zSt} {X Xb : zXt} (jA : zJx μ K 0 0 a x A) (hd : decode μ.1 x = .ok (.tableswitch dflt lo hi offs, len)) (hok : zSwOk x lo hi offs.toList dflt tab d P = true) (jB : zJw μ K Xb P Bs) (hX0 : Xb.1 = X.1) (hX1 : Xb.2.1 = X.1) (hX2 : Xb.2.2 = X.2.2) : zJs μ K a X (zSw A (zSwF lo tab d) Bs) := by
  intro D N0 n0 s0 rv he p l e R s m args below meth c Q F env h o h' hE h1 h2
  unfold zSw at hE
  obtain ⟨⟨v, g1⟩, e1, hE⟩ := zB hE
  obtain ⟨w, e2, hE⟩ := zB hE
  obtain ⟨⟨o2, g2⟩, e3, hG⟩ := zB hE
  obtain ⟨a1, a2, a3⟩ := jA F (st := []) e1 h1 h2 (Nat.le_refl 0)
  obtain ⟨w', rfl⟩ := zTy0 a1
  cases e2
  simp only [zSwOk, Bool.and_eq_true, decide_eq_true_eq, List.all_eq_true] at hok
  obtain ⟨⟨⟨⟨q1, q2⟩, q3⟩, q4⟩, q5⟩ := hok
  have key : zSwF lo tab d w < P.length ∧ ∀ {p : Program} {l : Launch} {e : Env} {R : Room} {s : State} {m : MethodId} {args : Array Value} {below : List Frame} {meth : Method} {c : Code} {Q : State → Prop} {H : Heap} {locs : List Loc} {cells slots : Nat} {ls : Array Slot}, p.tables.exec = Jvm.exec → c.code = μ.1 → W p l e R s m args below meth c H locs cells slots Q (F0 m (P.getD (zSwF lo tab d w) 0) ls []) → W p l e R s m args below meth c H locs cells slots Q (F0 m x ls [.int w]) := by
    unfold zSwF
    by_cases c0 : w.toInt < lo ∨ lo + tab.length ≤ w.toInt
    · rw [if_pos c0]
      exact ⟨q5, fun hx hc k => lv_tableOut hx hc hd (by omega) q4 k⟩
    · rw [if_neg c0]
      have hi' : (w.toInt - lo).toNat < tab.length := by omega
      have ho : offs.toList[(w.toInt - lo).toNat]? = some (offs.toList[(w.toInt - lo).toNat]'(by omega)) := List.getElem?_eq_getElem _
      have ht : tab[(w.toInt - lo).toNat]? = some (tab[(w.toInt - lo).toNat]'hi') := List.getElem?_eq_getElem _
      have hz := q3 (offs.toList[(w.toInt - lo).toNat]'(by omega), tab[(w.toInt - lo).toNat]'hi') (List.mem_of_getElem? (i := (w.toInt - lo).toNat) (by rw [List.getElem?_zip_eq_some]; exact ⟨ho, ht⟩))
      rw [List.getD_eq_getElem?_getD, ht]
      refine ⟨hz.2, fun hx hc k => lv_tableIn hx hc hd (by omega) (by omega) (by rw [← Array.getElem?_toList]; exact ho) hz.1 k⟩
  obtain ⟨b2, b3⟩ := jB.at _ key.1 F e3 (a2.n0 h1) (a2.s0 h2)
  have fin : ∀ (o' : zOut), (zLe g2 he → zEnd D N0 n0 s0 rv he p l e R s m args below meth c Q X o' g2 → zEnd D N0 n0 s0 rv he p l e R s m args below meth c Q Xb o2 g2) → zLe h g2 ∧ (zLe g2 he → zEnd D N0 n0 s0 rv he p l e R s m args below meth c Q X o' g2 → zRun D N0 n0 s0 p l e R s m args below meth c Q h a K env []) := by
    intro o' ho'
    refine ⟨a2.tr b2, fun hl kk => a3 (b2.tr hl) fun H locs ls r hr ho => key.2 F.1 F.2.1 (b3 hl (ho' hl kk) H locs ls r hr ho)⟩
  split at hG
  next env' q =>
    cases hG
    simp only at q
    subst q
    refine fin _ (fun _ kk => ?_)
    show zRun D N0 n0 s0 p l e R s m args below meth c Q g2 Xb.2.1.1 Xb.2.1.2 env' []
    rw [hX1]
    exact kk
  next q =>
    cases hG
    refine fin _ (fun _ kk => ?_)
    cases o2 with
    | inr v => exact kk
    | inl ke =>
      obtain ⟨k, env'⟩ := ke
      match k, q with
      | 0, _ =>
        show zRun D N0 n0 s0 p l e R s m args below meth c Q g2 Xb.1.1 Xb.1.2 env' []
        rw [hX0]
        exact kk
      | 1, q => exact absurd rfl (q env')
      | k + 2, _ =>
        show zRun D N0 n0 s0 p l e R s m args below meth c Q g2 Xb.2.2.1 Xb.2.2.2 env' []
        rw [hX2]
        exact kk
theorem zNz {z : Int32} (hz : ¬ z < 0) : z.toInt = (z.toNatClampNeg : Int) := by
  have hz0 : (0 : Int) ≤ z.toInt := by
    have := Int32.not_lt.mp hz
    simpa using Int32.le_iff_toInt_le.mp this
  show z.toInt = ((z.toInt.toNat : Nat) : Int)
  omega
/-- System.arraycopy of rows of objects -/
theorem sCopy {t x index : Nat} {ty : FieldType} {A SP B DP N : zEx} {X : zXt} (h67 : 67 ≤ t) (h74 : t < 74) (hty : zTyA[t - 64]? = some ty) (href : ∀ v, zTy 3 v = true → fits ty v = true) (hlk : Cond.methodLink μ.2.2.1 index arraycopyName ∈ zTbl) (hnat : Cond.native arraycopyName ∈ zTbl) (hst : Cond.static arraycopyName ∈ zTbl) (hini : Cond.initialized "java/lang/System" ∈ zTbl) (hfr : 1 ≤ μ.2.2.2.1 ∧ nativeFrameWords "java/lang/System" "arraycopy" 5 + 11 ≤ μ.2.2.2.2.1) (hK : K.length = μ.2.1) (jA : zJa μ K 0 [3, 0, 3, 0, 0] a x [A, SP, B, DP, N]) (hd : decode μ.1 x = .ok (.invokestatic index, 3)) (g : zGo μ (x + 3) X.1.1) (hX : zSb X.1.2 K = true) : zJs μ K a X (zCopy t (zStK t).2 A SP B DP N) := by
  intro D N0 n0 s0 rv he p l e R s m args below meth c Q F env h o h' hE h1 h2
  unfold zCopy at hE
  obtain ⟨⟨vs, g1⟩, e1, hE⟩ := zB hE
  split at hE
  next x0 sp y0 dp nn q =>
    simp only at q
    subst q
    obtain ⟨xs, e2, hE⟩ := zB hE
    obtain ⟨ys, e3, hE⟩ := zB hE
    split at hE
    next hc =>
      cases hE
      obtain ⟨c1, c2, c3, c4, c5, c6⟩ := hc
      obtain ⟨a1, a2, a3⟩ := jA F (st := []) e1 h1 h2 (Nat.le_refl 0)
      have hl2 : zLe g1 (zSet g1 y0 (t, zCpL xs ys sp.toNatClampNeg dp.toNatClampNeg nn.toNatClampNeg)) := zLe.eq rfl
      refine ⟨a2.tr hl2, fun hl kk => a3 (hl2.tr hl) fun H locs ls r hr ho => ?_⟩
      have hts := F.2.2.2.2.1
      obtain ⟨r1, r2, r3, r4⟩ := F.2.2.2.2.2.2.1
      obtain ⟨-, hz0⟩ := r.2.2 x0 _ (zArr_at e2)
      obtain ⟨hy0, hz1⟩ := r.2.2 y0 _ (zArr_at e3)
      have hy0 := hy0 (Nat.lt_trans h74 (by decide))
      obtain ⟨cs, ty0, s1, s2, s3, s4, s5⟩ := hz0.2.1 (show 64 ≤ t by omega) (show t < 99 by omega)
      obtain ⟨cd, ty1, d1, d2, d3, d4, d5⟩ := hz1.2.1 (show 64 ≤ t by omega) (show t < 99 by omega)
      have t0 : ty0 = ty := Option.some.inj (s4.symm.trans hty)
      have t1 : ty1 = ty := Option.some.inj (d4.symm.trans hty)
      subst t0
      subst t1
      obtain ⟨ks, cm0, ka1, ka2, ka3, ka4⟩ := id s5
      obtain ⟨kd, cm1, kb1, kb2, kb3, kb4⟩ := id d5
      have ssz : cs.slots.size = xs.length := by rw [s3]; simp
      have dsz : cd.slots.size = ys.length := by rw [d3]; simp
      have sget : ∀ i : Nat, cs.slots.getD i .null = xs.getD i .null := by
        intro i
        rw [Array.getD_eq_getD_getElem?, List.getD_eq_getElem?_getD, s3]
        simp
      intro T hT X0
      obtain ⟨vm', X', step⟩ := X0.arraycopy F.1 F.2.2.2.1 (hts _ hlk) (hts _ hnat) (hts _ hst) (hts _ hini) (src := x0) (dst := y0) (cs := cs) (cd := cd) (srcPos := sp) (destPos := dp) (n := nn) (by rw [hT]; exact s1) (by rw [hT]; exact d1)
        (fun _ h => by rw [s2] at h; cases h) (fun _ h => by rw [d2] at h; cases h) (fun h => by rw [s2] at h; cases h) (fun h => by rw [d2] at h; cases h) ka1 kb1 ka2 kb2 (by cases ty1 <;> simp) c1 c2 c3
        (by rw [zNz c1, zNz c3, ssz]; omega) (by rw [zNz c2, zNz c3, dsz]; omega)
        (fun vm₁ hal i hi => by
          rw [sget]
          have hlt : sp.toNatClampNeg + i < xs.length := by omega
          have hm := List.all_eq_true.mp c6 (xs.getD (sp.toNatClampNeg + i) .null) (by rw [List.getD_eq_getElem?_getD, List.getElem?_eq_getElem hlt]; exact List.getElem_mem hlt)
          simp only [Bool.and_eq_true] at hm
          obtain ⟨m1, m2⟩ := hm
          refine ⟨href _ m1, ?_⟩
          rcases zTy3 m1 with q | ⟨y, q⟩
          · rw [q]; trivial
          · rw [q] at m2 ⊢
            obtain ⟨cw, kA, comp, kC, w1, w2, w3, w4, w5, w6⟩ := r.comp F.2.2.2.2.2.1 h67 hty d5 m2
            have hkk := Option.some.inj (kb1.symm.trans w3)
            subst hkk
            have hcc : cm1 = comp := by
              have := kb2.symm.trans w4
              injection this
            subst hcc
            obtain ⟨kC', hkC', -⟩ := hal.2.2 _ _ w6
            refine ⟨cw, (show T.heap[y]? = some cw by rw [hT]; exact w1), (fun q h => by rw [w2] at h; cases h), ⟨kC', by show vm₁.classes[cw.cls]? = _; rw [w5]; exact hkC'⟩, ⟨kC', hkC'⟩, ?_⟩
            show vm₁.assignable _ _ = true
            rw [w5]
            exact va_asg _ _)
        (g := F0 m x ls [.int nn, .int dp, .ref y0, .int sp, .ref x0]) rfl (by show ls.size = _; rw [F.2.2.1, ho.1, hK]) (rest := []) rfl (by rw [F.2.1]; exact hd) (by omega) (by show 2 * 0 + 0 + _ ≤ _; omega)
      have hl : y0 < H.size := (Array.getElem?_eq_some_iff.mp d1).1
      have hheap : ((T.setVm vm').setCell y0 (copied cs cd sp dp nn)).heap = H.setIfInBounds y0 (copied cs cd sp dp nn) := by rw [← hT]; rfl
      have oq : ∀ q : Nat, q ≠ y0 → (H.setIfInBounds y0 (copied cs cd sp dp nn))[q]? = H[q]? := fun q hq => by simp [Array.getElem?_setIfInBounds, Ne.symm hq]
      have hlen : (cs.stretch sp.toNatClampNeg nn.toNatClampNeg).length = nn.toNatClampNeg := by simp [Cell.stretch]
      have facts := cd.storeRun_facts dp.toNatClampNeg (cs.stretch sp.toNatClampNeg nn.toNatClampNeg)
      have hslots : (copied cs cd sp dp nn).slots = (zCpL xs ys sp.toNatClampNeg dp.toNatClampNeg nn.toNatClampNeg).toArray := by
        apply Array.ext_getElem?
        intro j
        show (cd.storeRun dp.toNatClampNeg (cs.stretch sp.toNatClampNeg nn.toNatClampNeg)).slots[j]? = _
        rw [Cell.storeRun_get _ _ _ _ (by rw [hlen, dsz]; exact c5), hlen]
        simp only [List.getElem?_toArray, zCpL, List.getElem?_map]
        by_cases hj : j < ys.length
        · rw [List.getElem?_range hj]
          show _ = some (if _ then _ else _)
          by_cases w : dp.toNatClampNeg ≤ j ∧ j < dp.toNatClampNeg + nn.toNatClampNeg
          · rw [if_pos w, if_pos w]
            unfold Cell.stretch
            rw [List.getElem?_map, List.getElem?_range (by omega)]
            show some (cs.slots.getD _ _) = _
            rw [sget]
          · rw [if_neg w, if_neg w, d3]
            simp [hj]
        · have hj' : ys.length ≤ j := by omega
          rw [if_neg (by omega), d3]
          simp [hj']
      have rel1 : zRel D s N0 (zSet g1 y0 (t, zCpL xs ys sp.toNatClampNeg dp.toNatClampNeg nn.toNatClampNeg)) (H.setIfInBounds y0 (copied cs cd sp dp nn)) := by
        refine r.set hy0 (by simp) oq ⟨fun z => absurd h67 (by simp only at z; omega), fun _ _ => ⟨copied cs cd sp dp nn, ty1, by simp [Array.getElem?_setIfInBounds, hl], ?_, hslots, hty, ?_⟩, fun z => absurd h74 (by simp only at z; omega)⟩
        · exact facts.2.1.trans d2
        · rw [show (copied cs cd sp dp nn).cls = cd.cls from facts.1]
          exact d5
      obtain ⟨t2, b1, b2⟩ := g F (fun H locs ls r hr ho => kk H locs ls r hr (ho.sub hX)) _ _ ls rel1 (fun q hq => by
        rcases List.mem_append.mp hq with z | z
        · exact hr q z
        · obtain ⟨w, -, hw⟩ := List.mem_map.mp z
          rw [← hw]
          exact hy0) ho _ hheap X'
      exact ⟨t2, step t2 b1, b2⟩
    next => cases hE
  next => cases hE
/-- the locals at a method's start -/
def zK0 (ts : List Nat) (nL : Nat) : List Nat := (ts.flatMap fun t => if zCat t = 2 then [2, 0] else [1]) ++ List.replicate (nL - zWds ts) 0
theorem zLay_len : ∀ {ts : List Nat} {vs : List Value}, zArgs ts vs = true → (zLay ts vs).length = zWds ts ∧ (lg_sl vs).length = zWds ts ∧ (ts.flatMap fun t => if zCat t = 2 then [2, 0] else [1]).length = zWds ts
  | [], [], _ => ⟨rfl, rfl, rfl⟩
  | [], _ :: _, h => by cases h
  | _ :: _, [], h => by cases h
  | t :: ts, v :: vs, h => by
    simp only [zArgs, Bool.and_eq_true] at h
    obtain ⟨i1, i2, i3⟩ := zLay_len h.2
    have hc := zTy_cat h.1
    have e : zWds (t :: ts) = zCat t + zWds ts := by simp [zWds]
    have e2 : lg_sl (v :: vs) = (if v.category = 2 then [.val v, .second] else [.val v]) ++ lg_sl vs := by simp [lg_sl]
    rw [e, e2, hc]
    simp only [zLay, List.flatMap_cons]
    have : zCat t = 1 ∨ zCat t = 2 := by unfold zCat; split <;> simp
    rcases this with q | q <;> rw [q] <;> simp [i1, i2, i3] <;> omega
theorem zLay_at : ∀ {ts : List Nat} {vs : List Value}, zArgs ts vs = true → ∀ (i k : Nat), (∀ x, (ts.flatMap fun t => if zCat t = 2 then [2, 0] else [1])[i]? = some x → x ≠ 0 → ∃ v, (zLay ts vs)[i]? = some v ∧ v.category = x ∧ (k + i, v) ∈ lv_args k vs)
  | [], [], _, i, k => fun x hx => by simp at hx
  | [], _ :: _, h, _, _ => by cases h
  | _ :: _, [], h, _, _ => by cases h
  | t :: ts, v :: vs, h, i, k => by
    simp only [zArgs, Bool.and_eq_true] at h
    have hc := zTy_cat h.1
    intro x hx h0
    simp only [List.flatMap_cons] at hx
    simp only [zLay, lv_args]
    have : zCat t = 1 ∨ zCat t = 2 := by unfold zCat; split <;> simp
    rcases this with q | q
    · rw [q] at hx
      rw [q]
      simp only [show ¬ (1 : Nat) = 2 by decide, if_false] at hx ⊢
      rw [hc, q, if_neg (by decide)]
      cases i with
      | zero =>
        simp at hx
        subst hx
        exact ⟨v, rfl, by rw [hc, q], List.mem_cons_self⟩
      | succ i =>
        have hx' : (ts.flatMap fun t => if zCat t = 2 then [2, 0] else [1])[i]? = some x := by simpa using hx
        obtain ⟨w, w1, w2, w3⟩ := zLay_at h.2 i (k + 1) x hx' h0
        exact ⟨w, w1, w2, List.mem_cons_of_mem _ (by rw [show k + (i + 1) = k + 1 + i by omega]; exact w3)⟩
    · rw [q] at hx
      rw [q]
      simp only [if_true] at hx ⊢
      rw [hc, q, if_pos rfl]
      match i with
      | 0 =>
        simp at hx
        subst hx
        exact ⟨v, rfl, by rw [hc, q], List.mem_cons_self⟩
      | 1 =>
        simp at hx
        exact absurd hx.symm h0
      | i + 2 =>
        have hx' : (ts.flatMap fun t => if zCat t = 2 then [2, 0] else [1])[i]? = some x := by simpa using hx
        obtain ⟨w, w1, w2, w3⟩ := zLay_at h.2 i (k + 2) x hx' h0
        exact ⟨w, w1, w2, List.mem_cons_of_mem _ (by rw [show k + (i + 2) = k + 2 + i by omega]; exact w3)⟩
theorem zEo.entry {ts : List Nat} {av : List Value} {nL : Nat} (ha : zArgs ts av = true) (hn : zWds ts ≤ nL) : zEo (zK0 ts nL) (zLay ts av ++ List.replicate (nL - zWds ts) .null) ((lg_sl av ++ List.replicate (nL - (lg_sl av).length) Slot.unset).toArray) := by
  obtain ⟨l1, l2, l3⟩ := zLay_len ha
  obtain ⟨h1, h2, h3⟩ := lv_entry av (n := nL) (by omega)
  have e1 : (zK0 ts nL).length = nL := by
    unfold zK0
    rw [List.length_append, l3, List.length_replicate]
    omega
  refine ⟨by rw [e1]; exact h1, by rw [e1, List.length_append, l1, List.length_replicate]; omega, h2, fun i => ?_⟩
  have go : ∀ x, x ≠ 0 → (zK0 ts nL)[i]? = some x → ∃ v, (zLay ts av ++ List.replicate (nL - zWds ts) Value.null)[i]? = some v ∧ v.category = x ∧ ((lg_sl av ++ List.replicate (nL - (lg_sl av).length) Slot.unset).toArray)[i]? = some (.val v) := by
    intro x hx hi
    unfold zK0 at hi
    rw [List.getElem?_append] at hi
    split at hi
    next q =>
      obtain ⟨v, w1, w2, w3⟩ := zLay_at ha i 0 x hi hx
      refine ⟨v, ?_, w2, ?_⟩
      · rw [List.getElem?_append_left (by rw [l1]; omega)]
        exact w1
      · have := h3 (0 + i, v) w3
        simpa using this
    next =>
      rw [List.getElem?_replicate] at hi
      split at hi
      · cases hi; exact absurd rfl hx
      · cases hi
  exact ⟨go 1 (by decide), go 2 (by decide)⟩
def zRtOk (rt : Nat) (ret : Option FieldType) : Prop := (rt = 0 ∧ ret = some .int) ∨ (rt = 1 ∧ ret = some .long) ∨ (rt = 3 ∧ ∃ r, ret = some r ∧ ((∃ C, r = .object C) ∨ ∃ t, r = .array t)) ∨ (rt = 4 ∧ ret = some .boolean) ∨ (rt = 9 ∧ ret = none)
/-- A METHOD: what its body does, as a contract -/
theorem zSnd.of {y : MethodName} {cc : ByteArray} {nL fr lo rt : Nat} {ret : Option FieldType} {ts : List Nat} {S : zSt} {X : zXt} (hy : plainFor y = true) (hrt : zRtOk rt ret) (hn : zWds ts ≤ nL) (J : zJs (cc, nL, y.cls, fr, lo, y.name, ret) (zK0 ts nL) 0 X S) : zSnd y cc nL ret fr lo ts (zMeth ts nL rt S) := by
  intro l D N0 av h r h' hF
  unfold zMeth at hF
  split at hF
  next ha =>
    obtain ⟨⟨o, g⟩, e1, hF⟩ := zB hF
    split at hF
    next hle =>
      simp only at hle hF
      have main : ∀ v : Option Value, o = .inr v → r = v → h' = g → (match v with
          | none => rt = 9
          | some w => zTy rt w = true) → zLe h h' ∧ Met l y (zWs y cc nL ret) ({ frames := fr, cells := h'.2.1 - h.2.1, slots := h'.2.2 - h.2.2, locals := lo }) (zPc D N0 av h) (zQc D N0 r h') (h'.2.1 - h.2.1) (h'.2.2 - h.2.2) (fun q => N0 ≤ q) := by
        intro v ho hr hg hv
        subst ho
        subst hr
        subst hg
        refine ⟨hle, va_MetF (cc := cc) (maxL := nL) (ret := ret) hy rfl ?_⟩
        intro p e s m args below meth c s₁ B hml hP
        obtain ⟨rfl, hrel, hK, hXw⟩ := hP
        have hts := atoms_spec (ws := zWs y cc nL ret) B.pre
        have hown : s.vm.findClass y.cls = some m.cls := findClass_of_methodNamed B.named
        have hlocks := B.notSynchronized
        have hret := B.returns
        rw [lg_entry_eq]
        have F : zFix (cc, nL, y.cls, fr, lo, y.name, ret) D N0 h.2.1 h.2.2 r h' p l e (headSpec (zWs y cc nL ret) { frames := fr, cells := h'.2.1 - h.2.1, slots := h'.2.2 - h.2.2, locals := lo }).room s m av.toArray below meth c (MQ below (zQc D N0 r h') av.toArray s (h'.2.1 - h.2.1) (h'.2.2 - h.2.2) (fun q => N0 ≤ q)) := by
          refine ⟨B.exec, B.bytes, hml, hown, zTbl.of (fun w hw => hts w (List.mem_cons_of_mem _ hw)) hXw, hK, ⟨Nat.le_refl _, Nat.le_refl _, Nat.le_refl _, Nat.le_refl _⟩, (name_of_methodNamed B.named B.method).1, ?_⟩
          intro pc K env hd H locs ls rl hl ho
          have hq : ∀ t : State, t.heap = H → s.WarmedH t.vm → zQc D N0 r h' av.toArray s (.returned r) t := fun t ht hW => ⟨rfl, by rw [ht]; exact rl.moved hW.alike⟩
          cases r with
          | none =>
            have : ret = none := by
              rcases hrt with ⟨q, -⟩ | ⟨q, -⟩ | ⟨q, -⟩ | ⟨q, -⟩ | ⟨-, q⟩
              · exact absurd (q.symm.trans hv) (by decide)
              · exact absurd (q.symm.trans hv) (by decide)
              · exact absurd (q.symm.trans hv) (by decide)
              · exact absurd (q.symm.trans hv) (by decide)
              · exact q
            exact W.vret B.exec B.bytes (by rw [hret]; exact this) hq hl hd
          | some w =>
            rcases hrt with ⟨rfl, rfl⟩ | ⟨rfl, rfl⟩ | ⟨rfl, r0, rfl, hr0⟩ | ⟨rfl, rfl⟩ | ⟨rfl, rfl⟩
            · obtain ⟨z, rfl⟩ := zTy0 hv
              exact W.iret B.exec B.bytes hret hq hl hd
            · obtain ⟨z, rfl⟩ := zTy1 hv
              exact W.lret B.exec B.bytes hret hq hl hd
            · have hd' : decode cc pc = .ok (.areturn, 1) := by rcases zTy3 hv with rfl | ⟨z, rfl⟩ <;> exact hd
              exact W.aret B.exec B.bytes hret hr0 (zTy3 hv) hq hl hd'
            · have : ∃ z : Int32, w = .int z ∧ narrow .boolean (.int z) = .int z := by
                rcases zTy4 hv with rfl | rfl
                · exact ⟨0, rfl, by decide⟩
                · exact ⟨1, rfl, by decide⟩
              obtain ⟨z, rfl, hz⟩ := this
              exact W.zret B.exec B.bytes hret hz hq hl hd
            · exact absurd hv (by simp [zTy])
        have hJ := (J F e1 (Nat.le_refl _) (Nat.le_refl _)).2 zLe.rf ⟨rfl, rfl⟩
        have := hJ s.heap [] _ hrel (fun q hq => absurd hq List.not_mem_nil) (zEo.entry ha hn)
        simpa using this
      cases o with
      | inl ke => cases hF
      | inr v =>
        cases v with
        | none =>
          simp only at hF
          split at hF
          next q => cases hF; exact ⟨ha, main none rfl rfl rfl q⟩
          next => cases hF
        | some w =>
          simp only at hF
          split at hF
          next q => cases hF; exact ⟨ha, main (some w) rfl rfl rfl q⟩
          next => cases hF
    next => cases hF
  next => cases hF
end SW
