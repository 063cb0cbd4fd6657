/-! STATES THAT ARE MADE; STEPS THAT ARE KEPT -/
section
variable {h H : zHp} {t N M k a b : Nat} {c : Option Nat} {f g : Int → Value}
theorem ar_D {i : Nat} (hi : i < N) : (ar N f).getD i .null = f (i : Int) := by
  rw [List.getD_eq_getElem?_getD, ar_get hi]; rfl
theorem g_cp {sp dp n : Int} (ea : h.1 a = some (t, ar N f)) (eb : h.1 b = some (t, ar M g)) (s0 : 0 ≤ sp) (d0 : 0 ≤ dp) (n0 : 0 ≤ n) (s1 : sp + n ≤ N) (d1 : dp + n ≤ M) (hN : N ≤ 1000000) (hM : M ≤ 1000000) (hv : ∀ i : Int, 0 ≤ i → i < N → zTy 3 (f i) = true ∧ zEm h c (f i) = true) : zCpv t c h [.ref a, vi sp, .ref b, vi dp, vi n] = some (zSet h b (t, ar M fun j => if dp ≤ j ∧ j < dp + n then f (sp + (j - dp)) else g j)) := by
  have nn : ∀ x : Int, 0 ≤ x → x < 2147483648 → ¬ Int32.ofInt x < 0 := fun x x0 x1 => by rw [z_i0, i_lt (by omega) (by omega) (by decide) (by decide)]; omega
  have hall : ((ar N f).all fun v => zTy 3 v && zEm h c v) = true := by
    rw [List.all_eq_true]
    intro v hv2
    unfold ar at hv2
    rw [List.mem_map] at hv2
    obtain ⟨i, hi, rfl⟩ := hv2
    rw [List.mem_range] at hi
    have := hv i (by omega) (by omega)
    rw [this.1, this.2]; rfl
  simp only [zCpv, vi, zArr, ea, eb, Option.bind_some, if_true, ar_len, tn (show -2147483648 ≤ sp by omega) (show sp < 2147483648 by omega), tn (show -2147483648 ≤ dp by omega) (show dp < 2147483648 by omega), tn (show -2147483648 ≤ n by omega) (show n < 2147483648 by omega)]
  rw [if_pos ⟨nn _ s0 (by omega), nn _ d0 (by omega), nn _ n0 (by omega), by omega, by omega, hall⟩]
  refine congrArg (fun q => some (zSet h b (t, q))) ?_
  unfold zCpL
  rw [ar_len]
  apply List.ext_getElem?
  intro i
  by_cases ci : i < M
  · rw [ar_get ci, List.getElem?_map, List.getElem?_range ci]
    show some (if _ then _ else _) = _
    by_cases cc : dp ≤ (i : Int) ∧ (i : Int) < dp + n
    · rw [if_pos (by omega), if_pos cc, ar_D (by omega)]
      refine congrArg (fun q => some (f q)) ?_
      omega
    · rw [if_neg (by omega), if_neg cc, ar_D ci]
  · rw [List.getElem?_eq_none (by rw [List.length_map, List.length_range]; omega), List.getElem?_eq_none (by rw [ar_len]; omega)]
theorem zl_z' {n : Nat} {o o2 : Nat × List Value} (e : b = H.2.1) : zSet (zAl H n o) b o2 = zAl H n o2 := by subst e; exact zl_z
theorem g_cpf {n : Int} (e : b = H.2.1) (ea : H.1 a = some (t, ar N f)) (na : a ≠ H.2.1) (hn : n = N) (hN : N ≤ 1000000) (hv : ∀ i : Int, 0 ≤ i → i < N → zTy 3 (f i) = true ∧ zEm (zAl H k (t, ar N g)) c (f i) = true) : zCpv t c (zAl H k (t, ar N g)) [.ref a, vi 0, .ref b, vi 0, vi n] = some (zAl H k (t, ar N f)) := by
  subst e
  subst hn
  rw [g_cp (N := N) (M := N) (f := f) (g := g) (by rw [zl_n na]; exact ea) zl_s (by decide) (by decide) (by omega) (by omega) (by omega) hN hN hv, zl_z]
  refine congrArg (fun q => some (zAl H k (t, q))) (ar_ext fun i i0 i1 => ?_)
  rw [if_pos (by omega)]
  exact congrArg f (by omega)
end
/-- a state at the end of a heap -/
def stN (h : zHp) (v : Nat → Int) (fe ft fk : Int → Value) : zHp := zAl (zAl (zAl (zAl h 8 (5, [vi (v 0), vi (v 1), vi (v 2), vi (v 3), vi (v 4), .ref (h.2.1 + 1), .ref (h.2.1 + 1 + 1), .ref (h.2.1 + 1 + 1 + 1)])) 3 (68, ar 3 fe)) 4 (69, ar 4 ft)) 4 (73, ar 4 fk)
section
variable {h : zHp} {v : Nat → Int} {fe ft fk : Int → Value}
theorem stN_2 : (stN h v fe ft fk).2.1 = h.2.1 + 4 ∧ (stN h v fe ft fk).2.2 = h.2.2 + 19 := ⟨rfl, rfl⟩
theorem stN_o {a : Nat} (ha : a < h.2.1) : (stN h v fe ft fk).1 a = h.1 a := by
  unfold stN
  rw [zl_n (by simp only [zl_21]; omega), zl_n (by simp only [zl_21]; omega), zl_n (by simp only [zl_21]; omega), zl_n (by omega)]
theorem stN_0 : (stN h v fe ft fk).1 h.2.1 = some (5, [vi (v 0), vi (v 1), vi (v 2), vi (v 3), vi (v 4), .ref (h.2.1 + 1), .ref (h.2.1 + 1 + 1), .ref (h.2.1 + 1 + 1 + 1)]) := by
  unfold stN
  rw [zl_n (by simp only [zl_21]; omega), zl_n (by simp only [zl_21]; omega), zl_n (by simp only [zl_21]; omega), zl_s]
theorem stN_1 : (stN h v fe ft fk).1 (h.2.1 + 1) = some (68, ar 3 fe) := by
  unfold stN
  rw [zl_n (by simp only [zl_21]; omega), zl_n (by simp only [zl_21]; omega)]
  exact zl_s
theorem stN_t : (stN h v fe ft fk).1 (h.2.1 + 1 + 1) = some (69, ar 4 ft) := by
  unfold stN
  rw [zl_n (by simp only [zl_21]; omega)]
  exact zl_s
theorem stN_k : (stN h v fe ft fk).1 (h.2.1 + 1 + 1 + 1) = some (73, ar 4 fk) := zl_s
theorem stN_pf {k : Nat} {y : Int} (hk : k < 5) : zPfv 0 5 k (stN h v fe ft fk) (.ref h.2.1) (vi y) = some (stN h (ug v k y) fe ft fk) := by
  rw [g_put stN_0 (by simp; omega) rfl]
  refine congrArg some ?_
  unfold stN
  rw [al_st (by simp only [zl_21]; omega), al_st (by simp only [zl_21]; omega), al_st (by simp only [zl_21]; omega), zl_z]
  have : k = 0 ∨ k = 1 ∨ k = 2 ∨ k = 3 ∨ k = 4 := by omega
  rcases this with q | q | q | q | q <;> subst q <;> rfl
theorem stN_se {c : Option Nat} {i : Int} {y : Value} (i0 : 0 ≤ i) (i1 : i < 3) (hy : zTy 3 y = true) (hc : zEl (stN h v fe ft fk) c y = true) : zStv 3 68 c (stN h v fe ft fk) (.ref (h.2.1 + 1)) (vi i) y = some (stN h v (up fe i y) ft fk) := by
  rw [g_set stN_1 i0 (by omega) (by decide) hy hc]
  refine congrArg some ?_
  unfold stN
  rw [al_st (by simp only [zl_21]; omega), al_st (by simp only [zl_21]; omega)]
  rw [zl_z' (b := h.2.1 + 1) rfl]
theorem stN_st {c : Option Nat} {i : Int} {y : Value} (i0 : 0 ≤ i) (i1 : i < 4) (hy : zTy 3 y = true) (hc : zEl (stN h v fe ft fk) c y = true) : zStv 3 69 c (stN h v fe ft fk) (.ref (h.2.1 + 1 + 1)) (vi i) y = some (stN h v fe (up ft i y) fk) := by
  rw [g_set stN_t i0 (by omega) (by decide) hy hc]
  refine congrArg some ?_
  unfold stN
  rw [al_st (by simp only [zl_21]; omega)]
  rw [zl_z' (b := h.2.1 + 1 + 1) rfl]
theorem stN_sk {c : Option Nat} {i : Int} {y : Value} (i0 : 0 ≤ i) (i1 : i < 4) (hy : zTy 3 y = true) (hc : zEl (stN h v fe ft fk) c y = true) : zStv 3 73 c (stN h v fe ft fk) (.ref (h.2.1 + 1 + 1 + 1)) (vi i) y = some (stN h v fe ft (up fk i y)) := by
  rw [g_set stN_k i0 (by omega) (by decide) hy hc]
  refine congrArg some ?_
  unfold stN
  rw [zl_z' (b := h.2.1 + 1 + 1 + 1) rfl]
def v5 (f : Int → Int) : Nat → Int := fun k => if k = 0 then f 2 else if k = 1 then f 3 else if k = 2 then f 4 else if k = 3 then f 6 else f 5
theorem zEm_r {H : zHp} {ci a : Nat} {vs : List Value} (e : H.1 a = some (ci, vs)) : zEm H (some ci) (.ref a) = true := by simp [zEm, zEl, e]
theorem zEm_n {H : zHp} {c : Option Nat} : zEm H c .null = true := rfl
/-- what may lie in the rows of a state -/
theorem st_rows {G : zG} {st : Nat} {f : Int → Int} {pe pt pk : Nat} (q : StO G st f pe pt pk fe ft fk) : (∀ i : Int, 0 ≤ i → i < 3 → ∃ a vs, fe i = .ref a ∧ G a = some (2, vs)) ∧ (∀ i : Int, 0 ≤ i → i < 4 → ft i = .null ∨ ∃ a vs, ft i = .ref a ∧ G a = some (9, vs)) ∧ (∀ i : Int, 0 ≤ i → i < 4 → fk i = .null ∨ ∃ a vs, fk i = .ref a ∧ G a = some (65, vs)) := by
  obtain ⟨a, b, c, d, e, g⟩ := q
  refine ⟨fun i x y => ?_, fun i x y => ?_, fun i x y => ?_⟩
  · obtain ⟨w, w1, n, tr, fb, ba, w2⟩ := d i x y
    exact ⟨w, _, w1, w2.2.1⟩
  · rcases e i x y with z | ⟨z, w, w1, w2⟩
    · exact Or.inl z.2
    · obtain ⟨n, gh, L, J, pk, ps, pj, po, fk, fs, fj, fo, on, ka, ba, sa, tf, to⟩ := w2
      exact Or.inr ⟨w, _, w1, to.1⟩
  · rcases g i x y with z | ⟨w, u, fs, w1, w2⟩
    · exact Or.inl z.2
    · exact Or.inr ⟨w, _, w1, w2.2.1⟩
theorem c_stInit {G : zG} {st : Nat} {f : Int → Int} {pe pt pk : Nat} {v0 v1 v2 v3 v4 v5' v6 v7 : Value} (q : StO G st f pe pt pk fe ft fk) (hG : ∀ a o, G a = some o → h.1 a = some o ∧ a < h.2.1) : F_St_init_ [.ref h.2.1, .ref st] (zAl h 8 (5, [v0, v1, v2, v3, v4, v5', v6, v7])) = some (none, stN h (v5 f) fe ft fk) := by
  obtain ⟨r1', r2', r3'⟩ := st_rows q
  obtain ⟨a, b, ⟨c1, c2, c3⟩, -⟩ := q
  obtain ⟨a, ht⟩ := hG _ _ a
  obtain ⟨c1, hr1⟩ := hG _ _ c1
  obtain ⟨c2, hr2⟩ := hG _ _ c2
  obtain ⟨c3, hr3⟩ := hG _ _ c3
  have ex : ∀ {o1 o2 o3 o4 o5 o6 : Nat × List Value} {x ci : Nat} {vs : List Value}, G x = some (ci, vs) → (zAl h 8 o1).1 x = some (ci, vs) ∧ (zAl (zAl h 8 o1) 3 o2).1 x = some (ci, vs) ∧ (zAl (zAl (zAl h 8 o1) 3 o2) 4 o3).1 x = some (ci, vs) ∧ (zAl (zAl (zAl (zAl h 8 o1) 3 o2) 4 o3) 4 o4).1 x = some (ci, vs) := by
    intro o1 o2 o3 o4 o5 o6 x ci vs e
    obtain ⟨e, hx⟩ := hG _ _ e
    refine ⟨?_, ?_, ?_, ?_⟩
    · rw [zl_n (by omega)]; exact e
    · rw [zl_n (by simp only [zl_21]; omega), zl_n (by omega)]; exact e
    · rw [zl_n (by simp only [zl_21]; omega), zl_n (by simp only [zl_21]; omega), zl_n (by omega)]; exact e
    · rw [zl_n (by simp only [zl_21]; omega), zl_n (by simp only [zl_21]; omega), zl_n (by simp only [zl_21]; omega), zl_n (by omega)]; exact e
  have cp1 : ∀ o1, zCpv 68 (some 2) (zAl (zAl h 8 o1) 3 (68, ar 3 fun _ => .null)) [.ref pe, vi 0, .ref (h.2.1 + 1), vi 0, vi 3] = some (zAl (zAl h 8 o1) 3 (68, ar 3 fe)) := fun o1 => g_cpf (N := 3) rfl (by rw [zl_n (by omega)]; exact c1) (by simp only [zl_21]; omega) rfl (by decide) fun i x y => by
    obtain ⟨w, vs, w1, w2⟩ := r1' i x (by omega)
    rw [w1]
    exact ⟨rfl, zEm_r (ex (o3 := o1) (o4 := o1) (o5 := o1) (o6 := o1) w2).2.1⟩
  have cp2 : ∀ o1 o2, zCpv 69 (some 9) (zAl (zAl (zAl h 8 o1) 3 o2) 4 (69, ar 4 fun _ => .null)) [.ref pt, vi 0, .ref (h.2.1 + 1 + 1), vi 0, vi 4] = some (zAl (zAl (zAl h 8 o1) 3 o2) 4 (69, ar 4 ft)) := fun o1 o2 => g_cpf (N := 4) rfl (by rw [zl_n (by simp only [zl_21]; omega), zl_n (by omega)]; exact c2) (by simp only [zl_21]; omega) rfl (by decide) fun i x y => by
    rcases r2' i x (by omega) with w1 | ⟨w, vs, w1, w2⟩
    · rw [w1]; exact ⟨rfl, zEm_n⟩
    · rw [w1]
      exact ⟨rfl, zEm_r (ex (o4 := o1) (o5 := o1) (o6 := o1) w2).2.2.1⟩
  have cp3 : ∀ o1 o2 o3, zCpv 73 (some 65) (zAl (zAl (zAl (zAl h 8 o1) 3 o2) 4 o3) 4 (73, ar 4 fun _ => .null)) [.ref pk, vi 0, .ref (h.2.1 + 1 + 1 + 1), vi 0, vi 4] = some (zAl (zAl (zAl (zAl h 8 o1) 3 o2) 4 o3) 4 (73, ar 4 fk)) := fun o1 o2 o3 => g_cpf (N := 4) rfl (by rw [zl_n (by simp only [zl_21]; omega), zl_n (by simp only [zl_21]; omega), zl_n (by omega)]; exact c3) (by simp only [zl_21]; omega) rfl (by decide) fun i x y => by
    rcases r3' i x (by omega) with w1 | ⟨w, vs, w1, w2⟩
    · rw [w1]; exact ⟨rfl, zEm_n⟩
    · rw [w1]
      exact ⟨rfl, zEm_r (ex (o5 := o1) (o6 := o1) w2).2.2.2⟩
  have g3 : ∀ {H : zHp}, zNav 68 .null H (vi 3) = some (.ref H.2.1, zAl H 3 (68, ar 3 fun _ => .null)) := g_na (by decide) (by decide)
  have g4 : ∀ {H : zHp} {t : Nat}, zNav t .null H (vi 4) = some (.ref H.2.1, zAl H 4 (t, ar 4 fun _ => .null)) := g_na (by decide) (by decide)
  refine zMeq rfl ?_
  simp (disch := first | assumption | omega | exact zTy_0 | exact zTy_3 | exact zTy_3n | exact zTy_1 | exact zTy_B | exact zTy_b0 | exact zTy_4 | exact zEl_n | exact zEz4 | exact zEz9 | exact hz _ _ | exact hz2 _ _ | exact zI0 | exact zI1 | exact zI2 | exact zI3 | exact zI4 | exact zI5 | exact zI6 | exact zI7 | exact zI8 | exact zI9 | exact zI10 | (simp only [zl_21, zl_22, zs_2, ne_eq]; omega) | ((repeat (refine Eq.trans (us_r (by decide)) ?_)); assumption) | ((simp (decide := true) only [us_k, us_s]); omega)) only [↓rKi, ↓rKl, ↓rKn, ↓rKd, ↓rL, ↓r2, ↓r1, ↓rC2, ↓rC1, ↓rCn, ↓rNot, ↓rAnd, ↓rOr, ↓rCi, ↓rBx, ↓rIte, ↓rGf, ↓rLen, ↓rAx, ↓rNa, ↓rA0, ↓rA1, ↓rCs, ↓rCv, ↓rAn, ↓rNew, ↓rSeq, ↓rSkip, ↓rBrk, ↓rCnt, ↓rRetV, ↓rAsg, ↓rRet, ↓rIf, ↓rPf, ↓rPfo, ↓rAs, ↓rAso, ↓rDo, ↓rObj, ↓rBl, ↓rSw, ↓rCopy, ↓zSq_0, ↓zSq_r, ↓zSq_1, ↓zSq_2, ↓zBq_l, ↓zBq_r, ↓zWq_0, ↓zWq_1, ↓zWq_2, ↓zWq_r, ↓zLo_0, ↓zLo_1, ↓zLo_2, ↓zLo_r, ↓zLt_0, ↓rTr, ↓zFin_s, ↓zFin_n, wX_r, wO_s, wI_t, wI_f, zLk_0, zLk_s, zTv_vi, zTv_vb, zTv_vl, zTv_d, zTv_r, zTv_n, zTv_4, zTo_s, zCl_n, zCl_0, zCl_s, Int32.reduceToInt, Int64.reduceToInt, e_add, e_sub, e_mul, e_neg, e_ladd, e_lsub, e_lmul, e_lneg, q_0, q_1, q_2, q_3, q_4, q_5, q_b0, q_b1, p_0, p_1, p_2, p_3, p_4, p_5, p_b0, p_b1, e_lcmp, pl_0, pl_1, pl_2, pl_3, pl_4, pl_5, e_i2l, e_l2i, e_idiv, e_irem, e_ldiv, e_lrem, List.set_cons_zero, List.set_cons_succ, List.getD_cons_zero, List.getD_cons_succ, List.getD_nil, dT, dF, decide_true, decide_false, not_true_eq_false, not_false_eq_true, Bool.not_true, Bool.not_false, zLay_1, zLay_c1, zLay_c2, zLay_n, zWds_n, zWds_c, zCat_0, zCat_1, zCat_3, zCat_4, zLay_4, List.nil_append, List.cons_append, List.replicate_succ, List.replicate_zero, zTy_0, zTy_b0, zTy_1, zTy_3, zTy_3n, zTy_4, and_true, true_and, Option.bind_some, zNul_n, zNul_r, List.getElem?_cons_zero, List.getElem?_cons_succ, Int.add_zero, zTv_B, zTy_B, b_and, b_or, b_andn, b_not, b_shl, b_cmp, b_cmp0, b_cmp0l, b_eq0, b_eq1, zs_2, zl_21, zl_22, gf_s, gf_l, pf_s, pf_l, zl_z, zs_z, nA, and_self, Nat.le_refl, Option.some.injEq, eq_self, Nat.reduceAdd, Nat.reduceSub, S_St_init_, al_gf, g_fld a, al_pf, g3, g4, Option.map_some, zStK_68, zStK_69, zStK_73, cp1, cp2, cp3]
  exact ⟨by omega, rfl⟩
/-- an event at the end of a heap -/
theorem c_evInit {trk : Nat} {v0 : Value} : F_Ev_init [.ref h.2.1, .ref trk] (zAl h 1 (2, [v0])) = some (none, zAl h 1 (2, [.ref trk])) := by
  refine zMeq rfl ?_
  simp (disch := first | assumption | omega | exact zTy_0 | exact zTy_3 | exact zTy_3n | exact zTy_1 | exact zTy_B | exact zTy_b0 | exact zTy_4 | exact zEl_n | exact zEz4 | exact zEz9 | exact hz _ _ | exact hz2 _ _ | exact zI0 | exact zI1 | exact zI2 | exact zI3 | exact zI4 | exact zI5 | exact zI6 | exact zI7 | exact zI8 | exact zI9 | exact zI10 | (simp only [zl_21, zl_22, zs_2, ne_eq]; omega) | ((repeat (refine Eq.trans (us_r (by decide)) ?_)); assumption) | ((simp (decide := true) only [us_k, us_s]); omega)) only [↓rKi, ↓rKl, ↓rKn, ↓rKd, ↓rL, ↓r2, ↓r1, ↓rC2, ↓rC1, ↓rCn, ↓rNot, ↓rAnd, ↓rOr, ↓rCi, ↓rBx, ↓rIte, ↓rGf, ↓rLen, ↓rAx, ↓rNa, ↓rA0, ↓rA1, ↓rCs, ↓rCv, ↓rAn, ↓rNew, ↓rSeq, ↓rSkip, ↓rBrk, ↓rCnt, ↓rRetV, ↓rAsg, ↓rRet, ↓rIf, ↓rPf, ↓rPfo, ↓rAs, ↓rAso, ↓rDo, ↓rObj, ↓rBl, ↓rSw, ↓rCopy, ↓zSq_0, ↓zSq_r, ↓zSq_1, ↓zSq_2, ↓zBq_l, ↓zBq_r, ↓zWq_0, ↓zWq_1, ↓zWq_2, ↓zWq_r, ↓zLo_0, ↓zLo_1, ↓zLo_2, ↓zLo_r, ↓zLt_0, ↓rTr, ↓zFin_s, ↓zFin_n, wX_r, wO_s, wI_t, wI_f, zLk_0, zLk_s, zTv_vi, zTv_vb, zTv_vl, zTv_d, zTv_r, zTv_n, zTv_4, zTo_s, zCl_n, zCl_0, zCl_s, Int32.reduceToInt, Int64.reduceToInt, e_add, e_sub, e_mul, e_neg, e_ladd, e_lsub, e_lmul, e_lneg, q_0, q_1, q_2, q_3, q_4, q_5, q_b0, q_b1, p_0, p_1, p_2, p_3, p_4, p_5, p_b0, p_b1, e_lcmp, pl_0, pl_1, pl_2, pl_3, pl_4, pl_5, e_i2l, e_l2i, e_idiv, e_irem, e_ldiv, e_lrem, List.set_cons_zero, List.set_cons_succ, List.getD_cons_zero, List.getD_cons_succ, List.getD_nil, dT, dF, decide_true, decide_false, not_true_eq_false, not_false_eq_true, Bool.not_true, Bool.not_false, zLay_1, zLay_c1, zLay_c2, zLay_n, zWds_n, zWds_c, zCat_0, zCat_1, zCat_3, zCat_4, zLay_4, List.nil_append, List.cons_append, List.replicate_succ, List.replicate_zero, zTy_0, zTy_b0, zTy_1, zTy_3, zTy_3n, zTy_4, and_true, true_and, Option.bind_some, zNul_n, zNul_r, List.getElem?_cons_zero, List.getElem?_cons_succ, Int.add_zero, zTv_B, zTy_B, b_and, b_or, b_andn, b_not, b_shl, b_cmp, b_cmp0, b_cmp0l, b_eq0, b_eq1, zs_2, zl_21, zl_22, gf_s, gf_l, pf_s, pf_l, zl_z, zs_z, nA, and_self, Nat.le_refl, Option.some.injEq, eq_self, Nat.reduceAdd, Nat.reduceSub, S_Ev_init]
end
section
variable {h : zHp} {x pp st st2 im ip : Nat} {fp : Int → Value} {pc ipc : Int}
/-- a step is taken: what stands behind it -/
def fpN (fp : Int → Value) (pc : Int) (st : Nat) : Int → Value := fun j => if pc = 20 then (if j = 19 then .ref st else fp (j + 1)) else (if j = pc then .ref st else fp j)
def pcN (pc : Int) : Int := if pc = 20 then 20 else pc + 1
theorem c_takeStep (hx : h.1 x = some (10, [.ref st, .ref pp, vi pc, .ref im, .ref ip, vi ipc])) (hp : h.1 pp = some (70, ar 20 fp)) (nx : x ≠ pp) (p0 : 0 ≤ pc) (p1 : pc ≤ 20) {vs : List Value} (hs : h.1 st = some (5, vs)) (nx2 : st ≠ x) (nx3 : st ≠ pp) (hv : ∀ i : Int, 0 ≤ i → i < 20 → zTy 3 (fp i) = true ∧ zEm h (some 5) (fp i) = true) : F_JT_takeStep [.ref x, .ref st2] h = some (none, zSet (zSet h pp (70, ar 20 (fpN fp pc st))) x (10, [.ref st2, .ref pp, vi (pcN pc), .ref im, .ref ip, vi ipc])) := by
  have sw : ∀ (o1 o2 : Nat × List Value), zSet (zSet h x o1) pp o2 = zSet (zSet h pp o2) x o1 := fun o1 o2 => by
    refine Prod.ext (funext fun b => ?_) rfl
    show (if b = pp then some o2 else if b = x then some o1 else h.1 b) = (if b = x then some o1 else if b = pp then some o2 else h.1 b)
    by_cases c : b = pp
    · rw [if_pos c, if_neg (by omega), if_pos c]
    · rw [if_neg c, if_neg c]
  refine zMeq rfl ?_
  by_cases c : pc = 20
  · have cp := g_cp (t := 70) (c := some 5) (N := 20) (M := 20) (f := fp) (g := fp) (sp := 1) (dp := 0) (n := 19) hp hp (by decide) (by decide) (by decide) (by decide) (by decide) (by decide) (by decide) hv
    -- the rows are shifted
    generalize hf1 : (fun j => if (0 : Int) ≤ j ∧ j < 0 + 19 then fp (1 + (j - 0)) else fp j) = f1 at cp
    have hx1 : (zSet h pp (70, ar 20 f1)).1 x = some (10, [.ref st, .ref pp, vi pc, .ref im, .ref ip, vi ipc]) := (zs_n nx).trans hx
    have hp2 : ∀ o, (zSet (zSet h pp (70, ar 20 f1)) x o).1 pp = some (70, ar 20 f1) := fun o => (zs_n (fun q => nx q.symm)).trans zs_s
    have el : ∀ o, zEl (zSet (zSet h pp (70, ar 20 f1)) x o) (some 5) (.ref st) = true := fun o => by
      simp only [zEl]
      rw [zs_n nx2, zs_n nx3, hs]
      rfl
    have ss : ∀ o, zStv 3 70 (some 5) (zSet (zSet h pp (70, ar 20 f1)) x o) (.ref pp) (vi 19) (.ref st) = some (zSet (zSet h pp (70, ar 20 (up f1 19 (.ref st)))) x o) := fun o => by
      rw [g_set (hp2 o) (by decide) (by decide) (by decide) rfl (el o)]
      refine congrArg some ?_
      have : zSet (zSet (zSet h pp (70, ar 20 f1)) x o) pp (70, ar 20 (up f1 19 (.ref st))) = zSet (zSet (zSet h pp (70, ar 20 f1)) pp (70, ar 20 (up f1 19 (.ref st)))) x o := by
        refine Prod.ext (funext fun b => ?_) rfl
        show (if b = pp then _ else if b = x then _ else _) = (if b = x then _ else if b = pp then _ else _)
        by_cases c : b = pp
        · rw [if_pos c, if_neg (by omega), if_pos c]
        · rw [if_neg c, if_neg c]
      rw [this, zs_z]
    have st70 : zStK 70 = (3, some 5) := rfl
    simp (disch := first | assumption | omega | exact zTy_0 | exact zTy_3 | exact zTy_3n | exact zTy_1 | exact zTy_B | exact zTy_b0 | exact zTy_4 | exact zEl_n | exact zEz4 | exact zEz9 | exact hz _ _ | exact hz2 _ _ | exact zI0 | exact zI1 | exact zI2 | exact zI3 | exact zI4 | exact zI5 | exact zI6 | exact zI7 | exact zI8 | exact zI9 | exact zI10 | (simp only [zl_21, zl_22, zs_2, ne_eq]; omega) | ((repeat (refine Eq.trans (us_r (by decide)) ?_)); assumption) | ((simp (decide := true) only [us_k, us_s]); omega)) only [↓rKi, ↓rKl, ↓rKn, ↓rKd, ↓rL, ↓r2, ↓r1, ↓rC2, ↓rC1, ↓rCn, ↓rNot, ↓rAnd, ↓rOr, ↓rCi, ↓rBx, ↓rIte, ↓rGf, ↓rLen, ↓rAx, ↓rNa, ↓rA0, ↓rA1, ↓rCs, ↓rCv, ↓rAn, ↓rNew, ↓rSeq, ↓rSkip, ↓rBrk, ↓rCnt, ↓rRetV, ↓rAsg, ↓rRet, ↓rIf, ↓rPf, ↓rPfo, ↓rAs, ↓rAso, ↓rDo, ↓rObj, ↓rBl, ↓rSw, ↓rCopy, ↓zSq_0, ↓zSq_r, ↓zSq_1, ↓zSq_2, ↓zBq_l, ↓zBq_r, ↓zWq_0, ↓zWq_1, ↓zWq_2, ↓zWq_r, ↓zLo_0, ↓zLo_1, ↓zLo_2, ↓zLo_r, ↓zLt_0, ↓rTr, ↓zFin_s, ↓zFin_n, wX_r, wO_s, wI_t, wI_f, zLk_0, zLk_s, zTv_vi, zTv_vb, zTv_vl, zTv_d, zTv_r, zTv_n, zTv_4, zTo_s, zCl_n, zCl_0, zCl_s, Int32.reduceToInt, Int64.reduceToInt, e_add, e_sub, e_mul, e_neg, e_ladd, e_lsub, e_lmul, e_lneg, q_0, q_1, q_2, q_3, q_4, q_5, q_b0, q_b1, p_0, p_1, p_2, p_3, p_4, p_5, p_b0, p_b1, e_lcmp, pl_0, pl_1, pl_2, pl_3, pl_4, pl_5, e_i2l, e_l2i, e_idiv, e_irem, e_ldiv, e_lrem, List.set_cons_zero, List.set_cons_succ, List.getD_cons_zero, List.getD_cons_succ, List.getD_nil, dT, dF, decide_true, decide_false, not_true_eq_false, not_false_eq_true, Bool.not_true, Bool.not_false, zLay_1, zLay_c1, zLay_c2, zLay_n, zWds_n, zWds_c, zCat_0, zCat_1, zCat_3, zCat_4, zLay_4, List.nil_append, List.cons_append, List.replicate_succ, List.replicate_zero, zTy_0, zTy_b0, zTy_1, zTy_3, zTy_3n, zTy_4, and_true, true_and, Option.bind_some, zNul_n, zNul_r, List.getElem?_cons_zero, List.getElem?_cons_succ, Int.add_zero, zTv_B, zTy_B, b_and, b_or, b_andn, b_not, b_shl, b_cmp, b_cmp0, b_cmp0l, b_eq0, b_eq1, zs_2, zl_21, zl_22, gf_s, gf_l, pf_s, pf_l, zl_z, zs_z, nA, and_self, Nat.le_refl, Option.some.injEq, eq_self, Nat.reduceAdd, Nat.reduceSub, S_JT_takeStep, g_fld hx, st70, cp, g_pt hx1, ss]
    have e1 : pcN pc = 20 := if_pos c
    have e2 : ar 20 (up f1 19 (.ref st)) = ar 20 (fpN fp pc st) := ar_ext fun i i0 i1 => by
      unfold fpN up
      rw [if_pos c, ← hf1]
      by_cases z : i = 19
      · rw [if_pos z, if_pos z]
      · rw [if_neg z, if_neg z]
        show (if (0 : Int) ≤ i ∧ i < 0 + 19 then fp (1 + (i - 0)) else fp i) = _
        rw [if_pos (by omega)]
        exact congrArg fp (by omega)
    rw [e1, e2]
    rfl
  · have el : zEl h (some 5) (.ref st) = true := by simp [zEl, hs]
    have st70 : zStK 70 = (3, some 5) := rfl
    have ss := g_set (ty := 3) (x := pc) hp p0 (by omega) (by decide) (show zTy 3 (.ref st) = true from rfl) el
    have hx1 : (zSet h pp (70, ar 20 (up fp pc (.ref st)))).1 x = some (10, [.ref st, .ref pp, vi pc, .ref im, .ref ip, vi ipc]) := (zs_n nx).trans hx
    simp (disch := first | assumption | omega | exact zTy_0 | exact zTy_3 | exact zTy_3n | exact zTy_1 | exact zTy_B | exact zTy_b0 | exact zTy_4 | exact zEl_n | exact zEz4 | exact zEz9 | exact hz _ _ | exact hz2 _ _ | exact zI0 | exact zI1 | exact zI2 | exact zI3 | exact zI4 | exact zI5 | exact zI6 | exact zI7 | exact zI8 | exact zI9 | exact zI10 | (simp only [zl_21, zl_22, zs_2, ne_eq]; omega) | ((repeat (refine Eq.trans (us_r (by decide)) ?_)); assumption) | ((simp (decide := true) only [us_k, us_s]); omega)) only [↓rKi, ↓rKl, ↓rKn, ↓rKd, ↓rL, ↓r2, ↓r1, ↓rC2, ↓rC1, ↓rCn, ↓rNot, ↓rAnd, ↓rOr, ↓rCi, ↓rBx, ↓rIte, ↓rGf, ↓rLen, ↓rAx, ↓rNa, ↓rA0, ↓rA1, ↓rCs, ↓rCv, ↓rAn, ↓rNew, ↓rSeq, ↓rSkip, ↓rBrk, ↓rCnt, ↓rRetV, ↓rAsg, ↓rRet, ↓rIf, ↓rPf, ↓rPfo, ↓rAs, ↓rAso, ↓rDo, ↓rObj, ↓rBl, ↓rSw, ↓rCopy, ↓zSq_0, ↓zSq_r, ↓zSq_1, ↓zSq_2, ↓zBq_l, ↓zBq_r, ↓zWq_0, ↓zWq_1, ↓zWq_2, ↓zWq_r, ↓zLo_0, ↓zLo_1, ↓zLo_2, ↓zLo_r, ↓zLt_0, ↓rTr, ↓zFin_s, ↓zFin_n, wX_r, wO_s, wI_t, wI_f, zLk_0, zLk_s, zTv_vi, zTv_vb, zTv_vl, zTv_d, zTv_r, zTv_n, zTv_4, zTo_s, zCl_n, zCl_0, zCl_s, Int32.reduceToInt, Int64.reduceToInt, e_add, e_sub, e_mul, e_neg, e_ladd, e_lsub, e_lmul, e_lneg, q_0, q_1, q_2, q_3, q_4, q_5, q_b0, q_b1, p_0, p_1, p_2, p_3, p_4, p_5, p_b0, p_b1, e_lcmp, pl_0, pl_1, pl_2, pl_3, pl_4, pl_5, e_i2l, e_l2i, e_idiv, e_irem, e_ldiv, e_lrem, List.set_cons_zero, List.set_cons_succ, List.getD_cons_zero, List.getD_cons_succ, List.getD_nil, dT, dF, decide_true, decide_false, not_true_eq_false, not_false_eq_true, Bool.not_true, Bool.not_false, zLay_1, zLay_c1, zLay_c2, zLay_n, zWds_n, zWds_c, zCat_0, zCat_1, zCat_3, zCat_4, zLay_4, List.nil_append, List.cons_append, List.replicate_succ, List.replicate_zero, zTy_0, zTy_b0, zTy_1, zTy_3, zTy_3n, zTy_4, and_true, true_and, Option.bind_some, zNul_n, zNul_r, List.getElem?_cons_zero, List.getElem?_cons_succ, Int.add_zero, zTv_B, zTy_B, b_and, b_or, b_andn, b_not, b_shl, b_cmp, b_cmp0, b_cmp0l, b_eq0, b_eq1, zs_2, zl_21, zl_22, gf_s, gf_l, pf_s, pf_l, zl_z, zs_z, nA, and_self, Nat.le_refl, Option.some.injEq, eq_self, Nat.reduceAdd, Nat.reduceSub, S_JT_takeStep, g_fld hx, g_fld hx1, st70, ss, g_pt hx1]
    have e1 : pcN pc = pc + 1 := if_neg c
    have e2 : ar 20 (up fp pc (.ref st)) = ar 20 (fpN fp pc st) := ar_ext fun i i0 i1 => by
      unfold fpN up
      rw [if_neg c]
    rw [e1, e2]
end
