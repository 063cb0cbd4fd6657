/-! THE GATHERER AND WHAT IT HOLDS, at B .. B + 7 -/
def hgF0 (B : Nat) (tr : Nat) (n : Nat) (rad : Int) (pw : Int) (sm : Int) (gi : Nat → Int) : List Value := [.ref tr, .ref (B + 1), .ref (B + 6), .ref (B + 7), vi (gi 0), vi (gi 1), vi (gi 2), vl (gi 3), vl (gi 4)]
def hgF1 (B : Nat) (tr : Nat) (n : Nat) (rad : Int) (pw : Int) (sm : Int) (gi : Nat → Int) : List Value := [vi rad, vi pw, vi sm, vi (n : Int), .ref (B + 2), vi (gi 5), .ref (B + 3), vi (gi 6), .ref (B + 4), vi (gi 7), .ref (B + 5)]
def hgF6 (B : Nat) (tr : Nat) (n : Nat) (rad : Int) (pw : Int) (sm : Int) (gi : Nat → Int) : List Value := [vi (gi 8), vi (gi 9), vi (gi 10)]
def hgMk (B : Nat) (tr : Nat) (n : Nat) (rad : Int) (pw : Int) (sm : Int) (gi : Nat → Int) (ga : Nat → Int → Value) : Nat → Option (Nat × List Value)
  | 0 => some (3, hgF0 B tr n rad pw sm gi)
  | 1 => some (9, hgF1 B tr n rad pw sm gi)
  | 2 => some (71, ar (2 * n) (ga 0))
  | 3 => some (72, ar (n) (ga 1))
  | 4 => some (71, ar (n) (ga 2))
  | 5 => some (64, ar (0) (ga 4))
  | 6 => some (7, hgF6 B tr n rad pw sm gi)
  | 7 => some (71, ar (n) (ga 3))
  | _ => none
def hg (B : Nat) (tr : Nat) (n : Nat) (rad : Int) (pw : Int) (sm : Int) (gi : Nat → Int) (ga : Nat → Int → Value) (r : zHp) : zHp := (fun b => if B ≤ b ∧ b < B + 8 then hgMk B tr n rad pw sm gi ga (b - B) else r.1 b, r.2)
theorem hg_2 {B : Nat} {tr : Nat} {n : Nat} {rad : Int} {pw : Int} {sm : Int} {gi : Nat → Int} {ga : Nat → Int → Value} {r : zHp} : (hg B tr n rad pw sm gi ga r).2 = r.2 := rfl
theorem hg_at {B : Nat} {tr : Nat} {n : Nat} {rad : Int} {pw : Int} {sm : Int} {gi : Nat → Int} {ga : Nat → Int → Value} {r : zHp} (k : Nat) (h : k < 8) : (hg B tr n rad pw sm gi ga r).1 (B + k) = hgMk B tr n rad pw sm gi ga k := by
  show (if B ≤ B + k ∧ B + k < B + 8 then hgMk B tr n rad pw sm gi ga (B + k - B) else r.1 (B + k)) = _
  rw [if_pos ⟨by omega, by omega⟩, Nat.add_sub_cancel_left]
theorem hg_out {B : Nat} {tr : Nat} {n : Nat} {rad : Int} {pw : Int} {sm : Int} {gi : Nat → Int} {ga : Nat → Int → Value} {r : zHp} {b : Nat} (h : b < B ∨ B + 8 ≤ b) : (hg B tr n rad pw sm gi ga r).1 b = r.1 b := if_neg (by omega)
theorem hg_ext {B : Nat} {tr : Nat} {n : Nat} {rad : Int} {pw : Int} {sm : Int} {gi gi2 : Nat → Int} {ga ga2 : Nat → Int → Value} {r : zHp} {h : zHp} (h2 : h.2 = r.2) (ho : ∀ b, (b < B ∨ B + 8 ≤ b) → h.1 b = r.1 b) (hi : ∀ k, k < 8 → h.1 (B + k) = hgMk B tr n rad pw sm gi2 ga2 k) : h = hg B tr n rad pw sm gi2 ga2 r := by
  refine Prod.ext (funext fun b => ?_) h2
  by_cases c : B ≤ b ∧ b < B + 8
  · obtain ⟨j, rfl⟩ : ∃ j, b = B + j := ⟨b - B, by omega⟩
    rw [hi j (by omega), hg_at j (by omega)]
  · rw [ho b (by omega), hg_out (by omega)]
theorem hg_set {B k : Nat} {tr : Nat} {n : Nat} {rad : Int} {pw : Int} {sm : Int} {gi gi2 : Nat → Int} {ga ga2 : Nat → Int → Value} {r : zHp} {o : Nat × List Value} (hk : k < 8) (h1 : hgMk B tr n rad pw sm gi2 ga2 k = some o) (h2 : ∀ j, j < 8 → j ≠ k → hgMk B tr n rad pw sm gi2 ga2 j = hgMk B tr n rad pw sm gi ga j) : zSet (hg B tr n rad pw sm gi ga r) (B + k) o = hg B tr n rad pw sm gi2 ga2 r := by
  refine hg_ext rfl (fun b hb => ?_) (fun j hj => ?_)
  · show (if b = B + k then some o else (hg B tr n rad pw sm gi ga r).1 b) = r.1 b
    rw [if_neg (by omega), hg_out hb]
  · show (if B + j = B + k then some o else (hg B tr n rad pw sm gi ga r).1 (B + j)) = _
    by_cases e : j = k
    · rw [if_pos (by omega), e, h1]
    · rw [if_neg (by omega), hg_at j hj, h2 j hj e]
theorem hg_al {B : Nat} {tr : Nat} {n : Nat} {rad : Int} {pw : Int} {sm : Int} {gi : Nat → Int} {ga : Nat → Int → Value} {r : zHp} {n : Nat} {o : Nat × List Value} (h : B + 8 ≤ r.2.1) : zAl (hg B tr n rad pw sm gi ga r) n o = hg B tr n rad pw sm gi ga (zAl r n o) := by
  refine Prod.ext (funext fun b => ?_) rfl
  show (if b = r.2.1 then some o else (hg B tr n rad pw sm gi ga r).1 b) = (if B ≤ b ∧ b < B + 8 then hgMk B tr n rad pw sm gi ga (b - B) else (if b = r.2.1 then some o else r.1 b))
  by_cases c : B ≤ b ∧ b < B + 8
  · rw [if_pos c, if_neg (by omega)]; exact if_pos c
  · rw [if_neg c]; split
    · rfl
    · exact if_neg c
theorem hg_so {B : Nat} {tr : Nat} {n : Nat} {rad : Int} {pw : Int} {sm : Int} {gi : Nat → Int} {ga : Nat → Int → Value} {r : zHp} {a : Nat} {o : Nat × List Value} (h : a < B ∨ B + 8 ≤ a) : zSet (hg B tr n rad pw sm gi ga r) a o = hg B tr n rad pw sm gi ga (zSet r a o) := by
  refine Prod.ext (funext fun b => ?_) rfl
  show (if b = a then some o else (hg B tr n rad pw sm gi ga r).1 b) = (if B ≤ b ∧ b < B + 8 then hgMk B tr n rad pw sm gi ga (b - B) else (if b = a then some o else r.1 b))
  by_cases c : B ≤ b ∧ b < B + 8
  · rw [if_pos c, if_neg (by omega)]; exact if_pos c
  · rw [if_neg c]; split
    · rfl
    · exact if_neg c
theorem hg_of {B : Nat} {tr : Nat} {n : Nat} {rad : Int} {pw : Int} {sm : Int} {gi : Nat → Int} {ga : Nat → Int → Value} {r : zHp} {ty ci k a : Nat} {vs : List Value} (e : r.1 a = some (ci, vs)) (h : a < B ∨ B + 8 ≤ a) : zGfv ty ci k (hg B tr n rad pw sm gi ga r) (.ref a) = (vs[k]?).bind (zTv ty) := g_fld (by rw [hg_out h, e])
theorem hg_op {B : Nat} {tr : Nat} {n : Nat} {rad : Int} {pw : Int} {sm : Int} {gi : Nat → Int} {ga : Nat → Int → Value} {r : zHp} {ty ci k a : Nat} {vs : List Value} {v : Value} (e : r.1 a = some (ci, vs)) (h : a < B ∨ B + 8 ≤ a) (hk : zIn k vs = true) (hv : zTy ty v = true) : zPfv ty ci k (hg B tr n rad pw sm gi ga r) (.ref a) v = some (hg B tr n rad pw sm gi ga (zSet r a (ci, vs.set k v))) := by
  rw [g_put (by rw [hg_out h, e]) (zIn_lt hk) hv, hg_so h]
theorem hg_ot {B : Nat} {tr : Nat} {n : Nat} {rad : Int} {pw : Int} {sm : Int} {gi : Nat → Int} {ga : Nat → Int → Value} {r : zHp} {ci a : Nat} {vs rest : List Value} (e : r.1 a = some (ci, vs)) (h : a < B ∨ B + 8 ≤ a) : zTgo (hg B tr n rad pw sm gi ga r) (.ref a :: rest) ci = some () := g_tag (by rw [hg_out h, e])
theorem hg_oa {B : Nat} {tr : Nat} {n : Nat} {rad : Int} {pw : Int} {sm : Int} {gi : Nat → Int} {ga : Nat → Int → Value} {r : zHp} {ty t n a : Nat} {f : Int → Value} {x : Int} (e : r.1 a = some (t, ar n f)) (h : a < B ∨ B + 8 ≤ a) (h1 : 0 ≤ x) (h2 : x < n) (h3 : n ≤ 1000000) : zAxv ty t (hg B tr n rad pw sm gi ga r) (.ref a) (vi x) = zTv ty (f x) := g_ar (by rw [hg_out h, e]) h1 h2 h3
theorem hg_ol {B : Nat} {tr : Nat} {n : Nat} {rad : Int} {pw : Int} {sm : Int} {gi : Nat → Int} {ga : Nat → Int → Value} {r : zHp} {t n a : Nat} {f : Int → Value} (e : r.1 a = some (t, ar n f)) (h : a < B ∨ B + 8 ≤ a) : zLenv t (hg B tr n rad pw sm gi ga r) (.ref a) = some (vi (n : Int)) := g_len (by rw [hg_out h, e])
theorem hg_oe {B : Nat} {tr : Nat} {n : Nat} {rad : Int} {pw : Int} {sm : Int} {gi : Nat → Int} {ga : Nat → Int → Value} {r : zHp} {ci a : Nat} {vs : List Value} (e : r.1 a = some (ci, vs)) (h : a < B ∨ B + 8 ≤ a) : zEl (hg B tr n rad pw sm gi ga r) (some ci) (.ref a) = true := by
  simp only [zEl, hg_out h, e, beq_self_eq_true]
theorem hg_m {B : Nat} {tr : Nat} {n : Nat} {rad : Int} {pw : Int} {sm : Int} {gi : Nat → Int} {ga : Nat → Int → Value} {r : zHp} : (hg B tr n rad pw sm gi ga r).1 B = some (3, hgF0 B tr n rad pw sm gi) := hg_at 0 (by decide)
theorem hgt_0 {B : Nat} {tr : Nat} {n : Nat} {rad : Int} {pw : Int} {sm : Int} {gi : Nat → Int} {ga : Nat → Int → Value} {r : zHp} {rest : List Value} : zTgo (hg B tr n rad pw sm gi ga r) (.ref B :: rest) 3 = some () := g_tag hg_m
theorem hgf_0_0 {B : Nat} {tr : Nat} {n : Nat} {rad : Int} {pw : Int} {sm : Int} {gi : Nat → Int} {ga : Nat → Int → Value} {r : zHp} : zGfv 3 3 0 (hg B tr n rad pw sm gi ga r) (.ref B) = some (.ref tr) := by
  rw [g_fld hg_m]; rfl
theorem hgf_0_1 {B : Nat} {tr : Nat} {n : Nat} {rad : Int} {pw : Int} {sm : Int} {gi : Nat → Int} {ga : Nat → Int → Value} {r : zHp} : zGfv 3 3 1 (hg B tr n rad pw sm gi ga r) (.ref B) = some (.ref (B + 1)) := by
  rw [g_fld hg_m]; rfl
theorem hgf_0_2 {B : Nat} {tr : Nat} {n : Nat} {rad : Int} {pw : Int} {sm : Int} {gi : Nat → Int} {ga : Nat → Int → Value} {r : zHp} : zGfv 3 3 2 (hg B tr n rad pw sm gi ga r) (.ref B) = some (.ref (B + 6)) := by
  rw [g_fld hg_m]; rfl
theorem hgf_0_3 {B : Nat} {tr : Nat} {n : Nat} {rad : Int} {pw : Int} {sm : Int} {gi : Nat → Int} {ga : Nat → Int → Value} {r : zHp} : zGfv 3 3 3 (hg B tr n rad pw sm gi ga r) (.ref B) = some (.ref (B + 7)) := by
  rw [g_fld hg_m]; rfl
theorem hgf_0_4 {B : Nat} {tr : Nat} {n : Nat} {rad : Int} {pw : Int} {sm : Int} {gi : Nat → Int} {ga : Nat → Int → Value} {r : zHp} : zGfv 0 3 4 (hg B tr n rad pw sm gi ga r) (.ref B) = some ((vi (gi 0))) := by
  rw [g_fld hg_m]; rfl
theorem hgp_0_4 {B : Nat} {tr : Nat} {n : Nat} {rad : Int} {pw : Int} {sm : Int} {gi : Nat → Int} {ga : Nat → Int → Value} {r : zHp} {y : Int} : zPfv 0 3 4 (hg B tr n rad pw sm gi ga r) (.ref B) (vi y) = some (hg B tr n rad pw sm (ug gi 0 y) ga r) := by
  rw [g_put hg_m (by simp [hgF0]) rfl]
  refine congrArg some (hg_set (k := 0) (by decide) (congrArg (fun q => some (3, q)) ?_) ?_)
  · simp only [hgF0, ug, List.set_cons_zero, List.set_cons_succ]; rfl
  · intro q hq hn; match q, hq, hn with
    | 0, _, hn => exact absurd rfl hn
    | 1, _, _ => simp only [hgMk, hgF1, ug]; rfl
    | 2, _, _ => rfl
    | 3, _, _ => rfl
    | 4, _, _ => rfl
    | 5, _, _ => rfl
    | 6, _, _ => simp only [hgMk, hgF6, ug]; rfl
    | 7, _, _ => rfl
    | q + 8, h, _ => exact absurd h (by omega)
theorem hgf_0_5 {B : Nat} {tr : Nat} {n : Nat} {rad : Int} {pw : Int} {sm : Int} {gi : Nat → Int} {ga : Nat → Int → Value} {r : zHp} : zGfv 0 3 5 (hg B tr n rad pw sm gi ga r) (.ref B) = some ((vi (gi 1))) := by
  rw [g_fld hg_m]; rfl
theorem hgp_0_5 {B : Nat} {tr : Nat} {n : Nat} {rad : Int} {pw : Int} {sm : Int} {gi : Nat → Int} {ga : Nat → Int → Value} {r : zHp} {y : Int} : zPfv 0 3 5 (hg B tr n rad pw sm gi ga r) (.ref B) (vi y) = some (hg B tr n rad pw sm (ug gi 1 y) ga r) := by
  rw [g_put hg_m (by simp [hgF0]) rfl]
  refine congrArg some (hg_set (k := 0) (by decide) (congrArg (fun q => some (3, q)) ?_) ?_)
  · simp only [hgF0, ug, List.set_cons_zero, List.set_cons_succ]; rfl
  · intro q hq hn; match q, hq, hn with
    | 0, _, hn => exact absurd rfl hn
    | 1, _, _ => simp only [hgMk, hgF1, ug]; rfl
    | 2, _, _ => rfl
    | 3, _, _ => rfl
    | 4, _, _ => rfl
    | 5, _, _ => rfl
    | 6, _, _ => simp only [hgMk, hgF6, ug]; rfl
    | 7, _, _ => rfl
    | q + 8, h, _ => exact absurd h (by omega)
theorem hgf_0_6 {B : Nat} {tr : Nat} {n : Nat} {rad : Int} {pw : Int} {sm : Int} {gi : Nat → Int} {ga : Nat → Int → Value} {r : zHp} : zGfv 0 3 6 (hg B tr n rad pw sm gi ga r) (.ref B) = some ((vi (gi 2))) := by
  rw [g_fld hg_m]; rfl
theorem hgp_0_6 {B : Nat} {tr : Nat} {n : Nat} {rad : Int} {pw : Int} {sm : Int} {gi : Nat → Int} {ga : Nat → Int → Value} {r : zHp} {y : Int} : zPfv 0 3 6 (hg B tr n rad pw sm gi ga r) (.ref B) (vi y) = some (hg B tr n rad pw sm (ug gi 2 y) ga r) := by
  rw [g_put hg_m (by simp [hgF0]) rfl]
  refine congrArg some (hg_set (k := 0) (by decide) (congrArg (fun q => some (3, q)) ?_) ?_)
  · simp only [hgF0, ug, List.set_cons_zero, List.set_cons_succ]; rfl
  · intro q hq hn; match q, hq, hn with
    | 0, _, hn => exact absurd rfl hn
    | 1, _, _ => simp only [hgMk, hgF1, ug]; rfl
    | 2, _, _ => rfl
    | 3, _, _ => rfl
    | 4, _, _ => rfl
    | 5, _, _ => rfl
    | 6, _, _ => simp only [hgMk, hgF6, ug]; rfl
    | 7, _, _ => rfl
    | q + 8, h, _ => exact absurd h (by omega)
theorem hgf_0_7 {B : Nat} {tr : Nat} {n : Nat} {rad : Int} {pw : Int} {sm : Int} {gi : Nat → Int} {ga : Nat → Int → Value} {r : zHp} : zGfv 1 3 7 (hg B tr n rad pw sm gi ga r) (.ref B) = some ((vl (gi 3))) := by
  rw [g_fld hg_m]; rfl
theorem hgp_0_7 {B : Nat} {tr : Nat} {n : Nat} {rad : Int} {pw : Int} {sm : Int} {gi : Nat → Int} {ga : Nat → Int → Value} {r : zHp} {y : Int} : zPfv 1 3 7 (hg B tr n rad pw sm gi ga r) (.ref B) (vl y) = some (hg B tr n rad pw sm (ug gi 3 y) ga r) := by
  rw [g_put hg_m (by simp [hgF0]) rfl]
  refine congrArg some (hg_set (k := 0) (by decide) (congrArg (fun q => some (3, q)) ?_) ?_)
  · simp only [hgF0, ug, List.set_cons_zero, List.set_cons_succ]; rfl
  · intro q hq hn; match q, hq, hn with
    | 0, _, hn => exact absurd rfl hn
    | 1, _, _ => simp only [hgMk, hgF1, ug]; rfl
    | 2, _, _ => rfl
    | 3, _, _ => rfl
    | 4, _, _ => rfl
    | 5, _, _ => rfl
    | 6, _, _ => simp only [hgMk, hgF6, ug]; rfl
    | 7, _, _ => rfl
    | q + 8, h, _ => exact absurd h (by omega)
theorem hgf_0_8 {B : Nat} {tr : Nat} {n : Nat} {rad : Int} {pw : Int} {sm : Int} {gi : Nat → Int} {ga : Nat → Int → Value} {r : zHp} : zGfv 1 3 8 (hg B tr n rad pw sm gi ga r) (.ref B) = some ((vl (gi 4))) := by
  rw [g_fld hg_m]; rfl
theorem hgp_0_8 {B : Nat} {tr : Nat} {n : Nat} {rad : Int} {pw : Int} {sm : Int} {gi : Nat → Int} {ga : Nat → Int → Value} {r : zHp} {y : Int} : zPfv 1 3 8 (hg B tr n rad pw sm gi ga r) (.ref B) (vl y) = some (hg B tr n rad pw sm (ug gi 4 y) ga r) := by
  rw [g_put hg_m (by simp [hgF0]) rfl]
  refine congrArg some (hg_set (k := 0) (by decide) (congrArg (fun q => some (3, q)) ?_) ?_)
  · simp only [hgF0, ug, List.set_cons_zero, List.set_cons_succ]; rfl
  · intro q hq hn; match q, hq, hn with
    | 0, _, hn => exact absurd rfl hn
    | 1, _, _ => simp only [hgMk, hgF1, ug]; rfl
    | 2, _, _ => rfl
    | 3, _, _ => rfl
    | 4, _, _ => rfl
    | 5, _, _ => rfl
    | 6, _, _ => simp only [hgMk, hgF6, ug]; rfl
    | 7, _, _ => rfl
    | q + 8, h, _ => exact absurd h (by omega)
theorem hgt_1 {B : Nat} {tr : Nat} {n : Nat} {rad : Int} {pw : Int} {sm : Int} {gi : Nat → Int} {ga : Nat → Int → Value} {r : zHp} {rest : List Value} : zTgo (hg B tr n rad pw sm gi ga r) (.ref (B + 1) :: rest) 9 = some () := g_tag (hg_at 1 (by decide))
theorem hgf_1_0 {B : Nat} {tr : Nat} {n : Nat} {rad : Int} {pw : Int} {sm : Int} {gi : Nat → Int} {ga : Nat → Int → Value} {r : zHp} : zGfv 0 9 0 (hg B tr n rad pw sm gi ga r) (.ref (B + 1)) = some (vi rad) := by
  rw [g_fld (hg_at 1 (by decide))]; rfl
theorem hgf_1_1 {B : Nat} {tr : Nat} {n : Nat} {rad : Int} {pw : Int} {sm : Int} {gi : Nat → Int} {ga : Nat → Int → Value} {r : zHp} : zGfv 0 9 1 (hg B tr n rad pw sm gi ga r) (.ref (B + 1)) = some (vi pw) := by
  rw [g_fld (hg_at 1 (by decide))]; rfl
theorem hgf_1_2 {B : Nat} {tr : Nat} {n : Nat} {rad : Int} {pw : Int} {sm : Int} {gi : Nat → Int} {ga : Nat → Int → Value} {r : zHp} : zGfv 0 9 2 (hg B tr n rad pw sm gi ga r) (.ref (B + 1)) = some (vi sm) := by
  rw [g_fld (hg_at 1 (by decide))]; rfl
theorem hgf_1_3 {B : Nat} {tr : Nat} {n : Nat} {rad : Int} {pw : Int} {sm : Int} {gi : Nat → Int} {ga : Nat → Int → Value} {r : zHp} : zGfv 0 9 3 (hg B tr n rad pw sm gi ga r) (.ref (B + 1)) = some (vi (n : Int)) := by
  rw [g_fld (hg_at 1 (by decide))]; rfl
theorem hgf_1_4 {B : Nat} {tr : Nat} {n : Nat} {rad : Int} {pw : Int} {sm : Int} {gi : Nat → Int} {ga : Nat → Int → Value} {r : zHp} : zGfv 3 9 4 (hg B tr n rad pw sm gi ga r) (.ref (B + 1)) = some (.ref (B + 2)) := by
  rw [g_fld (hg_at 1 (by decide))]; rfl
theorem hgf_1_5 {B : Nat} {tr : Nat} {n : Nat} {rad : Int} {pw : Int} {sm : Int} {gi : Nat → Int} {ga : Nat → Int → Value} {r : zHp} : zGfv 0 9 5 (hg B tr n rad pw sm gi ga r) (.ref (B + 1)) = some ((vi (gi 5))) := by
  rw [g_fld (hg_at 1 (by decide))]; rfl
theorem hgp_1_5 {B : Nat} {tr : Nat} {n : Nat} {rad : Int} {pw : Int} {sm : Int} {gi : Nat → Int} {ga : Nat → Int → Value} {r : zHp} {y : Int} : zPfv 0 9 5 (hg B tr n rad pw sm gi ga r) (.ref (B + 1)) (vi y) = some (hg B tr n rad pw sm (ug gi 5 y) ga r) := by
  rw [g_put (hg_at 1 (by decide)) (by simp [hgF1]) rfl]
  refine congrArg some (hg_set (k := 1) (by decide) (congrArg (fun q => some (9, q)) ?_) ?_)
  · simp only [hgF1, ug, List.set_cons_zero, List.set_cons_succ]; rfl
  · intro q hq hn; match q, hq, hn with
    | 0, _, _ => simp only [hgMk, hgF0, ug]; rfl
    | 1, _, hn => exact absurd rfl hn
    | 2, _, _ => rfl
    | 3, _, _ => rfl
    | 4, _, _ => rfl
    | 5, _, _ => rfl
    | 6, _, _ => simp only [hgMk, hgF6, ug]; rfl
    | 7, _, _ => rfl
    | q + 8, h, _ => exact absurd h (by omega)
theorem hgf_1_6 {B : Nat} {tr : Nat} {n : Nat} {rad : Int} {pw : Int} {sm : Int} {gi : Nat → Int} {ga : Nat → Int → Value} {r : zHp} : zGfv 3 9 6 (hg B tr n rad pw sm gi ga r) (.ref (B + 1)) = some (.ref (B + 3)) := by
  rw [g_fld (hg_at 1 (by decide))]; rfl
theorem hgf_1_7 {B : Nat} {tr : Nat} {n : Nat} {rad : Int} {pw : Int} {sm : Int} {gi : Nat → Int} {ga : Nat → Int → Value} {r : zHp} : zGfv 0 9 7 (hg B tr n rad pw sm gi ga r) (.ref (B + 1)) = some ((vi (gi 6))) := by
  rw [g_fld (hg_at 1 (by decide))]; rfl
theorem hgp_1_7 {B : Nat} {tr : Nat} {n : Nat} {rad : Int} {pw : Int} {sm : Int} {gi : Nat → Int} {ga : Nat → Int → Value} {r : zHp} {y : Int} : zPfv 0 9 7 (hg B tr n rad pw sm gi ga r) (.ref (B + 1)) (vi y) = some (hg B tr n rad pw sm (ug gi 6 y) ga r) := by
  rw [g_put (hg_at 1 (by decide)) (by simp [hgF1]) rfl]
  refine congrArg some (hg_set (k := 1) (by decide) (congrArg (fun q => some (9, q)) ?_) ?_)
  · simp only [hgF1, ug, List.set_cons_zero, List.set_cons_succ]; rfl
  · intro q hq hn; match q, hq, hn with
    | 0, _, _ => simp only [hgMk, hgF0, ug]; rfl
    | 1, _, hn => exact absurd rfl hn
    | 2, _, _ => rfl
    | 3, _, _ => rfl
    | 4, _, _ => rfl
    | 5, _, _ => rfl
    | 6, _, _ => simp only [hgMk, hgF6, ug]; rfl
    | 7, _, _ => rfl
    | q + 8, h, _ => exact absurd h (by omega)
theorem hgf_1_8 {B : Nat} {tr : Nat} {n : Nat} {rad : Int} {pw : Int} {sm : Int} {gi : Nat → Int} {ga : Nat → Int → Value} {r : zHp} : zGfv 3 9 8 (hg B tr n rad pw sm gi ga r) (.ref (B + 1)) = some (.ref (B + 4)) := by
  rw [g_fld (hg_at 1 (by decide))]; rfl
theorem hgf_1_9 {B : Nat} {tr : Nat} {n : Nat} {rad : Int} {pw : Int} {sm : Int} {gi : Nat → Int} {ga : Nat → Int → Value} {r : zHp} : zGfv 0 9 9 (hg B tr n rad pw sm gi ga r) (.ref (B + 1)) = some ((vi (gi 7))) := by
  rw [g_fld (hg_at 1 (by decide))]; rfl
theorem hgp_1_9 {B : Nat} {tr : Nat} {n : Nat} {rad : Int} {pw : Int} {sm : Int} {gi : Nat → Int} {ga : Nat → Int → Value} {r : zHp} {y : Int} : zPfv 0 9 9 (hg B tr n rad pw sm gi ga r) (.ref (B + 1)) (vi y) = some (hg B tr n rad pw sm (ug gi 7 y) ga r) := by
  rw [g_put (hg_at 1 (by decide)) (by simp [hgF1]) rfl]
  refine congrArg some (hg_set (k := 1) (by decide) (congrArg (fun q => some (9, q)) ?_) ?_)
  · simp only [hgF1, ug, List.set_cons_zero, List.set_cons_succ]; rfl
  · intro q hq hn; match q, hq, hn with
    | 0, _, _ => simp only [hgMk, hgF0, ug]; rfl
    | 1, _, hn => exact absurd rfl hn
    | 2, _, _ => rfl
    | 3, _, _ => rfl
    | 4, _, _ => rfl
    | 5, _, _ => rfl
    | 6, _, _ => simp only [hgMk, hgF6, ug]; rfl
    | 7, _, _ => rfl
    | q + 8, h, _ => exact absurd h (by omega)
theorem hgf_1_10 {B : Nat} {tr : Nat} {n : Nat} {rad : Int} {pw : Int} {sm : Int} {gi : Nat → Int} {ga : Nat → Int → Value} {r : zHp} : zGfv 3 9 10 (hg B tr n rad pw sm gi ga r) (.ref (B + 1)) = some (.ref (B + 5)) := by
  rw [g_fld (hg_at 1 (by decide))]; rfl
theorem hga_2 {B : Nat} {tr : Nat} {n : Nat} {rad : Int} {pw : Int} {sm : Int} {gi : Nat → Int} {ga : Nat → Int → Value} {r : zHp} {ty : Nat} {x : Int} (h1 : 0 ≤ x) (h2 : x < ((2 * n : Nat) : Int)) (h3 : 2 * n ≤ 1000000) : zAxv ty 71 (hg B tr n rad pw sm gi ga r) (.ref (B + 2)) (vi x) = zTv ty (ga 0 x) := g_ar (hg_at 2 (by decide)) h1 h2 h3
theorem hgl_2 {B : Nat} {tr : Nat} {n : Nat} {rad : Int} {pw : Int} {sm : Int} {gi : Nat → Int} {ga : Nat → Int → Value} {r : zHp} : zLenv 71 (hg B tr n rad pw sm gi ga r) (.ref (B + 2)) = some (vi ((2 * n : Nat) : Int)) := g_len (hg_at 2 (by decide))
theorem hgs_2 {B : Nat} {tr : Nat} {n : Nat} {rad : Int} {pw : Int} {sm : Int} {gi : Nat → Int} {ga : Nat → Int → Value} {r : zHp} {ty : Nat} {c : Option Nat} {x : Int} {v : Value} (h1 : 0 ≤ x) (h2 : x < ((2 * n : Nat) : Int)) (h3 : 2 * n ≤ 1000000) (hv : zTy ty v = true) (hc : zEl (hg B tr n rad pw sm gi ga r) c v = true) : zStv ty 71 c (hg B tr n rad pw sm gi ga r) (.ref (B + 2)) (vi x) v = some (hg B tr n rad pw sm gi (ua ga 0 x v) r) := by
  rw [g_set (hg_at 2 (by decide)) h1 h2 h3 hv hc]
  refine congrArg some (hg_set (k := 2) (by decide) (congrArg (fun q => some (71, q)) (ar_ext fun i _ _ => ?_)) ?_)
  · simp only [ua, up]; by_cases q : i = x <;> simp [q]
  · intro q hq hn; match q, hq, hn with
    | 0, _, _ => rfl
    | 1, _, _ => rfl
    | 2, _, hn => exact absurd rfl hn
    | 3, _, _ => exact congrArg (fun q => some (72, q)) (ar_ext fun i _ _ => by simp [ua])
    | 4, _, _ => exact congrArg (fun q => some (71, q)) (ar_ext fun i _ _ => by simp [ua])
    | 5, _, _ => exact congrArg (fun q => some (64, q)) (ar_ext fun i _ _ => by simp [ua])
    | 6, _, _ => rfl
    | 7, _, _ => exact congrArg (fun q => some (71, q)) (ar_ext fun i _ _ => by simp [ua])
    | q + 8, h, _ => exact absurd h (by omega)
theorem hga_3 {B : Nat} {tr : Nat} {n : Nat} {rad : Int} {pw : Int} {sm : Int} {gi : Nat → Int} {ga : Nat → Int → Value} {r : zHp} {ty : Nat} {x : Int} (h1 : 0 ≤ x) (h2 : x < ((n : Nat) : Int)) (h3 : n ≤ 1000000) : zAxv ty 72 (hg B tr n rad pw sm gi ga r) (.ref (B + 3)) (vi x) = zTv ty (ga 1 x) := g_ar (hg_at 3 (by decide)) h1 h2 h3
theorem hgl_3 {B : Nat} {tr : Nat} {n : Nat} {rad : Int} {pw : Int} {sm : Int} {gi : Nat → Int} {ga : Nat → Int → Value} {r : zHp} : zLenv 72 (hg B tr n rad pw sm gi ga r) (.ref (B + 3)) = some (vi ((n : Nat) : Int)) := g_len (hg_at 3 (by decide))
theorem hgs_3 {B : Nat} {tr : Nat} {n : Nat} {rad : Int} {pw : Int} {sm : Int} {gi : Nat → Int} {ga : Nat → Int → Value} {r : zHp} {ty : Nat} {c : Option Nat} {x : Int} {v : Value} (h1 : 0 ≤ x) (h2 : x < ((n : Nat) : Int)) (h3 : n ≤ 1000000) (hv : zTy ty v = true) (hc : zEl (hg B tr n rad pw sm gi ga r) c v = true) : zStv ty 72 c (hg B tr n rad pw sm gi ga r) (.ref (B + 3)) (vi x) v = some (hg B tr n rad pw sm gi (ua ga 1 x v) r) := by
  rw [g_set (hg_at 3 (by decide)) h1 h2 h3 hv hc]
  refine congrArg some (hg_set (k := 3) (by decide) (congrArg (fun q => some (72, q)) (ar_ext fun i _ _ => ?_)) ?_)
  · simp only [ua, up]; by_cases q : i = x <;> simp [q]
  · intro q hq hn; match q, hq, hn with
    | 0, _, _ => rfl
    | 1, _, _ => rfl
    | 2, _, _ => exact congrArg (fun q => some (71, q)) (ar_ext fun i _ _ => by simp [ua])
    | 3, _, hn => exact absurd rfl hn
    | 4, _, _ => exact congrArg (fun q => some (71, q)) (ar_ext fun i _ _ => by simp [ua])
    | 5, _, _ => exact congrArg (fun q => some (64, q)) (ar_ext fun i _ _ => by simp [ua])
    | 6, _, _ => rfl
    | 7, _, _ => exact congrArg (fun q => some (71, q)) (ar_ext fun i _ _ => by simp [ua])
    | q + 8, h, _ => exact absurd h (by omega)
theorem hga_4 {B : Nat} {tr : Nat} {n : Nat} {rad : Int} {pw : Int} {sm : Int} {gi : Nat → Int} {ga : Nat → Int → Value} {r : zHp} {ty : Nat} {x : Int} (h1 : 0 ≤ x) (h2 : x < ((n : Nat) : Int)) (h3 : n ≤ 1000000) : zAxv ty 71 (hg B tr n rad pw sm gi ga r) (.ref (B + 4)) (vi x) = zTv ty (ga 2 x) := g_ar (hg_at 4 (by decide)) h1 h2 h3
theorem hgl_4 {B : Nat} {tr : Nat} {n : Nat} {rad : Int} {pw : Int} {sm : Int} {gi : Nat → Int} {ga : Nat → Int → Value} {r : zHp} : zLenv 71 (hg B tr n rad pw sm gi ga r) (.ref (B + 4)) = some (vi ((n : Nat) : Int)) := g_len (hg_at 4 (by decide))
theorem hgs_4 {B : Nat} {tr : Nat} {n : Nat} {rad : Int} {pw : Int} {sm : Int} {gi : Nat → Int} {ga : Nat → Int → Value} {r : zHp} {ty : Nat} {c : Option Nat} {x : Int} {v : Value} (h1 : 0 ≤ x) (h2 : x < ((n : Nat) : Int)) (h3 : n ≤ 1000000) (hv : zTy ty v = true) (hc : zEl (hg B tr n rad pw sm gi ga r) c v = true) : zStv ty 71 c (hg B tr n rad pw sm gi ga r) (.ref (B + 4)) (vi x) v = some (hg B tr n rad pw sm gi (ua ga 2 x v) r) := by
  rw [g_set (hg_at 4 (by decide)) h1 h2 h3 hv hc]
  refine congrArg some (hg_set (k := 4) (by decide) (congrArg (fun q => some (71, q)) (ar_ext fun i _ _ => ?_)) ?_)
  · simp only [ua, up]; by_cases q : i = x <;> simp [q]
  · intro q hq hn; match q, hq, hn with
    | 0, _, _ => rfl
    | 1, _, _ => rfl
    | 2, _, _ => exact congrArg (fun q => some (71, q)) (ar_ext fun i _ _ => by simp [ua])
    | 3, _, _ => exact congrArg (fun q => some (72, q)) (ar_ext fun i _ _ => by simp [ua])
    | 4, _, hn => exact absurd rfl hn
    | 5, _, _ => exact congrArg (fun q => some (64, q)) (ar_ext fun i _ _ => by simp [ua])
    | 6, _, _ => rfl
    | 7, _, _ => exact congrArg (fun q => some (71, q)) (ar_ext fun i _ _ => by simp [ua])
    | q + 8, h, _ => exact absurd h (by omega)
theorem hga_5 {B : Nat} {tr : Nat} {n : Nat} {rad : Int} {pw : Int} {sm : Int} {gi : Nat → Int} {ga : Nat → Int → Value} {r : zHp} {ty : Nat} {x : Int} (h1 : 0 ≤ x) (h2 : x < ((0 : Nat) : Int)) (h3 : 0 ≤ 1000000) : zAxv ty 64 (hg B tr n rad pw sm gi ga r) (.ref (B + 5)) (vi x) = zTv ty (ga 4 x) := g_ar (hg_at 5 (by decide)) h1 h2 h3
theorem hgl_5 {B : Nat} {tr : Nat} {n : Nat} {rad : Int} {pw : Int} {sm : Int} {gi : Nat → Int} {ga : Nat → Int → Value} {r : zHp} : zLenv 64 (hg B tr n rad pw sm gi ga r) (.ref (B + 5)) = some (vi ((0 : Nat) : Int)) := g_len (hg_at 5 (by decide))
theorem hgs_5 {B : Nat} {tr : Nat} {n : Nat} {rad : Int} {pw : Int} {sm : Int} {gi : Nat → Int} {ga : Nat → Int → Value} {r : zHp} {ty : Nat} {c : Option Nat} {x : Int} {v : Value} (h1 : 0 ≤ x) (h2 : x < ((0 : Nat) : Int)) (h3 : 0 ≤ 1000000) (hv : zTy ty v = true) (hc : zEl (hg B tr n rad pw sm gi ga r) c v = true) : zStv ty 64 c (hg B tr n rad pw sm gi ga r) (.ref (B + 5)) (vi x) v = some (hg B tr n rad pw sm gi (ua ga 4 x v) r) := by
  rw [g_set (hg_at 5 (by decide)) h1 h2 h3 hv hc]
  refine congrArg some (hg_set (k := 5) (by decide) (congrArg (fun q => some (64, q)) (ar_ext fun i _ _ => ?_)) ?_)
  · simp only [ua, up]; by_cases q : i = x <;> simp [q]
  · intro q hq hn; match q, hq, hn with
    | 0, _, _ => rfl
    | 1, _, _ => rfl
    | 2, _, _ => exact congrArg (fun q => some (71, q)) (ar_ext fun i _ _ => by simp [ua])
    | 3, _, _ => exact congrArg (fun q => some (72, q)) (ar_ext fun i _ _ => by simp [ua])
    | 4, _, _ => exact congrArg (fun q => some (71, q)) (ar_ext fun i _ _ => by simp [ua])
    | 5, _, hn => exact absurd rfl hn
    | 6, _, _ => rfl
    | 7, _, _ => exact congrArg (fun q => some (71, q)) (ar_ext fun i _ _ => by simp [ua])
    | q + 8, h, _ => exact absurd h (by omega)
theorem hgt_6 {B : Nat} {tr : Nat} {n : Nat} {rad : Int} {pw : Int} {sm : Int} {gi : Nat → Int} {ga : Nat → Int → Value} {r : zHp} {rest : List Value} : zTgo (hg B tr n rad pw sm gi ga r) (.ref (B + 6) :: rest) 7 = some () := g_tag (hg_at 6 (by decide))
theorem hgf_6_0 {B : Nat} {tr : Nat} {n : Nat} {rad : Int} {pw : Int} {sm : Int} {gi : Nat → Int} {ga : Nat → Int → Value} {r : zHp} : zGfv 0 7 0 (hg B tr n rad pw sm gi ga r) (.ref (B + 6)) = some ((vi (gi 8))) := by
  rw [g_fld (hg_at 6 (by decide))]; rfl
theorem hgp_6_0 {B : Nat} {tr : Nat} {n : Nat} {rad : Int} {pw : Int} {sm : Int} {gi : Nat → Int} {ga : Nat → Int → Value} {r : zHp} {y : Int} : zPfv 0 7 0 (hg B tr n rad pw sm gi ga r) (.ref (B + 6)) (vi y) = some (hg B tr n rad pw sm (ug gi 8 y) ga r) := by
  rw [g_put (hg_at 6 (by decide)) (by simp [hgF6]) rfl]
  refine congrArg some (hg_set (k := 6) (by decide) (congrArg (fun q => some (7, q)) ?_) ?_)
  · simp only [hgF6, ug, List.set_cons_zero, List.set_cons_succ]; rfl
  · intro q hq hn; match q, hq, hn with
    | 0, _, _ => simp only [hgMk, hgF0, ug]; rfl
    | 1, _, _ => simp only [hgMk, hgF1, ug]; rfl
    | 2, _, _ => rfl
    | 3, _, _ => rfl
    | 4, _, _ => rfl
    | 5, _, _ => rfl
    | 6, _, hn => exact absurd rfl hn
    | 7, _, _ => rfl
    | q + 8, h, _ => exact absurd h (by omega)
theorem hgf_6_1 {B : Nat} {tr : Nat} {n : Nat} {rad : Int} {pw : Int} {sm : Int} {gi : Nat → Int} {ga : Nat → Int → Value} {r : zHp} : zGfv 0 7 1 (hg B tr n rad pw sm gi ga r) (.ref (B + 6)) = some ((vi (gi 9))) := by
  rw [g_fld (hg_at 6 (by decide))]; rfl
theorem hgp_6_1 {B : Nat} {tr : Nat} {n : Nat} {rad : Int} {pw : Int} {sm : Int} {gi : Nat → Int} {ga : Nat → Int → Value} {r : zHp} {y : Int} : zPfv 0 7 1 (hg B tr n rad pw sm gi ga r) (.ref (B + 6)) (vi y) = some (hg B tr n rad pw sm (ug gi 9 y) ga r) := by
  rw [g_put (hg_at 6 (by decide)) (by simp [hgF6]) rfl]
  refine congrArg some (hg_set (k := 6) (by decide) (congrArg (fun q => some (7, q)) ?_) ?_)
  · simp only [hgF6, ug, List.set_cons_zero, List.set_cons_succ]; rfl
  · intro q hq hn; match q, hq, hn with
    | 0, _, _ => simp only [hgMk, hgF0, ug]; rfl
    | 1, _, _ => simp only [hgMk, hgF1, ug]; rfl
    | 2, _, _ => rfl
    | 3, _, _ => rfl
    | 4, _, _ => rfl
    | 5, _, _ => rfl
    | 6, _, hn => exact absurd rfl hn
    | 7, _, _ => rfl
    | q + 8, h, _ => exact absurd h (by omega)
theorem hgf_6_2 {B : Nat} {tr : Nat} {n : Nat} {rad : Int} {pw : Int} {sm : Int} {gi : Nat → Int} {ga : Nat → Int → Value} {r : zHp} : zGfv 0 7 2 (hg B tr n rad pw sm gi ga r) (.ref (B + 6)) = some ((vi (gi 10))) := by
  rw [g_fld (hg_at 6 (by decide))]; rfl
theorem hgp_6_2 {B : Nat} {tr : Nat} {n : Nat} {rad : Int} {pw : Int} {sm : Int} {gi : Nat → Int} {ga : Nat → Int → Value} {r : zHp} {y : Int} : zPfv 0 7 2 (hg B tr n rad pw sm gi ga r) (.ref (B + 6)) (vi y) = some (hg B tr n rad pw sm (ug gi 10 y) ga r) := by
  rw [g_put (hg_at 6 (by decide)) (by simp [hgF6]) rfl]
  refine congrArg some (hg_set (k := 6) (by decide) (congrArg (fun q => some (7, q)) ?_) ?_)
  · simp only [hgF6, ug, List.set_cons_zero, List.set_cons_succ]; rfl
  · intro q hq hn; match q, hq, hn with
    | 0, _, _ => simp only [hgMk, hgF0, ug]; rfl
    | 1, _, _ => simp only [hgMk, hgF1, ug]; rfl
    | 2, _, _ => rfl
    | 3, _, _ => rfl
    | 4, _, _ => rfl
    | 5, _, _ => rfl
    | 6, _, hn => exact absurd rfl hn
    | 7, _, _ => rfl
    | q + 8, h, _ => exact absurd h (by omega)
theorem hga_7 {B : Nat} {tr : Nat} {n : Nat} {rad : Int} {pw : Int} {sm : Int} {gi : Nat → Int} {ga : Nat → Int → Value} {r : zHp} {ty : Nat} {x : Int} (h1 : 0 ≤ x) (h2 : x < ((n : Nat) : Int)) (h3 : n ≤ 1000000) : zAxv ty 71 (hg B tr n rad pw sm gi ga r) (.ref (B + 7)) (vi x) = zTv ty (ga 3 x) := g_ar (hg_at 7 (by decide)) h1 h2 h3
theorem hgl_7 {B : Nat} {tr : Nat} {n : Nat} {rad : Int} {pw : Int} {sm : Int} {gi : Nat → Int} {ga : Nat → Int → Value} {r : zHp} : zLenv 71 (hg B tr n rad pw sm gi ga r) (.ref (B + 7)) = some (vi ((n : Nat) : Int)) := g_len (hg_at 7 (by decide))
theorem hgs_7 {B : Nat} {tr : Nat} {n : Nat} {rad : Int} {pw : Int} {sm : Int} {gi : Nat → Int} {ga : Nat → Int → Value} {r : zHp} {ty : Nat} {c : Option Nat} {x : Int} {v : Value} (h1 : 0 ≤ x) (h2 : x < ((n : Nat) : Int)) (h3 : n ≤ 1000000) (hv : zTy ty v = true) (hc : zEl (hg B tr n rad pw sm gi ga r) c v = true) : zStv ty 71 c (hg B tr n rad pw sm gi ga r) (.ref (B + 7)) (vi x) v = some (hg B tr n rad pw sm gi (ua ga 3 x v) r) := by
  rw [g_set (hg_at 7 (by decide)) h1 h2 h3 hv hc]
  refine congrArg some (hg_set (k := 7) (by decide) (congrArg (fun q => some (71, q)) (ar_ext fun i _ _ => ?_)) ?_)
  · simp only [ua, up]; by_cases q : i = x <;> simp [q]
  · intro q hq hn; match q, hq, hn with
    | 0, _, _ => rfl
    | 1, _, _ => rfl
    | 2, _, _ => exact congrArg (fun q => some (71, q)) (ar_ext fun i _ _ => by simp [ua])
    | 3, _, _ => exact congrArg (fun q => some (72, q)) (ar_ext fun i _ _ => by simp [ua])
    | 4, _, _ => exact congrArg (fun q => some (71, q)) (ar_ext fun i _ _ => by simp [ua])
    | 5, _, _ => exact congrArg (fun q => some (64, q)) (ar_ext fun i _ _ => by simp [ua])
    | 6, _, _ => rfl
    | 7, _, hn => exact absurd rfl hn
    | q + 8, h, _ => exact absurd h (by omega)
