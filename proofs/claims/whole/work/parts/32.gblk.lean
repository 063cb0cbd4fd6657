/-! THE GATHERER AND WHAT IT HOLDS, at B .. B + 7 -/
def bgF0 (B : Nat) (tr : Nat) (n : Nat) (rad : Int) (pw : Int) (sm : Int) (gi : Nat → Int) : List Value := [.ref tr, .ref (B + 1), .ref (B + 6), .ref (B + 7), vi (gi 0), vi (gi 1), vi (gi 2), vl (gi 3), vl (gi 4)]
def bgF1 (B : Nat) (tr : Nat) (n : Nat) (rad : Int) (pw : Int) (sm : Int) (gi : Nat → Int) : List Value := [vi rad, vi pw, vi sm, vi (n : Int), .ref (B + 2), vi (gi 5), .ref (B + 3), vi (gi 6), .ref (B + 4), vi (gi 7), .ref (B + 5)]
def bgF6 (B : Nat) (tr : Nat) (n : Nat) (rad : Int) (pw : Int) (sm : Int) (gi : Nat → Int) : List Value := [vi (gi 8), vi (gi 9), vi (gi 10)]
def bgMk (B : Nat) (tr : Nat) (n : Nat) (rad : Int) (pw : Int) (sm : Int) (gi : Nat → Int) (ga : Nat → Int → Value) : Nat → Option (Nat × List Value)
  | 0 => some (3, bgF0 B tr n rad pw sm gi)
  | 1 => some (9, bgF1 B tr n rad pw sm gi)
  | 2 => some (71, ar (2 * n) (ga 0))
  | 3 => some (72, ar (n) (ga 1))
  | 4 => some (71, ar (n) (ga 2))
  | 5 => some (64, ar (0) (ga 4))
  | 6 => some (7, bgF6 B tr n rad pw sm gi)
  | 7 => some (71, ar (n) (ga 3))
  | _ => none
def bg (B : Nat) (tr : Nat) (n : Nat) (rad : Int) (pw : Int) (sm : Int) (gi : Nat → Int) (ga : Nat → Int → Value) (r : zHp) : zHp := (fun b => if B ≤ b ∧ b < B + 8 then bgMk B tr n rad pw sm gi ga (b - B) else r.1 b, r.2)
theorem bg_2 {B : Nat} {tr : Nat} {n : Nat} {rad : Int} {pw : Int} {sm : Int} {gi : Nat → Int} {ga : Nat → Int → Value} {r : zHp} : (bg B tr n rad pw sm gi ga r).2 = r.2 := rfl
theorem bg_at {B : Nat} {tr : Nat} {n : Nat} {rad : Int} {pw : Int} {sm : Int} {gi : Nat → Int} {ga : Nat → Int → Value} {r : zHp} (k : Nat) (h : k < 8) : (bg B tr n rad pw sm gi ga r).1 (B + k) = bgMk B tr n rad pw sm gi ga k := by
  show (if B ≤ B + k ∧ B + k < B + 8 then bgMk B tr n rad pw sm gi ga (B + k - B) else r.1 (B + k)) = _
  rw [if_pos ⟨by omega, by omega⟩, Nat.add_sub_cancel_left]
theorem bg_out {B : Nat} {tr : Nat} {n : Nat} {rad : Int} {pw : Int} {sm : Int} {gi : Nat → Int} {ga : Nat → Int → Value} {r : zHp} {b : Nat} (h : b < B ∨ B + 8 ≤ b) : (bg B tr n rad pw sm gi ga r).1 b = r.1 b := if_neg (by omega)
theorem bg_ext {B : Nat} {tr : Nat} {n : Nat} {rad : Int} {pw : Int} {sm : Int} {gi2 : Nat → Int} {ga2 : Nat → Int → Value} {r : zHp} {h : zHp} (h2 : h.2 = r.2) (ho : ∀ b, (b < B ∨ B + 8 ≤ b) → h.1 b = r.1 b) (hi : ∀ k, k < 8 → h.1 (B + k) = bgMk B tr n rad pw sm gi2 ga2 k) : h = bg B tr n rad pw sm gi2 ga2 r := by
  refine Prod.ext (funext fun b => ?_) h2
  by_cases c : B ≤ b ∧ b < B + 8
  · obtain ⟨j, rfl⟩ : ∃ j, b = B + j := ⟨b - B, by omega⟩
    rw [hi j (by omega), bg_at j (by omega)]
  · rw [ho b (by omega), bg_out (by omega)]
theorem bg_set {B k : Nat} {tr : Nat} {n : Nat} {rad : Int} {pw : Int} {sm : Int} {gi gi2 : Nat → Int} {ga ga2 : Nat → Int → Value} {r : zHp} {o : Nat × List Value} (hk : k < 8) (h1 : bgMk B tr n rad pw sm gi2 ga2 k = some o) (h2 : ∀ j, j < 8 → j ≠ k → bgMk B tr n rad pw sm gi2 ga2 j = bgMk B tr n rad pw sm gi ga j) : zSet (bg B tr n rad pw sm gi ga r) (B + k) o = bg B tr n rad pw sm gi2 ga2 r := by
  refine bg_ext rfl (fun b hb => ?_) (fun j hj => ?_)
  · show (if b = B + k then some o else (bg B tr n rad pw sm gi ga r).1 b) = r.1 b
    rw [if_neg (by omega), bg_out hb]
  · show (if B + j = B + k then some o else (bg B tr n rad pw sm gi ga r).1 (B + j)) = _
    by_cases e : j = k
    · rw [if_pos (by omega), e, h1]
    · rw [if_neg (by omega), bg_at j hj, h2 j hj e]
theorem bg_al {B : Nat} {tr : Nat} {n : Nat} {rad : Int} {pw : Int} {sm : Int} {gi : Nat → Int} {ga : Nat → Int → Value} {r : zHp} {nn : Nat} {o : Nat × List Value} (h : B + 8 ≤ r.2.1) : zAl (bg B tr n rad pw sm gi ga r) nn o = bg B tr n rad pw sm gi ga (zAl r nn o) := by
  refine Prod.ext (funext fun b => ?_) rfl
  show (if b = r.2.1 then some o else (bg B tr n rad pw sm gi ga r).1 b) = (if B ≤ b ∧ b < B + 8 then bgMk B tr n rad pw sm gi ga (b - B) else (if b = r.2.1 then some o else r.1 b))
  by_cases c : B ≤ b ∧ b < B + 8
  · rw [if_pos c, if_neg (by omega)]; exact if_pos c
  · rw [if_neg c]; split
    · rfl
    · exact if_neg c
theorem bg_so {B : Nat} {tr : Nat} {n : Nat} {rad : Int} {pw : Int} {sm : Int} {gi : Nat → Int} {ga : Nat → Int → Value} {r : zHp} {a : Nat} {o : Nat × List Value} (h : a < B ∨ B + 8 ≤ a) : zSet (bg B tr n rad pw sm gi ga r) a o = bg B tr n rad pw sm gi ga (zSet r a o) := by
  refine Prod.ext (funext fun b => ?_) rfl
  show (if b = a then some o else (bg B tr n rad pw sm gi ga r).1 b) = (if B ≤ b ∧ b < B + 8 then bgMk B tr n rad pw sm gi ga (b - B) else (if b = a then some o else r.1 b))
  by_cases c : B ≤ b ∧ b < B + 8
  · rw [if_pos c, if_neg (by omega)]; exact if_pos c
  · rw [if_neg c]; split
    · rfl
    · exact if_neg c
theorem bg_of {B : Nat} {tr : Nat} {n : Nat} {rad : Int} {pw : Int} {sm : Int} {gi : Nat → Int} {ga : Nat → Int → Value} {r : zHp} {ty ci k a : Nat} {vs : List Value} (e : r.1 a = some (ci, vs)) (h : a < B ∨ B + 8 ≤ a) : zGfv ty ci k (bg B tr n rad pw sm gi ga r) (.ref a) = (vs[k]?).bind (zTv ty) := g_fld (by rw [bg_out h, e])
theorem bg_op {B : Nat} {tr : Nat} {n : Nat} {rad : Int} {pw : Int} {sm : Int} {gi : Nat → Int} {ga : Nat → Int → Value} {r : zHp} {ty ci k a : Nat} {vs : List Value} {v : Value} (e : r.1 a = some (ci, vs)) (h : a < B ∨ B + 8 ≤ a) (hk : zIn k vs = true) (hv : zTy ty v = true) : zPfv ty ci k (bg B tr n rad pw sm gi ga r) (.ref a) v = some (bg B tr n rad pw sm gi ga (zSet r a (ci, vs.set k v))) := by
  rw [g_put (by rw [bg_out h, e]) (zIn_lt hk) hv, bg_so h]
theorem bg_ot {B : Nat} {tr : Nat} {n : Nat} {rad : Int} {pw : Int} {sm : Int} {gi : Nat → Int} {ga : Nat → Int → Value} {r : zHp} {ci a : Nat} {vs rest : List Value} (e : r.1 a = some (ci, vs)) (h : a < B ∨ B + 8 ≤ a) : zTgo (bg B tr n rad pw sm gi ga r) (.ref a :: rest) ci = some () := g_tag (by rw [bg_out h, e])
theorem bg_oa {B : Nat} {tr : Nat} {n : Nat} {rad : Int} {pw : Int} {sm : Int} {gi : Nat → Int} {ga : Nat → Int → Value} {r : zHp} {ty t nn a : Nat} {f : Int → Value} {x : Int} (e : r.1 a = some (t, ar nn f)) (h : a < B ∨ B + 8 ≤ a) (h1 : 0 ≤ x) (h2 : x < nn) (h3 : nn ≤ 1000000) : zAxv ty t (bg B tr n rad pw sm gi ga r) (.ref a) (vi x) = zTv ty (f x) := g_ar (by rw [bg_out h, e]) h1 h2 h3
theorem bg_ol {B : Nat} {tr : Nat} {n : Nat} {rad : Int} {pw : Int} {sm : Int} {gi : Nat → Int} {ga : Nat → Int → Value} {r : zHp} {t nn a : Nat} {f : Int → Value} (e : r.1 a = some (t, ar nn f)) (h : a < B ∨ B + 8 ≤ a) : zLenv t (bg B tr n rad pw sm gi ga r) (.ref a) = some (vi (nn : Int)) := g_len (by rw [bg_out h, e])
theorem bg_oe {B : Nat} {tr : Nat} {n : Nat} {rad : Int} {pw : Int} {sm : Int} {gi : Nat → Int} {ga : Nat → Int → Value} {r : zHp} {ci a : Nat} {vs : List Value} (e : r.1 a = some (ci, vs)) (h : a < B ∨ B + 8 ≤ a) : zEl (bg B tr n rad pw sm gi ga r) (some ci) (.ref a) = true := by
  simp only [zEl, bg_out h, e, beq_self_eq_true]
theorem bg_m {B : Nat} {tr : Nat} {n : Nat} {rad : Int} {pw : Int} {sm : Int} {gi : Nat → Int} {ga : Nat → Int → Value} {r : zHp} : (bg B tr n rad pw sm gi ga r).1 B = some (3, bgF0 B tr n rad pw sm gi) := bg_at 0 (by decide)
theorem bgt_0 {B : Nat} {tr : Nat} {n : Nat} {rad : Int} {pw : Int} {sm : Int} {gi : Nat → Int} {ga : Nat → Int → Value} {r : zHp} {rest : List Value} : zTgo (bg B tr n rad pw sm gi ga r) (.ref B :: rest) 3 = some () := g_tag bg_m
theorem bgf_0_0 {B : Nat} {tr : Nat} {n : Nat} {rad : Int} {pw : Int} {sm : Int} {gi : Nat → Int} {ga : Nat → Int → Value} {r : zHp} : zGfv 3 3 0 (bg B tr n rad pw sm gi ga r) (.ref B) = some (.ref tr) := by
  rw [g_fld bg_m]; rfl
theorem bgf_0_1 {B : Nat} {tr : Nat} {n : Nat} {rad : Int} {pw : Int} {sm : Int} {gi : Nat → Int} {ga : Nat → Int → Value} {r : zHp} : zGfv 3 3 1 (bg B tr n rad pw sm gi ga r) (.ref B) = some (.ref (B + 1)) := by
  rw [g_fld bg_m]; rfl
theorem bgf_0_2 {B : Nat} {tr : Nat} {n : Nat} {rad : Int} {pw : Int} {sm : Int} {gi : Nat → Int} {ga : Nat → Int → Value} {r : zHp} : zGfv 3 3 2 (bg B tr n rad pw sm gi ga r) (.ref B) = some (.ref (B + 6)) := by
  rw [g_fld bg_m]; rfl
theorem bgf_0_3 {B : Nat} {tr : Nat} {n : Nat} {rad : Int} {pw : Int} {sm : Int} {gi : Nat → Int} {ga : Nat → Int → Value} {r : zHp} : zGfv 3 3 3 (bg B tr n rad pw sm gi ga r) (.ref B) = some (.ref (B + 7)) := by
  rw [g_fld bg_m]; rfl
theorem bgf_0_4 {B : Nat} {tr : Nat} {n : Nat} {rad : Int} {pw : Int} {sm : Int} {gi : Nat → Int} {ga : Nat → Int → Value} {r : zHp} : zGfv 0 3 4 (bg B tr n rad pw sm gi ga r) (.ref B) = some ((vi (gi 0))) := by
  rw [g_fld bg_m]; rfl
theorem bgp_0_4 {B : Nat} {tr : Nat} {n : Nat} {rad : Int} {pw : Int} {sm : Int} {gi : Nat → Int} {ga : Nat → Int → Value} {r : zHp} {y : Int} : zPfv 0 3 4 (bg B tr n rad pw sm gi ga r) (.ref B) (vi y) = some (bg B tr n rad pw sm (ug gi 0 y) ga r) := by
  rw [g_put bg_m (by simp [bgF0]) rfl]
  refine congrArg some (bg_set (k := 0) (by decide) (congrArg (fun q => some (3, q)) ?_) ?_)
  · simp only [bgF0, ug, List.set_cons_zero, List.set_cons_succ]; rfl
  · intro q hq hn; match q, hq, hn with
    | 0, _, hn => exact absurd rfl hn
    | 1, _, _ => simp only [bgMk, bgF1, ug]; rfl
    | 2, _, _ => rfl
    | 3, _, _ => rfl
    | 4, _, _ => rfl
    | 5, _, _ => rfl
    | 6, _, _ => simp only [bgMk, bgF6, ug]; rfl
    | 7, _, _ => rfl
    | q + 8, h, _ => exact absurd h (by omega)
theorem bgf_0_5 {B : Nat} {tr : Nat} {n : Nat} {rad : Int} {pw : Int} {sm : Int} {gi : Nat → Int} {ga : Nat → Int → Value} {r : zHp} : zGfv 0 3 5 (bg B tr n rad pw sm gi ga r) (.ref B) = some ((vi (gi 1))) := by
  rw [g_fld bg_m]; rfl
theorem bgp_0_5 {B : Nat} {tr : Nat} {n : Nat} {rad : Int} {pw : Int} {sm : Int} {gi : Nat → Int} {ga : Nat → Int → Value} {r : zHp} {y : Int} : zPfv 0 3 5 (bg B tr n rad pw sm gi ga r) (.ref B) (vi y) = some (bg B tr n rad pw sm (ug gi 1 y) ga r) := by
  rw [g_put bg_m (by simp [bgF0]) rfl]
  refine congrArg some (bg_set (k := 0) (by decide) (congrArg (fun q => some (3, q)) ?_) ?_)
  · simp only [bgF0, ug, List.set_cons_zero, List.set_cons_succ]; rfl
  · intro q hq hn; match q, hq, hn with
    | 0, _, hn => exact absurd rfl hn
    | 1, _, _ => simp only [bgMk, bgF1, ug]; rfl
    | 2, _, _ => rfl
    | 3, _, _ => rfl
    | 4, _, _ => rfl
    | 5, _, _ => rfl
    | 6, _, _ => simp only [bgMk, bgF6, ug]; rfl
    | 7, _, _ => rfl
    | q + 8, h, _ => exact absurd h (by omega)
theorem bgf_0_6 {B : Nat} {tr : Nat} {n : Nat} {rad : Int} {pw : Int} {sm : Int} {gi : Nat → Int} {ga : Nat → Int → Value} {r : zHp} : zGfv 0 3 6 (bg B tr n rad pw sm gi ga r) (.ref B) = some ((vi (gi 2))) := by
  rw [g_fld bg_m]; rfl
theorem bgp_0_6 {B : Nat} {tr : Nat} {n : Nat} {rad : Int} {pw : Int} {sm : Int} {gi : Nat → Int} {ga : Nat → Int → Value} {r : zHp} {y : Int} : zPfv 0 3 6 (bg B tr n rad pw sm gi ga r) (.ref B) (vi y) = some (bg B tr n rad pw sm (ug gi 2 y) ga r) := by
  rw [g_put bg_m (by simp [bgF0]) rfl]
  refine congrArg some (bg_set (k := 0) (by decide) (congrArg (fun q => some (3, q)) ?_) ?_)
  · simp only [bgF0, ug, List.set_cons_zero, List.set_cons_succ]; rfl
  · intro q hq hn; match q, hq, hn with
    | 0, _, hn => exact absurd rfl hn
    | 1, _, _ => simp only [bgMk, bgF1, ug]; rfl
    | 2, _, _ => rfl
    | 3, _, _ => rfl
    | 4, _, _ => rfl
    | 5, _, _ => rfl
    | 6, _, _ => simp only [bgMk, bgF6, ug]; rfl
    | 7, _, _ => rfl
    | q + 8, h, _ => exact absurd h (by omega)
theorem bgf_0_7 {B : Nat} {tr : Nat} {n : Nat} {rad : Int} {pw : Int} {sm : Int} {gi : Nat → Int} {ga : Nat → Int → Value} {r : zHp} : zGfv 1 3 7 (bg B tr n rad pw sm gi ga r) (.ref B) = some ((vl (gi 3))) := by
  rw [g_fld bg_m]; rfl
theorem bgp_0_7 {B : Nat} {tr : Nat} {n : Nat} {rad : Int} {pw : Int} {sm : Int} {gi : Nat → Int} {ga : Nat → Int → Value} {r : zHp} {y : Int} : zPfv 1 3 7 (bg B tr n rad pw sm gi ga r) (.ref B) (vl y) = some (bg B tr n rad pw sm (ug gi 3 y) ga r) := by
  rw [g_put bg_m (by simp [bgF0]) rfl]
  refine congrArg some (bg_set (k := 0) (by decide) (congrArg (fun q => some (3, q)) ?_) ?_)
  · simp only [bgF0, ug, List.set_cons_zero, List.set_cons_succ]; rfl
  · intro q hq hn; match q, hq, hn with
    | 0, _, hn => exact absurd rfl hn
    | 1, _, _ => simp only [bgMk, bgF1, ug]; rfl
    | 2, _, _ => rfl
    | 3, _, _ => rfl
    | 4, _, _ => rfl
    | 5, _, _ => rfl
    | 6, _, _ => simp only [bgMk, bgF6, ug]; rfl
    | 7, _, _ => rfl
    | q + 8, h, _ => exact absurd h (by omega)
theorem bgf_0_8 {B : Nat} {tr : Nat} {n : Nat} {rad : Int} {pw : Int} {sm : Int} {gi : Nat → Int} {ga : Nat → Int → Value} {r : zHp} : zGfv 1 3 8 (bg B tr n rad pw sm gi ga r) (.ref B) = some ((vl (gi 4))) := by
  rw [g_fld bg_m]; rfl
theorem bgp_0_8 {B : Nat} {tr : Nat} {n : Nat} {rad : Int} {pw : Int} {sm : Int} {gi : Nat → Int} {ga : Nat → Int → Value} {r : zHp} {y : Int} : zPfv 1 3 8 (bg B tr n rad pw sm gi ga r) (.ref B) (vl y) = some (bg B tr n rad pw sm (ug gi 4 y) ga r) := by
  rw [g_put bg_m (by simp [bgF0]) rfl]
  refine congrArg some (bg_set (k := 0) (by decide) (congrArg (fun q => some (3, q)) ?_) ?_)
  · simp only [bgF0, ug, List.set_cons_zero, List.set_cons_succ]; rfl
  · intro q hq hn; match q, hq, hn with
    | 0, _, hn => exact absurd rfl hn
    | 1, _, _ => simp only [bgMk, bgF1, ug]; rfl
    | 2, _, _ => rfl
    | 3, _, _ => rfl
    | 4, _, _ => rfl
    | 5, _, _ => rfl
    | 6, _, _ => simp only [bgMk, bgF6, ug]; rfl
    | 7, _, _ => rfl
    | q + 8, h, _ => exact absurd h (by omega)
theorem bgt_1 {B : Nat} {tr : Nat} {n : Nat} {rad : Int} {pw : Int} {sm : Int} {gi : Nat → Int} {ga : Nat → Int → Value} {r : zHp} {rest : List Value} : zTgo (bg B tr n rad pw sm gi ga r) (.ref (B + 1) :: rest) 9 = some () := g_tag (bg_at 1 (by decide))
theorem bgf_1_0 {B : Nat} {tr : Nat} {n : Nat} {rad : Int} {pw : Int} {sm : Int} {gi : Nat → Int} {ga : Nat → Int → Value} {r : zHp} : zGfv 0 9 0 (bg B tr n rad pw sm gi ga r) (.ref (B + 1)) = some (vi rad) := by
  rw [g_fld (bg_at 1 (by decide))]; rfl
theorem bgf_1_1 {B : Nat} {tr : Nat} {n : Nat} {rad : Int} {pw : Int} {sm : Int} {gi : Nat → Int} {ga : Nat → Int → Value} {r : zHp} : zGfv 0 9 1 (bg B tr n rad pw sm gi ga r) (.ref (B + 1)) = some (vi pw) := by
  rw [g_fld (bg_at 1 (by decide))]; rfl
theorem bgf_1_2 {B : Nat} {tr : Nat} {n : Nat} {rad : Int} {pw : Int} {sm : Int} {gi : Nat → Int} {ga : Nat → Int → Value} {r : zHp} : zGfv 0 9 2 (bg B tr n rad pw sm gi ga r) (.ref (B + 1)) = some (vi sm) := by
  rw [g_fld (bg_at 1 (by decide))]; rfl
theorem bgf_1_3 {B : Nat} {tr : Nat} {n : Nat} {rad : Int} {pw : Int} {sm : Int} {gi : Nat → Int} {ga : Nat → Int → Value} {r : zHp} : zGfv 0 9 3 (bg B tr n rad pw sm gi ga r) (.ref (B + 1)) = some (vi (n : Int)) := by
  rw [g_fld (bg_at 1 (by decide))]; rfl
theorem bgf_1_4 {B : Nat} {tr : Nat} {n : Nat} {rad : Int} {pw : Int} {sm : Int} {gi : Nat → Int} {ga : Nat → Int → Value} {r : zHp} : zGfv 3 9 4 (bg B tr n rad pw sm gi ga r) (.ref (B + 1)) = some (.ref (B + 2)) := by
  rw [g_fld (bg_at 1 (by decide))]; rfl
theorem bgf_1_5 {B : Nat} {tr : Nat} {n : Nat} {rad : Int} {pw : Int} {sm : Int} {gi : Nat → Int} {ga : Nat → Int → Value} {r : zHp} : zGfv 0 9 5 (bg B tr n rad pw sm gi ga r) (.ref (B + 1)) = some ((vi (gi 5))) := by
  rw [g_fld (bg_at 1 (by decide))]; rfl
theorem bgp_1_5 {B : Nat} {tr : Nat} {n : Nat} {rad : Int} {pw : Int} {sm : Int} {gi : Nat → Int} {ga : Nat → Int → Value} {r : zHp} {y : Int} : zPfv 0 9 5 (bg B tr n rad pw sm gi ga r) (.ref (B + 1)) (vi y) = some (bg B tr n rad pw sm (ug gi 5 y) ga r) := by
  rw [g_put (bg_at 1 (by decide)) (by simp [bgF1]) rfl]
  refine congrArg some (bg_set (k := 1) (by decide) (congrArg (fun q => some (9, q)) ?_) ?_)
  · simp only [bgF1, ug, List.set_cons_zero, List.set_cons_succ]; rfl
  · intro q hq hn; match q, hq, hn with
    | 0, _, _ => simp only [bgMk, bgF0, ug]; rfl
    | 1, _, hn => exact absurd rfl hn
    | 2, _, _ => rfl
    | 3, _, _ => rfl
    | 4, _, _ => rfl
    | 5, _, _ => rfl
    | 6, _, _ => simp only [bgMk, bgF6, ug]; rfl
    | 7, _, _ => rfl
    | q + 8, h, _ => exact absurd h (by omega)
theorem bgf_1_6 {B : Nat} {tr : Nat} {n : Nat} {rad : Int} {pw : Int} {sm : Int} {gi : Nat → Int} {ga : Nat → Int → Value} {r : zHp} : zGfv 3 9 6 (bg B tr n rad pw sm gi ga r) (.ref (B + 1)) = some (.ref (B + 3)) := by
  rw [g_fld (bg_at 1 (by decide))]; rfl
theorem bgf_1_7 {B : Nat} {tr : Nat} {n : Nat} {rad : Int} {pw : Int} {sm : Int} {gi : Nat → Int} {ga : Nat → Int → Value} {r : zHp} : zGfv 0 9 7 (bg B tr n rad pw sm gi ga r) (.ref (B + 1)) = some ((vi (gi 6))) := by
  rw [g_fld (bg_at 1 (by decide))]; rfl
theorem bgp_1_7 {B : Nat} {tr : Nat} {n : Nat} {rad : Int} {pw : Int} {sm : Int} {gi : Nat → Int} {ga : Nat → Int → Value} {r : zHp} {y : Int} : zPfv 0 9 7 (bg B tr n rad pw sm gi ga r) (.ref (B + 1)) (vi y) = some (bg B tr n rad pw sm (ug gi 6 y) ga r) := by
  rw [g_put (bg_at 1 (by decide)) (by simp [bgF1]) rfl]
  refine congrArg some (bg_set (k := 1) (by decide) (congrArg (fun q => some (9, q)) ?_) ?_)
  · simp only [bgF1, ug, List.set_cons_zero, List.set_cons_succ]; rfl
  · intro q hq hn; match q, hq, hn with
    | 0, _, _ => simp only [bgMk, bgF0, ug]; rfl
    | 1, _, hn => exact absurd rfl hn
    | 2, _, _ => rfl
    | 3, _, _ => rfl
    | 4, _, _ => rfl
    | 5, _, _ => rfl
    | 6, _, _ => simp only [bgMk, bgF6, ug]; rfl
    | 7, _, _ => rfl
    | q + 8, h, _ => exact absurd h (by omega)
theorem bgf_1_8 {B : Nat} {tr : Nat} {n : Nat} {rad : Int} {pw : Int} {sm : Int} {gi : Nat → Int} {ga : Nat → Int → Value} {r : zHp} : zGfv 3 9 8 (bg B tr n rad pw sm gi ga r) (.ref (B + 1)) = some (.ref (B + 4)) := by
  rw [g_fld (bg_at 1 (by decide))]; rfl
theorem bgf_1_9 {B : Nat} {tr : Nat} {n : Nat} {rad : Int} {pw : Int} {sm : Int} {gi : Nat → Int} {ga : Nat → Int → Value} {r : zHp} : zGfv 0 9 9 (bg B tr n rad pw sm gi ga r) (.ref (B + 1)) = some ((vi (gi 7))) := by
  rw [g_fld (bg_at 1 (by decide))]; rfl
theorem bgp_1_9 {B : Nat} {tr : Nat} {n : Nat} {rad : Int} {pw : Int} {sm : Int} {gi : Nat → Int} {ga : Nat → Int → Value} {r : zHp} {y : Int} : zPfv 0 9 9 (bg B tr n rad pw sm gi ga r) (.ref (B + 1)) (vi y) = some (bg B tr n rad pw sm (ug gi 7 y) ga r) := by
  rw [g_put (bg_at 1 (by decide)) (by simp [bgF1]) rfl]
  refine congrArg some (bg_set (k := 1) (by decide) (congrArg (fun q => some (9, q)) ?_) ?_)
  · simp only [bgF1, ug, List.set_cons_zero, List.set_cons_succ]; rfl
  · intro q hq hn; match q, hq, hn with
    | 0, _, _ => simp only [bgMk, bgF0, ug]; rfl
    | 1, _, hn => exact absurd rfl hn
    | 2, _, _ => rfl
    | 3, _, _ => rfl
    | 4, _, _ => rfl
    | 5, _, _ => rfl
    | 6, _, _ => simp only [bgMk, bgF6, ug]; rfl
    | 7, _, _ => rfl
    | q + 8, h, _ => exact absurd h (by omega)
theorem bgf_1_10 {B : Nat} {tr : Nat} {n : Nat} {rad : Int} {pw : Int} {sm : Int} {gi : Nat → Int} {ga : Nat → Int → Value} {r : zHp} : zGfv 3 9 10 (bg B tr n rad pw sm gi ga r) (.ref (B + 1)) = some (.ref (B + 5)) := by
  rw [g_fld (bg_at 1 (by decide))]; rfl
theorem bga_2 {B : Nat} {tr : Nat} {n : Nat} {rad : Int} {pw : Int} {sm : Int} {gi : Nat → Int} {ga : Nat → Int → Value} {r : zHp} {ty : Nat} {x : Int} (h1 : 0 ≤ x) (h2 : x < ((2 * n : Nat) : Int)) (h3 : 2 * n ≤ 1000000) : zAxv ty 71 (bg B tr n rad pw sm gi ga r) (.ref (B + 2)) (vi x) = zTv ty (ga 0 x) := g_ar (bg_at 2 (by decide)) h1 h2 h3
theorem bgl_2 {B : Nat} {tr : Nat} {n : Nat} {rad : Int} {pw : Int} {sm : Int} {gi : Nat → Int} {ga : Nat → Int → Value} {r : zHp} : zLenv 71 (bg B tr n rad pw sm gi ga r) (.ref (B + 2)) = some (vi ((2 * n : Nat) : Int)) := g_len (bg_at 2 (by decide))
theorem bgs_2 {B : Nat} {tr : Nat} {n : Nat} {rad : Int} {pw : Int} {sm : Int} {gi : Nat → Int} {ga : Nat → Int → Value} {r : zHp} {ty : Nat} {c : Option Nat} {x : Int} {v : Value} (h1 : 0 ≤ x) (h2 : x < ((2 * n : Nat) : Int)) (h3 : 2 * n ≤ 1000000) (hv : zTy ty v = true) (hc : zEl (bg B tr n rad pw sm gi ga r) c v = true) : zStv ty 71 c (bg B tr n rad pw sm gi ga r) (.ref (B + 2)) (vi x) v = some (bg B tr n rad pw sm gi (ua ga 0 x v) r) := by
  rw [g_set (bg_at 2 (by decide)) h1 h2 h3 hv hc]
  refine congrArg some (bg_set (k := 2) (by decide) (congrArg (fun q => some (71, q)) (ar_ext fun i _ _ => ?_)) ?_)
  · simp only [ua, up]; by_cases q : i = x <;> simp [q]
  · intro q hq hn; match q, hq, hn with
    | 0, _, _ => rfl
    | 1, _, _ => rfl
    | 2, _, hn => exact absurd rfl hn
    | 3, _, _ => exact congrArg (fun q => some (72, q)) (ar_ext fun i _ _ => by simp [ua])
    | 4, _, _ => exact congrArg (fun q => some (71, q)) (ar_ext fun i _ _ => by simp [ua])
    | 5, _, _ => exact congrArg (fun q => some (64, q)) (ar_ext fun i _ _ => by simp [ua])
    | 6, _, _ => rfl
    | 7, _, _ => exact congrArg (fun q => some (71, q)) (ar_ext fun i _ _ => by simp [ua])
    | q + 8, h, _ => exact absurd h (by omega)
theorem bga_3 {B : Nat} {tr : Nat} {n : Nat} {rad : Int} {pw : Int} {sm : Int} {gi : Nat → Int} {ga : Nat → Int → Value} {r : zHp} {ty : Nat} {x : Int} (h1 : 0 ≤ x) (h2 : x < ((n : Nat) : Int)) (h3 : n ≤ 1000000) : zAxv ty 72 (bg B tr n rad pw sm gi ga r) (.ref (B + 3)) (vi x) = zTv ty (ga 1 x) := g_ar (bg_at 3 (by decide)) h1 h2 h3
theorem bgl_3 {B : Nat} {tr : Nat} {n : Nat} {rad : Int} {pw : Int} {sm : Int} {gi : Nat → Int} {ga : Nat → Int → Value} {r : zHp} : zLenv 72 (bg B tr n rad pw sm gi ga r) (.ref (B + 3)) = some (vi ((n : Nat) : Int)) := g_len (bg_at 3 (by decide))
theorem bgs_3 {B : Nat} {tr : Nat} {n : Nat} {rad : Int} {pw : Int} {sm : Int} {gi : Nat → Int} {ga : Nat → Int → Value} {r : zHp} {ty : Nat} {c : Option Nat} {x : Int} {v : Value} (h1 : 0 ≤ x) (h2 : x < ((n : Nat) : Int)) (h3 : n ≤ 1000000) (hv : zTy ty v = true) (hc : zEl (bg B tr n rad pw sm gi ga r) c v = true) : zStv ty 72 c (bg B tr n rad pw sm gi ga r) (.ref (B + 3)) (vi x) v = some (bg B tr n rad pw sm gi (ua ga 1 x v) r) := by
  rw [g_set (bg_at 3 (by decide)) h1 h2 h3 hv hc]
  refine congrArg some (bg_set (k := 3) (by decide) (congrArg (fun q => some (72, q)) (ar_ext fun i _ _ => ?_)) ?_)
  · simp only [ua, up]; by_cases q : i = x <;> simp [q]
  · intro q hq hn; match q, hq, hn with
    | 0, _, _ => rfl
    | 1, _, _ => rfl
    | 2, _, _ => exact congrArg (fun q => some (71, q)) (ar_ext fun i _ _ => by simp [ua])
    | 3, _, hn => exact absurd rfl hn
    | 4, _, _ => exact congrArg (fun q => some (71, q)) (ar_ext fun i _ _ => by simp [ua])
    | 5, _, _ => exact congrArg (fun q => some (64, q)) (ar_ext fun i _ _ => by simp [ua])
    | 6, _, _ => rfl
    | 7, _, _ => exact congrArg (fun q => some (71, q)) (ar_ext fun i _ _ => by simp [ua])
    | q + 8, h, _ => exact absurd h (by omega)
theorem bga_4 {B : Nat} {tr : Nat} {n : Nat} {rad : Int} {pw : Int} {sm : Int} {gi : Nat → Int} {ga : Nat → Int → Value} {r : zHp} {ty : Nat} {x : Int} (h1 : 0 ≤ x) (h2 : x < ((n : Nat) : Int)) (h3 : n ≤ 1000000) : zAxv ty 71 (bg B tr n rad pw sm gi ga r) (.ref (B + 4)) (vi x) = zTv ty (ga 2 x) := g_ar (bg_at 4 (by decide)) h1 h2 h3
theorem bgl_4 {B : Nat} {tr : Nat} {n : Nat} {rad : Int} {pw : Int} {sm : Int} {gi : Nat → Int} {ga : Nat → Int → Value} {r : zHp} : zLenv 71 (bg B tr n rad pw sm gi ga r) (.ref (B + 4)) = some (vi ((n : Nat) : Int)) := g_len (bg_at 4 (by decide))
theorem bgs_4 {B : Nat} {tr : Nat} {n : Nat} {rad : Int} {pw : Int} {sm : Int} {gi : Nat → Int} {ga : Nat → Int → Value} {r : zHp} {ty : Nat} {c : Option Nat} {x : Int} {v : Value} (h1 : 0 ≤ x) (h2 : x < ((n : Nat) : Int)) (h3 : n ≤ 1000000) (hv : zTy ty v = true) (hc : zEl (bg B tr n rad pw sm gi ga r) c v = true) : zStv ty 71 c (bg B tr n rad pw sm gi ga r) (.ref (B + 4)) (vi x) v = some (bg B tr n rad pw sm gi (ua ga 2 x v) r) := by
  rw [g_set (bg_at 4 (by decide)) h1 h2 h3 hv hc]
  refine congrArg some (bg_set (k := 4) (by decide) (congrArg (fun q => some (71, q)) (ar_ext fun i _ _ => ?_)) ?_)
  · simp only [ua, up]; by_cases q : i = x <;> simp [q]
  · intro q hq hn; match q, hq, hn with
    | 0, _, _ => rfl
    | 1, _, _ => rfl
    | 2, _, _ => exact congrArg (fun q => some (71, q)) (ar_ext fun i _ _ => by simp [ua])
    | 3, _, _ => exact congrArg (fun q => some (72, q)) (ar_ext fun i _ _ => by simp [ua])
    | 4, _, hn => exact absurd rfl hn
    | 5, _, _ => exact congrArg (fun q => some (64, q)) (ar_ext fun i _ _ => by simp [ua])
    | 6, _, _ => rfl
    | 7, _, _ => exact congrArg (fun q => some (71, q)) (ar_ext fun i _ _ => by simp [ua])
    | q + 8, h, _ => exact absurd h (by omega)
theorem bga_5 {B : Nat} {tr : Nat} {n : Nat} {rad : Int} {pw : Int} {sm : Int} {gi : Nat → Int} {ga : Nat → Int → Value} {r : zHp} {ty : Nat} {x : Int} (h1 : 0 ≤ x) (h2 : x < ((0 : Nat) : Int)) (h3 : 0 ≤ 1000000) : zAxv ty 64 (bg B tr n rad pw sm gi ga r) (.ref (B + 5)) (vi x) = zTv ty (ga 4 x) := g_ar (bg_at 5 (by decide)) h1 h2 h3
theorem bgl_5 {B : Nat} {tr : Nat} {n : Nat} {rad : Int} {pw : Int} {sm : Int} {gi : Nat → Int} {ga : Nat → Int → Value} {r : zHp} : zLenv 64 (bg B tr n rad pw sm gi ga r) (.ref (B + 5)) = some (vi ((0 : Nat) : Int)) := g_len (bg_at 5 (by decide))
theorem bgs_5 {B : Nat} {tr : Nat} {n : Nat} {rad : Int} {pw : Int} {sm : Int} {gi : Nat → Int} {ga : Nat → Int → Value} {r : zHp} {ty : Nat} {c : Option Nat} {x : Int} {v : Value} (h1 : 0 ≤ x) (h2 : x < ((0 : Nat) : Int)) (h3 : 0 ≤ 1000000) (hv : zTy ty v = true) (hc : zEl (bg B tr n rad pw sm gi ga r) c v = true) : zStv ty 64 c (bg B tr n rad pw sm gi ga r) (.ref (B + 5)) (vi x) v = some (bg B tr n rad pw sm gi (ua ga 4 x v) r) := by
  rw [g_set (bg_at 5 (by decide)) h1 h2 h3 hv hc]
  refine congrArg some (bg_set (k := 5) (by decide) (congrArg (fun q => some (64, q)) (ar_ext fun i _ _ => ?_)) ?_)
  · simp only [ua, up]; by_cases q : i = x <;> simp [q]
  · intro q hq hn; match q, hq, hn with
    | 0, _, _ => rfl
    | 1, _, _ => rfl
    | 2, _, _ => exact congrArg (fun q => some (71, q)) (ar_ext fun i _ _ => by simp [ua])
    | 3, _, _ => exact congrArg (fun q => some (72, q)) (ar_ext fun i _ _ => by simp [ua])
    | 4, _, _ => exact congrArg (fun q => some (71, q)) (ar_ext fun i _ _ => by simp [ua])
    | 5, _, hn => exact absurd rfl hn
    | 6, _, _ => rfl
    | 7, _, _ => exact congrArg (fun q => some (71, q)) (ar_ext fun i _ _ => by simp [ua])
    | q + 8, h, _ => exact absurd h (by omega)
theorem bgt_6 {B : Nat} {tr : Nat} {n : Nat} {rad : Int} {pw : Int} {sm : Int} {gi : Nat → Int} {ga : Nat → Int → Value} {r : zHp} {rest : List Value} : zTgo (bg B tr n rad pw sm gi ga r) (.ref (B + 6) :: rest) 7 = some () := g_tag (bg_at 6 (by decide))
theorem bgf_6_0 {B : Nat} {tr : Nat} {n : Nat} {rad : Int} {pw : Int} {sm : Int} {gi : Nat → Int} {ga : Nat → Int → Value} {r : zHp} : zGfv 0 7 0 (bg B tr n rad pw sm gi ga r) (.ref (B + 6)) = some ((vi (gi 8))) := by
  rw [g_fld (bg_at 6 (by decide))]; rfl
theorem bgp_6_0 {B : Nat} {tr : Nat} {n : Nat} {rad : Int} {pw : Int} {sm : Int} {gi : Nat → Int} {ga : Nat → Int → Value} {r : zHp} {y : Int} : zPfv 0 7 0 (bg B tr n rad pw sm gi ga r) (.ref (B + 6)) (vi y) = some (bg B tr n rad pw sm (ug gi 8 y) ga r) := by
  rw [g_put (bg_at 6 (by decide)) (by simp [bgF6]) rfl]
  refine congrArg some (bg_set (k := 6) (by decide) (congrArg (fun q => some (7, q)) ?_) ?_)
  · simp only [bgF6, ug, List.set_cons_zero, List.set_cons_succ]; rfl
  · intro q hq hn; match q, hq, hn with
    | 0, _, _ => simp only [bgMk, bgF0, ug]; rfl
    | 1, _, _ => simp only [bgMk, bgF1, ug]; rfl
    | 2, _, _ => rfl
    | 3, _, _ => rfl
    | 4, _, _ => rfl
    | 5, _, _ => rfl
    | 6, _, hn => exact absurd rfl hn
    | 7, _, _ => rfl
    | q + 8, h, _ => exact absurd h (by omega)
theorem bgf_6_1 {B : Nat} {tr : Nat} {n : Nat} {rad : Int} {pw : Int} {sm : Int} {gi : Nat → Int} {ga : Nat → Int → Value} {r : zHp} : zGfv 0 7 1 (bg B tr n rad pw sm gi ga r) (.ref (B + 6)) = some ((vi (gi 9))) := by
  rw [g_fld (bg_at 6 (by decide))]; rfl
theorem bgp_6_1 {B : Nat} {tr : Nat} {n : Nat} {rad : Int} {pw : Int} {sm : Int} {gi : Nat → Int} {ga : Nat → Int → Value} {r : zHp} {y : Int} : zPfv 0 7 1 (bg B tr n rad pw sm gi ga r) (.ref (B + 6)) (vi y) = some (bg B tr n rad pw sm (ug gi 9 y) ga r) := by
  rw [g_put (bg_at 6 (by decide)) (by simp [bgF6]) rfl]
  refine congrArg some (bg_set (k := 6) (by decide) (congrArg (fun q => some (7, q)) ?_) ?_)
  · simp only [bgF6, ug, List.set_cons_zero, List.set_cons_succ]; rfl
  · intro q hq hn; match q, hq, hn with
    | 0, _, _ => simp only [bgMk, bgF0, ug]; rfl
    | 1, _, _ => simp only [bgMk, bgF1, ug]; rfl
    | 2, _, _ => rfl
    | 3, _, _ => rfl
    | 4, _, _ => rfl
    | 5, _, _ => rfl
    | 6, _, hn => exact absurd rfl hn
    | 7, _, _ => rfl
    | q + 8, h, _ => exact absurd h (by omega)
theorem bgf_6_2 {B : Nat} {tr : Nat} {n : Nat} {rad : Int} {pw : Int} {sm : Int} {gi : Nat → Int} {ga : Nat → Int → Value} {r : zHp} : zGfv 0 7 2 (bg B tr n rad pw sm gi ga r) (.ref (B + 6)) = some ((vi (gi 10))) := by
  rw [g_fld (bg_at 6 (by decide))]; rfl
theorem bgp_6_2 {B : Nat} {tr : Nat} {n : Nat} {rad : Int} {pw : Int} {sm : Int} {gi : Nat → Int} {ga : Nat → Int → Value} {r : zHp} {y : Int} : zPfv 0 7 2 (bg B tr n rad pw sm gi ga r) (.ref (B + 6)) (vi y) = some (bg B tr n rad pw sm (ug gi 10 y) ga r) := by
  rw [g_put (bg_at 6 (by decide)) (by simp [bgF6]) rfl]
  refine congrArg some (bg_set (k := 6) (by decide) (congrArg (fun q => some (7, q)) ?_) ?_)
  · simp only [bgF6, ug, List.set_cons_zero, List.set_cons_succ]; rfl
  · intro q hq hn; match q, hq, hn with
    | 0, _, _ => simp only [bgMk, bgF0, ug]; rfl
    | 1, _, _ => simp only [bgMk, bgF1, ug]; rfl
    | 2, _, _ => rfl
    | 3, _, _ => rfl
    | 4, _, _ => rfl
    | 5, _, _ => rfl
    | 6, _, hn => exact absurd rfl hn
    | 7, _, _ => rfl
    | q + 8, h, _ => exact absurd h (by omega)
theorem bga_7 {B : Nat} {tr : Nat} {n : Nat} {rad : Int} {pw : Int} {sm : Int} {gi : Nat → Int} {ga : Nat → Int → Value} {r : zHp} {ty : Nat} {x : Int} (h1 : 0 ≤ x) (h2 : x < ((n : Nat) : Int)) (h3 : n ≤ 1000000) : zAxv ty 71 (bg B tr n rad pw sm gi ga r) (.ref (B + 7)) (vi x) = zTv ty (ga 3 x) := g_ar (bg_at 7 (by decide)) h1 h2 h3
theorem bgl_7 {B : Nat} {tr : Nat} {n : Nat} {rad : Int} {pw : Int} {sm : Int} {gi : Nat → Int} {ga : Nat → Int → Value} {r : zHp} : zLenv 71 (bg B tr n rad pw sm gi ga r) (.ref (B + 7)) = some (vi ((n : Nat) : Int)) := g_len (bg_at 7 (by decide))
theorem bgs_7 {B : Nat} {tr : Nat} {n : Nat} {rad : Int} {pw : Int} {sm : Int} {gi : Nat → Int} {ga : Nat → Int → Value} {r : zHp} {ty : Nat} {c : Option Nat} {x : Int} {v : Value} (h1 : 0 ≤ x) (h2 : x < ((n : Nat) : Int)) (h3 : n ≤ 1000000) (hv : zTy ty v = true) (hc : zEl (bg B tr n rad pw sm gi ga r) c v = true) : zStv ty 71 c (bg B tr n rad pw sm gi ga r) (.ref (B + 7)) (vi x) v = some (bg B tr n rad pw sm gi (ua ga 3 x v) r) := by
  rw [g_set (bg_at 7 (by decide)) h1 h2 h3 hv hc]
  refine congrArg some (bg_set (k := 7) (by decide) (congrArg (fun q => some (71, q)) (ar_ext fun i _ _ => ?_)) ?_)
  · simp only [ua, up]; by_cases q : i = x <;> simp [q]
  · intro q hq hn; match q, hq, hn with
    | 0, _, _ => rfl
    | 1, _, _ => rfl
    | 2, _, _ => exact congrArg (fun q => some (71, q)) (ar_ext fun i _ _ => by simp [ua])
    | 3, _, _ => exact congrArg (fun q => some (72, q)) (ar_ext fun i _ _ => by simp [ua])
    | 4, _, _ => exact congrArg (fun q => some (71, q)) (ar_ext fun i _ _ => by simp [ua])
    | 5, _, _ => exact congrArg (fun q => some (64, q)) (ar_ext fun i _ _ => by simp [ua])
    | 6, _, _ => rfl
    | 7, _, hn => exact absurd rfl hn
    | q + 8, h, _ => exact absurd h (by omega)
