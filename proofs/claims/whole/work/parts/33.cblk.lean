/-! CONES AND WHAT THEY HOLD, at B .. B + 4 -/
def bcF0 (B : Nat) (tr : Nat) (n : Nat) (gi : Nat → Int) : List Value := [.ref tr, .ref (B + 1), .ref (B + 2), .ref (B + 3), vi (gi 0), .ref (B + 4), vi (gi 1)]
def bcF1 (B : Nat) (tr : Nat) (n : Nat) (gi : Nat → Int) : List Value := [vi (gi 2), vi (gi 3), vi (gi 4)]
def bcF2 (B : Nat) (tr : Nat) (n : Nat) (gi : Nat → Int) : List Value := [vi (gi 5), vi (gi 6), vi (gi 7)]
def bcMk (B : Nat) (tr : Nat) (n : Nat) (gi : Nat → Int) (ga : Nat → Int → Value) : Nat → Option (Nat × List Value)
  | 0 => some (1, bcF0 B tr n gi)
  | 1 => some (7, bcF1 B tr n gi)
  | 2 => some (7, bcF2 B tr n gi)
  | 3 => some (65, ar (n) (ga 0))
  | 4 => some (65, ar (n) (ga 1))
  | _ => none
def bc (B : Nat) (tr : Nat) (n : Nat) (gi : Nat → Int) (ga : Nat → Int → Value) (r : zHp) : zHp := (fun b => if B ≤ b ∧ b < B + 5 then bcMk B tr n gi ga (b - B) else r.1 b, r.2)
theorem bc_2 {B : Nat} {tr : Nat} {n : Nat} {gi : Nat → Int} {ga : Nat → Int → Value} {r : zHp} : (bc B tr n gi ga r).2 = r.2 := rfl
theorem bc_at {B : Nat} {tr : Nat} {n : Nat} {gi : Nat → Int} {ga : Nat → Int → Value} {r : zHp} (k : Nat) (h : k < 5) : (bc B tr n gi ga r).1 (B + k) = bcMk B tr n gi ga k := by
  show (if B ≤ B + k ∧ B + k < B + 5 then bcMk B tr n gi ga (B + k - B) else r.1 (B + k)) = _
  rw [if_pos ⟨by omega, by omega⟩, Nat.add_sub_cancel_left]
theorem bc_out {B : Nat} {tr : Nat} {n : Nat} {gi : Nat → Int} {ga : Nat → Int → Value} {r : zHp} {b : Nat} (h : b < B ∨ B + 5 ≤ b) : (bc B tr n gi ga r).1 b = r.1 b := if_neg (by omega)
theorem bc_ext {B : Nat} {tr : Nat} {n : Nat} {gi2 : Nat → Int} {ga2 : Nat → Int → Value} {r : zHp} {h : zHp} (h2 : h.2 = r.2) (ho : ∀ b, (b < B ∨ B + 5 ≤ b) → h.1 b = r.1 b) (hi : ∀ k, k < 5 → h.1 (B + k) = bcMk B tr n gi2 ga2 k) : h = bc B tr n gi2 ga2 r := by
  refine Prod.ext (funext fun b => ?_) h2
  by_cases c : B ≤ b ∧ b < B + 5
  · obtain ⟨j, rfl⟩ : ∃ j, b = B + j := ⟨b - B, by omega⟩
    rw [hi j (by omega), bc_at j (by omega)]
  · rw [ho b (by omega), bc_out (by omega)]
theorem bc_set {B k : Nat} {tr : Nat} {n : Nat} {gi gi2 : Nat → Int} {ga ga2 : Nat → Int → Value} {r : zHp} {o : Nat × List Value} (hk : k < 5) (h1 : bcMk B tr n gi2 ga2 k = some o) (h2 : ∀ j, j < 5 → j ≠ k → bcMk B tr n gi2 ga2 j = bcMk B tr n gi ga j) : zSet (bc B tr n gi ga r) (B + k) o = bc B tr n gi2 ga2 r := by
  refine bc_ext rfl (fun b hb => ?_) (fun j hj => ?_)
  · show (if b = B + k then some o else (bc B tr n gi ga r).1 b) = r.1 b
    rw [if_neg (by omega), bc_out hb]
  · show (if B + j = B + k then some o else (bc B tr n gi ga r).1 (B + j)) = _
    by_cases e : j = k
    · rw [if_pos (by omega), e, h1]
    · rw [if_neg (by omega), bc_at j hj, h2 j hj e]
theorem bc_al {B : Nat} {tr : Nat} {n : Nat} {gi : Nat → Int} {ga : Nat → Int → Value} {r : zHp} {nn : Nat} {o : Nat × List Value} (h : B + 5 ≤ r.2.1) : zAl (bc B tr n gi ga r) nn o = bc B tr n gi ga (zAl r nn o) := by
  refine Prod.ext (funext fun b => ?_) rfl
  show (if b = r.2.1 then some o else (bc B tr n gi ga r).1 b) = (if B ≤ b ∧ b < B + 5 then bcMk B tr n gi ga (b - B) else (if b = r.2.1 then some o else r.1 b))
  by_cases c : B ≤ b ∧ b < B + 5
  · rw [if_pos c, if_neg (by omega)]; exact if_pos c
  · rw [if_neg c]; split
    · rfl
    · exact if_neg c
theorem bc_so {B : Nat} {tr : Nat} {n : Nat} {gi : Nat → Int} {ga : Nat → Int → Value} {r : zHp} {a : Nat} {o : Nat × List Value} (h : a < B ∨ B + 5 ≤ a) : zSet (bc B tr n gi ga r) a o = bc B tr n gi ga (zSet r a o) := by
  refine Prod.ext (funext fun b => ?_) rfl
  show (if b = a then some o else (bc B tr n gi ga r).1 b) = (if B ≤ b ∧ b < B + 5 then bcMk B tr n gi ga (b - B) else (if b = a then some o else r.1 b))
  by_cases c : B ≤ b ∧ b < B + 5
  · rw [if_pos c, if_neg (by omega)]; exact if_pos c
  · rw [if_neg c]; split
    · rfl
    · exact if_neg c
theorem bc_of {B : Nat} {tr : Nat} {n : Nat} {gi : Nat → Int} {ga : Nat → Int → Value} {r : zHp} {ty ci k a : Nat} {vs : List Value} (e : r.1 a = some (ci, vs)) (h : a < B ∨ B + 5 ≤ a) : zGfv ty ci k (bc B tr n gi ga r) (.ref a) = (vs[k]?).bind (zTv ty) := g_fld (by rw [bc_out h, e])
theorem bc_op {B : Nat} {tr : Nat} {n : Nat} {gi : Nat → Int} {ga : Nat → Int → Value} {r : zHp} {ty ci k a : Nat} {vs : List Value} {v : Value} (e : r.1 a = some (ci, vs)) (h : a < B ∨ B + 5 ≤ a) (hk : zIn k vs = true) (hv : zTy ty v = true) : zPfv ty ci k (bc B tr n gi ga r) (.ref a) v = some (bc B tr n gi ga (zSet r a (ci, vs.set k v))) := by
  rw [g_put (by rw [bc_out h, e]) (zIn_lt hk) hv, bc_so h]
theorem bc_ot {B : Nat} {tr : Nat} {n : Nat} {gi : Nat → Int} {ga : Nat → Int → Value} {r : zHp} {ci a : Nat} {vs rest : List Value} (e : r.1 a = some (ci, vs)) (h : a < B ∨ B + 5 ≤ a) : zTgo (bc B tr n gi ga r) (.ref a :: rest) ci = some () := g_tag (by rw [bc_out h, e])
theorem bc_oa {B : Nat} {tr : Nat} {n : Nat} {gi : Nat → Int} {ga : Nat → Int → Value} {r : zHp} {ty t nn a : Nat} {f : Int → Value} {x : Int} (e : r.1 a = some (t, ar nn f)) (h : a < B ∨ B + 5 ≤ a) (h1 : 0 ≤ x) (h2 : x < nn) (h3 : nn ≤ 1000000) : zAxv ty t (bc B tr n gi ga r) (.ref a) (vi x) = zTv ty (f x) := g_ar (by rw [bc_out h, e]) h1 h2 h3
theorem bc_ol {B : Nat} {tr : Nat} {n : Nat} {gi : Nat → Int} {ga : Nat → Int → Value} {r : zHp} {t nn a : Nat} {f : Int → Value} (e : r.1 a = some (t, ar nn f)) (h : a < B ∨ B + 5 ≤ a) : zLenv t (bc B tr n gi ga r) (.ref a) = some (vi (nn : Int)) := g_len (by rw [bc_out h, e])
theorem bc_oe {B : Nat} {tr : Nat} {n : Nat} {gi : Nat → Int} {ga : Nat → Int → Value} {r : zHp} {ci a : Nat} {vs : List Value} (e : r.1 a = some (ci, vs)) (h : a < B ∨ B + 5 ≤ a) : zEl (bc B tr n gi ga r) (some ci) (.ref a) = true := by
  simp only [zEl, bc_out h, e, beq_self_eq_true]
theorem bc_m {B : Nat} {tr : Nat} {n : Nat} {gi : Nat → Int} {ga : Nat → Int → Value} {r : zHp} : (bc B tr n gi ga r).1 B = some (1, bcF0 B tr n gi) := bc_at 0 (by decide)
theorem bct_0 {B : Nat} {tr : Nat} {n : Nat} {gi : Nat → Int} {ga : Nat → Int → Value} {r : zHp} {rest : List Value} : zTgo (bc B tr n gi ga r) (.ref B :: rest) 1 = some () := g_tag bc_m
theorem bcf_0_0 {B : Nat} {tr : Nat} {n : Nat} {gi : Nat → Int} {ga : Nat → Int → Value} {r : zHp} : zGfv 3 1 0 (bc B tr n gi ga r) (.ref B) = some (.ref tr) := by
  rw [g_fld bc_m]; rfl
theorem bcf_0_1 {B : Nat} {tr : Nat} {n : Nat} {gi : Nat → Int} {ga : Nat → Int → Value} {r : zHp} : zGfv 3 1 1 (bc B tr n gi ga r) (.ref B) = some (.ref (B + 1)) := by
  rw [g_fld bc_m]; rfl
theorem bcf_0_2 {B : Nat} {tr : Nat} {n : Nat} {gi : Nat → Int} {ga : Nat → Int → Value} {r : zHp} : zGfv 3 1 2 (bc B tr n gi ga r) (.ref B) = some (.ref (B + 2)) := by
  rw [g_fld bc_m]; rfl
theorem bcf_0_3 {B : Nat} {tr : Nat} {n : Nat} {gi : Nat → Int} {ga : Nat → Int → Value} {r : zHp} : zGfv 3 1 3 (bc B tr n gi ga r) (.ref B) = some (.ref (B + 3)) := by
  rw [g_fld bc_m]; rfl
theorem bcf_0_4 {B : Nat} {tr : Nat} {n : Nat} {gi : Nat → Int} {ga : Nat → Int → Value} {r : zHp} : zGfv 0 1 4 (bc B tr n gi ga r) (.ref B) = some ((vi (gi 0))) := by
  rw [g_fld bc_m]; rfl
theorem bcp_0_4 {B : Nat} {tr : Nat} {n : Nat} {gi : Nat → Int} {ga : Nat → Int → Value} {r : zHp} {y : Int} : zPfv 0 1 4 (bc B tr n gi ga r) (.ref B) (vi y) = some (bc B tr n (ug gi 0 y) ga r) := by
  rw [g_put bc_m (by simp [bcF0]) rfl]
  refine congrArg some (bc_set (k := 0) (by decide) (congrArg (fun q => some (1, q)) ?_) ?_)
  · simp only [bcF0, ug, List.set_cons_zero, List.set_cons_succ]; rfl
  · intro q hq hn; match q, hq, hn with
    | 0, _, hn => exact absurd rfl hn
    | 1, _, _ => simp only [bcMk, bcF1, ug]; rfl
    | 2, _, _ => simp only [bcMk, bcF2, ug]; rfl
    | 3, _, _ => rfl
    | 4, _, _ => rfl
    | q + 5, h, _ => exact absurd h (by omega)
theorem bcf_0_5 {B : Nat} {tr : Nat} {n : Nat} {gi : Nat → Int} {ga : Nat → Int → Value} {r : zHp} : zGfv 3 1 5 (bc B tr n gi ga r) (.ref B) = some (.ref (B + 4)) := by
  rw [g_fld bc_m]; rfl
theorem bcf_0_6 {B : Nat} {tr : Nat} {n : Nat} {gi : Nat → Int} {ga : Nat → Int → Value} {r : zHp} : zGfv 0 1 6 (bc B tr n gi ga r) (.ref B) = some ((vi (gi 1))) := by
  rw [g_fld bc_m]; rfl
theorem bcp_0_6 {B : Nat} {tr : Nat} {n : Nat} {gi : Nat → Int} {ga : Nat → Int → Value} {r : zHp} {y : Int} : zPfv 0 1 6 (bc B tr n gi ga r) (.ref B) (vi y) = some (bc B tr n (ug gi 1 y) ga r) := by
  rw [g_put bc_m (by simp [bcF0]) rfl]
  refine congrArg some (bc_set (k := 0) (by decide) (congrArg (fun q => some (1, q)) ?_) ?_)
  · simp only [bcF0, ug, List.set_cons_zero, List.set_cons_succ]; rfl
  · intro q hq hn; match q, hq, hn with
    | 0, _, hn => exact absurd rfl hn
    | 1, _, _ => simp only [bcMk, bcF1, ug]; rfl
    | 2, _, _ => simp only [bcMk, bcF2, ug]; rfl
    | 3, _, _ => rfl
    | 4, _, _ => rfl
    | q + 5, h, _ => exact absurd h (by omega)
theorem bct_1 {B : Nat} {tr : Nat} {n : Nat} {gi : Nat → Int} {ga : Nat → Int → Value} {r : zHp} {rest : List Value} : zTgo (bc B tr n gi ga r) (.ref (B + 1) :: rest) 7 = some () := g_tag (bc_at 1 (by decide))
theorem bcf_1_0 {B : Nat} {tr : Nat} {n : Nat} {gi : Nat → Int} {ga : Nat → Int → Value} {r : zHp} : zGfv 0 7 0 (bc B tr n gi ga r) (.ref (B + 1)) = some ((vi (gi 2))) := by
  rw [g_fld (bc_at 1 (by decide))]; rfl
theorem bcp_1_0 {B : Nat} {tr : Nat} {n : Nat} {gi : Nat → Int} {ga : Nat → Int → Value} {r : zHp} {y : Int} : zPfv 0 7 0 (bc B tr n gi ga r) (.ref (B + 1)) (vi y) = some (bc B tr n (ug gi 2 y) ga r) := by
  rw [g_put (bc_at 1 (by decide)) (by simp [bcF1]) rfl]
  refine congrArg some (bc_set (k := 1) (by decide) (congrArg (fun q => some (7, q)) ?_) ?_)
  · simp only [bcF1, ug, List.set_cons_zero, List.set_cons_succ]; rfl
  · intro q hq hn; match q, hq, hn with
    | 0, _, _ => simp only [bcMk, bcF0, ug]; rfl
    | 1, _, hn => exact absurd rfl hn
    | 2, _, _ => simp only [bcMk, bcF2, ug]; rfl
    | 3, _, _ => rfl
    | 4, _, _ => rfl
    | q + 5, h, _ => exact absurd h (by omega)
theorem bcf_1_1 {B : Nat} {tr : Nat} {n : Nat} {gi : Nat → Int} {ga : Nat → Int → Value} {r : zHp} : zGfv 0 7 1 (bc B tr n gi ga r) (.ref (B + 1)) = some ((vi (gi 3))) := by
  rw [g_fld (bc_at 1 (by decide))]; rfl
theorem bcp_1_1 {B : Nat} {tr : Nat} {n : Nat} {gi : Nat → Int} {ga : Nat → Int → Value} {r : zHp} {y : Int} : zPfv 0 7 1 (bc B tr n gi ga r) (.ref (B + 1)) (vi y) = some (bc B tr n (ug gi 3 y) ga r) := by
  rw [g_put (bc_at 1 (by decide)) (by simp [bcF1]) rfl]
  refine congrArg some (bc_set (k := 1) (by decide) (congrArg (fun q => some (7, q)) ?_) ?_)
  · simp only [bcF1, ug, List.set_cons_zero, List.set_cons_succ]; rfl
  · intro q hq hn; match q, hq, hn with
    | 0, _, _ => simp only [bcMk, bcF0, ug]; rfl
    | 1, _, hn => exact absurd rfl hn
    | 2, _, _ => simp only [bcMk, bcF2, ug]; rfl
    | 3, _, _ => rfl
    | 4, _, _ => rfl
    | q + 5, h, _ => exact absurd h (by omega)
theorem bcf_1_2 {B : Nat} {tr : Nat} {n : Nat} {gi : Nat → Int} {ga : Nat → Int → Value} {r : zHp} : zGfv 0 7 2 (bc B tr n gi ga r) (.ref (B + 1)) = some ((vi (gi 4))) := by
  rw [g_fld (bc_at 1 (by decide))]; rfl
theorem bcp_1_2 {B : Nat} {tr : Nat} {n : Nat} {gi : Nat → Int} {ga : Nat → Int → Value} {r : zHp} {y : Int} : zPfv 0 7 2 (bc B tr n gi ga r) (.ref (B + 1)) (vi y) = some (bc B tr n (ug gi 4 y) ga r) := by
  rw [g_put (bc_at 1 (by decide)) (by simp [bcF1]) rfl]
  refine congrArg some (bc_set (k := 1) (by decide) (congrArg (fun q => some (7, q)) ?_) ?_)
  · simp only [bcF1, ug, List.set_cons_zero, List.set_cons_succ]; rfl
  · intro q hq hn; match q, hq, hn with
    | 0, _, _ => simp only [bcMk, bcF0, ug]; rfl
    | 1, _, hn => exact absurd rfl hn
    | 2, _, _ => simp only [bcMk, bcF2, ug]; rfl
    | 3, _, _ => rfl
    | 4, _, _ => rfl
    | q + 5, h, _ => exact absurd h (by omega)
theorem bct_2 {B : Nat} {tr : Nat} {n : Nat} {gi : Nat → Int} {ga : Nat → Int → Value} {r : zHp} {rest : List Value} : zTgo (bc B tr n gi ga r) (.ref (B + 2) :: rest) 7 = some () := g_tag (bc_at 2 (by decide))
theorem bcf_2_0 {B : Nat} {tr : Nat} {n : Nat} {gi : Nat → Int} {ga : Nat → Int → Value} {r : zHp} : zGfv 0 7 0 (bc B tr n gi ga r) (.ref (B + 2)) = some ((vi (gi 5))) := by
  rw [g_fld (bc_at 2 (by decide))]; rfl
theorem bcp_2_0 {B : Nat} {tr : Nat} {n : Nat} {gi : Nat → Int} {ga : Nat → Int → Value} {r : zHp} {y : Int} : zPfv 0 7 0 (bc B tr n gi ga r) (.ref (B + 2)) (vi y) = some (bc B tr n (ug gi 5 y) ga r) := by
  rw [g_put (bc_at 2 (by decide)) (by simp [bcF2]) rfl]
  refine congrArg some (bc_set (k := 2) (by decide) (congrArg (fun q => some (7, q)) ?_) ?_)
  · simp only [bcF2, ug, List.set_cons_zero, List.set_cons_succ]; rfl
  · intro q hq hn; match q, hq, hn with
    | 0, _, _ => simp only [bcMk, bcF0, ug]; rfl
    | 1, _, _ => simp only [bcMk, bcF1, ug]; rfl
    | 2, _, hn => exact absurd rfl hn
    | 3, _, _ => rfl
    | 4, _, _ => rfl
    | q + 5, h, _ => exact absurd h (by omega)
theorem bcf_2_1 {B : Nat} {tr : Nat} {n : Nat} {gi : Nat → Int} {ga : Nat → Int → Value} {r : zHp} : zGfv 0 7 1 (bc B tr n gi ga r) (.ref (B + 2)) = some ((vi (gi 6))) := by
  rw [g_fld (bc_at 2 (by decide))]; rfl
theorem bcp_2_1 {B : Nat} {tr : Nat} {n : Nat} {gi : Nat → Int} {ga : Nat → Int → Value} {r : zHp} {y : Int} : zPfv 0 7 1 (bc B tr n gi ga r) (.ref (B + 2)) (vi y) = some (bc B tr n (ug gi 6 y) ga r) := by
  rw [g_put (bc_at 2 (by decide)) (by simp [bcF2]) rfl]
  refine congrArg some (bc_set (k := 2) (by decide) (congrArg (fun q => some (7, q)) ?_) ?_)
  · simp only [bcF2, ug, List.set_cons_zero, List.set_cons_succ]; rfl
  · intro q hq hn; match q, hq, hn with
    | 0, _, _ => simp only [bcMk, bcF0, ug]; rfl
    | 1, _, _ => simp only [bcMk, bcF1, ug]; rfl
    | 2, _, hn => exact absurd rfl hn
    | 3, _, _ => rfl
    | 4, _, _ => rfl
    | q + 5, h, _ => exact absurd h (by omega)
theorem bcf_2_2 {B : Nat} {tr : Nat} {n : Nat} {gi : Nat → Int} {ga : Nat → Int → Value} {r : zHp} : zGfv 0 7 2 (bc B tr n gi ga r) (.ref (B + 2)) = some ((vi (gi 7))) := by
  rw [g_fld (bc_at 2 (by decide))]; rfl
theorem bcp_2_2 {B : Nat} {tr : Nat} {n : Nat} {gi : Nat → Int} {ga : Nat → Int → Value} {r : zHp} {y : Int} : zPfv 0 7 2 (bc B tr n gi ga r) (.ref (B + 2)) (vi y) = some (bc B tr n (ug gi 7 y) ga r) := by
  rw [g_put (bc_at 2 (by decide)) (by simp [bcF2]) rfl]
  refine congrArg some (bc_set (k := 2) (by decide) (congrArg (fun q => some (7, q)) ?_) ?_)
  · simp only [bcF2, ug, List.set_cons_zero, List.set_cons_succ]; rfl
  · intro q hq hn; match q, hq, hn with
    | 0, _, _ => simp only [bcMk, bcF0, ug]; rfl
    | 1, _, _ => simp only [bcMk, bcF1, ug]; rfl
    | 2, _, hn => exact absurd rfl hn
    | 3, _, _ => rfl
    | 4, _, _ => rfl
    | q + 5, h, _ => exact absurd h (by omega)
theorem bca_3 {B : Nat} {tr : Nat} {n : Nat} {gi : Nat → Int} {ga : Nat → Int → Value} {r : zHp} {ty : Nat} {x : Int} (h1 : 0 ≤ x) (h2 : x < ((n : Nat) : Int)) (h3 : n ≤ 1000000) : zAxv ty 65 (bc B tr n gi ga r) (.ref (B + 3)) (vi x) = zTv ty (ga 0 x) := g_ar (bc_at 3 (by decide)) h1 h2 h3
theorem bcl_3 {B : Nat} {tr : Nat} {n : Nat} {gi : Nat → Int} {ga : Nat → Int → Value} {r : zHp} : zLenv 65 (bc B tr n gi ga r) (.ref (B + 3)) = some (vi ((n : Nat) : Int)) := g_len (bc_at 3 (by decide))
theorem bcs_3 {B : Nat} {tr : Nat} {n : Nat} {gi : Nat → Int} {ga : Nat → Int → Value} {r : zHp} {ty : Nat} {c : Option Nat} {x : Int} {v : Value} (h1 : 0 ≤ x) (h2 : x < ((n : Nat) : Int)) (h3 : n ≤ 1000000) (hv : zTy ty v = true) (hc : zEl (bc B tr n gi ga r) c v = true) : zStv ty 65 c (bc B tr n gi ga r) (.ref (B + 3)) (vi x) v = some (bc B tr n gi (ua ga 0 x v) r) := by
  rw [g_set (bc_at 3 (by decide)) h1 h2 h3 hv hc]
  refine congrArg some (bc_set (k := 3) (by decide) (congrArg (fun q => some (65, q)) (ar_ext fun i _ _ => ?_)) ?_)
  · simp only [ua, up]; by_cases q : i = x <;> simp [q]
  · intro q hq hn; match q, hq, hn with
    | 0, _, _ => rfl
    | 1, _, _ => rfl
    | 2, _, _ => rfl
    | 3, _, hn => exact absurd rfl hn
    | 4, _, _ => exact congrArg (fun q => some (65, q)) (ar_ext fun i _ _ => by simp [ua])
    | q + 5, h, _ => exact absurd h (by omega)
theorem bca_4 {B : Nat} {tr : Nat} {n : Nat} {gi : Nat → Int} {ga : Nat → Int → Value} {r : zHp} {ty : Nat} {x : Int} (h1 : 0 ≤ x) (h2 : x < ((n : Nat) : Int)) (h3 : n ≤ 1000000) : zAxv ty 65 (bc B tr n gi ga r) (.ref (B + 4)) (vi x) = zTv ty (ga 1 x) := g_ar (bc_at 4 (by decide)) h1 h2 h3
theorem bcl_4 {B : Nat} {tr : Nat} {n : Nat} {gi : Nat → Int} {ga : Nat → Int → Value} {r : zHp} : zLenv 65 (bc B tr n gi ga r) (.ref (B + 4)) = some (vi ((n : Nat) : Int)) := g_len (bc_at 4 (by decide))
theorem bcs_4 {B : Nat} {tr : Nat} {n : Nat} {gi : Nat → Int} {ga : Nat → Int → Value} {r : zHp} {ty : Nat} {c : Option Nat} {x : Int} {v : Value} (h1 : 0 ≤ x) (h2 : x < ((n : Nat) : Int)) (h3 : n ≤ 1000000) (hv : zTy ty v = true) (hc : zEl (bc B tr n gi ga r) c v = true) : zStv ty 65 c (bc B tr n gi ga r) (.ref (B + 4)) (vi x) v = some (bc B tr n gi (ua ga 1 x v) r) := by
  rw [g_set (bc_at 4 (by decide)) h1 h2 h3 hv hc]
  refine congrArg some (bc_set (k := 4) (by decide) (congrArg (fun q => some (65, q)) (ar_ext fun i _ _ => ?_)) ?_)
  · simp only [ua, up]; by_cases q : i = x <;> simp [q]
  · intro q hq hn; match q, hq, hn with
    | 0, _, _ => rfl
    | 1, _, _ => rfl
    | 2, _, _ => rfl
    | 3, _, _ => exact congrArg (fun q => some (65, q)) (ar_ext fun i _ _ => by simp [ua])
    | 4, _, hn => exact absurd rfl hn
    | q + 5, h, _ => exact absurd h (by omega)
