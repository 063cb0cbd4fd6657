/-! A TILING AND WHAT IT HOLDS, at B .. B + 4 -/
def btF0 (B : Nat) (sz : Int) (gi : Nat → Int) : List Value := [vi sz, .ref (B + 1), .ref (B + 2), .ref (B + 3), .ref (B + 4), vi (gi 0)]
def btMk (B : Nat) (sz : Int) (gi : Nat → Int) (ga : Nat → Int → Value) : Nat → Option (Nat × List Value)
  | 0 => some (8, btF0 B sz gi)
  | 1 => some (64, ar (40) (ga 0))
  | 2 => some (64, ar (40) (ga 1))
  | 3 => some (64, ar (40) (ga 2))
  | 4 => some (64, ar (40) (ga 3))
  | _ => none
def bt (B : Nat) (sz : Int) (gi : Nat → Int) (ga : Nat → Int → Value) (r : zHp) : zHp := (fun b => if B ≤ b ∧ b < B + 5 then btMk B sz gi ga (b - B) else r.1 b, r.2)
theorem bt_2 {B : Nat} {sz : Int} {gi : Nat → Int} {ga : Nat → Int → Value} {r : zHp} : (bt B sz gi ga r).2 = r.2 := rfl
theorem bt_at {B : Nat} {sz : Int} {gi : Nat → Int} {ga : Nat → Int → Value} {r : zHp} (k : Nat) (h : k < 5) : (bt B sz gi ga r).1 (B + k) = btMk B sz gi ga k := by
  show (if B ≤ B + k ∧ B + k < B + 5 then btMk B sz gi ga (B + k - B) else r.1 (B + k)) = _
  rw [if_pos ⟨by omega, by omega⟩, Nat.add_sub_cancel_left]
theorem bt_out {B : Nat} {sz : Int} {gi : Nat → Int} {ga : Nat → Int → Value} {r : zHp} {b : Nat} (h : b < B ∨ B + 5 ≤ b) : (bt B sz gi ga r).1 b = r.1 b := if_neg (by omega)
theorem bt_ext {B : Nat} {sz : Int} {gi2 : Nat → Int} {ga2 : Nat → Int → Value} {r : zHp} {h : zHp} (h2 : h.2 = r.2) (ho : ∀ b, (b < B ∨ B + 5 ≤ b) → h.1 b = r.1 b) (hi : ∀ k, k < 5 → h.1 (B + k) = btMk B sz gi2 ga2 k) : h = bt B sz gi2 ga2 r := by
  refine Prod.ext (funext fun b => ?_) h2
  by_cases c : B ≤ b ∧ b < B + 5
  · obtain ⟨j, rfl⟩ : ∃ j, b = B + j := ⟨b - B, by omega⟩
    rw [hi j (by omega), bt_at j (by omega)]
  · rw [ho b (by omega), bt_out (by omega)]
theorem bt_set {B k : Nat} {sz : Int} {gi gi2 : Nat → Int} {ga ga2 : Nat → Int → Value} {r : zHp} {o : Nat × List Value} (hk : k < 5) (h1 : btMk B sz gi2 ga2 k = some o) (h2 : ∀ j, j < 5 → j ≠ k → btMk B sz gi2 ga2 j = btMk B sz gi ga j) : zSet (bt B sz gi ga r) (B + k) o = bt B sz gi2 ga2 r := by
  refine bt_ext rfl (fun b hb => ?_) (fun j hj => ?_)
  · show (if b = B + k then some o else (bt B sz gi ga r).1 b) = r.1 b
    rw [if_neg (by omega), bt_out hb]
  · show (if B + j = B + k then some o else (bt B sz gi ga r).1 (B + j)) = _
    by_cases e : j = k
    · rw [if_pos (by omega), e, h1]
    · rw [if_neg (by omega), bt_at j hj, h2 j hj e]
theorem bt_al {B : Nat} {sz : Int} {gi : Nat → Int} {ga : Nat → Int → Value} {r : zHp} {nn : Nat} {o : Nat × List Value} (h : B + 5 ≤ r.2.1) : zAl (bt B sz gi ga r) nn o = bt B sz gi ga (zAl r nn o) := by
  refine Prod.ext (funext fun b => ?_) rfl
  show (if b = r.2.1 then some o else (bt B sz gi ga r).1 b) = (if B ≤ b ∧ b < B + 5 then btMk B sz gi ga (b - B) else (if b = r.2.1 then some o else r.1 b))
  by_cases c : B ≤ b ∧ b < B + 5
  · rw [if_pos c, if_neg (by omega)]; exact if_pos c
  · rw [if_neg c]; split
    · rfl
    · exact if_neg c
theorem bt_so {B : Nat} {sz : Int} {gi : Nat → Int} {ga : Nat → Int → Value} {r : zHp} {a : Nat} {o : Nat × List Value} (h : a < B ∨ B + 5 ≤ a) : zSet (bt B sz gi ga r) a o = bt B sz gi ga (zSet r a o) := by
  refine Prod.ext (funext fun b => ?_) rfl
  show (if b = a then some o else (bt B sz gi ga r).1 b) = (if B ≤ b ∧ b < B + 5 then btMk B sz gi ga (b - B) else (if b = a then some o else r.1 b))
  by_cases c : B ≤ b ∧ b < B + 5
  · rw [if_pos c, if_neg (by omega)]; exact if_pos c
  · rw [if_neg c]; split
    · rfl
    · exact if_neg c
theorem bt_of {B : Nat} {sz : Int} {gi : Nat → Int} {ga : Nat → Int → Value} {r : zHp} {ty ci k a : Nat} {vs : List Value} (e : r.1 a = some (ci, vs)) (h : a < B ∨ B + 5 ≤ a) : zGfv ty ci k (bt B sz gi ga r) (.ref a) = (vs[k]?).bind (zTv ty) := g_fld (by rw [bt_out h, e])
theorem bt_op {B : Nat} {sz : Int} {gi : Nat → Int} {ga : Nat → Int → Value} {r : zHp} {ty ci k a : Nat} {vs : List Value} {v : Value} (e : r.1 a = some (ci, vs)) (h : a < B ∨ B + 5 ≤ a) (hk : zIn k vs = true) (hv : zTy ty v = true) : zPfv ty ci k (bt B sz gi ga r) (.ref a) v = some (bt B sz gi ga (zSet r a (ci, vs.set k v))) := by
  rw [g_put (by rw [bt_out h, e]) (zIn_lt hk) hv, bt_so h]
theorem bt_ot {B : Nat} {sz : Int} {gi : Nat → Int} {ga : Nat → Int → Value} {r : zHp} {ci a : Nat} {vs rest : List Value} (e : r.1 a = some (ci, vs)) (h : a < B ∨ B + 5 ≤ a) : zTgo (bt B sz gi ga r) (.ref a :: rest) ci = some () := g_tag (by rw [bt_out h, e])
theorem bt_oa {B : Nat} {sz : Int} {gi : Nat → Int} {ga : Nat → Int → Value} {r : zHp} {ty t nn a : Nat} {f : Int → Value} {x : Int} (e : r.1 a = some (t, ar nn f)) (h : a < B ∨ B + 5 ≤ a) (h1 : 0 ≤ x) (h2 : x < nn) (h3 : nn ≤ 1000000) : zAxv ty t (bt B sz gi ga r) (.ref a) (vi x) = zTv ty (f x) := g_ar (by rw [bt_out h, e]) h1 h2 h3
theorem bt_ol {B : Nat} {sz : Int} {gi : Nat → Int} {ga : Nat → Int → Value} {r : zHp} {t nn a : Nat} {f : Int → Value} (e : r.1 a = some (t, ar nn f)) (h : a < B ∨ B + 5 ≤ a) : zLenv t (bt B sz gi ga r) (.ref a) = some (vi (nn : Int)) := g_len (by rw [bt_out h, e])
theorem bt_oe {B : Nat} {sz : Int} {gi : Nat → Int} {ga : Nat → Int → Value} {r : zHp} {ci a : Nat} {vs : List Value} (e : r.1 a = some (ci, vs)) (h : a < B ∨ B + 5 ≤ a) : zEl (bt B sz gi ga r) (some ci) (.ref a) = true := by
  simp only [zEl, bt_out h, e, beq_self_eq_true]
theorem bt_m {B : Nat} {sz : Int} {gi : Nat → Int} {ga : Nat → Int → Value} {r : zHp} : (bt B sz gi ga r).1 B = some (8, btF0 B sz gi) := bt_at 0 (by decide)
theorem btt_0 {B : Nat} {sz : Int} {gi : Nat → Int} {ga : Nat → Int → Value} {r : zHp} {rest : List Value} : zTgo (bt B sz gi ga r) (.ref B :: rest) 8 = some () := g_tag bt_m
theorem btf_0_0 {B : Nat} {sz : Int} {gi : Nat → Int} {ga : Nat → Int → Value} {r : zHp} : zGfv 0 8 0 (bt B sz gi ga r) (.ref B) = some (vi sz) := by
  rw [g_fld bt_m]; rfl
theorem btf_0_1 {B : Nat} {sz : Int} {gi : Nat → Int} {ga : Nat → Int → Value} {r : zHp} : zGfv 3 8 1 (bt B sz gi ga r) (.ref B) = some (.ref (B + 1)) := by
  rw [g_fld bt_m]; rfl
theorem btf_0_2 {B : Nat} {sz : Int} {gi : Nat → Int} {ga : Nat → Int → Value} {r : zHp} : zGfv 3 8 2 (bt B sz gi ga r) (.ref B) = some (.ref (B + 2)) := by
  rw [g_fld bt_m]; rfl
theorem btf_0_3 {B : Nat} {sz : Int} {gi : Nat → Int} {ga : Nat → Int → Value} {r : zHp} : zGfv 3 8 3 (bt B sz gi ga r) (.ref B) = some (.ref (B + 3)) := by
  rw [g_fld bt_m]; rfl
theorem btf_0_4 {B : Nat} {sz : Int} {gi : Nat → Int} {ga : Nat → Int → Value} {r : zHp} : zGfv 3 8 4 (bt B sz gi ga r) (.ref B) = some (.ref (B + 4)) := by
  rw [g_fld bt_m]; rfl
theorem btf_0_5 {B : Nat} {sz : Int} {gi : Nat → Int} {ga : Nat → Int → Value} {r : zHp} : zGfv 0 8 5 (bt B sz gi ga r) (.ref B) = some ((vi (gi 0))) := by
  rw [g_fld bt_m]; rfl
theorem btp_0_5 {B : Nat} {sz : Int} {gi : Nat → Int} {ga : Nat → Int → Value} {r : zHp} {y : Int} : zPfv 0 8 5 (bt B sz gi ga r) (.ref B) (vi y) = some (bt B sz (ug gi 0 y) ga r) := by
  rw [g_put bt_m (by simp [btF0]) rfl]
  refine congrArg some (bt_set (k := 0) (by decide) (congrArg (fun q => some (8, q)) ?_) ?_)
  · simp only [btF0, ug, List.set_cons_zero, List.set_cons_succ]; rfl
  · intro q hq hn; match q, hq, hn with
    | 0, _, hn => exact absurd rfl hn
    | 1, _, _ => rfl
    | 2, _, _ => rfl
    | 3, _, _ => rfl
    | 4, _, _ => rfl
    | q + 5, h, _ => exact absurd h (by omega)
theorem bta_1 {B : Nat} {sz : Int} {gi : Nat → Int} {ga : Nat → Int → Value} {r : zHp} {ty : Nat} {x : Int} (h1 : 0 ≤ x) (h2 : x < ((40 : Nat) : Int)) (h3 : 40 ≤ 1000000) : zAxv ty 64 (bt B sz gi ga r) (.ref (B + 1)) (vi x) = zTv ty (ga 0 x) := g_ar (bt_at 1 (by decide)) h1 h2 h3
theorem btl_1 {B : Nat} {sz : Int} {gi : Nat → Int} {ga : Nat → Int → Value} {r : zHp} : zLenv 64 (bt B sz gi ga r) (.ref (B + 1)) = some (vi ((40 : Nat) : Int)) := g_len (bt_at 1 (by decide))
theorem bts_1 {B : Nat} {sz : Int} {gi : Nat → Int} {ga : Nat → Int → Value} {r : zHp} {ty : Nat} {c : Option Nat} {x : Int} {v : Value} (h1 : 0 ≤ x) (h2 : x < ((40 : Nat) : Int)) (h3 : 40 ≤ 1000000) (hv : zTy ty v = true) (hc : zEl (bt B sz gi ga r) c v = true) : zStv ty 64 c (bt B sz gi ga r) (.ref (B + 1)) (vi x) v = some (bt B sz gi (ua ga 0 x v) r) := by
  rw [g_set (bt_at 1 (by decide)) h1 h2 h3 hv hc]
  refine congrArg some (bt_set (k := 1) (by decide) (congrArg (fun q => some (64, q)) (ar_ext fun i _ _ => ?_)) ?_)
  · simp only [ua, up]; by_cases q : i = x <;> simp [q]
  · intro q hq hn; match q, hq, hn with
    | 0, _, _ => rfl
    | 1, _, hn => exact absurd rfl hn
    | 2, _, _ => exact congrArg (fun q => some (64, q)) (ar_ext fun i _ _ => by simp [ua])
    | 3, _, _ => exact congrArg (fun q => some (64, q)) (ar_ext fun i _ _ => by simp [ua])
    | 4, _, _ => exact congrArg (fun q => some (64, q)) (ar_ext fun i _ _ => by simp [ua])
    | q + 5, h, _ => exact absurd h (by omega)
theorem bta_2 {B : Nat} {sz : Int} {gi : Nat → Int} {ga : Nat → Int → Value} {r : zHp} {ty : Nat} {x : Int} (h1 : 0 ≤ x) (h2 : x < ((40 : Nat) : Int)) (h3 : 40 ≤ 1000000) : zAxv ty 64 (bt B sz gi ga r) (.ref (B + 2)) (vi x) = zTv ty (ga 1 x) := g_ar (bt_at 2 (by decide)) h1 h2 h3
theorem btl_2 {B : Nat} {sz : Int} {gi : Nat → Int} {ga : Nat → Int → Value} {r : zHp} : zLenv 64 (bt B sz gi ga r) (.ref (B + 2)) = some (vi ((40 : Nat) : Int)) := g_len (bt_at 2 (by decide))
theorem bts_2 {B : Nat} {sz : Int} {gi : Nat → Int} {ga : Nat → Int → Value} {r : zHp} {ty : Nat} {c : Option Nat} {x : Int} {v : Value} (h1 : 0 ≤ x) (h2 : x < ((40 : Nat) : Int)) (h3 : 40 ≤ 1000000) (hv : zTy ty v = true) (hc : zEl (bt B sz gi ga r) c v = true) : zStv ty 64 c (bt B sz gi ga r) (.ref (B + 2)) (vi x) v = some (bt B sz gi (ua ga 1 x v) r) := by
  rw [g_set (bt_at 2 (by decide)) h1 h2 h3 hv hc]
  refine congrArg some (bt_set (k := 2) (by decide) (congrArg (fun q => some (64, q)) (ar_ext fun i _ _ => ?_)) ?_)
  · simp only [ua, up]; by_cases q : i = x <;> simp [q]
  · intro q hq hn; match q, hq, hn with
    | 0, _, _ => rfl
    | 1, _, _ => exact congrArg (fun q => some (64, q)) (ar_ext fun i _ _ => by simp [ua])
    | 2, _, hn => exact absurd rfl hn
    | 3, _, _ => exact congrArg (fun q => some (64, q)) (ar_ext fun i _ _ => by simp [ua])
    | 4, _, _ => exact congrArg (fun q => some (64, q)) (ar_ext fun i _ _ => by simp [ua])
    | q + 5, h, _ => exact absurd h (by omega)
theorem bta_3 {B : Nat} {sz : Int} {gi : Nat → Int} {ga : Nat → Int → Value} {r : zHp} {ty : Nat} {x : Int} (h1 : 0 ≤ x) (h2 : x < ((40 : Nat) : Int)) (h3 : 40 ≤ 1000000) : zAxv ty 64 (bt B sz gi ga r) (.ref (B + 3)) (vi x) = zTv ty (ga 2 x) := g_ar (bt_at 3 (by decide)) h1 h2 h3
theorem btl_3 {B : Nat} {sz : Int} {gi : Nat → Int} {ga : Nat → Int → Value} {r : zHp} : zLenv 64 (bt B sz gi ga r) (.ref (B + 3)) = some (vi ((40 : Nat) : Int)) := g_len (bt_at 3 (by decide))
theorem bts_3 {B : Nat} {sz : Int} {gi : Nat → Int} {ga : Nat → Int → Value} {r : zHp} {ty : Nat} {c : Option Nat} {x : Int} {v : Value} (h1 : 0 ≤ x) (h2 : x < ((40 : Nat) : Int)) (h3 : 40 ≤ 1000000) (hv : zTy ty v = true) (hc : zEl (bt B sz gi ga r) c v = true) : zStv ty 64 c (bt B sz gi ga r) (.ref (B + 3)) (vi x) v = some (bt B sz gi (ua ga 2 x v) r) := by
  rw [g_set (bt_at 3 (by decide)) h1 h2 h3 hv hc]
  refine congrArg some (bt_set (k := 3) (by decide) (congrArg (fun q => some (64, q)) (ar_ext fun i _ _ => ?_)) ?_)
  · simp only [ua, up]; by_cases q : i = x <;> simp [q]
  · intro q hq hn; match q, hq, hn with
    | 0, _, _ => rfl
    | 1, _, _ => exact congrArg (fun q => some (64, q)) (ar_ext fun i _ _ => by simp [ua])
    | 2, _, _ => exact congrArg (fun q => some (64, q)) (ar_ext fun i _ _ => by simp [ua])
    | 3, _, hn => exact absurd rfl hn
    | 4, _, _ => exact congrArg (fun q => some (64, q)) (ar_ext fun i _ _ => by simp [ua])
    | q + 5, h, _ => exact absurd h (by omega)
theorem bta_4 {B : Nat} {sz : Int} {gi : Nat → Int} {ga : Nat → Int → Value} {r : zHp} {ty : Nat} {x : Int} (h1 : 0 ≤ x) (h2 : x < ((40 : Nat) : Int)) (h3 : 40 ≤ 1000000) : zAxv ty 64 (bt B sz gi ga r) (.ref (B + 4)) (vi x) = zTv ty (ga 3 x) := g_ar (bt_at 4 (by decide)) h1 h2 h3
theorem btl_4 {B : Nat} {sz : Int} {gi : Nat → Int} {ga : Nat → Int → Value} {r : zHp} : zLenv 64 (bt B sz gi ga r) (.ref (B + 4)) = some (vi ((40 : Nat) : Int)) := g_len (bt_at 4 (by decide))
theorem bts_4 {B : Nat} {sz : Int} {gi : Nat → Int} {ga : Nat → Int → Value} {r : zHp} {ty : Nat} {c : Option Nat} {x : Int} {v : Value} (h1 : 0 ≤ x) (h2 : x < ((40 : Nat) : Int)) (h3 : 40 ≤ 1000000) (hv : zTy ty v = true) (hc : zEl (bt B sz gi ga r) c v = true) : zStv ty 64 c (bt B sz gi ga r) (.ref (B + 4)) (vi x) v = some (bt B sz gi (ua ga 3 x v) r) := by
  rw [g_set (bt_at 4 (by decide)) h1 h2 h3 hv hc]
  refine congrArg some (bt_set (k := 4) (by decide) (congrArg (fun q => some (64, q)) (ar_ext fun i _ _ => ?_)) ?_)
  · simp only [ua, up]; by_cases q : i = x <;> simp [q]
  · intro q hq hn; match q, hq, hn with
    | 0, _, _ => rfl
    | 1, _, _ => exact congrArg (fun q => some (64, q)) (ar_ext fun i _ _ => by simp [ua])
    | 2, _, _ => exact congrArg (fun q => some (64, q)) (ar_ext fun i _ _ => by simp [ua])
    | 3, _, _ => exact congrArg (fun q => some (64, q)) (ar_ext fun i _ _ => by simp [ua])
    | 4, _, hn => exact absurd rfl hn
    | q + 5, h, _ => exact absurd h (by omega)
