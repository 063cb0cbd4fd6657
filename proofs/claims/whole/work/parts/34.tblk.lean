/-! A TILING AND WHAT IT HOLDS, at B .. B + 4 -/
def htF0 (B : Nat) (sz : Int) (gi : Nat → Int) : List Value := [vi sz, .ref (B + 1), .ref (B + 2), .ref (B + 3), .ref (B + 4), vi (gi 0)]
def htMk (B : Nat) (sz : Int) (gi : Nat → Int) (ga : Nat → Int → Value) : Nat → Option (Nat × List Value)
  | 0 => some (8, htF0 B sz gi)
  | 1 => some (64, ar (40) (ga 0))
  | 2 => some (64, ar (40) (ga 1))
  | 3 => some (64, ar (40) (ga 2))
  | 4 => some (64, ar (40) (ga 3))
  | _ => none
def ht (B : Nat) (sz : Int) (gi : Nat → Int) (ga : Nat → Int → Value) (r : zHp) : zHp := (fun b => if B ≤ b ∧ b < B + 5 then htMk B sz gi ga (b - B) else r.1 b, r.2)
theorem ht_2 {B : Nat} {sz : Int} {gi : Nat → Int} {ga : Nat → Int → Value} {r : zHp} : (ht B sz gi ga r).2 = r.2 := rfl
theorem ht_at {B : Nat} {sz : Int} {gi : Nat → Int} {ga : Nat → Int → Value} {r : zHp} (k : Nat) (h : k < 5) : (ht B sz gi ga r).1 (B + k) = htMk B sz gi ga k := by
  show (if B ≤ B + k ∧ B + k < B + 5 then htMk B sz gi ga (B + k - B) else r.1 (B + k)) = _
  rw [if_pos ⟨by omega, by omega⟩, Nat.add_sub_cancel_left]
theorem ht_out {B : Nat} {sz : Int} {gi : Nat → Int} {ga : Nat → Int → Value} {r : zHp} {b : Nat} (h : b < B ∨ B + 5 ≤ b) : (ht B sz gi ga r).1 b = r.1 b := if_neg (by omega)
theorem ht_ext {B : Nat} {sz : Int} {gi gi2 : Nat → Int} {ga ga2 : Nat → Int → Value} {r : zHp} {h : zHp} (h2 : h.2 = r.2) (ho : ∀ b, (b < B ∨ B + 5 ≤ b) → h.1 b = r.1 b) (hi : ∀ k, k < 5 → h.1 (B + k) = htMk B sz gi2 ga2 k) : h = ht B sz gi2 ga2 r := by
  refine Prod.ext (funext fun b => ?_) h2
  by_cases c : B ≤ b ∧ b < B + 5
  · obtain ⟨j, rfl⟩ : ∃ j, b = B + j := ⟨b - B, by omega⟩
    rw [hi j (by omega), ht_at j (by omega)]
  · rw [ho b (by omega), ht_out (by omega)]
theorem ht_set {B k : Nat} {sz : Int} {gi gi2 : Nat → Int} {ga ga2 : Nat → Int → Value} {r : zHp} {o : Nat × List Value} (hk : k < 5) (h1 : htMk B sz gi2 ga2 k = some o) (h2 : ∀ j, j < 5 → j ≠ k → htMk B sz gi2 ga2 j = htMk B sz gi ga j) : zSet (ht B sz gi ga r) (B + k) o = ht B sz gi2 ga2 r := by
  refine ht_ext rfl (fun b hb => ?_) (fun j hj => ?_)
  · show (if b = B + k then some o else (ht B sz gi ga r).1 b) = r.1 b
    rw [if_neg (by omega), ht_out hb]
  · show (if B + j = B + k then some o else (ht B sz gi ga r).1 (B + j)) = _
    by_cases e : j = k
    · rw [if_pos (by omega), e, h1]
    · rw [if_neg (by omega), ht_at j hj, h2 j hj e]
theorem ht_al {B : Nat} {sz : Int} {gi : Nat → Int} {ga : Nat → Int → Value} {r : zHp} {n : Nat} {o : Nat × List Value} (h : B + 5 ≤ r.2.1) : zAl (ht B sz gi ga r) n o = ht B sz gi ga (zAl r n o) := by
  refine Prod.ext (funext fun b => ?_) rfl
  show (if b = r.2.1 then some o else (ht B sz gi ga r).1 b) = (if B ≤ b ∧ b < B + 5 then htMk B sz gi ga (b - B) else (if b = r.2.1 then some o else r.1 b))
  by_cases c : B ≤ b ∧ b < B + 5
  · rw [if_pos c, if_neg (by omega)]; exact if_pos c
  · rw [if_neg c]; split
    · rfl
    · exact if_neg c
theorem ht_so {B : Nat} {sz : Int} {gi : Nat → Int} {ga : Nat → Int → Value} {r : zHp} {a : Nat} {o : Nat × List Value} (h : a < B ∨ B + 5 ≤ a) : zSet (ht B sz gi ga r) a o = ht B sz gi ga (zSet r a o) := by
  refine Prod.ext (funext fun b => ?_) rfl
  show (if b = a then some o else (ht B sz gi ga r).1 b) = (if B ≤ b ∧ b < B + 5 then htMk B sz gi ga (b - B) else (if b = a then some o else r.1 b))
  by_cases c : B ≤ b ∧ b < B + 5
  · rw [if_pos c, if_neg (by omega)]; exact if_pos c
  · rw [if_neg c]; split
    · rfl
    · exact if_neg c
theorem ht_of {B : Nat} {sz : Int} {gi : Nat → Int} {ga : Nat → Int → Value} {r : zHp} {ty ci k a : Nat} {vs : List Value} (e : r.1 a = some (ci, vs)) (h : a < B ∨ B + 5 ≤ a) : zGfv ty ci k (ht B sz gi ga r) (.ref a) = (vs[k]?).bind (zTv ty) := g_fld (by rw [ht_out h, e])
theorem ht_op {B : Nat} {sz : Int} {gi : Nat → Int} {ga : Nat → Int → Value} {r : zHp} {ty ci k a : Nat} {vs : List Value} {v : Value} (e : r.1 a = some (ci, vs)) (h : a < B ∨ B + 5 ≤ a) (hk : zIn k vs = true) (hv : zTy ty v = true) : zPfv ty ci k (ht B sz gi ga r) (.ref a) v = some (ht B sz gi ga (zSet r a (ci, vs.set k v))) := by
  rw [g_put (by rw [ht_out h, e]) (zIn_lt hk) hv, ht_so h]
theorem ht_ot {B : Nat} {sz : Int} {gi : Nat → Int} {ga : Nat → Int → Value} {r : zHp} {ci a : Nat} {vs rest : List Value} (e : r.1 a = some (ci, vs)) (h : a < B ∨ B + 5 ≤ a) : zTgo (ht B sz gi ga r) (.ref a :: rest) ci = some () := g_tag (by rw [ht_out h, e])
theorem ht_oa {B : Nat} {sz : Int} {gi : Nat → Int} {ga : Nat → Int → Value} {r : zHp} {ty t n a : Nat} {f : Int → Value} {x : Int} (e : r.1 a = some (t, ar n f)) (h : a < B ∨ B + 5 ≤ a) (h1 : 0 ≤ x) (h2 : x < n) (h3 : n ≤ 1000000) : zAxv ty t (ht B sz gi ga r) (.ref a) (vi x) = zTv ty (f x) := g_ar (by rw [ht_out h, e]) h1 h2 h3
theorem ht_ol {B : Nat} {sz : Int} {gi : Nat → Int} {ga : Nat → Int → Value} {r : zHp} {t n a : Nat} {f : Int → Value} (e : r.1 a = some (t, ar n f)) (h : a < B ∨ B + 5 ≤ a) : zLenv t (ht B sz gi ga r) (.ref a) = some (vi (n : Int)) := g_len (by rw [ht_out h, e])
theorem ht_oe {B : Nat} {sz : Int} {gi : Nat → Int} {ga : Nat → Int → Value} {r : zHp} {ci a : Nat} {vs : List Value} (e : r.1 a = some (ci, vs)) (h : a < B ∨ B + 5 ≤ a) : zEl (ht B sz gi ga r) (some ci) (.ref a) = true := by
  simp only [zEl, ht_out h, e, beq_self_eq_true]
theorem ht_m {B : Nat} {sz : Int} {gi : Nat → Int} {ga : Nat → Int → Value} {r : zHp} : (ht B sz gi ga r).1 B = some (8, htF0 B sz gi) := ht_at 0 (by decide)
theorem htt_0 {B : Nat} {sz : Int} {gi : Nat → Int} {ga : Nat → Int → Value} {r : zHp} {rest : List Value} : zTgo (ht B sz gi ga r) (.ref B :: rest) 8 = some () := g_tag ht_m
theorem htf_0_0 {B : Nat} {sz : Int} {gi : Nat → Int} {ga : Nat → Int → Value} {r : zHp} : zGfv 0 8 0 (ht B sz gi ga r) (.ref B) = some (vi sz) := by
  rw [g_fld ht_m]; rfl
theorem htf_0_1 {B : Nat} {sz : Int} {gi : Nat → Int} {ga : Nat → Int → Value} {r : zHp} : zGfv 3 8 1 (ht B sz gi ga r) (.ref B) = some (.ref (B + 1)) := by
  rw [g_fld ht_m]; rfl
theorem htf_0_2 {B : Nat} {sz : Int} {gi : Nat → Int} {ga : Nat → Int → Value} {r : zHp} : zGfv 3 8 2 (ht B sz gi ga r) (.ref B) = some (.ref (B + 2)) := by
  rw [g_fld ht_m]; rfl
theorem htf_0_3 {B : Nat} {sz : Int} {gi : Nat → Int} {ga : Nat → Int → Value} {r : zHp} : zGfv 3 8 3 (ht B sz gi ga r) (.ref B) = some (.ref (B + 3)) := by
  rw [g_fld ht_m]; rfl
theorem htf_0_4 {B : Nat} {sz : Int} {gi : Nat → Int} {ga : Nat → Int → Value} {r : zHp} : zGfv 3 8 4 (ht B sz gi ga r) (.ref B) = some (.ref (B + 4)) := by
  rw [g_fld ht_m]; rfl
theorem htf_0_5 {B : Nat} {sz : Int} {gi : Nat → Int} {ga : Nat → Int → Value} {r : zHp} : zGfv 0 8 5 (ht B sz gi ga r) (.ref B) = some ((vi (gi 0))) := by
  rw [g_fld ht_m]; rfl
theorem htp_0_5 {B : Nat} {sz : Int} {gi : Nat → Int} {ga : Nat → Int → Value} {r : zHp} {y : Int} : zPfv 0 8 5 (ht B sz gi ga r) (.ref B) (vi y) = some (ht B sz (ug gi 0 y) ga r) := by
  rw [g_put ht_m (by simp [htF0]) rfl]
  refine congrArg some (ht_set (k := 0) (by decide) (congrArg (fun q => some (8, q)) ?_) ?_)
  · simp only [htF0, ug, List.set_cons_zero, List.set_cons_succ]; rfl
  · intro q hq hn; match q, hq, hn with
    | 0, _, hn => exact absurd rfl hn
    | 1, _, _ => rfl
    | 2, _, _ => rfl
    | 3, _, _ => rfl
    | 4, _, _ => rfl
    | q + 5, h, _ => exact absurd h (by omega)
theorem hta_1 {B : Nat} {sz : Int} {gi : Nat → Int} {ga : Nat → Int → Value} {r : zHp} {ty : Nat} {x : Int} (h1 : 0 ≤ x) (h2 : x < ((40 : Nat) : Int)) (h3 : 40 ≤ 1000000) : zAxv ty 64 (ht B sz gi ga r) (.ref (B + 1)) (vi x) = zTv ty (ga 0 x) := g_ar (ht_at 1 (by decide)) h1 h2 h3
theorem htl_1 {B : Nat} {sz : Int} {gi : Nat → Int} {ga : Nat → Int → Value} {r : zHp} : zLenv 64 (ht B sz gi ga r) (.ref (B + 1)) = some (vi ((40 : Nat) : Int)) := g_len (ht_at 1 (by decide))
theorem hts_1 {B : Nat} {sz : Int} {gi : Nat → Int} {ga : Nat → Int → Value} {r : zHp} {ty : Nat} {c : Option Nat} {x : Int} {v : Value} (h1 : 0 ≤ x) (h2 : x < ((40 : Nat) : Int)) (h3 : 40 ≤ 1000000) (hv : zTy ty v = true) (hc : zEl (ht B sz gi ga r) c v = true) : zStv ty 64 c (ht B sz gi ga r) (.ref (B + 1)) (vi x) v = some (ht B sz gi (ua ga 0 x v) r) := by
  rw [g_set (ht_at 1 (by decide)) h1 h2 h3 hv hc]
  refine congrArg some (ht_set (k := 1) (by decide) (congrArg (fun q => some (64, q)) (ar_ext fun i _ _ => ?_)) ?_)
  · simp only [ua, up]; by_cases q : i = x <;> simp [q]
  · intro q hq hn; match q, hq, hn with
    | 0, _, _ => rfl
    | 1, _, hn => exact absurd rfl hn
    | 2, _, _ => exact congrArg (fun q => some (64, q)) (ar_ext fun i _ _ => by simp [ua])
    | 3, _, _ => exact congrArg (fun q => some (64, q)) (ar_ext fun i _ _ => by simp [ua])
    | 4, _, _ => exact congrArg (fun q => some (64, q)) (ar_ext fun i _ _ => by simp [ua])
    | q + 5, h, _ => exact absurd h (by omega)
theorem hta_2 {B : Nat} {sz : Int} {gi : Nat → Int} {ga : Nat → Int → Value} {r : zHp} {ty : Nat} {x : Int} (h1 : 0 ≤ x) (h2 : x < ((40 : Nat) : Int)) (h3 : 40 ≤ 1000000) : zAxv ty 64 (ht B sz gi ga r) (.ref (B + 2)) (vi x) = zTv ty (ga 1 x) := g_ar (ht_at 2 (by decide)) h1 h2 h3
theorem htl_2 {B : Nat} {sz : Int} {gi : Nat → Int} {ga : Nat → Int → Value} {r : zHp} : zLenv 64 (ht B sz gi ga r) (.ref (B + 2)) = some (vi ((40 : Nat) : Int)) := g_len (ht_at 2 (by decide))
theorem hts_2 {B : Nat} {sz : Int} {gi : Nat → Int} {ga : Nat → Int → Value} {r : zHp} {ty : Nat} {c : Option Nat} {x : Int} {v : Value} (h1 : 0 ≤ x) (h2 : x < ((40 : Nat) : Int)) (h3 : 40 ≤ 1000000) (hv : zTy ty v = true) (hc : zEl (ht B sz gi ga r) c v = true) : zStv ty 64 c (ht B sz gi ga r) (.ref (B + 2)) (vi x) v = some (ht B sz gi (ua ga 1 x v) r) := by
  rw [g_set (ht_at 2 (by decide)) h1 h2 h3 hv hc]
  refine congrArg some (ht_set (k := 2) (by decide) (congrArg (fun q => some (64, q)) (ar_ext fun i _ _ => ?_)) ?_)
  · simp only [ua, up]; by_cases q : i = x <;> simp [q]
  · intro q hq hn; match q, hq, hn with
    | 0, _, _ => rfl
    | 1, _, _ => exact congrArg (fun q => some (64, q)) (ar_ext fun i _ _ => by simp [ua])
    | 2, _, hn => exact absurd rfl hn
    | 3, _, _ => exact congrArg (fun q => some (64, q)) (ar_ext fun i _ _ => by simp [ua])
    | 4, _, _ => exact congrArg (fun q => some (64, q)) (ar_ext fun i _ _ => by simp [ua])
    | q + 5, h, _ => exact absurd h (by omega)
theorem hta_3 {B : Nat} {sz : Int} {gi : Nat → Int} {ga : Nat → Int → Value} {r : zHp} {ty : Nat} {x : Int} (h1 : 0 ≤ x) (h2 : x < ((40 : Nat) : Int)) (h3 : 40 ≤ 1000000) : zAxv ty 64 (ht B sz gi ga r) (.ref (B + 3)) (vi x) = zTv ty (ga 2 x) := g_ar (ht_at 3 (by decide)) h1 h2 h3
theorem htl_3 {B : Nat} {sz : Int} {gi : Nat → Int} {ga : Nat → Int → Value} {r : zHp} : zLenv 64 (ht B sz gi ga r) (.ref (B + 3)) = some (vi ((40 : Nat) : Int)) := g_len (ht_at 3 (by decide))
theorem hts_3 {B : Nat} {sz : Int} {gi : Nat → Int} {ga : Nat → Int → Value} {r : zHp} {ty : Nat} {c : Option Nat} {x : Int} {v : Value} (h1 : 0 ≤ x) (h2 : x < ((40 : Nat) : Int)) (h3 : 40 ≤ 1000000) (hv : zTy ty v = true) (hc : zEl (ht B sz gi ga r) c v = true) : zStv ty 64 c (ht B sz gi ga r) (.ref (B + 3)) (vi x) v = some (ht B sz gi (ua ga 2 x v) r) := by
  rw [g_set (ht_at 3 (by decide)) h1 h2 h3 hv hc]
  refine congrArg some (ht_set (k := 3) (by decide) (congrArg (fun q => some (64, q)) (ar_ext fun i _ _ => ?_)) ?_)
  · simp only [ua, up]; by_cases q : i = x <;> simp [q]
  · intro q hq hn; match q, hq, hn with
    | 0, _, _ => rfl
    | 1, _, _ => exact congrArg (fun q => some (64, q)) (ar_ext fun i _ _ => by simp [ua])
    | 2, _, _ => exact congrArg (fun q => some (64, q)) (ar_ext fun i _ _ => by simp [ua])
    | 3, _, hn => exact absurd rfl hn
    | 4, _, _ => exact congrArg (fun q => some (64, q)) (ar_ext fun i _ _ => by simp [ua])
    | q + 5, h, _ => exact absurd h (by omega)
theorem hta_4 {B : Nat} {sz : Int} {gi : Nat → Int} {ga : Nat → Int → Value} {r : zHp} {ty : Nat} {x : Int} (h1 : 0 ≤ x) (h2 : x < ((40 : Nat) : Int)) (h3 : 40 ≤ 1000000) : zAxv ty 64 (ht B sz gi ga r) (.ref (B + 4)) (vi x) = zTv ty (ga 3 x) := g_ar (ht_at 4 (by decide)) h1 h2 h3
theorem htl_4 {B : Nat} {sz : Int} {gi : Nat → Int} {ga : Nat → Int → Value} {r : zHp} : zLenv 64 (ht B sz gi ga r) (.ref (B + 4)) = some (vi ((40 : Nat) : Int)) := g_len (ht_at 4 (by decide))
theorem hts_4 {B : Nat} {sz : Int} {gi : Nat → Int} {ga : Nat → Int → Value} {r : zHp} {ty : Nat} {c : Option Nat} {x : Int} {v : Value} (h1 : 0 ≤ x) (h2 : x < ((40 : Nat) : Int)) (h3 : 40 ≤ 1000000) (hv : zTy ty v = true) (hc : zEl (ht B sz gi ga r) c v = true) : zStv ty 64 c (ht B sz gi ga r) (.ref (B + 4)) (vi x) v = some (ht B sz gi (ua ga 3 x v) r) := by
  rw [g_set (ht_at 4 (by decide)) h1 h2 h3 hv hc]
  refine congrArg some (ht_set (k := 4) (by decide) (congrArg (fun q => some (64, q)) (ar_ext fun i _ _ => ?_)) ?_)
  · simp only [ua, up]; by_cases q : i = x <;> simp [q]
  · intro q hq hn; match q, hq, hn with
    | 0, _, _ => rfl
    | 1, _, _ => exact congrArg (fun q => some (64, q)) (ar_ext fun i _ _ => by simp [ua])
    | 2, _, _ => exact congrArg (fun q => some (64, q)) (ar_ext fun i _ _ => by simp [ua])
    | 3, _, _ => exact congrArg (fun q => some (64, q)) (ar_ext fun i _ _ => by simp [ua])
    | 4, _, hn => exact absurd rfl hn
    | q + 5, h, _ => exact absurd h (by omega)
