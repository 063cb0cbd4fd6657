/-! THE REFERENCE: its rows as one state s (row k at index i; row 0: its own ints), at m .. m + 16 of a heap -/
def mF (m : Nat) (s : Nat → Int → Int) : List Value := [.ref (m + 1), .ref (m + 2), .ref (m + 3), .ref (m + 4), .ref (m + 5), .ref (m + 6), .ref (m + 7), .ref (m + 8), .ref (m + 9), .ref (m + 10), vi (s 0 10), vi (s 0 11), vi (s 0 12), vi (s 0 13), vi (s 0 14), .ref (m + 11), .ref (m + 12), vi (s 0 17), .ref (m + 13), .ref (m + 14), vi (s 0 20), vi (s 0 21), .ref (m + 15), vi (s 0 23), vi (s 0 24), .ref (m + 16), vi (s 0 26)]
def zMk (m : Nat) (s : Nat → Int → Int) : Nat → Option (Nat × List Value)
  | 0 => some (11, mF m s)
  | 1 => some (64, ar 58319 fun j => (vi (s 1 j)))
  | 2 => some (64, ar 58319 fun j => (vi (s 2 j)))
  | 3 => some (64, ar 79 fun j => (vi (s 3 j)))
  | 4 => some (64, ar 79 fun j => (vi (s 4 j)))
  | 5 => some (64, ar 79 fun j => (vi (s 5 j)))
  | 6 => some (64, ar 79 fun j => (vi (s 6 j)))
  | 7 => some (64, ar 79 fun j => (vi (s 7 j)))
  | 8 => some (66, ar 79 fun j => (vi (s 8 j)))
  | 9 => some (64, ar 40 fun j => (vi (s 9 j)))
  | 10 => some (64, ar 40 fun j => (vi (s 10 j)))
  | 11 => some (64, ar 40 fun j => (vi (s 11 j)))
  | 12 => some (64, ar 79 fun j => (vi (s 12 j)))
  | 13 => some (64, ar 79 fun j => (vi (s 13 j)))
  | 14 => some (64, ar 40 fun j => (vi (s 14 j)))
  | 15 => some (64, ar 40 fun j => (vi (s 15 j)))
  | 16 => some (65, ar 40 fun j => (vl (s 16 j)))
  | _ => none
def hp (m : Nat) (s : Nat → Int → Int) (r : zHp) : zHp := (fun b => if m ≤ b ∧ b < m + 17 then zMk m s (b - m) else r.1 b, r.2)
def us (s : Nat → Int → Int) (k : Nat) (x y : Int) : Nat → Int → Int := fun k2 j => if k2 = k ∧ j = x then y else s k2 j
theorem us_s {s : Nat → Int → Int} {k : Nat} {x y : Int} : us s k x y k x = y := if_pos ⟨rfl, rfl⟩
theorem us_j {s : Nat → Int → Int} {k : Nat} {x y j : Int} (h : j ≠ x) : us s k x y k j = s k j := if_neg fun q => h q.2
theorem us_k {s : Nat → Int → Int} {k k2 : Nat} {x y j : Int} (h : k2 ≠ k) : us s k x y k2 j = s k2 j := if_neg fun q => h q.1
theorem us_r {s : Nat → Int → Int} {k k2 : Nat} {x y : Int} (h : k2 ≠ k) : us s k x y k2 = s k2 := funext fun j => us_k h
theorem hp_2 {m : Nat} {s : Nat → Int → Int} {r : zHp} : (hp m s r).2 = r.2 := rfl
theorem hp_at {m : Nat} {s : Nat → Int → Int} {r : zHp} (k : Nat) (h : k < 17) : (hp m s r).1 (m + k) = zMk m s k := by
  show (if m ≤ m + k ∧ m + k < m + 17 then zMk m s (m + k - m) else r.1 (m + k)) = _
  rw [if_pos ⟨by omega, by omega⟩, Nat.add_sub_cancel_left]
theorem hp_m {m : Nat} {s : Nat → Int → Int} {r : zHp} : (hp m s r).1 m = some (11, mF m s) := hp_at 0 (by decide)
theorem hp_out {m : Nat} {s : Nat → Int → Int} {r : zHp} {b : Nat} (h : b < m ∨ m + 17 ≤ b) : (hp m s r).1 b = r.1 b := if_neg (by omega)
theorem hp_set {m k : Nat} {s s2 : Nat → Int → Int} {r : zHp} {o : Nat × List Value} (hk : k < 17) (h1 : zMk m s2 k = some o) (h2 : ∀ j, j < 17 → j ≠ k → zMk m s2 j = zMk m s j) : zSet (hp m s r) (m + k) o = hp m s2 r := by
  refine Prod.ext (funext fun b => ?_) rfl
  show (if b = m + k then some o else (hp m s r).1 b) = (hp m s2 r).1 b
  by_cases e : b = m + k
  · rw [if_pos e, e, hp_at k hk, h1]
  · rw [if_neg e]
    by_cases c : m ≤ b ∧ b < m + 17
    · obtain ⟨j, rfl⟩ : ∃ j, b = m + j := ⟨b - m, by omega⟩
      rw [hp_at j (by omega), hp_at j (by omega), h2 j (by omega) (by omega)]
    · rw [hp_out (by omega), hp_out (by omega)]
theorem mF_us {m k : Nat} {s : Nat → Int → Int} {x y : Int} (h : k ≠ 0) : mF m (us s k x y) = mF m s := by
  simp only [mF, us_k (Ne.symm h)]
theorem zMk_us {m k : Nat} {s : Nat → Int → Int} {x y : Int} (h : k ≠ 0) : ∀ j, j < 17 → j ≠ k → zMk m (us s k x y) j = zMk m s j := by
  intro j hj hn
  match j, hj with
  | 0, _ => simp only [zMk, mF_us h]
  | 1, _ => simp only [zMk, us_k hn]
  | 2, _ => simp only [zMk, us_k hn]
  | 3, _ => simp only [zMk, us_k hn]
  | 4, _ => simp only [zMk, us_k hn]
  | 5, _ => simp only [zMk, us_k hn]
  | 6, _ => simp only [zMk, us_k hn]
  | 7, _ => simp only [zMk, us_k hn]
  | 8, _ => simp only [zMk, us_k hn]
  | 9, _ => simp only [zMk, us_k hn]
  | 10, _ => simp only [zMk, us_k hn]
  | 11, _ => simp only [zMk, us_k hn]
  | 12, _ => simp only [zMk, us_k hn]
  | 13, _ => simp only [zMk, us_k hn]
  | 14, _ => simp only [zMk, us_k hn]
  | 15, _ => simp only [zMk, us_k hn]
  | 16, _ => simp only [zMk, us_k hn]
  | k + 17, h => exact absurd h (by omega)
theorem tg_m {m : Nat} {s : Nat → Int → Int} {r : zHp} {rest : List Value} : zTgo (hp m s r) (.ref m :: rest) 11 = some () := g_tag hp_m
theorem mf_0 {m : Nat} {s : Nat → Int → Int} {r : zHp} : zGfv 3 11 0 (hp m s r) (.ref m) = some (.ref (m + 1)) := by
  rw [g_fld hp_m]; rfl
theorem mf_1 {m : Nat} {s : Nat → Int → Int} {r : zHp} : zGfv 3 11 1 (hp m s r) (.ref m) = some (.ref (m + 2)) := by
  rw [g_fld hp_m]; rfl
theorem mf_2 {m : Nat} {s : Nat → Int → Int} {r : zHp} : zGfv 3 11 2 (hp m s r) (.ref m) = some (.ref (m + 3)) := by
  rw [g_fld hp_m]; rfl
theorem mf_3 {m : Nat} {s : Nat → Int → Int} {r : zHp} : zGfv 3 11 3 (hp m s r) (.ref m) = some (.ref (m + 4)) := by
  rw [g_fld hp_m]; rfl
theorem mf_4 {m : Nat} {s : Nat → Int → Int} {r : zHp} : zGfv 3 11 4 (hp m s r) (.ref m) = some (.ref (m + 5)) := by
  rw [g_fld hp_m]; rfl
theorem mf_5 {m : Nat} {s : Nat → Int → Int} {r : zHp} : zGfv 3 11 5 (hp m s r) (.ref m) = some (.ref (m + 6)) := by
  rw [g_fld hp_m]; rfl
theorem mf_6 {m : Nat} {s : Nat → Int → Int} {r : zHp} : zGfv 3 11 6 (hp m s r) (.ref m) = some (.ref (m + 7)) := by
  rw [g_fld hp_m]; rfl
theorem mf_7 {m : Nat} {s : Nat → Int → Int} {r : zHp} : zGfv 3 11 7 (hp m s r) (.ref m) = some (.ref (m + 8)) := by
  rw [g_fld hp_m]; rfl
theorem mf_8 {m : Nat} {s : Nat → Int → Int} {r : zHp} : zGfv 3 11 8 (hp m s r) (.ref m) = some (.ref (m + 9)) := by
  rw [g_fld hp_m]; rfl
theorem mf_9 {m : Nat} {s : Nat → Int → Int} {r : zHp} : zGfv 3 11 9 (hp m s r) (.ref m) = some (.ref (m + 10)) := by
  rw [g_fld hp_m]; rfl
theorem mf_10 {m : Nat} {s : Nat → Int → Int} {r : zHp} : zGfv 0 11 10 (hp m s r) (.ref m) = some (vi (s 0 10)) := by
  rw [g_fld hp_m]; rfl
theorem mp_10 {m : Nat} {s : Nat → Int → Int} {r : zHp} {y : Int} : zPfv 0 11 10 (hp m s r) (.ref m) (vi y) = some (hp m (us s 0 10 y) r) := by
  rw [g_put hp_m (by simp [mF]) rfl]
  refine congrArg some (hp_set (k := 0) (by decide) (congrArg (fun q => some (11, q)) ?_) ?_)
  · simp only [mF, us, List.set_cons_zero, List.set_cons_succ]; rfl
  · intro q hq hn; match q, hq, hn with
    | 0, _, hn => exact absurd rfl hn
    | 1, _, hn => simp only [zMk, us_k hn]
    | 2, _, hn => simp only [zMk, us_k hn]
    | 3, _, hn => simp only [zMk, us_k hn]
    | 4, _, hn => simp only [zMk, us_k hn]
    | 5, _, hn => simp only [zMk, us_k hn]
    | 6, _, hn => simp only [zMk, us_k hn]
    | 7, _, hn => simp only [zMk, us_k hn]
    | 8, _, hn => simp only [zMk, us_k hn]
    | 9, _, hn => simp only [zMk, us_k hn]
    | 10, _, hn => simp only [zMk, us_k hn]
    | 11, _, hn => simp only [zMk, us_k hn]
    | 12, _, hn => simp only [zMk, us_k hn]
    | 13, _, hn => simp only [zMk, us_k hn]
    | 14, _, hn => simp only [zMk, us_k hn]
    | 15, _, hn => simp only [zMk, us_k hn]
    | 16, _, hn => simp only [zMk, us_k hn]
    | k + 17, h, _ => exact absurd h (by omega)
theorem mf_11 {m : Nat} {s : Nat → Int → Int} {r : zHp} : zGfv 0 11 11 (hp m s r) (.ref m) = some (vi (s 0 11)) := by
  rw [g_fld hp_m]; rfl
theorem mp_11 {m : Nat} {s : Nat → Int → Int} {r : zHp} {y : Int} : zPfv 0 11 11 (hp m s r) (.ref m) (vi y) = some (hp m (us s 0 11 y) r) := by
  rw [g_put hp_m (by simp [mF]) rfl]
  refine congrArg some (hp_set (k := 0) (by decide) (congrArg (fun q => some (11, q)) ?_) ?_)
  · simp only [mF, us, List.set_cons_zero, List.set_cons_succ]; rfl
  · intro q hq hn; match q, hq, hn with
    | 0, _, hn => exact absurd rfl hn
    | 1, _, hn => simp only [zMk, us_k hn]
    | 2, _, hn => simp only [zMk, us_k hn]
    | 3, _, hn => simp only [zMk, us_k hn]
    | 4, _, hn => simp only [zMk, us_k hn]
    | 5, _, hn => simp only [zMk, us_k hn]
    | 6, _, hn => simp only [zMk, us_k hn]
    | 7, _, hn => simp only [zMk, us_k hn]
    | 8, _, hn => simp only [zMk, us_k hn]
    | 9, _, hn => simp only [zMk, us_k hn]
    | 10, _, hn => simp only [zMk, us_k hn]
    | 11, _, hn => simp only [zMk, us_k hn]
    | 12, _, hn => simp only [zMk, us_k hn]
    | 13, _, hn => simp only [zMk, us_k hn]
    | 14, _, hn => simp only [zMk, us_k hn]
    | 15, _, hn => simp only [zMk, us_k hn]
    | 16, _, hn => simp only [zMk, us_k hn]
    | k + 17, h, _ => exact absurd h (by omega)
theorem mf_12 {m : Nat} {s : Nat → Int → Int} {r : zHp} : zGfv 0 11 12 (hp m s r) (.ref m) = some (vi (s 0 12)) := by
  rw [g_fld hp_m]; rfl
theorem mp_12 {m : Nat} {s : Nat → Int → Int} {r : zHp} {y : Int} : zPfv 0 11 12 (hp m s r) (.ref m) (vi y) = some (hp m (us s 0 12 y) r) := by
  rw [g_put hp_m (by simp [mF]) rfl]
  refine congrArg some (hp_set (k := 0) (by decide) (congrArg (fun q => some (11, q)) ?_) ?_)
  · simp only [mF, us, List.set_cons_zero, List.set_cons_succ]; rfl
  · intro q hq hn; match q, hq, hn with
    | 0, _, hn => exact absurd rfl hn
    | 1, _, hn => simp only [zMk, us_k hn]
    | 2, _, hn => simp only [zMk, us_k hn]
    | 3, _, hn => simp only [zMk, us_k hn]
    | 4, _, hn => simp only [zMk, us_k hn]
    | 5, _, hn => simp only [zMk, us_k hn]
    | 6, _, hn => simp only [zMk, us_k hn]
    | 7, _, hn => simp only [zMk, us_k hn]
    | 8, _, hn => simp only [zMk, us_k hn]
    | 9, _, hn => simp only [zMk, us_k hn]
    | 10, _, hn => simp only [zMk, us_k hn]
    | 11, _, hn => simp only [zMk, us_k hn]
    | 12, _, hn => simp only [zMk, us_k hn]
    | 13, _, hn => simp only [zMk, us_k hn]
    | 14, _, hn => simp only [zMk, us_k hn]
    | 15, _, hn => simp only [zMk, us_k hn]
    | 16, _, hn => simp only [zMk, us_k hn]
    | k + 17, h, _ => exact absurd h (by omega)
theorem mf_13 {m : Nat} {s : Nat → Int → Int} {r : zHp} : zGfv 0 11 13 (hp m s r) (.ref m) = some (vi (s 0 13)) := by
  rw [g_fld hp_m]; rfl
theorem mp_13 {m : Nat} {s : Nat → Int → Int} {r : zHp} {y : Int} : zPfv 0 11 13 (hp m s r) (.ref m) (vi y) = some (hp m (us s 0 13 y) r) := by
  rw [g_put hp_m (by simp [mF]) rfl]
  refine congrArg some (hp_set (k := 0) (by decide) (congrArg (fun q => some (11, q)) ?_) ?_)
  · simp only [mF, us, List.set_cons_zero, List.set_cons_succ]; rfl
  · intro q hq hn; match q, hq, hn with
    | 0, _, hn => exact absurd rfl hn
    | 1, _, hn => simp only [zMk, us_k hn]
    | 2, _, hn => simp only [zMk, us_k hn]
    | 3, _, hn => simp only [zMk, us_k hn]
    | 4, _, hn => simp only [zMk, us_k hn]
    | 5, _, hn => simp only [zMk, us_k hn]
    | 6, _, hn => simp only [zMk, us_k hn]
    | 7, _, hn => simp only [zMk, us_k hn]
    | 8, _, hn => simp only [zMk, us_k hn]
    | 9, _, hn => simp only [zMk, us_k hn]
    | 10, _, hn => simp only [zMk, us_k hn]
    | 11, _, hn => simp only [zMk, us_k hn]
    | 12, _, hn => simp only [zMk, us_k hn]
    | 13, _, hn => simp only [zMk, us_k hn]
    | 14, _, hn => simp only [zMk, us_k hn]
    | 15, _, hn => simp only [zMk, us_k hn]
    | 16, _, hn => simp only [zMk, us_k hn]
    | k + 17, h, _ => exact absurd h (by omega)
theorem mf_14 {m : Nat} {s : Nat → Int → Int} {r : zHp} : zGfv 0 11 14 (hp m s r) (.ref m) = some (vi (s 0 14)) := by
  rw [g_fld hp_m]; rfl
theorem mp_14 {m : Nat} {s : Nat → Int → Int} {r : zHp} {y : Int} : zPfv 0 11 14 (hp m s r) (.ref m) (vi y) = some (hp m (us s 0 14 y) r) := by
  rw [g_put hp_m (by simp [mF]) rfl]
  refine congrArg some (hp_set (k := 0) (by decide) (congrArg (fun q => some (11, q)) ?_) ?_)
  · simp only [mF, us, List.set_cons_zero, List.set_cons_succ]; rfl
  · intro q hq hn; match q, hq, hn with
    | 0, _, hn => exact absurd rfl hn
    | 1, _, hn => simp only [zMk, us_k hn]
    | 2, _, hn => simp only [zMk, us_k hn]
    | 3, _, hn => simp only [zMk, us_k hn]
    | 4, _, hn => simp only [zMk, us_k hn]
    | 5, _, hn => simp only [zMk, us_k hn]
    | 6, _, hn => simp only [zMk, us_k hn]
    | 7, _, hn => simp only [zMk, us_k hn]
    | 8, _, hn => simp only [zMk, us_k hn]
    | 9, _, hn => simp only [zMk, us_k hn]
    | 10, _, hn => simp only [zMk, us_k hn]
    | 11, _, hn => simp only [zMk, us_k hn]
    | 12, _, hn => simp only [zMk, us_k hn]
    | 13, _, hn => simp only [zMk, us_k hn]
    | 14, _, hn => simp only [zMk, us_k hn]
    | 15, _, hn => simp only [zMk, us_k hn]
    | 16, _, hn => simp only [zMk, us_k hn]
    | k + 17, h, _ => exact absurd h (by omega)
theorem mf_15 {m : Nat} {s : Nat → Int → Int} {r : zHp} : zGfv 3 11 15 (hp m s r) (.ref m) = some (.ref (m + 11)) := by
  rw [g_fld hp_m]; rfl
theorem mf_16 {m : Nat} {s : Nat → Int → Int} {r : zHp} : zGfv 3 11 16 (hp m s r) (.ref m) = some (.ref (m + 12)) := by
  rw [g_fld hp_m]; rfl
theorem mf_17 {m : Nat} {s : Nat → Int → Int} {r : zHp} : zGfv 0 11 17 (hp m s r) (.ref m) = some (vi (s 0 17)) := by
  rw [g_fld hp_m]; rfl
theorem mp_17 {m : Nat} {s : Nat → Int → Int} {r : zHp} {y : Int} : zPfv 0 11 17 (hp m s r) (.ref m) (vi y) = some (hp m (us s 0 17 y) r) := by
  rw [g_put hp_m (by simp [mF]) rfl]
  refine congrArg some (hp_set (k := 0) (by decide) (congrArg (fun q => some (11, q)) ?_) ?_)
  · simp only [mF, us, List.set_cons_zero, List.set_cons_succ]; rfl
  · intro q hq hn; match q, hq, hn with
    | 0, _, hn => exact absurd rfl hn
    | 1, _, hn => simp only [zMk, us_k hn]
    | 2, _, hn => simp only [zMk, us_k hn]
    | 3, _, hn => simp only [zMk, us_k hn]
    | 4, _, hn => simp only [zMk, us_k hn]
    | 5, _, hn => simp only [zMk, us_k hn]
    | 6, _, hn => simp only [zMk, us_k hn]
    | 7, _, hn => simp only [zMk, us_k hn]
    | 8, _, hn => simp only [zMk, us_k hn]
    | 9, _, hn => simp only [zMk, us_k hn]
    | 10, _, hn => simp only [zMk, us_k hn]
    | 11, _, hn => simp only [zMk, us_k hn]
    | 12, _, hn => simp only [zMk, us_k hn]
    | 13, _, hn => simp only [zMk, us_k hn]
    | 14, _, hn => simp only [zMk, us_k hn]
    | 15, _, hn => simp only [zMk, us_k hn]
    | 16, _, hn => simp only [zMk, us_k hn]
    | k + 17, h, _ => exact absurd h (by omega)
theorem mf_18 {m : Nat} {s : Nat → Int → Int} {r : zHp} : zGfv 3 11 18 (hp m s r) (.ref m) = some (.ref (m + 13)) := by
  rw [g_fld hp_m]; rfl
theorem mf_19 {m : Nat} {s : Nat → Int → Int} {r : zHp} : zGfv 3 11 19 (hp m s r) (.ref m) = some (.ref (m + 14)) := by
  rw [g_fld hp_m]; rfl
theorem mf_20 {m : Nat} {s : Nat → Int → Int} {r : zHp} : zGfv 0 11 20 (hp m s r) (.ref m) = some (vi (s 0 20)) := by
  rw [g_fld hp_m]; rfl
theorem mp_20 {m : Nat} {s : Nat → Int → Int} {r : zHp} {y : Int} : zPfv 0 11 20 (hp m s r) (.ref m) (vi y) = some (hp m (us s 0 20 y) r) := by
  rw [g_put hp_m (by simp [mF]) rfl]
  refine congrArg some (hp_set (k := 0) (by decide) (congrArg (fun q => some (11, q)) ?_) ?_)
  · simp only [mF, us, List.set_cons_zero, List.set_cons_succ]; rfl
  · intro q hq hn; match q, hq, hn with
    | 0, _, hn => exact absurd rfl hn
    | 1, _, hn => simp only [zMk, us_k hn]
    | 2, _, hn => simp only [zMk, us_k hn]
    | 3, _, hn => simp only [zMk, us_k hn]
    | 4, _, hn => simp only [zMk, us_k hn]
    | 5, _, hn => simp only [zMk, us_k hn]
    | 6, _, hn => simp only [zMk, us_k hn]
    | 7, _, hn => simp only [zMk, us_k hn]
    | 8, _, hn => simp only [zMk, us_k hn]
    | 9, _, hn => simp only [zMk, us_k hn]
    | 10, _, hn => simp only [zMk, us_k hn]
    | 11, _, hn => simp only [zMk, us_k hn]
    | 12, _, hn => simp only [zMk, us_k hn]
    | 13, _, hn => simp only [zMk, us_k hn]
    | 14, _, hn => simp only [zMk, us_k hn]
    | 15, _, hn => simp only [zMk, us_k hn]
    | 16, _, hn => simp only [zMk, us_k hn]
    | k + 17, h, _ => exact absurd h (by omega)
theorem mf_21 {m : Nat} {s : Nat → Int → Int} {r : zHp} : zGfv 0 11 21 (hp m s r) (.ref m) = some (vi (s 0 21)) := by
  rw [g_fld hp_m]; rfl
theorem mp_21 {m : Nat} {s : Nat → Int → Int} {r : zHp} {y : Int} : zPfv 0 11 21 (hp m s r) (.ref m) (vi y) = some (hp m (us s 0 21 y) r) := by
  rw [g_put hp_m (by simp [mF]) rfl]
  refine congrArg some (hp_set (k := 0) (by decide) (congrArg (fun q => some (11, q)) ?_) ?_)
  · simp only [mF, us, List.set_cons_zero, List.set_cons_succ]; rfl
  · intro q hq hn; match q, hq, hn with
    | 0, _, hn => exact absurd rfl hn
    | 1, _, hn => simp only [zMk, us_k hn]
    | 2, _, hn => simp only [zMk, us_k hn]
    | 3, _, hn => simp only [zMk, us_k hn]
    | 4, _, hn => simp only [zMk, us_k hn]
    | 5, _, hn => simp only [zMk, us_k hn]
    | 6, _, hn => simp only [zMk, us_k hn]
    | 7, _, hn => simp only [zMk, us_k hn]
    | 8, _, hn => simp only [zMk, us_k hn]
    | 9, _, hn => simp only [zMk, us_k hn]
    | 10, _, hn => simp only [zMk, us_k hn]
    | 11, _, hn => simp only [zMk, us_k hn]
    | 12, _, hn => simp only [zMk, us_k hn]
    | 13, _, hn => simp only [zMk, us_k hn]
    | 14, _, hn => simp only [zMk, us_k hn]
    | 15, _, hn => simp only [zMk, us_k hn]
    | 16, _, hn => simp only [zMk, us_k hn]
    | k + 17, h, _ => exact absurd h (by omega)
theorem mf_22 {m : Nat} {s : Nat → Int → Int} {r : zHp} : zGfv 3 11 22 (hp m s r) (.ref m) = some (.ref (m + 15)) := by
  rw [g_fld hp_m]; rfl
theorem mf_23 {m : Nat} {s : Nat → Int → Int} {r : zHp} : zGfv 0 11 23 (hp m s r) (.ref m) = some (vi (s 0 23)) := by
  rw [g_fld hp_m]; rfl
theorem mp_23 {m : Nat} {s : Nat → Int → Int} {r : zHp} {y : Int} : zPfv 0 11 23 (hp m s r) (.ref m) (vi y) = some (hp m (us s 0 23 y) r) := by
  rw [g_put hp_m (by simp [mF]) rfl]
  refine congrArg some (hp_set (k := 0) (by decide) (congrArg (fun q => some (11, q)) ?_) ?_)
  · simp only [mF, us, List.set_cons_zero, List.set_cons_succ]; rfl
  · intro q hq hn; match q, hq, hn with
    | 0, _, hn => exact absurd rfl hn
    | 1, _, hn => simp only [zMk, us_k hn]
    | 2, _, hn => simp only [zMk, us_k hn]
    | 3, _, hn => simp only [zMk, us_k hn]
    | 4, _, hn => simp only [zMk, us_k hn]
    | 5, _, hn => simp only [zMk, us_k hn]
    | 6, _, hn => simp only [zMk, us_k hn]
    | 7, _, hn => simp only [zMk, us_k hn]
    | 8, _, hn => simp only [zMk, us_k hn]
    | 9, _, hn => simp only [zMk, us_k hn]
    | 10, _, hn => simp only [zMk, us_k hn]
    | 11, _, hn => simp only [zMk, us_k hn]
    | 12, _, hn => simp only [zMk, us_k hn]
    | 13, _, hn => simp only [zMk, us_k hn]
    | 14, _, hn => simp only [zMk, us_k hn]
    | 15, _, hn => simp only [zMk, us_k hn]
    | 16, _, hn => simp only [zMk, us_k hn]
    | k + 17, h, _ => exact absurd h (by omega)
theorem mf_24 {m : Nat} {s : Nat → Int → Int} {r : zHp} : zGfv 0 11 24 (hp m s r) (.ref m) = some (vi (s 0 24)) := by
  rw [g_fld hp_m]; rfl
theorem mp_24 {m : Nat} {s : Nat → Int → Int} {r : zHp} {y : Int} : zPfv 0 11 24 (hp m s r) (.ref m) (vi y) = some (hp m (us s 0 24 y) r) := by
  rw [g_put hp_m (by simp [mF]) rfl]
  refine congrArg some (hp_set (k := 0) (by decide) (congrArg (fun q => some (11, q)) ?_) ?_)
  · simp only [mF, us, List.set_cons_zero, List.set_cons_succ]; rfl
  · intro q hq hn; match q, hq, hn with
    | 0, _, hn => exact absurd rfl hn
    | 1, _, hn => simp only [zMk, us_k hn]
    | 2, _, hn => simp only [zMk, us_k hn]
    | 3, _, hn => simp only [zMk, us_k hn]
    | 4, _, hn => simp only [zMk, us_k hn]
    | 5, _, hn => simp only [zMk, us_k hn]
    | 6, _, hn => simp only [zMk, us_k hn]
    | 7, _, hn => simp only [zMk, us_k hn]
    | 8, _, hn => simp only [zMk, us_k hn]
    | 9, _, hn => simp only [zMk, us_k hn]
    | 10, _, hn => simp only [zMk, us_k hn]
    | 11, _, hn => simp only [zMk, us_k hn]
    | 12, _, hn => simp only [zMk, us_k hn]
    | 13, _, hn => simp only [zMk, us_k hn]
    | 14, _, hn => simp only [zMk, us_k hn]
    | 15, _, hn => simp only [zMk, us_k hn]
    | 16, _, hn => simp only [zMk, us_k hn]
    | k + 17, h, _ => exact absurd h (by omega)
theorem mf_25 {m : Nat} {s : Nat → Int → Int} {r : zHp} : zGfv 3 11 25 (hp m s r) (.ref m) = some (.ref (m + 16)) := by
  rw [g_fld hp_m]; rfl
theorem mf_26 {m : Nat} {s : Nat → Int → Int} {r : zHp} : zGfv 0 11 26 (hp m s r) (.ref m) = some (vi (s 0 26)) := by
  rw [g_fld hp_m]; rfl
theorem mp_26 {m : Nat} {s : Nat → Int → Int} {r : zHp} {y : Int} : zPfv 0 11 26 (hp m s r) (.ref m) (vi y) = some (hp m (us s 0 26 y) r) := by
  rw [g_put hp_m (by simp [mF]) rfl]
  refine congrArg some (hp_set (k := 0) (by decide) (congrArg (fun q => some (11, q)) ?_) ?_)
  · simp only [mF, us, List.set_cons_zero, List.set_cons_succ]; rfl
  · intro q hq hn; match q, hq, hn with
    | 0, _, hn => exact absurd rfl hn
    | 1, _, hn => simp only [zMk, us_k hn]
    | 2, _, hn => simp only [zMk, us_k hn]
    | 3, _, hn => simp only [zMk, us_k hn]
    | 4, _, hn => simp only [zMk, us_k hn]
    | 5, _, hn => simp only [zMk, us_k hn]
    | 6, _, hn => simp only [zMk, us_k hn]
    | 7, _, hn => simp only [zMk, us_k hn]
    | 8, _, hn => simp only [zMk, us_k hn]
    | 9, _, hn => simp only [zMk, us_k hn]
    | 10, _, hn => simp only [zMk, us_k hn]
    | 11, _, hn => simp only [zMk, us_k hn]
    | 12, _, hn => simp only [zMk, us_k hn]
    | 13, _, hn => simp only [zMk, us_k hn]
    | 14, _, hn => simp only [zMk, us_k hn]
    | 15, _, hn => simp only [zMk, us_k hn]
    | 16, _, hn => simp only [zMk, us_k hn]
    | k + 17, h, _ => exact absurd h (by omega)
theorem ax_1 {m : Nat} {s : Nat → Int → Int} {r : zHp} {x : Int} (h1 : 0 ≤ x) (h2 : x < 58319) : zAxv 0 64 (hp m s r) (.ref (m + 1)) (vi x) = some (vi (s 1 x)) := by
  rw [g_ar (n := 58319) (hp_at 1 (by decide)) h1 h2 (by decide)]; rfl
theorem asa_1 {m : Nat} {s : Nat → Int → Int} {r : zHp} {x y : Int} (h1 : 0 ≤ x) (h2 : x < 58319) : zStv (zStK 64).1 64 (zStK 64).2 (hp m s r) (.ref (m + 1)) (vi x) (vi y) = some (hp m (us s 1 x y) r) := by
  rw [g_set (n := 58319) (hp_at 1 (by decide)) h1 h2 (by decide) rfl rfl]
  refine congrArg some (hp_set (by decide) (congrArg (fun q => some (64, q)) (ar_ext fun i _ _ => ?_)) (zMk_us (by decide)))
  by_cases e : i = x
  · subst e; simp only [us_s, up_s]
  · simp only [us_j e, up_n e]
theorem aso_1 {m : Nat} {s : Nat → Int → Int} {r : zHp} {x y : Int} (h1 : 0 ≤ x) (h2 : x < 58319) : zStv (zStK 64).1 64 none (hp m s r) (.ref (m + 1)) (vi x) (vi y) = some (hp m (us s 1 x y) r) := by
  rw [g_set (n := 58319) (hp_at 1 (by decide)) h1 h2 (by decide) rfl rfl]
  refine congrArg some (hp_set (by decide) (congrArg (fun q => some (64, q)) (ar_ext fun i _ _ => ?_)) (zMk_us (by decide)))
  by_cases e : i = x
  · subst e; simp only [us_s, up_s]
  · simp only [us_j e, up_n e]
theorem ax_2 {m : Nat} {s : Nat → Int → Int} {r : zHp} {x : Int} (h1 : 0 ≤ x) (h2 : x < 58319) : zAxv 0 64 (hp m s r) (.ref (m + 2)) (vi x) = some (vi (s 2 x)) := by
  rw [g_ar (n := 58319) (hp_at 2 (by decide)) h1 h2 (by decide)]; rfl
theorem asa_2 {m : Nat} {s : Nat → Int → Int} {r : zHp} {x y : Int} (h1 : 0 ≤ x) (h2 : x < 58319) : zStv (zStK 64).1 64 (zStK 64).2 (hp m s r) (.ref (m + 2)) (vi x) (vi y) = some (hp m (us s 2 x y) r) := by
  rw [g_set (n := 58319) (hp_at 2 (by decide)) h1 h2 (by decide) rfl rfl]
  refine congrArg some (hp_set (by decide) (congrArg (fun q => some (64, q)) (ar_ext fun i _ _ => ?_)) (zMk_us (by decide)))
  by_cases e : i = x
  · subst e; simp only [us_s, up_s]
  · simp only [us_j e, up_n e]
theorem aso_2 {m : Nat} {s : Nat → Int → Int} {r : zHp} {x y : Int} (h1 : 0 ≤ x) (h2 : x < 58319) : zStv (zStK 64).1 64 none (hp m s r) (.ref (m + 2)) (vi x) (vi y) = some (hp m (us s 2 x y) r) := by
  rw [g_set (n := 58319) (hp_at 2 (by decide)) h1 h2 (by decide) rfl rfl]
  refine congrArg some (hp_set (by decide) (congrArg (fun q => some (64, q)) (ar_ext fun i _ _ => ?_)) (zMk_us (by decide)))
  by_cases e : i = x
  · subst e; simp only [us_s, up_s]
  · simp only [us_j e, up_n e]
theorem ax_3 {m : Nat} {s : Nat → Int → Int} {r : zHp} {x : Int} (h1 : 0 ≤ x) (h2 : x < 79) : zAxv 0 64 (hp m s r) (.ref (m + 3)) (vi x) = some (vi (s 3 x)) := by
  rw [g_ar (n := 79) (hp_at 3 (by decide)) h1 h2 (by decide)]; rfl
theorem asa_3 {m : Nat} {s : Nat → Int → Int} {r : zHp} {x y : Int} (h1 : 0 ≤ x) (h2 : x < 79) : zStv (zStK 64).1 64 (zStK 64).2 (hp m s r) (.ref (m + 3)) (vi x) (vi y) = some (hp m (us s 3 x y) r) := by
  rw [g_set (n := 79) (hp_at 3 (by decide)) h1 h2 (by decide) rfl rfl]
  refine congrArg some (hp_set (by decide) (congrArg (fun q => some (64, q)) (ar_ext fun i _ _ => ?_)) (zMk_us (by decide)))
  by_cases e : i = x
  · subst e; simp only [us_s, up_s]
  · simp only [us_j e, up_n e]
theorem aso_3 {m : Nat} {s : Nat → Int → Int} {r : zHp} {x y : Int} (h1 : 0 ≤ x) (h2 : x < 79) : zStv (zStK 64).1 64 none (hp m s r) (.ref (m + 3)) (vi x) (vi y) = some (hp m (us s 3 x y) r) := by
  rw [g_set (n := 79) (hp_at 3 (by decide)) h1 h2 (by decide) rfl rfl]
  refine congrArg some (hp_set (by decide) (congrArg (fun q => some (64, q)) (ar_ext fun i _ _ => ?_)) (zMk_us (by decide)))
  by_cases e : i = x
  · subst e; simp only [us_s, up_s]
  · simp only [us_j e, up_n e]
theorem ax_4 {m : Nat} {s : Nat → Int → Int} {r : zHp} {x : Int} (h1 : 0 ≤ x) (h2 : x < 79) : zAxv 0 64 (hp m s r) (.ref (m + 4)) (vi x) = some (vi (s 4 x)) := by
  rw [g_ar (n := 79) (hp_at 4 (by decide)) h1 h2 (by decide)]; rfl
theorem asa_4 {m : Nat} {s : Nat → Int → Int} {r : zHp} {x y : Int} (h1 : 0 ≤ x) (h2 : x < 79) : zStv (zStK 64).1 64 (zStK 64).2 (hp m s r) (.ref (m + 4)) (vi x) (vi y) = some (hp m (us s 4 x y) r) := by
  rw [g_set (n := 79) (hp_at 4 (by decide)) h1 h2 (by decide) rfl rfl]
  refine congrArg some (hp_set (by decide) (congrArg (fun q => some (64, q)) (ar_ext fun i _ _ => ?_)) (zMk_us (by decide)))
  by_cases e : i = x
  · subst e; simp only [us_s, up_s]
  · simp only [us_j e, up_n e]
theorem aso_4 {m : Nat} {s : Nat → Int → Int} {r : zHp} {x y : Int} (h1 : 0 ≤ x) (h2 : x < 79) : zStv (zStK 64).1 64 none (hp m s r) (.ref (m + 4)) (vi x) (vi y) = some (hp m (us s 4 x y) r) := by
  rw [g_set (n := 79) (hp_at 4 (by decide)) h1 h2 (by decide) rfl rfl]
  refine congrArg some (hp_set (by decide) (congrArg (fun q => some (64, q)) (ar_ext fun i _ _ => ?_)) (zMk_us (by decide)))
  by_cases e : i = x
  · subst e; simp only [us_s, up_s]
  · simp only [us_j e, up_n e]
theorem ax_5 {m : Nat} {s : Nat → Int → Int} {r : zHp} {x : Int} (h1 : 0 ≤ x) (h2 : x < 79) : zAxv 0 64 (hp m s r) (.ref (m + 5)) (vi x) = some (vi (s 5 x)) := by
  rw [g_ar (n := 79) (hp_at 5 (by decide)) h1 h2 (by decide)]; rfl
theorem asa_5 {m : Nat} {s : Nat → Int → Int} {r : zHp} {x y : Int} (h1 : 0 ≤ x) (h2 : x < 79) : zStv (zStK 64).1 64 (zStK 64).2 (hp m s r) (.ref (m + 5)) (vi x) (vi y) = some (hp m (us s 5 x y) r) := by
  rw [g_set (n := 79) (hp_at 5 (by decide)) h1 h2 (by decide) rfl rfl]
  refine congrArg some (hp_set (by decide) (congrArg (fun q => some (64, q)) (ar_ext fun i _ _ => ?_)) (zMk_us (by decide)))
  by_cases e : i = x
  · subst e; simp only [us_s, up_s]
  · simp only [us_j e, up_n e]
theorem aso_5 {m : Nat} {s : Nat → Int → Int} {r : zHp} {x y : Int} (h1 : 0 ≤ x) (h2 : x < 79) : zStv (zStK 64).1 64 none (hp m s r) (.ref (m + 5)) (vi x) (vi y) = some (hp m (us s 5 x y) r) := by
  rw [g_set (n := 79) (hp_at 5 (by decide)) h1 h2 (by decide) rfl rfl]
  refine congrArg some (hp_set (by decide) (congrArg (fun q => some (64, q)) (ar_ext fun i _ _ => ?_)) (zMk_us (by decide)))
  by_cases e : i = x
  · subst e; simp only [us_s, up_s]
  · simp only [us_j e, up_n e]
theorem ax_6 {m : Nat} {s : Nat → Int → Int} {r : zHp} {x : Int} (h1 : 0 ≤ x) (h2 : x < 79) : zAxv 0 64 (hp m s r) (.ref (m + 6)) (vi x) = some (vi (s 6 x)) := by
  rw [g_ar (n := 79) (hp_at 6 (by decide)) h1 h2 (by decide)]; rfl
theorem asa_6 {m : Nat} {s : Nat → Int → Int} {r : zHp} {x y : Int} (h1 : 0 ≤ x) (h2 : x < 79) : zStv (zStK 64).1 64 (zStK 64).2 (hp m s r) (.ref (m + 6)) (vi x) (vi y) = some (hp m (us s 6 x y) r) := by
  rw [g_set (n := 79) (hp_at 6 (by decide)) h1 h2 (by decide) rfl rfl]
  refine congrArg some (hp_set (by decide) (congrArg (fun q => some (64, q)) (ar_ext fun i _ _ => ?_)) (zMk_us (by decide)))
  by_cases e : i = x
  · subst e; simp only [us_s, up_s]
  · simp only [us_j e, up_n e]
theorem aso_6 {m : Nat} {s : Nat → Int → Int} {r : zHp} {x y : Int} (h1 : 0 ≤ x) (h2 : x < 79) : zStv (zStK 64).1 64 none (hp m s r) (.ref (m + 6)) (vi x) (vi y) = some (hp m (us s 6 x y) r) := by
  rw [g_set (n := 79) (hp_at 6 (by decide)) h1 h2 (by decide) rfl rfl]
  refine congrArg some (hp_set (by decide) (congrArg (fun q => some (64, q)) (ar_ext fun i _ _ => ?_)) (zMk_us (by decide)))
  by_cases e : i = x
  · subst e; simp only [us_s, up_s]
  · simp only [us_j e, up_n e]
theorem ax_7 {m : Nat} {s : Nat → Int → Int} {r : zHp} {x : Int} (h1 : 0 ≤ x) (h2 : x < 79) : zAxv 0 64 (hp m s r) (.ref (m + 7)) (vi x) = some (vi (s 7 x)) := by
  rw [g_ar (n := 79) (hp_at 7 (by decide)) h1 h2 (by decide)]; rfl
theorem asa_7 {m : Nat} {s : Nat → Int → Int} {r : zHp} {x y : Int} (h1 : 0 ≤ x) (h2 : x < 79) : zStv (zStK 64).1 64 (zStK 64).2 (hp m s r) (.ref (m + 7)) (vi x) (vi y) = some (hp m (us s 7 x y) r) := by
  rw [g_set (n := 79) (hp_at 7 (by decide)) h1 h2 (by decide) rfl rfl]
  refine congrArg some (hp_set (by decide) (congrArg (fun q => some (64, q)) (ar_ext fun i _ _ => ?_)) (zMk_us (by decide)))
  by_cases e : i = x
  · subst e; simp only [us_s, up_s]
  · simp only [us_j e, up_n e]
theorem aso_7 {m : Nat} {s : Nat → Int → Int} {r : zHp} {x y : Int} (h1 : 0 ≤ x) (h2 : x < 79) : zStv (zStK 64).1 64 none (hp m s r) (.ref (m + 7)) (vi x) (vi y) = some (hp m (us s 7 x y) r) := by
  rw [g_set (n := 79) (hp_at 7 (by decide)) h1 h2 (by decide) rfl rfl]
  refine congrArg some (hp_set (by decide) (congrArg (fun q => some (64, q)) (ar_ext fun i _ _ => ?_)) (zMk_us (by decide)))
  by_cases e : i = x
  · subst e; simp only [us_s, up_s]
  · simp only [us_j e, up_n e]
theorem ax_8 {m : Nat} {s : Nat → Int → Int} {r : zHp} {x : Int} (h1 : 0 ≤ x) (h2 : x < 79) : zAxv 0 66 (hp m s r) (.ref (m + 8)) (vi x) = some (vi (s 8 x)) := by
  rw [g_ar (n := 79) (hp_at 8 (by decide)) h1 h2 (by decide)]; rfl
theorem asa_8 {m : Nat} {s : Nat → Int → Int} {r : zHp} {x y : Int} (hy : y = 0 ∨ y = 1) (h1 : 0 ≤ x) (h2 : x < 79) : zStv (zStK 66).1 66 (zStK 66).2 (hp m s r) (.ref (m + 8)) (vi x) (vi y) = some (hp m (us s 8 x y) r) := by
  rw [g_set (n := 79) (hp_at 8 (by decide)) h1 h2 (by decide) (by rcases hy with rfl | rfl <;> rfl) rfl]
  refine congrArg some (hp_set (by decide) (congrArg (fun q => some (66, q)) (ar_ext fun i _ _ => ?_)) (zMk_us (by decide)))
  by_cases e : i = x
  · subst e; simp only [us_s, up_s]
  · simp only [us_j e, up_n e]
theorem aso_8 {m : Nat} {s : Nat → Int → Int} {r : zHp} {x y : Int} (hy : y = 0 ∨ y = 1) (h1 : 0 ≤ x) (h2 : x < 79) : zStv (zStK 66).1 66 none (hp m s r) (.ref (m + 8)) (vi x) (vi y) = some (hp m (us s 8 x y) r) := by
  rw [g_set (n := 79) (hp_at 8 (by decide)) h1 h2 (by decide) (by rcases hy with rfl | rfl <;> rfl) rfl]
  refine congrArg some (hp_set (by decide) (congrArg (fun q => some (66, q)) (ar_ext fun i _ _ => ?_)) (zMk_us (by decide)))
  by_cases e : i = x
  · subst e; simp only [us_s, up_s]
  · simp only [us_j e, up_n e]
theorem ax_9 {m : Nat} {s : Nat → Int → Int} {r : zHp} {x : Int} (h1 : 0 ≤ x) (h2 : x < 40) : zAxv 0 64 (hp m s r) (.ref (m + 9)) (vi x) = some (vi (s 9 x)) := by
  rw [g_ar (n := 40) (hp_at 9 (by decide)) h1 h2 (by decide)]; rfl
theorem asa_9 {m : Nat} {s : Nat → Int → Int} {r : zHp} {x y : Int} (h1 : 0 ≤ x) (h2 : x < 40) : zStv (zStK 64).1 64 (zStK 64).2 (hp m s r) (.ref (m + 9)) (vi x) (vi y) = some (hp m (us s 9 x y) r) := by
  rw [g_set (n := 40) (hp_at 9 (by decide)) h1 h2 (by decide) rfl rfl]
  refine congrArg some (hp_set (by decide) (congrArg (fun q => some (64, q)) (ar_ext fun i _ _ => ?_)) (zMk_us (by decide)))
  by_cases e : i = x
  · subst e; simp only [us_s, up_s]
  · simp only [us_j e, up_n e]
theorem aso_9 {m : Nat} {s : Nat → Int → Int} {r : zHp} {x y : Int} (h1 : 0 ≤ x) (h2 : x < 40) : zStv (zStK 64).1 64 none (hp m s r) (.ref (m + 9)) (vi x) (vi y) = some (hp m (us s 9 x y) r) := by
  rw [g_set (n := 40) (hp_at 9 (by decide)) h1 h2 (by decide) rfl rfl]
  refine congrArg some (hp_set (by decide) (congrArg (fun q => some (64, q)) (ar_ext fun i _ _ => ?_)) (zMk_us (by decide)))
  by_cases e : i = x
  · subst e; simp only [us_s, up_s]
  · simp only [us_j e, up_n e]
theorem ax_10 {m : Nat} {s : Nat → Int → Int} {r : zHp} {x : Int} (h1 : 0 ≤ x) (h2 : x < 40) : zAxv 0 64 (hp m s r) (.ref (m + 10)) (vi x) = some (vi (s 10 x)) := by
  rw [g_ar (n := 40) (hp_at 10 (by decide)) h1 h2 (by decide)]; rfl
theorem asa_10 {m : Nat} {s : Nat → Int → Int} {r : zHp} {x y : Int} (h1 : 0 ≤ x) (h2 : x < 40) : zStv (zStK 64).1 64 (zStK 64).2 (hp m s r) (.ref (m + 10)) (vi x) (vi y) = some (hp m (us s 10 x y) r) := by
  rw [g_set (n := 40) (hp_at 10 (by decide)) h1 h2 (by decide) rfl rfl]
  refine congrArg some (hp_set (by decide) (congrArg (fun q => some (64, q)) (ar_ext fun i _ _ => ?_)) (zMk_us (by decide)))
  by_cases e : i = x
  · subst e; simp only [us_s, up_s]
  · simp only [us_j e, up_n e]
theorem aso_10 {m : Nat} {s : Nat → Int → Int} {r : zHp} {x y : Int} (h1 : 0 ≤ x) (h2 : x < 40) : zStv (zStK 64).1 64 none (hp m s r) (.ref (m + 10)) (vi x) (vi y) = some (hp m (us s 10 x y) r) := by
  rw [g_set (n := 40) (hp_at 10 (by decide)) h1 h2 (by decide) rfl rfl]
  refine congrArg some (hp_set (by decide) (congrArg (fun q => some (64, q)) (ar_ext fun i _ _ => ?_)) (zMk_us (by decide)))
  by_cases e : i = x
  · subst e; simp only [us_s, up_s]
  · simp only [us_j e, up_n e]
theorem ax_11 {m : Nat} {s : Nat → Int → Int} {r : zHp} {x : Int} (h1 : 0 ≤ x) (h2 : x < 40) : zAxv 0 64 (hp m s r) (.ref (m + 11)) (vi x) = some (vi (s 11 x)) := by
  rw [g_ar (n := 40) (hp_at 11 (by decide)) h1 h2 (by decide)]; rfl
theorem asa_11 {m : Nat} {s : Nat → Int → Int} {r : zHp} {x y : Int} (h1 : 0 ≤ x) (h2 : x < 40) : zStv (zStK 64).1 64 (zStK 64).2 (hp m s r) (.ref (m + 11)) (vi x) (vi y) = some (hp m (us s 11 x y) r) := by
  rw [g_set (n := 40) (hp_at 11 (by decide)) h1 h2 (by decide) rfl rfl]
  refine congrArg some (hp_set (by decide) (congrArg (fun q => some (64, q)) (ar_ext fun i _ _ => ?_)) (zMk_us (by decide)))
  by_cases e : i = x
  · subst e; simp only [us_s, up_s]
  · simp only [us_j e, up_n e]
theorem aso_11 {m : Nat} {s : Nat → Int → Int} {r : zHp} {x y : Int} (h1 : 0 ≤ x) (h2 : x < 40) : zStv (zStK 64).1 64 none (hp m s r) (.ref (m + 11)) (vi x) (vi y) = some (hp m (us s 11 x y) r) := by
  rw [g_set (n := 40) (hp_at 11 (by decide)) h1 h2 (by decide) rfl rfl]
  refine congrArg some (hp_set (by decide) (congrArg (fun q => some (64, q)) (ar_ext fun i _ _ => ?_)) (zMk_us (by decide)))
  by_cases e : i = x
  · subst e; simp only [us_s, up_s]
  · simp only [us_j e, up_n e]
theorem ax_12 {m : Nat} {s : Nat → Int → Int} {r : zHp} {x : Int} (h1 : 0 ≤ x) (h2 : x < 79) : zAxv 0 64 (hp m s r) (.ref (m + 12)) (vi x) = some (vi (s 12 x)) := by
  rw [g_ar (n := 79) (hp_at 12 (by decide)) h1 h2 (by decide)]; rfl
theorem asa_12 {m : Nat} {s : Nat → Int → Int} {r : zHp} {x y : Int} (h1 : 0 ≤ x) (h2 : x < 79) : zStv (zStK 64).1 64 (zStK 64).2 (hp m s r) (.ref (m + 12)) (vi x) (vi y) = some (hp m (us s 12 x y) r) := by
  rw [g_set (n := 79) (hp_at 12 (by decide)) h1 h2 (by decide) rfl rfl]
  refine congrArg some (hp_set (by decide) (congrArg (fun q => some (64, q)) (ar_ext fun i _ _ => ?_)) (zMk_us (by decide)))
  by_cases e : i = x
  · subst e; simp only [us_s, up_s]
  · simp only [us_j e, up_n e]
theorem aso_12 {m : Nat} {s : Nat → Int → Int} {r : zHp} {x y : Int} (h1 : 0 ≤ x) (h2 : x < 79) : zStv (zStK 64).1 64 none (hp m s r) (.ref (m + 12)) (vi x) (vi y) = some (hp m (us s 12 x y) r) := by
  rw [g_set (n := 79) (hp_at 12 (by decide)) h1 h2 (by decide) rfl rfl]
  refine congrArg some (hp_set (by decide) (congrArg (fun q => some (64, q)) (ar_ext fun i _ _ => ?_)) (zMk_us (by decide)))
  by_cases e : i = x
  · subst e; simp only [us_s, up_s]
  · simp only [us_j e, up_n e]
theorem ax_13 {m : Nat} {s : Nat → Int → Int} {r : zHp} {x : Int} (h1 : 0 ≤ x) (h2 : x < 79) : zAxv 0 64 (hp m s r) (.ref (m + 13)) (vi x) = some (vi (s 13 x)) := by
  rw [g_ar (n := 79) (hp_at 13 (by decide)) h1 h2 (by decide)]; rfl
theorem asa_13 {m : Nat} {s : Nat → Int → Int} {r : zHp} {x y : Int} (h1 : 0 ≤ x) (h2 : x < 79) : zStv (zStK 64).1 64 (zStK 64).2 (hp m s r) (.ref (m + 13)) (vi x) (vi y) = some (hp m (us s 13 x y) r) := by
  rw [g_set (n := 79) (hp_at 13 (by decide)) h1 h2 (by decide) rfl rfl]
  refine congrArg some (hp_set (by decide) (congrArg (fun q => some (64, q)) (ar_ext fun i _ _ => ?_)) (zMk_us (by decide)))
  by_cases e : i = x
  · subst e; simp only [us_s, up_s]
  · simp only [us_j e, up_n e]
theorem aso_13 {m : Nat} {s : Nat → Int → Int} {r : zHp} {x y : Int} (h1 : 0 ≤ x) (h2 : x < 79) : zStv (zStK 64).1 64 none (hp m s r) (.ref (m + 13)) (vi x) (vi y) = some (hp m (us s 13 x y) r) := by
  rw [g_set (n := 79) (hp_at 13 (by decide)) h1 h2 (by decide) rfl rfl]
  refine congrArg some (hp_set (by decide) (congrArg (fun q => some (64, q)) (ar_ext fun i _ _ => ?_)) (zMk_us (by decide)))
  by_cases e : i = x
  · subst e; simp only [us_s, up_s]
  · simp only [us_j e, up_n e]
theorem ax_14 {m : Nat} {s : Nat → Int → Int} {r : zHp} {x : Int} (h1 : 0 ≤ x) (h2 : x < 40) : zAxv 0 64 (hp m s r) (.ref (m + 14)) (vi x) = some (vi (s 14 x)) := by
  rw [g_ar (n := 40) (hp_at 14 (by decide)) h1 h2 (by decide)]; rfl
theorem asa_14 {m : Nat} {s : Nat → Int → Int} {r : zHp} {x y : Int} (h1 : 0 ≤ x) (h2 : x < 40) : zStv (zStK 64).1 64 (zStK 64).2 (hp m s r) (.ref (m + 14)) (vi x) (vi y) = some (hp m (us s 14 x y) r) := by
  rw [g_set (n := 40) (hp_at 14 (by decide)) h1 h2 (by decide) rfl rfl]
  refine congrArg some (hp_set (by decide) (congrArg (fun q => some (64, q)) (ar_ext fun i _ _ => ?_)) (zMk_us (by decide)))
  by_cases e : i = x
  · subst e; simp only [us_s, up_s]
  · simp only [us_j e, up_n e]
theorem aso_14 {m : Nat} {s : Nat → Int → Int} {r : zHp} {x y : Int} (h1 : 0 ≤ x) (h2 : x < 40) : zStv (zStK 64).1 64 none (hp m s r) (.ref (m + 14)) (vi x) (vi y) = some (hp m (us s 14 x y) r) := by
  rw [g_set (n := 40) (hp_at 14 (by decide)) h1 h2 (by decide) rfl rfl]
  refine congrArg some (hp_set (by decide) (congrArg (fun q => some (64, q)) (ar_ext fun i _ _ => ?_)) (zMk_us (by decide)))
  by_cases e : i = x
  · subst e; simp only [us_s, up_s]
  · simp only [us_j e, up_n e]
theorem ax_15 {m : Nat} {s : Nat → Int → Int} {r : zHp} {x : Int} (h1 : 0 ≤ x) (h2 : x < 40) : zAxv 0 64 (hp m s r) (.ref (m + 15)) (vi x) = some (vi (s 15 x)) := by
  rw [g_ar (n := 40) (hp_at 15 (by decide)) h1 h2 (by decide)]; rfl
theorem asa_15 {m : Nat} {s : Nat → Int → Int} {r : zHp} {x y : Int} (h1 : 0 ≤ x) (h2 : x < 40) : zStv (zStK 64).1 64 (zStK 64).2 (hp m s r) (.ref (m + 15)) (vi x) (vi y) = some (hp m (us s 15 x y) r) := by
  rw [g_set (n := 40) (hp_at 15 (by decide)) h1 h2 (by decide) rfl rfl]
  refine congrArg some (hp_set (by decide) (congrArg (fun q => some (64, q)) (ar_ext fun i _ _ => ?_)) (zMk_us (by decide)))
  by_cases e : i = x
  · subst e; simp only [us_s, up_s]
  · simp only [us_j e, up_n e]
theorem aso_15 {m : Nat} {s : Nat → Int → Int} {r : zHp} {x y : Int} (h1 : 0 ≤ x) (h2 : x < 40) : zStv (zStK 64).1 64 none (hp m s r) (.ref (m + 15)) (vi x) (vi y) = some (hp m (us s 15 x y) r) := by
  rw [g_set (n := 40) (hp_at 15 (by decide)) h1 h2 (by decide) rfl rfl]
  refine congrArg some (hp_set (by decide) (congrArg (fun q => some (64, q)) (ar_ext fun i _ _ => ?_)) (zMk_us (by decide)))
  by_cases e : i = x
  · subst e; simp only [us_s, up_s]
  · simp only [us_j e, up_n e]
theorem ax_16 {m : Nat} {s : Nat → Int → Int} {r : zHp} {x : Int} (h1 : 0 ≤ x) (h2 : x < 40) : zAxv 1 65 (hp m s r) (.ref (m + 16)) (vi x) = some (vl (s 16 x)) := by
  rw [g_ar (n := 40) (hp_at 16 (by decide)) h1 h2 (by decide)]; rfl
theorem asa_16 {m : Nat} {s : Nat → Int → Int} {r : zHp} {x y : Int} (h1 : 0 ≤ x) (h2 : x < 40) : zStv (zStK 65).1 65 (zStK 65).2 (hp m s r) (.ref (m + 16)) (vi x) (vl y) = some (hp m (us s 16 x y) r) := by
  rw [g_set (n := 40) (hp_at 16 (by decide)) h1 h2 (by decide) rfl rfl]
  refine congrArg some (hp_set (by decide) (congrArg (fun q => some (65, q)) (ar_ext fun i _ _ => ?_)) (zMk_us (by decide)))
  by_cases e : i = x
  · subst e; simp only [us_s, up_s]
  · simp only [us_j e, up_n e]
theorem aso_16 {m : Nat} {s : Nat → Int → Int} {r : zHp} {x y : Int} (h1 : 0 ≤ x) (h2 : x < 40) : zStv (zStK 65).1 65 none (hp m s r) (.ref (m + 16)) (vi x) (vl y) = some (hp m (us s 16 x y) r) := by
  rw [g_set (n := 40) (hp_at 16 (by decide)) h1 h2 (by decide) rfl rfl]
  refine congrArg some (hp_set (by decide) (congrArg (fun q => some (65, q)) (ar_ext fun i _ _ => ?_)) (zMk_us (by decide)))
  by_cases e : i = x
  · subst e; simp only [us_s, up_s]
  · simp only [us_j e, up_n e]
/-! HELPERS OF THE EVALUATION -/
theorem dT {p : Prop} [inst : Decidable p] (h : p) : decide p = true := decide_eq_true h
theorem dF {p : Prop} [inst : Decidable p] (h : ¬ p) : decide p = false := decide_eq_false h
theorem zCat_0 : zCat 0 = 1 := rfl
theorem zCat_1 : zCat 1 = 2 := rfl
theorem zCat_3 : zCat 3 = 1 := rfl
theorem zLay_n : zLay [] [] = [] := rfl
theorem zLay_1 {v : Value} {ts : List Nat} {vs : List Value} : zLay (0 :: ts) (v :: vs) = v :: zLay ts vs := rfl
theorem zLay_c1 {v : Value} {ts : List Nat} {vs : List Value} : zLay (3 :: ts) (v :: vs) = v :: zLay ts vs := rfl
theorem zLay_c2 {v : Value} {ts : List Nat} {vs : List Value} : zLay (1 :: ts) (v :: vs) = v :: .null :: zLay ts vs := rfl
theorem zWds_n : zWds [] = 0 := rfl
theorem zWds_c {t : Nat} {ts : List Nat} : zWds (t :: ts) = zCat t + zWds ts := by simp [zWds]
theorem zTy_0 {x : Int} : zTy 0 (vi x) = true := rfl
theorem zTy_b0 {x : Bool} : zTy 0 (vb x) = true := rfl
theorem zTy_1 {x : Int} : zTy 1 (vl x) = true := rfl
theorem zLay_4 {v : Value} {ts : List Nat} {vs : List Value} : zLay (4 :: ts) (v :: vs) = v :: zLay ts vs := rfl
theorem zCat_4 : zCat 4 = 1 := rfl
theorem vbt : vb true = vi 1 ∧ vb false = vi 0 := ⟨rfl, rfl⟩
theorem zTy_3 {x : Nat} : zTy 3 (.ref x) = true := rfl
theorem zTy_3n : zTy 3 .null = true := rfl
theorem zTy_4 {b : Bool} : zTy 4 (vb b) = true := by cases b <;> rfl
theorem zNul_n : zNul .null = some true := rfl
theorem zNul_r {a : Nat} : zNul (.ref a) = some false := rfl
