/-! Long.bitCount counts -/
def byt (g : Nat → Nat) : Nat → Nat → Nat
  | 0, _ => 0
  | N + 1, x => g (x % 256) + 256 * byt g N (x / 256)
def msk (c : Nat) : Nat → Nat
  | 0 => 0
  | N + 1 => c + 256 * msk c N
theorem and_spl (u c m : Nat) (hc : c < 256) : u &&& (c + 256 * m) = ((u % 256) &&& c) + 256 * ((u / 256) &&& m) := by
  have e1 : (u &&& (c + 256 * m)) % 2 ^ 8 = (u % 2 ^ 8) &&& ((c + 256 * m) % 2 ^ 8) := Nat.and_mod_two_pow
  have e2 : (u &&& (c + 256 * m)) / 2 ^ 8 = (u / 2 ^ 8) &&& ((c + 256 * m) / 2 ^ 8) := Nat.and_div_two_pow
  rw [show (2 : Nat) ^ 8 = 256 from rfl, show (c + 256 * m) % 256 = c by omega] at e1
  rw [show (2 : Nat) ^ 8 = 256 from rfl, show (c + 256 * m) / 256 = m by omega] at e2
  omega
def p1 (a : Nat) : Nat := a - ((a / 2) &&& 0x55)
def p2 (a : Nat) : Nat := (a &&& 0x33) + ((a / 4) &&& 0x33)
def p3 (a : Nat) : Nat := (a + a / 16) % 16
theorem byt_1 : ∀ (N x : Nat), x < 256 ^ N → x - ((x / 2) &&& msk 0x55 N) = byt p1 N x
  | 0, x, h => by
    have : x = 0 := by rw [Nat.pow_zero] at h; omega
    subst this
    rfl
  | N + 1, x, h => by
    have ih := byt_1 N (x / 256) (by rw [Nat.pow_succ] at h; omega)
    have k1 : ∀ (a : Fin 256) (b : Fin 2), (a.1 / 2 + 128 * b.1) &&& 0x55 = (a.1 / 2) &&& 0x55 := by decide +kernel
    have k2 : ∀ a : Fin 256, (a.1 / 2) &&& 0x55 ≤ a.1 := by decide +kernel
    have q1 := k1 ⟨x % 256, by omega⟩ ⟨x / 256 % 2, by omega⟩
    have q2 := k2 ⟨x % 256, by omega⟩
    simp only at q1 q2
    have e : (x / 2) &&& msk 0x55 (N + 1) = ((x % 256 / 2) &&& 0x55) + 256 * ((x / 256 / 2) &&& msk 0x55 N) := by
      show (x / 2) &&& (0x55 + 256 * msk 0x55 N) = _
      rw [and_spl _ _ _ (by decide), show x / 2 % 256 = x % 256 / 2 + 128 * (x / 256 % 2) by omega, q1, show x / 2 / 256 = x / 256 / 2 by omega]
    have l : (x / 256 / 2) &&& msk 0x55 N ≤ x / 256 / 2 := Nat.and_le_left
    rw [e]
    show _ = p1 (x % 256) + 256 * byt p1 N (x / 256)
    have ep : p1 (x % 256) = x % 256 - ((x % 256 / 2) &&& 0x55) := rfl
    omega
theorem byt_2 : ∀ (N y : Nat), (y &&& msk 0x33 N) + ((y / 4) &&& msk 0x33 N) = byt p2 N y
  | 0, y => by simp [byt, msk]
  | N + 1, y => by
    have ih := byt_2 N (y / 256)
    have k1 : ∀ (a : Fin 256) (b : Fin 4), (a.1 / 4 + 64 * b.1) &&& 0x33 = (a.1 / 4) &&& 0x33 := by decide +kernel
    have q1 := k1 ⟨y % 256, by omega⟩ ⟨y / 256 % 4, by omega⟩
    simp only at q1
    show (y &&& (0x33 + 256 * msk 0x33 N)) + ((y / 4) &&& (0x33 + 256 * msk 0x33 N)) = p2 (y % 256) + 256 * byt p2 N (y / 256)
    rw [and_spl _ _ _ (by decide), and_spl _ _ _ (by decide), show y / 4 % 256 = y % 256 / 4 + 64 * (y / 256 % 4) by omega, q1, show y / 4 / 256 = y / 256 / 4 by omega]
    have ep : p2 (y % 256) = (y % 256 &&& 0x33) + ((y % 256 / 4) &&& 0x33) := rfl
    omega
theorem byt_c {g f : Nat → Nat} (hf : ∀ a, a < 256 → f a < 256) : ∀ (N x : Nat), byt g N (byt f N x) = byt (fun a => g (f a)) N x
  | 0, x => rfl
  | N + 1, x => by
    have := hf (x % 256) (by omega)
    show g ((f (x % 256) + 256 * byt f N (x / 256)) % 256) + 256 * byt g N ((f (x % 256) + 256 * byt f N (x / 256)) / 256) = _
    rw [show (f (x % 256) + 256 * byt f N (x / 256)) % 256 = f (x % 256) by omega, show (f (x % 256) + 256 * byt f N (x / 256)) / 256 = byt f N (x / 256) by omega, byt_c hf N]
    rfl
theorem byt_n {g : Nat → Nat} (hg : ∀ a, a < 256 → g a ≤ 0x66 ∧ g a % 16 ≤ 6) : ∀ (N x : Nat), byt g N x % 16 ≤ 6
  | 0, x => by simp [byt]
  | N + 1, x => by
    have := (hg (x % 256) (by omega)).2
    show (g (x % 256) + 256 * byt g N (x / 256)) % 16 ≤ 6
    omega
theorem byt_3 {g : Nat → Nat} (hg : ∀ a, a < 256 → g a ≤ 0x66 ∧ g a % 16 ≤ 6) : ∀ (N x : Nat), (byt g N x + byt g N x / 16) &&& msk 0x0f N = byt (fun a => p3 (g a)) N x
  | 0, x => by simp [byt, msk]
  | N + 1, x => by
    have ih := byt_3 hg N (x / 256)
    have h1 := (hg (x % 256) (by omega)).1
    have h2 := byt_n hg N (x / 256)
    show ((g (x % 256) + 256 * byt g N (x / 256)) + (g (x % 256) + 256 * byt g N (x / 256)) / 16) &&& (0x0f + 256 * msk 0x0f N) = p3 (g (x % 256)) + 256 * byt (fun a => p3 (g a)) N (x / 256)
    rw [← ih]
    generalize g (x % 256) = a at *
    generalize byt g N (x / 256) = R at *
    rw [and_spl _ _ _ (by decide), show (a + 256 * R + (a + 256 * R) / 16) / 256 = R + R / 16 by omega]
    have e15 : ∀ u : Nat, u &&& 0x0f = u % 16 := fun u => Nat.and_two_pow_sub_one_eq_mod u 4
    rw [e15]
    show _ = (a + a / 16) % 16 + _
    omega
/-- bits of a byte -/
def pb (a : Nat) : Nat := a % 2 + a / 2 % 2 + a / 4 % 2 + a / 8 % 2 + a / 16 % 2 + a / 32 % 2 + a / 64 % 2 + a / 128 % 2
theorem byt_e {g f : Nat → Nat} (h : ∀ a, a < 256 → g a = f a) : ∀ (N x : Nat), byt g N x = byt f N x
  | 0, x => rfl
  | N + 1, x => by
    show g (x % 256) + 256 * byt g N (x / 256) = f (x % 256) + 256 * byt f N (x / 256)
    rw [h _ (by omega), byt_e h N]
theorem bc_nat {x y z : Nat} (h : x < 256 ^ 8) (hy : y = x - ((x / 2) &&& 0x5555555555555555)) (hz : z = (y &&& 0x3333333333333333) + ((y / 4) &&& 0x3333333333333333)) : (z + z / 16) &&& 0x0f0f0f0f0f0f0f0f = byt pb 8 x := by
  have a1 := byt_1 8 x h
  have a2 := byt_2 8 (byt p1 8 x)
  have k1 : ∀ a : Fin 256, p1 a.1 < 256 := by decide +kernel
  have k2 : ∀ a : Fin 256, p2 (p1 a.1) ≤ 0x66 ∧ p2 (p1 a.1) % 16 ≤ 6 := by decide +kernel
  have k3 : ∀ a : Fin 256, p3 (p2 (p1 a.1)) = pb a.1 := by decide +kernel
  rw [byt_c (fun a ha => k1 ⟨a, ha⟩)] at a2
  have a3 := byt_3 (g := fun a => p2 (p1 a)) (fun a ha => k2 ⟨a, ha⟩) 8 x
  have a3 := a3.trans (byt_e (g := fun a => p3 (p2 (p1 a))) (f := pb) (fun a ha => k3 ⟨a, ha⟩) 8 x)
  have m1 : msk 0x55 8 = 0x5555555555555555 := by decide +kernel
  have m2 : msk 0x33 8 = 0x3333333333333333 := by decide +kernel
  have m3 : msk 0x0f 8 = 0x0f0f0f0f0f0f0f0f := by decide +kernel
  rw [m1] at a1
  rw [m2] at a2
  rw [m3] at a3
  rw [a1] at hy
  rw [← hy] at a2
  rw [a2] at hz
  rw [← hz] at a3
  exact a3
/-- the sum of its bytes -/
def bsm : Nat → Nat → Nat
  | 0, _ => 0
  | N + 1, x => pb (x % 256) + bsm N (x / 256)
theorem pb_8 (a : Nat) : pb a ≤ 8 := by unfold pb; omega
theorem nd_1 {A B k : Nat} (h : A < k) : (A + k * B) / k = B := by
  rw [Nat.add_mul_div_left _ _ (by omega), Nat.div_eq_of_lt h, Nat.zero_add]
theorem bs_c {c0 c1 c2 c3 c4 c5 c6 c7 z z4 z5 z6 : Nat} (b0 : c0 ≤ 8) (b1 : c1 ≤ 8) (b2 : c2 ≤ 8) (b3 : c3 ≤ 8) (b4 : c4 ≤ 8) (b5 : c5 ≤ 8) (b6 : c6 ≤ 8) (b7 : c7 ≤ 8) (hz : z = c0 + 256 * (c1 + 256 * (c2 + 256 * (c3 + 256 * (c4 + 256 * (c5 + 256 * (c6 + 256 * (c7 + 256 * 0)))))))) (h4 : z4 = z + z / 256) (h5 : z5 = z4 + z4 / 65536) (h6 : z6 = z5 + z5 / 4294967296) : (z < 1157442765409226769 ∧ z4 < 2314885530818453537 ∧ z5 < 4629771061636907074 ∧ z6 < 9259542123273814148) ∧ z6 % 128 = c0 + (c1 + (c2 + (c3 + (c4 + (c5 + (c6 + (c7 + 0))))))) ∧ c0 + (c1 + (c2 + (c3 + (c4 + (c5 + (c6 + (c7 + 0))))))) ≤ 64 := by
  have z0 : z < 1157442765409226769 := by clear h4 h5 h6; omega
  rw [hz, nd_1 (by omega)] at h4
  have e4 : z4 = (c0 + c1 + 256 * (c1 + c2)) + 65536 * (c2 + c3 + 256 * (c3 + c4) + 65536 * (c4 + c5 + 256 * (c5 + c6) + 65536 * (c6 + c7 + 256 * c7))) := by clear h5 h6 z0 hz; omega
  have z40 : z4 < 2314885530818453537 := by clear h4 h5 h6 z0 hz; omega
  clear hz h4
  rw [e4, nd_1 (by omega)] at h5
  have e5 : z5 = (c0 + c1 + c2 + c3 + 256 * (c1 + c2 + c3 + c4) + 65536 * (c2 + c3 + c4 + c5 + 256 * (c3 + c4 + c5 + c6))) + 4294967296 * (c4 + c5 + c6 + c7 + 256 * (c5 + c6 + c7) + 65536 * (c6 + c7 + 256 * c7)) := by clear e4 h6 z0 z40; omega
  have z50 : z5 < 4629771061636907074 := by clear h5 h6 z0 z40 e4; omega
  clear h5 e4
  rw [e5, nd_1 (by omega)] at h6
  have e6 : z6 = (c0 + c1 + c2 + c3 + c4 + c5 + c6 + c7) + 128 * (2 * (c1 + c2 + c3 + c4 + c5 + c6 + c7) + 512 * (c2 + c3 + c4 + c5 + c6 + c7 + 256 * (c3 + c4 + c5 + c6 + c7)) + 33554432 * (c4 + c5 + c6 + c7 + 256 * (c5 + c6 + c7) + 65536 * (c6 + c7 + 256 * c7))) := by clear e5 z0 z40 z50; omega
  have z60 : z6 < 9259542123273814148 := by clear h6 z0 z40 z50 e5; omega
  clear h6 e5
  refine ⟨⟨z0, z40, z50, z60⟩, ?_, by omega⟩
  rw [e6, Nat.add_mul_mod_self_left, Nat.mod_eq_of_lt (by omega)]
  omega
theorem bsm_8 {x z z4 z5 z6 : Nat} (hz : z = byt pb 8 x) (h4 : z4 = z + z / 256) (h5 : z5 = z4 + z4 / 65536) (h6 : z6 = z5 + z5 / 4294967296) : (z < 1157442765409226769 ∧ z4 < 2314885530818453537 ∧ z5 < 4629771061636907074 ∧ z6 < 9259542123273814148) ∧ z6 % 128 = bsm 8 x ∧ bsm 8 x ≤ 64 :=
  bs_c (pb_8 _) (pb_8 _) (pb_8 _) (pb_8 _) (pb_8 _) (pb_8 _) (pb_8 _) (pb_8 _) hz h4 h5 h6
