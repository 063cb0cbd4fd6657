/-! tracks are added at the end: mix -/
section
variable {G : zG} {h H h1 HT : zHp} {x m pp ip st im pe pt pk : Nat} {s s1 s2 : Nat → Int → Int} {r : zHp} {fp fi fe ft fk : Int → Value}
def adS (s1 : Nat → Int → Int) (hd n : Int) (A B C : Int → Int) : Nat → Nat → Int → Int
  | 0 => s1
  | k + 1 => us (sTr (adS s1 hd n A B C k) hd (n + k) (A k) (B k) (C k)) 1 (8 + 121 * hd) (n + k + 1)
theorem adS_q {hd n : Int} {A B C : Int → Int} {q : Nat} (hq : q ≠ 1) : ∀ k : Nat, adS s1 hd n A B C k q = s1 q
  | 0 => rfl
  | k + 1 => by
    show us (sTr (adS s1 hd n A B C k) hd (n + k) (A k) (B k) (C k)) 1 (8 + 121 * hd) (n + k + 1) q = _
    rw [us_r hq, sTr_q hq, adS_q hq k]
theorem adS_o {hd n j : Int} {A B C : Int → Int} (n0 : 0 ≤ n) (hj : j < 8 + 121 * hd ∨ 8 + 121 * hd + 121 ≤ j) : ∀ k : Nat, n + k ≤ 40 → adS s1 hd n A B C k 1 j = s1 1 j
  | 0, _ => rfl
  | k + 1, hk => by
    show us (sTr (adS s1 hd n A B C k) hd (n + k) (A k) (B k) (C k)) 1 (8 + 121 * hd) (n + k + 1) 1 j = _
    rw [us_j (by omega), sTr_o (by omega), adS_o n0 hj k (by omega)]
theorem adS_n {hd n : Int} {A B C : Int → Int} (h0 : s1 1 (8 + 121 * hd) = n) : ∀ k : Nat, adS s1 hd n A B C k 1 (8 + 121 * hd) = n + k
  | 0 => by show s1 1 _ = n + 0; omega
  | k + 1 => by
    show us (sTr (adS s1 hd n A B C k) hd (n + k) (A k) (B k) (C k)) 1 (8 + 121 * hd) (n + k + 1) 1 _ = _
    rw [us_s]
    omega
theorem adS_e {hd n : Int} {A B C : Int → Int} (n0 : 0 ≤ n) : ∀ k : Nat, (∀ i w : Int, 0 ≤ i → i < n → 0 ≤ w → w < 3 → eT (adS s1 hd n A B C k 1) (8 + 121 * hd) i w = eT (s1 1) (8 + 121 * hd) i w) ∧ ∀ j : Int, 0 ≤ j → j < k → eT (adS s1 hd n A B C k 1) (8 + 121 * hd) (n + j) 0 = A j ∧ eT (adS s1 hd n A B C k 1) (8 + 121 * hd) (n + j) 1 = B j ∧ eT (adS s1 hd n A B C k 1) (8 + 121 * hd) (n + j) 2 = C j
  | 0 => ⟨fun _ _ _ _ _ _ => rfl, fun j a b => by omega⟩
  | k + 1 => by
    obtain ⟨y1, y2⟩ := adS_e (hd := hd) (A := A) (B := B) (C := C) n0 k
    have e : ∀ i w : Int, 0 ≤ i → 0 ≤ w → w < 3 → eT (adS s1 hd n A B C (k + 1) 1) (8 + 121 * hd) i w = eT (sTr (adS s1 hd n A B C k) hd (n + k) (A k) (B k) (C k) 1) (8 + 121 * hd) i w := fun i w i0 w0 w1 => by
      unfold eT
      exact us_j (by omega)
    refine ⟨fun i w i0 i1 w0 w1 => ?_, fun j j0 j1 => ?_⟩
    · rw [e i w i0 w0 w1, sTr_e (by omega) w0 w1]
      exact y1 i w i0 i1 w0 w1
    · rw [e _ 0 (by omega) (by decide) (by decide), e _ 1 (by omega) (by decide) (by decide), e _ 2 (by omega) (by decide) (by decide)]
      by_cases z : j = k
      · rw [z]
        exact sTr_k
      · rw [sTr_e (by omega) (by decide) (by decide), sTr_e (by omega) (by decide) (by decide), sTr_e (by omega) (by decide) (by decide)]
        exact y2 j j0 (by omega)
theorem m_add {hd n : Int} {A B C : Int → Int} (h5 : s1 1 5 = hd) (h0 : s1 1 (8 + 121 * hd) = n) (hd0 : 0 ≤ hd ∧ hd < 3) (n0 : 0 ≤ n) (k : Nat) (hk : n + k < 40) : F_Mo_tracks [.ref m] (hp m (adS s1 hd n A B C k) r) = some (some (vi (n + k)), hp m (adS s1 hd n A B C k) r) ∧ F_Mo_layTrack [.ref m, vi (n + k), vi (A k), vi (B k), vi (C k)] (hp m (adS s1 hd n A B C k) r) = some (none, hp m (sTr (adS s1 hd n A B C k) hd (n + k) (A k) (B k) (C k)) r) ∧ F_Mo_counted [.ref m, vi 1] (hp m (sTr (adS s1 hd n A B C k) hd (n + k) (A k) (B k) (C k)) r) = some (some (vi (n + k + 1)), hp m (adS s1 hd n A B C (k + 1)) r) := by
  have d5 : adS s1 hd n A B C k 1 5 = hd := by rw [adS_o n0 (by omega) k (by omega), h5]
  have dn := adS_n (A := A) (B := B) (C := C) h0 k
  have tk := e_tracks (m := m) (s := adS s1 hd n A B C k) (r := r) (by omega) (by omega)
  have en : mN (adS s1 hd n A B C k) = n + k := by unfold mN; rw [d5]; exact dn
  rw [en] at tk
  have ly := m_layTrack (m := m) (s := adS s1 hd n A B C k) (r := r) (t := n + k) (a := A k) (b := B k) (w := C k) (by omega) (by omega) (by omega)
  rw [d5] at ly
  have t5 : sTr (adS s1 hd n A B C k) hd (n + k) (A k) (B k) (C k) 1 5 = hd := by rw [sTr_o (by omega), d5]
  have cn := m_counted (m := m) (s := sTr (adS s1 hd n A B C k) hd (n + k) (A k) (B k) (C k)) (r := r) (b := 1) (by omega)
  rw [t5, sTr_o (j := 8 + 121 * hd) (by omega), dn] at cn
  exact ⟨tk, ly, cn⟩
/-- a state whose tracks are these and those -/
theorem add_at {n K : Nat} {trk : Nat} {A B C : Int → Int} {ev tr : Nat} {fb f : Int → Value} {ba bn : Int → Nat} {hd : Int} (so : StO G st (s 1) pe pt pk fe ft fk) (hG : ∀ a o, G a = some o → h.1 a = some o ∧ a < h.2.1) (eo : EvO G ev (s 1) (8 + 121 * hd) n tr fb ba) (hh : s 1 5 = hd) (nK : n + K ≤ 40) (k3 : ∀ j, 2 ≤ j → j < 2779 → s1 1 j = s 1 j) (r0 : h.2.1 ≤ trk ∧ trk < HT.2.1) (hle : h.2.1 ≤ HT.2.1) (T1 : HT.1 trk = some (67, ar (n + K) f)) (hf : ∀ i : Int, 0 ≤ i → i < n → f i = fb i) (hj : ∀ j : Int, 0 ≤ j → j < K → f (n + j) = .ref (bn j) ∧ (h.2.1 ≤ bn j ∧ bn j < HT.2.1) ∧ HT.1 (bn j) = some (0, [vi (n + j), vi (A j), vi (B j), vi (C j)])) (hv : ∀ j : Int, 0 ≤ j → j < K → (-200 ≤ A j ∧ A j ≤ 200) ∧ (0 ≤ B j ∧ B j < 360) ∧ (1 ≤ C j ∧ C j ≤ 9999)) : StAt (gX G h (evH HT (v5 (s 1)) fe ft fk hd trk)) HT.2.1 (adS s1 hd n A B C K 1) := by
  have n4 := eo.1
  have b5 := so.2.1.2.2.2.2.1
  rw [hh] at b5
  have s1n : s1 1 (8 + 121 * hd) = n := by rw [k3 _ (by omega) (by omega)]; exact n4.1
  have same : ∀ j, 2 ≤ j → j < 2779 → (j < 8 + 121 * hd ∨ 8 + 121 * hd + 121 ≤ j) → adS s1 hd n A B C K 1 j = s 1 j := fun j j0 j1 hj => by rw [adS_o (by omega) hj K (by omega), k3 j j0 j1]
  obtain ⟨e1, e2⟩ := adS_e (s1 := s1) (hd := hd) (A := A) (B := B) (C := C) (n := n) (by omega) K
  subst hh
  refine ev_at (n := n + K) (fb := f) (ba := fun i => if i < n then ba i else bn (i - n)) so (fun a o q => (hG a o q).2) r0 ⟨(same 2 (by decide) (by decide) (by omega)).symm, (same 3 (by decide) (by decide) (by omega)).symm, (same 4 (by decide) (by decide) (by omega)).symm, (same 6 (by decide) (by decide) (by omega)).symm, (same 5 (by decide) (by decide) (by omega)).symm⟩ (same 5 (by decide) (by decide) (by omega)) (by rw [same 6 (by decide) (by decide) (by omega)]; exact so.2.1.2.2.2.1) ⟨by rw [adS_n s1n]; omega, by omega⟩ T1 (fun i i0 i1 => ?_) (fun j j0 j1 _ hj => same j j0 j1 hj) hle
  by_cases z : i < n
  · have y := eo.2.2.2 i i0 z
    have kk : ∀ w', 0 ≤ w' → w' < 3 → eT (adS s1 (s 1 5) n A B C K 1) (8 + 121 * s 1 5) i w' = eT (s 1) (8 + 121 * s 1 5) i w' := fun w' w0 w1 => by
      rw [e1 i w' i0 z w0 w1]
      unfold eT
      exact k3 _ (by omega) (by omega)
    rw [kk 0 (by decide) (by decide), kk 1 (by decide) (by decide), kk 2 (by decide) (by decide), if_pos z, hf i i0 z]
    exact ⟨⟨y.1.1, gX_le (fun a o q => (hG a o q).2) _ _ y.1.2⟩, y.2⟩
  · have q := e2 (i - n) (by omega) (by omega)
    have y := hj (i - n) (by omega) (by omega)
    rw [show (n : Int) + (i - n) = i by omega] at q y
    rw [q.1, q.2.1, q.2.2, if_neg z]
    exact ⟨⟨y.1, by rw [gX_n y.2.1.1 y.2.1.2]; exact y.2.2⟩, hv (i - n) (by omega) (by omega)⟩
end
