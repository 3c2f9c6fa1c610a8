/-! what holds behind the constructors -/
set_option maxRecDepth 100000 in
theorem hJ3_o : pr0 (hJ3.1 0) ∧ hJ3.1 0 2 = 2 ∧ hJ3.1 0 3 = 13 ∧ pr36 (hJ3.1 36) ∧ pr38 (hJ3.1 38) ∧ pr115 (hJ3.1 115) ∧ pr99 (hJ3.1 99) ∧ pr106 (hJ3.1 106) ∧ pr111 (hJ3.1 111) ∧ hJ3.1 111 1 = 112 ∧ hJ3.1 111 2 = 113 ∧ pr117 (hJ3.1 117) ∧ pr124 (hJ3.1 124) ∧ hJ3.1 0 1 = 0 ∧ hJ3.1 124 6 = 0 ∧ hJ3.1 124 1 = 0 ∧ hJ3.1 0 14 = 0 ∧ hJ3.1 124 2 = -1 ∧ hJ3.1 124 13 = hJ3.1 0 15 := by
  unfold pr0 pr36 pr38 pr115 pr99 pr106 pr111 pr117 pr124
  refine ⟨?_, ?_, ?_, ?_, ?_, ?_, ?_, ?_, ?_, ?_, ?_, ?_, ?_, ?_⟩ <;> decide +kernel
set_option maxRecDepth 100000 in
theorem hJ3_n : noR hJ3.1 2 := by
  unfold noR
  decide +kernel
set_option maxRecDepth 100000 in
theorem hJ3_r : (hJ3.1 2 1 = 2 + 1 ∧ hJ3.1 2 2 = 2 + 5 ∧ hJ3.1 2 3 = 2 + 6 ∧ hJ3.1 2 5 = 2 + 7 ∧ hJ3.1 2 6 = 2 + 8 ∧ hJ3.1 2 7 = 2 + 9 ∧ hJ3.1 2 8 = 2 + 10) ∧ hJ3.1 13 1 = 13 + 1 ∧ hJ3.1 13 2 = 13 + 5 ∧ hJ3.1 13 3 = 13 + 6 ∧ hJ3.1 13 5 = 13 + 7 ∧ hJ3.1 13 6 = 13 + 8 ∧ hJ3.1 13 7 = 13 + 9 ∧ hJ3.1 13 8 = 13 + 10 := by decide +kernel
set_option maxRecDepth 100000 in
theorem hJ3_w : (∀ i : Nat, i < 15 → hJ3.1 (39 + 4 * (i : Int)) 3 = 39 + 4 * (i : Int) + 1 ∧ hJ3.1 (39 + 4 * (i : Int)) 4 = 39 + 4 * (i : Int) + 2 ∧ hJ3.1 (39 + 4 * (i : Int)) 5 = 39 + 4 * (i : Int) + 3) ∧ mW hJ3.1 3 ∧ mW hJ3.1 14 ∧ mW hJ3.1 24 ∧ mW hJ3.1 28 ∧ mW hJ3.1 32 := by
  unfold mW
  decide +kernel
set_option maxRecDepth 100000 in
theorem hJ3_p : ∀ i : Nat, i < 12 → hJ3.1 37 (i : Int) = 39 + 4 * (((i : Int) + 0) % 12) := by decide +kernel
theorem hJ3_zr {a : Int} (h0 : 0 ≤ a) (h1 : a < 146) (hk : 1 ≤ kTb.getD a.toNat 0 ∧ kTb.getD a.toNat 0 ≤ 4) (k : Int) : hJ3.1 a k = 0 := by
  have h := (hJ3_k a.toNat (by omega)).1
  rw [show ((a.toNat : Nat) : Int) = a by omega] at h
  exact hJ3_z a (by rw [h]; exact hk.1) (by rw [h]; exact hk.2) k
theorem wrow_k {w : Int} (h : wAd w) : (1 ≤ kTb.getD (w + 1).toNat 0 ∧ kTb.getD (w + 1).toNat 0 ≤ 4) ∧ (1 ≤ kTb.getD (w + 2).toNat 0 ∧ kTb.getD (w + 2).toNat 0 ≤ 4) ∧ 1 ≤ kTb.getD (w + 3).toNat 0 ∧ kTb.getD (w + 3).toNat 0 ≤ 4 := by
  unfold wAd at h
  have : w = 3 ∨ w = 14 ∨ w = 24 ∨ w = 28 ∨ w = 32 ∨ w = 39 ∨ w = 43 ∨ w = 47 ∨ w = 51 ∨ w = 55 ∨ w = 59 ∨ w = 63 ∨ w = 67 ∨ w = 71 ∨ w = 75 ∨ w = 79 ∨ w = 83 ∨ w = 87 ∨ w = 91 ∨ w = 95 := by omega
  rcases this with rfl | rfl | rfl | rfl | rfl | rfl | rfl | rfl | rfl | rfl | rfl | rfl | rfl | rfl | rfl | rfl | rfl | rfl | rfl | rfl <;> decide +kernel
theorem hJ3_zo {w : Int} (h : wAd w) : zoW hJ3.1 w := by
  have hk := wrow_k h
  unfold wAd at h
  exact ⟨fun k _ => hJ3_zr (by omega) (by omega) hk.1 k, fun k _ => hJ3_zr (by omega) (by omega) hk.2.1 k, fun k _ => hJ3_zr (by omega) (by omega) hk.2.2 k⟩
theorem inv_start : Inv hJ3.1 hJ3.2 := by
  obtain ⟨o0, o2, o3, o36, o38, o115, o99, o106, o111, o1, o1', o117, o124, q1, q2, q3, q4, q5, q6⟩ := hJ3_o
  obtain ⟨⟨r1, r2, r3, r4, r5, r6, r7⟩, r8, r9, r10, r11, r12, r13, r14⟩ := hJ3_r
  obtain ⟨w1, w2, w3, w4, w5, w6⟩ := hJ3_w
  have hz : ∀ a : Int, 0 ≤ a → a < 146 → (1 ≤ kTb.getD a.toNat 0 ∧ kTb.getD a.toNat 0 ≤ 4) → ∀ k, hJ3.1 a k = 0 := fun a h0 h1 hk k => hJ3_zr h0 h1 hk k
  refine ⟨⟨by rw [q3, q4], by omega, by omega, by rw [q5, q4]; rfl⟩, 2, 0, ⟨⟨hJ3_k, by rw [hJ_x.2.2]; omega⟩, o0, Or.inl rfl, o2, by rw [o3]; omega, ⟨r1, r2, r3, r4, r5, r6, r7, fun k _ => hz (2 + 6) (by omega) (by omega) (by decide) k⟩, ⟨r8, r9, r10, r11, r12, r13, r14, fun k _ => hz (13 + 6) (by omega) (by omega) (by decide) k⟩, ⟨w2, hJ3_zo (by unfold wAd; omega)⟩, ⟨w3, hJ3_zo (by unfold wAd; omega)⟩, ⟨w4, hJ3_zo (by unfold wAd; omega)⟩, ?_, o36, o38, ⟨by omega, by omega, fun i i0 i1 => ?_⟩, o115⟩, ⟨⟨w5, hJ3_zo (by unfold wAd; omega)⟩, ⟨w6, hJ3_zo (by unfold wAd; omega)⟩, ⟨o99, fun i => ?_, fun i => ?_⟩, o106, o111, Or.inl ⟨o1, o1'⟩, o117, fun k _ => hz 123 (by omega) (by omega) (by decide) k, fun i => ?_, fun i => ?_⟩, ⟨o124, fun i => ?_⟩, ⟨by rw [q1, q2], by omega, by omega, fun i i0 i1 => by omega⟩, q6, Or.inl hJ3_n⟩
  · intro w h0 h1 h2
    refine ⟨?_, hJ3_zo (by unfold wAd; omega)⟩
    have h := w1 ((w - 39) / 4).toNat (by omega)
    rw [show 39 + 4 * ((((w - 39) / 4).toNat : Nat) : Int) = w by omega] at h
    exact h
  · have h := hJ3_p i.toNat (by omega)
    rw [show ((i.toNat : Nat) : Int) = i by omega] at h
    exact h
  · rw [hz 101 (by omega) (by omega) (by decide)]; omega
  · rw [hz 102 (by omega) (by omega) (by decide)]; omega
  · rw [hz 118 (by omega) (by omega) (by decide)]; omega
  · rw [hz 122 (by omega) (by omega) (by decide)]; omega
  · rw [hz 129 (by omega) (by omega) (by decide)]; omega
