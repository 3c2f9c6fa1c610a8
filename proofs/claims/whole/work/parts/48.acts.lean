/-! acts: what they leave -/
def acC (M M1 : Int → Int → Int) (r1 c d : Int) : Prop :=
  rot M1 r1 ∧ (M 36 1 < 12 ∧ c = M 36 1 ∧ d = 0 ∨ M 36 1 = 12 ∧ c = 11 ∧ d = 1) ∧ M1 36 1 = c + 1 ∧ (∀ k, k ≠ 1 → M1 36 k = M 36 k) ∧
  (∀ a, (0 < a ∧ a < 24 ∨ 38 ≤ a ∧ a < 99 ∨ a = 115 ∨ a = 116 ∨ 124 ≤ a) → (a < M1 37 c ∨ M1 37 c + 3 < a) → M1 a = M a) ∧ (∀ k, k ≠ 14 → M1 0 k = M 0 k) ∧ (∀ i, 0 ≤ i → i < c → M1 37 i = M 37 (i + d)) ∧
  M1 (M1 37 c) 0 = M 24 0 ∧ M1 (M1 37 c) 1 = M 24 1 ∧ M1 (M1 37 c) 2 = M 24 2 ∧ M1 (M1 37 c) 6 = M 24 6 ∧ M1 (M1 37 c) 7 = M 24 7 ∧ mW M1 (M1 37 c) ∧ M1 (M1 37 c + 1) = M 25 ∧ M1 (M1 37 c + 2) = M 26 ∧ M1 (M1 37 c + 3) = M 27 ∧ cSc M1 ∧ shW M1 24
def acR (M1 M2 : Int → Int → Int) (c d : Int) : Prop :=
  (∀ a, (a < 124 ∨ a = 125 ∨ a = 128 ∨ 145 ≤ a) → M2 a = M1 a) ∧ (∀ k, k ≠ 0 → k ≠ 1 → k ≠ 2 → k ≠ 20 → k ≠ 26 → k ≠ 29 → k ≠ 36 → M2 124 k = M1 124 k) ∧ M2 124 20 = c + 1 ∧ (∀ i k, 0 ≤ i → i < c → 0 ≤ k → k < 248 → M2 127 (248 * i + k) = M1 127 (248 * (i + d) + k)) ∧ (∀ k, 0 ≤ k → k < 248 → M2 127 (248 * c + k) = M1 126 k) ∧ ∀ i, 0 ≤ M2 129 i ∧ M2 129 i < 6
section AC
variable {M M1 M2 : Int → Int → Int} {G : GG} {td r r1 rg c d : Int}
theorem cFi.cg2 (f : ∀ a, (0 < a ∧ a < 24 ∨ a = 115 ∨ a = 116) → M1 a = M a) (ht : td = 2 ∨ td = 13) (h : cFi M td) : cFi M1 td := by
  have hb : fitB M1 td = fitB M td := by
    funext x
    unfold fitB
    simp (disch := omega) only [f]
  unfold cFi at *
  simp (disch := omega) only [f, fitN_cg hb, hb]
  exact h
theorem act_inv (h : Inv0 M G td r) (hR : isR M G td rg) (hc : acC M M1 r1 c d) (hr : acR M1 M2 c d) (hw : wR M2 24 (M 24 0) (M 24 1) (M 24 2) (M td 0)) (hcw : cW M2 (M 24 0) (M 24 1) (M 24 2) 24 126 0) : Inv0 M2 G td r1 := by
  obtain ⟨⟨s1, s2, s3, s4, s5, s6, s7, s8, s9, s10, s11, s12, s13, s14, s15⟩, -, s17, s18, s19, -⟩ := h
  obtain ⟨q1, q2, q3, q4, q5, q6, q7, q8, q9, q10, q11, q12, q13⟩ := hR
  obtain ⟨k1, k2, k3, k4, k5, k6, k7, b0, b1, b2, b6, b7, bm, f1, f2, f3, hsc, hs24⟩ := hc
  obtain ⟨g1, g2, g3, g4, g5, g6⟩ := hr
  have hrg := q2.1
  have hwc : 39 ≤ M1 37 c ∧ M1 37 c ≤ 83 ∧ (M1 37 c - 39) % 4 = 0 := by
    have := k1.2.2 c (by have := q11.2.1; omega) (by omega)
    omega
  have q5' := q5
  obtain ⟨-, -, -, ⟨a1, a2, a3, a4, a5, a6, -⟩, -⟩ := q5
  -- rows that stay
  have st : ∀ a, (0 < a ∧ a < 24 ∨ a = 38 ∨ 87 ≤ a ∧ a < 99 ∨ a = 115 ∨ a = 116 ∨ a = 125 ∨ a = 128 ∨ 146 ≤ a) → M2 a = M a := fun a ha => by rw [g1 a (by omega)]; exact k5 a (by omega) (by omega)
  have st36 : ∀ k, k ≠ 1 → M2 36 k = M 36 k := fun k hk => by rw [g1 36 (by omega)]; exact k4 k hk
  have st0 : ∀ k, k ≠ 14 → M2 0 k = M 0 k := fun k hk => by rw [g1 0 (by omega)]; exact k6 k hk
  have st37 : M2 37 = M1 37 := g1 37 (by omega)
  have stw : ∀ w, 39 ≤ w → w ≤ 83 → (w - 39) % 4 = 0 → w ≠ M1 37 c → M2 w = M w ∧ M2 (w + 1) = M (w + 1) ∧ M2 (w + 2) = M (w + 2) ∧ M2 (w + 3) = M (w + 3) := fun w w0 w1 w2 w3 => by
    refine ⟨?_, ?_, ?_, ?_⟩
    · rw [g1 w (by omega)]; exact k5 w (by omega) (by omega)
    · rw [g1 (w + 1) (by omega)]; exact k5 (w + 1) (by omega) (by omega)
    · rw [g1 (w + 2) (by omega)]; exact k5 (w + 2) (by omega) (by omega)
    · rw [g1 (w + 3) (by omega)]; exact k5 (w + 3) (by omega) (by omega)
  have st124 : ∀ k, k ≠ 0 → k ≠ 1 → k ≠ 2 → k ≠ 20 → k ≠ 26 → k ≠ 29 → k ≠ 36 → M2 124 k = M 124 k := fun k x0 x1 x2 x3 x4 x5 x6 => by rw [g2 k x0 x1 x2 x3 x4 x5 x6, k5 124 (by omega) (by omega)]
  have e0 : M2 24 0 = M 24 0 := hw.1
  have e1 : M2 24 1 = M 24 1 := hw.2.1
  have e2 : M2 24 2 = M 24 2 := hw.2.2.1
  refine ⟨⟨s1, pr0.u s2 (fun k hk => st0 k (by omega)), s3, by rw [st0 2 (by omega)]; exact s4, by rw [st0 3 (by omega)]; exact s5, ?_, ?_, ?_, ?_, ?_, ?_, pr36.u s12 (fun k hk => st36 k (by omega)), by rw [st 38 (by omega)]; exact s13, by unfold rot at *; rw [st37]; exact k1, by rw [st 115 (by omega)]; exact s15⟩, ?_, ⟨pr124.u s17.1 (fun k hk => st124 k (by omega) (by omega) (by omega) (by omega) (by omega) (by omega) (by omega)), g6⟩, ?_, ?_, Or.inr ⟨rg, ?_⟩⟩
  · unfold shR at *; simp (disch := omega) only [st]; exact s6
  · unfold shR at *; simp (disch := omega) only [st]; exact s7
  · unfold shW mW zoW at *; simp (disch := omega) only [st]; exact s8
  · unfold shW mW zoW at *; simp (disch := omega) only [st]; exact s9
  · unfold shW mW zoW at *; rw [g1 24 (by omega), g1 (24 + 1) (by omega), g1 (24 + 2) (by omega), g1 (24 + 3) (by omega)]; exact hs24
  · intro w w0 w1 w2
    by_cases e : w = M1 37 c
    · subst e
      unfold shW mW zoW at *
      rw [g1 (M1 37 c) (by omega), g1 (M1 37 c + 1) (by omega), g1 (M1 37 c + 2) (by omega), g1 (M1 37 c + 3) (by omega), f1, f2, f3]
      exact ⟨bm, s10.2⟩
    · have := s11 w w0 w1 w2
      unfold shW mW zoW at *
      rw [g1 w (by omega), g1 (w + 1) (by omega), g1 (w + 2) (by omega), g1 (w + 3) (by omega), k5 w (by omega) (by omega), k5 (w + 1) (by omega) (by omega), k5 (w + 2) (by omega) (by omega), k5 (w + 3) (by omega) (by omega)]
      exact this
  · unfold cSc shW mW zoW chI at *; simp (disch := omega) only [g1]; exact hsc
  · unfold cTp at *; rw [st124 6 (by omega) (by omega) (by omega) (by omega) (by omega) (by omega) (by omega), st0 1 (by omega), st 1 (by omega), st 125 (by omega)]; exact s18
  · rw [st124 13 (by omega) (by omega) (by omega) (by omega) (by omega) (by omega) (by omega), st0 15 (by omega)]; exact s19
  have ht : td = 2 ∨ td = 13 := s3
  have em : M2 td 0 = M td 0 := by rw [st td (by omega)]
  refine ⟨by rw [st124 3 (by omega) (by omega) (by omega) (by omega) (by omega) (by omega) (by omega)]; exact q1, q2, by rw [st rg (by omega)]; exact q3, ?_, ?_, ?_, ?_, ?_, ?_, ?_, ?_, ?_, cFi.cg2 (fun a ha => st a (by omega)) ht q13⟩
  · rw [e0, e1, e2, em, st rg (by omega)]; exact q4
  · rw [e0, e1, e2, em]; exact hw
  · rw [e0, e1, e2, em]; unfold wR at *; simp (disch := omega) only [st]; exact q6
  · rw [e0, e1, e2, em]; unfold cTd at *; simp (disch := omega) only [st]; exact q7
  · rw [e0, e1, em]; unfold cGs at *; simp (disch := omega) only [st]; exact q8
  · rw [e0, e1, e2, em]; unfold cSe at *; simp (disch := omega) only [st]; exact q9
  · rw [e0, e1, e2]; exact hcw
  · rw [e0, e1, e2, em]
    have e361 : M2 36 1 = c + 1 := by rw [g1 36 (by omega)]; exact k3
    refine ⟨by rw [g3, e361], by have := q11.2.1; omega, by omega, fun i i0 i1 => ?_⟩
    rw [e361] at i1
    rw [st37]
    by_cases e : i = c
    · subst e
      have hx : ∀ j, 0 ≤ j → j < 4 → M2 (M1 37 i + j) = M1 (M1 37 i + j) := fun j j0 j1 => g1 _ (by omega)
      have hx0 : M2 (M1 37 i) = M1 (M1 37 i) := g1 _ (by omega)
      refine ⟨wR.mv (M := M) (w := 24) q5' ?_ ?_ ?_ ?_ ?_ ?_ ?_, cW.mv (M := M) (w := 24) q10 a6 a1 a2 a3 a4 ?_ ?_ ?_ ?_ ?_ (fun k k0' k1' => ?_)⟩
      · rw [hx0]; exact b0
      · rw [hx0]; exact b1
      · rw [hx0]; exact b2
      · rw [hx0]; exact b6
      · rw [hx 1 (by omega) (by omega)]; exact f1
      · rw [hx 2 (by omega) (by omega)]; exact f2
      · rw [hx 3 (by omega) (by omega)]; exact f3
      · rw [hx0]; exact b6
      · rw [hx0]; exact b7
      · rw [hx 1 (by omega) (by omega)]; exact f1
      · rw [hx 2 (by omega) (by omega)]; exact f2
      · rw [hx 3 (by omega) (by omega)]; exact f3
      · rw [g5 k k0' k1', k5 126 (by omega) (by omega), Int.zero_add]
    · have ii : i < c := by omega
      have hro := k7 i i0 ii
      have hri := k1.2.2 i i0 (by omega)
      have hrc := k1.2.2 c (by omega) (by omega)
      have hne : M1 37 i ≠ M1 37 c := by omega
      obtain ⟨w0, w1, w2, w3⟩ := stw (M1 37 i) (by omega) (by omega) (by omega) hne
      rw [hro] at w0 w1 w2 w3 ⊢
      obtain ⟨o1, o2⟩ := q11.2.2.2 (i + d) (by omega) (by omega)
      refine ⟨wR.mv o1 (by rw [w0]) (by rw [w0]) (by rw [w0]) (by rw [w0]) w1 w2 w3, cW.mv o2 a6 a1 a2 a3 a4 (by rw [w0]) (by rw [w0]) w1 w2 w3 (fun k k0' k1' => ?_)⟩
      rw [g4 i k i0 ii k0' k1', k5 127 (by omega) (by omega)]
  · rw [e0, e1, e2, em, st36 3 (by omega)]
    refine ⟨by rw [st124 21 (by omega) (by omega) (by omega) (by omega) (by omega) (by omega) (by omega)]; exact q12.1, q12.2.1, q12.2.2.1, fun i i0 i1 => ?_⟩
    have hx := q12.2.2.2 i i0 i1
    have := q12.2.2.1
    unfold wR cW at *
    simp (disch := omega) only [st]
    exact hx
end AC
