/-! ring: what holds when it has failed -/
section FA
variable {M Mf : Int → Int → Int} {G Gr : GG} {td r rg : Int}
theorem cFi.cg3 (f : ∀ a, (td ≤ a ∧ a ≤ td + 10 ∨ a = 115 ∨ a = 116) → Mf a = M a) (h : cFi M td) : cFi Mf td := by
  have hb : fitB Mf td = fitB M td := by
    funext x
    unfold fitB
    simp (disch := omega) only [f]
  unfold cFi at *
  simp (disch := omega) only [f, fitN_cg hb, hb]
  exact h
theorem gRg.mono (hgo : ∀ a, a < G.2.2 → Gr.1 a = G.1 a ∧ Gr.2.1 a = G.2.1 a) (hnx : G.2.2 ≤ Gr.2.2) (h : gRg G rg) : gRg Gr rg := by
  obtain ⟨h0, h1, h2, h3, h4, h5, h6, h7, h8, h9, h10, h11⟩ := h
  refine ⟨h0, ?_, ?_, ?_, ?_, ?_, ?_, ?_, ?_, ?_, ?_, by omega⟩
  · rw [(hgo rg (by omega)).1]; exact h1
  · rw [(hgo (rg + 1) (by omega)).1, (hgo (rg + 1) (by omega)).2]; exact h2
  · rw [(hgo (rg + 2) (by omega)).1, (hgo (rg + 2) (by omega)).2]; exact h3
  · rw [(hgo (rg + 3) (by omega)).1, (hgo (rg + 3) (by omega)).2]; exact h4
  · rw [(hgo (rg + 4) (by omega)).1, (hgo (rg + 4) (by omega)).2]; exact h5
  · rw [(hgo (rg + 5) (by omega)).1, (hgo (rg + 5) (by omega)).2]; exact h6
  · rw [(hgo (rg + 6) (by omega)).1, (hgo (rg + 6) (by omega)).2]; exact h7
  · rw [(hgo (rg + 7) (by omega)).1, (hgo (rg + 7) (by omega)).2]; exact h8
  · rw [(hgo (rg + 8) (by omega)).1, (hgo (rg + 8) (by omega)).2]; exact h9
  · rw [(hgo (rg + 9) (by omega)).1, (hgo (rg + 9) (by omega)).2]; exact h10
theorem isR.cg3 (f : ∀ a, (td ≤ a ∧ a ≤ td + 10 ∨ 24 ≤ a ∧ a < 28 ∨ 36 ≤ a ∧ a < 99 ∨ a = 115 ∨ a = 116 ∨ 126 ≤ a ∧ a ≤ 128 ∨ 146 ≤ a ∧ a < G.2.2) → Mf a = M a) (hgo : ∀ a, a < G.2.2 → Gr.1 a = G.1 a ∧ Gr.2.1 a = G.2.1 a) (hnx : G.2.2 ≤ Gr.2.2) (f3 : Mf 124 3 = M 124 3) (f20 : Mf 124 20 = M 124 20) (f21 : Mf 124 21 = M 124 21) (hr : rot M r) (h : isR M G td rg) : isR Mf Gr td rg := by
  obtain ⟨h1, h2, h3, h4, h5, h6, h7, h8, h9, h10, h11, h12, h13⟩ := h
  have hrg := h2.1
  have hrx : rg + 9 < G.2.2 := h2.2.2.2.2.2.2.2.2.2.2.2
  have hro : ∀ i, 0 ≤ i → i < M 36 1 → 39 ≤ M 37 i ∧ M 37 i ≤ 83 := fun i i0 i1 => by have := hr.2.2 i i0 (by have := h11.2.2.1; omega); omega
  refine ⟨by rw [f3]; exact h1, h2.mono hgo hnx, ?_, ?_, ?_, ?_, ?_, ?_, ?_, ?_, ?_, ?_, cFi.cg3 (fun a ha => f a (by omega)) h13⟩
  · simp (disch := omega) only [f]; exact h3
  · simp (disch := omega) only [f]; exact h4
  · obtain ⟨-, -, -, h5⟩ := h5
    refine ⟨rfl, rfl, rfl, ?_⟩
    simp (disch := omega) only [f]; exact h5
  · unfold wR at *; simp (disch := omega) only [f]; exact h6
  · unfold cTd at *; simp (disch := omega) only [f]; exact h7
  · unfold cGs at *; simp (disch := omega) only [f]; exact h8
  · unfold cSe at *; simp (disch := omega) only [f]; exact h9
  · unfold cW at *; simp (disch := omega) only [f]; exact h10
  · refine ⟨by rw [f20]; simp (disch := omega) only [f]; exact h11.1, by simp (disch := omega) only [f]; exact h11.2.1, by simp (disch := omega) only [f]; exact h11.2.2.1, fun i i0 i1 => ?_⟩
    simp (disch := omega) only [f] at i1
    have hb := hro i i0 i1
    have := h11.2.2.2 i i0 i1
    unfold wR cW at *
    simp (disch := omega) only [f]
    exact this
  · refine ⟨by rw [f21]; simp (disch := omega) only [f]; exact h12.1, by simp (disch := omega) only [f]; exact h12.2.1, by simp (disch := omega) only [f]; exact h12.2.2.1, fun i i0 i1 => ?_⟩
    simp (disch := omega) only [f] at i1
    have hx := h12.2.2.2 i i0 i1
    have := h12.2.2.1
    unfold wR cW at *
    simp (disch := omega) only [f]
    exact hx
theorem Inv.fail (h0 : Inv0 M G td r) (hGr : gAll Gr) (hgo : ∀ a, a < G.2.2 → Gr.1 a = G.1 a ∧ Gr.2.1 a = G.2.1 a) (hnx : G.2.2 ≤ Gr.2.2) (st : ∀ a, a < G.2.2 → a ≠ 0 → a ≠ 124 → ¬ (15 - td ≤ a ∧ a ≤ 25 - td) → Mf a = M a) (st0 : ∀ k, k ≠ 1 → k ≠ 14 → k ≠ 15 → k ≠ 16 → Mf 0 k = M 0 k) (t1 : Mf 0 1 = 0) (s4 : ∀ j, j = 3 ∨ j = 5 ∨ 16 < j → Mf 124 j = M 124 j) (sh : shR Mf (15 - td) ∧ shW Mf (15 - td + 1)) (q6 : Mf 124 6 = 0) (q13 : Mf 124 13 = Mf 0 15) (hct : cTr Mf) : Inv Mf Gr := by
  obtain ⟨⟨s1, s2, s3, s4', s5, s6, s7, s8, s9, s10, s11, s12, s13, s14, s15⟩, s16, s17, s18, s19, s20⟩ := h0
  have hx := s1.2
  have htd : td = 2 ∧ 15 - td = 13 ∨ td = 13 ∧ 15 - td = 2 := by omega
  refine ⟨hct, td, r, ⟨hGr, pr0.u s2 (fun k hk => st0 k (by omega) (by omega) (by omega) (by omega)), s3, by rw [st0 2 (by omega) (by omega) (by omega) (by omega)]; exact s4', by rw [st0 3 (by omega) (by omega) (by omega) (by omega)]; exact s5, ?_, ?_, ?_, ?_, ?_, ?_, ?_, ?_, ?_, ?_⟩, ?_, ⟨pr124.u s17.1 (fun k hk => s4 k (by omega)), by rw [st 129 (by omega) (by omega) (by omega) (by omega)]; exact s17.2⟩, ?_, q13, ?_⟩
  · rcases htd with ⟨rfl, e⟩ | ⟨rfl, e⟩
    · unfold shR at *; simp (disch := omega) only [st]; exact s6
    · exact sh.1
  · rcases htd with ⟨rfl, e⟩ | ⟨rfl, e⟩
    · exact sh.1
    · unfold shR at *; simp (disch := omega) only [st]; exact s7
  · rcases htd with ⟨rfl, e⟩ | ⟨rfl, e⟩
    · unfold shW mW zoW at *; simp (disch := omega) only [st]; exact s8
    · exact sh.2
  · rcases htd with ⟨rfl, e⟩ | ⟨rfl, e⟩
    · exact sh.2
    · unfold shW mW zoW at *; simp (disch := omega) only [st]; exact s9
  · unfold shW mW zoW at *; simp (disch := omega) only [st]; exact s10
  · intro w w0 w1 w2
    have := s11 w w0 w1 w2
    unfold shW mW zoW at *; simp (disch := omega) only [st]; exact this
  · simp (disch := omega) only [st]; exact s12
  · simp (disch := omega) only [st]; exact s13
  · unfold rot at *; simp (disch := omega) only [st]; exact s14
  · simp (disch := omega) only [st]; exact s15
  · unfold cSc shW mW zoW chI at *; simp (disch := omega) only [st]; exact s16
  · unfold cTp
    rw [t1, q6]
    exact ⟨rfl, by omega, by omega, fun i i0 i1 => by omega⟩
  · rcases s20 with hn | ⟨rg, hR⟩
    · left
      unfold noR at *
      rw [s4 3 (by omega), s4 20 (by omega), s4 21 (by omega)]
      simp (disch := omega) only [st]
      exact hn
    · have hrg := hR.2.1.1
      exact Or.inr ⟨rg, isR.cg3 (fun w hw => st w (by omega) (by omega) (by omega) (by omega)) hgo hnx (s4 3 (by omega)) (s4 20 (by omega)) (s4 21 (by omega)) s14 hR⟩
/-- what holds when a ring stands anew -/
theorem Inv.good {wd hi tw mk gs sn rd sp : Int} {Mc Mr : Int → Int → Int} (hsp : sp = 15 - td) (h0 : Inv0 M G td r) (hGr : gAll Gr) (hgr : gRg Gr rd) (st : ∀ a, a < G.2.2 → a ≠ 0 → a ≠ 124 → a ≠ 126 → ¬ (sp ≤ a ∧ a ≤ sp + 10) → ¬ (24 ≤ a ∧ a < 28) → a ≠ 36 → a ≠ 115 → Mf a = M a) (st0 : ∀ k, k ≠ 1 → k ≠ 2 → k ≠ 3 → ¬ (14 ≤ k ∧ k ≤ 16) → Mf 0 k = M 0 k) (t1 : Mf 0 1 = 0) (t2 : Mf 0 2 = sp) (t3 : Mf 0 3 = td) (t14 : Mf 0 14 = 0) (s4 : ∀ j, j = 5 ∨ 16 < j ∧ j ≠ 20 ∧ j ≠ 21 → Mf 124 j = M 124 j) (q1 : Mf 124 1 = 0) (q2 : Mf 124 2 = -1) (q3 : Mf 124 3 = rd) (q6 : Mf 124 6 = 0) (q13 : Mf 124 13 = Mf 0 15) (q20 : Mf 124 20 = 0) (q21 : Mf 124 21 = 0) (hd : LDv sp rd wd hi tw mk gs sn Mc Mr) (tp : 0 < tw) (sc : ∀ a, sp ≤ a → a ≤ sp + 10 → Mf a = Mc a) (sR : ∀ a, rd ≤ a → a ≤ rd + 9 → Mf a = Mr a) (b0 : ∀ j, j = 0 ∨ j = 1 ∨ j = 2 ∨ j = 6 ∨ j = 7 → Mf 24 j = Mc (sp + 1) j) (b3 : ∀ j, j = 3 ∨ j = 4 ∨ j = 5 → Mf 24 j = M 24 j) (b1 : Mf 25 = Mc (sp + 2)) (b2 : Mf 26 = Mc (sp + 3)) (b4 : Mf 27 = Mc (sp + 4)) (p1 : Mf 36 1 = 0) (p3 : Mf 36 3 = 0) (p0 : ∀ j, j = 0 ∨ j = 2 → Mf 36 j = M 36 j) (f1 : Mf 115 1 = 0) (f0 : ∀ j, j = 0 ∨ j = 2 → Mf 115 j = M 115 j) (c0 : ∀ k, 0 ≤ k → k < 216 → Mf 126 k = Mr (rd + 1) k) (c1 : ∀ t, 0 ≤ t → t < tw → Mf 126 (216 + t) = Mr (rd + 2) t) (c2 : ∀ i, 0 ≤ i → i < 24 → Mf 126 (222 + i) = Mr (rd + 3) i) (c3 : Mf 126 246 = 0) (c4 : Mf 126 247 = 0) : Inv Mf Gr := by
  obtain ⟨⟨s1, s2, s3, s4', s5, s6, s7, s8, s9, s10, s11, s12, s13, s14, s15⟩, s16, s17, s18, s19, s20⟩ := h0
  have hx := s1.2
  have hrd := hgr.1
  have htd : td = 2 ∧ sp = 13 ∨ td = 13 ∧ sp = 2 := by omega
  obtain ⟨sh, hpR, ⟨⟨n0, n1, n2, n3, n4, n5⟩, ⟨r0, r1, r2, r3, r4, r5⟩, hdim, tt0, tt6, g0, g5, sn0, sn8⟩, hnm, ⟨w6, w7, wc, wb, wz, wr⟩, ⟨e1, e2, e3, e4, e5, e6, e7, e8, e9⟩, ⟨gg1, gg2, gg3, gg4⟩, hse⟩ := hd
  have hdim : 2 ≤ wd ∧ wd ≤ 6 ∧ 2 ≤ hi ∧ hi ≤ 6 ∧ 2 ≤ mk ∧ mk ≤ 6 := by omega
  have hwf : wfW wd hi tw mk (Mc (sp + 3)) (Mc (sp + 4)) 0 (Mc (sp + 2)) := by
    refine ⟨by omega, by omega, by omega, by omega, by omega, by omega, by omega, by omega, fun i => ?_, e4, e5, fun t t0 t1 hc => ?_, by omega, by omega, fun i => ?_⟩
    · by_cases y : 0 ≤ i ∧ i < 6
      · exact e1 i y.1 y.2
      · have : Mc (sp + 1 + 2) i = 0 := sh.2.2.2.1 i (by omega)
        rw [show sp + 1 + 2 = sp + 3 by omega] at this
        rw [this]; omega
    · have := e6 t t0 (by omega) hc
      exact ⟨this.1, this.2.1⟩
    · have := wb i
      exact ⟨this.1, this.2.2 (by omega)⟩
  have hcz : ∀ t k, 0 ≤ t → t < tw → Mc (sp + 3) t < 0 → 1 ≤ k → k < 4 → Mc (sp + 4) (4 * t + k) = -2 := fun t k t0 t1 hc k0 k1 => (e6 t t0 (by omega) hc).2.2 k k0 k1
  have m0 : Mf 24 0 = wd := by rw [b0 0 (by omega)]; exact n0
  have m1 : Mf 24 1 = hi := by rw [b0 1 (by omega)]; exact n1
  have m2 : Mf 24 2 = tw := by rw [b0 2 (by omega)]; exact n2
  have m6 : Mf 24 6 = 0 := by rw [b0 6 (by omega)]; exact w6
  have m7 : Mf 24 7 = 0 := by rw [b0 7 (by omega)]; exact w7
  have mk0 : Mf sp 0 = mk := by rw [sc sp (by omega) (by omega)]; exact n3
  refine ⟨⟨by rw [q1, t14], by omega, by omega, by rw [q2, t14]; rfl⟩, sp, r, ⟨hGr, pr0.u s2 (fun k hk => st0 k (by omega) (by omega) (by omega) (by omega)), by omega, t2, by rw [t3]; omega, ?_, ?_, ?_, ?_, ?_, ?_, ?_, ?_, ?_, ?_⟩, ?_, ⟨pr124.u s17.1 (fun k hk => s4 k (by omega)), by rw [st 129 (by omega) (by omega) (by omega) (by omega) (by omega) (by omega) (by omega) (by omega)]; exact s17.2⟩, ?_, q13, Or.inr ⟨rd, q3, hgr, ?_, ?_, ?_, ?_, ?_, ?_, ?_, ?_, ?_, ?_, ?_⟩⟩
  · rcases htd with ⟨rfl, e⟩ | ⟨rfl, e⟩
    · unfold shR at *; simp (disch := omega) only [st]; exact s6
    · have := sh.1; rw [e] at this; unfold shR at *; simp (disch := omega) only [sc]; exact this
  · rcases htd with ⟨rfl, e⟩ | ⟨rfl, e⟩
    · have := sh.1; rw [e] at this; unfold shR at *; simp (disch := omega) only [sc]; exact this
    · unfold shR at *; simp (disch := omega) only [st]; exact s7
  · rcases htd with ⟨rfl, e⟩ | ⟨rfl, e⟩
    · unfold shW mW zoW at *; simp (disch := omega) only [st]; exact s8
    · have := sh.2; rw [e] at this; unfold shW mW zoW at *; simp (disch := omega) only [sc]; exact this
  · rcases htd with ⟨rfl, e⟩ | ⟨rfl, e⟩
    · have := sh.2; rw [e] at this; unfold shW mW zoW at *; simp (disch := omega) only [sc]; exact this
    · unfold shW mW zoW at *; simp (disch := omega) only [st]; exact s9
  · refine ⟨?_, ?_, ?_, ?_⟩
    · unfold mW; rw [b3 3 (by omega), b3 4 (by omega), b3 5 (by omega)]; exact s10.1
    · show zO 216 (Mf 25); rw [b1, show sp + 2 = sp + 1 + 1 by omega]; exact sh.2.2.1
    · show zO 6 (Mf 26); rw [b2, show sp + 3 = sp + 1 + 2 by omega]; exact sh.2.2.2.1
    · show zO 24 (Mf 27); rw [b4, show sp + 4 = sp + 1 + 3 by omega]; exact sh.2.2.2.2
  · intro w w0 w1 w2
    have := s11 w w0 w1 w2
    unfold shW mW zoW at *; simp (disch := omega) only [st]; exact this
  · exact pr36.u s12 (fun k hk => p0 k (by omega))
  · simp (disch := omega) only [st]; exact s13
  · unfold rot at *; simp (disch := omega) only [st]; exact s14
  · exact pr115.u s15 (fun k hk => f0 k (by omega))
  · unfold cSc shW mW zoW chI at *; simp (disch := omega) only [st]; exact s16
  · unfold cTp
    rw [t1, q6]
    exact ⟨rfl, by omega, by omega, fun i i0 i1 => by omega⟩
  · rw [sR rd (by omega) (by omega)]; exact hpR
  · rw [sR rd (by omega) (by omega), m0, m1, m2, mk0]; exact ⟨r0, r1, r2, r3⟩
  · rw [m0, m1, m2, mk0]
    refine ⟨m0, m1, m2, ?_, ?_, ?_⟩
    · show wfW wd hi tw mk (Mf 26) (Mf 27) (Mf 24 6) (Mf 25); rw [b1, b2, b4, m6]; exact hwf
    · show ∀ i, _ → Mf 25 i = 0; rw [b1]; exact wz
    · show ∀ t k, 0 ≤ t → t < tw → Mf 26 t < 0 → 1 ≤ k → k < 4 → Mf 27 (4 * t + k) = -2; rw [b2, b4]; exact hcz
  · rw [m0, m1, m2, mk0]
    unfold wR
    rw [sc (sp + 1) (by omega) (by omega), sc (sp + 1 + 1) (by omega) (by omega), sc (sp + 1 + 2) (by omega) (by omega), sc (sp + 1 + 3) (by omega) (by omega), w6, show sp + 1 + 1 = sp + 2 by omega, show sp + 1 + 2 = sp + 3 by omega, show sp + 1 + 3 = sp + 4 by omega]
    exact ⟨n0, n1, n2, hwf, wz, hcz⟩
  · rw [m0, m1, m2, mk0]
    unfold cTd
    rw [sc (sp + 1) (by omega) (by omega), sc (sp + 2) (by omega) (by omega), sc (sp + 3) (by omega) (by omega), sc (sp + 4) (by omega) (by omega), sR rd (by omega) (by omega), sR (rd + 1) (by omega) (by omega), sR (rd + 2) (by omega) (by omega), sR (rd + 3) (by omega) (by omega)]
    exact ⟨w6, w7, wc, e2, e3, wr, e8, e9⟩
  · rw [m0, m1, mk0]
    unfold cGs
    rw [sc sp (by omega) (by omega), sc (sp + 6) (by omega) (by omega), sR rd (by omega) (by omega), sR (rd + 4) (by omega) (by omega), n4]
    exact ⟨r4, g0, g5, gg1, gg2, gg3⟩
  · rw [m0, m1, m2, mk0]
    unfold cSe
    rw [sc sp (by omega) (by omega), sc (sp + 7) (by omega) (by omega), sc (sp + 8) (by omega) (by omega), sc (sp + 9) (by omega) (by omega), sc (sp + 10) (by omega) (by omega), sR rd (by omega) (by omega), sR (rd + 5) (by omega) (by omega), sR (rd + 6) (by omega) (by omega), sR (rd + 7) (by omega) (by omega), sR (rd + 8) (by omega) (by omega), n5]
    exact ⟨r5, sn0, sn8, hse⟩
  · rw [m0, m1, m2]
    refine ⟨fun t p t0 t1 hp => ?_, fun t t0 t1 => ?_, fun i i0 i1 => ?_, ?_, ?_, fun k k0 k1 => ?_⟩
    · have hwc := wc t p t0 t1 hp
      have hb0 := idx_b hdim.1 hdim.2.1 hdim.2.2.2.1 hp
      have hb1 : wd * hi ≤ 6 * 6 := Int.mul_le_mul hdim.2.1 hdim.2.2.2.1 (by omega) (by omega)
      have hb : 0 ≤ idx wd p ∧ idx wd p < 36 := ⟨hb0.1, by omega⟩
      show Mf 126 (0 + 36 * t + idx wd p) = Mf 25 (36 * t + p)
      rw [b1, ← hwc, ← c0 (36 * t + idx wd p) (by omega) (by omega)]
      congr 1; omega
    · show Mf 126 (0 + 216 + t) = Mf 26 t
      rw [b2, ← e2 t t0 t1, ← c1 t t0 t1]
      congr 1
    · show Mf 126 (0 + 222 + i) = Mf 27 i
      rw [b4, ← e3 i i0 i1, ← c2 i i0 (by omega)]
      congr 1
    · show Mf 126 246 = _; rw [c3, m7]
    · show Mf 126 247 = _; rw [c4, m6]
    · show 0 ≤ Mf 126 (0 + k) ∧ Mf 126 (0 + k) < 6
      rw [Int.zero_add, c0 k k0 k1]; exact wr k
  · rw [p1, q20]; exact ⟨rfl, by omega, by omega, fun i i0 i1 => by omega⟩
  · rw [p3, q21]; exact ⟨rfl, by omega, by omega, fun i i0 i1 => by omega⟩
  · exact Or.inl f1
end FA
