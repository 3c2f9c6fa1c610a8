/-! a town's cells -/
section TY
variable {Mc Mr Mc1 Mr1 Ma Mb : Int → Int → Int} {Gc Gr : GG} {R e k sp rd wd hi tw mk gs sn i : Int} {f g g1 g0 r r1 r0 : Int → Int}
/-- the first i rows of the town tw stand in the class's g and the reference's r; before: g0, r0 -/
def twC (wd mk tw i : Int) (g0 r0 g r : Int → Int) : Prop :=
  (∀ x c, 0 ≤ x → x < i → 0 ≤ c → c < wd → (0 ≤ g (36 * tw + 6 * x + c) ∧ g (36 * tw + 6 * x + c) < mk) ∧ r (36 * tw + x * wd + c) = g (36 * tw + 6 * x + c)) ∧ (∀ j, (∀ x c, 0 ≤ x → x < i → 0 ≤ c → c < wd → j ≠ 36 * tw + 6 * x + c) → g j = g0 j) ∧ (∀ j, j < 36 * tw → r j = r0 j) ∧ (∀ j, 0 ≤ r j ∧ r j < 6) ∧ zO 216 g
theorem twC_s {A : Int} (h : twC wd mk tw i g0 r0 g r) (w2 : 2 ≤ wd) (w6 : wd ≤ 6) (m6 : mk ≤ 6) (i0 : 0 ≤ i) (i5 : i ≤ 5) (t0 : 0 ≤ tw) (t5 : tw ≤ 5) (hA : ∀ j, 0 ≤ j → j < wd → 0 ≤ f (A + j) - 97 ∧ f (A + j) - 97 < mk) : twC wd mk tw (i + 1) g0 r0 (rwM g f A (36 * tw + 6 * i) wd) (rwM r f A (36 * tw + i * wd) wd) := by
  obtain ⟨h1, h2, h3, h4, h5⟩ := h
  have hib : 0 ≤ i * wd := Int.mul_nonneg i0 (by omega)
  refine ⟨fun x c x0 x1 c0 c1 => ?_, fun j hj => ?_, fun j hj => ?_, fun j => ?_, zO_rwM h5 (by omega) (by omega) (by omega)⟩
  · by_cases y : x = i
    · subst y
      rw [rwM_in c0 c1, rwM_in c0 c1]
      exact ⟨hA c c0 c1, rfl⟩
    · have hx : (x + 1) * wd ≤ i * wd := Int.mul_le_mul_of_nonneg_right (by omega) (by omega)
      rw [Int.add_mul, Int.one_mul] at hx
      rw [rwM_out (by omega), rwM_out (by omega)]
      exact h1 x c x0 (by omega) c0 c1
  · have hn : j < 36 * tw + 6 * i ∨ 36 * tw + 6 * i + wd ≤ j := by
      by_cases y : j < 36 * tw + 6 * i ∨ 36 * tw + 6 * i + wd ≤ j
      · exact y
      · exact absurd (by omega : j = 36 * tw + 6 * i + (j - (36 * tw + 6 * i))) (hj i (j - (36 * tw + 6 * i)) i0 (by omega) (by omega) (by omega))
    rw [rwM_out hn]
    exact h2 j (fun x c x0 x1 c0 c1 => hj x c x0 (by omega) c0 c1)
  · rw [rwM_out (by omega)]
    exact h3 j hj
  · by_cases y : j < 36 * tw + i * wd ∨ 36 * tw + i * wd + wd ≤ j
    · rw [rwM_out y]; exact h4 j
    · have := hA (j - (36 * tw + i * wd)) (by omega) (by omega)
      have e1 := rwM_in (g := r) (f := f) (A := A) (b := 36 * tw + i * wd) (n := wd) (j := j - (36 * tw + i * wd)) (by omega) (by omega)
      rw [show 36 * tw + i * wd + (j - (36 * tw + i * wd)) = j by omega] at e1
      rw [e1]
      omega
theorem twC_0 (h4 : ∀ j, 0 ≤ r0 j ∧ r0 j < 6) (h5 : zO 216 g0) : twC wd mk tw 0 g0 r0 g0 r0 := ⟨fun x c x0 x1 => by omega, fun j _ => rfl, fun j _ => rfl, h4, h5⟩
/-- one more town -/
theorem ld_town {w : Int} (hs : sp = 2 ∨ sp = 13) (hr : 146 ≤ rd) (h : LDv sp rd wd hi tw mk gs sn Mc Mr) (w2 : 2 ≤ wd) (t5 : tw ≤ 5) (hC : twC wd mk tw hi (Mc (sp + 2)) (Mr (rd + 1)) (Mc1 (sp + 2)) (Mr1 (rd + 1))) (c1 : ∀ a, a ≠ sp + 1 → a ≠ sp + 2 → a ≠ sp + 5 → Mc1 a = Mc a) (c2 : Mc1 (sp + 1) = u1 (Mc (sp + 1)) 2 (tw + 1)) (c5 : Mc1 (sp + 5) = u1 (Mc (sp + 5)) tw w) (r1 : ∀ a, a ≠ rd → a ≠ rd + 1 → a ≠ rd + 2 → a ≠ rd + 3 → a ≠ rd + 9 → Mr1 a = Mr a) (r2 : Mr1 rd = u1 (Mr rd) 3 (tw + 1)) (r3 : Mr1 (rd + 2) = u1 (Mr (rd + 2)) tw (-2)) (r4 : Mr1 (rd + 3) = u4 (Mr (rd + 3)) (4 * tw) 0 (-2) (-2) (-2)) (r9 : Mr1 (rd + 9) = u1 (Mr (rd + 9)) tw w) : LDv sp rd wd hi (tw + 1) mk gs sn Mc1 Mr1 := by
  obtain ⟨⟨a1, a2⟩, b0, cc, n, d, g, i, l⟩ := h
  have htw := cc.2.2.2.1
  have hdim : (2 ≤ wd ∧ wd ≤ 6) ∧ (2 ≤ hi ∧ hi ≤ 6) ∧ 2 ≤ mk ∧ mk ≤ 6 := by
    have := cc.2.2.1
    omega
  refine ⟨⟨?_, ?_⟩, ?_, ?_, ?_, ?_, ?_, ?_, ?_⟩
  · unfold shR at *
    rw [c1 sp (by omega) (by omega) (by omega), c1 (sp + 6) (by omega) (by omega) (by omega)]
    exact a1
  · obtain ⟨m, z1, z2, z3⟩ := a2
    refine ⟨?_, ?_, ?_, ?_⟩
    · unfold mW at *
      rw [c2, u1_k _ _ (by omega), u1_k _ _ (by omega), u1_k _ _ (by omega)]
      exact m
    · rw [show sp + 1 + 1 = sp + 2 by omega]; exact hC.2.2.2.2
    · rw [c1 (sp + 1 + 2) (by omega) (by omega) (by omega)]; exact z2
    · rw [c1 (sp + 1 + 3) (by omega) (by omega) (by omega)]; exact z3
  · unfold pRg at *
    rw [r2, u1_k _ _ (by omega), u1_k _ _ (by omega), u1_k _ _ (by omega), u1_k _ _ (by omega), u1_k _ _ (by omega), u1_k _ _ (by omega), u1_k _ _ (by omega), u1_k _ _ (by omega), u1_k _ _ (by omega)]
    exact b0
  · obtain ⟨⟨n0, n1, n2, n3, n4, n5⟩, ⟨m0, m1, m2, m3, m4, m5⟩, hd, q⟩ := cc
    have e1 := c1 sp (by omega) (by omega) (by omega)
    exact ⟨⟨by rw [c2, u1_k _ _ (by omega)]; exact n0, by rw [c2, u1_k _ _ (by omega)]; exact n1, by rw [c2, u1_s], by rw [e1]; exact n3, by rw [e1]; exact n4, by rw [e1]; exact n5⟩, ⟨by rw [r2, u1_k _ _ (by omega)]; exact m0, by rw [r2, u1_k _ _ (by omega)]; exact m1, by rw [r2, u1_k _ _ (by omega)]; exact m2, by rw [r2, u1_s], by rw [r2, u1_k _ _ (by omega)]; exact m4, by rw [r2, u1_k _ _ (by omega)]; exact m5⟩, Or.inr (by omega), by omega, by omega, by omega, by omega, by omega, by omega⟩
  · intro t t0 t1
    rw [c5, r9]
    by_cases y : t = tw
    · rw [y, u1_s, u1_s]
    · rw [u1_k _ _ y, u1_k _ _ y]; exact n t t0 (by omega)
  · obtain ⟨d1, d2, d3, d4, d5, d6⟩ := d
    obtain ⟨k1, k2, k3, k4, k5⟩ := hC
    have hnew : ∀ j, (36 * tw ≤ j ∧ j < 36 * tw + 36 ∧ (j - 36 * tw) % 6 < wd ∧ (j - 36 * tw) / 6 < hi) ∨ Mc1 (sp + 2) j = Mc (sp + 2) j := fun j => by
      by_cases y : 36 * tw ≤ j ∧ j < 36 * tw + 36 ∧ (j - 36 * tw) % 6 < wd ∧ (j - 36 * tw) / 6 < hi
      · exact Or.inl y
      · exact Or.inr (k2 j (fun x c x0 x1 c0 c1 => by omega))
    have hcell : ∀ j, (36 * tw ≤ j ∧ j < 36 * tw + 36 ∧ (j - 36 * tw) % 6 < wd ∧ (j - 36 * tw) / 6 < hi) → 0 ≤ Mc1 (sp + 2) j ∧ Mc1 (sp + 2) j < mk := fun j y => by
      have := (k1 ((j - 36 * tw) / 6) ((j - 36 * tw) % 6) (by omega) (by omega) (by omega) (by omega)).1
      rw [show 36 * tw + 6 * ((j - 36 * tw) / 6) + (j - 36 * tw) % 6 = j by omega] at this
      exact this
    refine ⟨by rw [c2, u1_k _ _ (by omega)]; exact d1, by rw [c2, u1_k _ _ (by omega)]; exact d2, fun t p t0 t1 hp => ?_, fun j => ?_, fun j hj => ?_, k4⟩
    · have hp36 := inV_36 hdim.1.2 hdim.2.1.2 hp
      have hix := idx_b (wd := wd) (hi := hi) (p := p) w2 hdim.1.2 hdim.2.1.2 hp
      have hwh : wd * hi ≤ 6 * 6 := Int.mul_le_mul hdim.1.2 hdim.2.1.2 (by omega) (by omega)
      by_cases y : t = tw
      · subst y
        have hp0 := hp
        unfold inV at hp0
        have := (k1 (p / 6) (p % 6) (by omega) (by omega) (by omega) (by omega)).2
        rw [show 36 * t + 6 * (p / 6) + p % 6 = 36 * t + p by omega] at this
        unfold idx
        rw [← this]
        congr 1
        omega
      · rw [k3 _ (by omega), k2 _ (fun x c x0 x1 c0 c1 => by omega)]
        exact d3 t p t0 (by omega) hp
    · rcases hnew j with y | y
      · have := hcell j y
        omega
      · rw [y]; exact d4 j
    · rcases hnew j with y | y
      · exact absurd (by omega) hj
      · rw [y]; exact d5 j (by omega)
  · obtain ⟨g1, g2, g3, g4, g5, g6, g7, g8, g9⟩ := g
    have e3 := c1 (sp + 3) (by omega) (by omega) (by omega)
    have e4 := c1 (sp + 4) (by omega) (by omega) (by omega)
    have gt := g7 tw (by omega) (by omega)
    have gv := g6 tw (by omega) (by omega) (by omega)
    have gv1 := gv.2.2 1 (by omega) (by omega)
    have gv2 := gv.2.2 2 (by omega) (by omega)
    have gv3 := gv.2.2 3 (by omega) (by omega)
    have huk : uk (Mc (sp + 4)) (tw + 1).toNat = uk (Mc (sp + 4)) tw.toNat := by
      rw [show (tw + 1).toNat = tw.toNat + 1 by omega]
      show uk (Mc (sp + 4)) tw.toNat + (if Mc (sp + 4) (4 * ((tw.toNat : Nat) : Int)) = 10 then 1 else 0) = _
      rw [show ((tw.toNat : Nat) : Int) = tw by omega, gv.2.1, if_neg (by omega)]
      rfl
    refine ⟨?_, fun t t0 t1 => ?_, fun j j0 j1 => ?_, by rw [e4]; exact g4, fun t t0 t1 => ?_, by rw [e3, e4]; exact g6, ?_, ?_, ?_⟩
    · intro t t0 t6
      rw [e3]
      have := g1 t t0 t6
      omega
    · rw [e3, r3]
      by_cases y : t = tw
      · rw [y, u1_s, gt]
      · rw [u1_k _ _ y]; exact g2 t t0 (by omega)
    · rw [e4, r4]
      have hc : j = 4 * tw ∨ j = 4 * tw + 1 ∨ j = 4 * tw + 2 ∨ j = 4 * tw + 3 ∨ j < 4 * tw := by omega
      rcases hc with rfl | rfl | rfl | rfl | y
      · rw [u4_0]; exact gv.2.1.symm
      · rw [u4_1]; exact gv1.symm
      · rw [u4_2]; exact gv2.symm
      · rw [u4_3]; exact gv3.symm
      · rw [u4_k (by omega)]; exact g3 j j0 y
    · rw [e4]
      by_cases y : t = tw
      · subst y
        show errB wd hi mk _ _ _ _
        rw [gv.2.1, gv1, gv2, gv3]
        unfold errB
        clear gv gv1 gv2 gv3 g4 g5 g6
        omega
      · exact g5 t t0 (by omega)
    · intro t t0 t6
      rw [e3]
      exact g7 t (by omega) t6
    · rw [e4, huk, r2, u1_k _ _ (by omega)]; exact g8
    · rw [e4, huk]; exact g9
  · unfold LDg at *
    rw [c1 (sp + 6) (by omega) (by omega) (by omega), r1 (rd + 4) (by omega) (by omega) (by omega) (by omega) (by omega)]
    exact i
  · have e7 := c1 (sp + 7) (by omega) (by omega) (by omega)
    have e8 := c1 (sp + 8) (by omega) (by omega) (by omega)
    have e9 := c1 (sp + 9) (by omega) (by omega) (by omega)
    have e10 := c1 (sp + 10) (by omega) (by omega) (by omega)
    intro q q0 q1
    have := l q q0 q1
    rw [e7, e8, e9, e10, r1 (rd + 5) (by omega) (by omega) (by omega) (by omega) (by omega), r1 (rd + 6) (by omega) (by omega) (by omega) (by omega) (by omega), r1 (rd + 7) (by omega) (by omega) (by omega) (by omega) (by omega), r1 (rd + 8) (by omega) (by omega) (by omega) (by omega) (by omega)]
    exact ⟨⟨this.1.1, by have := this.1.2; omega⟩, this.2⟩
end TY
