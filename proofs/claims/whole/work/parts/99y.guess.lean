/-! the line of a guess: its rows -/
def gsT (h : Hp) : Option Hp := (gf 21 h 124 9).bind fun x3 => if w32 x3 = 5 then some h else (gr 21 h 124 4).bind fun x4 => (gr 20 h x4 10).bind fun x5 => (gr 21 h 124 4).bind fun x6 => (gf 20 h x6 4).bind fun x7 => (M_X11_readError h 124 x5 x7 1).bind fun h => (gf 21 h 124 9).bind fun x8 => if w32 x8 = 5 then some h else (gr 21 h 124 4).bind fun x9 => (gf 20 h x9 4).bind fun x10 => (pf 20 h x9 4 (x10 + 1)).bind fun h => some h
theorem gsT_eq (h : Hp) : M_X11_readGuess h 124 = tk 21 h 124 ((gr 21 h 124 4).bind fun x1 => (gf 20 h x1 4).bind fun x2 => (M_X11_begins h 124 x2 5).bind gsT) := rfl
section GS
variable {Mc Mr Mc1 Mr1 : Int → Int → Int} {Gc Gr : GG} {R e k sp rd wd hi tw mk gs sn : Int} {f : Int → Int}
/-- the four numbers of an error -/
def u4 (g : Int → Int) (o s v1 v2 v3 : Int) : Int → Int := u1 (u1 (u1 (u1 g o s) (o + 1) v1) (o + 2) v2) (o + 3) v3
theorem u4_0 {g : Int → Int} {o s v1 v2 v3 : Int} : u4 g o s v1 v2 v3 o = s := by unfold u4; rw [u1_k _ _ (by omega), u1_k _ _ (by omega), u1_k _ _ (by omega), u1_s]
theorem u4_1 {g : Int → Int} {o s v1 v2 v3 : Int} : u4 g o s v1 v2 v3 (o + 1) = v1 := by unfold u4; rw [u1_k _ _ (by omega), u1_k _ _ (by omega), u1_s]
theorem u4_2 {g : Int → Int} {o s v1 v2 v3 : Int} : u4 g o s v1 v2 v3 (o + 2) = v2 := by unfold u4; rw [u1_k _ _ (by omega), u1_s]
theorem u4_3 {g : Int → Int} {o s v1 v2 v3 : Int} : u4 g o s v1 v2 v3 (o + 3) = v3 := by unfold u4; rw [u1_s]
theorem u4_k {g : Int → Int} {o s v1 v2 v3 j : Int} (h : j < o ∨ o + 3 < j) : u4 g o s v1 v2 v3 j = g j := by unfold u4; rw [u1_k _ _ (by omega), u1_k _ _ (by omega), u1_k _ _ (by omega), u1_k _ _ (by omega)]
theorem p244_ok {rr t s v1 v2 v3 n : Int} (h : LK Gc Gr R e sp rd f Mc Mr k) (kr : Gr.1 rr = 1) (lr : Gr.2.1 rr = n) (t0 : 0 ≤ t) (tn : 4 * t + 3 < n) (n9 : n ≤ 100) (s0 : 0 ≤ s) (s9 : s ≤ 9) : M_X11_readError_p244 (Mr, Gr) 124 rr t s v1 v2 v3 = some (sr Mr rr (u4 (Mr rr) (4 * t) s v1 v2 v3), Gr) := by
  have hG := h.hr
  have k124 := gk_124 hG
  have h9 := h.r9
  apply Ok.eq
  unfold M_X11_readError_p244 u4
  refine k_gf k124 rfl ?_
  refine k_ifF (by rw [w32_id (by omega) (by omega)]; omega) ?_
  repeat' (with_reducible first | refine k_gf (by first | assumption | omega) (by first | assumption | ((try simp (disch := omega) only [sr_s, sr_a, sr_sr, u1_s, u1_k]); exact rfl)) ?_ | refine k_gr (by first | assumption | omega) (by first | assumption | ((try simp (disch := omega) only [sr_s, sr_a, sr_sr, u1_s, u1_k]); exact rfl)) (by omega) ?_ | refine k_ald (by first | assumption | omega) (by first | assumption | exact rfl) (by omega) (by omega) (by omega) (by first | assumption | ((try simp (disch := omega) only [sr_s, sr_a, sr_sr, u1_s, u1_k]); exact rfl)) ?_ | refine k_ifT (by first | (simp (disch := omega) only [w32_id]; first | done | omega) | omega) ?_ | refine k_ifF (by first | (simp (disch := omega) only [w32_id]; first | done | omega) | omega) ?_ | refine k_pf (by first | assumption | omega) (by (try simp (disch := omega) only [sr_s, sr_a, sr_sr, u1_u1]); exact rfl) ?_ | refine k_ast (by first | assumption | omega) (by first | assumption | exact rfl) (by omega) (by omega) (by omega) (by (try simp (disch := omega) only [sr_s, sr_a, sr_sr, u1_u1]); exact rfl) ?_ | refine k_irm (by omega) (by omega) (by omega) (by omega) ?_ | refine k_idv (by omega) (by omega) (by omega) (by omega) ?_ | refine k_tk (by first | assumption | omega) ?_ | refine k_rp (by omega) ?_ | refine k_aldR (by first | assumption | omega) (by first | assumption | exact rfl) (by omega) (by omega) (by omega) (by first | assumption | ((try simp (disch := omega) only [sr_s, sr_a, sr_sr, u1_s, u1_k]); exact rfl)) (by omega) ?_ | refine k_astR (by first | assumption | omega) (by first | assumption | exact rfl) (by omega) (by omega) (by omega) (by first | assumption | omega) (by (try simp (disch := omega) only [sr_s, sr_a, sr_sr, u1_u1]); exact rfl) ?_ | refine k_pz (by first | assumption | omega) (by omega) (by (try simp (disch := omega) only [sr_s, sr_a, sr_sr, u1_u1]); exact rfl) ?_ | refine k_alen (by first | assumption | omega) (by first | assumption | exact rfl) ?_ | refine k_cpy (by first | assumption | omega) (by first | assumption | omega) (by first | assumption | exact rfl) (by first | assumption | exact rfl) (by omega) (by omega) (by omega) (by omega) (by omega) (by omega) (by omega) (by omega) (by (try simp (disch := omega) only [sr_s, sr_a, sr_sr, u1_u1]); exact rfl) ?_)
  exact Ok.ret rfl
/-- one more guess -/
theorem ld_guess {s v1 v2 v3 : Int} (hs : sp = 2 ∨ sp = 13) (hr : 146 ≤ rd) (h : LDv sp rd wd hi tw mk gs sn Mc Mr) (w2 : 2 ≤ wd) (g4 : gs < 5) (s8 : s ≤ 8) (hb : errB wd hi mk s v1 v2 v3) (c1 : ∀ a, a ≠ sp → a ≠ sp + 6 → Mc1 a = Mc a) (c2 : ∀ j, j ≠ 4 → Mc1 sp j = Mc sp j) (c3 : Mc1 sp 4 = gs + 1) (c6 : Mc1 (sp + 6) = u4 (Mc (sp + 6)) (4 * gs) s v1 v2 v3) (r1 : ∀ a, a ≠ rd → a ≠ rd + 4 → Mr1 a = Mr a) (r2 : ∀ j, j ≠ 4 → Mr1 rd j = Mr rd j) (r3 : Mr1 rd 4 = gs + 1) (r4 : Mr1 (rd + 4) = u4 (Mr (rd + 4)) (4 * gs) s v1 v2 v3) : LDv sp rd wd hi tw mk (gs + 1) sn Mc1 Mr1 := by
  obtain ⟨⟨a1, a2⟩, b0, c, n, d, g, i, l⟩ := h
  have hgs := c.2.2.2.2.2.1
  refine ⟨⟨?_, ?_⟩, ?_, ?_, ?_, ?_, ?_, ?_, ?_⟩
  · obtain ⟨q1, q2, q3, q5, q6, q7, q8, qz⟩ := a1
    refine ⟨by rw [c2 1 (by omega)]; exact q1, by rw [c2 2 (by omega)]; exact q2, by rw [c2 3 (by omega)]; exact q3, by rw [c2 5 (by omega)]; exact q5, by rw [c2 6 (by omega)]; exact q6, by rw [c2 7 (by omega)]; exact q7, by rw [c2 8 (by omega)]; exact q8, fun j hj => ?_⟩
    rw [c6, u4_k (by omega)]
    exact qz j hj
  · unfold shW mW zoW at *
    rw [c1 (sp + 1) (by omega) (by omega), c1 (sp + 1 + 1) (by omega) (by omega), c1 (sp + 1 + 2) (by omega) (by omega), c1 (sp + 1 + 3) (by omega) (by omega)]
    exact a2
  · unfold pRg at *
    rw [r2 7 (by omega), r2 8 (by omega), r2 9 (by omega), r2 10 (by omega), r2 11 (by omega), r2 12 (by omega), r2 13 (by omega), r2 14 (by omega), r2 15 (by omega)]
    exact b0
  · obtain ⟨⟨n0, n1, n2, n3, n4, n5⟩, ⟨m0, m1, m2, m3, m4, m5⟩, hd, q⟩ := c
    have e1 := c1 (sp + 1) (by omega) (by omega)
    exact ⟨⟨by rw [e1]; exact n0, by rw [e1]; exact n1, by rw [e1]; exact n2, by rw [c2 0 (by omega)]; exact n3, c3, by rw [c2 9 (by omega)]; exact n5⟩, ⟨by rw [r2 0 (by omega)]; exact m0, by rw [r2 1 (by omega)]; exact m1, by rw [r2 2 (by omega)]; exact m2, by rw [r2 3 (by omega)]; exact m3, r3, by rw [r2 5 (by omega)]; exact m5⟩, Or.inr (by omega), by omega, by omega, by omega, by omega, by omega, by omega⟩
  · rw [c1 (sp + 5) (by omega) (by omega), r1 (rd + 9) (by omega) (by omega)]; exact n
  · unfold LDw at *
    rw [c1 (sp + 1) (by omega) (by omega), c1 (sp + 2) (by omega) (by omega), r1 (rd + 1) (by omega) (by omega)]
    exact d
  · unfold LDe at *
    rw [c1 (sp + 3) (by omega) (by omega), c1 (sp + 4) (by omega) (by omega), r1 (rd + 2) (by omega) (by omega), r1 (rd + 3) (by omega) (by omega), r2 6 (by omega)]
    exact g
  · obtain ⟨i1, i2, i3, i4⟩ := i
    have hc : ∀ j, j = 4 * gs ∨ j = 4 * gs + 1 ∨ j = 4 * gs + 2 ∨ j = 4 * gs + 3 ∨ (j < 4 * gs ∨ 4 * gs + 3 < j) := fun j => by omega
    have hb0 := hb
    unfold errB at hb0
    have hlim : (-2 ≤ s ∧ s ≤ 10) ∧ (-2 ≤ v1 ∧ v1 ≤ 10) ∧ (-2 ≤ v2 ∧ v2 ≤ 10) ∧ -2 ≤ v3 ∧ v3 ≤ 10 := ⟨⟨by omega, by omega⟩, ⟨by omega, by omega⟩, ⟨by omega, by omega⟩, by omega, by omega⟩
    clear hb0
    refine ⟨fun j => ?_, fun q q0 q1 => ?_, fun j j0 j1 => ?_, fun j j0 j1 => ?_⟩
    · rw [c6]
      rcases hc j with rfl | rfl | rfl | rfl | y
      · rw [u4_0]; exact hlim.1
      · rw [u4_1]; exact hlim.2.1
      · rw [u4_2]; exact hlim.2.2.1
      · rw [u4_3]; exact hlim.2.2.2
      · rw [u4_k y]; exact i1 j
    · rw [c6]
      unfold errT
      by_cases y : q = gs
      · subst y
        rw [u4_0, u4_1, u4_2, u4_3]
        exact ⟨hb, s8⟩
      · rw [u4_k (by omega), u4_k (by omega), u4_k (by omega), u4_k (by omega)]
        exact i2 q q0 (by omega)
    · rw [c6, r4]
      rcases hc j with rfl | rfl | rfl | rfl | y
      · rw [u4_0, u4_0]
      · rw [u4_1, u4_1]
      · rw [u4_2, u4_2]
      · rw [u4_3, u4_3]
      · rw [u4_k y, u4_k y]
        exact i3 j j0 (by omega)
    · rw [c6, u4_k (by omega)]
      exact i4 j (by omega) j1
  · unfold LDs at *
    rw [c1 (sp + 7) (by omega) (by omega), c1 (sp + 8) (by omega) (by omega), c1 (sp + 9) (by omega) (by omega), c1 (sp + 10) (by omega) (by omega), r1 (rd + 5) (by omega) (by omega), r1 (rd + 6) (by omega) (by omega), r1 (rd + 7) (by omega) (by omega), r1 (rd + 8) (by omega) (by omega)]
    exact l
end GS
