/-! the class's Chain: a whole map, where a mark came from -/
theorem chF.I {M : Int → Int → Int} {G : GG} {w mk n b t : Int} (h : chF M G w mk n b t) : chI M := h.1.1.2.1
section CF
variable {M : Int → Int → Int} {G : GG} {w n b t s p mk ma : Int}
theorem X0_mapBehind_ok (hG : gAll G) (hI : chI M) (hW : wOK M G w mk) (t0 : 0 ≤ t) (t1 : t < M w 2) (n0 : 0 ≤ n) (n1 : n ≤ 60) (q1 : G.1 ma = 1) (q2 : G.2.1 ma = 36) (q3 : 105 < ma) : Ok (M_X0_mapBehind (M, G) 99 w t n ma) (fun h => ∃ M1, h = (M1, G) ∧ (∀ a, (a < 99 ∨ 105 < a) → a ≠ ma → M1 a = M a) ∧ chI M1 ∧ M1 ma = cp1 (M ma) (M1 102) (36 * n) 0 36 ∧ ∀ q, inV (M w 0) (M w 1) q → M1 ma q = bhM M w n.toNat (36 * t + q)) := by
  have k99 := gk_99 hG
  have hW' := hW
  obtain ⟨hg, hm, ⟨a1, a2, b1, b2, x1, x6, k2, k6, hco, her, het, hcz, y0, y1, hce⟩, hw99⟩ := hW
  have hg0 := hg.1
  unfold M_X0_mapBehind M_X0_mapBehind_w10
  refine k_tk k99 (Ok.bind (X0_lay_ok hG hI hW' t0 t1 n0 n1) ?_)
  rintro _ ⟨M1, rfl, f, hI1, b, hL, hD, hz⟩
  have fw : M1 w = M w := f w (by omega)
  have fw3 : M1 (w + 3) = M (w + 3) := f (w + 3) (by omega)
  have hX1 : chX M1 G w mk n b t := ⟨hG, hI1, hW'.fr (fun a ha => f a (Or.inl ha)), by rw [fw]; exact hL, by rw [fw, fw3]; exact hD⟩
  have hw1 : ∀ s, b ≤ s → s ≤ n → wS M1 (M w 0) (M w 1) s := fun s u v => by
    obtain ⟨z1, z2⟩ := hz s u v
    unfold wS
    rw [z1, z2, cntB_0]
    exact ⟨rfl, fun i i0 i1 => by omega, fun q _ _ h => by rw [bt_0] at h; cases h⟩
  have hl := hL
  obtain ⟨l0, l1, l2, b0, bn, n6, ln, lt, lc, lb⟩ := hl
  refine Ok.bind (wh_for (fun i st => ∃ M2, st = ((M2, G), (i : Int)) ∧ wF M1 M2 n ∧ wS M2 (M w 0) (M w 1) n ∧ ∀ q, inV (M w 0) (M w 1) q → q < i → bt (M2 105 n) q = true) (fun h => ∃ M2, h = (M2, G) ∧ wF M1 M2 n ∧ wS M2 (M w 0) (M w 1) n ∧ ∀ q, inV (M w 0) (M w 1) q → bt (M2 105 n) q = true) 36 (by omega) ⟨M1, rfl, wF.refl M1 n, hw1 n bn (Int.le_refl n), fun q hq h => by have := hq.1; omega⟩ ?_ ?_) ?_
  · rintro i _ hi ⟨M2, rfl, hF, hw2, hb⟩
    dsimp only
    have gw : M2 w = M w := (hF.1 w (by omega) (by omega) (by omega)).trans fw
    have g99 : M2 99 = M1 99 := hF.1 99 (by omega) (by omega) (by omega)
    have hk := X8_holds_ok (M := M2) (p := i) hg (by omega) (by omega) (by rw [gw]; omega) (by rw [gw]; omega) (by rw [gw]; omega) (by rw [gw]; omega)
    rw [gw] at hk
    unfold holdsV at hk
    unfold M_X0_mapBehind_b10 M_X0_mapBehind_p36
    by_cases hh : (i : Int) % 6 < M w 0 ∧ (i : Int) / 6 < M w 1
    · rw [if_pos hh] at hk
      repeat' (with_reducible first | refine k_gf (by first | assumption | omega) (by first | assumption | ((try simp (disch := omega) only [sr_s, sr_a, sr_sr, u1_s, u1_k, l1, g99]); exact rfl)) ?_ | refine k_gr (by first | assumption | omega) (by first | assumption | ((try simp (disch := omega) only [sr_s, sr_a, sr_sr, u1_s, u1_k, l1, g99]); exact rfl)) (by omega) ?_ | refine k_ald (by first | assumption | omega) (by first | assumption | exact rfl) (by omega) (by omega) (by omega) (by first | assumption | ((try simp (disch := omega) only [sr_s, sr_a, sr_sr, u1_s, u1_k, l1, g99]); exact rfl)) ?_ | refine k_eq (hk) ?_ | refine k_ifT (by first | (simp (disch := omega) only [w32_id]; first | done | omega) | omega) ?_ | refine k_ifF (by first | (simp (disch := omega) only [w32_id]; first | done | omega) | omega) ?_ | refine k_pf (by first | assumption | omega) (by (try simp (disch := omega) only [sr_s, sr_a, sr_sr, u1_u1, l1, g99]); exact rfl) ?_ | refine k_ast (by first | assumption | omega) (by first | assumption | exact rfl) (by omega) (by omega) (by omega) (by (try simp (disch := omega) only [sr_s, sr_a, sr_sr, u1_u1, l1, g99]); exact rfl) ?_ | refine k_irm (by omega) (by omega) (by omega) (by omega) ?_ | refine k_idv (by omega) (by omega) (by omega) (by omega) ?_ | refine k_tk (by first | assumption | omega) ?_ | refine k_rp (by omega) ?_ | refine k_aldR (by first | assumption | omega) (by first | assumption | exact rfl) (by omega) (by omega) (by omega) (by first | assumption | ((try simp (disch := omega) only [sr_s, sr_a, sr_sr, u1_s, u1_k, l1, g99]); exact rfl)) (by omega) ?_ | refine k_astR (by first | assumption | omega) (by first | assumption | exact rfl) (by omega) (by omega) (by omega) (by first | assumption | omega) (by (try simp (disch := omega) only [sr_s, sr_a, sr_sr, u1_u1, l1, g99]); exact rfl) ?_ | refine k_pz (by first | assumption | omega) (by omega) (by (try simp (disch := omega) only [sr_s, sr_a, sr_sr, u1_u1, l1, g99]); exact rfl) ?_ | refine k_alen (by first | assumption | omega) (by first | assumption | exact rfl) ?_ | refine k_cpy (by first | assumption | omega) (by first | assumption | omega) (by first | assumption | exact rfl) (by first | assumption | exact rfl) (by omega) (by omega) (by omega) (by omega) (by omega) (by omega) (by omega) (by omega) (by (try simp (disch := omega) only [sr_s, sr_a, sr_sr, u1_u1, l1, g99]); exact rfl) ?_ | refine k_if (by (try simp (disch := omega) only [w32_id]); exact Iff.rfl) (fun c => ?_) (fun c => ?_))
      refine Ok.bind (X0_want_ok (wd := M w 0) (hi := M w 1) hG (by rw [g99]; exact hI1.1) (by omega) (by omega) ⟨by omega, hh.1, hh.2⟩ a2 b2 hw2) ?_
      rintro _ ⟨M3, rfl, hF3, hw3, hb3⟩
      refine Ok.ret ⟨M3, rfl, hF.trans hF3, hw3, fun q hq h => ?_⟩
      by_cases e : q = i
      · rw [e]; exact hb3
      · exact hF3.2.2 q (hb q hq (by omega))
    · rw [if_neg hh] at hk
      repeat' (with_reducible first | refine k_gf (by first | assumption | omega) (by first | assumption | ((try simp (disch := omega) only [sr_s, sr_a, sr_sr, u1_s, u1_k, l1, g99]); exact rfl)) ?_ | refine k_gr (by first | assumption | omega) (by first | assumption | ((try simp (disch := omega) only [sr_s, sr_a, sr_sr, u1_s, u1_k, l1, g99]); exact rfl)) (by omega) ?_ | refine k_ald (by first | assumption | omega) (by first | assumption | exact rfl) (by omega) (by omega) (by omega) (by first | assumption | ((try simp (disch := omega) only [sr_s, sr_a, sr_sr, u1_s, u1_k, l1, g99]); exact rfl)) ?_ | refine k_eq (hk) ?_ | refine k_ifT (by first | (simp (disch := omega) only [w32_id]; first | done | omega) | omega) ?_ | refine k_ifF (by first | (simp (disch := omega) only [w32_id]; first | done | omega) | omega) ?_ | refine k_pf (by first | assumption | omega) (by (try simp (disch := omega) only [sr_s, sr_a, sr_sr, u1_u1, l1, g99]); exact rfl) ?_ | refine k_ast (by first | assumption | omega) (by first | assumption | exact rfl) (by omega) (by omega) (by omega) (by (try simp (disch := omega) only [sr_s, sr_a, sr_sr, u1_u1, l1, g99]); exact rfl) ?_ | refine k_irm (by omega) (by omega) (by omega) (by omega) ?_ | refine k_idv (by omega) (by omega) (by omega) (by omega) ?_ | refine k_tk (by first | assumption | omega) ?_ | refine k_rp (by omega) ?_ | refine k_aldR (by first | assumption | omega) (by first | assumption | exact rfl) (by omega) (by omega) (by omega) (by first | assumption | ((try simp (disch := omega) only [sr_s, sr_a, sr_sr, u1_s, u1_k, l1, g99]); exact rfl)) (by omega) ?_ | refine k_astR (by first | assumption | omega) (by first | assumption | exact rfl) (by omega) (by omega) (by omega) (by first | assumption | omega) (by (try simp (disch := omega) only [sr_s, sr_a, sr_sr, u1_u1, l1, g99]); exact rfl) ?_ | refine k_pz (by first | assumption | omega) (by omega) (by (try simp (disch := omega) only [sr_s, sr_a, sr_sr, u1_u1, l1, g99]); exact rfl) ?_ | refine k_alen (by first | assumption | omega) (by first | assumption | exact rfl) ?_ | refine k_cpy (by first | assumption | omega) (by first | assumption | omega) (by first | assumption | exact rfl) (by first | assumption | exact rfl) (by omega) (by omega) (by omega) (by omega) (by omega) (by omega) (by omega) (by omega) (by (try simp (disch := omega) only [sr_s, sr_a, sr_sr, u1_u1, l1, g99]); exact rfl) ?_ | refine k_if (by (try simp (disch := omega) only [w32_id]); exact Iff.rfl) (fun c => ?_) (fun c => ?_))
      refine Ok.ret ⟨M2, rfl, hF, hw2, fun q hq h => ?_⟩
      by_cases e : q = i
      · exact absurd ⟨by rw [← e]; exact hq.2.1, by rw [← e]; exact hq.2.2⟩ hh
      · exact hb q hq (by omega)
  · rintro _ ⟨M2, rfl, hF, hw2, hb⟩
    dsimp only
    unfold M_X0_mapBehind_b10
    repeat' (with_reducible first | refine k_gf (by first | assumption | omega) (by first | assumption | ((try simp (disch := omega) only [sr_s, sr_a, sr_sr, u1_s, u1_k]); exact rfl)) ?_ | refine k_gr (by first | assumption | omega) (by first | assumption | ((try simp (disch := omega) only [sr_s, sr_a, sr_sr, u1_s, u1_k]); exact rfl)) (by omega) ?_ | refine k_ald (by first | assumption | omega) (by first | assumption | exact rfl) (by omega) (by omega) (by omega) (by first | assumption | ((try simp (disch := omega) only [sr_s, sr_a, sr_sr, u1_s, u1_k]); exact rfl)) ?_ | refine k_ifT (by first | (simp (disch := omega) only [w32_id]; first | done | omega) | omega) ?_ | refine k_ifF (by first | (simp (disch := omega) only [w32_id]; first | done | omega) | omega) ?_ | refine k_pf (by first | assumption | omega) (by (try simp (disch := omega) only [sr_s, sr_a, sr_sr, u1_u1]); exact rfl) ?_ | refine k_ast (by first | assumption | omega) (by first | assumption | exact rfl) (by omega) (by omega) (by omega) (by (try simp (disch := omega) only [sr_s, sr_a, sr_sr, u1_u1]); exact rfl) ?_ | refine k_irm (by omega) (by omega) (by omega) (by omega) ?_ | refine k_idv (by omega) (by omega) (by omega) (by omega) ?_ | refine k_tk (by first | assumption | omega) ?_ | refine k_rp (by omega) ?_ | refine k_aldR (by first | assumption | omega) (by first | assumption | exact rfl) (by omega) (by omega) (by omega) (by first | assumption | ((try simp (disch := omega) only [sr_s, sr_a, sr_sr, u1_s, u1_k]); exact rfl)) (by omega) ?_ | refine k_astR (by first | assumption | omega) (by first | assumption | exact rfl) (by omega) (by omega) (by omega) (by first | assumption | omega) (by (try simp (disch := omega) only [sr_s, sr_a, sr_sr, u1_u1]); exact rfl) ?_ | refine k_pz (by first | assumption | omega) (by omega) (by (try simp (disch := omega) only [sr_s, sr_a, sr_sr, u1_u1]); exact rfl) ?_ | refine k_alen (by first | assumption | omega) (by first | assumption | exact rfl) ?_ | refine k_cpy (by first | assumption | omega) (by first | assumption | omega) (by first | assumption | exact rfl) (by first | assumption | exact rfl) (by omega) (by omega) (by omega) (by omega) (by omega) (by omega) (by omega) (by omega) (by (try simp (disch := omega) only [sr_s, sr_a, sr_sr, u1_u1]); exact rfl) ?_ | refine k_if (by (try simp (disch := omega) only [w32_id]); exact Iff.rfl) (fun c => ?_) (fun c => ?_))
    refine Ok.ret ⟨M2, rfl, hF, hw2, fun q hq => hb q hq ?_⟩
    unfold inV at hq
    omega
  rintro _ ⟨M2, rfl, hF, hw2, hb2⟩
  unfold M_X0_mapBehind_p42
  have hX2 := hX1.cg hF.1
  have gw : M2 w = M w := (hF.1 w (by omega) (by omega) (by omega)).trans fw
  refine Ok.bind (X0_prepare_ok hX2 (fun s u v => ?_)) ?_
  · rw [gw]
    by_cases e : s = n
    · rw [e]; exact hw2
    · exact (hw1 s u v).cg hF e
  rintro _ ⟨M3, rfl, f3, hP3, hmn⟩
  refine Ok.bd (X0_build_ok (p := 0) hP3 (by omega) (by omega)) ?_
  rintro _ ⟨M4, rfl, f4, hP4, hv⟩
  have fr : ∀ a, a < 99 ∨ 105 < a → M4 a = M a := fun a ha => by rw [f4 a (by omega), f3 a (by omega), hF.1 a (by omega) (by omega) (by omega)]; exact f a ha
  obtain ⟨h0, h1, h2, -, -, -, hn4, -⟩ := hP4.1.2.2.2.1
  have hp99 := hP4.1.2.1.1
  have k102 := gk_102 hG
  have l102 := gl_102 hG
  have p5 := pr99.p5 hp99
  repeat' (with_reducible first | refine k_gf (by first | assumption | omega) (by first | assumption | ((try simp (disch := omega) only [sr_s, sr_a, sr_sr, u1_s, u1_k, h1, p5]); exact rfl)) ?_ | refine k_gr (by first | assumption | omega) (by first | assumption | ((try simp (disch := omega) only [sr_s, sr_a, sr_sr, u1_s, u1_k, h1, p5]); exact rfl)) (by omega) ?_ | refine k_ald (by first | assumption | omega) (by first | assumption | exact rfl) (by omega) (by omega) (by omega) (by first | assumption | ((try simp (disch := omega) only [sr_s, sr_a, sr_sr, u1_s, u1_k, h1, p5]); exact rfl)) ?_ | refine k_ifT (by first | (simp (disch := omega) only [w32_id]; first | done | omega) | omega) ?_ | refine k_ifF (by first | (simp (disch := omega) only [w32_id]; first | done | omega) | omega) ?_ | refine k_pf (by first | assumption | omega) (by (try simp (disch := omega) only [sr_s, sr_a, sr_sr, u1_u1, h1, p5]); exact rfl) ?_ | refine k_ast (by first | assumption | omega) (by first | assumption | exact rfl) (by omega) (by omega) (by omega) (by (try simp (disch := omega) only [sr_s, sr_a, sr_sr, u1_u1, h1, p5]); exact rfl) ?_ | refine k_irm (by omega) (by omega) (by omega) (by omega) ?_ | refine k_idv (by omega) (by omega) (by omega) (by omega) ?_ | refine k_tk (by first | assumption | omega) ?_ | refine k_rp (by omega) ?_ | refine k_aldR (by first | assumption | omega) (by first | assumption | exact rfl) (by omega) (by omega) (by omega) (by first | assumption | ((try simp (disch := omega) only [sr_s, sr_a, sr_sr, u1_s, u1_k, h1, p5]); exact rfl)) (by omega) ?_ | refine k_astR (by first | assumption | omega) (by first | assumption | exact rfl) (by omega) (by omega) (by omega) (by first | assumption | omega) (by (try simp (disch := omega) only [sr_s, sr_a, sr_sr, u1_u1, h1, p5]); exact rfl) ?_ | refine k_pz (by first | assumption | omega) (by omega) (by (try simp (disch := omega) only [sr_s, sr_a, sr_sr, u1_u1, h1, p5]); exact rfl) ?_ | refine k_alen (by first | assumption | omega) (by first | assumption | exact rfl) ?_ | refine k_cpy (by first | assumption | omega) (by first | assumption | omega) (by first | assumption | exact rfl) (by first | assumption | exact rfl) (by omega) (by omega) (by omega) (by omega) (by omega) (by omega) (by omega) (by omega) (by (try simp (disch := omega) only [sr_s, sr_a, sr_sr, u1_u1, h1, p5]); exact rfl) ?_ | refine k_if (by (try simp (disch := omega) only [w32_id]); exact Iff.rfl) (fun c => ?_) (fun c => ?_))
  refine Ok.ret ⟨_, rfl, fun a ha hne => by rw [sr_a _ _ hne]; exact fr a ha, ?_, ?_, fun q hq => ?_⟩
  · unfold chI
    rw [sr_a _ _ (by omega), sr_a _ _ (by omega), sr_a _ _ (by omega)]
    exact hP4.1.2.1
  · rw [sr_s, sr_a _ _ (by omega), fr ma (by omega)]
  · have hq36 : 0 ≤ q ∧ q < 36 := by unfold inV at hq; omega
    have hval := hv n bn (Int.le_refl n) q hq36.1 hq36.2 (by rw [f4 105 (by omega)]; exact hmn n q bn (Int.le_refl n) (hb2 q hq))
    rw [sr_s]
    unfold cp1
    rw [if_pos (by omega), show 36 * n + (q - 0) = 36 * n + q by omega, hval, hn4]
    show bh (M4 w 0) (M4 w 1) (M4 w 2) (M4 (w + 2)) (M4 (w + 3)) (M4 w 6) (M4 (w + 1)) _ _ = _
    rw [fr w (by omega), fr (w + 1) (by omega), fr (w + 2) (by omega), fr (w + 3) (by omega)]
theorem X0_beginTown_ok (hF : chF M G w mk n b t) : M_X0_beginTown (M, G) 99 = some (M 100 b) := by
  obtain ⟨⟨⟨hG, ⟨hp99, hd, hmp⟩, hW, ⟨l0, l1, l2, b0, bn, n6, ln, lt, lc, lb⟩, hD⟩, hw, hc, hbg⟩, hv⟩ := hF
  have k99 := gk_99 hG
  have k100 := gk_100 hG
  have l100 := gl_100 hG
  have p3 := pr99.p3 hp99
  refine Ok.eq ?_
  unfold M_X0_beginTown
  repeat' (with_reducible first | refine k_gf (by first | assumption | omega) (by first | assumption | ((try simp (disch := omega) only [sr_s, sr_a, sr_sr, u1_s, u1_k, p3, l2]); exact rfl)) ?_ | refine k_gr (by first | assumption | omega) (by first | assumption | ((try simp (disch := omega) only [sr_s, sr_a, sr_sr, u1_s, u1_k, p3, l2]); exact rfl)) (by omega) ?_ | refine k_ald (by first | assumption | omega) (by first | assumption | exact rfl) (by omega) (by omega) (by omega) (by first | assumption | ((try simp (disch := omega) only [sr_s, sr_a, sr_sr, u1_s, u1_k, p3, l2]); exact rfl)) ?_ | refine k_ifT (by first | (simp (disch := omega) only [w32_id]; first | done | omega) | omega) ?_ | refine k_ifF (by first | (simp (disch := omega) only [w32_id]; first | done | omega) | omega) ?_ | refine k_pf (by first | assumption | omega) (by (try simp (disch := omega) only [sr_s, sr_a, sr_sr, u1_u1, p3, l2]); exact rfl) ?_ | refine k_ast (by first | assumption | omega) (by first | assumption | exact rfl) (by omega) (by omega) (by omega) (by (try simp (disch := omega) only [sr_s, sr_a, sr_sr, u1_u1, p3, l2]); exact rfl) ?_ | refine k_irm (by omega) (by omega) (by omega) (by omega) ?_ | refine k_idv (by omega) (by omega) (by omega) (by omega) ?_ | refine k_tk (by first | assumption | omega) ?_ | refine k_rp (by omega) ?_ | refine k_aldR (by first | assumption | omega) (by first | assumption | exact rfl) (by omega) (by omega) (by omega) (by first | assumption | ((try simp (disch := omega) only [sr_s, sr_a, sr_sr, u1_s, u1_k, p3, l2]); exact rfl)) (by omega) ?_ | refine k_astR (by first | assumption | omega) (by first | assumption | exact rfl) (by omega) (by omega) (by omega) (by first | assumption | omega) (by (try simp (disch := omega) only [sr_s, sr_a, sr_sr, u1_u1, p3, l2]); exact rfl) ?_ | refine k_pz (by first | assumption | omega) (by omega) (by (try simp (disch := omega) only [sr_s, sr_a, sr_sr, u1_u1, p3, l2]); exact rfl) ?_ | refine k_alen (by first | assumption | omega) (by first | assumption | exact rfl) ?_ | refine k_cpy (by first | assumption | omega) (by first | assumption | omega) (by first | assumption | exact rfl) (by first | assumption | exact rfl) (by omega) (by omega) (by omega) (by omega) (by omega) (by omega) (by omega) (by omega) (by (try simp (disch := omega) only [sr_s, sr_a, sr_sr, u1_u1, p3, l2]); exact rfl) ?_ | refine k_if (by (try simp (disch := omega) only [w32_id]); exact Iff.rfl) (fun c => ?_) (fun c => ?_))
  exact Ok.ret rfl
theorem X0_beginMark_ok (hF : chF M G w mk n b t) (p0 : 0 ≤ p) (p1 : p < 36) : M_X0_beginMark (M, G) 99 p = some (M (w + 1) (36 * M 100 b + p)) := by
  obtain ⟨⟨⟨hG, ⟨hp99, hd, hmp⟩, hW, ⟨l0, l1, l2, b0, bn, n6, ln, lt, lc, lb⟩, hD⟩, hw, hc, hbg⟩, hv⟩ := hF
  have k99 := gk_99 hG
  have k102 := gk_102 hG
  have l102 := gl_102 hG
  have p5 := pr99.p5 hp99
  refine Ok.eq ?_
  unfold M_X0_beginMark
  repeat' (with_reducible first | refine k_gf (by first | assumption | omega) (by first | assumption | ((try simp (disch := omega) only [sr_s, sr_a, sr_sr, u1_s, u1_k, p5, l2]); exact rfl)) ?_ | refine k_gr (by first | assumption | omega) (by first | assumption | ((try simp (disch := omega) only [sr_s, sr_a, sr_sr, u1_s, u1_k, p5, l2]); exact rfl)) (by omega) ?_ | refine k_ald (by first | assumption | omega) (by first | assumption | exact rfl) (by omega) (by omega) (by omega) (by first | assumption | ((try simp (disch := omega) only [sr_s, sr_a, sr_sr, u1_s, u1_k, p5, l2]); exact rfl)) ?_ | refine k_ifT (by first | (simp (disch := omega) only [w32_id]; first | done | omega) | omega) ?_ | refine k_ifF (by first | (simp (disch := omega) only [w32_id]; first | done | omega) | omega) ?_ | refine k_pf (by first | assumption | omega) (by (try simp (disch := omega) only [sr_s, sr_a, sr_sr, u1_u1, p5, l2]); exact rfl) ?_ | refine k_ast (by first | assumption | omega) (by first | assumption | exact rfl) (by omega) (by omega) (by omega) (by (try simp (disch := omega) only [sr_s, sr_a, sr_sr, u1_u1, p5, l2]); exact rfl) ?_ | refine k_irm (by omega) (by omega) (by omega) (by omega) ?_ | refine k_idv (by omega) (by omega) (by omega) (by omega) ?_ | refine k_tk (by first | assumption | omega) ?_ | refine k_rp (by omega) ?_ | refine k_aldR (by first | assumption | omega) (by first | assumption | exact rfl) (by omega) (by omega) (by omega) (by first | assumption | ((try simp (disch := omega) only [sr_s, sr_a, sr_sr, u1_s, u1_k, p5, l2]); exact rfl)) (by omega) ?_ | refine k_astR (by first | assumption | omega) (by first | assumption | exact rfl) (by omega) (by omega) (by omega) (by first | assumption | omega) (by (try simp (disch := omega) only [sr_s, sr_a, sr_sr, u1_u1, p5, l2]); exact rfl) ?_ | refine k_pz (by first | assumption | omega) (by omega) (by (try simp (disch := omega) only [sr_s, sr_a, sr_sr, u1_u1, p5, l2]); exact rfl) ?_ | refine k_alen (by first | assumption | omega) (by first | assumption | exact rfl) ?_ | refine k_cpy (by first | assumption | omega) (by first | assumption | omega) (by first | assumption | exact rfl) (by first | assumption | exact rfl) (by omega) (by omega) (by omega) (by omega) (by omega) (by omega) (by omega) (by omega) (by (try simp (disch := omega) only [sr_s, sr_a, sr_sr, u1_u1, p5, l2]); exact rfl) ?_ | refine k_if (by (try simp (disch := omega) only [w32_id]); exact Iff.rfl) (fun c => ?_) (fun c => ?_))
  exact Ok.ret (hbg p p0 p1)
theorem ushr_bv : ∀ q : Nat, q < 64 → ((Int32.ofInt (q : Int)).toInt64.toUInt64 &&& Int64.toUInt64 63).toBitVec = BitVec.ofNat 64 q := by decide +kernel
theorem ushr_bv2 : ∀ q : Nat, q < 64 → (BitVec.ofNat 64 q % 64#64).toNat = q := by decide +kernel
theorem ushr_bt {x q : Int} (q0 : 0 ≤ q) (q1 : q < 64) : bt (lushr x q) 0 = bt x q := by
  have h := ushr_bv q.toNat (by omega)
  rw [show ((q.toNat : Nat) : Int) = q by omega] at h
  unfold bt lushr
  rw [Int64.ofInt_toInt]
  have e : (((Int64.ofInt x).toUInt64 >>> ((Int32.ofInt q).toInt64.toUInt64 &&& Int64.toUInt64 63)).toInt64).toBitVec = (Int64.ofInt x).toBitVec >>> q.toNat := by
    show ((Int64.ofInt x).toUInt64 >>> ((Int32.ofInt q).toInt64.toUInt64 &&& Int64.toUInt64 63)).toBitVec = _
    rw [UInt64.toBitVec_shiftRight, h]
    show (Int64.ofInt x).toBitVec >>> (BitVec.ofNat 64 q.toNat % 64#64).toNat = _
    rw [ushr_bv2 _ (by omega)]
  rw [e, BitVec.getLsbD_ushiftRight]
  congr 1
theorem X0_matters_ok (hF : chF M G w mk n b t) (p0 : 0 ≤ p) (p1 : p < 36) : M_X0_matters (M, G) 99 p = some (if bt (M 105 b) p = true then 1 else 0) := by
  obtain ⟨⟨⟨hG, ⟨hp99, hd, hmp⟩, hW, ⟨l0, l1, l2, b0, bn, n6, ln, lt, lc, lb⟩, hD⟩, hw, hc, hbg⟩, hv⟩ := hF
  have k99 := gk_99 hG
  have k105 := gk_105 hG
  have l105 := gl_105 hG
  have p8 := pr99.p8 hp99
  have h1 : lshl 1 0 = 1 := by decide
  have hk := land_bt (x := lushr (M 105 b) p) (q := 0) (by omega) (by omega)
  rw [h1, ushr_bt p0 (by omega)] at hk
  refine Ok.eq ?_
  unfold M_X0_matters
  repeat' (with_reducible first | refine k_gf (by first | assumption | omega) (by first | assumption | ((try simp (disch := omega) only [sr_s, sr_a, sr_sr, u1_s, u1_k, p8, l2]); exact rfl)) ?_ | refine k_gr (by first | assumption | omega) (by first | assumption | ((try simp (disch := omega) only [sr_s, sr_a, sr_sr, u1_s, u1_k, p8, l2]); exact rfl)) (by omega) ?_ | refine k_ald (by first | assumption | omega) (by first | assumption | exact rfl) (by omega) (by omega) (by omega) (by first | assumption | ((try simp (disch := omega) only [sr_s, sr_a, sr_sr, u1_s, u1_k, p8, l2]); exact rfl)) ?_ | refine k_ifT (by first | (simp (disch := omega) only [w32_id]; first | done | omega) | omega) ?_ | refine k_ifF (by first | (simp (disch := omega) only [w32_id]; first | done | omega) | omega) ?_ | refine k_pf (by first | assumption | omega) (by (try simp (disch := omega) only [sr_s, sr_a, sr_sr, u1_u1, p8, l2]); exact rfl) ?_ | refine k_ast (by first | assumption | omega) (by first | assumption | exact rfl) (by omega) (by omega) (by omega) (by (try simp (disch := omega) only [sr_s, sr_a, sr_sr, u1_u1, p8, l2]); exact rfl) ?_ | refine k_irm (by omega) (by omega) (by omega) (by omega) ?_ | refine k_idv (by omega) (by omega) (by omega) (by omega) ?_ | refine k_tk (by first | assumption | omega) ?_ | refine k_rp (by omega) ?_ | refine k_aldR (by first | assumption | omega) (by first | assumption | exact rfl) (by omega) (by omega) (by omega) (by first | assumption | ((try simp (disch := omega) only [sr_s, sr_a, sr_sr, u1_s, u1_k, p8, l2]); exact rfl)) (by omega) ?_ | refine k_astR (by first | assumption | omega) (by first | assumption | exact rfl) (by omega) (by omega) (by omega) (by first | assumption | omega) (by (try simp (disch := omega) only [sr_s, sr_a, sr_sr, u1_u1, p8, l2]); exact rfl) ?_ | refine k_pz (by first | assumption | omega) (by omega) (by (try simp (disch := omega) only [sr_s, sr_a, sr_sr, u1_u1, p8, l2]); exact rfl) ?_ | refine k_alen (by first | assumption | omega) (by first | assumption | exact rfl) ?_ | refine k_cpy (by first | assumption | omega) (by first | assumption | omega) (by first | assumption | exact rfl) (by first | assumption | exact rfl) (by omega) (by omega) (by omega) (by omega) (by omega) (by omega) (by omega) (by omega) (by (try simp (disch := omega) only [sr_s, sr_a, sr_sr, u1_u1, p8, l2]); exact rfl) ?_)
  refine k_if hk (fun c => ?_) (fun c => ?_)
  · rw [if_neg (by rw [c]; decide)]; exact Ok.ret rfl
  · rw [if_pos (by simpa using c)]; exact Ok.ret rfl
/-- where a mark came from: the place; the town -/
def orgP (wd hi tw : Int) (co er : Int → Int) (s0 : Int) (ce : Int → Int) : Nat → Int → Int → Int
  | 0, _, p => p
  | k + 1, t, p => if co t < 0 then p else if srcV wd hi (er (4 * t)) (er (4 * t + 1)) (er (4 * t + 2)) (er (4 * t + 3)) (fun q => bh wd hi tw co er s0 ce k (36 * co t + q)) p (drV wd hi tw er s0 k t) = -1 then -1 else orgP wd hi tw co er s0 ce k (co t) (srcV wd hi (er (4 * t)) (er (4 * t + 1)) (er (4 * t + 2)) (er (4 * t + 3)) (fun q => bh wd hi tw co er s0 ce k (36 * co t + q)) p (drV wd hi tw er s0 k t))
def orgT (co : Int → Int) : Nat → Int → Int
  | 0, t => t
  | k + 1, t => if co t < 0 then t else orgT co k (co t)
theorem orgT_ok (hL : chL M w (M w 2) n b t) : ∀ (d : Nat) (s : Int), s = b + d → s ≤ n → orgT (M (w + 2)) s.toNat (M 100 s) = M 100 b := by
  obtain ⟨l0, l1, l2, b0, bn, n6, ln, lt, lc, lb⟩ := hL
  intro d
  induction d with
  | zero =>
    intro s e hs
    have e : s = b := by omega
    subst e
    rcases lb with e | e
    · subst e; rfl
    · by_cases z : s = 0
      · subst z; rfl
      · rw [show s.toNat = (s - 1).toNat + 1 by omega]
        show (if _ then _ else _) = _
        rw [if_pos e]
  | succ d ih =>
    intro s e hs
    rw [show s.toNat = (s - 1).toNat + 1 by omega]
    show (if _ then _ else _) = _
    have h := lc s (by omega) hs
    have h2 := lt (s - 1) (by omega) (by omega)
    rw [if_neg (by rw [h]; omega), h]
    exact ih (s - 1) (by omega) (by omega)
theorem srcV_dep {wd hi mk s e1 e2 e3 p dr : Int} {m m' : Int → Int} (a1 : 2 ≤ wd) (a2 : wd ≤ 6) (b1 : 2 ≤ hi) (b2 : hi ≤ 6) (he : errB wd hi mk s e1 e2 e3) (hp : inV wd hi p) (h1 : srcC wd hi s e1 e2 e3 p dr ≠ -1 → m (srcC wd hi s e1 e2 e3 p dr) = m' (srcC wd hi s e1 e2 e3 p dr)) (h2 : s = 6 → ∀ d, 0 ≤ d → d < 4 → bsV wd hi p d ≠ -1 → m (bsV wd hi p d) = m' (bsV wd hi p d)) : srcV wd hi s e1 e2 e3 m p dr = srcV wd hi s e1 e2 e3 m' p dr := by
  have p0 : 0 ≤ p := hp.1
  by_cases z7 : s = 7
  · have e : srcC wd hi s e1 e2 e3 p dr = p := by unfold srcC; rw [if_pos (Or.inl z7)]
    rw [e] at h1
    have hm := h1 (by omega)
    subst z7
    unfold srcV
    simp only [Int.reduceEq, if_false, if_true, hm]
  by_cases z6 : s = 6
  · have e : srcC wd hi s e1 e2 e3 p dr = p := by unfold srcC; rw [if_pos (Or.inr z6)]
    rw [e] at h1
    have hm := h1 (by omega)
    have h3 := h2 z6
    subst z6
    have g : ∀ d, 0 ≤ d → d < 4 → ((bsV wd hi p d ≠ -1 ∧ m (bsV wd hi p d) = e1) ↔ (bsV wd hi p d ≠ -1 ∧ m' (bsV wd hi p d) = e1)) := fun d d0 d1 => by
      constructor
      · rintro ⟨x, y⟩; exact ⟨x, by rw [← h3 d d0 d1 x]; exact y⟩
      · rintro ⟨x, y⟩; exact ⟨x, by rw [h3 d d0 d1 x]; exact y⟩
    show stV wd hi m p e1 = stV wd hi m' p e1
    rw [stV_ways p0, stV_ways p0, hm]
    simp only [g 0 (by omega) (by omega), g 1 (by omega) (by omega), g 2 (by omega) (by omega), g 3 (by omega) (by omega)]
  · exact srcV_m (by omega)
/-- where a mark comes from is among what it hangs on -/
theorem srcV_cases {wd hi s e1 e2 e3 p dr : Int} {m : Int → Int} (p0 : 0 ≤ p) : srcV wd hi s e1 e2 e3 m p dr = -1 ∨ srcV wd hi s e1 e2 e3 m p dr = srcC wd hi s e1 e2 e3 p dr ∨ s = 6 ∧ ∃ d, 0 ≤ d ∧ d < 4 ∧ bsV wd hi p d ≠ -1 ∧ srcV wd hi s e1 e2 e3 m p dr = bsV wd hi p d := by
  by_cases z7 : s = 7
  · subst z7
    have e : srcC wd hi 7 e1 e2 e3 p dr = p := rfl
    rw [e]
    unfold srcV
    simp only [Int.reduceEq, if_false, if_true]
    split
    · exact Or.inl rfl
    · exact Or.inr (Or.inl rfl)
  by_cases z6 : s = 6
  · subst z6
    have e : srcC wd hi 6 e1 e2 e3 p dr = p := rfl
    have k6 : srcV wd hi 6 e1 e2 e3 m p dr = stV wd hi m p e1 := rfl
    rw [e, k6, stV_ways p0]
    right
    by_cases c0 : m p = e1
    · rw [if_pos c0]; exact Or.inl rfl
    rw [if_neg c0]
    by_cases c1 : bsV wd hi p 0 ≠ -1 ∧ m (bsV wd hi p 0) = e1
    · rw [if_pos c1]; exact Or.inr ⟨rfl, 0, by omega, by omega, c1.1, rfl⟩
    rw [if_neg c1]
    by_cases c2 : bsV wd hi p 1 ≠ -1 ∧ m (bsV wd hi p 1) = e1
    · rw [if_pos c2]; exact Or.inr ⟨rfl, 1, by omega, by omega, c2.1, rfl⟩
    rw [if_neg c2]
    by_cases c3 : bsV wd hi p 2 ≠ -1 ∧ m (bsV wd hi p 2) = e1
    · rw [if_pos c3]; exact Or.inr ⟨rfl, 2, by omega, by omega, c3.1, rfl⟩
    rw [if_neg c3]
    by_cases c4 : bsV wd hi p 3 ≠ -1 ∧ m (bsV wd hi p 3) = e1
    · rw [if_pos c4]; exact Or.inr ⟨rfl, 3, by omega, by omega, c4.1, rfl⟩
    rw [if_neg c4]; exact Or.inl rfl
  · right; left
    unfold srcC
    rw [if_neg (by omega)]
    exact srcV_m (by omega)
theorem X0_sourceOf_ok (hF : chF M G w mk n b t) (hp : inV (M w 0) (M w 1) p) (hbt : bt (M 105 n) p = true) : M_X0_sourceOf (M, G) 99 p = some (orgP (M w 0) (M w 1) (M w 2) (M (w + 2)) (M (w + 3)) (M w 6) (M (w + 1)) n.toNat t p) := by
  obtain ⟨⟨⟨hG, ⟨hp99, hd, hmp⟩, ⟨hg, hm, ⟨a1, a2, b1, b2, x1, x6, k2, k6, hco, her, het, hcz, y0, y1, hce⟩, hw99⟩, ⟨l0, l1, l2, b0, bn, n6, ln, lt, lc, lb⟩, hD⟩, hw, hc, hbg⟩, hv⟩ := hF
  have k99 := gk_99 hG
  have k100 := gk_100 hG
  have l100 := gl_100 hG
  have k101 := gk_101 hG
  have l101 := gl_101 hG
  have k102 := gk_102 hG
  have l102 := gl_102 hG
  have p3 := pr99.p3 hp99
  have p4 := pr99.p4 hp99
  have p5 := pr99.p5 hp99
  have hg0 := hg.1
  generalize hR : orgP (M w 0) (M w 1) (M w 2) (M (w + 2)) (M (w + 3)) (M w 6) (M (w + 1)) n.toNat t p = R
  refine Ok.eq ?_
  unfold M_X0_sourceOf M_X0_sourceOf_w7 M_X0_sourceOf_p57
  repeat' (with_reducible first | refine k_gf (by first | assumption | omega) (by first | assumption | ((try simp (disch := omega) only [sr_s, sr_a, sr_sr, u1_s, u1_k, l1]); exact rfl)) ?_ | refine k_gr (by first | assumption | omega) (by first | assumption | ((try simp (disch := omega) only [sr_s, sr_a, sr_sr, u1_s, u1_k, l1]); exact rfl)) (by omega) ?_ | refine k_ald (by first | assumption | omega) (by first | assumption | exact rfl) (by omega) (by omega) (by omega) (by first | assumption | ((try simp (disch := omega) only [sr_s, sr_a, sr_sr, u1_s, u1_k, l1]); exact rfl)) ?_ | refine k_ifT (by first | (simp (disch := omega) only [w32_id]; first | done | omega) | omega) ?_ | refine k_ifF (by first | (simp (disch := omega) only [w32_id]; first | done | omega) | omega) ?_ | refine k_pf (by first | assumption | omega) (by (try simp (disch := omega) only [sr_s, sr_a, sr_sr, u1_u1, l1]); exact rfl) ?_ | refine k_ast (by first | assumption | omega) (by first | assumption | exact rfl) (by omega) (by omega) (by omega) (by (try simp (disch := omega) only [sr_s, sr_a, sr_sr, u1_u1, l1]); exact rfl) ?_ | refine k_irm (by omega) (by omega) (by omega) (by omega) ?_ | refine k_idv (by omega) (by omega) (by omega) (by omega) ?_ | refine k_tk (by first | assumption | omega) ?_ | refine k_rp (by omega) ?_ | refine k_aldR (by first | assumption | omega) (by first | assumption | exact rfl) (by omega) (by omega) (by omega) (by first | assumption | ((try simp (disch := omega) only [sr_s, sr_a, sr_sr, u1_s, u1_k, l1]); exact rfl)) (by omega) ?_ | refine k_astR (by first | assumption | omega) (by first | assumption | exact rfl) (by omega) (by omega) (by omega) (by first | assumption | omega) (by (try simp (disch := omega) only [sr_s, sr_a, sr_sr, u1_u1, l1]); exact rfl) ?_ | refine k_pz (by first | assumption | omega) (by omega) (by (try simp (disch := omega) only [sr_s, sr_a, sr_sr, u1_u1, l1]); exact rfl) ?_ | refine k_alen (by first | assumption | omega) (by first | assumption | exact rfl) ?_ | refine k_cpy (by first | assumption | omega) (by first | assumption | omega) (by first | assumption | exact rfl) (by first | assumption | exact rfl) (by omega) (by omega) (by omega) (by omega) (by omega) (by omega) (by omega) (by omega) (by (try simp (disch := omega) only [sr_s, sr_a, sr_sr, u1_u1, l1]); exact rfl) ?_ | refine k_if (by (try simp (disch := omega) only [w32_id]); exact Iff.rfl) (fun c => ?_) (fun c => ?_))
  refine Ok.bind (wh_for (fun i st => ∃ q, st = (q, n - (i : Int)) ∧ ((q = -1 ∧ R = -1) ∨ (inV (M w 0) (M w 1) q ∧ bt (M 105 (n - i)) q = true ∧ orgP (M w 0) (M w 1) (M w 2) (M (w + 2)) (M (w + 3)) (M w 6) (M (w + 1)) (n - (i : Int)).toNat (M 100 (n - i)) q = R))) (fun r => r = R) (n - b).toNat (by omega) ⟨p, by rw [show n - ((0 : Nat) : Int) = n by omega], Or.inr ⟨hp, by rw [show n - ((0 : Nat) : Int) = n by omega]; exact hbt, by rw [show n - ((0 : Nat) : Int) = n by omega, ln]; exact hR⟩⟩ ?_ ?_) (fun r hr => Ok.ret hr)
  · rintro i _ hi ⟨q, rfl, h⟩
    dsimp only
    unfold M_X0_sourceOf_b7
    rcases h with ⟨rfl, hr⟩ | ⟨hq, hqb, ho⟩
    · repeat' (with_reducible first | refine k_gf (by first | assumption | omega) (by first | assumption | ((try simp (disch := omega) only [sr_s, sr_a, sr_sr, u1_s, u1_k, l2]); exact rfl)) ?_ | refine k_gr (by first | assumption | omega) (by first | assumption | ((try simp (disch := omega) only [sr_s, sr_a, sr_sr, u1_s, u1_k, l2]); exact rfl)) (by omega) ?_ | refine k_ald (by first | assumption | omega) (by first | assumption | exact rfl) (by omega) (by omega) (by omega) (by first | assumption | ((try simp (disch := omega) only [sr_s, sr_a, sr_sr, u1_s, u1_k, l2]); exact rfl)) ?_ | refine k_ifT (by first | (simp (disch := omega) only [w32_id]; first | done | omega) | omega) ?_ | refine k_ifF (by first | (simp (disch := omega) only [w32_id]; first | done | omega) | omega) ?_ | refine k_pf (by first | assumption | omega) (by (try simp (disch := omega) only [sr_s, sr_a, sr_sr, u1_u1, l2]); exact rfl) ?_ | refine k_ast (by first | assumption | omega) (by first | assumption | exact rfl) (by omega) (by omega) (by omega) (by (try simp (disch := omega) only [sr_s, sr_a, sr_sr, u1_u1, l2]); exact rfl) ?_ | refine k_irm (by omega) (by omega) (by omega) (by omega) ?_ | refine k_idv (by omega) (by omega) (by omega) (by omega) ?_ | refine k_tk (by first | assumption | omega) ?_ | refine k_rp (by omega) ?_ | refine k_aldR (by first | assumption | omega) (by first | assumption | exact rfl) (by omega) (by omega) (by omega) (by first | assumption | ((try simp (disch := omega) only [sr_s, sr_a, sr_sr, u1_s, u1_k, l2]); exact rfl)) (by omega) ?_ | refine k_astR (by first | assumption | omega) (by first | assumption | exact rfl) (by omega) (by omega) (by omega) (by first | assumption | omega) (by (try simp (disch := omega) only [sr_s, sr_a, sr_sr, u1_u1, l2]); exact rfl) ?_ | refine k_pz (by first | assumption | omega) (by omega) (by (try simp (disch := omega) only [sr_s, sr_a, sr_sr, u1_u1, l2]); exact rfl) ?_ | refine k_alen (by first | assumption | omega) (by first | assumption | exact rfl) ?_ | refine k_cpy (by first | assumption | omega) (by first | assumption | omega) (by first | assumption | exact rfl) (by first | assumption | exact rfl) (by omega) (by omega) (by omega) (by omega) (by omega) (by omega) (by omega) (by omega) (by (try simp (disch := omega) only [sr_s, sr_a, sr_sr, u1_u1, l2]); exact rfl) ?_ | refine k_if (by (try simp (disch := omega) only [w32_id]); exact Iff.rfl) (fun c => ?_) (fun c => ?_))
      exact Ok.ret hr.symm
    · have hq0 := hq.1
      have hq36 : q < 36 := by unfold inV at hq; omega
      have ht := lt (n - i) (by omega) (by omega)
      have hes := het _ ht.1 ht.2
      have hds := hd (n - i)
      have hcT := lc (n - i) (by omega) (by omega)
      have ht1 := lt (n - i - 1) (by omega) (by omega)
      have hk := X8_source_ok (M := M) (t := M 100 (n - i)) (ma := 102) (mo := 36 * (n - i - 1)) (p := q) (dr := M 101 (n - i)) (mk := mk) hg hm a1 a2 b1 b2 ht.1 (by omega) hes hq k102 (by omega) (by omega) (by omega) hmp (by omega) (by omega)
      have hcl := hc (n - i) (by omega) (by omega) q hq0 hq36 hqb
      have hbv : ∀ x, inV (M w 0) (M w 1) x → bt (M 105 (n - i - 1)) x = true → M 102 (36 * (n - i - 1) + x) = bhM M w (n - i - 1).toNat (36 * M (w + 2) (M 100 (n - i)) + x) := fun x hx hb => by
        have hx0 := hx.1
        have hx36 : x < 36 := by unfold inV at hx; omega
        rw [hcT]
        exact hv (n - i - 1) (by omega) (by omega) x hx0 hx36 hb
      have hsrc : srcV (M w 0) (M w 1) (M (w + 3) (4 * M 100 (n - i))) (M (w + 3) (4 * M 100 (n - i) + 1)) (M (w + 3) (4 * M 100 (n - i) + 2)) (M (w + 3) (4 * M 100 (n - i) + 3)) (fun x => M 102 (36 * (n - i - 1) + x)) q (M 101 (n - i)) = srcV (M w 0) (M w 1) (M (w + 3) (4 * M 100 (n - i))) (M (w + 3) (4 * M 100 (n - i) + 1)) (M (w + 3) (4 * M 100 (n - i) + 2)) (M (w + 3) (4 * M 100 (n - i) + 3)) (fun x => bhM M w (n - i - 1).toNat (36 * M (w + 2) (M 100 (n - i)) + x)) q (M 101 (n - i)) := by
        refine srcV_dep a1 a2 b1 b2 hes hq (fun h => ?_) (fun h d d0 d1 hdd => ?_)
        · exact hbv _ ((srcC_in a1 a2 b1 b2 hes hq).resolve_left h) (hcl.1 h)
        · exact hbv _ ((bsV_in a2 hq).resolve_left hdd) (hcl.2 h d d0 d1 hdd)
      have hdr : srcV (M w 0) (M w 1) (M (w + 3) (4 * M 100 (n - i))) (M (w + 3) (4 * M 100 (n - i) + 1)) (M (w + 3) (4 * M 100 (n - i) + 2)) (M (w + 3) (4 * M 100 (n - i) + 3)) (fun x => bhM M w (n - i - 1).toNat (36 * M (w + 2) (M 100 (n - i)) + x)) q (M 101 (n - i)) = srcV (M w 0) (M w 1) (M (w + 3) (4 * M 100 (n - i))) (M (w + 3) (4 * M 100 (n - i) + 1)) (M (w + 3) (4 * M 100 (n - i) + 2)) (M (w + 3) (4 * M 100 (n - i) + 3)) (fun x => bhM M w (n - i - 1).toNat (36 * M (w + 2) (M 100 (n - i)) + x)) q (drV (M w 0) (M w 1) (M w 2) (M (w + 3)) (M w 6) (n - i - 1).toNat (M 100 (n - i))) := by
        by_cases h9 : M (w + 3) (4 * M 100 (n - i)) = 9
        · rw [hD.2 (n - i) (by omega) (by omega) (Or.inl (by omega)) h9]
        · exact srcV_dr h9
      have hin := srcV_in (m := fun x => M 102 (36 * (n - i - 1) + x)) (dr := M 101 (n - i)) a1 a2 b1 b2 hes hq
      have hca := fun (_ : True) => srcV_cases (wd := M w 0) (hi := M w 1) (s := M (w + 3) (4 * M 100 (n - i))) (e1 := M (w + 3) (4 * M 100 (n - i) + 1)) (e2 := M (w + 3) (4 * M 100 (n - i) + 2)) (e3 := M (w + 3) (4 * M 100 (n - i) + 3)) (m := fun x => M 102 (36 * (n - i - 1) + x)) (dr := M 101 (n - i)) hq0
      rw [show (n - (i : Int)).toNat = (n - i - 1).toNat + 1 by omega] at ho
      unfold orgP at ho
      rw [if_neg (by omega), ← hdr, ← hsrc, hcT] at ho
      generalize srcV (M w 0) (M w 1) (M (w + 3) (4 * M 100 (n - i))) (M (w + 3) (4 * M 100 (n - i) + 1)) (M (w + 3) (4 * M 100 (n - i) + 2)) (M (w + 3) (4 * M 100 (n - i) + 3)) (fun x => M 102 (36 * (n - i - 1) + x)) q (M 101 (n - i)) = r at hk hin hca ho
      repeat' (with_reducible first | refine k_gf (by first | assumption | omega) (by first | assumption | ((try simp (disch := omega) only [sr_s, sr_a, sr_sr, u1_s, u1_k, l0, l2, p3, p4, p5]); exact rfl)) ?_ | refine k_gr (by first | assumption | omega) (by first | assumption | ((try simp (disch := omega) only [sr_s, sr_a, sr_sr, u1_s, u1_k, l0, l2, p3, p4, p5]); exact rfl)) (by omega) ?_ | refine k_ald (by first | assumption | omega) (by first | assumption | exact rfl) (by omega) (by omega) (by omega) (by first | assumption | ((try simp (disch := omega) only [sr_s, sr_a, sr_sr, u1_s, u1_k, l0, l2, p3, p4, p5]); exact rfl)) ?_ | refine k_eq (hk) ?_ | refine k_ifT (by first | (simp (disch := omega) only [w32_id]; first | done | omega) | omega) ?_ | refine k_ifF (by first | (simp (disch := omega) only [w32_id]; first | done | omega) | omega) ?_ | refine k_pf (by first | assumption | omega) (by (try simp (disch := omega) only [sr_s, sr_a, sr_sr, u1_u1, l0, l2, p3, p4, p5]); exact rfl) ?_ | refine k_ast (by first | assumption | omega) (by first | assumption | exact rfl) (by omega) (by omega) (by omega) (by (try simp (disch := omega) only [sr_s, sr_a, sr_sr, u1_u1, l0, l2, p3, p4, p5]); exact rfl) ?_ | refine k_irm (by omega) (by omega) (by omega) (by omega) ?_ | refine k_idv (by omega) (by omega) (by omega) (by omega) ?_ | refine k_tk (by first | assumption | omega) ?_ | refine k_rp (by omega) ?_ | refine k_aldR (by first | assumption | omega) (by first | assumption | exact rfl) (by omega) (by omega) (by omega) (by first | assumption | ((try simp (disch := omega) only [sr_s, sr_a, sr_sr, u1_s, u1_k, l0, l2, p3, p4, p5]); exact rfl)) (by omega) ?_ | refine k_astR (by first | assumption | omega) (by first | assumption | exact rfl) (by omega) (by omega) (by omega) (by first | assumption | omega) (by (try simp (disch := omega) only [sr_s, sr_a, sr_sr, u1_u1, l0, l2, p3, p4, p5]); exact rfl) ?_ | refine k_pz (by first | assumption | omega) (by omega) (by (try simp (disch := omega) only [sr_s, sr_a, sr_sr, u1_u1, l0, l2, p3, p4, p5]); exact rfl) ?_ | refine k_alen (by first | assumption | omega) (by first | assumption | exact rfl) ?_ | refine k_cpy (by first | assumption | omega) (by first | assumption | omega) (by first | assumption | exact rfl) (by first | assumption | exact rfl) (by omega) (by omega) (by omega) (by omega) (by omega) (by omega) (by omega) (by omega) (by (try simp (disch := omega) only [sr_s, sr_a, sr_sr, u1_u1, l0, l2, p3, p4, p5]); exact rfl) ?_ | refine k_if (by (try simp (disch := omega) only [w32_id]); exact Iff.rfl) (fun c => ?_) (fun c => ?_))
      refine Ok.ret ?_
      show ∃ q', (r, n - (i : Int) + -1) = (q', n - ((i + 1 : Nat) : Int)) ∧ _
      refine ⟨r, by rw [show n - ((i + 1 : Nat) : Int) = n - i + -1 by omega], ?_⟩
      rw [show n - ((i + 1 : Nat) : Int) = n - i - 1 by omega]
      by_cases er : r = -1
      · rw [if_pos er] at ho; exact Or.inl ⟨er, ho.symm⟩
      · rw [if_neg er] at ho
        refine Or.inr ⟨hin.resolve_left er, ?_, ho⟩
        rcases hca trivial with e | e | ⟨e6, d, d0, d1, hd1, e⟩
        · exact absurd e er
        · rw [e]; exact hcl.1 (by show srcC _ _ _ _ _ _ _ _ ≠ -1; rw [← e]; exact er)
        · rw [e]; exact hcl.2 e6 d d0 d1 hd1
  · rintro _ ⟨q, rfl, h⟩
    dsimp only
    unfold M_X0_sourceOf_b7
    repeat' (with_reducible first | refine k_gf (by first | assumption | omega) (by first | assumption | ((try simp (disch := omega) only [sr_s, sr_a, sr_sr, u1_s, u1_k, l2]); exact rfl)) ?_ | refine k_gr (by first | assumption | omega) (by first | assumption | ((try simp (disch := omega) only [sr_s, sr_a, sr_sr, u1_s, u1_k, l2]); exact rfl)) (by omega) ?_ | refine k_ald (by first | assumption | omega) (by first | assumption | exact rfl) (by omega) (by omega) (by omega) (by first | assumption | ((try simp (disch := omega) only [sr_s, sr_a, sr_sr, u1_s, u1_k, l2]); exact rfl)) ?_ | refine k_ifT (by first | (simp (disch := omega) only [w32_id]; first | done | omega) | omega) ?_ | refine k_ifF (by first | (simp (disch := omega) only [w32_id]; first | done | omega) | omega) ?_ | refine k_pf (by first | assumption | omega) (by (try simp (disch := omega) only [sr_s, sr_a, sr_sr, u1_u1, l2]); exact rfl) ?_ | refine k_ast (by first | assumption | omega) (by first | assumption | exact rfl) (by omega) (by omega) (by omega) (by (try simp (disch := omega) only [sr_s, sr_a, sr_sr, u1_u1, l2]); exact rfl) ?_ | refine k_irm (by omega) (by omega) (by omega) (by omega) ?_ | refine k_idv (by omega) (by omega) (by omega) (by omega) ?_ | refine k_tk (by first | assumption | omega) ?_ | refine k_rp (by omega) ?_ | refine k_aldR (by first | assumption | omega) (by first | assumption | exact rfl) (by omega) (by omega) (by omega) (by first | assumption | ((try simp (disch := omega) only [sr_s, sr_a, sr_sr, u1_s, u1_k, l2]); exact rfl)) (by omega) ?_ | refine k_astR (by first | assumption | omega) (by first | assumption | exact rfl) (by omega) (by omega) (by omega) (by first | assumption | omega) (by (try simp (disch := omega) only [sr_s, sr_a, sr_sr, u1_u1, l2]); exact rfl) ?_ | refine k_pz (by first | assumption | omega) (by omega) (by (try simp (disch := omega) only [sr_s, sr_a, sr_sr, u1_u1, l2]); exact rfl) ?_ | refine k_alen (by first | assumption | omega) (by first | assumption | exact rfl) ?_ | refine k_cpy (by first | assumption | omega) (by first | assumption | omega) (by first | assumption | exact rfl) (by first | assumption | exact rfl) (by omega) (by omega) (by omega) (by omega) (by omega) (by omega) (by omega) (by omega) (by (try simp (disch := omega) only [sr_s, sr_a, sr_sr, u1_u1, l2]); exact rfl) ?_ | refine k_if (by (try simp (disch := omega) only [w32_id]); exact Iff.rfl) (fun c => ?_) (fun c => ?_))
    refine Ok.ret ?_
    show q = R
    rcases h with ⟨rfl, hr⟩ | ⟨hq, hqb, ho⟩
    · exact hr.symm
    · rw [show n - (((n - b).toNat : Nat) : Int) = b by omega] at ho
      rcases lb with e | e
      · rw [e] at ho; exact ho
      · by_cases z : b = 0
        · rw [z] at ho; exact ho
        · rw [show b.toNat = (b - 1).toNat + 1 by omega] at ho
          unfold orgP at ho
          rw [if_pos e] at ho
          exact ho
end CF
