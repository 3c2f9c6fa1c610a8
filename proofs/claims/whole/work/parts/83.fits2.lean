/-! fits: find -/
theorem wfW_er2 {wd hi tw mk s0 : Int} {co er e ce : Int → Int} (h : wfW wd hi tw mk co er s0 ce) (he : ∀ i, 0 ≤ i → i < 4 * tw → e i = er i) (hb : ∀ i, -2 ≤ e i ∧ e i ≤ 10) : wfW wd hi tw mk co e s0 ce := by
  obtain ⟨a1, a2, b1, b2, t1, t6, k2, k6, hco, her, het, hcz, y0, y1, hce⟩ := h
  refine ⟨a1, a2, b1, b2, t1, t6, k2, k6, hco, hb, fun t x0 x1 => ?_, fun t x0 x1 x2 => ?_, y0, y1, hce⟩
  · rw [he _ (by omega) (by omega), he _ (by omega) (by omega), he _ (by omega) (by omega), he _ (by omega) (by omega)]
    exact het t x0 x1
  · rw [he _ (by omega) (by omega)]
    exact hcz t x0 x1 x2
theorem wfW_F {wd hi tw mk s0 gc r : Int} {co er gs ce : Int → Int} {uc : Nat} (h : wfW wd hi tw mk co er s0 ce) (g1 : 1 ≤ gc) (hgb : ∀ i, -2 ≤ gs i ∧ gs i ≤ 10) (hg : ∀ g, 0 ≤ g → g < gc → errT wd hi mk gs g) : wfW wd hi tw mk co (erF er gs gc uc r) s0 ce := by
  obtain ⟨a1, a2, b1, b2, t1, t6, k2, k6, hco, her, het, hcz, y0, y1, hce⟩ := h
  refine ⟨a1, a2, b1, b2, t1, t6, k2, k6, hco, fun i => ?_, fun t x0 x1 => ?_, fun t x0 x1 x2 => ?_, y0, y1, hce⟩
  · unfold erF
    split
    · exact hgb _
    · exact her i
  · unfold erF
    rw [show 4 * t / 4 = t by omega, show (4 * t + 1) / 4 = t by omega, show (4 * t + 2) / 4 = t by omega, show (4 * t + 3) / 4 = t by omega, show 4 * t % 4 = 0 by omega, show (4 * t + 1) % 4 = 1 by omega, show (4 * t + 2) % 4 = 2 by omega, show (4 * t + 3) % 4 = 3 by omega]
    by_cases c : er (4 * t) = 10
    · rw [if_pos ⟨by omega, c⟩, if_pos ⟨by omega, c⟩, if_pos ⟨by omega, c⟩, if_pos ⟨by omega, c⟩, Int.add_zero]
      exact hg _ (Int.emod_nonneg _ (by omega)) (Int.emod_lt_of_pos _ (by omega))
    · rw [if_neg (fun z => c z.2), if_neg (fun z => c z.2), if_neg (fun z => c z.2), if_neg (fun z => c z.2)]
      exact het t x0 x1
  · have hc := hcz t x0 x1 x2
    refine ⟨hc.1, ?_⟩
    unfold erF
    rw [show 4 * t / 4 = t by omega, if_neg (fun z => by have := z.2; omega)]
    exact hc.2
section F2
variable {M M1 M2 : Int → Int → Int} {G : GG} {td r rg : Int}
def sgT (er gs : Int → Int) (gc : Int) (uc : Nat) (r : Int) (e0 : Int → Int) (n : Nat) : Int → Int := fun i => if 0 ≤ i ∧ i < 4 * (n : Int) ∧ er (4 * (i / 4)) = 10 then gs (4 * dgt gc uc (uk er (i / 4).toNat) r + i % 4) else e0 i
theorem sgT_0 (er gs : Int → Int) (gc : Int) (uc : Nat) (r : Int) (e0 : Int → Int) : sgT er gs gc uc r e0 0 = e0 := by funext i; unfold sgT; rw [if_neg (by omega)]
theorem sgT_no {er gs : Int → Int} {gc : Int} {uc : Nat} {r : Int} {e0 : Int → Int} {n : Nat} (h : er (4 * (n : Int)) ≠ 10) : sgT er gs gc uc r e0 (n + 1) = sgT er gs gc uc r e0 n := by
  funext i
  unfold sgT
  by_cases c : 0 ≤ i ∧ i < 4 * (n : Int) ∧ er (4 * (i / 4)) = 10
  · rw [if_pos c, if_pos ⟨c.1, by omega, c.2.2⟩]
  · rw [if_neg c, if_neg]
    rintro ⟨z0, z1, z2⟩
    by_cases c2 : i < 4 * (n : Int)
    · exact c ⟨z0, c2, z2⟩
    · rw [show i / 4 = (n : Int) by omega] at z2
      exact h z2
theorem sgT_up {er gs : Int → Int} {gc : Int} {uc : Nat} {r : Int} {e0 : Int → Int} {n : Nat} (h : er (4 * (n : Int)) = 10) : cp1 (sgT er gs gc uc r e0 n) gs (4 * dgt gc uc (uk er n) r) (4 * (n : Int)) 4 = sgT er gs gc uc r e0 (n + 1) := by
  funext i
  unfold cp1 sgT
  by_cases c : 4 * (n : Int) ≤ i ∧ i < 4 * (n : Int) + 4
  · have e1 : i / 4 = (n : Int) := by omega
    rw [if_pos c, if_pos ⟨by omega, by omega, by rw [e1]; exact h⟩, e1, show ((n : Int)).toNat = n by omega]
    congr 1
    omega
  · rw [if_neg c]
    by_cases c2 : 0 ≤ i ∧ i < 4 * (n : Int) ∧ er (4 * (i / 4)) = 10
    · rw [if_pos c2, if_pos ⟨c2.1, by omega, c2.2.2⟩]
    · rw [if_neg c2, if_neg (fun z => c2 ⟨z.1, by omega, z.2.2⟩)]
theorem dgt_b {gc : Int} {uc u : Nat} {r : Int} (g1 : 1 ≤ gc) : 0 ≤ dgt gc uc u r ∧ dgt gc uc u r < gc := ⟨Int.emod_nonneg _ (by omega), Int.emod_lt_of_pos _ (by omega)⟩
theorem X1_setGuesses_ok (h : fiI M G td) (hg : 1 ≤ M td 4) (hm : mW M 28) {row : Int} (r0 : 0 ≤ row) (r1 : row ≤ 625) : M_X1_setGuesses (M, G) 115 td 28 row = some (sr M 31 (sgT (M (td + 4)) (M (td + 6)) (M td 4) (uk (M (td + 4)) (M (td + 1) 2).toNat) row (M 31) (M (td + 1) 2).toNat), G) := by
  have hI := h
  obtain ⟨hG, htd, ⟨s1, s2, s3, s5, s6, s7, s8, -⟩, -, h0, h6, her, huc, g0, g5⟩ := h
  obtain ⟨g1, ⟨gw0, gw, -⟩, -, ⟨gk6, gl6⟩, -⟩ := gRn_ok hG htd
  have k28 := gk_28 hG
  have k31 := gk_31 hG
  have l31 := gl_31 hG
  have k115 := gk_115 hG
  have m5 : M 28 5 = 31 := hm.2.2
  refine Ok.eq ?_
  unfold M_X1_setGuesses M_X1_setGuesses_w6 M_X1_setGuesses_p66
  refine k_tk k115 ?_
  generalize hER : M (td + 4) = er at *
  generalize hGS : M (td + 6) = gs at *
  generalize hUC : uk er (M (td + 1) 2).toNat = uc at *
  have key : ∀ n : Nat, n ≤ (M (td + 1) 2).toNat → fiI (sr M 31 (sgT er gs (M td 4) uc row (M 31) n)) G td := fun n _ => hI.cg (fun a a0 a1 => sr_a _ _ (by omega))
  refine k_eq (wh_st (fun n => ((sr M 31 (sgT er gs (M td 4) uc row (M 31) n), G), ((uk er n : Nat) : Int), (n : Int))) (M (td + 1) 2).toNat (by omega) (t := (sr M 31 (sgT er gs (M td 4) uc row (M 31) (M (td + 1) 2).toNat), G)) ?_ ?_ ?_) (Ok.ret rfl)
  · rw [sgT_0, sr_id]; rfl
  · intro n hn
    have hIn := key n (by omega)
    have hu := X5_isUnknown_ok hIn (t := (n : Int)) (by omega) (by omega)
    rw [sr_a _ _ (by omega), hER] at hu
    have gs6 : sr M 31 (sgT er gs (M td 4) uc row (M 31) n) (td + 6) = gs := by rw [sr_a _ _ (by omega)]; exact hGS
    have t1 : sr M 31 (sgT er gs (M td 4) uc row (M 31) n) (td + 1) = M (td + 1) := sr_a _ _ (by omega)
    have tt : sr M 31 (sgT er gs (M td 4) uc row (M 31) n) td = M td := sr_a _ _ (by omega)
    have w28 : sr M 31 (sgT er gs (M td 4) uc row (M 31) n) 28 = M 28 := sr_a _ _ (by omega)
    have w31 : sr M 31 (sgT er gs (M td 4) uc row (M 31) n) 31 = sgT er gs (M td 4) uc row (M 31) n := sr_s _ _ _
    refine Ok.eq ?_
    show Ok _ (fun r => r = Sum.inl ((sr M 31 (sgT er gs (M td 4) uc row (M 31) (n + 1)), G), ((uk er n + (if er (4 * (n : Int)) = 10 then 1 else 0) : Nat) : Int), ((n + 1 : Nat) : Int)))
    unfold M_X1_setGuesses_b6 M_X1_setGuesses_p60
    dsimp only
    by_cases y : er (4 * (n : Int)) = 10
    · rw [if_pos y] at hu ⊢
      have hgi := X1_guessIn_ok (M := sr M 31 (sgT er gs (M td 4) uc row (M 31) n)) (row := row) (u := uk er n) hIn (by rw [tt]; exact hg) r0 r1 (by rw [t1, sr_a _ _ (by omega), hER, hUC, ← hUC]; exact uk_lt hn y)
      rw [t1, tt, sr_a _ _ (by omega), hER, hUC] at hgi
      have hdb := dgt_b (uc := uc) (u := uk er n) (r := row) hg
      have hup := sgT_up (er := er) (gs := gs) (gc := M td 4) (uc := uc) (r := row) (e0 := M 31) y
      generalize dgt (M td 4) uc (uk er n) row = g at *
      repeat' (with_reducible first | refine k_gf (by first | assumption | omega) (by first | assumption | ((try simp (disch := omega) only [sr_s, sr_a, sr_sr, u1_s, u1_k, tt, t1, w28, s1, s3, m5]); exact rfl)) ?_ | refine k_gr (by first | assumption | omega) (by first | assumption | ((try simp (disch := omega) only [sr_s, sr_a, sr_sr, u1_s, u1_k, tt, t1, w28, s1, s3, m5]); exact rfl)) (by omega) ?_ | refine k_ald (by first | assumption | omega) (by first | assumption | exact rfl) (by omega) (by omega) (by omega) (by first | assumption | ((try simp (disch := omega) only [sr_s, sr_a, sr_sr, u1_s, u1_k, tt, t1, w28, s1, s3, m5]); exact rfl)) ?_ | refine k_ifT (by first | (simp (disch := omega) only [w32_id]; first | done | omega) | omega) ?_ | refine k_ifF (by first | (simp (disch := omega) only [w32_id]; first | done | omega) | omega) ?_ | refine k_pf (by first | assumption | omega) (by (try simp (disch := omega) only [sr_s, sr_a, sr_sr, u1_u1, tt, t1, w28, s1, s3, m5]); exact rfl) ?_ | refine k_ast (by first | assumption | omega) (by first | assumption | exact rfl) (by omega) (by omega) (by omega) (by (try simp (disch := omega) only [sr_s, sr_a, sr_sr, u1_u1, tt, t1, w28, s1, s3, m5]); exact rfl) ?_ | refine k_irm (by omega) (by omega) (by omega) (by omega) ?_ | refine k_idv (by omega) (by omega) (by omega) (by omega) ?_ | refine k_tk (by first | assumption | omega) ?_ | refine k_rp (by omega) ?_ | refine k_aldR (by first | assumption | omega) (by first | assumption | exact rfl) (by omega) (by omega) (by omega) (by first | assumption | ((try simp (disch := omega) only [sr_s, sr_a, sr_sr, u1_s, u1_k, tt, t1, w28, s1, s3, m5]); exact rfl)) (by omega) ?_ | refine k_astR (by first | assumption | omega) (by first | assumption | exact rfl) (by omega) (by omega) (by omega) (by first | assumption | omega) (by (try simp (disch := omega) only [sr_s, sr_a, sr_sr, u1_u1, tt, t1, w28, s1, s3, m5]); exact rfl) ?_ | refine k_pz (by first | assumption | omega) (by omega) (by (try simp (disch := omega) only [sr_s, sr_a, sr_sr, u1_u1, tt, t1, w28, s1, s3, m5]); exact rfl) ?_ | refine k_alen (by first | assumption | omega) (by first | assumption | exact rfl) ?_ | refine k_cpy (by first | assumption | omega) (by first | assumption | omega) (by first | assumption | exact rfl) (by first | assumption | exact rfl) (by omega) (by omega) (by omega) (by omega) (by omega) (by omega) (by omega) (by omega) (by (try simp (disch := omega) only [sr_s, sr_a, sr_sr, u1_u1, tt, t1, w28, s1, s3, m5]); exact rfl) ?_)
      refine k_eq hu (k_ifF (by decide) (k_eq hgi ?_))
      repeat' (with_reducible first | refine k_gf (by first | assumption | omega) (by first | assumption | ((try simp (disch := omega) only [sr_s, sr_a, sr_sr, u1_s, u1_k, tt, t1, w28, s1, s3, m5, gs6, w31, hGS, hup]); exact rfl)) ?_ | refine k_gr (by first | assumption | omega) (by first | assumption | ((try simp (disch := omega) only [sr_s, sr_a, sr_sr, u1_s, u1_k, tt, t1, w28, s1, s3, m5, gs6, w31, hGS, hup]); exact rfl)) (by omega) ?_ | refine k_ald (by first | assumption | omega) (by first | assumption | exact rfl) (by omega) (by omega) (by omega) (by first | assumption | ((try simp (disch := omega) only [sr_s, sr_a, sr_sr, u1_s, u1_k, tt, t1, w28, s1, s3, m5, gs6, w31, hGS, hup]); exact rfl)) ?_ | refine k_ifT (by first | (simp (disch := omega) only [w32_id]; first | done | omega) | omega) ?_ | refine k_ifF (by first | (simp (disch := omega) only [w32_id]; first | done | omega) | omega) ?_ | refine k_pf (by first | assumption | omega) (by (try simp (disch := omega) only [sr_s, sr_a, sr_sr, u1_u1, tt, t1, w28, s1, s3, m5, gs6, w31, hGS, hup]); exact rfl) ?_ | refine k_ast (by first | assumption | omega) (by first | assumption | exact rfl) (by omega) (by omega) (by omega) (by (try simp (disch := omega) only [sr_s, sr_a, sr_sr, u1_u1, tt, t1, w28, s1, s3, m5, gs6, w31, hGS, hup]); exact rfl) ?_ | refine k_irm (by omega) (by omega) (by omega) (by omega) ?_ | refine k_idv (by omega) (by omega) (by omega) (by omega) ?_ | refine k_tk (by first | assumption | omega) ?_ | refine k_rp (by omega) ?_ | refine k_aldR (by first | assumption | omega) (by first | assumption | exact rfl) (by omega) (by omega) (by omega) (by first | assumption | ((try simp (disch := omega) only [sr_s, sr_a, sr_sr, u1_s, u1_k, tt, t1, w28, s1, s3, m5, gs6, w31, hGS, hup]); exact rfl)) (by omega) ?_ | refine k_astR (by first | assumption | omega) (by first | assumption | exact rfl) (by omega) (by omega) (by omega) (by first | assumption | omega) (by (try simp (disch := omega) only [sr_s, sr_a, sr_sr, u1_u1, tt, t1, w28, s1, s3, m5, gs6, w31, hGS, hup]); exact rfl) ?_ | refine k_pz (by first | assumption | omega) (by omega) (by (try simp (disch := omega) only [sr_s, sr_a, sr_sr, u1_u1, tt, t1, w28, s1, s3, m5, gs6, w31, hGS, hup]); exact rfl) ?_ | refine k_alen (by first | assumption | omega) (by first | assumption | exact rfl) ?_ | refine k_cpy (by first | assumption | omega) (by first | assumption | omega) (by first | assumption | exact rfl) (by first | assumption | exact rfl) (by omega) (by omega) (by omega) (by omega) (by omega) (by omega) (by omega) (by omega) (by (try simp (disch := omega) only [sr_s, sr_a, sr_sr, u1_u1, tt, t1, w28, s1, s3, m5, gs6, w31, hGS, hup]); exact rfl) ?_)
      exact Ok.ret rfl
    · rw [if_neg y] at hu ⊢
      rw [sgT_no y]
      repeat' (with_reducible first | refine k_gf (by first | assumption | omega) (by first | assumption | ((try simp (disch := omega) only [sr_s, sr_a, sr_sr, u1_s, u1_k, tt, t1, w28, s1, s3, m5]); exact rfl)) ?_ | refine k_gr (by first | assumption | omega) (by first | assumption | ((try simp (disch := omega) only [sr_s, sr_a, sr_sr, u1_s, u1_k, tt, t1, w28, s1, s3, m5]); exact rfl)) (by omega) ?_ | refine k_ald (by first | assumption | omega) (by first | assumption | exact rfl) (by omega) (by omega) (by omega) (by first | assumption | ((try simp (disch := omega) only [sr_s, sr_a, sr_sr, u1_s, u1_k, tt, t1, w28, s1, s3, m5]); exact rfl)) ?_ | refine k_ifT (by first | (simp (disch := omega) only [w32_id]; first | done | omega) | omega) ?_ | refine k_ifF (by first | (simp (disch := omega) only [w32_id]; first | done | omega) | omega) ?_ | refine k_pf (by first | assumption | omega) (by (try simp (disch := omega) only [sr_s, sr_a, sr_sr, u1_u1, tt, t1, w28, s1, s3, m5]); exact rfl) ?_ | refine k_ast (by first | assumption | omega) (by first | assumption | exact rfl) (by omega) (by omega) (by omega) (by (try simp (disch := omega) only [sr_s, sr_a, sr_sr, u1_u1, tt, t1, w28, s1, s3, m5]); exact rfl) ?_ | refine k_irm (by omega) (by omega) (by omega) (by omega) ?_ | refine k_idv (by omega) (by omega) (by omega) (by omega) ?_ | refine k_tk (by first | assumption | omega) ?_ | refine k_rp (by omega) ?_ | refine k_aldR (by first | assumption | omega) (by first | assumption | exact rfl) (by omega) (by omega) (by omega) (by first | assumption | ((try simp (disch := omega) only [sr_s, sr_a, sr_sr, u1_s, u1_k, tt, t1, w28, s1, s3, m5]); exact rfl)) (by omega) ?_ | refine k_astR (by first | assumption | omega) (by first | assumption | exact rfl) (by omega) (by omega) (by omega) (by first | assumption | omega) (by (try simp (disch := omega) only [sr_s, sr_a, sr_sr, u1_u1, tt, t1, w28, s1, s3, m5]); exact rfl) ?_ | refine k_pz (by first | assumption | omega) (by omega) (by (try simp (disch := omega) only [sr_s, sr_a, sr_sr, u1_u1, tt, t1, w28, s1, s3, m5]); exact rfl) ?_ | refine k_alen (by first | assumption | omega) (by first | assumption | exact rfl) ?_ | refine k_cpy (by first | assumption | omega) (by first | assumption | omega) (by first | assumption | exact rfl) (by first | assumption | exact rfl) (by omega) (by omega) (by omega) (by omega) (by omega) (by omega) (by omega) (by omega) (by (try simp (disch := omega) only [sr_s, sr_a, sr_sr, u1_u1, tt, t1, w28, s1, s3, m5]); exact rfl) ?_)
      exact k_eq hu (k_ifT (by decide) (Ok.ret rfl))
  · have t1 : sr M 31 (sgT er gs (M td 4) uc row (M 31) (M (td + 1) 2).toNat) (td + 1) = M (td + 1) := sr_a _ _ (by omega)
    have tt : sr M 31 (sgT er gs (M td 4) uc row (M 31) (M (td + 1) 2).toNat) td = M td := sr_a _ _ (by omega)
    refine Ok.eq ?_
    unfold M_X1_setGuesses_b6
    dsimp only
    repeat' (with_reducible first | refine k_gf (by first | assumption | omega) (by first | assumption | ((try simp (disch := omega) only [sr_s, sr_a, sr_sr, u1_s, u1_k, tt, t1, s1]); exact rfl)) ?_ | refine k_gr (by first | assumption | omega) (by first | assumption | ((try simp (disch := omega) only [sr_s, sr_a, sr_sr, u1_s, u1_k, tt, t1, s1]); exact rfl)) (by omega) ?_ | refine k_ald (by first | assumption | omega) (by first | assumption | exact rfl) (by omega) (by omega) (by omega) (by first | assumption | ((try simp (disch := omega) only [sr_s, sr_a, sr_sr, u1_s, u1_k, tt, t1, s1]); exact rfl)) ?_ | refine k_ifT (by first | (simp (disch := omega) only [w32_id]; first | done | omega) | omega) ?_ | refine k_ifF (by first | (simp (disch := omega) only [w32_id]; first | done | omega) | omega) ?_ | refine k_pf (by first | assumption | omega) (by (try simp (disch := omega) only [sr_s, sr_a, sr_sr, u1_u1, tt, t1, s1]); exact rfl) ?_ | refine k_ast (by first | assumption | omega) (by first | assumption | exact rfl) (by omega) (by omega) (by omega) (by (try simp (disch := omega) only [sr_s, sr_a, sr_sr, u1_u1, tt, t1, s1]); exact rfl) ?_ | refine k_irm (by omega) (by omega) (by omega) (by omega) ?_ | refine k_idv (by omega) (by omega) (by omega) (by omega) ?_ | refine k_tk (by first | assumption | omega) ?_ | refine k_rp (by omega) ?_ | refine k_aldR (by first | assumption | omega) (by first | assumption | exact rfl) (by omega) (by omega) (by omega) (by first | assumption | ((try simp (disch := omega) only [sr_s, sr_a, sr_sr, u1_s, u1_k, tt, t1, s1]); exact rfl)) (by omega) ?_ | refine k_astR (by first | assumption | omega) (by first | assumption | exact rfl) (by omega) (by omega) (by omega) (by first | assumption | omega) (by (try simp (disch := omega) only [sr_s, sr_a, sr_sr, u1_u1, tt, t1, s1]); exact rfl) ?_ | refine k_pz (by first | assumption | omega) (by omega) (by (try simp (disch := omega) only [sr_s, sr_a, sr_sr, u1_u1, tt, t1, s1]); exact rfl) ?_ | refine k_alen (by first | assumption | omega) (by first | assumption | exact rfl) ?_ | refine k_cpy (by first | assumption | omega) (by first | assumption | omega) (by first | assumption | exact rfl) (by first | assumption | exact rfl) (by omega) (by omega) (by omega) (by omega) (by omega) (by omega) (by omega) (by omega) (by (try simp (disch := omega) only [sr_s, sr_a, sr_sr, u1_u1, tt, t1, s1]); exact rfl) ?_)
    exact Ok.ret rfl
/-- what find's loop holds -/
def fnI (M M1 : Int → Int → Int) (td : Int) (row : Nat) : Prop := (∀ a, (a < 28 ∨ 31 < a) → (a < 99 ∨ 105 < a) → a ≠ 115 → a ≠ 116 → M1 a = M a) ∧ (M1 28 0 = M (td + 1) 0 ∧ M1 28 1 = M (td + 1) 1 ∧ M1 28 2 = M (td + 1) 2 ∧ M1 28 6 = M (td + 1) 6) ∧ mW M1 28 ∧ M1 29 = M (td + 2) ∧ M1 30 = M (td + 3) ∧ (∀ i, 0 ≤ i → i < 4 * M (td + 1) 2 → M (td + 4) (4 * (i / 4)) ≠ 10 → M1 31 i = M (td + 4) i) ∧ (∀ i, -2 ≤ M1 31 i ∧ M1 31 i ≤ 10) ∧ zO 24 (M1 31) ∧ chI M1 ∧ (∀ k, k ≠ 1 → k ≠ 3 → M1 115 k = M 115 k) ∧ M1 115 1 = 1 ∧ M1 115 3 = (fitN M td row : Nat) ∧ ∀ r' : Nat, r' < row → fitB M td (r' : Int) = true → M1 116 (fitN M td r' : Nat) = r'
theorem X1_find_step (hI : fiI M G td) (hp115 : pr115 (M 115)) (hg : 1 ≤ M td 4) {mk : Int} (hmk : mk ≤ 6) (hwf : wfW (M (td + 1) 0) (M (td + 1) 1) (M (td + 1) 2) mk (M (td + 3)) (M (td + 4)) 0 (M (td + 2))) (h6 : M (td + 1) 6 = 0) (hgb : ∀ i, -2 ≤ M (td + 6) i ∧ M (td + 6) i ≤ 10) (hgs : ∀ g, 0 ≤ g → g < M td 4 → errT (M (td + 1) 0) (M (td + 1) 1) mk (M (td + 6)) g) (hse : seB M td (M (td + 1) 0) (M (td + 1) 1) (M (td + 1) 2)) {row : Nat} (hrow : (row : Int) < M td 4 ^ uk (M (td + 4)) (M (td + 1) 2).toNat) (hF : fnI M M1 td row) : Ok (M_X1_find_b38 (M1, G) 115 td 28 (M td 4 ^ uk (M (td + 4)) (M (td + 1) 2).toNat) (row : Int)) (fun z => ∃ M2, z = .inl ((M2, G), ((row + 1 : Nat) : Int)) ∧ fnI M M2 td (row + 1)) := by
  obtain ⟨f, ⟨w0, w1, w2, w6⟩, hm, w29, w30, hkn, h31b, h31z, hch, f115, k1, k3, hrows⟩ := hF
  have hG := hI.1
  have htd := hI.2.1
  have hu4 := hI.2.2.2.2.2.2.2.1
  have hpb := pw_b hg hI.2.2.2.2.2.2.2.2.2 _ hu4
  have hI1 : fiI M1 G td := hI.cg (fun a a0 a1 => f a (by omega) (by omega) (by omega) (by omega))
  have ft : ∀ a, 0 < a → a < 24 → M1 a = M a := fun a a0 a1 => f a (by omega) (by omega) (by omega) (by omega)
  have hset := X1_setGuesses_ok hI1 (by rw [ft td (by omega) (by omega)]; exact hg) hm (row := (row : Int)) (by omega) (by omega)
  rw [ft td (by omega) (by omega), ft (td + 1) (by omega) (by omega), ft (td + 4) (by omega) (by omega), ft (td + 6) (by omega) (by omega)] at hset
  have htw : 0 ≤ M (td + 1) 2 ∧ M (td + 1) 2 ≤ 6 := ⟨hI.2.2.2.2.1, hI.2.2.2.2.2.1⟩
  -- the errors are those of the row
  have heq : ∀ i, 0 ≤ i → i < 4 * M (td + 1) 2 → sgT (M (td + 4)) (M (td + 6)) (M td 4) (uk (M (td + 4)) (M (td + 1) 2).toNat) (row : Int) (M1 31) (M (td + 1) 2).toNat i = erF (M (td + 4)) (M (td + 6)) (M td 4) (uk (M (td + 4)) (M (td + 1) 2).toNat) (row : Int) i := fun i i0 i1 => by
    unfold sgT erF
    by_cases c : M (td + 4) (4 * (i / 4)) = 10
    · rw [if_pos ⟨i0, by omega, c⟩, if_pos ⟨i0, c⟩]; rfl
    · rw [if_neg (fun z => c z.2.2), if_neg (fun z => c z.2)]; exact hkn i i0 i1 c
  have hsb : ∀ i, -2 ≤ sgT (M (td + 4)) (M (td + 6)) (M td 4) (uk (M (td + 4)) (M (td + 1) 2).toNat) (row : Int) (M1 31) (M (td + 1) 2).toNat i ∧ sgT (M (td + 4)) (M (td + 6)) (M td 4) (uk (M (td + 4)) (M (td + 1) 2).toNat) (row : Int) (M1 31) (M (td + 1) 2).toNat i ≤ 10 := fun i => by
    unfold sgT
    split
    · exact hgb _
    · exact h31b i
  have hsz : zO 24 (sgT (M (td + 4)) (M (td + 6)) (M td 4) (uk (M (td + 4)) (M (td + 1) 2).toNat) (row : Int) (M1 31) (M (td + 1) 2).toNat) := fun i hi => by
    unfold sgT
    rw [if_neg (by omega)]
    exact h31z i hi
  have hskn : ∀ i, 0 ≤ i → i < 4 * M (td + 1) 2 → M (td + 4) (4 * (i / 4)) ≠ 10 → sgT (M (td + 4)) (M (td + 6)) (M td 4) (uk (M (td + 4)) (M (td + 1) 2).toNat) (row : Int) (M1 31) (M (td + 1) 2).toNat i = M (td + 4) i := fun i i0 i1 c => by
    unfold sgT
    rw [if_neg (fun z => c z.2.2)]
    exact hkn i i0 i1 c
  have hwfF := wfW_F (uc := uk (M (td + 4)) (M (td + 1) 2).toNat) (r := (row : Int)) hwf hg hgb hgs
  have hbh : ∀ k, bh (M (td + 1) 0) (M (td + 1) 1) (M (td + 1) 2) (M (td + 3)) (sgT (M (td + 4)) (M (td + 6)) (M td 4) (uk (M (td + 4)) (M (td + 1) 2).toNat) (row : Int) (M1 31) (M (td + 1) 2).toNat) 0 (M (td + 2)) k = bh (M (td + 1) 0) (M (td + 1) 1) (M (td + 1) 2) (M (td + 3)) (erF (M (td + 4)) (M (td + 6)) (M td 4) (uk (M (td + 4)) (M (td + 1) 2).toNat) (row : Int)) 0 (M (td + 2)) k := bh_er2 heq
  have hwfS := wfW_er2 hwfF heq hsb
  generalize sgT (M (td + 4)) (M (td + 6)) (M td 4) (uk (M (td + 4)) (M (td + 1) 2).toNat) (row : Int) (M1 31) (M (td + 1) 2).toNat = sg at *
  generalize hN : sr M1 31 sg = N at *
  have n31 : N 31 = sg := by rw [← hN, sr_s]
  have n : ∀ a, a ≠ 31 → N a = M1 a := fun a ha => by rw [← hN, sr_a _ _ ha]
  have n28 : N 28 = M1 28 := n 28 (by omega)
  have n29 : N 29 = M (td + 2) := (n 29 (by omega)).trans w29
  have n30 : N 30 = M (td + 3) := (n 30 (by omega)).trans w30
  have ntd : ∀ a, 0 < a → a < 24 → N a = M a := fun a a0 a1 => (n a (by omega)).trans (ft a a0 a1)
  have hchN : chI N := by
    unfold chI at *
    simp (disch := omega) only [n]
    exact hch
  have hW : wOK N G 28 mk := by
    refine ⟨gW_28 hG, ?_, ?_, by omega⟩
    · unfold mW at *; rw [n28]; exact hm
    · show wfW (N 28 0) (N 28 1) (N 28 2) mk (N 30) (N 31) (N 28 6) (N 29)
      rw [n28, n29, n30, n31, w0, w1, w2, w6, h6]
      exact hwfS
  have hbN : bhM N 28 = bh (M (td + 1) 0) (M (td + 1) 1) (M (td + 1) 2) (M (td + 3)) (erF (M (td + 4)) (M (td + 6)) (M td 4) (uk (M (td + 4)) (M (td + 1) 2).toNat) (row : Int)) 0 (M (td + 2)) := by
    funext k
    show bh (N 28 0) (N 28 1) (N 28 2) (N 30) (N 31) (N 28 6) (N 29) k = _
    rw [n28, n29, n30, n31, w0, w1, w2, w6, h6]
    exact hbh k
  have hfn := X1_firstNotSo_ok (M := N) (td := td) (w := 28) hG (by rw [n 115 (by omega)]; exact pr115.u hp115 (fun k hk => f115 k (by omega) (by omega))) htd (by have := hI.2.2.1; unfold shR at *; rw [ntd td (by omega) (by omega), ntd (td + 6) (by omega) (by omega)]; exact this) hchN hW hmk (by unfold seB at *; rw [n28, w0, w1, w2, ntd td (by omega) (by omega), ntd (td + 7) (by omega) (by omega), ntd (td + 8) (by omega) (by omega), ntd (td + 9) (by omega) (by omega), ntd (td + 10) (by omega) (by omega)]; exact hse)
  rw [ntd td (by omega) (by omega)] at hfn
  have hfit : fstN (seF N td 28) (M td 9).toNat 0 = -2 ↔ fitB M td (row : Int) = true := by
    rw [fst_iff]
    unfold fitB
    rw [seN_iff]
    have e : ∀ i : Nat, seF N td 28 i = decide (bh (M (td + 1) 0) (M (td + 1) 1) (M (td + 1) 2) (M (td + 3)) (erF (M (td + 4)) (M (td + 6)) (M td 4) (uk (M (td + 4)) (M (td + 1) 2).toNat) (row : Int)) 0 (M (td + 2)) (M (td + 8) i).toNat (36 * M (td + 7) i + M (td + 9) i) ≠ M (td + 10) i) := fun i => by
      unfold seF
      rw [hbN, ntd (td + 7) (by omega) (by omega), ntd (td + 8) (by omega) (by omega), ntd (td + 9) (by omega) (by omega), ntd (td + 10) (by omega) (by omega)]
    constructor
    · intro h i hi
      have := h i hi
      rw [e i] at this
      simpa using this
    · intro h i hi
      have := h i hi
      rw [e i]
      simpa using this
  have hfb : -2 ≤ fstN (seF N td 28) (M td 9).toNat 0 ∧ fstN (seF N td 28) (M td 9).toNat 0 ≤ 8 := by
    have := hse.2.1
    rcases first_or (g := seF N td 28) (M td 9).toNat with h | ⟨j, hj, h1, h2⟩
    · rw [fstN_no _ 0 (fun k _ hk => h k (by omega))]; omega
    · rw [fstN_hit _ 0 j (by omega) (by omega) h1 (fun k _ hk => h2 k hk)]; omega
  generalize fstN (seF N td 28) (M td 9).toNat 0 = V at *
  have hle := fitN_le (M := M) (td := td) row
  have k115 := gk_115 hG
  have k116 := gk_116 hG
  have l116 := gl_116 hG
  unfold M_X1_find_b38 M_X1_find_p84
  refine k_ifT (by rw [w32_id (by omega) (by omega), w32_id (by omega) (by omega)]; exact hrow) (k_eq hset ?_)
  refine Ok.bd hfn ?_
  rintro _ ⟨N2, rfl, g, hch2⟩
  dsimp only
  have g115 : N2 115 = M1 115 := (g 115 (by omega)).trans (n 115 (by omega))
  have g116 : N2 116 = M1 116 := (g 116 (by omega)).trans (n 116 (by omega))
  have g28 : N2 28 = M1 28 := (g 28 (by omega)).trans n28
  have p2 : N2 115 2 = 116 := by rw [g115, f115 2 (by omega) (by omega)]; exact pr115.p2 hp115
  have p3 : N2 115 3 = (fitN M td row : Nat) := by rw [g115]; exact k3
  have base : (∀ a, (a < 28 ∨ 31 < a) → (a < 99 ∨ 105 < a) → a ≠ 115 → a ≠ 116 → N2 a = M a) := fun a x1 x2 x3 x4 => (g a x2).trans ((n a (by omega)).trans (f a x1 x2 x3 x4))
  by_cases y : V = -2
  · have hfr := hfit.1 y
    have hnx : fitN M td (row + 1) = fitN M td row + 1 := by show fitN M td row + _ = _; rw [if_pos hfr]
    refine k_ifT (by rw [w32_id (by omega) (by omega)]; exact y) ?_
    repeat' (with_reducible first | refine k_gf (by first | assumption | omega) (by first | assumption | ((try simp (disch := omega) only [sr_s, sr_a, sr_sr, u1_s, u1_k, p2, p3]); exact rfl)) ?_ | refine k_gr (by first | assumption | omega) (by first | assumption | ((try simp (disch := omega) only [sr_s, sr_a, sr_sr, u1_s, u1_k, p2, p3]); exact rfl)) (by omega) ?_ | refine k_ald (by first | assumption | omega) (by first | assumption | exact rfl) (by omega) (by omega) (by omega) (by first | assumption | ((try simp (disch := omega) only [sr_s, sr_a, sr_sr, u1_s, u1_k, p2, p3]); exact rfl)) ?_ | refine k_ifT (by first | (simp (disch := omega) only [w32_id]; first | done | omega) | omega) ?_ | refine k_ifF (by first | (simp (disch := omega) only [w32_id]; first | done | omega) | omega) ?_ | refine k_pf (by first | assumption | omega) (by (try simp (disch := omega) only [sr_s, sr_a, sr_sr, u1_u1, p2, p3]); exact rfl) ?_ | refine k_ast (by first | assumption | omega) (by first | assumption | exact rfl) (by omega) (by omega) (by omega) (by (try simp (disch := omega) only [sr_s, sr_a, sr_sr, u1_u1, p2, p3]); exact rfl) ?_ | refine k_irm (by omega) (by omega) (by omega) (by omega) ?_ | refine k_idv (by omega) (by omega) (by omega) (by omega) ?_ | refine k_tk (by first | assumption | omega) ?_ | refine k_rp (by omega) ?_ | refine k_aldR (by first | assumption | omega) (by first | assumption | exact rfl) (by omega) (by omega) (by omega) (by first | assumption | ((try simp (disch := omega) only [sr_s, sr_a, sr_sr, u1_s, u1_k, p2, p3]); exact rfl)) (by omega) ?_ | refine k_astR (by first | assumption | omega) (by first | assumption | exact rfl) (by omega) (by omega) (by omega) (by first | assumption | omega) (by (try simp (disch := omega) only [sr_s, sr_a, sr_sr, u1_u1, p2, p3]); exact rfl) ?_ | refine k_pz (by first | assumption | omega) (by omega) (by (try simp (disch := omega) only [sr_s, sr_a, sr_sr, u1_u1, p2, p3]); exact rfl) ?_ | refine k_alen (by first | assumption | omega) (by first | assumption | exact rfl) ?_ | refine k_cpy (by first | assumption | omega) (by first | assumption | omega) (by first | assumption | exact rfl) (by first | assumption | exact rfl) (by omega) (by omega) (by omega) (by omega) (by omega) (by omega) (by omega) (by omega) (by (try simp (disch := omega) only [sr_s, sr_a, sr_sr, u1_u1, p2, p3]); exact rfl) ?_)
    refine Ok.ret ⟨_, rfl, fun a x1 x2 x3 x4 => ?_, ?_, ?_, ?_, ?_, ?_, ?_, ?_, ?_, fun k n1 n3 => ?_, ?_, ?_, fun r' hr' hfr' => ?_⟩
    · rw [sr_a _ _ x3, sr_a _ _ x4]; exact base a x1 x2 x3 x4
    · rw [sr_a _ _ (by omega), sr_a _ _ (by omega), g28]; exact ⟨w0, w1, w2, w6⟩
    · unfold mW at *; rw [sr_a _ _ (by omega), sr_a _ _ (by omega), g28]; exact hm
    · rw [sr_a _ _ (by omega), sr_a _ _ (by omega), g 29 (by omega)]; exact n29
    · rw [sr_a _ _ (by omega), sr_a _ _ (by omega), g 30 (by omega)]; exact n30
    · rw [sr_a _ _ (by omega), sr_a _ _ (by omega), g 31 (by omega), n31]; exact hskn
    · rw [sr_a _ _ (by omega), sr_a _ _ (by omega), g 31 (by omega), n31]; exact hsb
    · rw [sr_a _ _ (by omega), sr_a _ _ (by omega), g 31 (by omega), n31]; exact hsz
    · unfold chI at *
      simp (disch := omega) only [sr_a]
      exact hch2
    · rw [sr_s, u1_k _ _ n3, g115]; exact f115 k n1 n3
    · rw [sr_s, u1_k _ _ (by omega), g115]; exact k1
    · rw [sr_s, u1_s, hnx]; rfl
    · rw [sr_a _ _ (by omega), sr_s, g116]
      by_cases y2 : r' = row
      · subst y2; rw [u1_s]
      · have hr2 : r' < row := by omega
        have hlt : fitN M td r' < fitN M td row := by
          have h1 : ∀ d, fitN M td (r' + 1) ≤ fitN M td (r' + 1 + d) := fun d => by
            induction d with
            | zero => exact Nat.le_refl _
            | succ d ih => show _ ≤ fitN M td (r' + 1 + d) + _; omega
          have h2 := h1 (row - (r' + 1))
          rw [show r' + 1 + (row - (r' + 1)) = row by omega] at h2
          have h3 : fitN M td (r' + 1) = fitN M td r' + 1 := by show fitN M td r' + _ = _; rw [if_pos hfr']
          omega
        rw [u1_k _ _ (by omega)]
        exact hrows r' hr2 hfr'
  · have hnf : ¬ fitB M td (row : Int) = true := fun z => y (hfit.2 z)
    have hnx : fitN M td (row + 1) = fitN M td row := by show fitN M td row + _ = _; rw [if_neg hnf]; rfl
    refine k_ifF (by rw [w32_id (by omega) (by omega)]; exact y) ?_
    refine Ok.ret ⟨_, rfl, base, ?_, ?_, ?_, ?_, ?_, ?_, ?_, hch2, fun k n1 n3 => ?_, ?_, ?_, fun r' hr' hfr' => ?_⟩
    · rw [g28]; exact ⟨w0, w1, w2, w6⟩
    · unfold mW at *; rw [g28]; exact hm
    · rw [g 29 (by omega)]; exact n29
    · rw [g 30 (by omega)]; exact n30
    · rw [g 31 (by omega), n31]; exact hskn
    · rw [g 31 (by omega), n31]; exact hsb
    · rw [g 31 (by omega), n31]; exact hsz
    · rw [g115]; exact f115 k n1 n3
    · rw [g115]; exact k1
    · rw [p3, hnx]
    · rw [g116]
      by_cases y2 : r' = row
      · subst y2; exact absurd hfr' hnf
      · exact hrows r' (by omega) hfr'
end F2
