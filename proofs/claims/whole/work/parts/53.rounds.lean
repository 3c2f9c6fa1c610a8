/-! rounds -/
theorem bh_out {wd hi tw s0 : Int} {co er ce : Int → Int} {i : Int} (h : ¬ (0 ≤ i ∧ i < 36 * tw ∧ i % 36 % 6 < wd ∧ i % 36 / 6 < hi)) : ∀ k, bh wd hi tw co er s0 ce k i = ce i
  | 0 => rfl
  | k + 1 => by
    show cellV _ _ _ _ _ _ _ _ = _
    unfold cellV
    rw [if_neg (fun z => h ⟨z.1, z.2.1, z.2.2.1, z.2.2.2.1⟩)]
    exact bh_out h k
section AH
variable {M M1 M2 N : Int → Int → Int} {G : GG} {td r rg n : Int}
theorem q_rounds (h : Inv M G) (hn : i32 n) : Both M G (fun h => M_X9_rounds h 0 n) (fun h => M_X11_rounds h 124 n) := by
  obtain ⟨htr, td, r, h0⟩ := h
  have hG := h0.1.1
  have hn' := hn
  unfold i32 at hn'
  have hh := h0.tw
  have hp0 := h0.1.2.1
  have p4 := pr0.p4 hp0
  have p7 := pr0.p7 hp0
  have p13 := pr0.p13 hp0
  have k0 := gk_0 hG
  have k24 := gk_24 hG
  have k124 := gk_124 hG
  by_cases c : 1 ≤ M 24 2
  · obtain ⟨rg, hR⟩ := h0.ring c
    by_cases c2 : 1 ≤ n ∧ n ≤ 60
    · have q5 := hR.2.2.2.2.1
      have q10 := hR.2.2.2.2.2.2.2.2.2.1
      have q11 := hR.2.2.2.2.2.2.2.2.2.2.1
      obtain ⟨e0, e1, e2, e3, hwf, hc1, hc2, hc3, hc4, hc5, hz, hnb⟩ := hR.cl
      have hwf' := hwf
      obtain ⟨a1, a2, b1, b2, t1, t6, mk2, mk6, hco, her, het, hcz, s0, s1, hce⟩ := hwf
      have hm := mul_b a1 a2 b1 b2
      have hbw := bh_wf hwf' n.toNat
      -- the class
      have hcl : Ok (M_X9_rounds (M, G) 0 n) (fun z => ∃ Ma r1 cc d, z = ((trM (sr (goM Ma 24 123 n.toNat) 24 (u1 (goM Ma 24 123 n.toNat 24) 7 (M 24 7 + n))) 0, G), M 24 7 + n) ∧ rmC M Ma r r1 cc d) := by
        unfold M_X9_rounds
        repeat' (with_reducible first | refine k_gf (by first | assumption | omega) (by first | assumption | ((try simp (disch := omega) only [sr_s, sr_a, sr_sr, u1_s, u1_k, p4, p7]); exact rfl)) ?_ | refine k_gr (by first | assumption | omega) (by first | assumption | ((try simp (disch := omega) only [sr_s, sr_a, sr_sr, u1_s, u1_k, p4, p7]); exact rfl)) (by omega) ?_ | refine k_ald (by first | assumption | omega) (by first | assumption | exact rfl) (by omega) (by omega) (by omega) (by first | assumption | ((try simp (disch := omega) only [sr_s, sr_a, sr_sr, u1_s, u1_k, p4, p7]); exact rfl)) ?_ | refine k_ifT (by first | (simp (disch := omega) only [w32_id]; first | done | omega) | omega) ?_ | refine k_ifF (by first | (simp (disch := omega) only [w32_id]; first | done | omega) | omega) ?_ | refine k_pf (by first | assumption | omega) (by (try simp (disch := omega) only [sr_s, sr_a, sr_sr, u1_u1, p4, p7]); exact rfl) ?_ | refine k_ast (by first | assumption | omega) (by first | assumption | exact rfl) (by omega) (by omega) (by omega) (by (try simp (disch := omega) only [sr_s, sr_a, sr_sr, u1_u1, p4, p7]); exact rfl) ?_ | refine k_irm (by omega) (by omega) (by omega) (by omega) ?_ | refine k_idv (by omega) (by omega) (by omega) (by omega) ?_ | refine k_tk (by first | assumption | omega) ?_ | refine k_rp (by omega) ?_ | refine k_aldR (by first | assumption | omega) (by first | assumption | exact rfl) (by omega) (by omega) (by omega) (by first | assumption | ((try simp (disch := omega) only [sr_s, sr_a, sr_sr, u1_s, u1_k, p4, p7]); exact rfl)) (by omega) ?_ | refine k_astR (by first | assumption | omega) (by first | assumption | exact rfl) (by omega) (by omega) (by omega) (by first | assumption | omega) (by (try simp (disch := omega) only [sr_s, sr_a, sr_sr, u1_u1, p4, p7]); exact rfl) ?_ | refine k_pz (by first | assumption | omega) (by omega) (by (try simp (disch := omega) only [sr_s, sr_a, sr_sr, u1_u1, p4, p7]); exact rfl) ?_ | refine k_alen (by first | assumption | omega) (by first | assumption | exact rfl) ?_ | refine k_cpy (by first | assumption | omega) (by first | assumption | omega) (by first | assumption | exact rfl) (by first | assumption | exact rfl) (by omega) (by omega) (by omega) (by omega) (by omega) (by omega) (by omega) (by omega) (by (try simp (disch := omega) only [sr_s, sr_a, sr_sr, u1_u1, p4, p7]); exact rfl) ?_ | refine k_if (by (try simp (disch := omega) only [w32_id]); exact Iff.rfl) (fun c => ?_) (fun c => ?_))
        refine Ok.bind (X3_remember_ok hG h0.1.2.2.2.2.2.2.2.2.2.2.2.1 h0.1.2.2.2.2.2.2.2.2.2.2.2.2.2.1 h0.1.2.2.2.2.2.2.2.2.2.2.1 h0.s24 q11.2.1 q11.2.2.1) ?_
        rintro _ ⟨Ma, r1, cc, d, rfl, hrm⟩
        have hwc := hrm.1.2.2 cc (by have := hrm.2.1; omega) (by have := hrm.2.1; omega)
        have f : ∀ b, (0 ≤ b ∧ b < 36 ∨ b = 123) → Ma b = M b := fun b hb => hrm.2.2.2.2.1 b (by omega) (by omega) (by omega)
        clear hwc
        have f0 := f 0 (by omega)
        have f24 := f 24 (by omega)
        have f25 := f (24 + 1) (by omega)
        have f26 := f (24 + 2) (by omega)
        have f27 := f (24 + 3) (by omega)
        have hgo := fun k => goM_ok (M := Ma) (w := 24) (sc := 123) (mk := M td 0) (gW_24 hG) (by unfold mW; rw [f24]; exact h0.s24.1) (by unfold zoW; rw [f25, f26, f27]; exact h0.s24.2) (by show wfW _ _ _ _ _ _ _ _; rw [f24, f25, f26, f27]; exact hwf') (gk_123 hG) (gl_123 hG) (by omega) (by rw [f 123 (by omega)]; exact h0.2.1.2.2.2.2.2.2.2.1) k
        have g0 : ∀ k, goM Ma 24 123 k 0 = M 0 := fun k => by unfold goM; rw [sr_a _ _ (by omega), sr_a _ _ (by omega), sr_a _ _ (by omega), f0]
        have g24 : ∀ k, goM Ma 24 123 k 24 7 = M 24 7 := fun k => by unfold goM; rw [sr_s, u1_k _ _ (by omega), f24]
        unfold M_X9_rounds_w46 M_X9_rounds_p68
        refine k_eq (wh_st (fun i => ((goM Ma 24 123 i, G), (i : Int))) n.toNat (by omega) (t := (goM Ma 24 123 n.toNat, G)) ?_ ?_ ?_) ?_
        · rw [goM_0 (by omega)]; rfl
        · intro i hi
          refine Ok.eq ?_
          unfold M_X9_rounds_b46
          dsimp only
          have gi := g0 i
          repeat' (with_reducible first | refine k_gf (by first | assumption | omega) (by first | assumption | ((try simp (disch := omega) only [sr_s, sr_a, sr_sr, u1_s, u1_k, gi, p4, p13]); exact rfl)) ?_ | refine k_gr (by first | assumption | omega) (by first | assumption | ((try simp (disch := omega) only [sr_s, sr_a, sr_sr, u1_s, u1_k, gi, p4, p13]); exact rfl)) (by omega) ?_ | refine k_ald (by first | assumption | omega) (by first | assumption | exact rfl) (by omega) (by omega) (by omega) (by first | assumption | ((try simp (disch := omega) only [sr_s, sr_a, sr_sr, u1_s, u1_k, gi, p4, p13]); exact rfl)) ?_ | refine k_eq (hgo i) ?_ | refine k_ifT (by first | (simp (disch := omega) only [w32_id]; first | done | omega) | omega) ?_ | refine k_ifF (by first | (simp (disch := omega) only [w32_id]; first | done | omega) | omega) ?_ | refine k_pf (by first | assumption | omega) (by (try simp (disch := omega) only [sr_s, sr_a, sr_sr, u1_u1, gi, p4, p13]); exact rfl) ?_ | refine k_ast (by first | assumption | omega) (by first | assumption | exact rfl) (by omega) (by omega) (by omega) (by (try simp (disch := omega) only [sr_s, sr_a, sr_sr, u1_u1, gi, p4, p13]); exact rfl) ?_ | refine k_irm (by omega) (by omega) (by omega) (by omega) ?_ | refine k_idv (by omega) (by omega) (by omega) (by omega) ?_ | refine k_tk (by first | assumption | omega) ?_ | refine k_rp (by omega) ?_ | refine k_aldR (by first | assumption | omega) (by first | assumption | exact rfl) (by omega) (by omega) (by omega) (by first | assumption | ((try simp (disch := omega) only [sr_s, sr_a, sr_sr, u1_s, u1_k, gi, p4, p13]); exact rfl)) (by omega) ?_ | refine k_astR (by first | assumption | omega) (by first | assumption | exact rfl) (by omega) (by omega) (by omega) (by first | assumption | omega) (by (try simp (disch := omega) only [sr_s, sr_a, sr_sr, u1_u1, gi, p4, p13]); exact rfl) ?_ | refine k_pz (by first | assumption | omega) (by omega) (by (try simp (disch := omega) only [sr_s, sr_a, sr_sr, u1_u1, gi, p4, p13]); exact rfl) ?_ | refine k_alen (by first | assumption | omega) (by first | assumption | exact rfl) ?_ | refine k_cpy (by first | assumption | omega) (by first | assumption | omega) (by first | assumption | exact rfl) (by first | assumption | exact rfl) (by omega) (by omega) (by omega) (by omega) (by omega) (by omega) (by omega) (by omega) (by (try simp (disch := omega) only [sr_s, sr_a, sr_sr, u1_u1, gi, p4, p13]); exact rfl) ?_ | refine k_if (by (try simp (disch := omega) only [w32_id]); exact Iff.rfl) (fun c => ?_) (fun c => ?_))
          exact Ok.ret rfl
        · refine Ok.eq ?_
          unfold M_X9_rounds_b46
          dsimp only
          repeat' (with_reducible first | refine k_gf (by first | assumption | omega) (by first | assumption | ((try simp (disch := omega) only [sr_s, sr_a, sr_sr, u1_s, u1_k]); exact rfl)) ?_ | refine k_gr (by first | assumption | omega) (by first | assumption | ((try simp (disch := omega) only [sr_s, sr_a, sr_sr, u1_s, u1_k]); exact rfl)) (by omega) ?_ | refine k_ald (by first | assumption | omega) (by first | assumption | exact rfl) (by omega) (by omega) (by omega) (by first | assumption | ((try simp (disch := omega) only [sr_s, sr_a, sr_sr, u1_s, u1_k]); exact rfl)) ?_ | refine k_ifT (by first | (simp (disch := omega) only [w32_id]; first | done | omega) | omega) ?_ | refine k_ifF (by first | (simp (disch := omega) only [w32_id]; first | done | omega) | omega) ?_ | refine k_pf (by first | assumption | omega) (by (try simp (disch := omega) only [sr_s, sr_a, sr_sr, u1_u1]); exact rfl) ?_ | refine k_ast (by first | assumption | omega) (by first | assumption | exact rfl) (by omega) (by omega) (by omega) (by (try simp (disch := omega) only [sr_s, sr_a, sr_sr, u1_u1]); exact rfl) ?_ | refine k_irm (by omega) (by omega) (by omega) (by omega) ?_ | refine k_idv (by omega) (by omega) (by omega) (by omega) ?_ | refine k_tk (by first | assumption | omega) ?_ | refine k_rp (by omega) ?_ | refine k_aldR (by first | assumption | omega) (by first | assumption | exact rfl) (by omega) (by omega) (by omega) (by first | assumption | ((try simp (disch := omega) only [sr_s, sr_a, sr_sr, u1_s, u1_k]); exact rfl)) (by omega) ?_ | refine k_astR (by first | assumption | omega) (by first | assumption | exact rfl) (by omega) (by omega) (by omega) (by first | assumption | omega) (by (try simp (disch := omega) only [sr_s, sr_a, sr_sr, u1_u1]); exact rfl) ?_ | refine k_pz (by first | assumption | omega) (by omega) (by (try simp (disch := omega) only [sr_s, sr_a, sr_sr, u1_u1]); exact rfl) ?_ | refine k_alen (by first | assumption | omega) (by first | assumption | exact rfl) ?_ | refine k_cpy (by first | assumption | omega) (by first | assumption | omega) (by first | assumption | exact rfl) (by first | assumption | exact rfl) (by omega) (by omega) (by omega) (by omega) (by omega) (by omega) (by omega) (by omega) (by (try simp (disch := omega) only [sr_s, sr_a, sr_sr, u1_u1]); exact rfl) ?_ | refine k_if (by (try simp (disch := omega) only [w32_id]); exact Iff.rfl) (fun c => ?_) (fun c => ?_))
          exact Ok.ret rfl
        · have gi := g0 n.toNat
          have g7 := g24 n.toNat
          repeat' (with_reducible first | refine k_gf (by first | assumption | omega) (by first | assumption | ((try simp (disch := omega) only [sr_s, sr_a, sr_sr, u1_s, u1_k, gi, g7, p4]); exact rfl)) ?_ | refine k_gr (by first | assumption | omega) (by first | assumption | ((try simp (disch := omega) only [sr_s, sr_a, sr_sr, u1_s, u1_k, gi, g7, p4]); exact rfl)) (by omega) ?_ | refine k_ald (by first | assumption | omega) (by first | assumption | exact rfl) (by omega) (by omega) (by omega) (by first | assumption | ((try simp (disch := omega) only [sr_s, sr_a, sr_sr, u1_s, u1_k, gi, g7, p4]); exact rfl)) ?_ | refine k_ifT (by first | (simp (disch := omega) only [w32_id]; first | done | omega) | omega) ?_ | refine k_ifF (by first | (simp (disch := omega) only [w32_id]; first | done | omega) | omega) ?_ | refine k_pf (by first | assumption | omega) (by (try simp (disch := omega) only [sr_s, sr_a, sr_sr, u1_u1, gi, g7, p4]); exact rfl) ?_ | refine k_ast (by first | assumption | omega) (by first | assumption | exact rfl) (by omega) (by omega) (by omega) (by (try simp (disch := omega) only [sr_s, sr_a, sr_sr, u1_u1, gi, g7, p4]); exact rfl) ?_ | refine k_irm (by omega) (by omega) (by omega) (by omega) ?_ | refine k_idv (by omega) (by omega) (by omega) (by omega) ?_ | refine k_tk (by first | assumption | omega) ?_ | refine k_rp (by omega) ?_ | refine k_aldR (by first | assumption | omega) (by first | assumption | exact rfl) (by omega) (by omega) (by omega) (by first | assumption | ((try simp (disch := omega) only [sr_s, sr_a, sr_sr, u1_s, u1_k, gi, g7, p4]); exact rfl)) (by omega) ?_ | refine k_astR (by first | assumption | omega) (by first | assumption | exact rfl) (by omega) (by omega) (by omega) (by first | assumption | omega) (by (try simp (disch := omega) only [sr_s, sr_a, sr_sr, u1_u1, gi, g7, p4]); exact rfl) ?_ | refine k_pz (by first | assumption | omega) (by omega) (by (try simp (disch := omega) only [sr_s, sr_a, sr_sr, u1_u1, gi, g7, p4]); exact rfl) ?_ | refine k_alen (by first | assumption | omega) (by first | assumption | exact rfl) ?_ | refine k_cpy (by first | assumption | omega) (by first | assumption | omega) (by first | assumption | exact rfl) (by first | assumption | exact rfl) (by omega) (by omega) (by omega) (by omega) (by omega) (by omega) (by omega) (by omega) (by (try simp (disch := omega) only [sr_s, sr_a, sr_sr, u1_u1, gi, g7, p4]); exact rfl) ?_ | refine k_if (by (try simp (disch := omega) only [w32_id]); exact Iff.rfl) (fun c => ?_) (fun c => ?_))
          exact k_bd (X9_answered_ok hG) (Ok.ret ⟨Ma, r1, cc, d, rfl, hrm⟩)
      obtain ⟨_, ec, Ma, r1, cc, d, rfl, hrm⟩ := hcl
      have hwc := hrm.1.2.2 cc (by have := hrm.2.1; omega) (by have := hrm.2.1; omega)
      have hwcb : 39 ≤ Ma 37 cc ∧ Ma 37 cc ≤ 83 := by omega
      clear hwc
      have fMa : ∀ b, (0 ≤ b ∧ b < 36 ∨ b = 38 ∨ 99 ≤ b) → Ma b = M b := fun b hb => hrm.2.2.2.2.1 b (by omega) (by omega) (by omega)
      have d24 := fMa 24 (by omega)
      have d25 := fMa (24 + 1) (by omega)
      have d26 := fMa (24 + 2) (by omega)
      have d27 := fMa (24 + 3) (by omega)
      -- the class's rows
      have M1a : ∀ b, b ≠ 0 → b ≠ 24 → b ≠ 25 → b ≠ 123 → trM (sr (goM Ma 24 123 n.toNat) 24 (u1 (goM Ma 24 123 n.toNat 24) 7 (M 24 7 + n))) 0 b = Ma b := fun b y0 y1 y2 y3 => by
        rw [trM_a y0, sr_a _ _ y1]
        unfold goM
        rw [sr_a _ _ y1, sr_a _ _ (show b ≠ 24 + 1 from y2), sr_a _ _ y3]
      have M1_24 : trM (sr (goM Ma 24 123 n.toNat) 24 (u1 (goM Ma 24 123 n.toNat 24) 7 (M 24 7 + n))) 0 24 = u1 (u1 (M 24) 6 (nsI (n.toNat * rk (M 27) (M 24 2).toNat) (M 24 6))) 7 (M 24 7 + n) := by
        rw [trM_a (by omega), sr_s]
        congr 1
        unfold goM
        rw [sr_s, d24, d27]
        rfl
      have M1_25 : trM (sr (goM Ma 24 123 n.toNat) 24 (u1 (goM Ma 24 123 n.toNat 24) 7 (M 24 7 + n))) 0 25 = bhM M 24 n.toNat := by
        rw [trM_a (by omega), sr_a _ _ (by omega)]
        unfold goM
        rw [sr_a _ _ (by omega)]
        show sr (sr Ma 123 _) 25 _ 25 = _
        rw [sr_s, d24, d25, d26, d27]
      have M1_123 : zO 216 (trM (sr (goM Ma 24 123 n.toNat) 24 (u1 (goM Ma 24 123 n.toNat 24) 7 (M 24 7 + n))) 0 123) := by
        rw [trM_a (by omega), sr_a _ _ (by omega)]
        unfold goM
        rw [sr_a _ _ (by omega), sr_a _ _ (by omega), sr_s, if_neg (by omega), d24, d25, d26, d27]
        exact bh_o t6 h0.s24.2.1 _
      have M1_0 : ∀ k, k ≠ 14 → trM (sr (goM Ma 24 123 n.toNat) 24 (u1 (goM Ma 24 123 n.toNat 24) 7 (M 24 7 + n))) 0 0 k = M 0 k := fun k hk => by
        rw [trM_k hk, sr_a _ _ (by omega)]
        unfold goM
        rw [sr_a _ _ (by omega), sr_a _ _ (by omega), sr_a _ _ (by omega), fMa 0 (by omega)]
      have M1_014 : trM (sr (goM Ma 24 123 n.toNat) 24 (u1 (goM Ma 24 123 n.toNat 24) 7 (M 24 7 + n))) 0 0 14 = 0 := by unfold trM; rw [sr_s, u1_s]
      generalize trM (sr (goM Ma 24 123 n.toNat) 24 (u1 (goM Ma 24 123 n.toNat 24) 7 (M 24 7 + n))) 0 = M1 at *
      -- the reference
      have hN : ∀ b, 125 ≤ b → thM M1 b = M b := fun b hb => by rw [thM_a (by omega), M1a b (by omega) (by omega) (by omega) (by omega), fMa b (by omega)]
      have hN4 : ∀ j, j ≠ 0 → thM M1 124 j = M 124 j := fun j hj => by rw [thM_k hj, M1a 124 (by omega) (by omega) (by omega) (by omega), fMa 124 (by omega)]
      have hrf : Ok (M_X11_rounds (M1, G) 124 n) (fun z => ∃ N1 N2 c' d', z = ((rtM (sr N2 126 (u1 (u1 (cp1 (M 126) (N2 129) (216 * n) 0 216) 247 (nsI (n.toNat * rk (M 27) (M 24 2).toNat) (M 24 6))) 246 (M 24 7 + n))) 0, G), M 24 7 + n) ∧ rmR (thM M1) N1 c' d' ∧ rQ N1 N2 ∧ rSt N2 N2 (M 24 0) (M 24 1) (M 24 2) 6 (M 26) (M 27) (M 24 6) (M 25) n.toNat 0) := by
        unfold M_X11_rounds
        refine k_tk k124 (k_pf k124 (M' := thM M1) rfl ?_)
        generalize thM M1 = N at hN hN4 ⊢
        have hB := hR.B hG
        have hrg : 146 ≤ rg := hB.2.2.1
        have n3 : N 124 3 = rg := by rw [hN4 3 (by omega)]; exact hR.1
        have er := hN rg (by omega)
        have hBN : rB N G rg := hB.cg (hN4 3 (by omega)) er
        have hpN : pr124 (N 124) := pr124.u h0.2.2.1.1 (fun j hj => hN4 j (by omega))
        repeat' (with_reducible first | refine k_gf (by first | assumption | omega) (by first | assumption | ((try simp (disch := omega) only [sr_s, sr_a, sr_sr, u1_s, u1_k, n3]); exact rfl)) ?_ | refine k_gr (by first | assumption | omega) (by first | assumption | ((try simp (disch := omega) only [sr_s, sr_a, sr_sr, u1_s, u1_k, n3]); exact rfl)) (by omega) ?_ | refine k_ald (by first | assumption | omega) (by first | assumption | exact rfl) (by omega) (by omega) (by omega) (by first | assumption | ((try simp (disch := omega) only [sr_s, sr_a, sr_sr, u1_s, u1_k, n3]); exact rfl)) ?_ | refine k_eq (X11_in_T (by omega) (by omega) (by omega) (by omega) (by omega) (by omega) (by omega)) ?_ | refine k_ifT (by first | (simp (disch := omega) only [w32_id]; first | done | omega) | omega) ?_ | refine k_ifF (by first | (simp (disch := omega) only [w32_id]; first | done | omega) | omega) ?_ | refine k_pf (by first | assumption | omega) (by (try simp (disch := omega) only [sr_s, sr_a, sr_sr, u1_u1, n3]); exact rfl) ?_ | refine k_ast (by first | assumption | omega) (by first | assumption | exact rfl) (by omega) (by omega) (by omega) (by (try simp (disch := omega) only [sr_s, sr_a, sr_sr, u1_u1, n3]); exact rfl) ?_ | refine k_irm (by omega) (by omega) (by omega) (by omega) ?_ | refine k_idv (by omega) (by omega) (by omega) (by omega) ?_ | refine k_tk (by first | assumption | omega) ?_ | refine k_rp (by omega) ?_ | refine k_aldR (by first | assumption | omega) (by first | assumption | exact rfl) (by omega) (by omega) (by omega) (by first | assumption | ((try simp (disch := omega) only [sr_s, sr_a, sr_sr, u1_s, u1_k, n3]); exact rfl)) (by omega) ?_ | refine k_astR (by first | assumption | omega) (by first | assumption | exact rfl) (by omega) (by omega) (by omega) (by first | assumption | omega) (by (try simp (disch := omega) only [sr_s, sr_a, sr_sr, u1_u1, n3]); exact rfl) ?_ | refine k_pz (by first | assumption | omega) (by omega) (by (try simp (disch := omega) only [sr_s, sr_a, sr_sr, u1_u1, n3]); exact rfl) ?_ | refine k_alen (by first | assumption | omega) (by first | assumption | exact rfl) ?_ | refine k_cpy (by first | assumption | omega) (by first | assumption | omega) (by first | assumption | exact rfl) (by first | assumption | exact rfl) (by omega) (by omega) (by omega) (by omega) (by omega) (by omega) (by omega) (by omega) (by (try simp (disch := omega) only [sr_s, sr_a, sr_sr, u1_u1, n3]); exact rfl) ?_ | refine k_if (by (try simp (disch := omega) only [w32_id]); exact Iff.rfl) (fun c => ?_) (fun c => ?_))
        refine Ok.bind (X11_remembers_ok hG hpN (by rw [hN4 20 (by omega), q11.1]; exact q11.2.1) (by rw [hN4 20 (by omega), q11.1]; exact q11.2.2.1)) ?_
        rintro _ ⟨N1, c', d', rfl, hrr⟩
        have r1' : N1 rg = M rg := (hrr.1 rg (by omega) (by omega)).trans er
        have r126 : N1 126 = M 126 := (hrr.1 126 (by omega) (by omega)).trans (hN 126 (by omega))
        have hgo := X11_go_raw (N := N1) (M := M) (w := 24) (rg := rg) (wd := M 24 0) (hi := M 24 1) (tw := M 24 2) (s0 := M 24 6) (co := M 26) (er := M 27) (ce := M 25) (n := n) hG (pr124.u hpN (fun j hj => hrr.2.1 j (by omega))) (by rw [hrr.1 129 (by omega) (by omega), hN 129 (by omega)]; exact h0.2.2.1.2) (hBN.cg (hrr.2.1 3 (by omega)) (hrr.1 rg (by omega) (by omega))) (by rw [r1']; exact e0) (by rw [r1']; exact e1) (by rw [r1']; exact e3) (wfW6 hwf') q10 r126 rfl rfl rfl rfl (by omega) (by omega)
        obtain ⟨h2, e, N2, rfl, hq, hS⟩ := hgo
        cases hst : M_X11_starts (N1, G) 124 with
        | none => rw [hst] at e; cases e
        | some h1 =>
          rw [hst] at e
          have e : M_X11_steps h1 124 n = some (N2, G) := e
          refine k_eq rfl (k_eq e ?_)
          have hp124 : pr124 (N2 124) := pr124.u hpN (fun j hj => by rw [hq.2.1 j (by omega) (by omega) (by omega) (by omega) (by omega) (by omega)]; exact hrr.2.1 j (by omega))
          have s26 := hS.2.2.1
          rw [show n.toNat * rk (M 27) (M 24 2).toNat + rk (M 27) (0 : Int).toNat = n.toNat * rk (M 27) (M 24 2).toNat from rfl] at s26
          have x126 : N2 126 = M 126 := (hq.1 126 (by omega)).trans r126
          have p17 := pr124.p17 hp124
          have p22 := pr124.p22 hp124
          have k126 := gk_126 hG
          have l126 := gl_126 hG
          have k129 := gk_129 hG
          have l129 := gl_129 hG
          unfold M_X11_rounds_w49 M_X11_rounds_p80
          refine k_eq (wh_st (fun i => ((sr N2 126 (cp1 (M 126) (N2 129) (216 * n) 0 (i : Int)), G), (i : Int))) 216 (by omega) (t := (sr N2 126 (cp1 (M 126) (N2 129) (216 * n) 0 216), G)) ?_ ?_ ?_) ?_
          · show ((N2, G), (0 : Int)) = ((sr N2 126 (cp1 (M 126) (N2 129) (216 * n) 0 0), G), 0)
            rw [cp1_0, ← x126, sr_id]
          · intro i hi
            refine Ok.eq ?_
            unfold M_X11_rounds_b49
            dsimp only
            repeat' (with_reducible first | refine k_gf (by first | assumption | omega) (by first | assumption | ((try simp (disch := omega) only [sr_s, sr_a, sr_sr, u1_s, u1_k, p17, p22]); exact rfl)) ?_ | refine k_gr (by first | assumption | omega) (by first | assumption | ((try simp (disch := omega) only [sr_s, sr_a, sr_sr, u1_s, u1_k, p17, p22]); exact rfl)) (by omega) ?_ | refine k_ald (by first | assumption | omega) (by first | assumption | exact rfl) (by omega) (by omega) (by omega) (by first | assumption | ((try simp (disch := omega) only [sr_s, sr_a, sr_sr, u1_s, u1_k, p17, p22]); exact rfl)) ?_ | refine k_ifT (by first | (simp (disch := omega) only [w32_id]; first | done | omega) | omega) ?_ | refine k_ifF (by first | (simp (disch := omega) only [w32_id]; first | done | omega) | omega) ?_ | refine k_pf (by first | assumption | omega) (by (try simp (disch := omega) only [sr_s, sr_a, sr_sr, u1_u1, p17, p22]); exact rfl) ?_ | refine k_ast (by first | assumption | omega) (by first | assumption | exact rfl) (by omega) (by omega) (by omega) (by (try simp (disch := omega) only [sr_s, sr_a, sr_sr, u1_u1, p17, p22]); exact rfl) ?_ | refine k_irm (by omega) (by omega) (by omega) (by omega) ?_ | refine k_idv (by omega) (by omega) (by omega) (by omega) ?_ | refine k_tk (by first | assumption | omega) ?_ | refine k_rp (by omega) ?_ | refine k_aldR (by first | assumption | omega) (by first | assumption | exact rfl) (by omega) (by omega) (by omega) (by first | assumption | ((try simp (disch := omega) only [sr_s, sr_a, sr_sr, u1_s, u1_k, p17, p22]); exact rfl)) (by omega) ?_ | refine k_astR (by first | assumption | omega) (by first | assumption | exact rfl) (by omega) (by omega) (by omega) (by first | assumption | omega) (by (try simp (disch := omega) only [sr_s, sr_a, sr_sr, u1_u1, p17, p22]); exact rfl) ?_ | refine k_pz (by first | assumption | omega) (by omega) (by (try simp (disch := omega) only [sr_s, sr_a, sr_sr, u1_u1, p17, p22]); exact rfl) ?_ | refine k_alen (by first | assumption | omega) (by first | assumption | exact rfl) ?_ | refine k_cpy (by first | assumption | omega) (by first | assumption | omega) (by first | assumption | exact rfl) (by first | assumption | exact rfl) (by omega) (by omega) (by omega) (by omega) (by omega) (by omega) (by omega) (by omega) (by (try simp (disch := omega) only [sr_s, sr_a, sr_sr, u1_u1, p17, p22]); exact rfl) ?_ | refine k_if (by (try simp (disch := omega) only [w32_id]); exact Iff.rfl) (fun c => ?_) (fun c => ?_))
            refine Ok.ret ?_
            simp only [Sum.inl.injEq, Prod.mk.injEq, and_true, true_and]
            refine ⟨?_, by omega⟩
            have := cp1_u (g := M 126) (f := N2 129) (i := 216 * n) (i2 := 0) (n := (i : Int)) (by omega)
            rw [Int.zero_add] at this
            rw [this]
            rfl
          · refine Ok.eq ?_
            unfold M_X11_rounds_b49
            dsimp only
            repeat' (with_reducible first | refine k_gf (by first | assumption | omega) (by first | assumption | ((try simp (disch := omega) only [sr_s, sr_a, sr_sr, u1_s, u1_k]); exact rfl)) ?_ | refine k_gr (by first | assumption | omega) (by first | assumption | ((try simp (disch := omega) only [sr_s, sr_a, sr_sr, u1_s, u1_k]); exact rfl)) (by omega) ?_ | refine k_ald (by first | assumption | omega) (by first | assumption | exact rfl) (by omega) (by omega) (by omega) (by first | assumption | ((try simp (disch := omega) only [sr_s, sr_a, sr_sr, u1_s, u1_k]); exact rfl)) ?_ | refine k_ifT (by first | (simp (disch := omega) only [w32_id]; first | done | omega) | omega) ?_ | refine k_ifF (by first | (simp (disch := omega) only [w32_id]; first | done | omega) | omega) ?_ | refine k_pf (by first | assumption | omega) (by (try simp (disch := omega) only [sr_s, sr_a, sr_sr, u1_u1]); exact rfl) ?_ | refine k_ast (by first | assumption | omega) (by first | assumption | exact rfl) (by omega) (by omega) (by omega) (by (try simp (disch := omega) only [sr_s, sr_a, sr_sr, u1_u1]); exact rfl) ?_ | refine k_irm (by omega) (by omega) (by omega) (by omega) ?_ | refine k_idv (by omega) (by omega) (by omega) (by omega) ?_ | refine k_tk (by first | assumption | omega) ?_ | refine k_rp (by omega) ?_ | refine k_aldR (by first | assumption | omega) (by first | assumption | exact rfl) (by omega) (by omega) (by omega) (by first | assumption | ((try simp (disch := omega) only [sr_s, sr_a, sr_sr, u1_s, u1_k]); exact rfl)) (by omega) ?_ | refine k_astR (by first | assumption | omega) (by first | assumption | exact rfl) (by omega) (by omega) (by omega) (by first | assumption | omega) (by (try simp (disch := omega) only [sr_s, sr_a, sr_sr, u1_u1]); exact rfl) ?_ | refine k_pz (by first | assumption | omega) (by omega) (by (try simp (disch := omega) only [sr_s, sr_a, sr_sr, u1_u1]); exact rfl) ?_ | refine k_alen (by first | assumption | omega) (by first | assumption | exact rfl) ?_ | refine k_cpy (by first | assumption | omega) (by first | assumption | omega) (by first | assumption | exact rfl) (by first | assumption | exact rfl) (by omega) (by omega) (by omega) (by omega) (by omega) (by omega) (by omega) (by omega) (by (try simp (disch := omega) only [sr_s, sr_a, sr_sr, u1_u1]); exact rfl) ?_ | refine k_if (by (try simp (disch := omega) only [w32_id]); exact Iff.rfl) (fun c => ?_) (fun c => ?_))
            exact Ok.ret rfl
          · have hx : cp1 (M 126) (N2 129) (216 * n) 0 216 246 = M 24 7 := by unfold cp1; rw [if_neg (by omega)]; exact hc4
            repeat' (with_reducible first | refine k_gf (by first | assumption | omega) (by first | assumption | ((try simp (disch := omega) only [sr_s, sr_a, sr_sr, u1_s, u1_k, p17, s26, hx]); exact rfl)) ?_ | refine k_gr (by first | assumption | omega) (by first | assumption | ((try simp (disch := omega) only [sr_s, sr_a, sr_sr, u1_s, u1_k, p17, s26, hx]); exact rfl)) (by omega) ?_ | refine k_ald (by first | assumption | omega) (by first | assumption | exact rfl) (by omega) (by omega) (by omega) (by first | assumption | ((try simp (disch := omega) only [sr_s, sr_a, sr_sr, u1_s, u1_k, p17, s26, hx]); exact rfl)) ?_ | refine k_ifT (by first | (simp (disch := omega) only [w32_id]; first | done | omega) | omega) ?_ | refine k_ifF (by first | (simp (disch := omega) only [w32_id]; first | done | omega) | omega) ?_ | refine k_pf (by first | assumption | omega) (by (try simp (disch := omega) only [sr_s, sr_a, sr_sr, u1_u1, p17, s26, hx]); exact rfl) ?_ | refine k_ast (by first | assumption | omega) (by first | assumption | exact rfl) (by omega) (by omega) (by omega) (by (try simp (disch := omega) only [sr_s, sr_a, sr_sr, u1_u1, p17, s26, hx]); exact rfl) ?_ | refine k_irm (by omega) (by omega) (by omega) (by omega) ?_ | refine k_idv (by omega) (by omega) (by omega) (by omega) ?_ | refine k_tk (by first | assumption | omega) ?_ | refine k_rp (by omega) ?_ | refine k_aldR (by first | assumption | omega) (by first | assumption | exact rfl) (by omega) (by omega) (by omega) (by first | assumption | ((try simp (disch := omega) only [sr_s, sr_a, sr_sr, u1_s, u1_k, p17, s26, hx]); exact rfl)) (by omega) ?_ | refine k_astR (by first | assumption | omega) (by first | assumption | exact rfl) (by omega) (by omega) (by omega) (by first | assumption | omega) (by (try simp (disch := omega) only [sr_s, sr_a, sr_sr, u1_u1, p17, s26, hx]); exact rfl) ?_ | refine k_pz (by first | assumption | omega) (by omega) (by (try simp (disch := omega) only [sr_s, sr_a, sr_sr, u1_u1, p17, s26, hx]); exact rfl) ?_ | refine k_alen (by first | assumption | omega) (by first | assumption | exact rfl) ?_ | refine k_cpy (by first | assumption | omega) (by first | assumption | omega) (by first | assumption | exact rfl) (by first | assumption | exact rfl) (by omega) (by omega) (by omega) (by omega) (by omega) (by omega) (by omega) (by omega) (by (try simp (disch := omega) only [sr_s, sr_a, sr_sr, u1_u1, p17, s26, hx]); exact rfl) ?_ | refine k_if (by (try simp (disch := omega) only [w32_id]); exact Iff.rfl) (fun c => ?_) (fun c => ?_))
            exact k_bd (X11_good_ok hG) (Ok.ret ⟨N1, N2, c', d', rfl, hrr, hq, hS⟩)
      obtain ⟨_, er, N1, N2, c', d', rfl, hrr, hq, hS⟩ := hrf
      refine ⟨_, _, M 24 7 + n, ec, er, ?_⟩
      dsimp only
      generalize hF : u1 (u1 (cp1 (M 126) (N2 129) (216 * n) 0 216) 247 (nsI (n.toNat * rk (M 27) (M 24 2).toNat) (M 24 6))) 246 (M 24 7 + n) = F'
      obtain ⟨m1, m2, m3, m4, m5, m6, x0, x1, x2, x6, x7, xm, y1, y2, y3⟩ := hrm
      obtain ⟨n1, n2, n3, n4, n5, n6⟩ := hrr
      have h20 : thM M1 124 20 = M 36 1 := by rw [hN4 20 (by omega)]; exact q11.1
      have hcd : c' = cc ∧ d' = d := by rw [h20] at n3; omega
      obtain ⟨rfl, rfl⟩ := hcd
      have z37 := M1a 37 (by omega) (by omega) (by omega) (by omega)
      have z36 := M1a 36 (by omega) (by omega) (by omega) (by omega)
      have hC : acC M M1 r1 c' d' := by
        unfold acC rot mW at *
        rw [z37, z36]
        rw [M1a (Ma 37 c') (by omega) (by omega) (by omega) (by omega), M1a (Ma 37 c' + 1) (by omega) (by omega) (by omega) (by omega), M1a (Ma 37 c' + 2) (by omega) (by omega) (by omega) (by omega), M1a (Ma 37 c' + 3) (by omega) (by omega) (by omega) (by omega)]
        refine ⟨m1, m2, m3, m4, fun a v1 v2 => ?_, M1_0, m6, x0, x1, x2, x6, x7, xm, y1, y2, y3, ?_, ?_⟩
        · rw [M1a a (by omega) (by omega) (by omega) (by omega)]; exact m5 a (by omega) (by omega) v2
        · have hs := h0.2.1
          have w : ∀ b, (28 ≤ b ∧ b < 36 ∨ 99 ≤ b ∧ b < 123) → M1 b = M b := fun b hb => by rw [M1a b (by omega) (by omega) (by omega) (by omega), fMa b (by omega)]
          unfold cSc shW mW zoW chI at *
          obtain ⟨v1, v2, v3, v4, v5, v6, v7, v8, v9, v10⟩ := hs
          refine ⟨?_, ?_, ?_, ?_, ?_, ?_, ?_, M1_123, ?_, ?_⟩
          · simp (disch := omega) only [w]; exact v1
          · simp (disch := omega) only [w]; exact v2
          · simp (disch := omega) only [w]; exact v3
          · simp (disch := omega) only [w]; exact v4
          · simp (disch := omega) only [w]; exact v5
          · simp (disch := omega) only [w]; exact v6
          · simp (disch := omega) only [w]; exact v7
          · simp (disch := omega) only [w]; exact v9
          · simp (disch := omega) only [w]; exact v10
        · have hs := h0.s24
          unfold shW mW zoW at *
          rw [M1_24, show M1 (24 + 1) = bhM M 24 n.toNat from M1_25, M1a (24 + 2) (by omega) (by omega) (by omega) (by omega), M1a (24 + 3) (by omega) (by omega) (by omega) (by omega), d26, d27, u1_k _ _ (by omega), u1_k _ _ (by omega), u1_k _ _ (by omega), u1_k _ _ (by omega), u1_k _ _ (by omega), u1_k _ _ (by omega)]
          exact ⟨hs.1, bh_o t6 hs.2.1 _, hs.2.2⟩
      have g : ∀ a, a ≠ 124 → (a < 126 ∨ a = 128 ∨ 145 ≤ a) → rtM (sr N2 126 F') 0 a = M1 a := fun a v1 v2 => by rw [rtM_a v1, sr_a _ _ (by omega), hq.1 a (by omega), n1 a v1 (by omega), thM_a v1]
      have g127 : rtM (sr N2 126 F') 0 127 = N1 127 := by rw [rtM_a (by omega), sr_a _ _ (by omega), hq.1 127 (by omega)]
      have g126 : rtM (sr N2 126 F') 0 126 = F' := by rw [rtM_a (by omega), sr_s]
      have hRr : acR M1 (rtM (sr N2 126 F') 0) c' d' := by
        refine ⟨fun a ha => g a (by omega) (by omega), fun k w0 w1 w2 w3 w4 w5 w6 => ?_, ?_, fun i k i0 i1 k0 k1 => ?_, fun k k0 k1 => ?_, ?_⟩
        · unfold rtM; rw [sr_s, u1_k _ _ w2, u1_k _ _ w1, sr_a _ _ (by omega), hq.2.1 k w0 w1 w2 w4 w5 w6, n2 k w3, thM_k w0]
        · unfold rtM; rw [sr_s, u1_k _ _ (by omega), u1_k _ _ (by omega), sr_a _ _ (by omega), hq.2.1 20 (by omega) (by omega) (by omega) (by omega) (by omega) (by omega)]; exact n4
        · rw [g127, n5 i k i0 i1 k0 k1, thM_a (by omega)]
        · rw [g127, n6 k k0 k1, thM_a (by omega)]
        · rw [rtM_a (by omega), sr_a _ _ (by omega)]; exact hq.2.2
      have w24 : rtM (sr N2 126 F') 0 24 = u1 (u1 (M 24) 6 (nsI (n.toNat * rk (M 27) (M 24 2).toNat) (M 24 6))) 7 (M 24 7 + n) := by rw [g 24 (by omega) (by omega)]; exact M1_24
      have w25 : rtM (sr N2 126 F') 0 (24 + 1) = bhM M 24 n.toNat := by rw [g (24 + 1) (by omega) (by omega)]; exact M1_25
      have w26 : rtM (sr N2 126 F') 0 (24 + 2) = M 26 := by rw [g (24 + 2) (by omega) (by omega), M1a (24 + 2) (by omega) (by omega) (by omega) (by omega)]; exact d26
      have w27 : rtM (sr N2 126 F') 0 (24 + 3) = M 27 := by rw [g (24 + 3) (by omega) (by omega), M1a (24 + 3) (by omega) (by omega) (by omega) (by omega)]; exact d27
      refine Inv.mk2 (x := 0) (act_inv h0 hR hC hRr ?_ ?_) ?_ ?_ ?_ (by omega) (by omega) (by omega)
      · unfold wR
        rw [w24, w25, w26, w27, u1_k _ _ (by omega), u1_k _ _ (by omega), u1_k _ _ (by omega), u1_k _ _ (by omega), u1_k _ _ (by omega), u1_k _ _ (by omega), u1_k _ _ (by omega), u1_s]
        exact ⟨rfl, rfl, rfl, hbw, fun i hi => (bh_out hi _).trans (hz i hi), hnb⟩
      · unfold cW
        rw [w24, w25, w26, w27, g126, ← hF, u1_s, u1_k (k := 7) _ _ (show (6 : Int) ≠ 7 by omega), u1_s]
        refine ⟨fun t p t0 t1' hp => ?_, fun t t0 t1' => ?_, fun i i0 i1 => ?_, u1_s _ _ _, ?_, fun k k0 k1 => ?_⟩
        · have hb := idx_b a1 a2 b2 hp
          rw [u1_k _ _ (by omega), u1_k _ _ (by omega)]
          unfold cp1
          rw [if_pos (by omega)]
          have := hS.2.2.2.2.1 n.toNat t (idx (M 24 0) p) (Or.inl (Nat.le_refl _)) t0 t1' hb.1 hb.2
          rw [show ((n.toNat : Nat) : Int) = n by omega, inn_idx a1 a2 hp] at this
          rw [show 216 * n + (0 + 36 * t + idx (M 24 0) p - 0) = 216 * n + 36 * t + idx (M 24 0) p by omega]
          exact this
        · rw [u1_k _ _ (by omega), u1_k _ _ (by omega)]
          unfold cp1
          rw [if_neg (by omega), Int.zero_add]
          exact hc2 t t0 t1'
        · rw [u1_k _ _ (by omega), u1_k _ _ (by omega)]
          unfold cp1
          rw [if_neg (by omega), Int.zero_add]
          exact hc3 i i0 i1
        · rw [u1_k _ _ (by omega)]; exact u1_s _ _ _
        · rw [u1_k _ _ (by omega), u1_k _ _ (by omega)]
          unfold cp1
          rw [if_pos (by omega)]
          exact hq.2.2 _
      · rw [g 0 (by omega) (by omega)]; exact M1_014
      · unfold rtM; rw [sr_s, u1_k _ _ (by omega), u1_s]
      · unfold rtM; rw [sr_s, u1_s]
    · unfold M_X9_rounds M_X11_rounds
      refine Both.go h0 (-1) 2 (by omega) (by omega) (by omega) ?_ (fun M2 h2 f => ?_)
      · by_cases c3 : n < 1
        · repeat' (with_reducible first | refine k_gf (by first | assumption | omega) (by first | assumption | ((try simp (disch := omega) only [sr_s, sr_a, sr_sr, u1_s, u1_k, p4]); exact rfl)) ?_ | refine k_gr (by first | assumption | omega) (by first | assumption | ((try simp (disch := omega) only [sr_s, sr_a, sr_sr, u1_s, u1_k, p4]); exact rfl)) (by omega) ?_ | refine k_ald (by first | assumption | omega) (by first | assumption | exact rfl) (by omega) (by omega) (by omega) (by first | assumption | ((try simp (disch := omega) only [sr_s, sr_a, sr_sr, u1_s, u1_k, p4]); exact rfl)) ?_ | refine k_ifT (by first | (simp (disch := omega) only [w32_id]; first | done | omega) | omega) ?_ | refine k_ifF (by first | (simp (disch := omega) only [w32_id]; first | done | omega) | omega) ?_ | refine k_pf (by first | assumption | omega) (by (try simp (disch := omega) only [sr_s, sr_a, sr_sr, u1_u1, p4]); exact rfl) ?_ | refine k_ast (by first | assumption | omega) (by first | assumption | exact rfl) (by omega) (by omega) (by omega) (by (try simp (disch := omega) only [sr_s, sr_a, sr_sr, u1_u1, p4]); exact rfl) ?_ | refine k_irm (by omega) (by omega) (by omega) (by omega) ?_ | refine k_idv (by omega) (by omega) (by omega) (by omega) ?_ | refine k_tk (by first | assumption | omega) ?_ | refine k_rp (by omega) ?_ | refine k_aldR (by first | assumption | omega) (by first | assumption | exact rfl) (by omega) (by omega) (by omega) (by first | assumption | ((try simp (disch := omega) only [sr_s, sr_a, sr_sr, u1_s, u1_k, p4]); exact rfl)) (by omega) ?_ | refine k_astR (by first | assumption | omega) (by first | assumption | exact rfl) (by omega) (by omega) (by omega) (by first | assumption | omega) (by (try simp (disch := omega) only [sr_s, sr_a, sr_sr, u1_u1, p4]); exact rfl) ?_ | refine k_pz (by first | assumption | omega) (by omega) (by (try simp (disch := omega) only [sr_s, sr_a, sr_sr, u1_u1, p4]); exact rfl) ?_ | refine k_alen (by first | assumption | omega) (by first | assumption | exact rfl) ?_ | refine k_cpy (by first | assumption | omega) (by first | assumption | omega) (by first | assumption | exact rfl) (by first | assumption | exact rfl) (by omega) (by omega) (by omega) (by omega) (by omega) (by omega) (by omega) (by omega) (by (try simp (disch := omega) only [sr_s, sr_a, sr_sr, u1_u1, p4]); exact rfl) ?_ | refine k_if (by (try simp (disch := omega) only [w32_id]); exact Iff.rfl) (fun c => ?_) (fun c => ?_))
          exact e_ref hG (cQ.refl h0.2.1)
        · repeat' (with_reducible first | refine k_gf (by first | assumption | omega) (by first | assumption | ((try simp (disch := omega) only [sr_s, sr_a, sr_sr, u1_s, u1_k, p4]); exact rfl)) ?_ | refine k_gr (by first | assumption | omega) (by first | assumption | ((try simp (disch := omega) only [sr_s, sr_a, sr_sr, u1_s, u1_k, p4]); exact rfl)) (by omega) ?_ | refine k_ald (by first | assumption | omega) (by first | assumption | exact rfl) (by omega) (by omega) (by omega) (by first | assumption | ((try simp (disch := omega) only [sr_s, sr_a, sr_sr, u1_s, u1_k, p4]); exact rfl)) ?_ | refine k_ifT (by first | (simp (disch := omega) only [w32_id]; first | done | omega) | omega) ?_ | refine k_ifF (by first | (simp (disch := omega) only [w32_id]; first | done | omega) | omega) ?_ | refine k_pf (by first | assumption | omega) (by (try simp (disch := omega) only [sr_s, sr_a, sr_sr, u1_u1, p4]); exact rfl) ?_ | refine k_ast (by first | assumption | omega) (by first | assumption | exact rfl) (by omega) (by omega) (by omega) (by (try simp (disch := omega) only [sr_s, sr_a, sr_sr, u1_u1, p4]); exact rfl) ?_ | refine k_irm (by omega) (by omega) (by omega) (by omega) ?_ | refine k_idv (by omega) (by omega) (by omega) (by omega) ?_ | refine k_tk (by first | assumption | omega) ?_ | refine k_rp (by omega) ?_ | refine k_aldR (by first | assumption | omega) (by first | assumption | exact rfl) (by omega) (by omega) (by omega) (by first | assumption | ((try simp (disch := omega) only [sr_s, sr_a, sr_sr, u1_s, u1_k, p4]); exact rfl)) (by omega) ?_ | refine k_astR (by first | assumption | omega) (by first | assumption | exact rfl) (by omega) (by omega) (by omega) (by first | assumption | omega) (by (try simp (disch := omega) only [sr_s, sr_a, sr_sr, u1_u1, p4]); exact rfl) ?_ | refine k_pz (by first | assumption | omega) (by omega) (by (try simp (disch := omega) only [sr_s, sr_a, sr_sr, u1_u1, p4]); exact rfl) ?_ | refine k_alen (by first | assumption | omega) (by first | assumption | exact rfl) ?_ | refine k_cpy (by first | assumption | omega) (by first | assumption | omega) (by first | assumption | exact rfl) (by first | assumption | exact rfl) (by omega) (by omega) (by omega) (by omega) (by omega) (by omega) (by omega) (by omega) (by (try simp (disch := omega) only [sr_s, sr_a, sr_sr, u1_u1, p4]); exact rfl) ?_ | refine k_if (by (try simp (disch := omega) only [w32_id]); exact Iff.rfl) (fun c => ?_) (fun c => ?_))
          exact e_ref hG (cQ.refl h0.2.1)
      · obtain ⟨rg2, hR2⟩ := h2.ring (by rw [f 24 (by omega)]; exact c)
        have n3 := hR2.1
        have hrg := hR2.2.1.1
        repeat' (with_reducible first | refine k_gf (by first | assumption | omega) (by first | assumption | ((try simp (disch := omega) only [sr_s, sr_a, sr_sr, u1_s, u1_k, n3]); exact rfl)) ?_ | refine k_gr (by first | assumption | omega) (by first | assumption | ((try simp (disch := omega) only [sr_s, sr_a, sr_sr, u1_s, u1_k, n3]); exact rfl)) (by omega) ?_ | refine k_ald (by first | assumption | omega) (by first | assumption | exact rfl) (by omega) (by omega) (by omega) (by first | assumption | ((try simp (disch := omega) only [sr_s, sr_a, sr_sr, u1_s, u1_k, n3]); exact rfl)) ?_ | refine k_eq (X11_in_F (by omega) (by omega) (by omega) (by omega) (by omega) (by omega) (by omega)) ?_ | refine k_ifT (by first | (simp (disch := omega) only [w32_id]; first | done | omega) | omega) ?_ | refine k_ifF (by first | (simp (disch := omega) only [w32_id]; first | done | omega) | omega) ?_ | refine k_pf (by first | assumption | omega) (by (try simp (disch := omega) only [sr_s, sr_a, sr_sr, u1_u1, n3]); exact rfl) ?_ | refine k_ast (by first | assumption | omega) (by first | assumption | exact rfl) (by omega) (by omega) (by omega) (by (try simp (disch := omega) only [sr_s, sr_a, sr_sr, u1_u1, n3]); exact rfl) ?_ | refine k_irm (by omega) (by omega) (by omega) (by omega) ?_ | refine k_idv (by omega) (by omega) (by omega) (by omega) ?_ | refine k_tk (by first | assumption | omega) ?_ | refine k_rp (by omega) ?_ | refine k_aldR (by first | assumption | omega) (by first | assumption | exact rfl) (by omega) (by omega) (by omega) (by first | assumption | ((try simp (disch := omega) only [sr_s, sr_a, sr_sr, u1_s, u1_k, n3]); exact rfl)) (by omega) ?_ | refine k_astR (by first | assumption | omega) (by first | assumption | exact rfl) (by omega) (by omega) (by omega) (by first | assumption | omega) (by (try simp (disch := omega) only [sr_s, sr_a, sr_sr, u1_u1, n3]); exact rfl) ?_ | refine k_pz (by first | assumption | omega) (by omega) (by (try simp (disch := omega) only [sr_s, sr_a, sr_sr, u1_u1, n3]); exact rfl) ?_ | refine k_alen (by first | assumption | omega) (by first | assumption | exact rfl) ?_ | refine k_cpy (by first | assumption | omega) (by first | assumption | omega) (by first | assumption | exact rfl) (by first | assumption | exact rfl) (by omega) (by omega) (by omega) (by omega) (by omega) (by omega) (by omega) (by omega) (by (try simp (disch := omega) only [sr_s, sr_a, sr_sr, u1_u1, n3]); exact rfl) ?_ | refine k_if (by (try simp (disch := omega) only [w32_id]); exact Iff.rfl) (fun c => ?_) (fun c => ?_))
        exact e_rref hG (rQ.refl h2.2.2.1.2)
  · unfold M_X9_rounds M_X11_rounds
    refine Both.go h0 (-1) 1 (by omega) (by omega) (by omega) ?_ (fun M2 h2 f => ?_)
    · repeat' (with_reducible first | refine k_gf (by first | assumption | omega) (by first | assumption | ((try simp (disch := omega) only [sr_s, sr_a, sr_sr, u1_s, u1_k, p4]); exact rfl)) ?_ | refine k_gr (by first | assumption | omega) (by first | assumption | ((try simp (disch := omega) only [sr_s, sr_a, sr_sr, u1_s, u1_k, p4]); exact rfl)) (by omega) ?_ | refine k_ald (by first | assumption | omega) (by first | assumption | exact rfl) (by omega) (by omega) (by omega) (by first | assumption | ((try simp (disch := omega) only [sr_s, sr_a, sr_sr, u1_s, u1_k, p4]); exact rfl)) ?_ | refine k_ifT (by first | (simp (disch := omega) only [w32_id]; first | done | omega) | omega) ?_ | refine k_ifF (by first | (simp (disch := omega) only [w32_id]; first | done | omega) | omega) ?_ | refine k_pf (by first | assumption | omega) (by (try simp (disch := omega) only [sr_s, sr_a, sr_sr, u1_u1, p4]); exact rfl) ?_ | refine k_ast (by first | assumption | omega) (by first | assumption | exact rfl) (by omega) (by omega) (by omega) (by (try simp (disch := omega) only [sr_s, sr_a, sr_sr, u1_u1, p4]); exact rfl) ?_ | refine k_irm (by omega) (by omega) (by omega) (by omega) ?_ | refine k_idv (by omega) (by omega) (by omega) (by omega) ?_ | refine k_tk (by first | assumption | omega) ?_ | refine k_rp (by omega) ?_ | refine k_aldR (by first | assumption | omega) (by first | assumption | exact rfl) (by omega) (by omega) (by omega) (by first | assumption | ((try simp (disch := omega) only [sr_s, sr_a, sr_sr, u1_s, u1_k, p4]); exact rfl)) (by omega) ?_ | refine k_astR (by first | assumption | omega) (by first | assumption | exact rfl) (by omega) (by omega) (by omega) (by first | assumption | omega) (by (try simp (disch := omega) only [sr_s, sr_a, sr_sr, u1_u1, p4]); exact rfl) ?_ | refine k_pz (by first | assumption | omega) (by omega) (by (try simp (disch := omega) only [sr_s, sr_a, sr_sr, u1_u1, p4]); exact rfl) ?_ | refine k_alen (by first | assumption | omega) (by first | assumption | exact rfl) ?_ | refine k_cpy (by first | assumption | omega) (by first | assumption | omega) (by first | assumption | exact rfl) (by first | assumption | exact rfl) (by omega) (by omega) (by omega) (by omega) (by omega) (by omega) (by omega) (by omega) (by (try simp (disch := omega) only [sr_s, sr_a, sr_sr, u1_u1, p4]); exact rfl) ?_ | refine k_if (by (try simp (disch := omega) only [w32_id]); exact Iff.rfl) (fun c => ?_) (fun c => ?_))
      exact e_ref hG (cQ.refl h0.2.1)
    · rcases h2.2.2.2.2.2 with hn | ⟨rg, hR⟩
      · have n3 : M2 124 3 = -1 := hn.1
        repeat' (with_reducible first | refine k_gf (by first | assumption | omega) (by first | assumption | ((try simp (disch := omega) only [sr_s, sr_a, sr_sr, u1_s, u1_k, n3]); exact rfl)) ?_ | refine k_gr (by first | assumption | omega) (by first | assumption | ((try simp (disch := omega) only [sr_s, sr_a, sr_sr, u1_s, u1_k, n3]); exact rfl)) (by omega) ?_ | refine k_ald (by first | assumption | omega) (by first | assumption | exact rfl) (by omega) (by omega) (by omega) (by first | assumption | ((try simp (disch := omega) only [sr_s, sr_a, sr_sr, u1_s, u1_k, n3]); exact rfl)) ?_ | refine k_ifT (by first | (simp (disch := omega) only [w32_id]; first | done | omega) | omega) ?_ | refine k_ifF (by first | (simp (disch := omega) only [w32_id]; first | done | omega) | omega) ?_ | refine k_pf (by first | assumption | omega) (by (try simp (disch := omega) only [sr_s, sr_a, sr_sr, u1_u1, n3]); exact rfl) ?_ | refine k_ast (by first | assumption | omega) (by first | assumption | exact rfl) (by omega) (by omega) (by omega) (by (try simp (disch := omega) only [sr_s, sr_a, sr_sr, u1_u1, n3]); exact rfl) ?_ | refine k_irm (by omega) (by omega) (by omega) (by omega) ?_ | refine k_idv (by omega) (by omega) (by omega) (by omega) ?_ | refine k_tk (by first | assumption | omega) ?_ | refine k_rp (by omega) ?_ | refine k_aldR (by first | assumption | omega) (by first | assumption | exact rfl) (by omega) (by omega) (by omega) (by first | assumption | ((try simp (disch := omega) only [sr_s, sr_a, sr_sr, u1_s, u1_k, n3]); exact rfl)) (by omega) ?_ | refine k_astR (by first | assumption | omega) (by first | assumption | exact rfl) (by omega) (by omega) (by omega) (by first | assumption | omega) (by (try simp (disch := omega) only [sr_s, sr_a, sr_sr, u1_u1, n3]); exact rfl) ?_ | refine k_pz (by first | assumption | omega) (by omega) (by (try simp (disch := omega) only [sr_s, sr_a, sr_sr, u1_u1, n3]); exact rfl) ?_ | refine k_alen (by first | assumption | omega) (by first | assumption | exact rfl) ?_ | refine k_cpy (by first | assumption | omega) (by first | assumption | omega) (by first | assumption | exact rfl) (by first | assumption | exact rfl) (by omega) (by omega) (by omega) (by omega) (by omega) (by omega) (by omega) (by omega) (by (try simp (disch := omega) only [sr_s, sr_a, sr_sr, u1_u1, n3]); exact rfl) ?_ | refine k_if (by (try simp (disch := omega) only [w32_id]); exact Iff.rfl) (fun c => ?_) (fun c => ?_))
        exact e_rref hG (rQ.refl h2.2.2.1.2)
      · have := hR.cl.2.2.2.2.1.2.2.2.2.1
        rw [f 24 (by omega)] at this
        omega
end AH
