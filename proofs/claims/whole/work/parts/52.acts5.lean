/-! keep, rounds -/
section AG
variable {M M1 M2 N : Int → Int → Int} {G : GG} {td r rg t u k a v w n : Int}
theorem q_keep (h : Inv M G) : Both M G (fun h => M_X9_keep h 0) (fun h => M_X11_keep h 124) := by
  obtain ⟨htr, td, r, h0⟩ := h
  have hG := h0.1.1
  have hh := h0.tw
  have hp0 := h0.1.2.1
  have hp36 := h0.1.2.2.2.2.2.2.2.2.2.2.2.1
  have hp38 := h0.1.2.2.2.2.2.2.2.2.2.2.2.2.1
  have q2 := pr36.p2 hp36
  have htd : td = 2 ∨ td = 13 := h0.1.2.2.1
  have p4 := pr0.p4 hp0
  have p7 := pr0.p7 hp0
  have k0 := gk_0 hG
  have k24 := gk_24 hG
  have k36 := gk_36 hG
  have k38 := gk_38 hG
  have l38 := gl_38 hG
  have k124 := gk_124 hG
  by_cases c : 1 ≤ M 24 2
  · obtain ⟨rg, hR⟩ := h0.ring c
    have q12 := hR.2.2.2.2.2.2.2.2.2.2.2.1
    have c0 := q12.2.1
    have c3 := q12.2.2.1
    have q5 := hR.2.2.2.2.1
    have q10 := hR.2.2.2.2.2.2.2.2.2.1
    by_cases c2 : M 36 3 = 3
    · unfold M_X9_keep M_X11_keep
      refine Both.go h0 (-1) 3 (by omega) (by omega) (by omega) ?_ (fun M2 h2 f => ?_)
      · repeat' (with_reducible first | refine k_gf (by first | assumption | omega) (by first | assumption | ((try simp (disch := omega) only [sr_s, sr_a, sr_sr, u1_s, u1_k, p4, p7]); exact rfl)) ?_ | refine k_gr (by first | assumption | omega) (by first | assumption | ((try simp (disch := omega) only [sr_s, sr_a, sr_sr, u1_s, u1_k, p4, p7]); exact rfl)) (by omega) ?_ | refine k_ald (by first | assumption | omega) (by first | assumption | exact rfl) (by omega) (by omega) (by omega) (by first | assumption | ((try simp (disch := omega) only [sr_s, sr_a, sr_sr, u1_s, u1_k, p4, p7]); exact rfl)) ?_ | refine k_ifT (by first | (simp (disch := omega) only [w32_id]; first | done | omega) | omega) ?_ | refine k_ifF (by first | (simp (disch := omega) only [w32_id]; first | done | omega) | omega) ?_ | refine k_pf (by first | assumption | omega) (by (try simp (disch := omega) only [sr_s, sr_a, sr_sr, u1_u1, p4, p7]); exact rfl) ?_ | refine k_ast (by first | assumption | omega) (by first | assumption | exact rfl) (by omega) (by omega) (by omega) (by (try simp (disch := omega) only [sr_s, sr_a, sr_sr, u1_u1, p4, p7]); exact rfl) ?_ | refine k_irm (by omega) (by omega) (by omega) (by omega) ?_ | refine k_idv (by omega) (by omega) (by omega) (by omega) ?_ | refine k_tk (by first | assumption | omega) ?_ | refine k_rp (by omega) ?_ | refine k_aldR (by first | assumption | omega) (by first | assumption | exact rfl) (by omega) (by omega) (by omega) (by first | assumption | ((try simp (disch := omega) only [sr_s, sr_a, sr_sr, u1_s, u1_k, p4, p7]); exact rfl)) (by omega) ?_ | refine k_astR (by first | assumption | omega) (by first | assumption | exact rfl) (by omega) (by omega) (by omega) (by first | assumption | omega) (by (try simp (disch := omega) only [sr_s, sr_a, sr_sr, u1_u1, p4, p7]); exact rfl) ?_ | refine k_pz (by first | assumption | omega) (by omega) (by (try simp (disch := omega) only [sr_s, sr_a, sr_sr, u1_u1, p4, p7]); exact rfl) ?_ | refine k_alen (by first | assumption | omega) (by first | assumption | exact rfl) ?_ | refine k_cpy (by first | assumption | omega) (by first | assumption | omega) (by first | assumption | exact rfl) (by first | assumption | exact rfl) (by omega) (by omega) (by omega) (by omega) (by omega) (by omega) (by omega) (by omega) (by (try simp (disch := omega) only [sr_s, sr_a, sr_sr, u1_u1, p4, p7]); exact rfl) ?_ | refine k_if (by (try simp (disch := omega) only [w32_id]); exact Iff.rfl) (fun c => ?_) (fun c => ?_))
        exact e_ref hG (cQ.refl h0.2.1)
      · obtain ⟨rg2, hR2⟩ := h2.ring (by rw [f 24 (by omega)]; exact c)
        have n3 := hR2.1
        have hrg := hR2.2.1.1
        have n21 : M2 124 21 = 3 := by rw [hR2.2.2.2.2.2.2.2.2.2.2.2.1.1, f 36 (by omega)]; exact c2
        repeat' (with_reducible first | refine k_gf (by first | assumption | omega) (by first | assumption | ((try simp (disch := omega) only [sr_s, sr_a, sr_sr, u1_s, u1_k, n3, n21]); exact rfl)) ?_ | refine k_gr (by first | assumption | omega) (by first | assumption | ((try simp (disch := omega) only [sr_s, sr_a, sr_sr, u1_s, u1_k, n3, n21]); exact rfl)) (by omega) ?_ | refine k_ald (by first | assumption | omega) (by first | assumption | exact rfl) (by omega) (by omega) (by omega) (by first | assumption | ((try simp (disch := omega) only [sr_s, sr_a, sr_sr, u1_s, u1_k, n3, n21]); exact rfl)) ?_ | refine k_ifT (by first | (simp (disch := omega) only [w32_id]; first | done | omega) | omega) ?_ | refine k_ifF (by first | (simp (disch := omega) only [w32_id]; first | done | omega) | omega) ?_ | refine k_pf (by first | assumption | omega) (by (try simp (disch := omega) only [sr_s, sr_a, sr_sr, u1_u1, n3, n21]); exact rfl) ?_ | refine k_ast (by first | assumption | omega) (by first | assumption | exact rfl) (by omega) (by omega) (by omega) (by (try simp (disch := omega) only [sr_s, sr_a, sr_sr, u1_u1, n3, n21]); exact rfl) ?_ | refine k_irm (by omega) (by omega) (by omega) (by omega) ?_ | refine k_idv (by omega) (by omega) (by omega) (by omega) ?_ | refine k_tk (by first | assumption | omega) ?_ | refine k_rp (by omega) ?_ | refine k_aldR (by first | assumption | omega) (by first | assumption | exact rfl) (by omega) (by omega) (by omega) (by first | assumption | ((try simp (disch := omega) only [sr_s, sr_a, sr_sr, u1_s, u1_k, n3, n21]); exact rfl)) (by omega) ?_ | refine k_astR (by first | assumption | omega) (by first | assumption | exact rfl) (by omega) (by omega) (by omega) (by first | assumption | omega) (by (try simp (disch := omega) only [sr_s, sr_a, sr_sr, u1_u1, n3, n21]); exact rfl) ?_ | refine k_pz (by first | assumption | omega) (by omega) (by (try simp (disch := omega) only [sr_s, sr_a, sr_sr, u1_u1, n3, n21]); exact rfl) ?_ | refine k_alen (by first | assumption | omega) (by first | assumption | exact rfl) ?_ | refine k_cpy (by first | assumption | omega) (by first | assumption | omega) (by first | assumption | exact rfl) (by first | assumption | exact rfl) (by omega) (by omega) (by omega) (by omega) (by omega) (by omega) (by omega) (by omega) (by (try simp (disch := omega) only [sr_s, sr_a, sr_sr, u1_u1, n3, n21]); exact rfl) ?_ | refine k_if (by (try simp (disch := omega) only [w32_id]); exact Iff.rfl) (fun c => ?_) (fun c => ?_))
        exact e_rref hG (rQ.refl h2.2.2.1.2)
    · have hkk : M 36 3 = 0 ∨ M 36 3 = 1 ∨ M 36 3 = 2 := by omega
      have h38 : M 38 (M 36 3) = 87 + 4 * M 36 3 := by rcases hkk with e | e | e <;> rw [e]; exact pr38.p0 hp38; exact pr38.p1 hp38; exact pr38.p2 hp38
      have hsw := h0.1.2.2.2.2.2.2.2.2.2.2.1 (87 + 4 * M 36 3) (by omega) (by omega) (by omega)
      have hs := h0.s24
      have hbe := X8_become_ok (M := M) (w := 87 + 4 * M 36 3) (v := 24) (wAd_g hG (by unfold wAd; omega)) hsw.1 hsw.2 (gW_24 hG) hs.1 hs.2 (by omega)
      have hbr : beM M (87 + 4 * M 36 3) 24 (87 + 4 * M 36 3) 0 = M 24 0 ∧ beM M (87 + 4 * M 36 3) 24 (87 + 4 * M 36 3) 1 = M 24 1 ∧ beM M (87 + 4 * M 36 3) 24 (87 + 4 * M 36 3) 2 = M 24 2 ∧ beM M (87 + 4 * M 36 3) 24 (87 + 4 * M 36 3) 6 = M 24 6 ∧ beM M (87 + 4 * M 36 3) 24 (87 + 4 * M 36 3) 7 = M 24 7 ∧ mW (beM M (87 + 4 * M 36 3) 24) (87 + 4 * M 36 3) ∧ beM M (87 + 4 * M 36 3) 24 (87 + 4 * M 36 3 + 1) = M 25 ∧ beM M (87 + 4 * M 36 3) 24 (87 + 4 * M 36 3 + 2) = M 26 ∧ beM M (87 + 4 * M 36 3) 24 (87 + 4 * M 36 3 + 3) = M 27 ∧ ∀ a, (a < 87 + 4 * M 36 3 ∨ 87 + 4 * M 36 3 + 3 < a) → beM M (87 + 4 * M 36 3) 24 a = M a := by
        have hm := hsw.1
        generalize 87 + 4 * M 36 3 = w at *
        unfold beM mW at *
        refine ⟨?_, ?_, ?_, ?_, ?_, ?_, ?_, ?_, ?_, fun a ha => ?_⟩
        all_goals simp (disch := omega) only [sr_s, sr_a]
        · rfl
        · rfl
        · rfl
        · rfl
        · rfl
        · exact hm
        · rfl
        · rfl
        · rfl
      obtain ⟨b0, b1, b2, b6, b7, bm, f1, f2, f3, ff⟩ := hbr
      have x36 := ff 36 (by omega)
      obtain ⟨w, hw⟩ : ∃ w, w = 87 + 4 * M 36 3 := ⟨_, rfl⟩
      have hwb : 87 ≤ w ∧ w ≤ 95 ∧ (w - 39) % 4 = 0 := by omega
      rw [← hw] at h38 hbe b0 b1 b2 b6 b7 bm f1 f2 f3 ff x36 hsw
      generalize beM M w 24 = Mb at *
      have hcl : M_X9_keep (M, G) 0 = some ((trM (sr Mb 36 (u1 (M 36) 3 (M 36 3 + 1))) 0, G), M 36 3) := by
        refine Ok.eq ?_
        unfold M_X9_keep
        repeat' (with_reducible first | refine k_gf (by first | assumption | omega) (by first | assumption | ((try simp (disch := omega) only [sr_s, sr_a, sr_sr, u1_s, u1_k, p4, p7]); exact rfl)) ?_ | refine k_gr (by first | assumption | omega) (by first | assumption | ((try simp (disch := omega) only [sr_s, sr_a, sr_sr, u1_s, u1_k, p4, p7]); exact rfl)) (by omega) ?_ | refine k_ald (by first | assumption | omega) (by first | assumption | exact rfl) (by omega) (by omega) (by omega) (by first | assumption | ((try simp (disch := omega) only [sr_s, sr_a, sr_sr, u1_s, u1_k, p4, p7]); exact rfl)) ?_ | refine k_ifT (by first | (simp (disch := omega) only [w32_id]; first | done | omega) | omega) ?_ | refine k_ifF (by first | (simp (disch := omega) only [w32_id]; first | done | omega) | omega) ?_ | refine k_pf (by first | assumption | omega) (by (try simp (disch := omega) only [sr_s, sr_a, sr_sr, u1_u1, p4, p7]); exact rfl) ?_ | refine k_ast (by first | assumption | omega) (by first | assumption | exact rfl) (by omega) (by omega) (by omega) (by (try simp (disch := omega) only [sr_s, sr_a, sr_sr, u1_u1, p4, p7]); exact rfl) ?_ | refine k_irm (by omega) (by omega) (by omega) (by omega) ?_ | refine k_idv (by omega) (by omega) (by omega) (by omega) ?_ | refine k_tk (by first | assumption | omega) ?_ | refine k_rp (by omega) ?_ | refine k_aldR (by first | assumption | omega) (by first | assumption | exact rfl) (by omega) (by omega) (by omega) (by first | assumption | ((try simp (disch := omega) only [sr_s, sr_a, sr_sr, u1_s, u1_k, p4, p7]); exact rfl)) (by omega) ?_ | refine k_astR (by first | assumption | omega) (by first | assumption | exact rfl) (by omega) (by omega) (by omega) (by first | assumption | omega) (by (try simp (disch := omega) only [sr_s, sr_a, sr_sr, u1_u1, p4, p7]); exact rfl) ?_ | refine k_pz (by first | assumption | omega) (by omega) (by (try simp (disch := omega) only [sr_s, sr_a, sr_sr, u1_u1, p4, p7]); exact rfl) ?_ | refine k_alen (by first | assumption | omega) (by first | assumption | exact rfl) ?_ | refine k_cpy (by first | assumption | omega) (by first | assumption | omega) (by first | assumption | exact rfl) (by first | assumption | exact rfl) (by omega) (by omega) (by omega) (by omega) (by omega) (by omega) (by omega) (by omega) (by (try simp (disch := omega) only [sr_s, sr_a, sr_sr, u1_u1, p4, p7]); exact rfl) ?_ | refine k_if (by (try simp (disch := omega) only [w32_id]); exact Iff.rfl) (fun c => ?_) (fun c => ?_))
        have hho : M_X3_hold (M, G) 36 24 = some ((sr Mb 36 (u1 (M 36) 3 (M 36 3 + 1)), G), M 36 3) := by
          refine Ok.eq ?_
          unfold M_X3_hold
          repeat' (with_reducible first | refine k_gf (by first | assumption | omega) (by first | assumption | ((try simp (disch := omega) only [sr_s, sr_a, sr_sr, u1_s, u1_k, q2, h38]); exact rfl)) ?_ | refine k_gr (by first | assumption | omega) (by first | assumption | ((try simp (disch := omega) only [sr_s, sr_a, sr_sr, u1_s, u1_k, q2, h38]); exact rfl)) (by omega) ?_ | refine k_ald (by first | assumption | omega) (by first | assumption | exact rfl) (by omega) (by omega) (by omega) (by first | assumption | ((try simp (disch := omega) only [sr_s, sr_a, sr_sr, u1_s, u1_k, q2, h38]); exact rfl)) ?_ | refine k_eq (hbe) ?_ | refine k_ifT (by first | (simp (disch := omega) only [w32_id]; first | done | omega) | omega) ?_ | refine k_ifF (by first | (simp (disch := omega) only [w32_id]; first | done | omega) | omega) ?_ | refine k_pf (by first | assumption | omega) (by (try simp (disch := omega) only [sr_s, sr_a, sr_sr, u1_u1, q2, h38]); exact rfl) ?_ | refine k_ast (by first | assumption | omega) (by first | assumption | exact rfl) (by omega) (by omega) (by omega) (by (try simp (disch := omega) only [sr_s, sr_a, sr_sr, u1_u1, q2, h38]); exact rfl) ?_ | refine k_irm (by omega) (by omega) (by omega) (by omega) ?_ | refine k_idv (by omega) (by omega) (by omega) (by omega) ?_ | refine k_tk (by first | assumption | omega) ?_ | refine k_rp (by omega) ?_ | refine k_aldR (by first | assumption | omega) (by first | assumption | exact rfl) (by omega) (by omega) (by omega) (by first | assumption | ((try simp (disch := omega) only [sr_s, sr_a, sr_sr, u1_s, u1_k, q2, h38]); exact rfl)) (by omega) ?_ | refine k_astR (by first | assumption | omega) (by first | assumption | exact rfl) (by omega) (by omega) (by omega) (by first | assumption | omega) (by (try simp (disch := omega) only [sr_s, sr_a, sr_sr, u1_u1, q2, h38]); exact rfl) ?_ | refine k_pz (by first | assumption | omega) (by omega) (by (try simp (disch := omega) only [sr_s, sr_a, sr_sr, u1_u1, q2, h38]); exact rfl) ?_ | refine k_alen (by first | assumption | omega) (by first | assumption | exact rfl) ?_ | refine k_cpy (by first | assumption | omega) (by first | assumption | omega) (by first | assumption | exact rfl) (by first | assumption | exact rfl) (by omega) (by omega) (by omega) (by omega) (by omega) (by omega) (by omega) (by omega) (by (try simp (disch := omega) only [sr_s, sr_a, sr_sr, u1_u1, q2, h38]); exact rfl) ?_ | refine k_if (by (try simp (disch := omega) only [w32_id]); exact Iff.rfl) (fun c => ?_) (fun c => ?_))
          repeat' (with_reducible first | refine k_gf (by first | assumption | omega) (by first | assumption | ((try simp (disch := omega) only [sr_s, sr_a, sr_sr, u1_s, u1_k, x36]); exact rfl)) ?_ | refine k_gr (by first | assumption | omega) (by first | assumption | ((try simp (disch := omega) only [sr_s, sr_a, sr_sr, u1_s, u1_k, x36]); exact rfl)) (by omega) ?_ | refine k_ald (by first | assumption | omega) (by first | assumption | exact rfl) (by omega) (by omega) (by omega) (by first | assumption | ((try simp (disch := omega) only [sr_s, sr_a, sr_sr, u1_s, u1_k, x36]); exact rfl)) ?_ | refine k_ifT (by first | (simp (disch := omega) only [w32_id]; first | done | omega) | omega) ?_ | refine k_ifF (by first | (simp (disch := omega) only [w32_id]; first | done | omega) | omega) ?_ | refine k_pf (by first | assumption | omega) (by (try simp (disch := omega) only [sr_s, sr_a, sr_sr, u1_u1, x36]); exact rfl) ?_ | refine k_ast (by first | assumption | omega) (by first | assumption | exact rfl) (by omega) (by omega) (by omega) (by (try simp (disch := omega) only [sr_s, sr_a, sr_sr, u1_u1, x36]); exact rfl) ?_ | refine k_irm (by omega) (by omega) (by omega) (by omega) ?_ | refine k_idv (by omega) (by omega) (by omega) (by omega) ?_ | refine k_tk (by first | assumption | omega) ?_ | refine k_rp (by omega) ?_ | refine k_aldR (by first | assumption | omega) (by first | assumption | exact rfl) (by omega) (by omega) (by omega) (by first | assumption | ((try simp (disch := omega) only [sr_s, sr_a, sr_sr, u1_s, u1_k, x36]); exact rfl)) (by omega) ?_ | refine k_astR (by first | assumption | omega) (by first | assumption | exact rfl) (by omega) (by omega) (by omega) (by first | assumption | omega) (by (try simp (disch := omega) only [sr_s, sr_a, sr_sr, u1_u1, x36]); exact rfl) ?_ | refine k_pz (by first | assumption | omega) (by omega) (by (try simp (disch := omega) only [sr_s, sr_a, sr_sr, u1_u1, x36]); exact rfl) ?_ | refine k_alen (by first | assumption | omega) (by first | assumption | exact rfl) ?_ | refine k_cpy (by first | assumption | omega) (by first | assumption | omega) (by first | assumption | exact rfl) (by first | assumption | exact rfl) (by omega) (by omega) (by omega) (by omega) (by omega) (by omega) (by omega) (by omega) (by (try simp (disch := omega) only [sr_s, sr_a, sr_sr, u1_u1, x36]); exact rfl) ?_ | refine k_if (by (try simp (disch := omega) only [w32_id]); exact Iff.rfl) (fun c => ?_) (fun c => ?_))
          refine Ok.ret ?_
          rw [x36, show M 36 3 + 1 - 1 = M 36 3 by omega]
        refine k_bd hho ?_
        exact k_bd (X9_answered_ok hG) (Ok.ret rfl)
      have bN : ∀ b, b ≠ 0 → (b < w ∨ w + 3 < b) → b ≠ 36 → trM (sr Mb 36 (u1 (M 36) 3 (M 36 3 + 1))) 0 b = M b := fun b y1 y2 y3 => by rw [trM_a y1, sr_a _ _ y3, ff b y2]
      have bw : ∀ b, (w ≤ b ∧ b ≤ w + 3) → trM (sr Mb 36 (u1 (M 36) 3 (M 36 3 + 1))) 0 b = Mb b := fun b y => by rw [trM_a (by omega), sr_a _ _ (by omega)]
      have b36 : trM (sr Mb 36 (u1 (M 36) 3 (M 36 3 + 1))) 0 36 = u1 (M 36) 3 (M 36 3 + 1) := by rw [trM_a (by omega), sr_s]
      have b00 : ∀ k, k ≠ 14 → trM (sr Mb 36 (u1 (M 36) 3 (M 36 3 + 1))) 0 0 k = M 0 k := fun k hk => by rw [trM_k hk, sr_a _ _ (by omega), ff 0 (by omega)]
      have b014 : trM (sr Mb 36 (u1 (M 36) 3 (M 36 3 + 1))) 0 0 14 = 0 := by unfold trM; rw [sr_s, u1_s]
      generalize trM (sr Mb 36 (u1 (M 36) 3 (M 36 3 + 1))) 0 = M1 at *
      have hrf : M_X11_keep (M1, G) 124 = some ((rtM (sr (sr (thM M1) 128 (cp1 (M 128) (M 126) 0 (248 * M 36 3) 248)) 124 (u1 (thM M1 124) 21 (M 36 3 + 1))) 0, G), M 36 3) := by
        have hN : ∀ b, 125 ≤ b → thM M1 b = M b := fun b hb => by rw [thM_a (by omega), bN b (by omega) (by omega) (by omega)]
        have hN4 : ∀ j, j ≠ 0 → thM M1 124 j = M 124 j := fun j hj => by rw [thM_k hj, bN 124 (by omega) (by omega) (by omega)]
        refine Ok.eq ?_
        unfold M_X11_keep
        refine k_tk k124 (k_pf k124 (M' := thM M1) rfl ?_)
        generalize thM M1 = N at hN hN4 ⊢
        have hrg := hR.2.1.1
        have n3 : N 124 3 = rg := by rw [hN4 3 (by omega)]; exact hR.1
        have n21 : N 124 21 = M 36 3 := by rw [hN4 21 (by omega)]; exact q12.1
        repeat' (with_reducible first | refine k_gf (by first | assumption | omega) (by first | assumption | ((try simp (disch := omega) only [sr_s, sr_a, sr_sr, u1_s, u1_k, n3, n21]); exact rfl)) ?_ | refine k_gr (by first | assumption | omega) (by first | assumption | ((try simp (disch := omega) only [sr_s, sr_a, sr_sr, u1_s, u1_k, n3, n21]); exact rfl)) (by omega) ?_ | refine k_ald (by first | assumption | omega) (by first | assumption | exact rfl) (by omega) (by omega) (by omega) (by first | assumption | ((try simp (disch := omega) only [sr_s, sr_a, sr_sr, u1_s, u1_k, n3, n21]); exact rfl)) ?_ | refine k_ifT (by first | (simp (disch := omega) only [w32_id]; first | done | omega) | omega) ?_ | refine k_ifF (by first | (simp (disch := omega) only [w32_id]; first | done | omega) | omega) ?_ | refine k_pf (by first | assumption | omega) (by (try simp (disch := omega) only [sr_s, sr_a, sr_sr, u1_u1, n3, n21]); exact rfl) ?_ | refine k_ast (by first | assumption | omega) (by first | assumption | exact rfl) (by omega) (by omega) (by omega) (by (try simp (disch := omega) only [sr_s, sr_a, sr_sr, u1_u1, n3, n21]); exact rfl) ?_ | refine k_irm (by omega) (by omega) (by omega) (by omega) ?_ | refine k_idv (by omega) (by omega) (by omega) (by omega) ?_ | refine k_tk (by first | assumption | omega) ?_ | refine k_rp (by omega) ?_ | refine k_aldR (by first | assumption | omega) (by first | assumption | exact rfl) (by omega) (by omega) (by omega) (by first | assumption | ((try simp (disch := omega) only [sr_s, sr_a, sr_sr, u1_s, u1_k, n3, n21]); exact rfl)) (by omega) ?_ | refine k_astR (by first | assumption | omega) (by first | assumption | exact rfl) (by omega) (by omega) (by omega) (by first | assumption | omega) (by (try simp (disch := omega) only [sr_s, sr_a, sr_sr, u1_u1, n3, n21]); exact rfl) ?_ | refine k_pz (by first | assumption | omega) (by omega) (by (try simp (disch := omega) only [sr_s, sr_a, sr_sr, u1_u1, n3, n21]); exact rfl) ?_ | refine k_alen (by first | assumption | omega) (by first | assumption | exact rfl) ?_ | refine k_cpy (by first | assumption | omega) (by first | assumption | omega) (by first | assumption | exact rfl) (by first | assumption | exact rfl) (by omega) (by omega) (by omega) (by omega) (by omega) (by omega) (by omega) (by omega) (by (try simp (disch := omega) only [sr_s, sr_a, sr_sr, u1_u1, n3, n21]); exact rfl) ?_ | refine k_if (by (try simp (disch := omega) only [w32_id]); exact Iff.rfl) (fun c => ?_) (fun c => ?_))
        unfold M_X11_keep_w34 M_X11_keep_p68
        have hp124 : pr124 (N 124) := pr124.u h0.2.2.1.1 (fun j hj => hN4 j (by omega))
        have x126 := hN 126 (by omega)
        have x128 := hN 128 (by omega)
        have p17 := pr124.p17 hp124
        have p19 := pr124.p19 hp124
        have k126 := gk_126 hG
        have l126 := gl_126 hG
        have k128 := gk_128 hG
        have l128 := gl_128 hG
        refine k_eq (wh_st (fun i => ((sr N 128 (cp1 (M 128) (M 126) 0 (248 * M 36 3) (i : Int)), G), (i : Int))) 248 (by omega) (t := (sr N 128 (cp1 (M 128) (M 126) 0 (248 * M 36 3) 248), G)) ?_ ?_ ?_) ?_
        · show ((N, G), (0 : Int)) = ((sr N 128 (cp1 (M 128) (M 126) 0 (248 * M 36 3) 0), G), 0)
          rw [cp1_0, ← x128, sr_id]
        · intro i hi
          refine Ok.eq ?_
          unfold M_X11_keep_b34
          dsimp only
          repeat' (with_reducible first | refine k_gf (by first | assumption | omega) (by first | assumption | ((try simp (disch := omega) only [sr_s, sr_a, sr_sr, u1_s, u1_k, p17, p19, n21, x126]); exact rfl)) ?_ | refine k_gr (by first | assumption | omega) (by first | assumption | ((try simp (disch := omega) only [sr_s, sr_a, sr_sr, u1_s, u1_k, p17, p19, n21, x126]); exact rfl)) (by omega) ?_ | refine k_ald (by first | assumption | omega) (by first | assumption | exact rfl) (by omega) (by omega) (by omega) (by first | assumption | ((try simp (disch := omega) only [sr_s, sr_a, sr_sr, u1_s, u1_k, p17, p19, n21, x126]); exact rfl)) ?_ | refine k_ifT (by first | (simp (disch := omega) only [w32_id]; first | done | omega) | omega) ?_ | refine k_ifF (by first | (simp (disch := omega) only [w32_id]; first | done | omega) | omega) ?_ | refine k_pf (by first | assumption | omega) (by (try simp (disch := omega) only [sr_s, sr_a, sr_sr, u1_u1, p17, p19, n21, x126]); exact rfl) ?_ | refine k_ast (by first | assumption | omega) (by first | assumption | exact rfl) (by omega) (by omega) (by omega) (by (try simp (disch := omega) only [sr_s, sr_a, sr_sr, u1_u1, p17, p19, n21, x126]); exact rfl) ?_ | refine k_irm (by omega) (by omega) (by omega) (by omega) ?_ | refine k_idv (by omega) (by omega) (by omega) (by omega) ?_ | refine k_tk (by first | assumption | omega) ?_ | refine k_rp (by omega) ?_ | refine k_aldR (by first | assumption | omega) (by first | assumption | exact rfl) (by omega) (by omega) (by omega) (by first | assumption | ((try simp (disch := omega) only [sr_s, sr_a, sr_sr, u1_s, u1_k, p17, p19, n21, x126]); exact rfl)) (by omega) ?_ | refine k_astR (by first | assumption | omega) (by first | assumption | exact rfl) (by omega) (by omega) (by omega) (by first | assumption | omega) (by (try simp (disch := omega) only [sr_s, sr_a, sr_sr, u1_u1, p17, p19, n21, x126]); exact rfl) ?_ | refine k_pz (by first | assumption | omega) (by omega) (by (try simp (disch := omega) only [sr_s, sr_a, sr_sr, u1_u1, p17, p19, n21, x126]); exact rfl) ?_ | refine k_alen (by first | assumption | omega) (by first | assumption | exact rfl) ?_ | refine k_cpy (by first | assumption | omega) (by first | assumption | omega) (by first | assumption | exact rfl) (by first | assumption | exact rfl) (by omega) (by omega) (by omega) (by omega) (by omega) (by omega) (by omega) (by omega) (by (try simp (disch := omega) only [sr_s, sr_a, sr_sr, u1_u1, p17, p19, n21, x126]); exact rfl) ?_ | refine k_if (by (try simp (disch := omega) only [w32_id]); exact Iff.rfl) (fun c => ?_) (fun c => ?_))
          refine Ok.ret ?_
          simp only [Sum.inl.injEq, Prod.mk.injEq, and_true, true_and]
          refine ⟨?_, by omega⟩
          have := cp1_u (g := M 128) (f := M 126) (i := 0) (i2 := 248 * M 36 3) (n := (i : Int)) (by omega)
          rw [Int.zero_add] at this
          rw [this]
          rfl
        · refine Ok.eq ?_
          unfold M_X11_keep_b34
          dsimp only
          repeat' (with_reducible first | refine k_gf (by first | assumption | omega) (by first | assumption | ((try simp (disch := omega) only [sr_s, sr_a, sr_sr, u1_s, u1_k]); exact rfl)) ?_ | refine k_gr (by first | assumption | omega) (by first | assumption | ((try simp (disch := omega) only [sr_s, sr_a, sr_sr, u1_s, u1_k]); exact rfl)) (by omega) ?_ | refine k_ald (by first | assumption | omega) (by first | assumption | exact rfl) (by omega) (by omega) (by omega) (by first | assumption | ((try simp (disch := omega) only [sr_s, sr_a, sr_sr, u1_s, u1_k]); exact rfl)) ?_ | refine k_ifT (by first | (simp (disch := omega) only [w32_id]; first | done | omega) | omega) ?_ | refine k_ifF (by first | (simp (disch := omega) only [w32_id]; first | done | omega) | omega) ?_ | refine k_pf (by first | assumption | omega) (by (try simp (disch := omega) only [sr_s, sr_a, sr_sr, u1_u1]); exact rfl) ?_ | refine k_ast (by first | assumption | omega) (by first | assumption | exact rfl) (by omega) (by omega) (by omega) (by (try simp (disch := omega) only [sr_s, sr_a, sr_sr, u1_u1]); exact rfl) ?_ | refine k_irm (by omega) (by omega) (by omega) (by omega) ?_ | refine k_idv (by omega) (by omega) (by omega) (by omega) ?_ | refine k_tk (by first | assumption | omega) ?_ | refine k_rp (by omega) ?_ | refine k_aldR (by first | assumption | omega) (by first | assumption | exact rfl) (by omega) (by omega) (by omega) (by first | assumption | ((try simp (disch := omega) only [sr_s, sr_a, sr_sr, u1_s, u1_k]); exact rfl)) (by omega) ?_ | refine k_astR (by first | assumption | omega) (by first | assumption | exact rfl) (by omega) (by omega) (by omega) (by first | assumption | omega) (by (try simp (disch := omega) only [sr_s, sr_a, sr_sr, u1_u1]); exact rfl) ?_ | refine k_pz (by first | assumption | omega) (by omega) (by (try simp (disch := omega) only [sr_s, sr_a, sr_sr, u1_u1]); exact rfl) ?_ | refine k_alen (by first | assumption | omega) (by first | assumption | exact rfl) ?_ | refine k_cpy (by first | assumption | omega) (by first | assumption | omega) (by first | assumption | exact rfl) (by first | assumption | exact rfl) (by omega) (by omega) (by omega) (by omega) (by omega) (by omega) (by omega) (by omega) (by (try simp (disch := omega) only [sr_s, sr_a, sr_sr, u1_u1]); exact rfl) ?_ | refine k_if (by (try simp (disch := omega) only [w32_id]); exact Iff.rfl) (fun c => ?_) (fun c => ?_))
          exact Ok.ret rfl
        · repeat' (with_reducible first | refine k_gf (by first | assumption | omega) (by first | assumption | ((try simp (disch := omega) only [sr_s, sr_a, sr_sr, u1_s, u1_k, n21]); exact rfl)) ?_ | refine k_gr (by first | assumption | omega) (by first | assumption | ((try simp (disch := omega) only [sr_s, sr_a, sr_sr, u1_s, u1_k, n21]); exact rfl)) (by omega) ?_ | refine k_ald (by first | assumption | omega) (by first | assumption | exact rfl) (by omega) (by omega) (by omega) (by first | assumption | ((try simp (disch := omega) only [sr_s, sr_a, sr_sr, u1_s, u1_k, n21]); exact rfl)) ?_ | refine k_ifT (by first | (simp (disch := omega) only [w32_id]; first | done | omega) | omega) ?_ | refine k_ifF (by first | (simp (disch := omega) only [w32_id]; first | done | omega) | omega) ?_ | refine k_pf (by first | assumption | omega) (by (try simp (disch := omega) only [sr_s, sr_a, sr_sr, u1_u1, n21]); exact rfl) ?_ | refine k_ast (by first | assumption | omega) (by first | assumption | exact rfl) (by omega) (by omega) (by omega) (by (try simp (disch := omega) only [sr_s, sr_a, sr_sr, u1_u1, n21]); exact rfl) ?_ | refine k_irm (by omega) (by omega) (by omega) (by omega) ?_ | refine k_idv (by omega) (by omega) (by omega) (by omega) ?_ | refine k_tk (by first | assumption | omega) ?_ | refine k_rp (by omega) ?_ | refine k_aldR (by first | assumption | omega) (by first | assumption | exact rfl) (by omega) (by omega) (by omega) (by first | assumption | ((try simp (disch := omega) only [sr_s, sr_a, sr_sr, u1_s, u1_k, n21]); exact rfl)) (by omega) ?_ | refine k_astR (by first | assumption | omega) (by first | assumption | exact rfl) (by omega) (by omega) (by omega) (by first | assumption | omega) (by (try simp (disch := omega) only [sr_s, sr_a, sr_sr, u1_u1, n21]); exact rfl) ?_ | refine k_pz (by first | assumption | omega) (by omega) (by (try simp (disch := omega) only [sr_s, sr_a, sr_sr, u1_u1, n21]); exact rfl) ?_ | refine k_alen (by first | assumption | omega) (by first | assumption | exact rfl) ?_ | refine k_cpy (by first | assumption | omega) (by first | assumption | omega) (by first | assumption | exact rfl) (by first | assumption | exact rfl) (by omega) (by omega) (by omega) (by omega) (by omega) (by omega) (by omega) (by omega) (by (try simp (disch := omega) only [sr_s, sr_a, sr_sr, u1_u1, n21]); exact rfl) ?_ | refine k_if (by (try simp (disch := omega) only [w32_id]); exact Iff.rfl) (fun c => ?_) (fun c => ?_))
          rw [show M 36 3 + 1 - 1 = M 36 3 by omega]
          exact k_bd (X11_good_ok hG) (Ok.ret rfl)
      refine ⟨_, _, M 36 3, hcl, hrf, ?_⟩
      dsimp only
      have gN : ∀ b, b ≠ 124 → b ≠ 128 → rtM (sr (sr (thM M1) 128 (cp1 (M 128) (M 126) 0 (248 * M 36 3) 248)) 124 (u1 (thM M1 124) 21 (M 36 3 + 1))) 0 b = M1 b := fun b y1 y2 => by rw [rtM_a y1, sr_a _ _ y1, sr_a _ _ y2, thM_a y1]
      have g128 : rtM (sr (sr (thM M1) 128 (cp1 (M 128) (M 126) 0 (248 * M 36 3) 248)) 124 (u1 (thM M1 124) 21 (M 36 3 + 1))) 0 128 = cp1 (M 128) (M 126) 0 (248 * M 36 3) 248 := by rw [rtM_a (by omega), sr_a _ _ (by omega), sr_s]
      have g4 : ∀ j, j ≠ 0 → j ≠ 1 → j ≠ 2 → j ≠ 21 → rtM (sr (sr (thM M1) 128 (cp1 (M 128) (M 126) 0 (248 * M 36 3) 248)) 124 (u1 (thM M1 124) 21 (M 36 3 + 1))) 0 124 j = M 124 j := fun j y0 y1 y2 y3 => by
        unfold rtM
        rw [sr_s, u1_k _ _ y2, u1_k _ _ y1, sr_s, u1_k _ _ y3, thM_k y0, bN 124 (by omega) (by omega) (by omega)]
      have g421 : rtM (sr (sr (thM M1) 128 (cp1 (M 128) (M 126) 0 (248 * M 36 3) 248)) 124 (u1 (thM M1 124) 21 (M 36 3 + 1))) 0 124 21 = M 36 3 + 1 := by
        unfold rtM
        rw [sr_s, u1_k _ _ (by omega), u1_k _ _ (by omega), sr_s, u1_s]
      have g41 : rtM (sr (sr (thM M1) 128 (cp1 (M 128) (M 126) 0 (248 * M 36 3) 248)) 124 (u1 (thM M1 124) 21 (M 36 3 + 1))) 0 124 1 = 0 := by
        unfold rtM
        rw [sr_s, u1_k _ _ (by omega), u1_s]
      have g42 : rtM (sr (sr (thM M1) 128 (cp1 (M 128) (M 126) 0 (248 * M 36 3) 248)) 124 (u1 (thM M1 124) 21 (M 36 3 + 1))) 0 124 2 = -1 := by
        unfold rtM
        rw [sr_s, u1_s]
      generalize rtM (sr (sr (thM M1) 128 (cp1 (M 128) (M 126) 0 (248 * M 36 3) 248)) 124 (u1 (thM M1 124) 21 (M 36 3 + 1))) 0 = M2 at *
      have st : ∀ b, b ≠ 0 → b ≠ 36 → (b < w ∨ w + 3 < b) → b ≠ 124 → b ≠ 128 → M2 b = M b := fun b y1 y2 y3 y4 y5 => by rw [gN b y4 y5]; exact bN b y1 y3 y2
      have st36 : ∀ k, k ≠ 3 → M2 36 k = M 36 k := fun k hk => by rw [gN 36 (by omega) (by omega), b36, u1_k _ _ hk]
      have e363 : M2 36 3 = M 36 3 + 1 := by rw [gN 36 (by omega) (by omega), b36, u1_s]
      have st0 : ∀ k, k ≠ 14 → M2 0 k = M 0 k := fun k hk => by rw [gN 0 (by omega) (by omega)]; exact b00 k hk
      have stw : ∀ b, (w ≤ b ∧ b ≤ w + 3) → M2 b = Mb b := fun b y => by rw [gN b (by omega) (by omega)]; exact bw b y
      obtain ⟨⟨s1, s2, s3, s4, s5, s6, s7, s8, s9, s10, s11, s12, s13, s14, s15⟩, s16, s17, s18, s19, -⟩ := h0
      obtain ⟨q1, q2', q3, q4, -, q6, q7, q8, q9, -, q11, -, q13⟩ := hR
      have hrg := q2'.1
      have h24 : M2 24 = M 24 := st 24 (by omega) (by omega) (by omega) (by omega) (by omega)
      have em : M2 td = M td := st td (by omega) (by omega) (by omega) (by omega) (by omega)
      have q5' := q5
      obtain ⟨-, -, -, ⟨a1, a2, a3, a4, a5, a6, -⟩, -⟩ := q5
      refine Inv.mk2 (x := 0) (td := td) (r := r) ⟨⟨s1, pr0.u s2 (fun k hk => st0 k (by omega)), s3, by rw [st0 2 (by omega)]; exact s4, by rw [st0 3 (by omega)]; exact s5, ?_, ?_, ?_, ?_, ?_, ?_, pr36.u s12 (fun k hk => st36 k (by omega)), ?_, ?_, ?_⟩, ?_, ⟨pr124.u s17.1 (fun k hk => g4 k (by omega) (by omega) (by omega) (by omega)), ?_⟩, ?_, ?_, Or.inr ⟨rg, ?_⟩⟩ (by rw [gN 0 (by omega) (by omega)]; exact b014) g41 g42 (by omega) (by omega) (by omega)
      · unfold shR at *; simp (disch := omega) only [st]; exact s6
      · unfold shR at *; simp (disch := omega) only [st]; exact s7
      · unfold shW mW zoW at *; simp (disch := omega) only [st]; exact s8
      · unfold shW mW zoW at *; simp (disch := omega) only [st]; exact s9
      · unfold shW mW zoW at *; simp (disch := omega) only [st]; exact s10
      · intro w' y0 y1 y2
        by_cases e : w' = w
        · subst e
          unfold shW mW zoW at *
          rw [stw w' (by omega), stw (w' + 1) (by omega), stw (w' + 2) (by omega), stw (w' + 3) (by omega), f1, f2, f3]
          exact ⟨bm, s10.2⟩
        · have := s11 w' y0 y1 y2
          unfold shW mW zoW at *
          simp (disch := omega) only [st]
          exact this
      · simp (disch := omega) only [st]; exact s13
      · unfold rot at *; simp (disch := omega) only [st]; exact s14
      · simp (disch := omega) only [st]; exact s15
      · unfold cSc shW mW zoW chI at *; simp (disch := omega) only [st]; exact s16
      · simp (disch := omega) only [st]; exact s17.2
      · unfold cTp at *; rw [g4 6 (by omega) (by omega) (by omega) (by omega), st0 1 (by omega)]; simp (disch := omega) only [st]; exact s18
      · rw [g4 13 (by omega) (by omega) (by omega) (by omega), st0 15 (by omega)]; exact s19
      · refine ⟨by rw [g4 3 (by omega) (by omega) (by omega) (by omega)]; exact q1, q2', by simp (disch := omega) only [st]; exact q3, ?_, ?_, ?_, ?_, ?_, ?_, ?_, ?_, ?_, cFi.cg2 (fun b hb => st b (by omega) (by omega) (by omega) (by omega) (by omega)) s3 q13⟩
        · simp (disch := omega) only [st]; exact q4
        · rw [h24, em]
          exact wR.mv q5' (by rw [h24]) (by rw [h24]) (by rw [h24]) (by rw [h24]) (st _ (by omega) (by omega) (by omega) (by omega) (by omega)) (st _ (by omega) (by omega) (by omega) (by omega) (by omega)) (st _ (by omega) (by omega) (by omega) (by omega) (by omega))
        · unfold wR at *; simp (disch := omega) only [st]; exact q6
        · unfold cTd at *; simp (disch := omega) only [st]; exact q7
        · unfold cGs at *; simp (disch := omega) only [st]; exact q8
        · unfold cSe at *; simp (disch := omega) only [st]; exact q9
        · unfold cW at *; simp (disch := omega) only [st]; exact q10
        · rw [g4 20 (by omega) (by omega) (by omega) (by omega), st36 1 (by omega), h24, em]
          refine ⟨q11.1, q11.2.1, q11.2.2.1, fun i i0 i1 => ?_⟩
          have hx := q11.2.2.2 i i0 i1
          have hri := s14.2.2 i i0 (by have := q11.2.2.1; omega)
          have hb : 39 ≤ M 37 i ∧ M 37 i ≤ 83 := by omega
          clear hri
          rw [st 37 (by omega) (by omega) (by omega) (by omega) (by omega)]
          unfold wR cW at *
          simp (disch := omega) only [st]
          exact hx
        · rw [g421, e363, h24, em]
          refine ⟨rfl, by omega, by omega, fun i i0 i1 => ?_⟩
          by_cases e : i = M 36 3
          · subst e
            rw [← hw]
            refine ⟨wR.mv (M := M) (w := 24) ?_ ?_ ?_ ?_ ?_ ?_ ?_ ?_, cW.mv (M := M) (w := 24) q10 a6 a1 a2 a3 a4 ?_ ?_ ?_ ?_ ?_ (fun k k0' k1' => ?_)⟩
            · exact q5'
            · rw [stw w (by omega)]; exact b0
            · rw [stw w (by omega)]; exact b1
            · rw [stw w (by omega)]; exact b2
            · rw [stw w (by omega)]; exact b6
            · rw [stw (w + 1) (by omega)]; exact f1
            · rw [stw (w + 2) (by omega)]; exact f2
            · rw [stw (w + 3) (by omega)]; exact f3
            · rw [stw w (by omega)]; exact b6
            · rw [stw w (by omega)]; exact b7
            · rw [stw (w + 1) (by omega)]; exact f1
            · rw [stw (w + 2) (by omega)]; exact f2
            · rw [stw (w + 3) (by omega)]; exact f3
            · rw [g128]; unfold cp1; rw [if_pos (by omega)]; congr 1; omega
          · obtain ⟨o1, o2⟩ := q12.2.2.2 i i0 (by omega)
            have k0 := st (87 + 4 * i) (by omega) (by omega) (by omega) (by omega) (by omega)
            have k1 := st (87 + 4 * i + 1) (by omega) (by omega) (by omega) (by omega) (by omega)
            have k2 := st (87 + 4 * i + 2) (by omega) (by omega) (by omega) (by omega) (by omega)
            have k3 := st (87 + 4 * i + 3) (by omega) (by omega) (by omega) (by omega) (by omega)
            refine ⟨wR.mv o1 (by rw [k0]) (by rw [k0]) (by rw [k0]) (by rw [k0]) k1 k2 k3, cW.mv o2 a6 a1 a2 a3 a4 (by rw [k0]) (by rw [k0]) k1 k2 k3 (fun k k0' k1' => ?_)⟩
            rw [g128]; unfold cp1; rw [if_neg (by omega)]
  · unfold M_X9_keep M_X11_keep
    refine Both.go h0 (-1) 1 (by omega) (by omega) (by omega) ?_ (fun M2 h2 f => ?_)
    · repeat' (with_reducible first | refine k_gf (by first | assumption | omega) (by first | assumption | ((try simp (disch := omega) only [sr_s, sr_a, sr_sr, u1_s, u1_k, p4]); exact rfl)) ?_ | refine k_gr (by first | assumption | omega) (by first | assumption | ((try simp (disch := omega) only [sr_s, sr_a, sr_sr, u1_s, u1_k, p4]); exact rfl)) (by omega) ?_ | refine k_ald (by first | assumption | omega) (by first | assumption | exact rfl) (by omega) (by omega) (by omega) (by first | assumption | ((try simp (disch := omega) only [sr_s, sr_a, sr_sr, u1_s, u1_k, p4]); exact rfl)) ?_ | refine k_ifT (by first | (simp (disch := omega) only [w32_id]; first | done | omega) | omega) ?_ | refine k_ifF (by first | (simp (disch := omega) only [w32_id]; first | done | omega) | omega) ?_ | refine k_pf (by first | assumption | omega) (by (try simp (disch := omega) only [sr_s, sr_a, sr_sr, u1_u1, p4]); exact rfl) ?_ | refine k_ast (by first | assumption | omega) (by first | assumption | exact rfl) (by omega) (by omega) (by omega) (by (try simp (disch := omega) only [sr_s, sr_a, sr_sr, u1_u1, p4]); exact rfl) ?_ | refine k_irm (by omega) (by omega) (by omega) (by omega) ?_ | refine k_idv (by omega) (by omega) (by omega) (by omega) ?_ | refine k_tk (by first | assumption | omega) ?_ | refine k_rp (by omega) ?_ | refine k_aldR (by first | assumption | omega) (by first | assumption | exact rfl) (by omega) (by omega) (by omega) (by first | assumption | ((try simp (disch := omega) only [sr_s, sr_a, sr_sr, u1_s, u1_k, p4]); exact rfl)) (by omega) ?_ | refine k_astR (by first | assumption | omega) (by first | assumption | exact rfl) (by omega) (by omega) (by omega) (by first | assumption | omega) (by (try simp (disch := omega) only [sr_s, sr_a, sr_sr, u1_u1, p4]); exact rfl) ?_ | refine k_pz (by first | assumption | omega) (by omega) (by (try simp (disch := omega) only [sr_s, sr_a, sr_sr, u1_u1, p4]); exact rfl) ?_ | refine k_alen (by first | assumption | omega) (by first | assumption | exact rfl) ?_ | refine k_cpy (by first | assumption | omega) (by first | assumption | omega) (by first | assumption | exact rfl) (by first | assumption | exact rfl) (by omega) (by omega) (by omega) (by omega) (by omega) (by omega) (by omega) (by omega) (by (try simp (disch := omega) only [sr_s, sr_a, sr_sr, u1_u1, p4]); exact rfl) ?_ | refine k_if (by (try simp (disch := omega) only [w32_id]); exact Iff.rfl) (fun c => ?_) (fun c => ?_))
      exact e_ref hG (cQ.refl h0.2.1)
    · rcases h2.2.2.2.2.2 with hn | ⟨rg, hR⟩
      · have n3 : M2 124 3 = -1 := hn.1
        repeat' (with_reducible first | refine k_gf (by first | assumption | omega) (by first | assumption | ((try simp (disch := omega) only [sr_s, sr_a, sr_sr, u1_s, u1_k, n3]); exact rfl)) ?_ | refine k_gr (by first | assumption | omega) (by first | assumption | ((try simp (disch := omega) only [sr_s, sr_a, sr_sr, u1_s, u1_k, n3]); exact rfl)) (by omega) ?_ | refine k_ald (by first | assumption | omega) (by first | assumption | exact rfl) (by omega) (by omega) (by omega) (by first | assumption | ((try simp (disch := omega) only [sr_s, sr_a, sr_sr, u1_s, u1_k, n3]); exact rfl)) ?_ | refine k_ifT (by first | (simp (disch := omega) only [w32_id]; first | done | omega) | omega) ?_ | refine k_ifF (by first | (simp (disch := omega) only [w32_id]; first | done | omega) | omega) ?_ | refine k_pf (by first | assumption | omega) (by (try simp (disch := omega) only [sr_s, sr_a, sr_sr, u1_u1, n3]); exact rfl) ?_ | refine k_ast (by first | assumption | omega) (by first | assumption | exact rfl) (by omega) (by omega) (by omega) (by (try simp (disch := omega) only [sr_s, sr_a, sr_sr, u1_u1, n3]); exact rfl) ?_ | refine k_irm (by omega) (by omega) (by omega) (by omega) ?_ | refine k_idv (by omega) (by omega) (by omega) (by omega) ?_ | refine k_tk (by first | assumption | omega) ?_ | refine k_rp (by omega) ?_ | refine k_aldR (by first | assumption | omega) (by first | assumption | exact rfl) (by omega) (by omega) (by omega) (by first | assumption | ((try simp (disch := omega) only [sr_s, sr_a, sr_sr, u1_s, u1_k, n3]); exact rfl)) (by omega) ?_ | refine k_astR (by first | assumption | omega) (by first | assumption | exact rfl) (by omega) (by omega) (by omega) (by first | assumption | omega) (by (try simp (disch := omega) only [sr_s, sr_a, sr_sr, u1_u1, n3]); exact rfl) ?_ | refine k_pz (by first | assumption | omega) (by omega) (by (try simp (disch := omega) only [sr_s, sr_a, sr_sr, u1_u1, n3]); exact rfl) ?_ | refine k_alen (by first | assumption | omega) (by first | assumption | exact rfl) ?_ | refine k_cpy (by first | assumption | omega) (by first | assumption | omega) (by first | assumption | exact rfl) (by first | assumption | exact rfl) (by omega) (by omega) (by omega) (by omega) (by omega) (by omega) (by omega) (by omega) (by (try simp (disch := omega) only [sr_s, sr_a, sr_sr, u1_u1, n3]); exact rfl) ?_ | refine k_if (by (try simp (disch := omega) only [w32_id]); exact Iff.rfl) (fun c => ?_) (fun c => ?_))
        exact e_rref hG (rQ.refl h2.2.2.1.2)
      · have := hR.cl.2.2.2.2.1.2.2.2.2.1
        rw [f 24 (by omega)] at this
        omega
/-- so many rounds of the reference, from rows that hold a world -/
theorem X11_go_raw {wd hi tw s0 : Int} {co er ce : Int → Int} (hG : gAll G) (hp124 : pr124 (N 124)) (hmp : ∀ i, 0 ≤ N 129 i ∧ N 129 i < 6) (hB : rB N G rg) (h4 : N rg 0 = wd) (h5 : N rg 1 = hi) (h7 : N rg 3 = tw) (hwf : wfW wd hi tw 6 co er s0 ce) (hc : cW M wd hi tw w 126 0) (e126 : N 126 = M 126) (ew1 : M (w + 1) = ce) (ew2 : M (w + 2) = co) (ew3 : M (w + 3) = er) (ew6 : M w 6 = s0) (n0 : 0 ≤ n) (n1 : n ≤ 400) : Ok ((M_X11_starts (N, G) 124).bind fun h => M_X11_steps h 124 n) (fun h => ∃ M1, h = (M1, G) ∧ rQ N M1 ∧ rSt M1 M1 wd hi tw 6 co er s0 ce n.toNat 0) := by
  have hrg : 146 ≤ rg := hB.2.2.1
  obtain ⟨c1, c2, c3, c4, c5, c6⟩ := hc
  rw [ew1] at c1
  rw [ew2] at c2
  rw [ew3] at c3
  rw [ew6] at c5
  rw [← e126] at c1 c2 c3 c5 c6
  have hwf' := hwf
  obtain ⟨a1, a2, b1, b2, t1, t6, -⟩ := hwf
  refine k_eq (X11_starts_ok hG hp124) ?_
  have e124 : ∀ k, k ≠ 26 → staM N 124 k = N 124 k := fun k hk => by unfold staM; rw [sr_s, u1_k _ _ hk]
  have e : ∀ a, a ≠ 124 → a ≠ 129 → a ≠ 130 → a ≠ 131 → staM N a = N a := fun a x1 x2 x3 x4 => by unfold staM; simp (disch := first | assumption | omega) only [sr_s, sr_a, sr_sr]
  have e130 : staM N 130 = cp1 (N 130) (N 126) 216 0 6 := by unfold staM; simp (disch := first | assumption | omega) only [sr_s, sr_a, sr_sr]
  have e131 : staM N 131 = cp1 (N 131) (N 126) 222 0 24 := by unfold staM; simp (disch := first | assumption | omega) only [sr_s, sr_a, sr_sr]
  have e129 : staM N 129 = cp1 (N 129) (N 126) 0 0 216 := by unfold staM; simp (disch := first | assumption | omega) only [sr_s, sr_a, sr_sr]
  have hC : rC (staM N) G rg wd hi tw co er := by
    refine ⟨hG, pr124.u hp124 (fun k hk => e124 k (by omega)), hB.cg (e124 3 (by omega)) (e rg (by omega) (by omega) (by omega) (by omega)), ?_, ?_, ?_, fun t t0 t1 => ?_, fun i i0 i1 => ?_⟩
    · rw [e rg (by omega) (by omega) (by omega) (by omega)]; exact h4
    · rw [e rg (by omega) (by omega) (by omega) (by omega)]; exact h5
    · rw [e rg (by omega) (by omega) (by omega) (by omega)]; exact h7
    · rw [e130]; unfold cp1; rw [if_pos (by omega)]
      have := c2 t t0 t1
      rw [show (0 : Int) + 216 + t = 216 + (t - 0) by omega] at this
      exact this
    · rw [e131]; unfold cp1; rw [if_pos (by omega)]
      have := c3 i i0 i1
      rw [show (0 : Int) + 222 + i = 222 + (i - 0) by omega] at this
      exact this
  have hS : rSt (staM N) (staM N) wd hi tw 6 co er s0 ce 0 0 := by
    refine ⟨fun _ _ _ _ => rfl, fun _ _ => rfl, ?_, fun i => ?_, fun k t q hk t0 t1 q0 q1 => ?_, fun k t hk t0 t1 => by omega⟩
    · rw [show (0 * rk er tw.toNat + rk er (0 : Int).toNat) = 0 by rw [Nat.zero_mul]; rfl]
      unfold staM
      rw [sr_s, u1_s]
      exact c5
    · rw [e129]; unfold cp1
      split
      · have := c6 i (by omega) (by omega)
        rw [show (0 : Int) + (i - 0) = 0 + i by omega]; exact this
      · exact hmp i
    · have hk : k = 0 := by omega
      subst hk
      have hm := mul_b a1 a2 b1 b2
      rw [e129]; unfold cp1
      rw [if_pos (by omega)]
      have := c1 t (inn wd q) t0 t1 (inn_in a1 a2 b1 b2 q0 q1)
      rw [idx_inn a1 a2 q0] at this
      show _ = ce (36 * t + inn wd q)
      rw [← this]
      congr 1
      omega
  refine (X11_steps_ok hC hwf' n0 n1 hS).mono ?_
  rintro ⟨M1, G1⟩ ⟨e1, h1⟩
  dsimp only at e1 h1
  subst e1
  refine ⟨M1, rfl, ⟨fun a ha => ?_, fun k k0 k1 k2 k3 _ _ => ?_, h1.2.2.2.1⟩, h1.self⟩
  · rw [h1.1 a (by omega) (by omega) (by omega)]; exact e a (by omega) (by omega) (by omega) (by omega)
  · rw [h1.2.1 k k3]; exact e124 k k3
end AG
