/-! round: its rest -/
section R6
variable {M0 M M1 : Int → Int → Int} {G : GG} {td r rg w mk : Int} {k k1 k2 : Nat}
theorem X9_rb_loop (h0 : Inv0 M0 G td r) (hR : isR M0 G td rg) (hns : ∀ t, 0 ≤ t → t < M0 24 2 → M0 27 (4 * t) ≠ 9) {a b : Nat} (hr : isRho (bhM M0 24) a b) (h : rdS M0 M 0 (b - a)) : Ok (M_X9_roundBegin_w48 FU (M, G) 0 0) (fun z => ∃ M1, z = ((M1, G), if a ≤ 400 then (a : Int) else 401) ∧ cQ M0 M1) := by
  have hG := h0.1.1
  have hab := hr.1
  have st : ∀ i j, bhM M0 24 i = bhM M0 24 j → bhM M0 24 (i + 1) = bhM M0 24 (j + 1) := fun i j e => bh_next hns e
  unfold M_X9_roundBegin_w48
  have hlo : Ok (wh (S := (Hp × Int)) (T := (Hp ⊕ (Hp × Int))) (fun a => M_X9_roundBegin_b48 a.1 0 a.2) FU ((M, G), 0)) (lo (fun h => ∃ M1, h = (M1, G) ∧ cQ M0 M1 ∧ ¬ a ≤ 400) (fun z => ∃ M1, z = ((M1, G), if a ≤ 400 then (a : Int) else 401) ∧ cQ M0 M1)) := by
    refine wh_for (fun i s => ∃ M1, s = ((M1, G), (i : Int)) ∧ rdS M0 M1 i (i + (b - a)) ∧ i ≤ a) _ 401 (by omega) ⟨M, rfl, by rw [Nat.zero_add]; exact h, by omega⟩ ?_ ?_
    · rintro i _ hi ⟨M1, rfl, hS, hia⟩
      have hp0 : pr0 (M1 0) := (h0.cl hS.1).1.2.1
      have p5 := pr0.p5 hp0
      have p6 := pr0.p6 hp0
      have p13 := pr0.p13 hp0
      have k0 := gk_0 hG
      have hlk := rd_looks h0 hR hS
      unfold M_X9_roundBegin_b48
      dsimp only
      by_cases y : alB (bhM M0 24 (i + (b - a))) (bhM M0 24 i) (36 * M0 24 2).toNat = true
      · rw [if_pos y] at hlk
        repeat' (with_reducible first | refine k_gf (by first | assumption | omega) (by first | assumption | ((try simp (disch := omega) only [sr_s, sr_a, sr_sr, u1_s, u1_k, p5, p6, p13]); exact rfl)) ?_ | refine k_gr (by first | assumption | omega) (by first | assumption | ((try simp (disch := omega) only [sr_s, sr_a, sr_sr, u1_s, u1_k, p5, p6, p13]); exact rfl)) (by omega) ?_ | refine k_ald (by first | assumption | omega) (by first | assumption | exact rfl) (by omega) (by omega) (by omega) (by first | assumption | ((try simp (disch := omega) only [sr_s, sr_a, sr_sr, u1_s, u1_k, p5, p6, p13]); exact rfl)) ?_ | refine k_eq (hlk) ?_ | refine k_ifT (by first | (simp (disch := omega) only [w32_id]; first | done | omega) | omega) ?_ | refine k_ifF (by first | (simp (disch := omega) only [w32_id]; first | done | omega) | omega) ?_ | refine k_pf (by first | assumption | omega) (by (try simp (disch := omega) only [sr_s, sr_a, sr_sr, u1_u1, p5, p6, p13]); exact rfl) ?_ | refine k_ast (by first | assumption | omega) (by first | assumption | exact rfl) (by omega) (by omega) (by omega) (by (try simp (disch := omega) only [sr_s, sr_a, sr_sr, u1_u1, p5, p6, p13]); exact rfl) ?_ | refine k_irm (by omega) (by omega) (by omega) (by omega) ?_ | refine k_idv (by omega) (by omega) (by omega) (by omega) ?_ | refine k_tk (by first | assumption | omega) ?_ | refine k_rp (by omega) ?_ | refine k_aldR (by first | assumption | omega) (by first | assumption | exact rfl) (by omega) (by omega) (by omega) (by first | assumption | ((try simp (disch := omega) only [sr_s, sr_a, sr_sr, u1_s, u1_k, p5, p6, p13]); exact rfl)) (by omega) ?_ | refine k_astR (by first | assumption | omega) (by first | assumption | exact rfl) (by omega) (by omega) (by omega) (by first | assumption | omega) (by (try simp (disch := omega) only [sr_s, sr_a, sr_sr, u1_u1, p5, p6, p13]); exact rfl) ?_ | refine k_pz (by first | assumption | omega) (by omega) (by (try simp (disch := omega) only [sr_s, sr_a, sr_sr, u1_u1, p5, p6, p13]); exact rfl) ?_ | refine k_alen (by first | assumption | omega) (by first | assumption | exact rfl) ?_ | refine k_cpy (by first | assumption | omega) (by first | assumption | omega) (by first | assumption | exact rfl) (by first | assumption | exact rfl) (by omega) (by omega) (by omega) (by omega) (by omega) (by omega) (by omega) (by omega) (by (try simp (disch := omega) only [sr_s, sr_a, sr_sr, u1_u1, p5, p6, p13]); exact rfl) ?_)
        have hy := bh_alB y
        have : i = a := by
          by_cases c : i < a
          · exact absurd hy.symm (rho_lo st hr c (by omega))
          · omega
        subst this
        exact Ok.ret ⟨M1, by rw [if_pos (by omega)], hS.1⟩
      · rw [if_neg y] at hlk
        have hne : i ≠ a := fun z => by
          subst z
          refine y ((alB_iff _).2 (fun j _ => ?_))
          rw [show i + (b - i) = b by omega, hr.2.1]
        repeat' (with_reducible first | refine k_gf (by first | assumption | omega) (by first | assumption | ((try simp (disch := omega) only [sr_s, sr_a, sr_sr, u1_s, u1_k, p5, p6, p13]); exact rfl)) ?_ | refine k_gr (by first | assumption | omega) (by first | assumption | ((try simp (disch := omega) only [sr_s, sr_a, sr_sr, u1_s, u1_k, p5, p6, p13]); exact rfl)) (by omega) ?_ | refine k_ald (by first | assumption | omega) (by first | assumption | exact rfl) (by omega) (by omega) (by omega) (by first | assumption | ((try simp (disch := omega) only [sr_s, sr_a, sr_sr, u1_s, u1_k, p5, p6, p13]); exact rfl)) ?_ | refine k_eq (hlk) ?_ | refine k_ifT (by first | (simp (disch := omega) only [w32_id]; first | done | omega) | omega) ?_ | refine k_ifF (by first | (simp (disch := omega) only [w32_id]; first | done | omega) | omega) ?_ | refine k_pf (by first | assumption | omega) (by (try simp (disch := omega) only [sr_s, sr_a, sr_sr, u1_u1, p5, p6, p13]); exact rfl) ?_ | refine k_ast (by first | assumption | omega) (by first | assumption | exact rfl) (by omega) (by omega) (by omega) (by (try simp (disch := omega) only [sr_s, sr_a, sr_sr, u1_u1, p5, p6, p13]); exact rfl) ?_ | refine k_irm (by omega) (by omega) (by omega) (by omega) ?_ | refine k_idv (by omega) (by omega) (by omega) (by omega) ?_ | refine k_tk (by first | assumption | omega) ?_ | refine k_rp (by omega) ?_ | refine k_aldR (by first | assumption | omega) (by first | assumption | exact rfl) (by omega) (by omega) (by omega) (by first | assumption | ((try simp (disch := omega) only [sr_s, sr_a, sr_sr, u1_s, u1_k, p5, p6, p13]); exact rfl)) (by omega) ?_ | refine k_astR (by first | assumption | omega) (by first | assumption | exact rfl) (by omega) (by omega) (by omega) (by first | assumption | omega) (by (try simp (disch := omega) only [sr_s, sr_a, sr_sr, u1_u1, p5, p6, p13]); exact rfl) ?_ | refine k_pz (by first | assumption | omega) (by omega) (by (try simp (disch := omega) only [sr_s, sr_a, sr_sr, u1_u1, p5, p6, p13]); exact rfl) ?_ | refine k_alen (by first | assumption | omega) (by first | assumption | exact rfl) ?_ | refine k_cpy (by first | assumption | omega) (by first | assumption | omega) (by first | assumption | exact rfl) (by first | assumption | exact rfl) (by omega) (by omega) (by omega) (by omega) (by omega) (by omega) (by omega) (by omega) (by (try simp (disch := omega) only [sr_s, sr_a, sr_sr, u1_u1, p5, p6, p13]); exact rfl) ?_)
        refine Ok.bind (rd_go28 h0 hR hns hS) ?_
        rintro _ ⟨M2, rfl, hS2⟩
        have hp0 : pr0 (M2 0) := (h0.cl hS2.1).1.2.1
        have p5 := pr0.p5 hp0
        have p6 := pr0.p6 hp0
        have p13 := pr0.p13 hp0
        repeat' (with_reducible first | refine k_gf (by first | assumption | omega) (by first | assumption | ((try simp (disch := omega) only [sr_s, sr_a, sr_sr, u1_s, u1_k, p5, p6, p13]); exact rfl)) ?_ | refine k_gr (by first | assumption | omega) (by first | assumption | ((try simp (disch := omega) only [sr_s, sr_a, sr_sr, u1_s, u1_k, p5, p6, p13]); exact rfl)) (by omega) ?_ | refine k_ald (by first | assumption | omega) (by first | assumption | exact rfl) (by omega) (by omega) (by omega) (by first | assumption | ((try simp (disch := omega) only [sr_s, sr_a, sr_sr, u1_s, u1_k, p5, p6, p13]); exact rfl)) ?_ | refine k_ifT (by first | (simp (disch := omega) only [w32_id]; first | done | omega) | omega) ?_ | refine k_ifF (by first | (simp (disch := omega) only [w32_id]; first | done | omega) | omega) ?_ | refine k_pf (by first | assumption | omega) (by (try simp (disch := omega) only [sr_s, sr_a, sr_sr, u1_u1, p5, p6, p13]); exact rfl) ?_ | refine k_ast (by first | assumption | omega) (by first | assumption | exact rfl) (by omega) (by omega) (by omega) (by (try simp (disch := omega) only [sr_s, sr_a, sr_sr, u1_u1, p5, p6, p13]); exact rfl) ?_ | refine k_irm (by omega) (by omega) (by omega) (by omega) ?_ | refine k_idv (by omega) (by omega) (by omega) (by omega) ?_ | refine k_tk (by first | assumption | omega) ?_ | refine k_rp (by omega) ?_ | refine k_aldR (by first | assumption | omega) (by first | assumption | exact rfl) (by omega) (by omega) (by omega) (by first | assumption | ((try simp (disch := omega) only [sr_s, sr_a, sr_sr, u1_s, u1_k, p5, p6, p13]); exact rfl)) (by omega) ?_ | refine k_astR (by first | assumption | omega) (by first | assumption | exact rfl) (by omega) (by omega) (by omega) (by first | assumption | omega) (by (try simp (disch := omega) only [sr_s, sr_a, sr_sr, u1_u1, p5, p6, p13]); exact rfl) ?_ | refine k_pz (by first | assumption | omega) (by omega) (by (try simp (disch := omega) only [sr_s, sr_a, sr_sr, u1_u1, p5, p6, p13]); exact rfl) ?_ | refine k_alen (by first | assumption | omega) (by first | assumption | exact rfl) ?_ | refine k_cpy (by first | assumption | omega) (by first | assumption | omega) (by first | assumption | exact rfl) (by first | assumption | exact rfl) (by omega) (by omega) (by omega) (by omega) (by omega) (by omega) (by omega) (by omega) (by (try simp (disch := omega) only [sr_s, sr_a, sr_sr, u1_u1, p5, p6, p13]); exact rfl) ?_)
        refine Ok.bind (rd_go32 h0 hR hns hS2) ?_
        rintro _ ⟨M3, rfl, hS3⟩
        refine Ok.ret ⟨M3, rfl, ?_, by omega⟩
        rw [show i + 1 + (b - a) = i + (b - a) + 1 by omega]
        exact hS3
    · rintro _ ⟨M1, rfl, hS, hia⟩
      unfold M_X9_roundBegin_b48
      dsimp only
      refine k_ifT (by decide) (Ok.ret ⟨M1, rfl, hS.1, by omega⟩)
  refine Ok.bind hlo ?_
  intro z hz
  cases z with
  | inl h =>
    obtain ⟨M1, rfl, hc, hp⟩ := hz
    rw [exi_l]
    exact Ok.ret ⟨M1, by rw [if_neg hp], hc⟩
  | inr q =>
    rw [exi_r]
    exact Ok.ret hz
end R6
