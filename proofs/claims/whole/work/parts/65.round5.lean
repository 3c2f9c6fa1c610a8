/-! round: its length -/
section R5
variable {M0 M M1 : Int → Int → Int} {G : GG} {td r rg w mk : Int} {k k1 k2 : Nat}
theorem pw_512 {e : Nat} (h1 : 501 ≤ 2 ^ e) (h2 : 2 ^ e ≤ 1001) : 2 ^ e = 512 := by
  by_cases c : e ≤ 8
  · have := Nat.pow_le_pow_right (show 0 < 2 by decide) c
    have h8 : 2 ^ 8 = 256 := by decide
    omega
  · by_cases c2 : 10 ≤ e
    · have := Nat.pow_le_pow_right (show 0 < 2 by decide) c2
      have h8 : 2 ^ 10 = 1024 := by decide
      omega
    · have : e = 9 := by omega
      subst this
      decide
def rlP (M0 : Int → Int → Int) (L : Int) : Prop := (L = 0 ∧ ¬ ∃ a b, isRho (bhM M0 24) a b ∧ b ≤ 400) ∨ ∃ a b, isRho (bhM M0 24) a b ∧ L = (b : Int) - a ∧ b - a ≤ 1000
theorem X9_rl_loop (h0 : Inv0 M0 G td r) (hR : isR M0 G td rg) (hns : ∀ t, 0 ≤ t → t < M0 24 2 → M0 27 (4 * t) ≠ 9) (h : rdS M0 M 0 0) : Ok (M_X9_roundLength_w28 FU (M, G) 0 0 1 0) (fun z => ∃ M1 L, z = ((M1, G), L) ∧ cQ M0 M1 ∧ rlP M0 L) := by
  have hG := h0.1.1
  have st : ∀ i j, bhM M0 24 i = bhM M0 24 j → bhM M0 24 (i + 1) = bhM M0 24 (j + 1) := fun i j e => bh_next hns e
  unfold M_X9_roundLength_w28
  have hlo : Ok (wh (S := (Hp × Int × Int × Int)) (T := (Hp ⊕ (Hp × Int))) (fun a => M_X9_roundLength_b28 a.1 0 a.2.1 a.2.2.1 a.2.2.2) FU ((M, G), 0, 1, 0)) (lo (fun h => ∃ M1, h = (M1, G) ∧ cQ M0 M1 ∧ rlP M0 0) (fun z => ∃ M1 L, z = ((M1, G), L) ∧ cQ M0 M1 ∧ rlP M0 L)) := by
    refine wh_for (fun i s => ∃ M1 e l, s = ((M1, G), ((l : Nat) : Int), ((2 ^ e : Nat) : Int), (i : Int)) ∧ rdS M0 M1 (2 ^ e - 1) (2 ^ e - 1 + l) ∧ i + 1 = 2 ^ e + l ∧ l < 2 ^ e ∧ ∀ k, 0 < k → k ≤ l → bhM M0 24 (2 ^ e - 1) ≠ bhM M0 24 (2 ^ e - 1 + k)) _ 1000 (by omega) ⟨M, 0, 0, rfl, h, rfl, by decide, fun k k0 k1 => by omega⟩ ?_ ?_
    · rintro i _ hi ⟨M1, e, l, rfl, hS, hil, hl, hno⟩
      have hp0 : pr0 (M1 0) := (h0.cl hS.1).1.2.1
      have p5 := pr0.p5 hp0
      have p6 := pr0.p6 hp0
      have p13 := pr0.p13 hp0
      have k0 := gk_0 hG
      have hpe : 0 < 2 ^ e := Nat.pos_of_ne_zero (by omega)
      unfold M_X9_roundLength_b28 M_X9_roundLength_p87
      dsimp only
      refine k_ifT (by rw [w32_id (by omega) (by omega)]; omega) ?_
      repeat' (with_reducible first | refine k_gf (by first | assumption | omega) (by first | assumption | ((try simp (disch := omega) only [sr_s, sr_a, sr_sr, u1_s, u1_k, p5, p6, p13]); exact rfl)) ?_ | refine k_gr (by first | assumption | omega) (by first | assumption | ((try simp (disch := omega) only [sr_s, sr_a, sr_sr, u1_s, u1_k, p5, p6, p13]); exact rfl)) (by omega) ?_ | refine k_ald (by first | assumption | omega) (by first | assumption | exact rfl) (by omega) (by omega) (by omega) (by first | assumption | ((try simp (disch := omega) only [sr_s, sr_a, sr_sr, u1_s, u1_k, p5, p6, p13]); exact rfl)) ?_ | refine k_ifT (by first | (simp (disch := omega) only [w32_id]; first | done | omega) | omega) ?_ | refine k_ifF (by first | (simp (disch := omega) only [w32_id]; first | done | omega) | omega) ?_ | refine k_pf (by first | assumption | omega) (by (try simp (disch := omega) only [sr_s, sr_a, sr_sr, u1_u1, p5, p6, p13]); exact rfl) ?_ | refine k_ast (by first | assumption | omega) (by first | assumption | exact rfl) (by omega) (by omega) (by omega) (by (try simp (disch := omega) only [sr_s, sr_a, sr_sr, u1_u1, p5, p6, p13]); exact rfl) ?_ | refine k_irm (by omega) (by omega) (by omega) (by omega) ?_ | refine k_idv (by omega) (by omega) (by omega) (by omega) ?_ | refine k_tk (by first | assumption | omega) ?_ | refine k_rp (by omega) ?_ | refine k_aldR (by first | assumption | omega) (by first | assumption | exact rfl) (by omega) (by omega) (by omega) (by first | assumption | ((try simp (disch := omega) only [sr_s, sr_a, sr_sr, u1_s, u1_k, p5, p6, p13]); exact rfl)) (by omega) ?_ | refine k_astR (by first | assumption | omega) (by first | assumption | exact rfl) (by omega) (by omega) (by omega) (by first | assumption | omega) (by (try simp (disch := omega) only [sr_s, sr_a, sr_sr, u1_u1, p5, p6, p13]); exact rfl) ?_ | refine k_pz (by first | assumption | omega) (by omega) (by (try simp (disch := omega) only [sr_s, sr_a, sr_sr, u1_u1, p5, p6, p13]); exact rfl) ?_ | refine k_alen (by first | assumption | omega) (by first | assumption | exact rfl) ?_ | refine k_cpy (by first | assumption | omega) (by first | assumption | omega) (by first | assumption | exact rfl) (by first | assumption | exact rfl) (by omega) (by omega) (by omega) (by omega) (by omega) (by omega) (by omega) (by omega) (by (try simp (disch := omega) only [sr_s, sr_a, sr_sr, u1_u1, p5, p6, p13]); exact rfl) ?_)
      refine Ok.bind (rd_go32 h0 hR hns hS) ?_
      rintro _ ⟨M2, rfl, hS2⟩
      have hp0 : pr0 (M2 0) := (h0.cl hS2.1).1.2.1
      have p5 := pr0.p5 hp0
      have p6 := pr0.p6 hp0
      have p13 := pr0.p13 hp0
      have hlk := rd_looks h0 hR hS2
      by_cases y : alB (bhM M0 24 (2 ^ e - 1 + l + 1)) (bhM M0 24 (2 ^ e - 1)) (36 * M0 24 2).toNat = true
      · rw [if_pos y] at hlk
        repeat' (with_reducible first | refine k_gf (by first | assumption | omega) (by first | assumption | ((try simp (disch := omega) only [sr_s, sr_a, sr_sr, u1_s, u1_k, p5, p6, p13]); exact rfl)) ?_ | refine k_gr (by first | assumption | omega) (by first | assumption | ((try simp (disch := omega) only [sr_s, sr_a, sr_sr, u1_s, u1_k, p5, p6, p13]); exact rfl)) (by omega) ?_ | refine k_ald (by first | assumption | omega) (by first | assumption | exact rfl) (by omega) (by omega) (by omega) (by first | assumption | ((try simp (disch := omega) only [sr_s, sr_a, sr_sr, u1_s, u1_k, p5, p6, p13]); exact rfl)) ?_ | refine k_eq (hlk) ?_ | refine k_ifT (by first | (simp (disch := omega) only [w32_id]; first | done | omega) | omega) ?_ | refine k_ifF (by first | (simp (disch := omega) only [w32_id]; first | done | omega) | omega) ?_ | refine k_pf (by first | assumption | omega) (by (try simp (disch := omega) only [sr_s, sr_a, sr_sr, u1_u1, p5, p6, p13]); exact rfl) ?_ | refine k_ast (by first | assumption | omega) (by first | assumption | exact rfl) (by omega) (by omega) (by omega) (by (try simp (disch := omega) only [sr_s, sr_a, sr_sr, u1_u1, p5, p6, p13]); exact rfl) ?_ | refine k_irm (by omega) (by omega) (by omega) (by omega) ?_ | refine k_idv (by omega) (by omega) (by omega) (by omega) ?_ | refine k_tk (by first | assumption | omega) ?_ | refine k_rp (by omega) ?_ | refine k_aldR (by first | assumption | omega) (by first | assumption | exact rfl) (by omega) (by omega) (by omega) (by first | assumption | ((try simp (disch := omega) only [sr_s, sr_a, sr_sr, u1_s, u1_k, p5, p6, p13]); exact rfl)) (by omega) ?_ | refine k_astR (by first | assumption | omega) (by first | assumption | exact rfl) (by omega) (by omega) (by omega) (by first | assumption | omega) (by (try simp (disch := omega) only [sr_s, sr_a, sr_sr, u1_u1, p5, p6, p13]); exact rfl) ?_ | refine k_pz (by first | assumption | omega) (by omega) (by (try simp (disch := omega) only [sr_s, sr_a, sr_sr, u1_u1, p5, p6, p13]); exact rfl) ?_ | refine k_alen (by first | assumption | omega) (by first | assumption | exact rfl) ?_ | refine k_cpy (by first | assumption | omega) (by first | assumption | omega) (by first | assumption | exact rfl) (by first | assumption | exact rfl) (by omega) (by omega) (by omega) (by omega) (by omega) (by omega) (by omega) (by omega) (by (try simp (disch := omega) only [sr_s, sr_a, sr_sr, u1_u1, p5, p6, p13]); exact rfl) ?_)
        refine Ok.ret ?_
        have hy := bh_alB y
        refine ⟨M2, (l : Int) + 1, rfl, hS2.1, Or.inr ?_⟩
        obtain ⟨a, b, hr, -⟩ := rho_ex (s := bhM M0 24) (2 ^ e - 1 + l + 1) ⟨2 ^ e - 1, 2 ^ e - 1 + l + 1, by omega, by omega, hy.symm⟩
        have := rho_len st hr (p := 2 ^ e - 1) (d := l + 1) (by omega) (by rw [← Nat.add_assoc]; exact hy.symm) (fun k k0 k1 => hno k k0 (by omega))
        have hab := hr.1
        exact ⟨a, b, hr, by omega, by omega⟩
      · rw [if_neg y] at hlk
        have hny : bhM M0 24 (2 ^ e - 1) ≠ bhM M0 24 (2 ^ e - 1 + (l + 1)) := fun z => y ((alB_iff _).2 (fun j _ => by rw [z]; rfl))
        repeat' (with_reducible first | refine k_gf (by first | assumption | omega) (by first | assumption | ((try simp (disch := omega) only [sr_s, sr_a, sr_sr, u1_s, u1_k, p5, p6, p13]); exact rfl)) ?_ | refine k_gr (by first | assumption | omega) (by first | assumption | ((try simp (disch := omega) only [sr_s, sr_a, sr_sr, u1_s, u1_k, p5, p6, p13]); exact rfl)) (by omega) ?_ | refine k_ald (by first | assumption | omega) (by first | assumption | exact rfl) (by omega) (by omega) (by omega) (by first | assumption | ((try simp (disch := omega) only [sr_s, sr_a, sr_sr, u1_s, u1_k, p5, p6, p13]); exact rfl)) ?_ | refine k_eq (hlk) ?_ | refine k_ifT (by first | (simp (disch := omega) only [w32_id]; first | done | omega) | omega) ?_ | refine k_ifF (by first | (simp (disch := omega) only [w32_id]; first | done | omega) | omega) ?_ | refine k_pf (by first | assumption | omega) (by (try simp (disch := omega) only [sr_s, sr_a, sr_sr, u1_u1, p5, p6, p13]); exact rfl) ?_ | refine k_ast (by first | assumption | omega) (by first | assumption | exact rfl) (by omega) (by omega) (by omega) (by (try simp (disch := omega) only [sr_s, sr_a, sr_sr, u1_u1, p5, p6, p13]); exact rfl) ?_ | refine k_irm (by omega) (by omega) (by omega) (by omega) ?_ | refine k_idv (by omega) (by omega) (by omega) (by omega) ?_ | refine k_tk (by first | assumption | omega) ?_ | refine k_rp (by omega) ?_ | refine k_aldR (by first | assumption | omega) (by first | assumption | exact rfl) (by omega) (by omega) (by omega) (by first | assumption | ((try simp (disch := omega) only [sr_s, sr_a, sr_sr, u1_s, u1_k, p5, p6, p13]); exact rfl)) (by omega) ?_ | refine k_astR (by first | assumption | omega) (by first | assumption | exact rfl) (by omega) (by omega) (by omega) (by first | assumption | omega) (by (try simp (disch := omega) only [sr_s, sr_a, sr_sr, u1_u1, p5, p6, p13]); exact rfl) ?_ | refine k_pz (by first | assumption | omega) (by omega) (by (try simp (disch := omega) only [sr_s, sr_a, sr_sr, u1_u1, p5, p6, p13]); exact rfl) ?_ | refine k_alen (by first | assumption | omega) (by first | assumption | exact rfl) ?_ | refine k_cpy (by first | assumption | omega) (by first | assumption | omega) (by first | assumption | exact rfl) (by first | assumption | exact rfl) (by omega) (by omega) (by omega) (by omega) (by omega) (by omega) (by omega) (by omega) (by (try simp (disch := omega) only [sr_s, sr_a, sr_sr, u1_u1, p5, p6, p13]); exact rfl) ?_)
        by_cases y2 : l + 1 = 2 ^ e
        · refine k_ifT (by rw [w32_id (by omega) (by omega), w32_id (by omega) (by omega)]; omega) ?_
          repeat' (with_reducible first | refine k_gf (by first | assumption | omega) (by first | assumption | ((try simp (disch := omega) only [sr_s, sr_a, sr_sr, u1_s, u1_k, p5, p6, p13]); exact rfl)) ?_ | refine k_gr (by first | assumption | omega) (by first | assumption | ((try simp (disch := omega) only [sr_s, sr_a, sr_sr, u1_s, u1_k, p5, p6, p13]); exact rfl)) (by omega) ?_ | refine k_ald (by first | assumption | omega) (by first | assumption | exact rfl) (by omega) (by omega) (by omega) (by first | assumption | ((try simp (disch := omega) only [sr_s, sr_a, sr_sr, u1_s, u1_k, p5, p6, p13]); exact rfl)) ?_ | refine k_ifT (by first | (simp (disch := omega) only [w32_id]; first | done | omega) | omega) ?_ | refine k_ifF (by first | (simp (disch := omega) only [w32_id]; first | done | omega) | omega) ?_ | refine k_pf (by first | assumption | omega) (by (try simp (disch := omega) only [sr_s, sr_a, sr_sr, u1_u1, p5, p6, p13]); exact rfl) ?_ | refine k_ast (by first | assumption | omega) (by first | assumption | exact rfl) (by omega) (by omega) (by omega) (by (try simp (disch := omega) only [sr_s, sr_a, sr_sr, u1_u1, p5, p6, p13]); exact rfl) ?_ | refine k_irm (by omega) (by omega) (by omega) (by omega) ?_ | refine k_idv (by omega) (by omega) (by omega) (by omega) ?_ | refine k_tk (by first | assumption | omega) ?_ | refine k_rp (by omega) ?_ | refine k_aldR (by first | assumption | omega) (by first | assumption | exact rfl) (by omega) (by omega) (by omega) (by first | assumption | ((try simp (disch := omega) only [sr_s, sr_a, sr_sr, u1_s, u1_k, p5, p6, p13]); exact rfl)) (by omega) ?_ | refine k_astR (by first | assumption | omega) (by first | assumption | exact rfl) (by omega) (by omega) (by omega) (by first | assumption | omega) (by (try simp (disch := omega) only [sr_s, sr_a, sr_sr, u1_u1, p5, p6, p13]); exact rfl) ?_ | refine k_pz (by first | assumption | omega) (by omega) (by (try simp (disch := omega) only [sr_s, sr_a, sr_sr, u1_u1, p5, p6, p13]); exact rfl) ?_ | refine k_alen (by first | assumption | omega) (by first | assumption | exact rfl) ?_ | refine k_cpy (by first | assumption | omega) (by first | assumption | omega) (by first | assumption | exact rfl) (by first | assumption | exact rfl) (by omega) (by omega) (by omega) (by omega) (by omega) (by omega) (by omega) (by omega) (by (try simp (disch := omega) only [sr_s, sr_a, sr_sr, u1_u1, p5, p6, p13]); exact rfl) ?_)
          refine Ok.bind (rd_be h0 hS2) ?_
          rintro _ ⟨M3, rfl, hS3⟩
          have he : 2 ^ (e + 1) = 2 ^ e * 2 := Nat.pow_succ 2 e
          refine Ok.ret ⟨M3, e + 1, 0, ?_, ?_, by omega, by omega, fun k k0 k1 => by omega⟩
          · rw [he]; rfl
          · rw [he, show 2 ^ e * 2 - 1 + 0 = 2 ^ e - 1 + l + 1 by omega, show 2 ^ e * 2 - 1 = 2 ^ e - 1 + l + 1 by omega]
            exact hS3
        · refine k_ifF (by rw [w32_id (by omega) (by omega), w32_id (by omega) (by omega)]; omega) (Ok.ret ⟨M2, e, l + 1, rfl, hS2, by omega, by omega, fun k k0 k1 => ?_⟩)
          by_cases y3 : k = l + 1
          · subst y3; exact hny
          · exact hno k k0 (by omega)
    · rintro _ ⟨M1, e, l, rfl, hS, hil, hl, hno⟩
      unfold M_X9_roundLength_b28
      dsimp only
      refine k_ifF (by decide) (Ok.ret ⟨M1, rfl, hS.1, Or.inl ⟨rfl, ?_⟩⟩)
      rintro ⟨a, b, hr, hb⟩
      have hpw := pw_512 (e := e) (by omega) (by omega)
      have hab := hr.1
      have hper := rho_per st hr (511 - a)
      rw [show a + (511 - a) = 511 by omega] at hper
      rw [hpw] at hno
      exact hno (b - a) (by omega) (by omega) hper.symm
  refine Ok.bind hlo ?_
  intro z hz
  cases z with
  | inl h =>
    obtain ⟨M1, rfl, hc, hp⟩ := hz
    rw [exi_l]
    exact Ok.ret ⟨M1, 0, rfl, hc, hp⟩
  | inr q =>
    rw [exi_r]
    exact Ok.ret hz
end R5
