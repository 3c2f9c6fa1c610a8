/-! round: the class's call -/
section R7
variable {M0 M M1 : Int → Int → Int} {G : GG} {td r rg w mk : Int} {k k1 k2 : Nat}
theorem wAt24 (h0 : Inv0 M0 G td r) (hc : cQ M0 M) : wAt M0 M 24 0 := by
  have e24 := hc.1 24 (by omega)
  have e25 := hc.1 25 (by omega)
  have e26 := hc.1 26 (by omega)
  have e27 := hc.1 27 (by omega)
  have hm := h0.s24.1
  unfold mW at hm
  unfold wAt mW
  show M 24 0 = _ ∧ M 24 1 = _ ∧ M 24 2 = _ ∧ M 24 6 = _ ∧ (M 24 3 = _ ∧ M 24 4 = _ ∧ M 24 5 = _) ∧ M 25 = _ ∧ M 26 = _ ∧ M 27 = _
  rw [e24, e25, e26, e27]
  exact ⟨rfl, rfl, rfl, rfl, hm, rfl, rfl, rfl⟩
theorem rd_b28 (h0 : Inv0 M0 G td r) (hc : cQ M0 M) : Ok (M_X8_become (M, G) 28 24) (fun h => ∃ M1, h = (M1, G) ∧ cQ M0 M1 ∧ wAt M0 M1 28 0) := by
  have hG := h0.1.1
  have t6 := h0.tw.2.1
  have hs := hc.2.2.1
  refine (wAt_be h0.s24.2 t6 (gW_28 hG) (gW_24 hG) (by omega) hs.1 hs.2 (wAt24 h0 hc)).mono ?_
  rintro _ ⟨M1, rfl, hA1, f⟩
  refine ⟨M1, rfl, cQ_rd hc (fun a _ _ => f a (by omega)) (by rw [f 123 (by omega)]; exact hc.2.2.2.2.2.2.2.2.2.1) (wAt_sh h0.s24.2 t6 hA1) ?_, hA1⟩
  have h32 := hc.2.2.2.1
  unfold shW mW zoW at *
  simp (disch := omega) only [f]
  exact h32
theorem rd_b32 (h0 : Inv0 M0 G td r) (hc : cQ M0 M) (hA : wAt M0 M 28 0) : Ok (M_X8_become (M, G) 32 24) (fun h => ∃ M1, h = (M1, G) ∧ rdS M0 M1 0 0) := by
  have hG := h0.1.1
  have t6 := h0.tw.2.1
  have hs := hc.2.2.2.1
  refine (wAt_be h0.s24.2 t6 (gW_32 hG) (gW_24 hG) (by omega) hs.1 hs.2 (wAt24 h0 hc)).mono ?_
  rintro _ ⟨M1, rfl, hB1, f⟩
  have hA1 := hA.cg (M1 := M1) (fun a _ _ => f a (by omega))
  exact ⟨M1, rfl, cQ_rd hc (fun a _ _ => f a (by omega)) (by rw [f 123 (by omega)]; exact hc.2.2.2.2.2.2.2.2.2.1) (wAt_sh h0.s24.2 t6 hA1) (wAt_sh h0.s24.2 t6 hB1), hA1, hB1⟩
theorem X9_rl_ok (h0 : Inv0 M0 G td r) (hR : isR M0 G td rg) (hns : ∀ t, 0 ≤ t → t < M0 24 2 → M0 27 (4 * t) ≠ 9) (hc : cQ M0 M) : Ok (M_X9_roundLength (M, G) 0) (fun z => ∃ M1 L, z = ((M1, G), L) ∧ cQ M0 M1 ∧ rlP M0 L) := by
  have hG := h0.1.1
  have hp0 : pr0 (M 0) := (h0.cl hc).1.2.1
  have p4 := pr0.p4 hp0
  have p5 := pr0.p5 hp0
  have p6 := pr0.p6 hp0
  have k0 := gk_0 hG
  unfold M_X9_roundLength
  repeat' (with_reducible first | refine k_gf (by first | assumption | omega) (by first | assumption | ((try simp (disch := omega) only [sr_s, sr_a, sr_sr, u1_s, u1_k, p4, p5, p6]); exact rfl)) ?_ | refine k_gr (by first | assumption | omega) (by first | assumption | ((try simp (disch := omega) only [sr_s, sr_a, sr_sr, u1_s, u1_k, p4, p5, p6]); exact rfl)) (by omega) ?_ | refine k_ald (by first | assumption | omega) (by first | assumption | exact rfl) (by omega) (by omega) (by omega) (by first | assumption | ((try simp (disch := omega) only [sr_s, sr_a, sr_sr, u1_s, u1_k, p4, p5, p6]); exact rfl)) ?_ | refine k_ifT (by first | (simp (disch := omega) only [w32_id]; first | done | omega) | omega) ?_ | refine k_ifF (by first | (simp (disch := omega) only [w32_id]; first | done | omega) | omega) ?_ | refine k_pf (by first | assumption | omega) (by (try simp (disch := omega) only [sr_s, sr_a, sr_sr, u1_u1, p4, p5, p6]); exact rfl) ?_ | refine k_ast (by first | assumption | omega) (by first | assumption | exact rfl) (by omega) (by omega) (by omega) (by (try simp (disch := omega) only [sr_s, sr_a, sr_sr, u1_u1, p4, p5, p6]); exact rfl) ?_ | refine k_irm (by omega) (by omega) (by omega) (by omega) ?_ | refine k_idv (by omega) (by omega) (by omega) (by omega) ?_ | refine k_tk (by first | assumption | omega) ?_ | refine k_rp (by omega) ?_ | refine k_aldR (by first | assumption | omega) (by first | assumption | exact rfl) (by omega) (by omega) (by omega) (by first | assumption | ((try simp (disch := omega) only [sr_s, sr_a, sr_sr, u1_s, u1_k, p4, p5, p6]); exact rfl)) (by omega) ?_ | refine k_astR (by first | assumption | omega) (by first | assumption | exact rfl) (by omega) (by omega) (by omega) (by first | assumption | omega) (by (try simp (disch := omega) only [sr_s, sr_a, sr_sr, u1_u1, p4, p5, p6]); exact rfl) ?_ | refine k_pz (by first | assumption | omega) (by omega) (by (try simp (disch := omega) only [sr_s, sr_a, sr_sr, u1_u1, p4, p5, p6]); exact rfl) ?_ | refine k_alen (by first | assumption | omega) (by first | assumption | exact rfl) ?_ | refine k_cpy (by first | assumption | omega) (by first | assumption | omega) (by first | assumption | exact rfl) (by first | assumption | exact rfl) (by omega) (by omega) (by omega) (by omega) (by omega) (by omega) (by omega) (by omega) (by (try simp (disch := omega) only [sr_s, sr_a, sr_sr, u1_u1, p4, p5, p6]); exact rfl) ?_)
  refine Ok.bind (rd_b28 h0 hc) ?_
  rintro _ ⟨M1, rfl, hc1, hA1⟩
  have hp0 : pr0 (M1 0) := (h0.cl hc1).1.2.1
  have p4 := pr0.p4 hp0
  have p5 := pr0.p5 hp0
  have p6 := pr0.p6 hp0
  repeat' (with_reducible first | refine k_gf (by first | assumption | omega) (by first | assumption | ((try simp (disch := omega) only [sr_s, sr_a, sr_sr, u1_s, u1_k, p4, p5, p6]); exact rfl)) ?_ | refine k_gr (by first | assumption | omega) (by first | assumption | ((try simp (disch := omega) only [sr_s, sr_a, sr_sr, u1_s, u1_k, p4, p5, p6]); exact rfl)) (by omega) ?_ | refine k_ald (by first | assumption | omega) (by first | assumption | exact rfl) (by omega) (by omega) (by omega) (by first | assumption | ((try simp (disch := omega) only [sr_s, sr_a, sr_sr, u1_s, u1_k, p4, p5, p6]); exact rfl)) ?_ | refine k_ifT (by first | (simp (disch := omega) only [w32_id]; first | done | omega) | omega) ?_ | refine k_ifF (by first | (simp (disch := omega) only [w32_id]; first | done | omega) | omega) ?_ | refine k_pf (by first | assumption | omega) (by (try simp (disch := omega) only [sr_s, sr_a, sr_sr, u1_u1, p4, p5, p6]); exact rfl) ?_ | refine k_ast (by first | assumption | omega) (by first | assumption | exact rfl) (by omega) (by omega) (by omega) (by (try simp (disch := omega) only [sr_s, sr_a, sr_sr, u1_u1, p4, p5, p6]); exact rfl) ?_ | refine k_irm (by omega) (by omega) (by omega) (by omega) ?_ | refine k_idv (by omega) (by omega) (by omega) (by omega) ?_ | refine k_tk (by first | assumption | omega) ?_ | refine k_rp (by omega) ?_ | refine k_aldR (by first | assumption | omega) (by first | assumption | exact rfl) (by omega) (by omega) (by omega) (by first | assumption | ((try simp (disch := omega) only [sr_s, sr_a, sr_sr, u1_s, u1_k, p4, p5, p6]); exact rfl)) (by omega) ?_ | refine k_astR (by first | assumption | omega) (by first | assumption | exact rfl) (by omega) (by omega) (by omega) (by first | assumption | omega) (by (try simp (disch := omega) only [sr_s, sr_a, sr_sr, u1_u1, p4, p5, p6]); exact rfl) ?_ | refine k_pz (by first | assumption | omega) (by omega) (by (try simp (disch := omega) only [sr_s, sr_a, sr_sr, u1_u1, p4, p5, p6]); exact rfl) ?_ | refine k_alen (by first | assumption | omega) (by first | assumption | exact rfl) ?_ | refine k_cpy (by first | assumption | omega) (by first | assumption | omega) (by first | assumption | exact rfl) (by first | assumption | exact rfl) (by omega) (by omega) (by omega) (by omega) (by omega) (by omega) (by omega) (by omega) (by (try simp (disch := omega) only [sr_s, sr_a, sr_sr, u1_u1, p4, p5, p6]); exact rfl) ?_)
  refine Ok.bind (rd_b32 h0 hc1 hA1) ?_
  rintro _ ⟨M2, rfl, hS⟩
  exact X9_rl_loop h0 hR hns hS
theorem X9_rb_ok (h0 : Inv0 M0 G td r) (hR : isR M0 G td rg) (hns : ∀ t, 0 ≤ t → t < M0 24 2 → M0 27 (4 * t) ≠ 9) {a b : Nat} (hr : isRho (bhM M0 24) a b) (hL : b - a ≤ 1000) (hc : cQ M0 M) : Ok (M_X9_roundBegin (M, G) 0 ((b : Int) - a)) (fun z => ∃ M1, z = ((M1, G), if a ≤ 400 then (a : Int) else 401) ∧ cQ M0 M1) := by
  have hG := h0.1.1
  have hab := hr.1
  have hp0 : pr0 (M 0) := (h0.cl hc).1.2.1
  have p4 := pr0.p4 hp0
  have p5 := pr0.p5 hp0
  have p6 := pr0.p6 hp0
  have k0 := gk_0 hG
  unfold M_X9_roundBegin
  repeat' (with_reducible first | refine k_gf (by first | assumption | omega) (by first | assumption | ((try simp (disch := omega) only [sr_s, sr_a, sr_sr, u1_s, u1_k, p4, p5, p6]); exact rfl)) ?_ | refine k_gr (by first | assumption | omega) (by first | assumption | ((try simp (disch := omega) only [sr_s, sr_a, sr_sr, u1_s, u1_k, p4, p5, p6]); exact rfl)) (by omega) ?_ | refine k_ald (by first | assumption | omega) (by first | assumption | exact rfl) (by omega) (by omega) (by omega) (by first | assumption | ((try simp (disch := omega) only [sr_s, sr_a, sr_sr, u1_s, u1_k, p4, p5, p6]); exact rfl)) ?_ | refine k_ifT (by first | (simp (disch := omega) only [w32_id]; first | done | omega) | omega) ?_ | refine k_ifF (by first | (simp (disch := omega) only [w32_id]; first | done | omega) | omega) ?_ | refine k_pf (by first | assumption | omega) (by (try simp (disch := omega) only [sr_s, sr_a, sr_sr, u1_u1, p4, p5, p6]); exact rfl) ?_ | refine k_ast (by first | assumption | omega) (by first | assumption | exact rfl) (by omega) (by omega) (by omega) (by (try simp (disch := omega) only [sr_s, sr_a, sr_sr, u1_u1, p4, p5, p6]); exact rfl) ?_ | refine k_irm (by omega) (by omega) (by omega) (by omega) ?_ | refine k_idv (by omega) (by omega) (by omega) (by omega) ?_ | refine k_tk (by first | assumption | omega) ?_ | refine k_rp (by omega) ?_ | refine k_aldR (by first | assumption | omega) (by first | assumption | exact rfl) (by omega) (by omega) (by omega) (by first | assumption | ((try simp (disch := omega) only [sr_s, sr_a, sr_sr, u1_s, u1_k, p4, p5, p6]); exact rfl)) (by omega) ?_ | refine k_astR (by first | assumption | omega) (by first | assumption | exact rfl) (by omega) (by omega) (by omega) (by first | assumption | omega) (by (try simp (disch := omega) only [sr_s, sr_a, sr_sr, u1_u1, p4, p5, p6]); exact rfl) ?_ | refine k_pz (by first | assumption | omega) (by omega) (by (try simp (disch := omega) only [sr_s, sr_a, sr_sr, u1_u1, p4, p5, p6]); exact rfl) ?_ | refine k_alen (by first | assumption | omega) (by first | assumption | exact rfl) ?_ | refine k_cpy (by first | assumption | omega) (by first | assumption | omega) (by first | assumption | exact rfl) (by first | assumption | exact rfl) (by omega) (by omega) (by omega) (by omega) (by omega) (by omega) (by omega) (by omega) (by (try simp (disch := omega) only [sr_s, sr_a, sr_sr, u1_u1, p4, p5, p6]); exact rfl) ?_)
  refine Ok.bind (rd_b28 h0 hc) ?_
  rintro _ ⟨M1, rfl, hc1, hA1⟩
  have hp0 : pr0 (M1 0) := (h0.cl hc1).1.2.1
  have p4 := pr0.p4 hp0
  have p5 := pr0.p5 hp0
  have p6 := pr0.p6 hp0
  repeat' (with_reducible first | refine k_gf (by first | assumption | omega) (by first | assumption | ((try simp (disch := omega) only [sr_s, sr_a, sr_sr, u1_s, u1_k, p4, p5, p6]); exact rfl)) ?_ | refine k_gr (by first | assumption | omega) (by first | assumption | ((try simp (disch := omega) only [sr_s, sr_a, sr_sr, u1_s, u1_k, p4, p5, p6]); exact rfl)) (by omega) ?_ | refine k_ald (by first | assumption | omega) (by first | assumption | exact rfl) (by omega) (by omega) (by omega) (by first | assumption | ((try simp (disch := omega) only [sr_s, sr_a, sr_sr, u1_s, u1_k, p4, p5, p6]); exact rfl)) ?_ | refine k_ifT (by first | (simp (disch := omega) only [w32_id]; first | done | omega) | omega) ?_ | refine k_ifF (by first | (simp (disch := omega) only [w32_id]; first | done | omega) | omega) ?_ | refine k_pf (by first | assumption | omega) (by (try simp (disch := omega) only [sr_s, sr_a, sr_sr, u1_u1, p4, p5, p6]); exact rfl) ?_ | refine k_ast (by first | assumption | omega) (by first | assumption | exact rfl) (by omega) (by omega) (by omega) (by (try simp (disch := omega) only [sr_s, sr_a, sr_sr, u1_u1, p4, p5, p6]); exact rfl) ?_ | refine k_irm (by omega) (by omega) (by omega) (by omega) ?_ | refine k_idv (by omega) (by omega) (by omega) (by omega) ?_ | refine k_tk (by first | assumption | omega) ?_ | refine k_rp (by omega) ?_ | refine k_aldR (by first | assumption | omega) (by first | assumption | exact rfl) (by omega) (by omega) (by omega) (by first | assumption | ((try simp (disch := omega) only [sr_s, sr_a, sr_sr, u1_s, u1_k, p4, p5, p6]); exact rfl)) (by omega) ?_ | refine k_astR (by first | assumption | omega) (by first | assumption | exact rfl) (by omega) (by omega) (by omega) (by first | assumption | omega) (by (try simp (disch := omega) only [sr_s, sr_a, sr_sr, u1_u1, p4, p5, p6]); exact rfl) ?_ | refine k_pz (by first | assumption | omega) (by omega) (by (try simp (disch := omega) only [sr_s, sr_a, sr_sr, u1_u1, p4, p5, p6]); exact rfl) ?_ | refine k_alen (by first | assumption | omega) (by first | assumption | exact rfl) ?_ | refine k_cpy (by first | assumption | omega) (by first | assumption | omega) (by first | assumption | exact rfl) (by first | assumption | exact rfl) (by omega) (by omega) (by omega) (by omega) (by omega) (by omega) (by omega) (by omega) (by (try simp (disch := omega) only [sr_s, sr_a, sr_sr, u1_u1, p4, p5, p6]); exact rfl) ?_)
  refine Ok.bind (rd_b32 h0 hc1 hA1) ?_
  rintro _ ⟨M2, rfl, hS⟩
  unfold M_X9_roundBegin_w24
  have hlo : Ok (wh (S := (Hp × Int)) (T := Hp) (fun c => M_X9_roundBegin_b24 c.1 0 ((b : Int) - a) c.2) FU ((M2, G), 0)) (fun h => ∃ M3, h = (M3, G) ∧ rdS M0 M3 0 (b - a)) := by
    refine wh_for (fun i s => ∃ M3, s = ((M3, G), (i : Int)) ∧ rdS M0 M3 0 i) _ (b - a) (by omega) ⟨M2, rfl, hS⟩ ?_ ?_
    · rintro i _ hi ⟨M3, rfl, hS3⟩
      have hp0 : pr0 (M3 0) := (h0.cl hS3.1).1.2.1
      have p6 := pr0.p6 hp0
      have p13 := pr0.p13 hp0
      unfold M_X9_roundBegin_b24
      dsimp only
      repeat' (with_reducible first | refine k_gf (by first | assumption | omega) (by first | assumption | ((try simp (disch := omega) only [sr_s, sr_a, sr_sr, u1_s, u1_k, p6, p13]); exact rfl)) ?_ | refine k_gr (by first | assumption | omega) (by first | assumption | ((try simp (disch := omega) only [sr_s, sr_a, sr_sr, u1_s, u1_k, p6, p13]); exact rfl)) (by omega) ?_ | refine k_ald (by first | assumption | omega) (by first | assumption | exact rfl) (by omega) (by omega) (by omega) (by first | assumption | ((try simp (disch := omega) only [sr_s, sr_a, sr_sr, u1_s, u1_k, p6, p13]); exact rfl)) ?_ | refine k_ifT (by first | (simp (disch := omega) only [w32_id]; first | done | omega) | omega) ?_ | refine k_ifF (by first | (simp (disch := omega) only [w32_id]; first | done | omega) | omega) ?_ | refine k_pf (by first | assumption | omega) (by (try simp (disch := omega) only [sr_s, sr_a, sr_sr, u1_u1, p6, p13]); exact rfl) ?_ | refine k_ast (by first | assumption | omega) (by first | assumption | exact rfl) (by omega) (by omega) (by omega) (by (try simp (disch := omega) only [sr_s, sr_a, sr_sr, u1_u1, p6, p13]); exact rfl) ?_ | refine k_irm (by omega) (by omega) (by omega) (by omega) ?_ | refine k_idv (by omega) (by omega) (by omega) (by omega) ?_ | refine k_tk (by first | assumption | omega) ?_ | refine k_rp (by omega) ?_ | refine k_aldR (by first | assumption | omega) (by first | assumption | exact rfl) (by omega) (by omega) (by omega) (by first | assumption | ((try simp (disch := omega) only [sr_s, sr_a, sr_sr, u1_s, u1_k, p6, p13]); exact rfl)) (by omega) ?_ | refine k_astR (by first | assumption | omega) (by first | assumption | exact rfl) (by omega) (by omega) (by omega) (by first | assumption | omega) (by (try simp (disch := omega) only [sr_s, sr_a, sr_sr, u1_u1, p6, p13]); exact rfl) ?_ | refine k_pz (by first | assumption | omega) (by omega) (by (try simp (disch := omega) only [sr_s, sr_a, sr_sr, u1_u1, p6, p13]); exact rfl) ?_ | refine k_alen (by first | assumption | omega) (by first | assumption | exact rfl) ?_ | refine k_cpy (by first | assumption | omega) (by first | assumption | omega) (by first | assumption | exact rfl) (by first | assumption | exact rfl) (by omega) (by omega) (by omega) (by omega) (by omega) (by omega) (by omega) (by omega) (by (try simp (disch := omega) only [sr_s, sr_a, sr_sr, u1_u1, p6, p13]); exact rfl) ?_)
      refine Ok.bind (rd_go32 h0 hR hns hS3) ?_
      rintro _ ⟨M4, rfl, hS4⟩
      exact Ok.ret ⟨M4, rfl, hS4⟩
    · rintro _ ⟨M3, rfl, hS3⟩
      unfold M_X9_roundBegin_b24
      dsimp only
      repeat' (with_reducible first | refine k_gf (by first | assumption | omega) (by first | assumption | ((try simp (disch := omega) only [sr_s, sr_a, sr_sr, u1_s, u1_k]); exact rfl)) ?_ | refine k_gr (by first | assumption | omega) (by first | assumption | ((try simp (disch := omega) only [sr_s, sr_a, sr_sr, u1_s, u1_k]); exact rfl)) (by omega) ?_ | refine k_ald (by first | assumption | omega) (by first | assumption | exact rfl) (by omega) (by omega) (by omega) (by first | assumption | ((try simp (disch := omega) only [sr_s, sr_a, sr_sr, u1_s, u1_k]); exact rfl)) ?_ | refine k_ifT (by first | (simp (disch := omega) only [w32_id]; first | done | omega) | omega) ?_ | refine k_ifF (by first | (simp (disch := omega) only [w32_id]; first | done | omega) | omega) ?_ | refine k_pf (by first | assumption | omega) (by (try simp (disch := omega) only [sr_s, sr_a, sr_sr, u1_u1]); exact rfl) ?_ | refine k_ast (by first | assumption | omega) (by first | assumption | exact rfl) (by omega) (by omega) (by omega) (by (try simp (disch := omega) only [sr_s, sr_a, sr_sr, u1_u1]); exact rfl) ?_ | refine k_irm (by omega) (by omega) (by omega) (by omega) ?_ | refine k_idv (by omega) (by omega) (by omega) (by omega) ?_ | refine k_tk (by first | assumption | omega) ?_ | refine k_rp (by omega) ?_ | refine k_aldR (by first | assumption | omega) (by first | assumption | exact rfl) (by omega) (by omega) (by omega) (by first | assumption | ((try simp (disch := omega) only [sr_s, sr_a, sr_sr, u1_s, u1_k]); exact rfl)) (by omega) ?_ | refine k_astR (by first | assumption | omega) (by first | assumption | exact rfl) (by omega) (by omega) (by omega) (by first | assumption | omega) (by (try simp (disch := omega) only [sr_s, sr_a, sr_sr, u1_u1]); exact rfl) ?_ | refine k_pz (by first | assumption | omega) (by omega) (by (try simp (disch := omega) only [sr_s, sr_a, sr_sr, u1_u1]); exact rfl) ?_ | refine k_alen (by first | assumption | omega) (by first | assumption | exact rfl) ?_ | refine k_cpy (by first | assumption | omega) (by first | assumption | omega) (by first | assumption | exact rfl) (by first | assumption | exact rfl) (by omega) (by omega) (by omega) (by omega) (by omega) (by omega) (by omega) (by omega) (by (try simp (disch := omega) only [sr_s, sr_a, sr_sr, u1_u1]); exact rfl) ?_)
      exact Ok.ret ⟨M3, rfl, hS3⟩
  refine Ok.bind hlo ?_
  rintro _ ⟨M3, rfl, hS3⟩
  unfold M_X9_roundBegin_p46
  exact X9_rb_loop h0 hR hns hr hS3
theorem rho_unq {α : Type} {s : Nat → α} {a b a' b' : Nat} (h : isRho s a b) (h' : isRho s a' b') : a = a' ∧ b = b' := by
  have hb : b = b' := by
    by_cases c : b < b'
    · exact absurd h.2.1 (h'.2.2 a b h.1 c)
    · by_cases c2 : b' < b
      · exact absurd h'.2.1 (h.2.2 a' b' h'.1 c2)
      · omega
  subst hb
  refine ⟨?_, rfl⟩
  by_cases c : a < a'
  · exact absurd (h.2.1.trans h'.2.1.symm) (h.2.2 a a' c h'.1)
  · by_cases c2 : a' < a
    · exact absurd (h'.2.1.trans h.2.1.symm) (h.2.2 a' a c2 h.1)
    · omega
/-- what round answers -/
def roP (s : Nat → Int → Int) (z v : Int) : Prop := (∃ a b : Nat, isRho s a b ∧ b ≤ 400 ∧ v = if z = 0 then (b : Int) - a else a) ∨ ((¬ ∃ a b, isRho s a b ∧ b ≤ 400) ∧ v = -2)
theorem roP_ex (s : Nat → Int → Int) (z : Int) : ∃ v, roP s z v := by
  by_cases c : ∃ a b, isRho s a b ∧ b ≤ 400
  · obtain ⟨a, b, h, hb⟩ := c
    exact ⟨_, Or.inl ⟨a, b, h, hb, rfl⟩⟩
  · exact ⟨-2, Or.inr ⟨c, rfl⟩⟩
theorem roP_unq {s : Nat → Int → Int} {z v v' : Int} (h : roP s z v) (h' : roP s z v') : v = v' := by
  rcases h with ⟨a, b, h, hb, rfl⟩ | ⟨h, rfl⟩
  · rcases h' with ⟨a', b', h', hb', rfl⟩ | ⟨h', -⟩
    · obtain ⟨rfl, rfl⟩ := rho_unq h h'
      rfl
    · exact absurd ⟨a, b, h, hb⟩ h'
  · rcases h' with ⟨a', b', h', hb', rfl⟩ | ⟨h', rfl⟩
    · exact absurd ⟨a', b', h', hb'⟩ h
    · rfl
theorem X9_round_p51_ok {z v L B : Int} (hG : gAll G) (hc : cQ M0 M) (hz : z = 0 ∨ z = 1) (hL : 0 ≤ L ∧ L ≤ 1000) (hB : 0 ≤ B ∧ B ≤ 401) (hv : v = if L = 0 ∨ 400 < B + L then -2 else if z = 0 then L else B) : Ok (M_X9_round_p51 (M, G) 0 z L B) (cP M0 G v 0) := by
  unfold M_X9_round_p51
  by_cases y : L = 0
  · rw [if_pos (Or.inl y)] at hv
    subst hv
    repeat' (with_reducible first | refine k_gf (by first | assumption | omega) (by first | assumption | ((try simp (disch := omega) only [sr_s, sr_a, sr_sr, u1_s, u1_k]); exact rfl)) ?_ | refine k_gr (by first | assumption | omega) (by first | assumption | ((try simp (disch := omega) only [sr_s, sr_a, sr_sr, u1_s, u1_k]); exact rfl)) (by omega) ?_ | refine k_ald (by first | assumption | omega) (by first | assumption | exact rfl) (by omega) (by omega) (by omega) (by first | assumption | ((try simp (disch := omega) only [sr_s, sr_a, sr_sr, u1_s, u1_k]); exact rfl)) ?_ | refine k_ifT (by first | (simp (disch := omega) only [w32_id]; first | done | omega) | omega) ?_ | refine k_ifF (by first | (simp (disch := omega) only [w32_id]; first | done | omega) | omega) ?_ | refine k_pf (by first | assumption | omega) (by (try simp (disch := omega) only [sr_s, sr_a, sr_sr, u1_u1]); exact rfl) ?_ | refine k_ast (by first | assumption | omega) (by first | assumption | exact rfl) (by omega) (by omega) (by omega) (by (try simp (disch := omega) only [sr_s, sr_a, sr_sr, u1_u1]); exact rfl) ?_ | refine k_irm (by omega) (by omega) (by omega) (by omega) ?_ | refine k_idv (by omega) (by omega) (by omega) (by omega) ?_ | refine k_tk (by first | assumption | omega) ?_ | refine k_rp (by omega) ?_ | refine k_aldR (by first | assumption | omega) (by first | assumption | exact rfl) (by omega) (by omega) (by omega) (by first | assumption | ((try simp (disch := omega) only [sr_s, sr_a, sr_sr, u1_s, u1_k]); exact rfl)) (by omega) ?_ | refine k_astR (by first | assumption | omega) (by first | assumption | exact rfl) (by omega) (by omega) (by omega) (by first | assumption | omega) (by (try simp (disch := omega) only [sr_s, sr_a, sr_sr, u1_u1]); exact rfl) ?_ | refine k_pz (by first | assumption | omega) (by omega) (by (try simp (disch := omega) only [sr_s, sr_a, sr_sr, u1_u1]); exact rfl) ?_ | refine k_alen (by first | assumption | omega) (by first | assumption | exact rfl) ?_ | refine k_cpy (by first | assumption | omega) (by first | assumption | omega) (by first | assumption | exact rfl) (by first | assumption | exact rfl) (by omega) (by omega) (by omega) (by omega) (by omega) (by omega) (by omega) (by omega) (by (try simp (disch := omega) only [sr_s, sr_a, sr_sr, u1_u1]); exact rfl) ?_)
    exact e_ans hG hc
  · by_cases y2 : 400 < B + L
    · rw [if_pos (Or.inr y2)] at hv
      subst hv
      repeat' (with_reducible first | refine k_gf (by first | assumption | omega) (by first | assumption | ((try simp (disch := omega) only [sr_s, sr_a, sr_sr, u1_s, u1_k]); exact rfl)) ?_ | refine k_gr (by first | assumption | omega) (by first | assumption | ((try simp (disch := omega) only [sr_s, sr_a, sr_sr, u1_s, u1_k]); exact rfl)) (by omega) ?_ | refine k_ald (by first | assumption | omega) (by first | assumption | exact rfl) (by omega) (by omega) (by omega) (by first | assumption | ((try simp (disch := omega) only [sr_s, sr_a, sr_sr, u1_s, u1_k]); exact rfl)) ?_ | refine k_ifT (by first | (simp (disch := omega) only [w32_id]; first | done | omega) | omega) ?_ | refine k_ifF (by first | (simp (disch := omega) only [w32_id]; first | done | omega) | omega) ?_ | refine k_pf (by first | assumption | omega) (by (try simp (disch := omega) only [sr_s, sr_a, sr_sr, u1_u1]); exact rfl) ?_ | refine k_ast (by first | assumption | omega) (by first | assumption | exact rfl) (by omega) (by omega) (by omega) (by (try simp (disch := omega) only [sr_s, sr_a, sr_sr, u1_u1]); exact rfl) ?_ | refine k_irm (by omega) (by omega) (by omega) (by omega) ?_ | refine k_idv (by omega) (by omega) (by omega) (by omega) ?_ | refine k_tk (by first | assumption | omega) ?_ | refine k_rp (by omega) ?_ | refine k_aldR (by first | assumption | omega) (by first | assumption | exact rfl) (by omega) (by omega) (by omega) (by first | assumption | ((try simp (disch := omega) only [sr_s, sr_a, sr_sr, u1_s, u1_k]); exact rfl)) (by omega) ?_ | refine k_astR (by first | assumption | omega) (by first | assumption | exact rfl) (by omega) (by omega) (by omega) (by first | assumption | omega) (by (try simp (disch := omega) only [sr_s, sr_a, sr_sr, u1_u1]); exact rfl) ?_ | refine k_pz (by first | assumption | omega) (by omega) (by (try simp (disch := omega) only [sr_s, sr_a, sr_sr, u1_u1]); exact rfl) ?_ | refine k_alen (by first | assumption | omega) (by first | assumption | exact rfl) ?_ | refine k_cpy (by first | assumption | omega) (by first | assumption | omega) (by first | assumption | exact rfl) (by first | assumption | exact rfl) (by omega) (by omega) (by omega) (by omega) (by omega) (by omega) (by omega) (by omega) (by (try simp (disch := omega) only [sr_s, sr_a, sr_sr, u1_u1]); exact rfl) ?_)
      exact e_ans hG hc
    · rw [if_neg (by omega)] at hv
      rcases hz with rfl | rfl
      · rw [if_pos rfl] at hv
        subst hv
        repeat' (with_reducible first | refine k_gf (by first | assumption | omega) (by first | assumption | ((try simp (disch := omega) only [sr_s, sr_a, sr_sr, u1_s, u1_k]); exact rfl)) ?_ | refine k_gr (by first | assumption | omega) (by first | assumption | ((try simp (disch := omega) only [sr_s, sr_a, sr_sr, u1_s, u1_k]); exact rfl)) (by omega) ?_ | refine k_ald (by first | assumption | omega) (by first | assumption | exact rfl) (by omega) (by omega) (by omega) (by first | assumption | ((try simp (disch := omega) only [sr_s, sr_a, sr_sr, u1_s, u1_k]); exact rfl)) ?_ | refine k_ifT (by first | (simp (disch := omega) only [w32_id]; first | done | omega) | omega) ?_ | refine k_ifF (by first | (simp (disch := omega) only [w32_id]; first | done | omega) | omega) ?_ | refine k_pf (by first | assumption | omega) (by (try simp (disch := omega) only [sr_s, sr_a, sr_sr, u1_u1]); exact rfl) ?_ | refine k_ast (by first | assumption | omega) (by first | assumption | exact rfl) (by omega) (by omega) (by omega) (by (try simp (disch := omega) only [sr_s, sr_a, sr_sr, u1_u1]); exact rfl) ?_ | refine k_irm (by omega) (by omega) (by omega) (by omega) ?_ | refine k_idv (by omega) (by omega) (by omega) (by omega) ?_ | refine k_tk (by first | assumption | omega) ?_ | refine k_rp (by omega) ?_ | refine k_aldR (by first | assumption | omega) (by first | assumption | exact rfl) (by omega) (by omega) (by omega) (by first | assumption | ((try simp (disch := omega) only [sr_s, sr_a, sr_sr, u1_s, u1_k]); exact rfl)) (by omega) ?_ | refine k_astR (by first | assumption | omega) (by first | assumption | exact rfl) (by omega) (by omega) (by omega) (by first | assumption | omega) (by (try simp (disch := omega) only [sr_s, sr_a, sr_sr, u1_u1]); exact rfl) ?_ | refine k_pz (by first | assumption | omega) (by omega) (by (try simp (disch := omega) only [sr_s, sr_a, sr_sr, u1_u1]); exact rfl) ?_ | refine k_alen (by first | assumption | omega) (by first | assumption | exact rfl) ?_ | refine k_cpy (by first | assumption | omega) (by first | assumption | omega) (by first | assumption | exact rfl) (by first | assumption | exact rfl) (by omega) (by omega) (by omega) (by omega) (by omega) (by omega) (by omega) (by omega) (by (try simp (disch := omega) only [sr_s, sr_a, sr_sr, u1_u1]); exact rfl) ?_)
        exact e_ans hG hc
      · rw [if_neg (by decide)] at hv
        subst hv
        repeat' (with_reducible first | refine k_gf (by first | assumption | omega) (by first | assumption | ((try simp (disch := omega) only [sr_s, sr_a, sr_sr, u1_s, u1_k]); exact rfl)) ?_ | refine k_gr (by first | assumption | omega) (by first | assumption | ((try simp (disch := omega) only [sr_s, sr_a, sr_sr, u1_s, u1_k]); exact rfl)) (by omega) ?_ | refine k_ald (by first | assumption | omega) (by first | assumption | exact rfl) (by omega) (by omega) (by omega) (by first | assumption | ((try simp (disch := omega) only [sr_s, sr_a, sr_sr, u1_s, u1_k]); exact rfl)) ?_ | refine k_ifT (by first | (simp (disch := omega) only [w32_id]; first | done | omega) | omega) ?_ | refine k_ifF (by first | (simp (disch := omega) only [w32_id]; first | done | omega) | omega) ?_ | refine k_pf (by first | assumption | omega) (by (try simp (disch := omega) only [sr_s, sr_a, sr_sr, u1_u1]); exact rfl) ?_ | refine k_ast (by first | assumption | omega) (by first | assumption | exact rfl) (by omega) (by omega) (by omega) (by (try simp (disch := omega) only [sr_s, sr_a, sr_sr, u1_u1]); exact rfl) ?_ | refine k_irm (by omega) (by omega) (by omega) (by omega) ?_ | refine k_idv (by omega) (by omega) (by omega) (by omega) ?_ | refine k_tk (by first | assumption | omega) ?_ | refine k_rp (by omega) ?_ | refine k_aldR (by first | assumption | omega) (by first | assumption | exact rfl) (by omega) (by omega) (by omega) (by first | assumption | ((try simp (disch := omega) only [sr_s, sr_a, sr_sr, u1_s, u1_k]); exact rfl)) (by omega) ?_ | refine k_astR (by first | assumption | omega) (by first | assumption | exact rfl) (by omega) (by omega) (by omega) (by first | assumption | omega) (by (try simp (disch := omega) only [sr_s, sr_a, sr_sr, u1_u1]); exact rfl) ?_ | refine k_pz (by first | assumption | omega) (by omega) (by (try simp (disch := omega) only [sr_s, sr_a, sr_sr, u1_u1]); exact rfl) ?_ | refine k_alen (by first | assumption | omega) (by first | assumption | exact rfl) ?_ | refine k_cpy (by first | assumption | omega) (by first | assumption | omega) (by first | assumption | exact rfl) (by first | assumption | exact rfl) (by omega) (by omega) (by omega) (by omega) (by omega) (by omega) (by omega) (by omega) (by (try simp (disch := omega) only [sr_s, sr_a, sr_sr, u1_u1]); exact rfl) ?_)
        exact e_ans hG hc
theorem X9_round_go {z v : Int} (h0 : Inv0 M0 G td r) (hR : isR M0 G td rg) (hns : ∀ t, 0 ≤ t → t < M0 24 2 → M0 27 (4 * t) ≠ 9) (hz : z = 0 ∨ z = 1) (hv : roP (bhM M0 24) z v) : Ok (bd (M_X9_roundLength (M0, G) 0) fun h x9 => if w32 x9 = 0 then M_X9_round_p51 h 0 z x9 0 else bd (M_X9_roundBegin h 0 x9) fun h x10 => M_X9_round_p51 h 0 z x9 x10) (cP M0 G v 0) := by
  have hG := h0.1.1
  refine Ok.bd (X9_rl_ok h0 hR hns (cQ.refl h0.2.1)) ?_
  rintro _ ⟨M1, L, rfl, hc1, hp⟩
  dsimp only
  rcases hp with ⟨rfl, hno⟩ | ⟨a, b, hr, rfl, hl⟩
  · refine k_ifT (by decide) ?_
    refine X9_round_p51_ok hG hc1 hz (by omega) (by omega) ?_
    rw [if_pos (Or.inl rfl)]
    exact roP_unq hv (Or.inr ⟨hno, rfl⟩)
  · have hab := hr.1
    refine k_ifF (by rw [w32_id (by omega) (by omega)]; omega) ?_
    refine Ok.bd (X9_rb_ok h0 hR hns hr hl hc1) ?_
    rintro _ ⟨M2, rfl, hc2⟩
    dsimp only
    refine X9_round_p51_ok hG hc2 hz (by omega) (by split <;> omega) ?_
    by_cases y : b ≤ 400
    · rw [if_pos (show a ≤ 400 by omega), if_neg (by omega)]
      exact roP_unq hv (Or.inl ⟨a, b, hr, y, rfl⟩)
    · rw [if_pos (by right; split <;> omega)]
      refine roP_unq hv (Or.inr ⟨?_, rfl⟩)
      rintro ⟨a', b', hr', hb'⟩
      have := rho_unq hr hr'
      omega
end R7
