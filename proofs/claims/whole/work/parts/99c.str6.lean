/-! strokes: the reference's search -/
section SA
variable {M N N1 : Int → Int → Int} {G : GG} {td r rg t u p mark due n m L : Int}
theorem X11_next_ok (hG : gAll G) (hp : pr124 (N 124)) (hL : N 124 36 = L) (l0 : 0 ≤ L) (l36 : L ≤ 36) (hm : 0 ≤ m ∧ m ≤ 3) (hf : ∀ k, 0 ≤ k → k < m → 0 ≤ N 137 k ∧ N 137 k ≤ L - m + k) : Ok (M_X11_nextStrokes (N, G) 124 m) (fun z => ∃ N1, (∀ a, a ≠ 137 → N1 a = N a) ∧ (z = ((N1, G), 1) ∧ nxP (N 137) (N1 137) L m ∨ z = ((N1, G), 0) ∧ N1 = N ∧ ∀ k, 0 ≤ k → k < m → ¬ N 137 k < L - m + k)) := by
  have k124 := gk_124 hG
  have k137 := gk_137 hG
  have l137 := gl_137 hG
  have p32 := pr124.p32 hp
  unfold M_X11_nextStrokes M_X11_nextStrokes_w4
  refine k_tk k124 ?_
  refine Ok.bind (Q := fun J => -1 ≤ J ∧ J < m ∧ (∀ k, J < k → k < m → ¬ N 137 k < L - m + k) ∧ (0 ≤ J → N 137 J < L - m + J)) ?_ ?_
  · refine wh_for (fun i s => s = m - 1 - (i : Int) ∧ ∀ k, m - 1 - (i : Int) < k → k < m → ¬ N 137 k < L - m + k) _ m.toNat (by omega) ⟨by omega, fun k k0 k1 => by omega⟩ ?_ ?_
    · rintro i _ hi ⟨rfl, hx⟩
      have hfj := hf (m - 1 - (i : Int)) (by omega) (by omega)
      unfold M_X11_nextStrokes_b4
      refine k_ifF (by rw [w32_id (by omega) (by omega)]; omega) ?_
      generalize hJ : m - 1 - (i : Int) = J at *
      by_cases y : N 137 J < L - m + J
      · repeat' (with_reducible first | refine k_gf (by first | assumption | omega) (by first | assumption | ((try simp (disch := omega) only [sr_s, sr_a, sr_sr, u1_s, u1_k, p32, hL]); exact rfl)) ?_ | refine k_gr (by first | assumption | omega) (by first | assumption | ((try simp (disch := omega) only [sr_s, sr_a, sr_sr, u1_s, u1_k, p32, hL]); exact rfl)) (by omega) ?_ | refine k_ald (by first | assumption | omega) (by first | assumption | exact rfl) (by omega) (by omega) (by omega) (by first | assumption | ((try simp (disch := omega) only [sr_s, sr_a, sr_sr, u1_s, u1_k, p32, hL]); exact rfl)) ?_ | refine k_ifT (by first | (simp (disch := omega) only [w32_id]; first | done | omega) | omega) ?_ | refine k_ifF (by first | (simp (disch := omega) only [w32_id]; first | done | omega) | omega) ?_ | refine k_pf (by first | assumption | omega) (by (try simp (disch := omega) only [sr_s, sr_a, sr_sr, u1_u1, p32, hL]); exact rfl) ?_ | refine k_ast (by first | assumption | omega) (by first | assumption | exact rfl) (by omega) (by omega) (by omega) (by (try simp (disch := omega) only [sr_s, sr_a, sr_sr, u1_u1, p32, hL]); exact rfl) ?_ | refine k_irm (by omega) (by omega) (by omega) (by omega) ?_ | refine k_idv (by omega) (by omega) (by omega) (by omega) ?_ | refine k_tk (by first | assumption | omega) ?_ | refine k_rp (by omega) ?_ | refine k_aldR (by first | assumption | omega) (by first | assumption | exact rfl) (by omega) (by omega) (by omega) (by first | assumption | ((try simp (disch := omega) only [sr_s, sr_a, sr_sr, u1_s, u1_k, p32, hL]); exact rfl)) (by omega) ?_ | refine k_astR (by first | assumption | omega) (by first | assumption | exact rfl) (by omega) (by omega) (by omega) (by first | assumption | omega) (by (try simp (disch := omega) only [sr_s, sr_a, sr_sr, u1_u1, p32, hL]); exact rfl) ?_ | refine k_pz (by first | assumption | omega) (by omega) (by (try simp (disch := omega) only [sr_s, sr_a, sr_sr, u1_u1, p32, hL]); exact rfl) ?_ | refine k_alen (by first | assumption | omega) (by first | assumption | exact rfl) ?_ | refine k_cpy (by first | assumption | omega) (by first | assumption | omega) (by first | assumption | exact rfl) (by first | assumption | exact rfl) (by omega) (by omega) (by omega) (by omega) (by omega) (by omega) (by omega) (by omega) (by (try simp (disch := omega) only [sr_s, sr_a, sr_sr, u1_u1, p32, hL]); exact rfl) ?_)
        exact Ok.ret ⟨by omega, by omega, hx, fun _ => y⟩
      · repeat' (with_reducible first | refine k_gf (by first | assumption | omega) (by first | assumption | ((try simp (disch := omega) only [sr_s, sr_a, sr_sr, u1_s, u1_k, p32, hL]); exact rfl)) ?_ | refine k_gr (by first | assumption | omega) (by first | assumption | ((try simp (disch := omega) only [sr_s, sr_a, sr_sr, u1_s, u1_k, p32, hL]); exact rfl)) (by omega) ?_ | refine k_ald (by first | assumption | omega) (by first | assumption | exact rfl) (by omega) (by omega) (by omega) (by first | assumption | ((try simp (disch := omega) only [sr_s, sr_a, sr_sr, u1_s, u1_k, p32, hL]); exact rfl)) ?_ | refine k_ifT (by first | (simp (disch := omega) only [w32_id]; first | done | omega) | omega) ?_ | refine k_ifF (by first | (simp (disch := omega) only [w32_id]; first | done | omega) | omega) ?_ | refine k_pf (by first | assumption | omega) (by (try simp (disch := omega) only [sr_s, sr_a, sr_sr, u1_u1, p32, hL]); exact rfl) ?_ | refine k_ast (by first | assumption | omega) (by first | assumption | exact rfl) (by omega) (by omega) (by omega) (by (try simp (disch := omega) only [sr_s, sr_a, sr_sr, u1_u1, p32, hL]); exact rfl) ?_ | refine k_irm (by omega) (by omega) (by omega) (by omega) ?_ | refine k_idv (by omega) (by omega) (by omega) (by omega) ?_ | refine k_tk (by first | assumption | omega) ?_ | refine k_rp (by omega) ?_ | refine k_aldR (by first | assumption | omega) (by first | assumption | exact rfl) (by omega) (by omega) (by omega) (by first | assumption | ((try simp (disch := omega) only [sr_s, sr_a, sr_sr, u1_s, u1_k, p32, hL]); exact rfl)) (by omega) ?_ | refine k_astR (by first | assumption | omega) (by first | assumption | exact rfl) (by omega) (by omega) (by omega) (by first | assumption | omega) (by (try simp (disch := omega) only [sr_s, sr_a, sr_sr, u1_u1, p32, hL]); exact rfl) ?_ | refine k_pz (by first | assumption | omega) (by omega) (by (try simp (disch := omega) only [sr_s, sr_a, sr_sr, u1_u1, p32, hL]); exact rfl) ?_ | refine k_alen (by first | assumption | omega) (by first | assumption | exact rfl) ?_ | refine k_cpy (by first | assumption | omega) (by first | assumption | omega) (by first | assumption | exact rfl) (by first | assumption | exact rfl) (by omega) (by omega) (by omega) (by omega) (by omega) (by omega) (by omega) (by omega) (by (try simp (disch := omega) only [sr_s, sr_a, sr_sr, u1_u1, p32, hL]); exact rfl) ?_)
        refine Ok.ret ⟨by omega, fun k k0 k1 => ?_⟩
        by_cases z : k = J
        · rw [z]; exact y
        · exact hx k (by omega) k1
    · rintro _ ⟨rfl, hx⟩
      unfold M_X11_nextStrokes_b4
      refine k_ifT (by rw [w32_id (by omega) (by omega)]; omega) (Ok.ret ⟨by omega, by omega, fun k k0 k1 => hx k k0 k1, fun z => by omega⟩)
  · rintro J ⟨J0, J1, hx, hj⟩
    unfold M_X11_nextStrokes_p31
    by_cases y0 : J < 0
    · refine k_ifT (by rw [w32_id (by omega) (by omega)]; exact y0) (Ok.ret ⟨N, fun _ _ => rfl, Or.inr ⟨rfl, rfl, fun k k0 k1 => hx k (by omega) k1⟩⟩)
    · have y := hj (by omega)
      have hfj := hf J (by omega) J1
      refine k_ifF (by rw [w32_id (by omega) (by omega)]; exact y0) ?_
      repeat' (with_reducible first | refine k_gf (by first | assumption | omega) (by first | assumption | ((try simp (disch := omega) only [sr_s, sr_a, sr_sr, u1_s, u1_k, p32]); exact rfl)) ?_ | refine k_gr (by first | assumption | omega) (by first | assumption | ((try simp (disch := omega) only [sr_s, sr_a, sr_sr, u1_s, u1_k, p32]); exact rfl)) (by omega) ?_ | refine k_ald (by first | assumption | omega) (by first | assumption | exact rfl) (by omega) (by omega) (by omega) (by first | assumption | ((try simp (disch := omega) only [sr_s, sr_a, sr_sr, u1_s, u1_k, p32]); exact rfl)) ?_ | refine k_ifT (by first | (simp (disch := omega) only [w32_id]; first | done | omega) | omega) ?_ | refine k_ifF (by first | (simp (disch := omega) only [w32_id]; first | done | omega) | omega) ?_ | refine k_pf (by first | assumption | omega) (by (try simp (disch := omega) only [sr_s, sr_a, sr_sr, u1_u1, p32]); exact rfl) ?_ | refine k_ast (by first | assumption | omega) (by first | assumption | exact rfl) (by omega) (by omega) (by omega) (by (try simp (disch := omega) only [sr_s, sr_a, sr_sr, u1_u1, p32]); exact rfl) ?_ | refine k_irm (by omega) (by omega) (by omega) (by omega) ?_ | refine k_idv (by omega) (by omega) (by omega) (by omega) ?_ | refine k_tk (by first | assumption | omega) ?_ | refine k_rp (by omega) ?_ | refine k_aldR (by first | assumption | omega) (by first | assumption | exact rfl) (by omega) (by omega) (by omega) (by first | assumption | ((try simp (disch := omega) only [sr_s, sr_a, sr_sr, u1_s, u1_k, p32]); exact rfl)) (by omega) ?_ | refine k_astR (by first | assumption | omega) (by first | assumption | exact rfl) (by omega) (by omega) (by omega) (by first | assumption | omega) (by (try simp (disch := omega) only [sr_s, sr_a, sr_sr, u1_u1, p32]); exact rfl) ?_ | refine k_pz (by first | assumption | omega) (by omega) (by (try simp (disch := omega) only [sr_s, sr_a, sr_sr, u1_u1, p32]); exact rfl) ?_ | refine k_alen (by first | assumption | omega) (by first | assumption | exact rfl) ?_ | refine k_cpy (by first | assumption | omega) (by first | assumption | omega) (by first | assumption | exact rfl) (by first | assumption | exact rfl) (by omega) (by omega) (by omega) (by omega) (by omega) (by omega) (by omega) (by omega) (by (try simp (disch := omega) only [sr_s, sr_a, sr_sr, u1_u1, p32]); exact rfl) ?_)
      generalize hN : sr N 137 (u1 (N 137) J (N 137 J + 1)) = N2
      have n2 : ∀ a, a ≠ 137 → N2 a = N a := fun a ha => by rw [← hN, sr_a _ _ ha]
      have n137 : N2 137 = u1 (N 137) J (N 137 J + 1) := by rw [← hN, sr_s]
      clear hN
      unfold M_X11_nextStrokes_w51 M_X11_nextStrokes_p78
      refine Ok.bind (Q := fun h => ∃ N1, h = (N1, G) ∧ (∀ a, a ≠ 137 → N1 a = N a) ∧ ∀ k, 0 ≤ k → k < m → N1 137 k = if k < J then N 137 k else N 137 J + 1 + (k - J)) ?_ ?_
      · refine wh_for (fun d z => ∃ N1, z = ((N1, G), J + 1 + (d : Int)) ∧ (∀ a, a ≠ 137 → N1 a = N a) ∧ ∀ k, 0 ≤ k → k < J + 1 + (d : Int) → N1 137 k = if k < J then N 137 k else N 137 J + 1 + (k - J)) _ (m - 1 - J).toNat (by omega) ⟨N2, by rw [show J + 1 + ((0 : Nat) : Int) = J + 1 by omega], n2, fun k k0 k1 => ?_⟩ ?_ ?_
        · rw [n137]
          by_cases z : k = J
          · rw [u1_e _ _ z, if_neg (by omega), z]; omega
          · rw [u1_k _ _ z, if_pos (by omega)]
        · rintro d _ hd ⟨N1, rfl, f, hv⟩
          have q5 : N1 124 32 = 137 := by rw [f 124 (by omega)]; exact p32
          have hv1 := hv (J + 1 + (d : Int) - 1) (by omega) (by omega)
          rw [if_neg (by omega)] at hv1
          unfold M_X11_nextStrokes_b51
          dsimp only
          repeat' (with_reducible first | refine k_gf (by first | assumption | omega) (by first | assumption | ((try simp (disch := omega) only [sr_s, sr_a, sr_sr, u1_s, u1_k, q5, hv1]); exact rfl)) ?_ | refine k_gr (by first | assumption | omega) (by first | assumption | ((try simp (disch := omega) only [sr_s, sr_a, sr_sr, u1_s, u1_k, q5, hv1]); exact rfl)) (by omega) ?_ | refine k_ald (by first | assumption | omega) (by first | assumption | exact rfl) (by omega) (by omega) (by omega) (by first | assumption | ((try simp (disch := omega) only [sr_s, sr_a, sr_sr, u1_s, u1_k, q5, hv1]); exact rfl)) ?_ | refine k_ifT (by first | (simp (disch := omega) only [w32_id]; first | done | omega) | omega) ?_ | refine k_ifF (by first | (simp (disch := omega) only [w32_id]; first | done | omega) | omega) ?_ | refine k_pf (by first | assumption | omega) (by (try simp (disch := omega) only [sr_s, sr_a, sr_sr, u1_u1, q5, hv1]); exact rfl) ?_ | refine k_ast (by first | assumption | omega) (by first | assumption | exact rfl) (by omega) (by omega) (by omega) (by (try simp (disch := omega) only [sr_s, sr_a, sr_sr, u1_u1, q5, hv1]); exact rfl) ?_ | refine k_irm (by omega) (by omega) (by omega) (by omega) ?_ | refine k_idv (by omega) (by omega) (by omega) (by omega) ?_ | refine k_tk (by first | assumption | omega) ?_ | refine k_rp (by omega) ?_ | refine k_aldR (by first | assumption | omega) (by first | assumption | exact rfl) (by omega) (by omega) (by omega) (by first | assumption | ((try simp (disch := omega) only [sr_s, sr_a, sr_sr, u1_s, u1_k, q5, hv1]); exact rfl)) (by omega) ?_ | refine k_astR (by first | assumption | omega) (by first | assumption | exact rfl) (by omega) (by omega) (by omega) (by first | assumption | omega) (by (try simp (disch := omega) only [sr_s, sr_a, sr_sr, u1_u1, q5, hv1]); exact rfl) ?_ | refine k_pz (by first | assumption | omega) (by omega) (by (try simp (disch := omega) only [sr_s, sr_a, sr_sr, u1_u1, q5, hv1]); exact rfl) ?_ | refine k_alen (by first | assumption | omega) (by first | assumption | exact rfl) ?_ | refine k_cpy (by first | assumption | omega) (by first | assumption | omega) (by first | assumption | exact rfl) (by first | assumption | exact rfl) (by omega) (by omega) (by omega) (by omega) (by omega) (by omega) (by omega) (by omega) (by (try simp (disch := omega) only [sr_s, sr_a, sr_sr, u1_u1, q5, hv1]); exact rfl) ?_)
          refine Ok.ret ⟨_, by rw [show J + 1 + ((d + 1 : Nat) : Int) = J + 1 + d + 1 by omega], fun a ha => by rw [sr_a _ _ ha]; exact f a ha, fun k k0 k1 => ?_⟩
          rw [sr_s]
          by_cases z : k = J + 1 + (d : Int)
          · rw [u1_e _ _ z, if_neg (by omega), z]; omega
          · rw [u1_k _ _ z]; exact hv k k0 (by omega)
        · rintro _ ⟨N1, rfl, f, hv⟩
          unfold M_X11_nextStrokes_b51
          dsimp only
          refine k_ifF (by rw [w32_id (by omega) (by omega), w32_id (by omega) (by omega)]; omega) (Ok.ret ⟨N1, rfl, f, fun k k0 k1 => hv k k0 (by omega)⟩)
      · rintro _ ⟨N1, rfl, f, hv⟩
        exact Ok.ret ⟨N1, f, Or.inl ⟨rfl, J, by omega, J1, y, fun k k0 k1 => hx k k0 k1, hv⟩⟩
/-- one pick tried -/
theorem X11_isDrawn_ok {S : Int → Bool} (h0 : Inv0 N G td r) (hR : isR N G td rg) (ht : 0 ≤ t ∧ t < N 24 2) (hmk : 0 ≤ mark ∧ mark < 6) (hu : 0 ≤ u ∧ u < N 24 2) (hin : inV (N 24 0) (N 24 1) p) (hd : 0 ≤ due ∧ due < 6) (hn : 0 ≤ n ∧ n ≤ 12) (hm : 0 ≤ m ∧ m ≤ 3) (hst : ∀ k, 0 ≤ k → k < m → (0 ≤ N 137 k ∧ N 137 k < 36) ∧ 0 ≤ N 136 (N 137 k) ∧ N 136 (N 137 k) < N 24 0 * N 24 1) (hS : ∀ q, inV (N 24 0) (N 24 1) q → (S q = true ↔ ∃ k, 0 ≤ k ∧ k < m ∧ N 136 (N 137 k) = idx (N 24 0) q)) : Ok (M_X11_isDrawn (N, G) 124 t mark m u (idx (N 24 0) p) due n) (fun z => ∃ N1, rQ N N1 ∧ N1 136 = N 136 ∧ N1 137 = N 137 ∧ N1 124 36 = N 124 36 ∧ (z = ((N1, G), 1) ∧ Wst N t mark u p due n S ∨ z = ((N1, G), 0) ∧ ¬ Wst N t mark u p due n S)) := by
  have hG := h0.1.1
  obtain ⟨sC, sS, sQ⟩ := sta_C h0 hR
  have hwf := hR.cl.2.2.2.2.1
  have hwf6 := wfW6 hwf
  obtain ⟨a1, a2, b1, b2, t1, t6, k2, k6, hco, her, het, hcz, y0, y1, hce⟩ := hwf
  have hml := mul_b a1 a2 b1 b2
  have hpx := idx_b a1 a2 b2 hin
  have h136 : staM N 136 = N 136 := by unfold staM; simp (disch := first | assumption | omega) only [sr_s, sr_a, sr_sr]
  have h137 : staM N 137 = N 137 := by unfold staM; simp (disch := first | assumption | omega) only [sr_s, sr_a, sr_sr]
  have h36 : staM N 124 36 = N 124 36 := by unfold staM; rw [sr_s, u1_k _ _ (by omega)]
  have k124 := gk_124 hG
  have k129 := gk_129 hG
  have l129 := gl_129 hG
  have k136 := gk_136 hG
  have l136 := gl_136 hG
  have k137 := gk_137 hG
  have l137 := gl_137 hG
  unfold M_X11_isDrawn
  refine k_tk k124 (k_eq (X11_starts_ok hG h0.2.2.1.1) ?_)
  unfold M_X11_isDrawn_w7
  refine Ok.bind (Q := fun h => ∃ N1, h = (N1, G) ∧ (∀ a, a ≠ 129 → N1 a = staM N a) ∧ (∀ i, 0 ≤ N1 129 i ∧ N1 129 i < 6) ∧ ∀ t' q, 0 ≤ t' → t' < N 24 2 → 0 ≤ q → q < N 24 0 * N 24 1 → ((t' = t ∧ ∃ k, 0 ≤ k ∧ k < m ∧ N 136 (N 137 k) = q) → N1 129 (36 * t' + q) = mark) ∧ (¬ (t' = t ∧ ∃ k, 0 ≤ k ∧ k < m ∧ N 136 (N 137 k) = q) → N1 129 (36 * t' + q) = N 25 (36 * t' + inn (N 24 0) q))) ?_ ?_
  · refine wh_for (fun i z => ∃ N1, z = ((N1, G), (i : Int)) ∧ (∀ a, a ≠ 129 → N1 a = staM N a) ∧ (∀ i, 0 ≤ N1 129 i ∧ N1 129 i < 6) ∧ ∀ t' q, 0 ≤ t' → t' < N 24 2 → 0 ≤ q → q < N 24 0 * N 24 1 → ((t' = t ∧ ∃ k, 0 ≤ k ∧ k < (i : Int) ∧ N 136 (N 137 k) = q) → N1 129 (36 * t' + q) = mark) ∧ (¬ (t' = t ∧ ∃ k, 0 ≤ k ∧ k < (i : Int) ∧ N 136 (N 137 k) = q) → N1 129 (36 * t' + q) = N 25 (36 * t' + inn (N 24 0) q))) _ m.toNat (by omega) ⟨staM N, rfl, fun _ _ => rfl, sS.2.2.2.1, fun t' q t0' t1' q0 q1 => ⟨fun ⟨_, k, k0, k1, _⟩ => by omega, fun _ => ?_⟩⟩ ?_ ?_
    · have := sS.2.2.2.2.1 0 t' q (Or.inl (Nat.le_refl _)) t0' t1' q0 q1
      rw [show 216 * ((0 : Nat) : Int) + 36 * t' + q = 36 * t' + q by omega] at this
      exact this
    · rintro i _ hi ⟨N1, rfl, f, hb, hv⟩
      obtain ⟨hs1, hs2, hs3⟩ := hst i (by omega) (by omega)
      have f124 : N1 124 = staM N 124 := f 124 (by omega)
      have q22 : N1 124 22 = 129 := by rw [f124]; exact pr124.p22 sC.2.1
      have q31 : N1 124 31 = 136 := by rw [f124]; exact pr124.p31 sC.2.1
      have q32 : N1 124 32 = 137 := by rw [f124]; exact pr124.p32 sC.2.1
      have e137 : N1 137 = N 137 := (f 137 (by omega)).trans h137
      have e136 : N1 136 = N 136 := (f 136 (by omega)).trans h136
      unfold M_X11_isDrawn_b7
      dsimp only
      repeat' (with_reducible first | refine k_gf (by first | assumption | omega) (by first | assumption | ((try simp (disch := omega) only [sr_s, sr_a, sr_sr, u1_s, u1_k, q22, q31, q32, e137, e136]); exact rfl)) ?_ | refine k_gr (by first | assumption | omega) (by first | assumption | ((try simp (disch := omega) only [sr_s, sr_a, sr_sr, u1_s, u1_k, q22, q31, q32, e137, e136]); exact rfl)) (by omega) ?_ | refine k_ald (by first | assumption | omega) (by first | assumption | exact rfl) (by omega) (by omega) (by omega) (by first | assumption | ((try simp (disch := omega) only [sr_s, sr_a, sr_sr, u1_s, u1_k, q22, q31, q32, e137, e136]); exact rfl)) ?_ | refine k_ifT (by first | (simp (disch := omega) only [w32_id]; first | done | omega) | omega) ?_ | refine k_ifF (by first | (simp (disch := omega) only [w32_id]; first | done | omega) | omega) ?_ | refine k_pf (by first | assumption | omega) (by (try simp (disch := omega) only [sr_s, sr_a, sr_sr, u1_u1, q22, q31, q32, e137, e136]); exact rfl) ?_ | refine k_ast (by first | assumption | omega) (by first | assumption | exact rfl) (by omega) (by omega) (by omega) (by (try simp (disch := omega) only [sr_s, sr_a, sr_sr, u1_u1, q22, q31, q32, e137, e136]); exact rfl) ?_ | refine k_irm (by omega) (by omega) (by omega) (by omega) ?_ | refine k_idv (by omega) (by omega) (by omega) (by omega) ?_ | refine k_tk (by first | assumption | omega) ?_ | refine k_rp (by omega) ?_ | refine k_aldR (by first | assumption | omega) (by first | assumption | exact rfl) (by omega) (by omega) (by omega) (by first | assumption | ((try simp (disch := omega) only [sr_s, sr_a, sr_sr, u1_s, u1_k, q22, q31, q32, e137, e136]); exact rfl)) (by omega) ?_ | refine k_astR (by first | assumption | omega) (by first | assumption | exact rfl) (by omega) (by omega) (by omega) (by first | assumption | omega) (by (try simp (disch := omega) only [sr_s, sr_a, sr_sr, u1_u1, q22, q31, q32, e137, e136]); exact rfl) ?_ | refine k_pz (by first | assumption | omega) (by omega) (by (try simp (disch := omega) only [sr_s, sr_a, sr_sr, u1_u1, q22, q31, q32, e137, e136]); exact rfl) ?_ | refine k_alen (by first | assumption | omega) (by first | assumption | exact rfl) ?_ | refine k_cpy (by first | assumption | omega) (by first | assumption | omega) (by first | assumption | exact rfl) (by first | assumption | exact rfl) (by omega) (by omega) (by omega) (by omega) (by omega) (by omega) (by omega) (by omega) (by (try simp (disch := omega) only [sr_s, sr_a, sr_sr, u1_u1, q22, q31, q32, e137, e136]); exact rfl) ?_)
      refine Ok.ret ⟨_, rfl, fun a ha => by rw [sr_a _ _ ha]; exact f a ha, fun j => ?_, fun t' q t0' t1' q0 q1 => ?_⟩
      · rw [sr_s]
        by_cases y : j = 36 * t + N 136 (N 137 i)
        · rw [u1_e _ _ y]; exact hmk
        · rw [u1_k _ _ y]; exact hb j
      · rw [sr_s]
        have h1 := hv t' q t0' t1' q0 q1
        by_cases y : 36 * t' + q = 36 * t + N 136 (N 137 i)
        · rw [u1_e _ _ y]
          have : t' = t ∧ q = N 136 (N 137 i) := by omega
          exact ⟨fun _ => rfl, fun z => absurd ⟨this.1, i, by omega, by omega, this.2.symm⟩ z⟩
        · rw [u1_k _ _ y]
          refine ⟨?_, fun z => h1.2 (fun ⟨w1, k, k0, k1, w2⟩ => z ⟨w1, k, k0, by omega, w2⟩)⟩
          rintro ⟨w1, k, k0, k1, w2⟩
          refine h1.1 ⟨w1, k, k0, ?_, w2⟩
          by_cases w3 : k = (i : Int)
          · subst w3; subst w1; exact absurd (by rw [w2]) y
          · omega
    · rintro _ ⟨N1, rfl, f, hb, hv⟩
      unfold M_X11_isDrawn_b7
      dsimp only
      rw [show ((m.toNat : Nat) : Int) = m by omega] at hv ⊢
      exact k_ifF (by rw [w32_id (by omega) (by omega)]; omega) (Ok.ret ⟨N1, rfl, f, hb, hv⟩)
  · rintro _ ⟨N1, rfl, f, hb, hv⟩
    have hC1 : rC N1 G rg (N 24 0) (N 24 1) (N 24 2) (N 26) (N 27) := sC.cg (fun a _ h2 _ => f a h2) (fun i _ => by rw [f 124 (by omega)])
    have hcb : ∀ i, 0 ≤ drw (N 25) t mark S i ∧ drw (N 25) t mark S i < 6 := drw_b (fun i => by have := hwf6.2.2.2.2.2.2.2.2.2.2.2.2.2.2 i; exact this) hmk.1 hmk.2
    have hwd : wfW (N 24 0) (N 24 1) (N 24 2) 6 (N 26) (N 27) (N 24 6) (drw (N 25) t mark S) := by
      obtain ⟨z1, z2, z3, z4, z5, z6, z7, z8, z9, z10, z11, z12, z13, z14, -⟩ := hwf6
      exact ⟨z1, z2, z3, z4, z5, z6, z7, z8, z9, z10, z11, z12, z13, z14, hcb⟩
    have hS1 : rSt N1 N1 (N 24 0) (N 24 1) (N 24 2) 6 (N 26) (N 27) (N 24 6) (drw (N 25) t mark S) 0 0 := by
      refine ⟨fun _ _ _ _ => rfl, fun _ _ => rfl, by rw [f 124 (by omega)]; exact sS.2.2.1, hb, fun k t' q hk t0' t1' q0 q1 => ?_, fun k t hk => by omega⟩
      have hk : k = 0 := by omega
      subst hk
      rw [show 216 * ((0 : Nat) : Int) + 36 * t' + q = 36 * t' + q by omega]
      show _ = drw (N 25) t mark S (36 * t' + inn (N 24 0) q)
      have hqi := inn_in a1 a2 b1 b2 q0 q1
      have hq36 := inV_36 a2 b2 hqi
      have h1 := hv t' q t0' t1' q0 q1
      have hSq := hS _ hqi
      rw [idx_inn a1 a2 q0] at hSq
      by_cases y : t' = t
      · subst y
        rw [drw_at hq36.1 hq36.2]
        by_cases w : S (inn (N 24 0) q) = true
        · rw [if_pos w]; exact h1.1 ⟨rfl, hSq.1 w⟩
        · rw [if_neg w]; exact h1.2 (fun z => w (hSq.2 z.2))
      · rw [h1.2 (fun z => y z.1)]
        unfold drw
        rw [if_neg (by omega)]
    unfold M_X11_isDrawn_p42
    refine Ok.bind (X11_steps_ok hC1 hwd hn.1 (by omega) hS1) ?_
    rintro ⟨N2, G2⟩ ⟨eG, h2⟩
    dsimp only at eG h2
    subst eG
    have hC2 := hC1.cg h2.1 h2.2.1
    have hv2 := h2.2.2.2.2.1 n.toNat u (idx (N 24 0) p) (Or.inl (Nat.le_refl _)) hu.1 hu.2 hpx.1 hpx.2
    rw [show ((n.toNat : Nat) : Int) = n by omega, inn_idx a1 a2 hin] at hv2
    have hbe := X11_behind_ok (M := N2) (n := n) (t := u) (i := idx (N 24 0) p) hG (pr124.p22 hC2.2.1) (by omega) (by omega)
    have hvb := h2.2.2.2.1 (216 * n + 36 * u + idx (N 24 0) p)
    rw [hv2] at hbe hvb
    have hq2 : rQ N N2 := sQ.trans ⟨fun a ha => (h2.1 a (by omega) (by omega) (by omega)).trans (f a (by omega)), fun k _ _ _ k3 _ _ => (h2.2.1 k k3).trans (by rw [f 124 (by omega)]), h2.2.2.2.1⟩
    have g136 : N2 136 = N 136 := by rw [h2.1 136 (by omega) (by omega) (by omega), f 136 (by omega)]; exact h136
    have g137 : N2 137 = N 137 := by rw [h2.1 137 (by omega) (by omega) (by omega), f 137 (by omega)]; exact h137
    have g36 : N2 124 36 = N 124 36 := by rw [h2.2.1 36 (by omega), f 124 (by omega)]; exact h36
    refine k_eq hbe ?_
    by_cases y : bh (N 24 0) (N 24 1) (N 24 2) (N 26) (N 27) (N 24 6) (drw (N 25) t mark S) n.toNat (36 * u + p) = due
    · refine k_ifT (by rw [y]) (Ok.ret ⟨N2, hq2, g136, g137, g36, Or.inl ⟨rfl, y⟩⟩)
    · refine k_ifF (by rw [w32_id (by omega) (by omega), w32_id (by omega) (by omega)]; exact y) (Ok.ret ⟨N2, hq2, g136, g137, g36, Or.inr ⟨rfl, y⟩⟩)
theorem dep_rf (hwf : wfW (M 24 0) (M 24 1) (M 24 2) 6 (M 26) (M 27) (M 24 6) (M 25)) (hmk : 0 ≤ mark ∧ mark < 6) (hu : 0 ≤ u ∧ u < M 24 2) (hin : inV (M 24 0) (M 24 1) p) : dep (Wst M t mark u p due n) (fun q => inV (M 24 0) (M 24 1) q ∧ HG (M 24 0) (M 24 1) (M 26) (M 27) u p n.toNat t q) := by
  intro S S' hS hW
  unfold Wst at *
  rw [← hW]
  have hcb : ∀ i, 0 ≤ drw (M 25) t mark S' i ∧ drw (M 25) t mark S' i < 6 := drw_b (fun i => hwf.2.2.2.2.2.2.2.2.2.2.2.2.2.2 i) hmk.1 hmk.2
  have hf : wfW (M 24 0) (M 24 1) (M 24 2) 6 (M 26) (M 27) (M 24 6) (drw (M 25) t mark S') := by
    obtain ⟨z1, z2, z3, z4, z5, z6, z7, z8, z9, z10, z11, z12, z13, z14, -⟩ := hwf
    exact ⟨z1, z2, z3, z4, z5, z6, z7, z8, z9, z10, z11, z12, z13, z14, hcb⟩
  have := HG_dep (ce' := drw (M 25) t mark S) hf hu.1 hu.2 hin (n := n.toNat) (fun t' q hH => ?_) n.toNat (Nat.le_refl _) u p (by rw [Nat.sub_self]; exact ⟨rfl, rfl⟩)
  · exact this
  · obtain ⟨ht', hq⟩ := HG_in hf hu.1 hu.2 hin _ t' q hH
    have hq36 := inV_36 hwf.2.1 hwf.2.2.2.1 hq
    by_cases y : t' = t
    · subst y
      rw [drw_at hq36.1 hq36.2, drw_at hq36.1 hq36.2, hS q hq36.1 hq36.2 ⟨hq, hH⟩]
    · unfold drw
      rw [if_neg (by omega), if_neg (by omega)]
end SA
