/-! ring: the reference's copying, the class's end -/
section GO
variable {M : Int → Int → Int} {G : GG} {rd tw : Int}
/-- what the reference's ring leaves -/
def rgF (M F : Int → Int → Int) (rd tw : Int) : Prop := (∀ a, a ≠ 124 → a ≠ 126 → F a = M a) ∧ (∀ j, j ≠ 1 → j ≠ 2 → j ≠ 20 → j ≠ 21 → F 124 j = M 124 j) ∧ F 124 1 = 0 ∧ F 124 2 = -1 ∧ F 124 20 = 0 ∧ F 124 21 = 0 ∧ (∀ k, 0 ≤ k → k < 216 → F 126 k = M (rd + 1) k) ∧ (∀ t, 0 ≤ t → t < tw → F 126 (216 + t) = M (rd + 2) t) ∧ (∀ i, 0 ≤ i → i < 24 → F 126 (222 + i) = M (rd + 3) i) ∧ F 126 246 = 0 ∧ F 126 247 = 0
theorem rg_l3 {t : Nat} {V : Int → Int} (hG : gAll G) (hg : gRg G rd) (p17 : M 124 17 = 126) (m3 : M 124 3 = rd) (p9 : M rd 9 = rd + 3) (ht : t < 6) : Ok (M_X11_ring_w172 FU (sr M 126 V, G) 124 (t : Int) 0) (fun z => ∃ W, z = .inl ((sr M 126 W, G), (t : Int) + 1) ∧ (∀ k, ¬ (222 + 4 * (t : Int) ≤ k ∧ k < 226 + 4 * (t : Int)) → W k = V k) ∧ ∀ j, 0 ≤ j → j < 4 → W (222 + 4 * (t : Int) + j) = M (rd + 3) (4 * (t : Int) + j)) := by
  have k124 := gk_124 hG
  have k126 := gk_126 hG
  have l126 := gl_126 hG
  obtain ⟨r0, kr, -, -, ⟨k3, l3⟩, -⟩ := hg
  unfold M_X11_ring_w172 M_X11_ring_p210
  refine Ok.bind (Q := fun b => ∃ W, b = (sr M 126 W, G) ∧ (∀ k, ¬ (222 + 4 * (t : Int) ≤ k ∧ k < 226 + 4 * (t : Int)) → W k = V k) ∧ ∀ j, 0 ≤ j → j < 4 → W (222 + 4 * (t : Int) + j) = M (rd + 3) (4 * (t : Int) + j)) ?_ ?_
  · refine wh_for (fun i s => ∃ W, s = ((sr M 126 W, G), (i : Int)) ∧ (∀ k, ¬ (222 + 4 * (t : Int) ≤ k ∧ k < 226 + 4 * (t : Int)) → W k = V k) ∧ ∀ j, 0 ≤ j → j < (i : Int) → W (222 + 4 * (t : Int) + j) = M (rd + 3) (4 * (t : Int) + j)) _ 4 (by omega) ⟨V, rfl, fun _ _ => rfl, fun j j0 j1 => by omega⟩ ?_ ?_
    · rintro i _ hi ⟨W, rfl, h1, h2⟩
      have hx := fun (_ : True) => h1
      have hy := fun (_ : True) => h2
      clear h1 h2
      unfold M_X11_ring_b172
      repeat' (with_reducible first | refine k_gf (by first | assumption | omega) (by first | assumption | ((try simp (disch := omega) only [sr_s, sr_a, sr_sr, u1_s, u1_k, p17, m3, p9]); exact rfl)) ?_ | refine k_gr (by first | assumption | omega) (by first | assumption | ((try simp (disch := omega) only [sr_s, sr_a, sr_sr, u1_s, u1_k, p17, m3, p9]); exact rfl)) (by omega) ?_ | refine k_ald (by first | assumption | omega) (by first | assumption | exact rfl) (by omega) (by omega) (by omega) (by first | assumption | ((try simp (disch := omega) only [sr_s, sr_a, sr_sr, u1_s, u1_k, p17, m3, p9]); exact rfl)) ?_ | refine k_ifT (by first | (simp (disch := omega) only [w32_id]; first | done | omega) | omega) ?_ | refine k_ifF (by first | (simp (disch := omega) only [w32_id]; first | done | omega) | omega) ?_ | refine k_pf (by first | assumption | omega) (by (try simp (disch := omega) only [sr_s, sr_a, sr_sr, u1_u1, p17, m3, p9]); exact rfl) ?_ | refine k_ast (by first | assumption | omega) (by first | assumption | exact rfl) (by omega) (by omega) (by omega) (by (try simp (disch := omega) only [sr_s, sr_a, sr_sr, u1_u1, p17, m3, p9]); exact rfl) ?_ | refine k_irm (by omega) (by omega) (by omega) (by omega) ?_ | refine k_idv (by omega) (by omega) (by omega) (by omega) ?_ | refine k_tk (by first | assumption | omega) ?_ | refine k_rp (by omega) ?_ | refine k_aldR (by first | assumption | omega) (by first | assumption | exact rfl) (by omega) (by omega) (by omega) (by first | assumption | ((try simp (disch := omega) only [sr_s, sr_a, sr_sr, u1_s, u1_k, p17, m3, p9]); exact rfl)) (by omega) ?_ | refine k_astR (by first | assumption | omega) (by first | assumption | exact rfl) (by omega) (by omega) (by omega) (by first | assumption | omega) (by (try simp (disch := omega) only [sr_s, sr_a, sr_sr, u1_u1, p17, m3, p9]); exact rfl) ?_ | refine k_pz (by first | assumption | omega) (by omega) (by (try simp (disch := omega) only [sr_s, sr_a, sr_sr, u1_u1, p17, m3, p9]); exact rfl) ?_ | refine k_alen (by first | assumption | omega) (by first | assumption | exact rfl) ?_ | refine k_cpy (by first | assumption | omega) (by first | assumption | omega) (by first | assumption | exact rfl) (by first | assumption | exact rfl) (by omega) (by omega) (by omega) (by omega) (by omega) (by omega) (by omega) (by omega) (by (try simp (disch := omega) only [sr_s, sr_a, sr_sr, u1_u1, p17, m3, p9]); exact rfl) ?_)
      refine Ok.ret ⟨_, rfl, fun k hk => ?_, fun j j0 j1 => ?_⟩
      · rw [u1_k _ _ (by omega)]; exact hx trivial k hk
      · by_cases y : j = (i : Int)
        · rw [y, u1_s]
        · rw [u1_k _ _ (by omega)]; exact hy trivial j j0 (by omega)
    · rintro _ ⟨W, rfl, h1, h2⟩
      unfold M_X11_ring_b172
      dsimp only
      refine k_ifF (by decide) (Ok.ret ⟨W, rfl, h1, h2⟩)
  · rintro _ ⟨W, rfl, h1, h2⟩
    exact Ok.ret ⟨W, rfl, h1, h2⟩
theorem rg_l2 {V : Int → Int} (hG : gAll G) (hg : gRg G rd) (p17 : M 124 17 = 126) (m3 : M 124 3 = rd) (p8 : M rd 8 = rd + 2) (p9 : M rd 9 = rd + 3) (n3 : M rd 3 = tw) (t0 : 0 ≤ tw) (t6 : tw ≤ 6) (hV : ∀ k, 0 ≤ k → k < 216 → V k = M (rd + 1) k) : Ok (M_X11_ring_w129 FU (sr M 126 V, G) 124 0) (fun z => ∃ F, z = ((F, G), tw) ∧ rgF M F rd tw) := by
  have k124 := gk_124 hG
  have k126 := gk_126 hG
  have l126 := gl_126 hG
  have hg0 := hg
  obtain ⟨r0, kr, -, ⟨k2, l2⟩, -, -⟩ := hg0
  unfold M_X11_ring_w129
  refine Ok.bind (Q := fun b => ∃ W, b = (sr M 126 W, G) ∧ (∀ k, 0 ≤ k → k < 216 → W k = M (rd + 1) k) ∧ (∀ t, 0 ≤ t → t < tw → W (216 + t) = M (rd + 2) t) ∧ ∀ i, 0 ≤ i → i < 24 → W (222 + i) = M (rd + 3) i) ?_ ?_
  · refine wh_for (fun i s => ∃ W, s = ((sr M 126 W, G), (i : Int)) ∧ (∀ k, 0 ≤ k → k < 216 → W k = M (rd + 1) k) ∧ (∀ t, 0 ≤ t → t < tw → t < (i : Int) → W (216 + t) = M (rd + 2) t) ∧ ∀ j, 0 ≤ j → j < 4 * (i : Int) → W (222 + j) = M (rd + 3) j) _ 6 (by omega) ⟨V, rfl, hV, fun t t0 t1 t2 => by omega, fun j j0 j1 => by omega⟩ ?_ ?_
    · rintro i _ hi ⟨W, rfl, h1, h2, h3⟩
      have hstep : ∀ x, ((i : Int) < tw → x = M (rd + 2) (i : Int)) → Ok (M_X11_ring_p169 (sr M 126 W, G) 124 (i : Int) 126 (216 + (i : Int)) x) (lo (fun s => ∃ W, s = ((sr M 126 W, G), ((i + 1 : Nat) : Int)) ∧ (∀ k, 0 ≤ k → k < 216 → W k = M (rd + 1) k) ∧ (∀ t, 0 ≤ t → t < tw → t < ((i + 1 : Nat) : Int) → W (216 + t) = M (rd + 2) t) ∧ ∀ j, 0 ≤ j → j < 4 * ((i + 1 : Nat) : Int) → W (222 + j) = M (rd + 3) j) (fun b => ∃ W, b = (sr M 126 W, G) ∧ (∀ k, 0 ≤ k → k < 216 → W k = M (rd + 1) k) ∧ (∀ t, 0 ≤ t → t < tw → W (216 + t) = M (rd + 2) t) ∧ ∀ i, 0 ≤ i → i < 24 → W (222 + i) = M (rd + 3) i)) := by
        intro x hx
        unfold M_X11_ring_p169
        refine k_ast k126 l126 (by omega) (by omega) (by omega) (M' := sr M 126 (u1 W (216 + (i : Int)) x)) (by rw [sr_s, sr_sr]) ?_
        refine (rg_l3 (t := i) hG hg p17 m3 p9 hi).mono ?_
        rintro _ ⟨W2, rfl, g1, g2⟩
        refine ⟨W2, by rw [Int.natCast_add]; rfl, fun k k0 k1 => ?_, fun t t0 t1 t2 => ?_, fun j j0 j1 => ?_⟩
        · rw [g1 k (by omega), u1_k _ _ (by omega)]; exact h1 k k0 k1
        · rw [g1 _ (by omega)]
          by_cases y : t = (i : Int)
          · rw [y, u1_s]; exact hx (by omega)
          · rw [u1_k _ _ (by omega)]; exact h2 t t0 t1 (by omega)
        · by_cases y : j < 4 * (i : Int)
          · rw [g1 _ (by omega), u1_k _ _ (by omega)]; exact h3 j j0 y
          · have := g2 (j - 4 * (i : Int)) (by omega) (by omega)
            rw [show 222 + 4 * (i : Int) + (j - 4 * (i : Int)) = 222 + j by omega, show 4 * (i : Int) + (j - 4 * (i : Int)) = j by omega] at this
            exact this
      have hx := fun (_ : True) => hstep
      clear h1 h2 h3 hstep
      unfold M_X11_ring_b129
      by_cases y : (i : Int) < tw
      · repeat' (with_reducible first | refine k_gf (by first | assumption | omega) (by first | assumption | ((try simp (disch := omega) only [sr_s, sr_a, sr_sr, u1_s, u1_k, p17, m3, n3, p8]); exact rfl)) ?_ | refine k_gr (by first | assumption | omega) (by first | assumption | ((try simp (disch := omega) only [sr_s, sr_a, sr_sr, u1_s, u1_k, p17, m3, n3, p8]); exact rfl)) (by omega) ?_ | refine k_ald (by first | assumption | omega) (by first | assumption | exact rfl) (by omega) (by omega) (by omega) (by first | assumption | ((try simp (disch := omega) only [sr_s, sr_a, sr_sr, u1_s, u1_k, p17, m3, n3, p8]); exact rfl)) ?_ | refine k_ifT (by first | (simp (disch := omega) only [w32_id]; first | done | omega) | omega) ?_ | refine k_ifF (by first | (simp (disch := omega) only [w32_id]; first | done | omega) | omega) ?_ | refine k_pf (by first | assumption | omega) (by (try simp (disch := omega) only [sr_s, sr_a, sr_sr, u1_u1, p17, m3, n3, p8]); exact rfl) ?_ | refine k_ast (by first | assumption | omega) (by first | assumption | exact rfl) (by omega) (by omega) (by omega) (by (try simp (disch := omega) only [sr_s, sr_a, sr_sr, u1_u1, p17, m3, n3, p8]); exact rfl) ?_ | refine k_irm (by omega) (by omega) (by omega) (by omega) ?_ | refine k_idv (by omega) (by omega) (by omega) (by omega) ?_ | refine k_tk (by first | assumption | omega) ?_ | refine k_rp (by omega) ?_ | refine k_aldR (by first | assumption | omega) (by first | assumption | exact rfl) (by omega) (by omega) (by omega) (by first | assumption | ((try simp (disch := omega) only [sr_s, sr_a, sr_sr, u1_s, u1_k, p17, m3, n3, p8]); exact rfl)) (by omega) ?_ | refine k_astR (by first | assumption | omega) (by first | assumption | exact rfl) (by omega) (by omega) (by omega) (by first | assumption | omega) (by (try simp (disch := omega) only [sr_s, sr_a, sr_sr, u1_u1, p17, m3, n3, p8]); exact rfl) ?_ | refine k_pz (by first | assumption | omega) (by omega) (by (try simp (disch := omega) only [sr_s, sr_a, sr_sr, u1_u1, p17, m3, n3, p8]); exact rfl) ?_ | refine k_alen (by first | assumption | omega) (by first | assumption | exact rfl) ?_ | refine k_cpy (by first | assumption | omega) (by first | assumption | omega) (by first | assumption | exact rfl) (by first | assumption | exact rfl) (by omega) (by omega) (by omega) (by omega) (by omega) (by omega) (by omega) (by omega) (by (try simp (disch := omega) only [sr_s, sr_a, sr_sr, u1_u1, p17, m3, n3, p8]); exact rfl) ?_)
        exact hx trivial _ (fun _ => rfl)
      · repeat' (with_reducible first | refine k_gf (by first | assumption | omega) (by first | assumption | ((try simp (disch := omega) only [sr_s, sr_a, sr_sr, u1_s, u1_k, p17, m3, n3, p8]); exact rfl)) ?_ | refine k_gr (by first | assumption | omega) (by first | assumption | ((try simp (disch := omega) only [sr_s, sr_a, sr_sr, u1_s, u1_k, p17, m3, n3, p8]); exact rfl)) (by omega) ?_ | refine k_ald (by first | assumption | omega) (by first | assumption | exact rfl) (by omega) (by omega) (by omega) (by first | assumption | ((try simp (disch := omega) only [sr_s, sr_a, sr_sr, u1_s, u1_k, p17, m3, n3, p8]); exact rfl)) ?_ | refine k_ifT (by first | (simp (disch := omega) only [w32_id]; first | done | omega) | omega) ?_ | refine k_ifF (by first | (simp (disch := omega) only [w32_id]; first | done | omega) | omega) ?_ | refine k_pf (by first | assumption | omega) (by (try simp (disch := omega) only [sr_s, sr_a, sr_sr, u1_u1, p17, m3, n3, p8]); exact rfl) ?_ | refine k_ast (by first | assumption | omega) (by first | assumption | exact rfl) (by omega) (by omega) (by omega) (by (try simp (disch := omega) only [sr_s, sr_a, sr_sr, u1_u1, p17, m3, n3, p8]); exact rfl) ?_ | refine k_irm (by omega) (by omega) (by omega) (by omega) ?_ | refine k_idv (by omega) (by omega) (by omega) (by omega) ?_ | refine k_tk (by first | assumption | omega) ?_ | refine k_rp (by omega) ?_ | refine k_aldR (by first | assumption | omega) (by first | assumption | exact rfl) (by omega) (by omega) (by omega) (by first | assumption | ((try simp (disch := omega) only [sr_s, sr_a, sr_sr, u1_s, u1_k, p17, m3, n3, p8]); exact rfl)) (by omega) ?_ | refine k_astR (by first | assumption | omega) (by first | assumption | exact rfl) (by omega) (by omega) (by omega) (by first | assumption | omega) (by (try simp (disch := omega) only [sr_s, sr_a, sr_sr, u1_u1, p17, m3, n3, p8]); exact rfl) ?_ | refine k_pz (by first | assumption | omega) (by omega) (by (try simp (disch := omega) only [sr_s, sr_a, sr_sr, u1_u1, p17, m3, n3, p8]); exact rfl) ?_ | refine k_alen (by first | assumption | omega) (by first | assumption | exact rfl) ?_ | refine k_cpy (by first | assumption | omega) (by first | assumption | omega) (by first | assumption | exact rfl) (by first | assumption | exact rfl) (by omega) (by omega) (by omega) (by omega) (by omega) (by omega) (by omega) (by omega) (by (try simp (disch := omega) only [sr_s, sr_a, sr_sr, u1_u1, p17, m3, n3, p8]); exact rfl) ?_)
        exact hx trivial _ (fun h => absurd h y)
    · rintro _ ⟨W, rfl, h1, h2, h3⟩
      unfold M_X11_ring_b129
      dsimp only
      refine k_ifF (by decide) (Ok.ret ⟨W, rfl, h1, fun t t0 t1 => h2 t t0 t1 (by omega), fun i i0 i1 => h3 i i0 (by omega)⟩)
  · rintro _ ⟨W, rfl, h1, h2, h3⟩
    have hx := fun (_ : True) => h1
    have hy := fun (_ : True) => h2
    have hz := fun (_ : True) => h3
    clear h1 h2 h3
    unfold M_X11_ring_p216
    repeat' (with_reducible first | refine k_gf (by first | assumption | omega) (by first | assumption | ((try simp (disch := omega) only [sr_s, sr_a, sr_sr, u1_s, u1_k, p17, m3, n3]); exact rfl)) ?_ | refine k_gr (by first | assumption | omega) (by first | assumption | ((try simp (disch := omega) only [sr_s, sr_a, sr_sr, u1_s, u1_k, p17, m3, n3]); exact rfl)) (by omega) ?_ | refine k_ald (by first | assumption | omega) (by first | assumption | exact rfl) (by omega) (by omega) (by omega) (by first | assumption | ((try simp (disch := omega) only [sr_s, sr_a, sr_sr, u1_s, u1_k, p17, m3, n3]); exact rfl)) ?_ | refine k_ifT (by first | (simp (disch := omega) only [w32_id]; first | done | omega) | omega) ?_ | refine k_ifF (by first | (simp (disch := omega) only [w32_id]; first | done | omega) | omega) ?_ | refine k_pf (by first | assumption | omega) (by (try simp (disch := omega) only [sr_s, sr_a, sr_sr, u1_u1, p17, m3, n3]); exact rfl) ?_ | refine k_ast (by first | assumption | omega) (by first | assumption | exact rfl) (by omega) (by omega) (by omega) (by (try simp (disch := omega) only [sr_s, sr_a, sr_sr, u1_u1, p17, m3, n3]); exact rfl) ?_ | refine k_irm (by omega) (by omega) (by omega) (by omega) ?_ | refine k_idv (by omega) (by omega) (by omega) (by omega) ?_ | refine k_tk (by first | assumption | omega) ?_ | refine k_rp (by omega) ?_ | refine k_aldR (by first | assumption | omega) (by first | assumption | exact rfl) (by omega) (by omega) (by omega) (by first | assumption | ((try simp (disch := omega) only [sr_s, sr_a, sr_sr, u1_s, u1_k, p17, m3, n3]); exact rfl)) (by omega) ?_ | refine k_astR (by first | assumption | omega) (by first | assumption | exact rfl) (by omega) (by omega) (by omega) (by first | assumption | omega) (by (try simp (disch := omega) only [sr_s, sr_a, sr_sr, u1_u1, p17, m3, n3]); exact rfl) ?_ | refine k_pz (by first | assumption | omega) (by omega) (by (try simp (disch := omega) only [sr_s, sr_a, sr_sr, u1_u1, p17, m3, n3]); exact rfl) ?_ | refine k_alen (by first | assumption | omega) (by first | assumption | exact rfl) ?_ | refine k_cpy (by first | assumption | omega) (by first | assumption | omega) (by first | assumption | exact rfl) (by first | assumption | exact rfl) (by omega) (by omega) (by omega) (by omega) (by omega) (by omega) (by omega) (by omega) (by (try simp (disch := omega) only [sr_s, sr_a, sr_sr, u1_u1, p17, m3, n3]); exact rfl) ?_)
    refine k_bd (X11_good_ok hG) (Ok.ret ⟨_, rfl, ?_⟩)
    unfold rtM
    refine ⟨fun a a1 a2 => ?_, fun j j1 j2 j3 j4 => ?_, ?_, ?_, ?_, ?_, fun k k0 k1 => ?_, fun t t0 t1 => ?_, fun i i0 i1 => ?_, ?_, ?_⟩
    · simp (disch := omega) only [sr_a]
    · simp (disch := omega) only [sr_s, sr_a, u1_k]
    · simp (disch := omega) only [sr_s, sr_a, u1_s, u1_k]
    · simp (disch := omega) only [sr_s, sr_a, u1_s, u1_k]
    · simp (disch := omega) only [sr_s, sr_a, u1_s, u1_k]
    · simp (disch := omega) only [sr_s, sr_a, u1_s, u1_k]
    · simp (disch := omega) only [sr_s, sr_a, u1_s, u1_k]; exact hx trivial k k0 k1
    · simp (disch := omega) only [sr_s, sr_a, u1_s, u1_k]; exact hy trivial t t0 t1
    · simp (disch := omega) only [sr_s, sr_a, u1_s, u1_k]; exact hz trivial i i0 i1
    · simp (disch := omega) only [sr_s, sr_a, u1_s, u1_k]
    · simp (disch := omega) only [sr_s, sr_a, u1_s, u1_k]
theorem rg_l1 (hG : gAll G) (hg : gRg G rd) (p17 : M 124 17 = 126) (m3 : M 124 3 = rd) (hp : pRg (M rd) rd) (n3 : M rd 3 = tw) (t0 : 0 ≤ tw) (t6 : tw ≤ 6) : Ok (M_X11_ring_w99 FU (M, G) 124 0) (fun z => ∃ F, z = ((F, G), tw) ∧ rgF M F rd tw) := by
  have k124 := gk_124 hG
  have k126 := gk_126 hG
  have l126 := gl_126 hG
  have hg0 := hg
  obtain ⟨r0, kr, ⟨k1, l1⟩, -⟩ := hg0
  have p7 := hp.1
  unfold M_X11_ring_w99
  refine Ok.bind (Q := fun b => ∃ W, b = (sr M 126 W, G) ∧ (∀ k, 0 ≤ k → k < 216 → W k = M (rd + 1) k)) ?_ ?_
  · refine wh_for (fun i s => ∃ W, s = ((sr M 126 W, G), (i : Int)) ∧ (∀ k, 0 ≤ k → k < (i : Int) → W k = M (rd + 1) k)) _ 216 (by omega) ⟨M 126, by rw [sr_id]; rfl, fun t t0 t1 => by omega⟩ ?_ ?_
    · rintro i _ hi ⟨W, rfl, h1⟩
      have hx := fun (_ : True) => h1
      clear h1
      unfold M_X11_ring_b99
      repeat' (with_reducible first | refine k_gf (by first | assumption | omega) (by first | assumption | ((try simp (disch := omega) only [sr_s, sr_a, sr_sr, u1_s, u1_k, p17, m3, p7]); exact rfl)) ?_ | refine k_gr (by first | assumption | omega) (by first | assumption | ((try simp (disch := omega) only [sr_s, sr_a, sr_sr, u1_s, u1_k, p17, m3, p7]); exact rfl)) (by omega) ?_ | refine k_ald (by first | assumption | omega) (by first | assumption | exact rfl) (by omega) (by omega) (by omega) (by first | assumption | ((try simp (disch := omega) only [sr_s, sr_a, sr_sr, u1_s, u1_k, p17, m3, p7]); exact rfl)) ?_ | refine k_ifT (by first | (simp (disch := omega) only [w32_id]; first | done | omega) | omega) ?_ | refine k_ifF (by first | (simp (disch := omega) only [w32_id]; first | done | omega) | omega) ?_ | refine k_pf (by first | assumption | omega) (by (try simp (disch := omega) only [sr_s, sr_a, sr_sr, u1_u1, p17, m3, p7]); exact rfl) ?_ | refine k_ast (by first | assumption | omega) (by first | assumption | exact rfl) (by omega) (by omega) (by omega) (by (try simp (disch := omega) only [sr_s, sr_a, sr_sr, u1_u1, p17, m3, p7]); exact rfl) ?_ | refine k_irm (by omega) (by omega) (by omega) (by omega) ?_ | refine k_idv (by omega) (by omega) (by omega) (by omega) ?_ | refine k_tk (by first | assumption | omega) ?_ | refine k_rp (by omega) ?_ | refine k_aldR (by first | assumption | omega) (by first | assumption | exact rfl) (by omega) (by omega) (by omega) (by first | assumption | ((try simp (disch := omega) only [sr_s, sr_a, sr_sr, u1_s, u1_k, p17, m3, p7]); exact rfl)) (by omega) ?_ | refine k_astR (by first | assumption | omega) (by first | assumption | exact rfl) (by omega) (by omega) (by omega) (by first | assumption | omega) (by (try simp (disch := omega) only [sr_s, sr_a, sr_sr, u1_u1, p17, m3, p7]); exact rfl) ?_ | refine k_pz (by first | assumption | omega) (by omega) (by (try simp (disch := omega) only [sr_s, sr_a, sr_sr, u1_u1, p17, m3, p7]); exact rfl) ?_ | refine k_alen (by first | assumption | omega) (by first | assumption | exact rfl) ?_ | refine k_cpy (by first | assumption | omega) (by first | assumption | omega) (by first | assumption | exact rfl) (by first | assumption | exact rfl) (by omega) (by omega) (by omega) (by omega) (by omega) (by omega) (by omega) (by omega) (by (try simp (disch := omega) only [sr_s, sr_a, sr_sr, u1_u1, p17, m3, p7]); exact rfl) ?_)
      refine Ok.ret ⟨_, rfl, fun k k0 k1 => ?_⟩
      by_cases y : k = (i : Int)
      · rw [y, u1_s]
      · rw [u1_k _ _ (by omega)]; exact hx trivial k k0 (by omega)
    · rintro _ ⟨W, rfl, h1⟩
      unfold M_X11_ring_b99
      dsimp only
      refine k_ifF (by decide) (Ok.ret ⟨W, rfl, h1⟩)
  · rintro _ ⟨W, rfl, h1⟩
    unfold M_X11_ring_p127
    exact rg_l2 hG hg p17 m3 hp.2.1 hp.2.2.1 n3 t0 t6 h1
end GO
