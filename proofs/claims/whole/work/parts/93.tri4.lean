/-! trials: whole maps -/
section T4
variable {M M1 : Int → Int → Int} {G : GG} {mk n b t s q : Int} {ceT : Int → Int → Int} {A B : Int}
theorem tV_cg {ce : Int → Int} (f : ∀ a, a < 106 → M1 a = M a) (s q : Int) : tV M1 ce s q = tV M ce s q := by
  unfold tV
  rw [f 24 (by omega), f 26 (by omega), f 27 (by omega), f 100 (by omega)]
theorem trI_cg {R : Int → Int} (f : ∀ a, a < 106 → M1 a = M a) (h : trI M R ceT s) : trI M1 R ceT s := fun q q0 q1 hq tr t0 t1 => by
  rw [tV_cg f]
  rw [f 105 (by omega)] at hq
  exact h q q0 q1 hq tr t0 t1
theorem X7_build_ok (hP : chP M G 24 mk n b t) (hmk : mk ≤ 6) (hp111 : pr111 (M 111)) (pa : M 111 1 = A) (pb : M 111 2 = B) (hAB : twoR A B) (hce : ∀ tr i, 0 ≤ ceT tr i ∧ ceT tr i < mk) (s0 : b < s) (s1 : s ≤ n) (hI : trI M (M A) ceT (s - 1)) : Ok (M_X7_build (M, G) 111 s) (fun h => ∃ M1, h = (M1, G) ∧ (∀ a, a ≠ B → a ≠ 114 → M1 a = M a) ∧ trI M (M1 B) ceT s) := by
  have hP' := hP
  have hBn : ∀ a, (a < 112 ∨ 113 < a) → a ≠ B := fun a ha => by unfold twoR at hAB; omega
  have hA : A = 112 ∨ A = 113 := by unfold twoR at hAB; omega
  have hne : A ≠ B := by unfold twoR at hAB; omega
  obtain ⟨⟨hG, ⟨hp99, hd, hmp⟩, ⟨hg, hm, hwf, hw99⟩, ⟨l0, l1', l2, b0, bn, n6, ln, lt, lc, -⟩, hD⟩, hw, hc, -⟩ := hP
  obtain ⟨a1, a2, b1, b2, x1, x6, k2, k6, hco, her, het, -⟩ := hwf
  have ht := lt s (by omega) s1
  have hes := het _ ht.1 ht.2
  have hes0 : 0 ≤ M 27 (4 * M 100 s) ∧ M 27 (4 * M 100 s) ≤ 10 := ⟨hes.1, hes.2.1⟩
  have fm : hid (M 27 (4 * M 100 s) = 1 ∨ M 27 (4 * M 100 s) = 5 ∨ M 27 (4 * M 100 s) = 6 ∨ M 27 (4 * M 100 s) = 7 ∨ M 27 (4 * M 100 s) = 9 → 0 ≤ M 27 (4 * M 100 s + 1) ∧ M 27 (4 * M 100 s + 1) < mk) := hid.put hes.2.2.2.2.2.2.2.2.1
  clear hes
  obtain ⟨ws1, ws2, ws3⟩ := hw s (by omega) s1
  have hcb := cntB_b (M 105 s) 36
  have m5 : M 24 5 = 27 := hm.2.2
  have k24 := gk_24 hG
  have k27 := gk_27 hG
  have l27 := gl_27 hG
  have k99 := gk_99 hG
  have k100 := gk_100 hG
  have l100 := gl_100 hG
  have k103 := gk_103 hG
  have l103 := gl_103 hG
  have k104 := gk_104 hG
  have l104 := gl_104 hG
  have k111 := gk_111 hG
  have p0 := pr111.p0 hp111
  have p3 := pr99.p3 hp99
  have p6 := pr99.p6 hp99
  have p7 := pr99.p7 hp99
  -- the loop, once what stains is listed
  have key : ∀ N : Int → Int → Int, (∀ a, a ≠ 114 → N a = M a) → (M 27 (4 * M 100 s) = 6 → ∀ x, 0 ≤ x → x < 36 → bt (M 105 (s - 1)) x = true → ∀ tr, 0 ≤ tr → tr < 64 → bt (N 114 x) tr = decide (tV M (ceT tr) (s - 1) x = M 27 (4 * M 100 s + 1))) → Ok (M_X7_build_p56 (N, G) 111 s (4 * M 100 s) (M 27 (4 * M 100 s)) (M 27 (4 * M 100 s + 1))) (fun h => ∃ M1, h = (M1, G) ∧ (∀ a, a ≠ B → a ≠ 114 → M1 a = M a) ∧ trI M (M1 B) ceT s) := by
    intro N fN hst
    unfold M_X7_build_p56 M_X7_build_w59 M_X7_build_p263
    refine Ok.bind (Q := fun h => ∃ M1, h = (M1, G) ∧ (∀ a, a ≠ B → M1 a = N a) ∧ ∀ j, 0 ≤ j → j < M 104 s → ∀ tr, 0 ≤ tr → tr < 64 → enc (M1 B) (M 103 (36 * s + j)) tr (tV M (ceT tr) s (M 103 (36 * s + j)))) ?_ ?_
    · refine wh_for (fun i z => ∃ M1, z = ((M1, G), (i : Int)) ∧ (∀ a, a ≠ B → M1 a = N a) ∧ ∀ j, 0 ≤ j → j < (i : Int) → ∀ tr, 0 ≤ tr → tr < 64 → enc (M1 B) (M 103 (36 * s + j)) tr (tV M (ceT tr) s (M 103 (36 * s + j)))) _ (M 104 s).toNat (by omega) ⟨N, rfl, fun _ _ => rfl, fun j j0 j1 => by omega⟩ ?_ ?_
      · rintro i _ hi ⟨M1, rfl, f, hv⟩
        obtain ⟨hin, hbt⟩ := ws2 i (by omega) (by omega)
        have g : ∀ a, a ≠ B → a ≠ 114 → M1 a = M a := fun a ha h4 => (f a ha).trans (fN a h4)
        have g106 : ∀ a, a < 106 → M1 a = M a := fun a ha => g a (hBn a (by omega)) (by omega)
        have f99 : M1 99 = M 99 := g106 99 (by omega)
        have f100 : M1 100 = M 100 := g106 100 (by omega)
        have f103 : M1 103 = M 103 := g106 103 (by omega)
        have f104 : M1 104 = M 104 := g106 104 (by omega)
        have f27 : M1 27 = M 27 := g106 27 (by omega)
        have f24 : M1 24 = M 24 := g106 24 (by omega)
        have f105 : M1 105 = M 105 := g106 105 (by omega)
        have f111 : M1 111 = M 111 := g 111 (hBn 111 (by omega)) (by omega)
        have f114 : M1 114 = N 114 := f 114 (hBn 114 (by omega))
        have fA : M1 A = M A := g A hne (by omega)
        unfold M_X7_build_b59
        dsimp only
        repeat' (with_reducible first | refine k_gf (by first | assumption | omega) (by first | assumption | ((try simp (disch := omega) only [sr_s, sr_a, sr_sr, u1_s, u1_k, f99, f103, f104, f111, p0, p6, p7]); exact rfl)) ?_ | refine k_gr (by first | assumption | omega) (by first | assumption | ((try simp (disch := omega) only [sr_s, sr_a, sr_sr, u1_s, u1_k, f99, f103, f104, f111, p0, p6, p7]); exact rfl)) (by omega) ?_ | refine k_ald (by first | assumption | omega) (by first | assumption | exact rfl) (by omega) (by omega) (by omega) (by first | assumption | ((try simp (disch := omega) only [sr_s, sr_a, sr_sr, u1_s, u1_k, f99, f103, f104, f111, p0, p6, p7]); exact rfl)) ?_ | refine k_ifT (by first | (simp (disch := omega) only [w32_id]; first | done | omega) | omega) ?_ | refine k_ifF (by first | (simp (disch := omega) only [w32_id]; first | done | omega) | omega) ?_ | refine k_pf (by first | assumption | omega) (by (try simp (disch := omega) only [sr_s, sr_a, sr_sr, u1_u1, f99, f103, f104, f111, p0, p6, p7]); exact rfl) ?_ | refine k_ast (by first | assumption | omega) (by first | assumption | exact rfl) (by omega) (by omega) (by omega) (by (try simp (disch := omega) only [sr_s, sr_a, sr_sr, u1_u1, f99, f103, f104, f111, p0, p6, p7]); exact rfl) ?_ | refine k_irm (by omega) (by omega) (by omega) (by omega) ?_ | refine k_idv (by omega) (by omega) (by omega) (by omega) ?_ | refine k_tk (by first | assumption | omega) ?_ | refine k_rp (by omega) ?_ | refine k_aldR (by first | assumption | omega) (by first | assumption | exact rfl) (by omega) (by omega) (by omega) (by first | assumption | ((try simp (disch := omega) only [sr_s, sr_a, sr_sr, u1_s, u1_k, f99, f103, f104, f111, p0, p6, p7]); exact rfl)) (by omega) ?_ | refine k_astR (by first | assumption | omega) (by first | assumption | exact rfl) (by omega) (by omega) (by omega) (by first | assumption | omega) (by (try simp (disch := omega) only [sr_s, sr_a, sr_sr, u1_u1, f99, f103, f104, f111, p0, p6, p7]); exact rfl) ?_ | refine k_pz (by first | assumption | omega) (by omega) (by (try simp (disch := omega) only [sr_s, sr_a, sr_sr, u1_u1, f99, f103, f104, f111, p0, p6, p7]); exact rfl) ?_ | refine k_alen (by first | assumption | omega) (by first | assumption | exact rfl) ?_ | refine k_cpy (by first | assumption | omega) (by first | assumption | omega) (by first | assumption | exact rfl) (by first | assumption | exact rfl) (by omega) (by omega) (by omega) (by omega) (by omega) (by omega) (by omega) (by omega) (by (try simp (disch := omega) only [sr_s, sr_a, sr_sr, u1_u1, f99, f103, f104, f111, p0, p6, p7]); exact rfl) ?_)
        have hpl := X7_place_ok (M := M1) (ceT := ceT) (A := A) (B := B) (s := s) (q := M 103 (36 * s + i)) (i := (i : Int)) (P := lo (fun z => ∃ M1, z = ((M1, G), ((i + 1 : Nat) : Int)) ∧ (∀ a, a ≠ B → M1 a = N a) ∧ ∀ j, 0 ≤ j → j < ((i + 1 : Nat) : Int) → ∀ tr, 0 ≤ tr → tr < 64 → enc (M1 B) (M 103 (36 * s + j)) tr (tV M (ceT tr) s (M 103 (36 * s + j)))) (fun h => ∃ M1, h = (M1, G) ∧ (∀ a, a ≠ B → M1 a = N a) ∧ ∀ j, 0 ≤ j → j < M 104 s → ∀ tr, 0 ≤ tr → tr < 64 → enc (M1 B) (M 103 (36 * s + j)) tr (tV M (ceT tr) s (M 103 (36 * s + j))))) (chP_fr hP' g106) hmk (by rw [f111]; exact hp111) (by rw [f111]; exact pa) (by rw [f111]; exact pb) hAB hce s0 s1 (by rw [fA]; exact trI_cg g106 hI) (by rw [f24]; exact hin) (by rw [f105]; exact hbt) (by rw [f27, f100, f105, f114]; intro z6 x x0 x1 hx tr t0 t1; rw [tV_cg g106]; exact hst z6 x x0 x1 hx tr t0 t1) ?_
        · rw [f27, f100] at hpl
          exact hpl
        · intro M2 h1 h2 h3
          refine ⟨M2, rfl, fun a ha => (h1 a ha).trans (f a ha), fun j j0 j1 tr t0 t1 => ?_⟩
          by_cases y : M 103 (36 * s + j) = M 103 (36 * s + i)
          · rw [y]
            have := h3 tr t0 t1
            rw [tV_cg g106] at this
            exact this
          · by_cases ej : j = i
            · subst ej; exact absurd rfl y
            · exact enc_o (hv j j0 (by omega) tr t0 t1) (fun c c0 c3 => h2 _ (by omega))
      · rintro _ ⟨M1, rfl, f, hv⟩
        have g106 : ∀ a, a < 106 → M1 a = M a := fun a ha => (f a (hBn a (by omega))).trans (fN a (by omega))
        have f99 : M1 99 = M 99 := g106 99 (by omega)
        have f104 : M1 104 = M 104 := g106 104 (by omega)
        have f111 : M1 111 = M 111 := (f 111 (hBn 111 (by omega))).trans (fN 111 (by omega))
        unfold M_X7_build_b59
        dsimp only
        repeat' (with_reducible first | refine k_gf (by first | assumption | omega) (by first | assumption | ((try simp (disch := omega) only [sr_s, sr_a, sr_sr, u1_s, u1_k, f99, f104, f111, p0, p7]); exact rfl)) ?_ | refine k_gr (by first | assumption | omega) (by first | assumption | ((try simp (disch := omega) only [sr_s, sr_a, sr_sr, u1_s, u1_k, f99, f104, f111, p0, p7]); exact rfl)) (by omega) ?_ | refine k_ald (by first | assumption | omega) (by first | assumption | exact rfl) (by omega) (by omega) (by omega) (by first | assumption | ((try simp (disch := omega) only [sr_s, sr_a, sr_sr, u1_s, u1_k, f99, f104, f111, p0, p7]); exact rfl)) ?_ | refine k_ifT (by first | (simp (disch := omega) only [w32_id]; first | done | omega) | omega) ?_ | refine k_ifF (by first | (simp (disch := omega) only [w32_id]; first | done | omega) | omega) ?_ | refine k_pf (by first | assumption | omega) (by (try simp (disch := omega) only [sr_s, sr_a, sr_sr, u1_u1, f99, f104, f111, p0, p7]); exact rfl) ?_ | refine k_ast (by first | assumption | omega) (by first | assumption | exact rfl) (by omega) (by omega) (by omega) (by (try simp (disch := omega) only [sr_s, sr_a, sr_sr, u1_u1, f99, f104, f111, p0, p7]); exact rfl) ?_ | refine k_irm (by omega) (by omega) (by omega) (by omega) ?_ | refine k_idv (by omega) (by omega) (by omega) (by omega) ?_ | refine k_tk (by first | assumption | omega) ?_ | refine k_rp (by omega) ?_ | refine k_aldR (by first | assumption | omega) (by first | assumption | exact rfl) (by omega) (by omega) (by omega) (by first | assumption | ((try simp (disch := omega) only [sr_s, sr_a, sr_sr, u1_s, u1_k, f99, f104, f111, p0, p7]); exact rfl)) (by omega) ?_ | refine k_astR (by first | assumption | omega) (by first | assumption | exact rfl) (by omega) (by omega) (by omega) (by first | assumption | omega) (by (try simp (disch := omega) only [sr_s, sr_a, sr_sr, u1_u1, f99, f104, f111, p0, p7]); exact rfl) ?_ | refine k_pz (by first | assumption | omega) (by omega) (by (try simp (disch := omega) only [sr_s, sr_a, sr_sr, u1_u1, f99, f104, f111, p0, p7]); exact rfl) ?_ | refine k_alen (by first | assumption | omega) (by first | assumption | exact rfl) ?_ | refine k_cpy (by first | assumption | omega) (by first | assumption | omega) (by first | assumption | exact rfl) (by first | assumption | exact rfl) (by omega) (by omega) (by omega) (by omega) (by omega) (by omega) (by omega) (by omega) (by (try simp (disch := omega) only [sr_s, sr_a, sr_sr, u1_u1, f99, f104, f111, p0, p7]); exact rfl) ?_)
        exact Ok.ret ⟨M1, rfl, f, fun j j0 j1 => hv j j0 (by omega)⟩
    · rintro _ ⟨M1, rfl, f, hv⟩
      refine Ok.ret ⟨M1, rfl, fun a ha h4 => (f a ha).trans (fN a h4), fun q q0 q1 hq tr t0 t1 => ?_⟩
      obtain ⟨j, j0, j1, rfl⟩ := ws3 q q0 q1 hq
      exact hv j j0 j1 tr t0 t1
  unfold M_X7_build
  repeat' (with_reducible first | refine k_gf (by first | assumption | omega) (by first | assumption | ((try simp (disch := omega) only [sr_s, sr_a, sr_sr, u1_s, u1_k, p0, p3, l0, m5]); exact rfl)) ?_ | refine k_gr (by first | assumption | omega) (by first | assumption | ((try simp (disch := omega) only [sr_s, sr_a, sr_sr, u1_s, u1_k, p0, p3, l0, m5]); exact rfl)) (by omega) ?_ | refine k_ald (by first | assumption | omega) (by first | assumption | exact rfl) (by omega) (by omega) (by omega) (by first | assumption | ((try simp (disch := omega) only [sr_s, sr_a, sr_sr, u1_s, u1_k, p0, p3, l0, m5]); exact rfl)) ?_ | refine k_ifT (by first | (simp (disch := omega) only [w32_id]; first | done | omega) | omega) ?_ | refine k_ifF (by first | (simp (disch := omega) only [w32_id]; first | done | omega) | omega) ?_ | refine k_pf (by first | assumption | omega) (by (try simp (disch := omega) only [sr_s, sr_a, sr_sr, u1_u1, p0, p3, l0, m5]); exact rfl) ?_ | refine k_ast (by first | assumption | omega) (by first | assumption | exact rfl) (by omega) (by omega) (by omega) (by (try simp (disch := omega) only [sr_s, sr_a, sr_sr, u1_u1, p0, p3, l0, m5]); exact rfl) ?_ | refine k_irm (by omega) (by omega) (by omega) (by omega) ?_ | refine k_idv (by omega) (by omega) (by omega) (by omega) ?_ | refine k_tk (by first | assumption | omega) ?_ | refine k_rp (by omega) ?_ | refine k_aldR (by first | assumption | omega) (by first | assumption | exact rfl) (by omega) (by omega) (by omega) (by first | assumption | ((try simp (disch := omega) only [sr_s, sr_a, sr_sr, u1_s, u1_k, p0, p3, l0, m5]); exact rfl)) (by omega) ?_ | refine k_astR (by first | assumption | omega) (by first | assumption | exact rfl) (by omega) (by omega) (by omega) (by first | assumption | omega) (by (try simp (disch := omega) only [sr_s, sr_a, sr_sr, u1_u1, p0, p3, l0, m5]); exact rfl) ?_ | refine k_pz (by first | assumption | omega) (by omega) (by (try simp (disch := omega) only [sr_s, sr_a, sr_sr, u1_u1, p0, p3, l0, m5]); exact rfl) ?_ | refine k_alen (by first | assumption | omega) (by first | assumption | exact rfl) ?_ | refine k_cpy (by first | assumption | omega) (by first | assumption | omega) (by first | assumption | exact rfl) (by first | assumption | exact rfl) (by omega) (by omega) (by omega) (by omega) (by omega) (by omega) (by omega) (by omega) (by (try simp (disch := omega) only [sr_s, sr_a, sr_sr, u1_u1, p0, p3, l0, m5]); exact rfl) ?_)
  by_cases z6 : M 27 (4 * M 100 s) = 6
  · have hem := fm.get (by omega)
    refine k_ifT (by rw [z6]; decide) ?_
    refine Ok.bind (X7_listStained_ok hP' hmk hp111 pa hA hce (by omega) (by omega) hI hem.1 (by omega)) ?_
    rintro _ ⟨N, rfl, fN, hN⟩
    exact key N fN (fun _ => hN)
  · refine k_ifF (by rw [w32_id (by omega) (by omega)]; exact z6) ?_
    exact key M (fun _ _ => rfl) (fun z => absurd z z6)
/-- the trials by which a place of the last map has a mark -/
theorem X7_having_ok {p due : Int} (hP : chP M G 24 mk n b t) (hmk : mk ≤ 6) (hp111 : pr111 (M 111)) (pa : M 111 1 = A) (pb : M 111 2 = B) (hAB : twoR A B) (hce : ∀ tr i, 0 ≤ ceT tr i ∧ ceT tr i < mk) (hI : trI M (M A) ceT b) (p0' : 0 ≤ p) (p1 : p < 36) (hbt : bt (M 105 n) p = true) (d0 : 0 ≤ due) (d8 : due < 8) : Ok (M_X7_having (M, G) 111 p due) (fun z => ∃ M1 X A' B', z = ((M1, G), X) ∧ (∀ a, (a < 111 ∨ 114 < a) → M1 a = M a) ∧ pr111 (M1 111) ∧ M1 111 1 = A' ∧ M1 111 2 = B' ∧ twoR A' B' ∧ ∀ tr, 0 ≤ tr → tr < 64 → bt X tr = decide (tV M (ceT tr) n p = due)) := by
  have hP' := hP
  obtain ⟨⟨hG, ⟨hp99, hd, hmp⟩, -, ⟨l0, l1', l2, b0, bn, n6, -⟩, hD⟩, -⟩ := hP
  have k99 := gk_99 hG
  have k111 := gk_111 hG
  have p0 := pr111.p0 hp111
  unfold M_X7_having
  repeat' (with_reducible first | refine k_gf (by first | assumption | omega) (by first | assumption | ((try simp (disch := omega) only [sr_s, sr_a, sr_sr, u1_s, u1_k, p0, l2]); exact rfl)) ?_ | refine k_gr (by first | assumption | omega) (by first | assumption | ((try simp (disch := omega) only [sr_s, sr_a, sr_sr, u1_s, u1_k, p0, l2]); exact rfl)) (by omega) ?_ | refine k_ald (by first | assumption | omega) (by first | assumption | exact rfl) (by omega) (by omega) (by omega) (by first | assumption | ((try simp (disch := omega) only [sr_s, sr_a, sr_sr, u1_s, u1_k, p0, l2]); exact rfl)) ?_ | refine k_ifT (by first | (simp (disch := omega) only [w32_id]; first | done | omega) | omega) ?_ | refine k_ifF (by first | (simp (disch := omega) only [w32_id]; first | done | omega) | omega) ?_ | refine k_pf (by first | assumption | omega) (by (try simp (disch := omega) only [sr_s, sr_a, sr_sr, u1_u1, p0, l2]); exact rfl) ?_ | refine k_ast (by first | assumption | omega) (by first | assumption | exact rfl) (by omega) (by omega) (by omega) (by (try simp (disch := omega) only [sr_s, sr_a, sr_sr, u1_u1, p0, l2]); exact rfl) ?_ | refine k_irm (by omega) (by omega) (by omega) (by omega) ?_ | refine k_idv (by omega) (by omega) (by omega) (by omega) ?_ | refine k_tk (by first | assumption | omega) ?_ | refine k_rp (by omega) ?_ | refine k_aldR (by first | assumption | omega) (by first | assumption | exact rfl) (by omega) (by omega) (by omega) (by first | assumption | ((try simp (disch := omega) only [sr_s, sr_a, sr_sr, u1_s, u1_k, p0, l2]); exact rfl)) (by omega) ?_ | refine k_astR (by first | assumption | omega) (by first | assumption | exact rfl) (by omega) (by omega) (by omega) (by first | assumption | omega) (by (try simp (disch := omega) only [sr_s, sr_a, sr_sr, u1_u1, p0, l2]); exact rfl) ?_ | refine k_pz (by first | assumption | omega) (by omega) (by (try simp (disch := omega) only [sr_s, sr_a, sr_sr, u1_u1, p0, l2]); exact rfl) ?_ | refine k_alen (by first | assumption | omega) (by first | assumption | exact rfl) ?_ | refine k_cpy (by first | assumption | omega) (by first | assumption | omega) (by first | assumption | exact rfl) (by first | assumption | exact rfl) (by omega) (by omega) (by omega) (by omega) (by omega) (by omega) (by omega) (by omega) (by (try simp (disch := omega) only [sr_s, sr_a, sr_sr, u1_u1, p0, l2]); exact rfl) ?_)
  unfold M_X7_having_w10
  refine Ok.bind (Q := fun h => ∃ M1 A' B', h = (M1, G) ∧ (∀ a, (a < 111 ∨ 114 < a) → M1 a = M a) ∧ pr111 (M1 111) ∧ M1 111 1 = A' ∧ M1 111 2 = B' ∧ twoR A' B' ∧ trI M (M1 A') ceT n) ?_ ?_
  · refine wh_for (fun i z => ∃ M1 A' B', z = ((M1, G), b + 1 + (i : Int)) ∧ (∀ a, (a < 111 ∨ 114 < a) → M1 a = M a) ∧ pr111 (M1 111) ∧ M1 111 1 = A' ∧ M1 111 2 = B' ∧ twoR A' B' ∧ trI M (M1 A') ceT (b + i)) _ (n - b).toNat (by omega) ⟨M, A, B, by rw [show b + 1 + ((0 : Nat) : Int) = b + 1 by omega], fun _ _ => rfl, hp111, pa, pb, hAB, by rw [show b + ((0 : Nat) : Int) = b by omega]; exact hI⟩ ?_ ?_
    · rintro i _ hi ⟨M1, A', B', rfl, f, hq111, qa, qb, hAB', hI'⟩
      have q0 := pr111.p0 hq111
      have f99 : M1 99 = M 99 := f 99 (by omega)
      have hbu := X7_build_ok (M := M1) (A := A') (B := B') (s := b + 1 + (i : Int)) (ceT := ceT) (chP_fr hP' (fun a ha => f a (by omega))) hmk hq111 qa qb hAB' hce (by omega) (by omega) (by rw [show b + 1 + (i : Int) - 1 = b + i by omega]; exact trI_cg (fun a ha => f a (by omega)) hI')
      unfold M_X7_having_b10
      dsimp only
      repeat' (with_reducible first | refine k_gf (by first | assumption | omega) (by first | assumption | ((try simp (disch := omega) only [sr_s, sr_a, sr_sr, u1_s, u1_k, q0, f99, l1']); exact rfl)) ?_ | refine k_gr (by first | assumption | omega) (by first | assumption | ((try simp (disch := omega) only [sr_s, sr_a, sr_sr, u1_s, u1_k, q0, f99, l1']); exact rfl)) (by omega) ?_ | refine k_ald (by first | assumption | omega) (by first | assumption | exact rfl) (by omega) (by omega) (by omega) (by first | assumption | ((try simp (disch := omega) only [sr_s, sr_a, sr_sr, u1_s, u1_k, q0, f99, l1']); exact rfl)) ?_ | refine k_ifT (by first | (simp (disch := omega) only [w32_id]; first | done | omega) | omega) ?_ | refine k_ifF (by first | (simp (disch := omega) only [w32_id]; first | done | omega) | omega) ?_ | refine k_pf (by first | assumption | omega) (by (try simp (disch := omega) only [sr_s, sr_a, sr_sr, u1_u1, q0, f99, l1']); exact rfl) ?_ | refine k_ast (by first | assumption | omega) (by first | assumption | exact rfl) (by omega) (by omega) (by omega) (by (try simp (disch := omega) only [sr_s, sr_a, sr_sr, u1_u1, q0, f99, l1']); exact rfl) ?_ | refine k_irm (by omega) (by omega) (by omega) (by omega) ?_ | refine k_idv (by omega) (by omega) (by omega) (by omega) ?_ | refine k_tk (by first | assumption | omega) ?_ | refine k_rp (by omega) ?_ | refine k_aldR (by first | assumption | omega) (by first | assumption | exact rfl) (by omega) (by omega) (by omega) (by first | assumption | ((try simp (disch := omega) only [sr_s, sr_a, sr_sr, u1_s, u1_k, q0, f99, l1']); exact rfl)) (by omega) ?_ | refine k_astR (by first | assumption | omega) (by first | assumption | exact rfl) (by omega) (by omega) (by omega) (by first | assumption | omega) (by (try simp (disch := omega) only [sr_s, sr_a, sr_sr, u1_u1, q0, f99, l1']); exact rfl) ?_ | refine k_pz (by first | assumption | omega) (by omega) (by (try simp (disch := omega) only [sr_s, sr_a, sr_sr, u1_u1, q0, f99, l1']); exact rfl) ?_ | refine k_alen (by first | assumption | omega) (by first | assumption | exact rfl) ?_ | refine k_cpy (by first | assumption | omega) (by first | assumption | omega) (by first | assumption | exact rfl) (by first | assumption | exact rfl) (by omega) (by omega) (by omega) (by omega) (by omega) (by omega) (by omega) (by omega) (by (try simp (disch := omega) only [sr_s, sr_a, sr_sr, u1_u1, q0, f99, l1']); exact rfl) ?_)
      refine Ok.bind hbu ?_
      rintro _ ⟨M2, rfl, f2, hI2⟩
      have hB'n : ∀ a, (a < 112 ∨ 113 < a) → a ≠ B' := fun a ha => by unfold twoR at hAB'; omega
      have hA2 : 0 ≤ A' ∧ 0 ≤ B' := by unfold twoR at hAB'; omega
      have g111 : M2 111 = M1 111 := f2 111 (hB'n 111 (by omega)) (by omega)
      repeat' (with_reducible first | refine k_gf (by first | assumption | omega) (by first | assumption | ((try simp (disch := omega) only [sr_s, sr_a, sr_sr, u1_s, u1_k, g111, qa, qb]); exact rfl)) ?_ | refine k_gr (by first | assumption | omega) (by first | assumption | ((try simp (disch := omega) only [sr_s, sr_a, sr_sr, u1_s, u1_k, g111, qa, qb]); exact rfl)) (by omega) ?_ | refine k_ald (by first | assumption | omega) (by first | assumption | exact rfl) (by omega) (by omega) (by omega) (by first | assumption | ((try simp (disch := omega) only [sr_s, sr_a, sr_sr, u1_s, u1_k, g111, qa, qb]); exact rfl)) ?_ | refine k_ifT (by first | (simp (disch := omega) only [w32_id]; first | done | omega) | omega) ?_ | refine k_ifF (by first | (simp (disch := omega) only [w32_id]; first | done | omega) | omega) ?_ | refine k_pf (by first | assumption | omega) (by (try simp (disch := omega) only [sr_s, sr_a, sr_sr, u1_u1, g111, qa, qb]); exact rfl) ?_ | refine k_ast (by first | assumption | omega) (by first | assumption | exact rfl) (by omega) (by omega) (by omega) (by (try simp (disch := omega) only [sr_s, sr_a, sr_sr, u1_u1, g111, qa, qb]); exact rfl) ?_ | refine k_irm (by omega) (by omega) (by omega) (by omega) ?_ | refine k_idv (by omega) (by omega) (by omega) (by omega) ?_ | refine k_tk (by first | assumption | omega) ?_ | refine k_rp (by omega) ?_ | refine k_aldR (by first | assumption | omega) (by first | assumption | exact rfl) (by omega) (by omega) (by omega) (by first | assumption | ((try simp (disch := omega) only [sr_s, sr_a, sr_sr, u1_s, u1_k, g111, qa, qb]); exact rfl)) (by omega) ?_ | refine k_astR (by first | assumption | omega) (by first | assumption | exact rfl) (by omega) (by omega) (by omega) (by first | assumption | omega) (by (try simp (disch := omega) only [sr_s, sr_a, sr_sr, u1_u1, g111, qa, qb]); exact rfl) ?_ | refine k_pz (by first | assumption | omega) (by omega) (by (try simp (disch := omega) only [sr_s, sr_a, sr_sr, u1_u1, g111, qa, qb]); exact rfl) ?_ | refine k_alen (by first | assumption | omega) (by first | assumption | exact rfl) ?_ | refine k_cpy (by first | assumption | omega) (by first | assumption | omega) (by first | assumption | exact rfl) (by first | assumption | exact rfl) (by omega) (by omega) (by omega) (by omega) (by omega) (by omega) (by omega) (by omega) (by (try simp (disch := omega) only [sr_s, sr_a, sr_sr, u1_u1, g111, qa, qb]); exact rfl) ?_)
      refine Ok.ret ⟨sr M2 111 (u1 (u1 (M1 111) 2 A') 1 B'), B', A', ?_, fun a ha => ?_, ?_, ?_, ?_, ?_, ?_⟩
      · rw [show b + 1 + ((i + 1 : Nat) : Int) = b + 1 + i + 1 by omega]
      · rw [sr_a _ _ (by omega), f2 a (hB'n a (by omega)) (by omega)]; exact f a ha
      · rw [sr_s]; exact pr111.u hq111 (fun k hk => by rw [u1_k _ _ (by omega), u1_k _ _ (by omega)])
      · rw [sr_s, u1_s]
      · rw [sr_s, u1_k _ _ (by omega), u1_s]
      · unfold twoR at *; omega
      · rw [sr_a _ _ (by unfold twoR at hAB'; omega), show b + ((i + 1 : Nat) : Int) = b + 1 + i by omega]
        intro q q0' q1 hq tr t0 t1
        have := hI2 q q0' q1 (by rw [f 105 (by omega)]; exact hq) tr t0 t1
        rw [tV_cg (fun a ha => f a (by omega))] at this
        exact this
    · rintro _ ⟨M1, A', B', rfl, f, hq111, qa, qb, hAB', hI'⟩
      have q0 := pr111.p0 hq111
      have f99 : M1 99 = M 99 := f 99 (by omega)
      unfold M_X7_having_b10
      dsimp only
      repeat' (with_reducible first | refine k_gf (by first | assumption | omega) (by first | assumption | ((try simp (disch := omega) only [sr_s, sr_a, sr_sr, u1_s, u1_k, q0, f99, l1']); exact rfl)) ?_ | refine k_gr (by first | assumption | omega) (by first | assumption | ((try simp (disch := omega) only [sr_s, sr_a, sr_sr, u1_s, u1_k, q0, f99, l1']); exact rfl)) (by omega) ?_ | refine k_ald (by first | assumption | omega) (by first | assumption | exact rfl) (by omega) (by omega) (by omega) (by first | assumption | ((try simp (disch := omega) only [sr_s, sr_a, sr_sr, u1_s, u1_k, q0, f99, l1']); exact rfl)) ?_ | refine k_ifT (by first | (simp (disch := omega) only [w32_id]; first | done | omega) | omega) ?_ | refine k_ifF (by first | (simp (disch := omega) only [w32_id]; first | done | omega) | omega) ?_ | refine k_pf (by first | assumption | omega) (by (try simp (disch := omega) only [sr_s, sr_a, sr_sr, u1_u1, q0, f99, l1']); exact rfl) ?_ | refine k_ast (by first | assumption | omega) (by first | assumption | exact rfl) (by omega) (by omega) (by omega) (by (try simp (disch := omega) only [sr_s, sr_a, sr_sr, u1_u1, q0, f99, l1']); exact rfl) ?_ | refine k_irm (by omega) (by omega) (by omega) (by omega) ?_ | refine k_idv (by omega) (by omega) (by omega) (by omega) ?_ | refine k_tk (by first | assumption | omega) ?_ | refine k_rp (by omega) ?_ | refine k_aldR (by first | assumption | omega) (by first | assumption | exact rfl) (by omega) (by omega) (by omega) (by first | assumption | ((try simp (disch := omega) only [sr_s, sr_a, sr_sr, u1_s, u1_k, q0, f99, l1']); exact rfl)) (by omega) ?_ | refine k_astR (by first | assumption | omega) (by first | assumption | exact rfl) (by omega) (by omega) (by omega) (by first | assumption | omega) (by (try simp (disch := omega) only [sr_s, sr_a, sr_sr, u1_u1, q0, f99, l1']); exact rfl) ?_ | refine k_pz (by first | assumption | omega) (by omega) (by (try simp (disch := omega) only [sr_s, sr_a, sr_sr, u1_u1, q0, f99, l1']); exact rfl) ?_ | refine k_alen (by first | assumption | omega) (by first | assumption | exact rfl) ?_ | refine k_cpy (by first | assumption | omega) (by first | assumption | omega) (by first | assumption | exact rfl) (by first | assumption | exact rfl) (by omega) (by omega) (by omega) (by omega) (by omega) (by omega) (by omega) (by omega) (by (try simp (disch := omega) only [sr_s, sr_a, sr_sr, u1_u1, q0, f99, l1']); exact rfl) ?_)
      refine Ok.ret ⟨M1, A', B', rfl, f, hq111, qa, qb, hAB', ?_⟩
      rw [show b + (((n - b).toNat : Nat) : Int) = n by omega] at hI'
      exact hI'
  · rintro _ ⟨M1, A', B', rfl, f, hq111, qa, qb, hAB', hI'⟩
    unfold M_X7_having_p52
    refine Ok.bind (X7_with_ok hG qa (by unfold twoR at hAB'; omega) p0' p1 d0 d8) ?_
    intro X hX
    refine Ok.ret ⟨M1, X, A', B', rfl, f, hq111, qa, qb, hAB', fun tr t0 t1 => ?_⟩
    rw [hX tr t0 t1]
    have hb := tV_b hP' (hce tr) n p
    exact enc_w3 hb.1 (by omega) d0 d8 (hI' p p0' p1 hbt tr t0 t1)
/-- all trials begin with the map as it is -/
theorem X7_begin_ok (hF : chF M G 24 mk n b t) (hmk : mk ≤ 6) (hp111 : pr111 (M 111)) (pa : M 111 1 = A) (hA : A = 112 ∨ A = 113) : Ok (M_X7_begin (M, G) 111) (fun h => ∃ M1, h = (M1, G) ∧ (∀ a, a ≠ A → M1 a = M a) ∧ ∀ q, 0 ≤ q → q < 36 → bt (M 105 b) q = true → ∀ tr, 0 ≤ tr → tr < 64 → enc (M1 A) q tr (M 25 (36 * M 100 b + q))) := by
  have hF' := hF
  obtain ⟨⟨⟨hG, ⟨hp99, hd, hmp⟩, ⟨hg, hm, hwf, hw99⟩, ⟨l0, l1', l2, b0, bn, n6, ln, lt, lc, -⟩, hD⟩, hw, hc, -⟩, -⟩ := hF
  obtain ⟨a1, a2, b1, b2, x1, x6, k2, k6, hco, her, het, hcz, y0, y1, hce⟩ := hwf
  obtain ⟨ws1, ws2, ws3⟩ := hw b (by omega) bn
  have hcb := cntB_b (M 105 b) 36
  have kA : G.1 A = 2 := by rcases hA with rfl | rfl; exact gk_112 hG; exact gk_113 hG
  have lA : G.2.1 A = 108 := by rcases hA with rfl | rfl; exact gl_112 hG; exact gl_113 hG
  have k99 := gk_99 hG
  have k103 := gk_103 hG
  have l103 := gl_103 hG
  have k104 := gk_104 hG
  have l104 := gl_104 hG
  have k111 := gk_111 hG
  have p0 := pr111.p0 hp111
  have p6 := pr99.p6 hp99
  have p7 := pr99.p7 hp99
  unfold M_X7_begin M_X7_begin_w2 M_X7_begin_p67
  refine k_tk k111 ?_
  refine Ok.bind (Q := fun h => ∃ M1, h = (M1, G) ∧ (∀ a, a ≠ A → M1 a = M a) ∧ ∀ j, 0 ≤ j → j < M 104 b → ∀ tr, 0 ≤ tr → tr < 64 → enc (M1 A) (M 103 (36 * b + j)) tr (M 25 (36 * M 100 b + M 103 (36 * b + j)))) ?_ ?_
  · refine wh_for (fun i z => ∃ M1, z = ((M1, G), (i : Int)) ∧ (∀ a, a ≠ A → M1 a = M a) ∧ ∀ j, 0 ≤ j → j < (i : Int) → ∀ tr, 0 ≤ tr → tr < 64 → enc (M1 A) (M 103 (36 * b + j)) tr (M 25 (36 * M 100 b + M 103 (36 * b + j)))) _ (M 104 b).toNat (by omega) ⟨M, rfl, fun _ _ => rfl, fun j j0 j1 => by omega⟩ ?_ ?_
    · rintro i _ hi ⟨M1, rfl, f, hv⟩
      obtain ⟨hin, hbt⟩ := ws2 i (by omega) (by omega)
      have hp36 := inV_36 a2 b2 hin
      have f99 : M1 99 = M 99 := f 99 (by omega)
      have f103 : M1 103 = M 103 := f 103 (by omega)
      have f104 : M1 104 = M 104 := f 104 (by omega)
      have f111 : M1 111 = M 111 := f 111 (by omega)
      have hF1 : chF M1 G 24 mk n b t := by
        refine ⟨chP_fr hF'.1 (fun a ha => f a (by omega)), fun s s0 s1 => ?_⟩
        have := hF'.2 s s0 s1
        unfold chV at *
        rw [f 105 (by omega), f 102 (by omega), f 100 (by omega), bhM_cgw (M := M) (M1 := M1) (w := 24) (fun a ha => f a (by omega))]
        exact this
      have hbm := X0_beginMark_ok hF1 hp36.1 hp36.2
      rw [f 100 (by omega)] at hbm
      have hbm : M_X0_beginMark (M1, G) 99 (M 103 (36 * b + i)) = some (M1 25 (36 * M 100 b + M 103 (36 * b + i))) := hbm
      rw [f 25 (by omega)] at hbm
      have hcv : 0 ≤ M 25 (36 * M 100 b + M 103 (36 * b + i)) ∧ M 25 (36 * M 100 b + M 103 (36 * b + i)) < mk := hce _
      unfold M_X7_begin_b2
      dsimp only
      repeat' (with_reducible first | refine k_gf (by first | assumption | omega) (by first | assumption | ((try simp (disch := omega) only [sr_s, sr_a, sr_sr, u1_s, u1_k, f99, f103, f104, f111, p0, p6, p7, l2, pa]); exact rfl)) ?_ | refine k_gr (by first | assumption | omega) (by first | assumption | ((try simp (disch := omega) only [sr_s, sr_a, sr_sr, u1_s, u1_k, f99, f103, f104, f111, p0, p6, p7, l2, pa]); exact rfl)) (by omega) ?_ | refine k_ald (by first | assumption | omega) (by first | assumption | exact rfl) (by omega) (by omega) (by omega) (by first | assumption | ((try simp (disch := omega) only [sr_s, sr_a, sr_sr, u1_s, u1_k, f99, f103, f104, f111, p0, p6, p7, l2, pa]); exact rfl)) ?_ | refine k_ifT (by first | (simp (disch := omega) only [w32_id]; first | done | omega) | omega) ?_ | refine k_ifF (by first | (simp (disch := omega) only [w32_id]; first | done | omega) | omega) ?_ | refine k_pf (by first | assumption | omega) (by (try simp (disch := omega) only [sr_s, sr_a, sr_sr, u1_u1, f99, f103, f104, f111, p0, p6, p7, l2, pa]); exact rfl) ?_ | refine k_ast (by first | assumption | omega) (by first | assumption | exact rfl) (by omega) (by omega) (by omega) (by (try simp (disch := omega) only [sr_s, sr_a, sr_sr, u1_u1, f99, f103, f104, f111, p0, p6, p7, l2, pa]); exact rfl) ?_ | refine k_irm (by omega) (by omega) (by omega) (by omega) ?_ | refine k_idv (by omega) (by omega) (by omega) (by omega) ?_ | refine k_tk (by first | assumption | omega) ?_ | refine k_rp (by omega) ?_ | refine k_aldR (by first | assumption | omega) (by first | assumption | exact rfl) (by omega) (by omega) (by omega) (by first | assumption | ((try simp (disch := omega) only [sr_s, sr_a, sr_sr, u1_s, u1_k, f99, f103, f104, f111, p0, p6, p7, l2, pa]); exact rfl)) (by omega) ?_ | refine k_astR (by first | assumption | omega) (by first | assumption | exact rfl) (by omega) (by omega) (by omega) (by first | assumption | omega) (by (try simp (disch := omega) only [sr_s, sr_a, sr_sr, u1_u1, f99, f103, f104, f111, p0, p6, p7, l2, pa]); exact rfl) ?_ | refine k_pz (by first | assumption | omega) (by omega) (by (try simp (disch := omega) only [sr_s, sr_a, sr_sr, u1_u1, f99, f103, f104, f111, p0, p6, p7, l2, pa]); exact rfl) ?_ | refine k_alen (by first | assumption | omega) (by first | assumption | exact rfl) ?_ | refine k_cpy (by first | assumption | omega) (by first | assumption | omega) (by first | assumption | exact rfl) (by first | assumption | exact rfl) (by omega) (by omega) (by omega) (by omega) (by omega) (by omega) (by omega) (by omega) (by (try simp (disch := omega) only [sr_s, sr_a, sr_sr, u1_u1, f99, f103, f104, f111, p0, p6, p7, l2, pa]); exact rfl) ?_)
      refine k_eq hbm (k_eq (X7_overlay_ok kA lA hp36.1 hp36.2 hcv.1 (by omega)) ?_)
      refine Ok.ret ⟨_, rfl, fun a ha => by rw [sr_a _ _ ha]; exact f a ha, fun j j0 j1 tr t0 t1 => ?_⟩
      rw [sr_s]
      by_cases y : M 103 (36 * b + j) = M 103 (36 * b + i)
      · rw [y]
        exact enc_ov t0 t1 (fun z => by rw [bt_m1 t0 t1] at z; cases z) (fun _ => rfl)
      · by_cases ej : j = i
        · subst ej; exact absurd rfl y
        · exact enc_o (hv j j0 (by omega) tr t0 t1) (fun c c0 c3 => ovR_o y c0 c3)
    · rintro _ ⟨M1, rfl, f, hv⟩
      have f99 : M1 99 = M 99 := f 99 (by omega)
      have f104 : M1 104 = M 104 := f 104 (by omega)
      have f111 : M1 111 = M 111 := f 111 (by omega)
      unfold M_X7_begin_b2
      dsimp only
      repeat' (with_reducible first | refine k_gf (by first | assumption | omega) (by first | assumption | ((try simp (disch := omega) only [sr_s, sr_a, sr_sr, u1_s, u1_k, f99, f104, f111, p0, p7, l2]); exact rfl)) ?_ | refine k_gr (by first | assumption | omega) (by first | assumption | ((try simp (disch := omega) only [sr_s, sr_a, sr_sr, u1_s, u1_k, f99, f104, f111, p0, p7, l2]); exact rfl)) (by omega) ?_ | refine k_ald (by first | assumption | omega) (by first | assumption | exact rfl) (by omega) (by omega) (by omega) (by first | assumption | ((try simp (disch := omega) only [sr_s, sr_a, sr_sr, u1_s, u1_k, f99, f104, f111, p0, p7, l2]); exact rfl)) ?_ | refine k_ifT (by first | (simp (disch := omega) only [w32_id]; first | done | omega) | omega) ?_ | refine k_ifF (by first | (simp (disch := omega) only [w32_id]; first | done | omega) | omega) ?_ | refine k_pf (by first | assumption | omega) (by (try simp (disch := omega) only [sr_s, sr_a, sr_sr, u1_u1, f99, f104, f111, p0, p7, l2]); exact rfl) ?_ | refine k_ast (by first | assumption | omega) (by first | assumption | exact rfl) (by omega) (by omega) (by omega) (by (try simp (disch := omega) only [sr_s, sr_a, sr_sr, u1_u1, f99, f104, f111, p0, p7, l2]); exact rfl) ?_ | refine k_irm (by omega) (by omega) (by omega) (by omega) ?_ | refine k_idv (by omega) (by omega) (by omega) (by omega) ?_ | refine k_tk (by first | assumption | omega) ?_ | refine k_rp (by omega) ?_ | refine k_aldR (by first | assumption | omega) (by first | assumption | exact rfl) (by omega) (by omega) (by omega) (by first | assumption | ((try simp (disch := omega) only [sr_s, sr_a, sr_sr, u1_s, u1_k, f99, f104, f111, p0, p7, l2]); exact rfl)) (by omega) ?_ | refine k_astR (by first | assumption | omega) (by first | assumption | exact rfl) (by omega) (by omega) (by omega) (by first | assumption | omega) (by (try simp (disch := omega) only [sr_s, sr_a, sr_sr, u1_u1, f99, f104, f111, p0, p7, l2]); exact rfl) ?_ | refine k_pz (by first | assumption | omega) (by omega) (by (try simp (disch := omega) only [sr_s, sr_a, sr_sr, u1_u1, f99, f104, f111, p0, p7, l2]); exact rfl) ?_ | refine k_alen (by first | assumption | omega) (by first | assumption | exact rfl) ?_ | refine k_cpy (by first | assumption | omega) (by first | assumption | omega) (by first | assumption | exact rfl) (by first | assumption | exact rfl) (by omega) (by omega) (by omega) (by omega) (by omega) (by omega) (by omega) (by omega) (by (try simp (disch := omega) only [sr_s, sr_a, sr_sr, u1_u1, f99, f104, f111, p0, p7, l2]); exact rfl) ?_)
      exact Ok.ret ⟨M1, rfl, f, fun j j0 j1 => hv j j0 (by omega)⟩
  · rintro _ ⟨M1, rfl, f, hv⟩
    refine Ok.ret ⟨M1, rfl, f, fun q q0 q1 hq tr t0 t1 => ?_⟩
    obtain ⟨j, j0, j1, rfl⟩ := ws3 q q0 q1 hq
    exact hv j j0 j1 tr t0 t1
end T4
