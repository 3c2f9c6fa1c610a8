/-! surely -/
section F9
variable {M M1 M2 N : Int → Int → Int} {G : GG} {td r rg t : Int}
/-- surely's answer: the one guess of all fits -/
def suP (M : Int → Int → Int) (td t v : Int) : Prop := (∃ r0 : Nat, r0 < allR M td ∧ fitB M td (r0 : Int) = true ∧ v = dgU M td (r0 : Int) t ∧ ∀ r' : Nat, r' < allR M td → fitB M td (r' : Int) = true → dgU M td (r' : Int) t = v) ∨ v = -2 ∧ ¬ ∃ d, ∃ r0 : Nat, r0 < allR M td ∧ fitB M td (r0 : Int) = true ∧ d = dgU M td (r0 : Int) t ∧ ∀ r' : Nat, r' < allR M td → fitB M td (r' : Int) = true → dgU M td (r' : Int) t = d
theorem suP_unq {v v' : Int} (h : suP M td t v) (h' : suP M td t v') : v = v' := by
  rcases h with ⟨r0, h1, h2, h3, h4⟩ | ⟨rfl, h⟩
  · rcases h' with ⟨r0', h1', h2', h3', h4'⟩ | ⟨rfl, h'⟩
    · rw [h3', h4 r0' h1' h2']
    · exact absurd ⟨v, r0, h1, h2, h3, h4⟩ h'
  · rcases h' with ⟨r0', h1', h2', h3', h4'⟩ | ⟨rfl, h'⟩
    · exact absurd ⟨v', r0', h1', h2', h3', h4'⟩ h
    · rfl
theorem X1_sure_ok (h1 : Inv0 M G td r) (hR : isR M G td rg) (hg : 1 ≤ M td 4) (hcnt : M 115 3 = ((fitN M td (allR M td) : Nat) : Int)) (hrows : ∀ r' : Nat, r' < allR M td → fitB M td (r' : Int) = true → M 116 (fitN M td r' : Nat) = r') (t0 : 0 ≤ t) (t1 : t < M 24 2) (c4 : M (td + 4) (4 * t) = 10) : Ok (M_X1_sureGuess (M, G) 115 td ((uk (M (td + 4)) t.toNat : Nat) : Int)) (suP M td t) := by
  have hG := h1.1.1
  have hI := fiI_ok h1 hR
  have huk := uk_in h1 hR t0 t1 c4
  have hab := allR_b h1 hR hg
  have hle := fitN_le (M := M) (td := td) (allR M td)
  have g5 := hI.2.2.2.2.2.2.2.2.2
  have p2 : M 115 2 = 116 := pr115.p2 h1.1.2.2.2.2.2.2.2.2.2.2.2.2.2.2
  have k115 := gk_115 hG
  have k116 := gk_116 hG
  have l116 := gl_116 hG
  have hgu : ∀ j : Nat, j < fitN M td (allR M td) → ∃ row : Nat, row < allR M td ∧ fitB M td (row : Int) = true ∧ fitN M td row = j ∧ M 116 (j : Int) = row ∧ M_X1_guessIn (M, G) 115 td (row : Int) ((uk (M (td + 4)) t.toNat : Nat) : Int) = some (dgU M td (row : Int) t) := fun j hj => by
    obtain ⟨row, hr1, hrf1, hrn⟩ := fit_ex (M := M) (td := td) (allR M td) j hj
    have hri := hrows row hr1 hrf1
    rw [hrn] at hri
    have hgi := X1_guessIn_ok hI hg (row := (row : Int)) (by omega) (by omega) huk
    rw [dgU_dgt h1 hR t0 t1 c4] at hgi
    exact ⟨row, hr1, hrf1, hrn, hri, hgi⟩
  unfold M_X1_sureGuess
  by_cases y : fitN M td (allR M td) = 0
  · rw [y] at hcnt
    repeat' (with_reducible first | refine k_gf (by first | assumption | omega) (by first | assumption | ((try simp (disch := omega) only [sr_s, sr_a, sr_sr, u1_s, u1_k, hcnt]); exact rfl)) ?_ | refine k_gr (by first | assumption | omega) (by first | assumption | ((try simp (disch := omega) only [sr_s, sr_a, sr_sr, u1_s, u1_k, hcnt]); exact rfl)) (by omega) ?_ | refine k_ald (by first | assumption | omega) (by first | assumption | exact rfl) (by omega) (by omega) (by omega) (by first | assumption | ((try simp (disch := omega) only [sr_s, sr_a, sr_sr, u1_s, u1_k, hcnt]); exact rfl)) ?_ | refine k_ifT (by first | (simp (disch := omega) only [w32_id]; first | done | omega) | omega) ?_ | refine k_ifF (by first | (simp (disch := omega) only [w32_id]; first | done | omega) | omega) ?_ | refine k_pf (by first | assumption | omega) (by (try simp (disch := omega) only [sr_s, sr_a, sr_sr, u1_u1, hcnt]); exact rfl) ?_ | refine k_ast (by first | assumption | omega) (by first | assumption | exact rfl) (by omega) (by omega) (by omega) (by (try simp (disch := omega) only [sr_s, sr_a, sr_sr, u1_u1, hcnt]); exact rfl) ?_ | refine k_irm (by omega) (by omega) (by omega) (by omega) ?_ | refine k_idv (by omega) (by omega) (by omega) (by omega) ?_ | refine k_tk (by first | assumption | omega) ?_ | refine k_rp (by omega) ?_ | refine k_aldR (by first | assumption | omega) (by first | assumption | exact rfl) (by omega) (by omega) (by omega) (by first | assumption | ((try simp (disch := omega) only [sr_s, sr_a, sr_sr, u1_s, u1_k, hcnt]); exact rfl)) (by omega) ?_ | refine k_astR (by first | assumption | omega) (by first | assumption | exact rfl) (by omega) (by omega) (by omega) (by first | assumption | omega) (by (try simp (disch := omega) only [sr_s, sr_a, sr_sr, u1_u1, hcnt]); exact rfl) ?_ | refine k_pz (by first | assumption | omega) (by omega) (by (try simp (disch := omega) only [sr_s, sr_a, sr_sr, u1_u1, hcnt]); exact rfl) ?_ | refine k_alen (by first | assumption | omega) (by first | assumption | exact rfl) ?_ | refine k_cpy (by first | assumption | omega) (by first | assumption | omega) (by first | assumption | exact rfl) (by first | assumption | exact rfl) (by omega) (by omega) (by omega) (by omega) (by omega) (by omega) (by omega) (by omega) (by (try simp (disch := omega) only [sr_s, sr_a, sr_sr, u1_u1, hcnt]); exact rfl) ?_)
    refine Ok.ret (Or.inr ⟨rfl, ?_⟩)
    rintro ⟨d, r0, q1, q2, -⟩
    have := fit_lt q1 q2
    omega
  · obtain ⟨row, hr1, hrf1, hrn, hri, hgi⟩ := hgu 0 (by omega)
    have hri : M 116 0 = row := hri
    have hdb := dgU_b hg (row : Int) t
    repeat' (with_reducible first | refine k_gf (by first | assumption | omega) (by first | assumption | ((try simp (disch := omega) only [sr_s, sr_a, sr_sr, u1_s, u1_k, hcnt, p2, hri]); exact rfl)) ?_ | refine k_gr (by first | assumption | omega) (by first | assumption | ((try simp (disch := omega) only [sr_s, sr_a, sr_sr, u1_s, u1_k, hcnt, p2, hri]); exact rfl)) (by omega) ?_ | refine k_ald (by first | assumption | omega) (by first | assumption | exact rfl) (by omega) (by omega) (by omega) (by first | assumption | ((try simp (disch := omega) only [sr_s, sr_a, sr_sr, u1_s, u1_k, hcnt, p2, hri]); exact rfl)) ?_ | refine k_ifT (by first | (simp (disch := omega) only [w32_id]; first | done | omega) | omega) ?_ | refine k_ifF (by first | (simp (disch := omega) only [w32_id]; first | done | omega) | omega) ?_ | refine k_pf (by first | assumption | omega) (by (try simp (disch := omega) only [sr_s, sr_a, sr_sr, u1_u1, hcnt, p2, hri]); exact rfl) ?_ | refine k_ast (by first | assumption | omega) (by first | assumption | exact rfl) (by omega) (by omega) (by omega) (by (try simp (disch := omega) only [sr_s, sr_a, sr_sr, u1_u1, hcnt, p2, hri]); exact rfl) ?_ | refine k_irm (by omega) (by omega) (by omega) (by omega) ?_ | refine k_idv (by omega) (by omega) (by omega) (by omega) ?_ | refine k_tk (by first | assumption | omega) ?_ | refine k_rp (by omega) ?_ | refine k_aldR (by first | assumption | omega) (by first | assumption | exact rfl) (by omega) (by omega) (by omega) (by first | assumption | ((try simp (disch := omega) only [sr_s, sr_a, sr_sr, u1_s, u1_k, hcnt, p2, hri]); exact rfl)) (by omega) ?_ | refine k_astR (by first | assumption | omega) (by first | assumption | exact rfl) (by omega) (by omega) (by omega) (by first | assumption | omega) (by (try simp (disch := omega) only [sr_s, sr_a, sr_sr, u1_u1, hcnt, p2, hri]); exact rfl) ?_ | refine k_pz (by first | assumption | omega) (by omega) (by (try simp (disch := omega) only [sr_s, sr_a, sr_sr, u1_u1, hcnt, p2, hri]); exact rfl) ?_ | refine k_alen (by first | assumption | omega) (by first | assumption | exact rfl) ?_ | refine k_cpy (by first | assumption | omega) (by first | assumption | omega) (by first | assumption | exact rfl) (by first | assumption | exact rfl) (by omega) (by omega) (by omega) (by omega) (by omega) (by omega) (by omega) (by omega) (by (try simp (disch := omega) only [sr_s, sr_a, sr_sr, u1_u1, hcnt, p2, hri]); exact rfl) ?_)
    refine k_eq hgi ?_
    unfold M_X1_sureGuess_w26
    have hlo : Ok (wh (S := Int) (T := (Unit ⊕ (Int))) (fun a => M_X1_sureGuess_b26 (M, G) 115 td ((uk (M (td + 4)) t.toNat : Nat) : Int) (dgU M td (row : Int) t) a) FU 1) (lo (fun _ => ∀ r' : Nat, r' < allR M td → fitB M td (r' : Int) = true → dgU M td (r' : Int) t = dgU M td (row : Int) t) (fun v => suP M td t v)) := by
      refine wh_for (fun i s => s = ((i + 1 : Nat) : Int) ∧ ∀ r' : Nat, r' < allR M td → fitB M td (r' : Int) = true → fitN M td r' < i + 1 → dgU M td (r' : Int) t = dgU M td (row : Int) t) _ (fitN M td (allR M td) - 1) (by omega) ⟨rfl, fun r' q1 q2 q3 => ?_⟩ ?_ ?_
      · have h2 : fitN M td r' = fitN M td row := by omega
        by_cases z : r' < row
        · have := fit_lt (M := M) (td := td) z q2; omega
        · by_cases z2 : row < r'
          · have := fit_lt (M := M) (td := td) z2 hrf1; omega
          · rw [show r' = row by omega]
      · rintro i _ hi ⟨rfl, ha⟩
        obtain ⟨row2, hr2, hrf2, hrn2, hri2, hgi2⟩ := hgu (i + 1) (by omega)
        have hdb2 := dgU_b hg (row2 : Int) t
        unfold M_X1_sureGuess_b26
        by_cases z : dgU M td (row2 : Int) t = dgU M td (row : Int) t
        · refine k_gf k115 hcnt (k_ifT (by rw [w32_id (by omega) (by omega), w32_id (by omega) (by omega)]; omega) ?_)
          repeat' (with_reducible first | refine k_gf (by first | assumption | omega) (by first | assumption | ((try simp (disch := omega) only [sr_s, sr_a, sr_sr, u1_s, u1_k, p2, hri2]); exact rfl)) ?_ | refine k_gr (by first | assumption | omega) (by first | assumption | ((try simp (disch := omega) only [sr_s, sr_a, sr_sr, u1_s, u1_k, p2, hri2]); exact rfl)) (by omega) ?_ | refine k_ald (by first | assumption | omega) (by first | assumption | exact rfl) (by omega) (by omega) (by omega) (by first | assumption | ((try simp (disch := omega) only [sr_s, sr_a, sr_sr, u1_s, u1_k, p2, hri2]); exact rfl)) ?_ | refine k_ifT (by first | (simp (disch := omega) only [w32_id]; first | done | omega) | omega) ?_ | refine k_ifF (by first | (simp (disch := omega) only [w32_id]; first | done | omega) | omega) ?_ | refine k_pf (by first | assumption | omega) (by (try simp (disch := omega) only [sr_s, sr_a, sr_sr, u1_u1, p2, hri2]); exact rfl) ?_ | refine k_ast (by first | assumption | omega) (by first | assumption | exact rfl) (by omega) (by omega) (by omega) (by (try simp (disch := omega) only [sr_s, sr_a, sr_sr, u1_u1, p2, hri2]); exact rfl) ?_ | refine k_irm (by omega) (by omega) (by omega) (by omega) ?_ | refine k_idv (by omega) (by omega) (by omega) (by omega) ?_ | refine k_tk (by first | assumption | omega) ?_ | refine k_rp (by omega) ?_ | refine k_aldR (by first | assumption | omega) (by first | assumption | exact rfl) (by omega) (by omega) (by omega) (by first | assumption | ((try simp (disch := omega) only [sr_s, sr_a, sr_sr, u1_s, u1_k, p2, hri2]); exact rfl)) (by omega) ?_ | refine k_astR (by first | assumption | omega) (by first | assumption | exact rfl) (by omega) (by omega) (by omega) (by first | assumption | omega) (by (try simp (disch := omega) only [sr_s, sr_a, sr_sr, u1_u1, p2, hri2]); exact rfl) ?_ | refine k_pz (by first | assumption | omega) (by omega) (by (try simp (disch := omega) only [sr_s, sr_a, sr_sr, u1_u1, p2, hri2]); exact rfl) ?_ | refine k_alen (by first | assumption | omega) (by first | assumption | exact rfl) ?_ | refine k_cpy (by first | assumption | omega) (by first | assumption | omega) (by first | assumption | exact rfl) (by first | assumption | exact rfl) (by omega) (by omega) (by omega) (by omega) (by omega) (by omega) (by omega) (by omega) (by (try simp (disch := omega) only [sr_s, sr_a, sr_sr, u1_u1, p2, hri2]); exact rfl) ?_)
          refine k_eq hgi2 (k_ifT (by rw [z]) (Ok.ret ⟨rfl, fun r' q1 q2 q3 => ?_⟩))
          by_cases w : fitN M td r' = i + 1
          · have h2 : fitN M td r' = fitN M td row2 := by omega
            have : r' = row2 := by
              by_cases z1 : r' < row2
              · have := fit_lt (M := M) (td := td) z1 q2; omega
              · by_cases z2 : row2 < r'
                · have := fit_lt (M := M) (td := td) z2 hrf2; omega
                · omega
            rw [this]
            exact z
          · exact ha r' q1 q2 (by omega)
        · refine k_gf k115 hcnt (k_ifT (by rw [w32_id (by omega) (by omega), w32_id (by omega) (by omega)]; omega) ?_)
          repeat' (with_reducible first | refine k_gf (by first | assumption | omega) (by first | assumption | ((try simp (disch := omega) only [sr_s, sr_a, sr_sr, u1_s, u1_k, p2, hri2]); exact rfl)) ?_ | refine k_gr (by first | assumption | omega) (by first | assumption | ((try simp (disch := omega) only [sr_s, sr_a, sr_sr, u1_s, u1_k, p2, hri2]); exact rfl)) (by omega) ?_ | refine k_ald (by first | assumption | omega) (by first | assumption | exact rfl) (by omega) (by omega) (by omega) (by first | assumption | ((try simp (disch := omega) only [sr_s, sr_a, sr_sr, u1_s, u1_k, p2, hri2]); exact rfl)) ?_ | refine k_ifT (by first | (simp (disch := omega) only [w32_id]; first | done | omega) | omega) ?_ | refine k_ifF (by first | (simp (disch := omega) only [w32_id]; first | done | omega) | omega) ?_ | refine k_pf (by first | assumption | omega) (by (try simp (disch := omega) only [sr_s, sr_a, sr_sr, u1_u1, p2, hri2]); exact rfl) ?_ | refine k_ast (by first | assumption | omega) (by first | assumption | exact rfl) (by omega) (by omega) (by omega) (by (try simp (disch := omega) only [sr_s, sr_a, sr_sr, u1_u1, p2, hri2]); exact rfl) ?_ | refine k_irm (by omega) (by omega) (by omega) (by omega) ?_ | refine k_idv (by omega) (by omega) (by omega) (by omega) ?_ | refine k_tk (by first | assumption | omega) ?_ | refine k_rp (by omega) ?_ | refine k_aldR (by first | assumption | omega) (by first | assumption | exact rfl) (by omega) (by omega) (by omega) (by first | assumption | ((try simp (disch := omega) only [sr_s, sr_a, sr_sr, u1_s, u1_k, p2, hri2]); exact rfl)) (by omega) ?_ | refine k_astR (by first | assumption | omega) (by first | assumption | exact rfl) (by omega) (by omega) (by omega) (by first | assumption | omega) (by (try simp (disch := omega) only [sr_s, sr_a, sr_sr, u1_u1, p2, hri2]); exact rfl) ?_ | refine k_pz (by first | assumption | omega) (by omega) (by (try simp (disch := omega) only [sr_s, sr_a, sr_sr, u1_u1, p2, hri2]); exact rfl) ?_ | refine k_alen (by first | assumption | omega) (by first | assumption | exact rfl) ?_ | refine k_cpy (by first | assumption | omega) (by first | assumption | omega) (by first | assumption | exact rfl) (by first | assumption | exact rfl) (by omega) (by omega) (by omega) (by omega) (by omega) (by omega) (by omega) (by omega) (by (try simp (disch := omega) only [sr_s, sr_a, sr_sr, u1_u1, p2, hri2]); exact rfl) ?_)
          refine k_eq hgi2 (k_ifF (by rw [w32_id (by omega) (by omega), w32_id (by omega) (by omega)]; exact z) (Ok.ret (Or.inr ⟨rfl, ?_⟩)))
          rintro ⟨d, r0, q1, q2, q3, q4⟩
          exact z ((q4 row2 hr2 hrf2).trans (q4 row hr1 hrf1).symm)
      · rintro _ ⟨rfl, ha⟩
        unfold M_X1_sureGuess_b26
        refine k_gf k115 hcnt (k_ifF (by rw [w32_id (by omega) (by omega), w32_id (by omega) (by omega)]; omega) (Ok.ret (fun r' q1 q2 => ha r' q1 q2 ?_)))
        have := fit_lt (M := M) (td := td) q1 q2
        omega
    refine Ok.bind hlo ?_
    intro z hz
    cases z with
    | inl u =>
      rw [exi_l]
      unfold M_X1_sureGuess_p61
      exact Ok.ret (Or.inl ⟨row, hr1, hrf1, rfl, hz⟩)
    | inr q =>
      rw [exi_r]
      exact Ok.ret hz
theorem X11_surely_go (h2 : Inv0 M G td r) (hR : isR M G td rg) (hg : 1 ≤ M td 4) (t0 : 0 ≤ t) (t6 : t < 6) (hN : ftI M N td (-1) (allR M td)) {v : Int} (hv : suP M td t v) : Ok (M_X11_surely_w50 FU (N, G) 124 t 0) (rP M G v 0) := by
  have hG := h2.1.1
  have hI := fiI_ok h2 hR
  have g5 := hI.2.2.2.2.2.2.2.2.2
  obtain ⟨k124, r3, r0, kr, -⟩ := hR.B hG
  have h4 := hR.2.2.2.2.2.2.2.1.1
  have n3 : N 124 3 = rg := by rw [hN.1.2.1 3 (by omega)]; exact r3
  have n4 : N rg 4 = M td 4 := by rw [hN.1.hi r0]; exact h4
  have p40 : N 124 40 = 144 := by rw [hN.1.2.1 40 (by omega)]; exact pr124.p40 h2.2.2.1.1
  have hco := hN.2.1 t t0 t6
  have hvb := vb_b (ocB M td t (allR M td))
  have hsing : ∀ g, 0 ≤ g → g < M td 4 → (w32 (vb (ocB M td t (allR M td))) = w32 (ishl 1 g) ↔ ∃ r0 : Nat, r0 < allR M td ∧ fitB M td (r0 : Int) = true ∧ g = dgU M td (r0 : Int) t ∧ ∀ r' : Nat, r' < allR M td → fitB M td (r' : Int) = true → dgU M td (r' : Int) t = g) := fun g g0 g1 => by
    rw [vb_eq g0 (by omega)]
    constructor
    · intro h
      have hgg := h g g0 (by omega)
      rw [decide_eq_true rfl] at hgg
      obtain ⟨r0, q1, q2, q3⟩ := (ocB_iff _).1 hgg
      refine ⟨r0, q1, q2, q3, fun r' q1' q2' => ?_⟩
      have hdb := dgU_b hg (r' : Int) t
      have := h (dgU M td (r' : Int) t) hdb.1 (by omega)
      rw [(ocB_iff _).2 ⟨r', q1', q2', rfl⟩] at this
      exact of_decide_eq_true this.symm
    · rintro ⟨r0, q1, q2, q3, q4⟩ x x0 x5
      by_cases z : x = g
      · rw [decide_eq_true z]
        exact (ocB_iff _).2 ⟨r0, q1, q2, z.trans q3⟩
      · rw [decide_eq_false z]
        rw [← Bool.not_eq_true]
        intro hx
        obtain ⟨r', q1', q2', q3'⟩ := (ocB_iff _).1 hx
        exact z (q3'.trans (q4 r' q1' q2'))
  have k144 := gk_144 hG
  have l144 := gl_144 hG
  unfold M_X11_surely_w50
  have hlo : Ok (wh (S := Int) (T := (Unit ⊕ (Hp × Int))) (fun a => M_X11_surely_b50 (N, G) 124 t a) FU 0) (lo (fun _ => ∀ g, 0 ≤ g → g < M td 4 → w32 (vb (ocB M td t (allR M td))) ≠ w32 (ishl 1 g)) (rP M G v 0)) := by
    refine wh_for (fun i s => s = (i : Int) ∧ ∀ g, 0 ≤ g → g < (i : Int) → w32 (vb (ocB M td t (allR M td))) ≠ w32 (ishl 1 g)) _ (M td 4).toNat (by omega) ⟨rfl, fun g g0 g1 => by omega⟩ ?_ ?_
    · rintro i _ hi ⟨rfl, ha⟩
      unfold M_X11_surely_b50
      repeat' (with_reducible first | refine k_gf (by first | assumption | omega) (by first | assumption | ((try simp (disch := omega) only [sr_s, sr_a, sr_sr, u1_s, u1_k, n3, n4, p40, hco]); exact rfl)) ?_ | refine k_gr (by first | assumption | omega) (by first | assumption | ((try simp (disch := omega) only [sr_s, sr_a, sr_sr, u1_s, u1_k, n3, n4, p40, hco]); exact rfl)) (by omega) ?_ | refine k_ald (by first | assumption | omega) (by first | assumption | exact rfl) (by omega) (by omega) (by omega) (by first | assumption | ((try simp (disch := omega) only [sr_s, sr_a, sr_sr, u1_s, u1_k, n3, n4, p40, hco]); exact rfl)) ?_ | refine k_ifT (by first | (simp (disch := omega) only [w32_id]; first | done | omega) | omega) ?_ | refine k_ifF (by first | (simp (disch := omega) only [w32_id]; first | done | omega) | omega) ?_ | refine k_pf (by first | assumption | omega) (by (try simp (disch := omega) only [sr_s, sr_a, sr_sr, u1_u1, n3, n4, p40, hco]); exact rfl) ?_ | refine k_ast (by first | assumption | omega) (by first | assumption | exact rfl) (by omega) (by omega) (by omega) (by (try simp (disch := omega) only [sr_s, sr_a, sr_sr, u1_u1, n3, n4, p40, hco]); exact rfl) ?_ | refine k_irm (by omega) (by omega) (by omega) (by omega) ?_ | refine k_idv (by omega) (by omega) (by omega) (by omega) ?_ | refine k_tk (by first | assumption | omega) ?_ | refine k_rp (by omega) ?_ | refine k_aldR (by first | assumption | omega) (by first | assumption | exact rfl) (by omega) (by omega) (by omega) (by first | assumption | ((try simp (disch := omega) only [sr_s, sr_a, sr_sr, u1_s, u1_k, n3, n4, p40, hco]); exact rfl)) (by omega) ?_ | refine k_astR (by first | assumption | omega) (by first | assumption | exact rfl) (by omega) (by omega) (by omega) (by first | assumption | omega) (by (try simp (disch := omega) only [sr_s, sr_a, sr_sr, u1_u1, n3, n4, p40, hco]); exact rfl) ?_ | refine k_pz (by first | assumption | omega) (by omega) (by (try simp (disch := omega) only [sr_s, sr_a, sr_sr, u1_u1, n3, n4, p40, hco]); exact rfl) ?_ | refine k_alen (by first | assumption | omega) (by first | assumption | exact rfl) ?_ | refine k_cpy (by first | assumption | omega) (by first | assumption | omega) (by first | assumption | exact rfl) (by first | assumption | exact rfl) (by omega) (by omega) (by omega) (by omega) (by omega) (by omega) (by omega) (by omega) (by (try simp (disch := omega) only [sr_s, sr_a, sr_sr, u1_u1, n3, n4, p40, hco]); exact rfl) ?_)
      by_cases z : w32 (vb (ocB M td t (allR M td))) = w32 (ishl 1 (i : Int))
      · refine k_ifT z ?_
        obtain ⟨r0, q1, q2, q3, q4⟩ := (hsing i (by omega) (by omega)).1 z
        have hve : v = (i : Int) := suP_unq hv (Or.inl ⟨r0, q1, q2, q3, q4⟩)
        have h5 := rQ.tr (M := N) hN.1.2.2 0
        rw [hve]
        exact k_bd (X11_good_ok hG) (Ok.ret ⟨_, rfl, hN.1.q.trans h5.1, h5.2⟩)
      · refine k_ifF z (Ok.ret ⟨by omega, fun g g0 g1 => ?_⟩)
        by_cases w : g = (i : Int)
        · rw [w]; exact z
        · exact ha g g0 (by omega)
    · rintro _ ⟨rfl, ha⟩
      unfold M_X11_surely_b50
      repeat' (with_reducible first | refine k_gf (by first | assumption | omega) (by first | assumption | ((try simp (disch := omega) only [sr_s, sr_a, sr_sr, u1_s, u1_k, n3, n4]); exact rfl)) ?_ | refine k_gr (by first | assumption | omega) (by first | assumption | ((try simp (disch := omega) only [sr_s, sr_a, sr_sr, u1_s, u1_k, n3, n4]); exact rfl)) (by omega) ?_ | refine k_ald (by first | assumption | omega) (by first | assumption | exact rfl) (by omega) (by omega) (by omega) (by first | assumption | ((try simp (disch := omega) only [sr_s, sr_a, sr_sr, u1_s, u1_k, n3, n4]); exact rfl)) ?_ | refine k_ifT (by first | (simp (disch := omega) only [w32_id]; first | done | omega) | omega) ?_ | refine k_ifF (by first | (simp (disch := omega) only [w32_id]; first | done | omega) | omega) ?_ | refine k_pf (by first | assumption | omega) (by (try simp (disch := omega) only [sr_s, sr_a, sr_sr, u1_u1, n3, n4]); exact rfl) ?_ | refine k_ast (by first | assumption | omega) (by first | assumption | exact rfl) (by omega) (by omega) (by omega) (by (try simp (disch := omega) only [sr_s, sr_a, sr_sr, u1_u1, n3, n4]); exact rfl) ?_ | refine k_irm (by omega) (by omega) (by omega) (by omega) ?_ | refine k_idv (by omega) (by omega) (by omega) (by omega) ?_ | refine k_tk (by first | assumption | omega) ?_ | refine k_rp (by omega) ?_ | refine k_aldR (by first | assumption | omega) (by first | assumption | exact rfl) (by omega) (by omega) (by omega) (by first | assumption | ((try simp (disch := omega) only [sr_s, sr_a, sr_sr, u1_s, u1_k, n3, n4]); exact rfl)) (by omega) ?_ | refine k_astR (by first | assumption | omega) (by first | assumption | exact rfl) (by omega) (by omega) (by omega) (by first | assumption | omega) (by (try simp (disch := omega) only [sr_s, sr_a, sr_sr, u1_u1, n3, n4]); exact rfl) ?_ | refine k_pz (by first | assumption | omega) (by omega) (by (try simp (disch := omega) only [sr_s, sr_a, sr_sr, u1_u1, n3, n4]); exact rfl) ?_ | refine k_alen (by first | assumption | omega) (by first | assumption | exact rfl) ?_ | refine k_cpy (by first | assumption | omega) (by first | assumption | omega) (by first | assumption | exact rfl) (by first | assumption | exact rfl) (by omega) (by omega) (by omega) (by omega) (by omega) (by omega) (by omega) (by omega) (by (try simp (disch := omega) only [sr_s, sr_a, sr_sr, u1_u1, n3, n4]); exact rfl) ?_)
      exact Ok.ret (fun g g0 g1 => ha g g0 (by omega))
  refine Ok.bind hlo ?_
  intro z hz
  cases z with
  | inl u =>
    have hz : ∀ g, 0 ≤ g → g < M td 4 → w32 (vb (ocB M td t (allR M td))) ≠ w32 (ishl 1 g) := hz
    rw [exi_l]
    have hve : v = -2 := by
      refine suP_unq hv (Or.inr ⟨rfl, ?_⟩)
      rintro ⟨d, r0, q1, q2, q3, q4⟩
      have hdb := dgU_b hg (r0 : Int) t
      rw [← q3] at hdb
      exact hz d hdb.1 hdb.2 ((hsing d hdb.1 hdb.2).2 ⟨r0, q1, q2, q3, q4⟩)
    unfold M_X11_surely_p85
    rw [hve]
    exact e_good hG hN.1.q
  | inr q =>
    rw [exi_r]
    exact Ok.ret hz
theorem suP_cg (hf : ∀ a, 0 < a → a < 28 → M1 a = M a) (htd : td = 2 ∨ td = 13) {v : Int} (h : suP M td t v) : suP M1 td t v := by
  obtain ⟨d1, d2, d3⟩ := fd_cg hf htd
  unfold suP at *
  rw [d1, d2]
  simp only [d3]
  exact h
theorem q_surely (h : Inv M G) (ht : i32 t) : Both M G (fun h => M_X9_surely h 0 t) (fun h => M_X11_surely h 124 t) := by
  obtain ⟨htr, td, r, h0⟩ := h
  have hG := h0.1.1
  have hp0 := h0.1.2.1
  have ht' := ht
  unfold i32 at ht'
  have p2 := h0.1.2.2.2.1
  have htd : td = 2 ∨ td = 13 := h0.1.2.2.1
  have hh := h0.tw
  have p5 := pr0.p5 hp0
  have p10 := pr0.p10 hp0
  have k0 := gk_0 hG
  have k115 := gk_115 hG
  have k116 := gk_116 hG
  have l116 := gl_116 hG
  have k124 := gk_124 hG
  unfold M_X9_surely M_X11_surely
  by_cases c : 1 ≤ M 24 2
  · obtain ⟨rg, hR⟩ := h0.ring c
    have hrf := X9_fitRefusal_ok h0 hR
    by_cases c2 : uk (M (td + 4)) (M (td + 1) 2).toNat = 0 ∨ M td 4 = 0
    · rw [if_pos c2] at hrf
      refine Both.go h0 (-1) 6 (by omega) (by omega) (by omega) ?_ (fun M2 h2 f => ?_)
      · repeat' (with_reducible first | refine k_gf (by first | assumption | omega) (by first | assumption | ((try simp (disch := omega) only [sr_s, sr_a, sr_sr, u1_s, u1_k]); exact rfl)) ?_ | refine k_gr (by first | assumption | omega) (by first | assumption | ((try simp (disch := omega) only [sr_s, sr_a, sr_sr, u1_s, u1_k]); exact rfl)) (by omega) ?_ | refine k_ald (by first | assumption | omega) (by first | assumption | exact rfl) (by omega) (by omega) (by omega) (by first | assumption | ((try simp (disch := omega) only [sr_s, sr_a, sr_sr, u1_s, u1_k]); exact rfl)) ?_ | refine k_eq (hrf) ?_ | refine k_ifT (by first | (simp (disch := omega) only [w32_id]; first | done | omega) | omega) ?_ | refine k_ifF (by first | (simp (disch := omega) only [w32_id]; first | done | omega) | omega) ?_ | refine k_pf (by first | assumption | omega) (by (try simp (disch := omega) only [sr_s, sr_a, sr_sr, u1_u1]); exact rfl) ?_ | refine k_ast (by first | assumption | omega) (by first | assumption | exact rfl) (by omega) (by omega) (by omega) (by (try simp (disch := omega) only [sr_s, sr_a, sr_sr, u1_u1]); exact rfl) ?_ | refine k_irm (by omega) (by omega) (by omega) (by omega) ?_ | refine k_idv (by omega) (by omega) (by omega) (by omega) ?_ | refine k_tk (by first | assumption | omega) ?_ | refine k_rp (by omega) ?_ | refine k_aldR (by first | assumption | omega) (by first | assumption | exact rfl) (by omega) (by omega) (by omega) (by first | assumption | ((try simp (disch := omega) only [sr_s, sr_a, sr_sr, u1_s, u1_k]); exact rfl)) (by omega) ?_ | refine k_astR (by first | assumption | omega) (by first | assumption | exact rfl) (by omega) (by omega) (by omega) (by first | assumption | omega) (by (try simp (disch := omega) only [sr_s, sr_a, sr_sr, u1_u1]); exact rfl) ?_ | refine k_pz (by first | assumption | omega) (by omega) (by (try simp (disch := omega) only [sr_s, sr_a, sr_sr, u1_u1]); exact rfl) ?_ | refine k_alen (by first | assumption | omega) (by first | assumption | exact rfl) ?_ | refine k_cpy (by first | assumption | omega) (by first | assumption | omega) (by first | assumption | exact rfl) (by first | assumption | exact rfl) (by omega) (by omega) (by omega) (by omega) (by omega) (by omega) (by omega) (by omega) (by (try simp (disch := omega) only [sr_s, sr_a, sr_sr, u1_u1]); exact rfl) ?_)
        exact e_ref hG (cQ.refl h0.2.1)
      · obtain ⟨rg2, hR2⟩ := h2.ring (by rw [f 24 (by omega)]; exact c)
        have hr2 := X11_refusesFits_ok h2 hR2
        rw [f (td + 4) (by omega), f (td + 1) (by omega), f td (by omega), if_pos c2] at hr2
        repeat' (with_reducible first | refine k_gf (by first | assumption | omega) (by first | assumption | ((try simp (disch := omega) only [sr_s, sr_a, sr_sr, u1_s, u1_k]); exact rfl)) ?_ | refine k_gr (by first | assumption | omega) (by first | assumption | ((try simp (disch := omega) only [sr_s, sr_a, sr_sr, u1_s, u1_k]); exact rfl)) (by omega) ?_ | refine k_ald (by first | assumption | omega) (by first | assumption | exact rfl) (by omega) (by omega) (by omega) (by first | assumption | ((try simp (disch := omega) only [sr_s, sr_a, sr_sr, u1_s, u1_k]); exact rfl)) ?_ | refine k_eq (hr2) ?_ | refine k_ifT (by first | (simp (disch := omega) only [w32_id]; first | done | omega) | omega) ?_ | refine k_ifF (by first | (simp (disch := omega) only [w32_id]; first | done | omega) | omega) ?_ | refine k_pf (by first | assumption | omega) (by (try simp (disch := omega) only [sr_s, sr_a, sr_sr, u1_u1]); exact rfl) ?_ | refine k_ast (by first | assumption | omega) (by first | assumption | exact rfl) (by omega) (by omega) (by omega) (by (try simp (disch := omega) only [sr_s, sr_a, sr_sr, u1_u1]); exact rfl) ?_ | refine k_irm (by omega) (by omega) (by omega) (by omega) ?_ | refine k_idv (by omega) (by omega) (by omega) (by omega) ?_ | refine k_tk (by first | assumption | omega) ?_ | refine k_rp (by omega) ?_ | refine k_aldR (by first | assumption | omega) (by first | assumption | exact rfl) (by omega) (by omega) (by omega) (by first | assumption | ((try simp (disch := omega) only [sr_s, sr_a, sr_sr, u1_s, u1_k]); exact rfl)) (by omega) ?_ | refine k_astR (by first | assumption | omega) (by first | assumption | exact rfl) (by omega) (by omega) (by omega) (by first | assumption | omega) (by (try simp (disch := omega) only [sr_s, sr_a, sr_sr, u1_u1]); exact rfl) ?_ | refine k_pz (by first | assumption | omega) (by omega) (by (try simp (disch := omega) only [sr_s, sr_a, sr_sr, u1_u1]); exact rfl) ?_ | refine k_alen (by first | assumption | omega) (by first | assumption | exact rfl) ?_ | refine k_cpy (by first | assumption | omega) (by first | assumption | omega) (by first | assumption | exact rfl) (by first | assumption | exact rfl) (by omega) (by omega) (by omega) (by omega) (by omega) (by omega) (by omega) (by omega) (by (try simp (disch := omega) only [sr_s, sr_a, sr_sr, u1_u1]); exact rfl) ?_)
        exact e_rref hG (rQ.refl h2.2.2.1.2)
    · rw [if_neg c2] at hrf
      have hI := fiI_ok h0 hR
      have hg : 1 ≤ M td 4 := by have := hI.2.2.2.2.2.2.2.2.1; omega
      by_cases c3 : 0 ≤ t ∧ t < M 24 2
      · have hun := X5_unknownNumber_ok hI c3.1 (by omega)
        by_cases c4 : M (td + 4) (4 * t) = 10
        · rw [if_pos c4] at hun
          have huk := uk_in h0 hR c3.1 c3.2 c4
          have hu4 := hI.2.2.2.2.2.2.2.1
          obtain ⟨_, efd, M1, rfl, f1, h1, h115⟩ := X1_find_ok h0 hR hg
          have f24 : M1 24 = M 24 := f1 24 (by omega) (by omega) (by omega) (by omega)
          have ft : ∀ a, 0 < a → a < 28 → M1 a = M a := fun a a0 a1 => f1 a (by omega) (by omega) (by omega) (by omega)
          obtain ⟨rg1, hR1⟩ := h1.ring (by rw [f24]; exact c)
          obtain ⟨hcnt, hrows⟩ := fdP.c ⟨f1, h1, h115⟩ hR1
          have q0 : M1 0 = M 0 := f1 0 (by omega) (by omega) (by omega) (by omega)
          have q10 : M1 0 10 = 115 := by rw [q0]; exact p10
          have q2 : M1 0 2 = td := by rw [q0]; exact p2
          have hg1 : 1 ≤ M1 td 4 := by rw [ft td (by omega) (by omega)]; exact hg
          have c3' : 0 ≤ t ∧ t < M1 24 2 := by rw [f24]; exact c3
          have c4' : M1 (td + 4) (4 * t) = 10 := by rw [ft (td + 4) (by omega) (by omega)]; exact c4
          obtain ⟨v, esu, hv⟩ := X1_sure_ok h1 hR1 hg1 hcnt hrows c3'.1 c3'.2 c4'
          rw [ft (td + 4) (by omega) (by omega)] at esu
          refine Both.go2 h1 v 0 (by omega) (by omega) (by omega) ?_ (fun M2 h2 f => ?_)
          · refine k_tk k0 (k_eq hrf (k_ifT (by decide) (k_eq (X9_isTown_T h0 ht c3) (k_ifF (by decide) (k_gr k0 p2 (by omega) (k_eq hun ?_))))))
            unfold M_X9_surely_p35
            refine k_ifF (by rw [w32_id (by omega) (by omega)]; omega) ?_
            repeat' (with_reducible first | refine k_gf (by first | assumption | omega) (by first | assumption | ((try simp (disch := omega) only [sr_s, sr_a, sr_sr, u1_s, u1_k, p2, p5, p10]); exact rfl)) ?_ | refine k_gr (by first | assumption | omega) (by first | assumption | ((try simp (disch := omega) only [sr_s, sr_a, sr_sr, u1_s, u1_k, p2, p5, p10]); exact rfl)) (by omega) ?_ | refine k_ald (by first | assumption | omega) (by first | assumption | exact rfl) (by omega) (by omega) (by omega) (by first | assumption | ((try simp (disch := omega) only [sr_s, sr_a, sr_sr, u1_s, u1_k, p2, p5, p10]); exact rfl)) ?_ | refine k_eq (efd) ?_ | refine k_ifT (by first | (simp (disch := omega) only [w32_id]; first | done | omega) | omega) ?_ | refine k_ifF (by first | (simp (disch := omega) only [w32_id]; first | done | omega) | omega) ?_ | refine k_pf (by first | assumption | omega) (by (try simp (disch := omega) only [sr_s, sr_a, sr_sr, u1_u1, p2, p5, p10]); exact rfl) ?_ | refine k_ast (by first | assumption | omega) (by first | assumption | exact rfl) (by omega) (by omega) (by omega) (by (try simp (disch := omega) only [sr_s, sr_a, sr_sr, u1_u1, p2, p5, p10]); exact rfl) ?_ | refine k_irm (by omega) (by omega) (by omega) (by omega) ?_ | refine k_idv (by omega) (by omega) (by omega) (by omega) ?_ | refine k_tk (by first | assumption | omega) ?_ | refine k_rp (by omega) ?_ | refine k_aldR (by first | assumption | omega) (by first | assumption | exact rfl) (by omega) (by omega) (by omega) (by first | assumption | ((try simp (disch := omega) only [sr_s, sr_a, sr_sr, u1_s, u1_k, p2, p5, p10]); exact rfl)) (by omega) ?_ | refine k_astR (by first | assumption | omega) (by first | assumption | exact rfl) (by omega) (by omega) (by omega) (by first | assumption | omega) (by (try simp (disch := omega) only [sr_s, sr_a, sr_sr, u1_u1, p2, p5, p10]); exact rfl) ?_ | refine k_pz (by first | assumption | omega) (by omega) (by (try simp (disch := omega) only [sr_s, sr_a, sr_sr, u1_u1, p2, p5, p10]); exact rfl) ?_ | refine k_alen (by first | assumption | omega) (by first | assumption | exact rfl) ?_ | refine k_cpy (by first | assumption | omega) (by first | assumption | omega) (by first | assumption | exact rfl) (by first | assumption | exact rfl) (by omega) (by omega) (by omega) (by omega) (by omega) (by omega) (by omega) (by omega) (by (try simp (disch := omega) only [sr_s, sr_a, sr_sr, u1_u1, p2, p5, p10]); exact rfl) ?_)
            repeat' (with_reducible first | refine k_gf (by first | assumption | omega) (by first | assumption | ((try simp (disch := omega) only [sr_s, sr_a, sr_sr, u1_s, u1_k, q2, q10]); exact rfl)) ?_ | refine k_gr (by first | assumption | omega) (by first | assumption | ((try simp (disch := omega) only [sr_s, sr_a, sr_sr, u1_s, u1_k, q2, q10]); exact rfl)) (by omega) ?_ | refine k_ald (by first | assumption | omega) (by first | assumption | exact rfl) (by omega) (by omega) (by omega) (by first | assumption | ((try simp (disch := omega) only [sr_s, sr_a, sr_sr, u1_s, u1_k, q2, q10]); exact rfl)) ?_ | refine k_ifT (by first | (simp (disch := omega) only [w32_id]; first | done | omega) | omega) ?_ | refine k_ifF (by first | (simp (disch := omega) only [w32_id]; first | done | omega) | omega) ?_ | refine k_pf (by first | assumption | omega) (by (try simp (disch := omega) only [sr_s, sr_a, sr_sr, u1_u1, q2, q10]); exact rfl) ?_ | refine k_ast (by first | assumption | omega) (by first | assumption | exact rfl) (by omega) (by omega) (by omega) (by (try simp (disch := omega) only [sr_s, sr_a, sr_sr, u1_u1, q2, q10]); exact rfl) ?_ | refine k_irm (by omega) (by omega) (by omega) (by omega) ?_ | refine k_idv (by omega) (by omega) (by omega) (by omega) ?_ | refine k_tk (by first | assumption | omega) ?_ | refine k_rp (by omega) ?_ | refine k_aldR (by first | assumption | omega) (by first | assumption | exact rfl) (by omega) (by omega) (by omega) (by first | assumption | ((try simp (disch := omega) only [sr_s, sr_a, sr_sr, u1_s, u1_k, q2, q10]); exact rfl)) (by omega) ?_ | refine k_astR (by first | assumption | omega) (by first | assumption | exact rfl) (by omega) (by omega) (by omega) (by first | assumption | omega) (by (try simp (disch := omega) only [sr_s, sr_a, sr_sr, u1_u1, q2, q10]); exact rfl) ?_ | refine k_pz (by first | assumption | omega) (by omega) (by (try simp (disch := omega) only [sr_s, sr_a, sr_sr, u1_u1, q2, q10]); exact rfl) ?_ | refine k_alen (by first | assumption | omega) (by first | assumption | exact rfl) ?_ | refine k_cpy (by first | assumption | omega) (by first | assumption | omega) (by first | assumption | exact rfl) (by first | assumption | exact rfl) (by omega) (by omega) (by omega) (by omega) (by omega) (by omega) (by omega) (by omega) (by (try simp (disch := omega) only [sr_s, sr_a, sr_sr, u1_u1, q2, q10]); exact rfl) ?_)
            refine k_eq esu ?_
            exact e_ans hG (cQ.refl h1.2.1)
          · obtain ⟨rg2, hR2⟩ := h2.ring (by rw [f 24 (by omega), f24]; exact c)
            have hr2 := X11_refusesFits_ok h2 hR2
            rw [f (td + 4) (by omega), f (td + 1) (by omega), f td (by omega), ft (td + 4) (by omega) (by omega), ft (td + 1) (by omega) (by omega), ft td (by omega) (by omega), if_neg c2] at hr2
            have c32 : 0 ≤ t ∧ t < M2 24 2 := by rw [f 24 (by omega)]; exact c3'
            have hun2 := X11_isUnknown_ok (N := M2) h2 hR2 ⟨fun _ _ _ _ _ _ _ _ _ => rfl, fun _ _ => rfl, h2.2.2.1.2⟩ c32.1 c32.2
            rw [f (td + 4) (by omega), if_pos c4'] at hun2
            repeat' (with_reducible first | refine k_gf (by first | assumption | omega) (by first | assumption | ((try simp (disch := omega) only [sr_s, sr_a, sr_sr, u1_s, u1_k]); exact rfl)) ?_ | refine k_gr (by first | assumption | omega) (by first | assumption | ((try simp (disch := omega) only [sr_s, sr_a, sr_sr, u1_s, u1_k]); exact rfl)) (by omega) ?_ | refine k_ald (by first | assumption | omega) (by first | assumption | exact rfl) (by omega) (by omega) (by omega) (by first | assumption | ((try simp (disch := omega) only [sr_s, sr_a, sr_sr, u1_s, u1_k]); exact rfl)) ?_ | refine k_eq (hr2) ?_ | refine k_eq (X11_isTown_T h2 ht c32) ?_ | refine k_eq (hun2) ?_ | refine k_ifT (by first | (simp (disch := omega) only [w32_id]; first | done | omega) | omega) ?_ | refine k_ifF (by first | (simp (disch := omega) only [w32_id]; first | done | omega) | omega) ?_ | refine k_pf (by first | assumption | omega) (by (try simp (disch := omega) only [sr_s, sr_a, sr_sr, u1_u1]); exact rfl) ?_ | refine k_ast (by first | assumption | omega) (by first | assumption | exact rfl) (by omega) (by omega) (by omega) (by (try simp (disch := omega) only [sr_s, sr_a, sr_sr, u1_u1]); exact rfl) ?_ | refine k_irm (by omega) (by omega) (by omega) (by omega) ?_ | refine k_idv (by omega) (by omega) (by omega) (by omega) ?_ | refine k_tk (by first | assumption | omega) ?_ | refine k_rp (by omega) ?_ | refine k_aldR (by first | assumption | omega) (by first | assumption | exact rfl) (by omega) (by omega) (by omega) (by first | assumption | ((try simp (disch := omega) only [sr_s, sr_a, sr_sr, u1_s, u1_k]); exact rfl)) (by omega) ?_ | refine k_astR (by first | assumption | omega) (by first | assumption | exact rfl) (by omega) (by omega) (by omega) (by first | assumption | omega) (by (try simp (disch := omega) only [sr_s, sr_a, sr_sr, u1_u1]); exact rfl) ?_ | refine k_pz (by first | assumption | omega) (by omega) (by (try simp (disch := omega) only [sr_s, sr_a, sr_sr, u1_u1]); exact rfl) ?_ | refine k_alen (by first | assumption | omega) (by first | assumption | exact rfl) ?_ | refine k_cpy (by first | assumption | omega) (by first | assumption | omega) (by first | assumption | exact rfl) (by first | assumption | exact rfl) (by omega) (by omega) (by omega) (by omega) (by omega) (by omega) (by omega) (by omega) (by (try simp (disch := omega) only [sr_s, sr_a, sr_sr, u1_u1]); exact rfl) ?_)
            have hg2 : 1 ≤ M2 td 4 := by rw [f td (by omega)]; exact hg1
            refine Ok.bd (X11_fitting_ok (look := -1) h2 hR2 hg2 (by unfold i32; omega)) ?_
            rintro _ ⟨N, rfl, hN⟩
            exact X11_surely_go h2 hR2 hg2 c3.1 (by omega) hN (suP_cg (fun a a0 a1 => f a (by omega)) htd hv)
        · rw [if_neg c4] at hun
          refine Both.go h0 (-1) 1 (by omega) (by omega) (by omega) ?_ (fun M2 h2 f => ?_)
          · refine k_tk k0 (k_eq hrf (k_ifT (by decide) (k_eq (X9_isTown_T h0 ht c3) (k_ifF (by decide) (k_gr k0 p2 (by omega) (k_eq hun ?_))))))
            unfold M_X9_surely_p35
            refine k_ifT (by decide) ?_
            exact e_ref hG (cQ.refl h0.2.1)
          · obtain ⟨rg2, hR2⟩ := h2.ring (by rw [f 24 (by omega)]; exact c)
            have hr2 := X11_refusesFits_ok h2 hR2
            rw [f (td + 4) (by omega), f (td + 1) (by omega), f td (by omega), if_neg c2] at hr2
            have c32 : 0 ≤ t ∧ t < M2 24 2 := by rw [f 24 (by omega)]; exact c3
            have hun2 := X11_isUnknown_ok (N := M2) h2 hR2 ⟨fun _ _ _ _ _ _ _ _ _ => rfl, fun _ _ => rfl, h2.2.2.1.2⟩ c32.1 c32.2
            rw [f (td + 4) (by omega), if_neg c4] at hun2
            repeat' (with_reducible first | refine k_gf (by first | assumption | omega) (by first | assumption | ((try simp (disch := omega) only [sr_s, sr_a, sr_sr, u1_s, u1_k]); exact rfl)) ?_ | refine k_gr (by first | assumption | omega) (by first | assumption | ((try simp (disch := omega) only [sr_s, sr_a, sr_sr, u1_s, u1_k]); exact rfl)) (by omega) ?_ | refine k_ald (by first | assumption | omega) (by first | assumption | exact rfl) (by omega) (by omega) (by omega) (by first | assumption | ((try simp (disch := omega) only [sr_s, sr_a, sr_sr, u1_s, u1_k]); exact rfl)) ?_ | refine k_eq (hr2) ?_ | refine k_eq (X11_isTown_T h2 ht c32) ?_ | refine k_eq (hun2) ?_ | refine k_ifT (by first | (simp (disch := omega) only [w32_id]; first | done | omega) | omega) ?_ | refine k_ifF (by first | (simp (disch := omega) only [w32_id]; first | done | omega) | omega) ?_ | refine k_pf (by first | assumption | omega) (by (try simp (disch := omega) only [sr_s, sr_a, sr_sr, u1_u1]); exact rfl) ?_ | refine k_ast (by first | assumption | omega) (by first | assumption | exact rfl) (by omega) (by omega) (by omega) (by (try simp (disch := omega) only [sr_s, sr_a, sr_sr, u1_u1]); exact rfl) ?_ | refine k_irm (by omega) (by omega) (by omega) (by omega) ?_ | refine k_idv (by omega) (by omega) (by omega) (by omega) ?_ | refine k_tk (by first | assumption | omega) ?_ | refine k_rp (by omega) ?_ | refine k_aldR (by first | assumption | omega) (by first | assumption | exact rfl) (by omega) (by omega) (by omega) (by first | assumption | ((try simp (disch := omega) only [sr_s, sr_a, sr_sr, u1_s, u1_k]); exact rfl)) (by omega) ?_ | refine k_astR (by first | assumption | omega) (by first | assumption | exact rfl) (by omega) (by omega) (by omega) (by first | assumption | omega) (by (try simp (disch := omega) only [sr_s, sr_a, sr_sr, u1_u1]); exact rfl) ?_ | refine k_pz (by first | assumption | omega) (by omega) (by (try simp (disch := omega) only [sr_s, sr_a, sr_sr, u1_u1]); exact rfl) ?_ | refine k_alen (by first | assumption | omega) (by first | assumption | exact rfl) ?_ | refine k_cpy (by first | assumption | omega) (by first | assumption | omega) (by first | assumption | exact rfl) (by first | assumption | exact rfl) (by omega) (by omega) (by omega) (by omega) (by omega) (by omega) (by omega) (by omega) (by (try simp (disch := omega) only [sr_s, sr_a, sr_sr, u1_u1]); exact rfl) ?_)
            exact e_rref hG (rQ.refl h2.2.2.1.2)
      · refine Both.go h0 (-1) 1 (by omega) (by omega) (by omega) ?_ (fun M2 h2 f => ?_)
        · refine k_tk k0 (k_eq hrf (k_ifT (by decide) (k_eq (X9_isTown_F h0 ht c3) (k_ifT (by decide) ?_))))
          unfold M_X9_surely_p35
          refine k_ifT (by decide) ?_
          exact e_ref hG (cQ.refl h0.2.1)
        · obtain ⟨rg2, hR2⟩ := h2.ring (by rw [f 24 (by omega)]; exact c)
          have hr2 := X11_refusesFits_ok h2 hR2
          rw [f (td + 4) (by omega), f (td + 1) (by omega), f td (by omega), if_neg c2] at hr2
          have c32 : ¬ (0 ≤ t ∧ t < M2 24 2) := by rw [f 24 (by omega)]; exact c3
          repeat' (with_reducible first | refine k_gf (by first | assumption | omega) (by first | assumption | ((try simp (disch := omega) only [sr_s, sr_a, sr_sr, u1_s, u1_k]); exact rfl)) ?_ | refine k_gr (by first | assumption | omega) (by first | assumption | ((try simp (disch := omega) only [sr_s, sr_a, sr_sr, u1_s, u1_k]); exact rfl)) (by omega) ?_ | refine k_ald (by first | assumption | omega) (by first | assumption | exact rfl) (by omega) (by omega) (by omega) (by first | assumption | ((try simp (disch := omega) only [sr_s, sr_a, sr_sr, u1_s, u1_k]); exact rfl)) ?_ | refine k_eq (hr2) ?_ | refine k_eq (X11_isTown_F h2 ht c32) ?_ | refine k_ifT (by first | (simp (disch := omega) only [w32_id]; first | done | omega) | omega) ?_ | refine k_ifF (by first | (simp (disch := omega) only [w32_id]; first | done | omega) | omega) ?_ | refine k_pf (by first | assumption | omega) (by (try simp (disch := omega) only [sr_s, sr_a, sr_sr, u1_u1]); exact rfl) ?_ | refine k_ast (by first | assumption | omega) (by first | assumption | exact rfl) (by omega) (by omega) (by omega) (by (try simp (disch := omega) only [sr_s, sr_a, sr_sr, u1_u1]); exact rfl) ?_ | refine k_irm (by omega) (by omega) (by omega) (by omega) ?_ | refine k_idv (by omega) (by omega) (by omega) (by omega) ?_ | refine k_tk (by first | assumption | omega) ?_ | refine k_rp (by omega) ?_ | refine k_aldR (by first | assumption | omega) (by first | assumption | exact rfl) (by omega) (by omega) (by omega) (by first | assumption | ((try simp (disch := omega) only [sr_s, sr_a, sr_sr, u1_s, u1_k]); exact rfl)) (by omega) ?_ | refine k_astR (by first | assumption | omega) (by first | assumption | exact rfl) (by omega) (by omega) (by omega) (by first | assumption | omega) (by (try simp (disch := omega) only [sr_s, sr_a, sr_sr, u1_u1]); exact rfl) ?_ | refine k_pz (by first | assumption | omega) (by omega) (by (try simp (disch := omega) only [sr_s, sr_a, sr_sr, u1_u1]); exact rfl) ?_ | refine k_alen (by first | assumption | omega) (by first | assumption | exact rfl) ?_ | refine k_cpy (by first | assumption | omega) (by first | assumption | omega) (by first | assumption | exact rfl) (by first | assumption | exact rfl) (by omega) (by omega) (by omega) (by omega) (by omega) (by omega) (by omega) (by omega) (by (try simp (disch := omega) only [sr_s, sr_a, sr_sr, u1_u1]); exact rfl) ?_)
          exact e_rref hG (rQ.refl h2.2.2.1.2)
  · obtain ⟨e1, -⟩ := fit_no h0 c
    refine Both.go h0 (-1) 1 (by omega) (by omega) (by omega) ?_ (fun M2 h2 f => ?_)
    · repeat' (with_reducible first | refine k_gf (by first | assumption | omega) (by first | assumption | ((try simp (disch := omega) only [sr_s, sr_a, sr_sr, u1_s, u1_k]); exact rfl)) ?_ | refine k_gr (by first | assumption | omega) (by first | assumption | ((try simp (disch := omega) only [sr_s, sr_a, sr_sr, u1_s, u1_k]); exact rfl)) (by omega) ?_ | refine k_ald (by first | assumption | omega) (by first | assumption | exact rfl) (by omega) (by omega) (by omega) (by first | assumption | ((try simp (disch := omega) only [sr_s, sr_a, sr_sr, u1_s, u1_k]); exact rfl)) ?_ | refine k_eq (e1) ?_ | refine k_ifT (by first | (simp (disch := omega) only [w32_id]; first | done | omega) | omega) ?_ | refine k_ifF (by first | (simp (disch := omega) only [w32_id]; first | done | omega) | omega) ?_ | refine k_pf (by first | assumption | omega) (by (try simp (disch := omega) only [sr_s, sr_a, sr_sr, u1_u1]); exact rfl) ?_ | refine k_ast (by first | assumption | omega) (by first | assumption | exact rfl) (by omega) (by omega) (by omega) (by (try simp (disch := omega) only [sr_s, sr_a, sr_sr, u1_u1]); exact rfl) ?_ | refine k_irm (by omega) (by omega) (by omega) (by omega) ?_ | refine k_idv (by omega) (by omega) (by omega) (by omega) ?_ | refine k_tk (by first | assumption | omega) ?_ | refine k_rp (by omega) ?_ | refine k_aldR (by first | assumption | omega) (by first | assumption | exact rfl) (by omega) (by omega) (by omega) (by first | assumption | ((try simp (disch := omega) only [sr_s, sr_a, sr_sr, u1_s, u1_k]); exact rfl)) (by omega) ?_ | refine k_astR (by first | assumption | omega) (by first | assumption | exact rfl) (by omega) (by omega) (by omega) (by first | assumption | omega) (by (try simp (disch := omega) only [sr_s, sr_a, sr_sr, u1_u1]); exact rfl) ?_ | refine k_pz (by first | assumption | omega) (by omega) (by (try simp (disch := omega) only [sr_s, sr_a, sr_sr, u1_u1]); exact rfl) ?_ | refine k_alen (by first | assumption | omega) (by first | assumption | exact rfl) ?_ | refine k_cpy (by first | assumption | omega) (by first | assumption | omega) (by first | assumption | exact rfl) (by first | assumption | exact rfl) (by omega) (by omega) (by omega) (by omega) (by omega) (by omega) (by omega) (by omega) (by (try simp (disch := omega) only [sr_s, sr_a, sr_sr, u1_u1]); exact rfl) ?_)
      exact e_ref hG (cQ.refl h0.2.1)
    · obtain ⟨-, e2⟩ := fit_no h2 (by rw [f 24 (by omega)]; exact c)
      repeat' (with_reducible first | refine k_gf (by first | assumption | omega) (by first | assumption | ((try simp (disch := omega) only [sr_s, sr_a, sr_sr, u1_s, u1_k]); exact rfl)) ?_ | refine k_gr (by first | assumption | omega) (by first | assumption | ((try simp (disch := omega) only [sr_s, sr_a, sr_sr, u1_s, u1_k]); exact rfl)) (by omega) ?_ | refine k_ald (by first | assumption | omega) (by first | assumption | exact rfl) (by omega) (by omega) (by omega) (by first | assumption | ((try simp (disch := omega) only [sr_s, sr_a, sr_sr, u1_s, u1_k]); exact rfl)) ?_ | refine k_eq (e2) ?_ | refine k_ifT (by first | (simp (disch := omega) only [w32_id]; first | done | omega) | omega) ?_ | refine k_ifF (by first | (simp (disch := omega) only [w32_id]; first | done | omega) | omega) ?_ | refine k_pf (by first | assumption | omega) (by (try simp (disch := omega) only [sr_s, sr_a, sr_sr, u1_u1]); exact rfl) ?_ | refine k_ast (by first | assumption | omega) (by first | assumption | exact rfl) (by omega) (by omega) (by omega) (by (try simp (disch := omega) only [sr_s, sr_a, sr_sr, u1_u1]); exact rfl) ?_ | refine k_irm (by omega) (by omega) (by omega) (by omega) ?_ | refine k_idv (by omega) (by omega) (by omega) (by omega) ?_ | refine k_tk (by first | assumption | omega) ?_ | refine k_rp (by omega) ?_ | refine k_aldR (by first | assumption | omega) (by first | assumption | exact rfl) (by omega) (by omega) (by omega) (by first | assumption | ((try simp (disch := omega) only [sr_s, sr_a, sr_sr, u1_s, u1_k]); exact rfl)) (by omega) ?_ | refine k_astR (by first | assumption | omega) (by first | assumption | exact rfl) (by omega) (by omega) (by omega) (by first | assumption | omega) (by (try simp (disch := omega) only [sr_s, sr_a, sr_sr, u1_u1]); exact rfl) ?_ | refine k_pz (by first | assumption | omega) (by omega) (by (try simp (disch := omega) only [sr_s, sr_a, sr_sr, u1_u1]); exact rfl) ?_ | refine k_alen (by first | assumption | omega) (by first | assumption | exact rfl) ?_ | refine k_cpy (by first | assumption | omega) (by first | assumption | omega) (by first | assumption | exact rfl) (by first | assumption | exact rfl) (by omega) (by omega) (by omega) (by omega) (by omega) (by omega) (by omega) (by omega) (by (try simp (disch := omega) only [sr_s, sr_a, sr_sr, u1_u1]); exact rfl) ?_)
      exact e_rref hG (rQ.refl h2.2.2.1.2)
end F9
